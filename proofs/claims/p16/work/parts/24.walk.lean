section ZWalk2
variable {p : Program} {l : Launch} {e : Env} {R : Room} {s : State} {m : MethodId} {args : Array Value} {below : List Frame} {meth : Method} {c : Code} {Q : State → Prop} {g : zg} {D : va_G} {A : Nat → Prop} {scr : Option (List zv)}
theorem zlen3 {i : Instr} {len : Nat} (hi : (∃ k, i = .invokestatic k) ∨ (∃ k, i = .invokevirtual k) ∨ (∃ k, i = .invokespecial k)) (h : zlen i len = true) : len = 3 := by
  rcases hi with ⟨k, rfl⟩ | ⟨k, rfl⟩ | ⟨k, rfl⟩ <;> exact Nat.eq_of_beq_eq_true h
/-- every walk that the reader walks is the machine's -/
theorem zwalk {M : zmrow} {mi d : Nat} {call : zC} (hF : zFr p s m args meth c M.2.1 M.1.cls M.1.name g scr D A) (hB : zB s) (hM : zmd mi = some M) (hml : c.maxLocals = M.2.2.1) (htab : c.exceptionTable.toList = tableOf M.2.2.2.2.1) (hhk : ∀ (n1 n2 n3 : Nat) (hs : List (Nat × Nat × Nat × Nat)), zmeth mi = some (n1, n2, n3, hs) → zhok M.1.cls M.2.2.2.2.1 hs = true) (hcon : zCon l d call) (hcm : zCm call) (hfr : d + 8 ≤ R.frames) (hlo : 64 * (d + 5) ≤ R.locals) : ∀ n : Nat, zIH p l e R s m args below meth c Q g D A M.2.1 mi M.2.2.1 (zloop scr call n)
  | 0 => fun pc ls st h t o h' t' e1 => (by cases e1)
  | n + 1 => by
    have IH : zIH p l e R s m args below meth c Q g D A M.2.1 mi M.2.2.1 (zloop scr call n) := zwalk hF hB hM hml htab hhk hcon hcm hfr hlo n
    have hFm : zFm (zloop scr call n) := zloop_mono hcm n
    intro pc ls st h t o h' t' e1 H locs cells slots ws la vs hW hS0 hL hS hrc hrs k
    have e1 : zgo scr call (zloop scr call n) mi pc ls st h t = some (o, h', t') := e1
    obtain ⟨i, len, r, hf, hx⟩ := zgo_inv e1
    obtain ⟨M', hM', hck⟩ := zfetch_ok hf
    have hMM : M' = M := Option.some.inj (hM'.symm.trans hM)
    subst hMM
    unfold zckO at hck
    simp only [Bool.and_eq_true, decide_eq_true_eq] at hck
    obtain ⟨k1, k2, k3, k4, k5⟩ := hck
    rcases hx with ⟨rfl, e2⟩ | ⟨rfl, e2⟩ | ⟨rfl, e2⟩ | ⟨rfl, e2⟩ | ⟨hi, e2⟩ | ⟨⟨kk, rfl⟩, h9, e2⟩ | ⟨h9, e2⟩
    · have hl : len = 1 := Nat.eq_of_beq_eq_true k2
      subst hl
      obtain ⟨n1, n2, hs, hm, rfl, hx⟩ := zvoid_inv e2
      cases hx
      have := zS_nil hS
      subst this
      exact k.1 H locs cells slots ws la pc [] (zM_refl ws) hW hS0 rfl rfl (Or.inl ⟨rfl, rfl, k1, n1, n2, hs, hm⟩)
    · have hl : len = 1 := Nat.eq_of_beq_eq_true k2
      subst hl
      obtain ⟨n1, kk, n2, hs, v, hm, rfl, hr, hz, hx⟩ := zfin_inv e2
      cases hx
      obtain ⟨x, t0, rfl, hv, hS1⟩ := zS_cons hS
      have := zS_nil hS1
      subst this
      exact k.1 H locs cells slots ws la pc [x] (zM_refl ws) hW hS0 rfl rfl (Or.inr ⟨v, x, n1, kk, n2, hs, rfl, rfl, hv, hm, hr, Or.inl ⟨k1, hz⟩⟩)
    · have hl : len = 1 := Nat.eq_of_beq_eq_true k2
      subst hl
      obtain ⟨n1, kk, n2, hs, v, hm, rfl, hr, hz, hx⟩ := zfin_inv e2
      cases hx
      obtain ⟨x, t0, rfl, hv, hS1⟩ := zS_cons hS
      have := zS_nil hS1
      subst this
      exact k.1 H locs cells slots ws la pc [x] (zM_refl ws) hW hS0 rfl rfl (Or.inr ⟨v, x, n1, kk, n2, hs, rfl, rfl, hv, hm, hr, Or.inr (Or.inl ⟨k1, hz⟩)⟩)
    · have hl : len = 1 := Nat.eq_of_beq_eq_true k2
      subst hl
      obtain ⟨n1, kk, n2, hs, v, hm, rfl, hr, hz, hx⟩ := zfin_inv e2
      cases hx
      obtain ⟨x, t0, rfl, hv, hS1⟩ := zS_cons hS
      have := zS_nil hS1
      subst this
      exact k.1 H locs cells slots ws la pc [x] (zM_refl ws) hW hS0 rfl rfl (Or.inr ⟨v, x, n1, kk, n2, hs, rfl, rfl, hv, hm, hr, Or.inr (Or.inr ⟨k1, hz⟩)⟩)
    · have hl := zlen3 hi k2
      subst hl
      rcases zcall_inv e2 with ⟨h5, e3⟩ | ⟨h5, h7, e3⟩ | ⟨h5, h7, e3⟩
      · have r5 := Nat.eq_of_beq_eq_true h5
        rcases hi with ⟨idx, rfl⟩ | ⟨idx, rfl⟩ | ⟨idx, rfl⟩
        · have k4 : (bif Nat.beq r.1 7 then zat r.2.2.2 (.methodLink M'.1.cls idx arraycopyName) else !Nat.beq r.1 5 && (match zmd r.2.1 with
            | some M9 => zcwS M'.1.cls idx r M9
            | none => false)) = true := k4
          rw [r5] at k4
          cases k4
        · have k4 : (Nat.beq r.1 0 && (match zmd r.2.1 with
            | some M9 => zcwV M'.1.cls idx r M9
            | none => false)) = true := k4
          rw [r5] at k4
          cases k4
        · have k4 : (bif Nat.beq r.1 5 then zat r.2.2.2 (.methodLink M'.1.cls idx objectInit) else !Nat.beq r.1 7 && (match zmd r.2.1 with
            | some M9 => zcwI M'.1.cls idx r M9
            | none => false)) = true := k4
          rw [h5] at k4
          exact zobj_ok IH hF hml (by omega) (by omega) k1 k4 e3 hW hS0 hL hS hrc hrs k
      · have r7 := Nat.eq_of_beq_eq_true h7
        rcases hi with ⟨idx, rfl⟩ | ⟨idx, rfl⟩ | ⟨idx, rfl⟩
        · have k4 : (bif Nat.beq r.1 7 then zat r.2.2.2 (.methodLink M'.1.cls idx arraycopyName) else !Nat.beq r.1 5 && (match zmd r.2.1 with
            | some M9 => zcwS M'.1.cls idx r M9
            | none => false)) = true := k4
          rw [h7] at k4
          exact zcpy_ok IH hF hml (by omega) (by omega) k1 k4 e3 hW hS0 hL hS hrc hrs k
        · have k4 : (Nat.beq r.1 0 && (match zmd r.2.1 with
            | some M9 => zcwV M'.1.cls idx r M9
            | none => false)) = true := k4
          rw [r7] at k4
          cases k4
        · have k4 : (bif Nat.beq r.1 5 then zat r.2.2.2 (.methodLink M'.1.cls idx objectInit) else !Nat.beq r.1 7 && (match zmd r.2.1 with
            | some M9 => zcwI M'.1.cls idx r M9
            | none => false)) = true := k4
          rw [r7] at k4
          cases k4
      · exact zcallM_ok IH hFm hF hB hml htab hhk hcon hcm hfr hlo hi k1 k4 h5 h7 e3 hW hS0 hL hS hrc hrs k
    · obtain ⟨rfl, hx⟩ := zthr_inv e2
      cases hx
      have := zS_nil hS
      subst this
      have k5 : (bif Nat.beq r.1 99 then (Nat.beq mi 152 && (Nat.beq pc 14 && (Nat.beq kk 226 && Nat.beq r.2.1 0))) || (Nat.beq mi 153 && (Nat.beq pc 14 && (Nat.beq kk 233 && Nat.beq r.2.1 1))) else true) = true := k5
      rw [h9] at k5
      simp only [cond_true, Bool.or_eq_true, Bool.and_eq_true] at k5
      refine k.2.1 _ H locs cells slots ws la pc rfl hL.2.1 ?_ (zM_refl ws) hW hS0 (by omega) (by omega)
      rcases k5 with ⟨q1, q2, -, q4⟩ | ⟨q1, q2, -, q4⟩
      · exact Or.inl ⟨Nat.eq_of_beq_eq_true q1, Nat.eq_of_beq_eq_true q2, Nat.eq_of_beq_eq_true q4⟩
      · exact Or.inr ⟨Nat.eq_of_beq_eq_true q1, Nat.eq_of_beq_eq_true q2, Nat.eq_of_beq_eq_true q4⟩
    · obtain ⟨pc', ls', st', z, e3, e4⟩ := zstep_inv e2
      have mo := hFm _ _ _ _ _ _ _ _ _ e4
      obtain ⟨m1, m2⟩ := mo
      refine stH_ok hF k1 k2 k3 h9 e3 hW hS0 hL hS (by omega) (by omega) (fun H' locs' cells' slots' ws' la' vs' hm hW' hS' hL' hSt' hc hsl => ?_)
      exact IH _ _ _ _ _ _ _ _ e4 H' locs' cells' slots' ws' la' vs' hW' hS' hL' hSt' (by omega) (by omega) (zEnd_step k hm (by omega) (by omega))
end ZWalk2
