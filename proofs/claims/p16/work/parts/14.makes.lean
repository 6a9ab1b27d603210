section ZH4
variable {p : Program} {l : Launch} {e : Env} {R : Room} {s : State} {m : MethodId} {args : Array Value} {below : List Frame} {meth : Method} {c : Code} {H : Heap} {locs : List Loc} {cells slots : Nat} {Q : State → Prop}
variable {cc : ByteArray} {g : zg} {D : va_G} {A : Nat → Prop} {own nm : String} {scr : Option (List zv)} {ws : va_W} {hp : zh} {nL : Nat}
/-- behind a making -/
theorem zK_push {pc' n : Nat} {ls' : List (Option zv)} {st' : List zv} {la' : Array Slot} {vs' : List Value} {H1 : Heap} {a : Nat} {e1 : va_E} {c1 : zc} (k : zK p l e R s m args below meth c cells slots Q g D A nL ws hp (hap hp (some (.inr [c1]))) pc' ls' (.inl (some hp.length) :: st')) (hW : zW (zX g) D A s H ws hp) (hn : hp.length < 900000) (hz : zsz c1 = n) (he : zcell (zX g) s (ws ++ [(a, e1)]) c1 e1) (hP : va_P D vwCl (ws ++ [(a, e1)]) H1) (hD : va_D A (ws ++ [(a, e1)])) (hS1 : va_S A s.heap H1 locs) (hL : zL (zX g) ws nL ls' la') (hS : zS (zX g) ws st' vs') : W p l e R s m args below meth c H1 locs (cells + 1) (slots + n) Q (F0 m pc' la' (.ref a :: vs')) := by
  have hm : zM ws (ws ++ [(a, e1)]) := zM_app ws _
  refine k H1 locs (cells + 1) (slots + n) (ws ++ [(a, e1)]) la' (.ref a :: vs') hm ?_ hS1 (zL_mono hm hL) ⟨?_, zS_mono hm hS⟩ ?_ ?_
  · refine zW_push (H := H) hW rfl (by simp; omega) (fun k9 c9 hk9 => ?_) hP hD
    have h0 : k9 < 1 := (List.getElem?_eq_some_iff.mp hk9).1
    have : k9 = 0 := by omega
    subst this
    cases hk9
    exact ⟨_, rfl, he⟩
  · refine Or.inl ⟨by omega, (a, e1), ?_, rfl⟩
    rw [List.getElem?_append_right (by rw [hW.2.2.1]; exact Nat.le_refl _), hW.2.2.1, Nat.sub_self]
    rfl
  · show cells + 1 + hp.length = cells + (hp ++ [c1]).length
    rw [List.length_append]
    simp
    omega
  · show slots + n + zsl hp = slots + zsl (hp ++ [c1])
    rw [zsl_app]
    have : zsl [c1] = n := by simp [zsl, hz]
    omega
theorem zH_new {idx : Nat} {r : zr} {pc pc' : Nat} {ls ls' : List (Option zv)} {st st' : List zv} {z : zp} {la : Array Slot} {vs : List Value} (hF : zFr p s m args meth c cc own nm g scr D A) (hd : decode cc pc = .ok (.new idx, 3)) (hw : zwd own nm (.new idx) r = true) (h99 : Nat.beq r.1 99 = false) (h : stH scr (.new idx) r pc ls st hp = some (pc', ls', st', z)) (hW : zW (zX g) D A s H ws hp) (hS0 : va_S A s.heap H locs) (hL : zL (zX g) ws nL ls la) (hS : zS (zX g) ws st vs) (hrc : cells + (hap hp z).length ≤ R.cells + hp.length) (hrs : slots + zsl (hap hp z) ≤ R.slots + zsl hp) (k : zK p l e R s m args below meth c cells slots Q g D A nL ws hp (hap hp z) pc' ls' st') : W p l e R s m args below meth c H locs cells slots Q (F0 m pc la vs) := by
  obtain ⟨hx, hb, hown, hts, hnm, hE, hA⟩ := id hF
  have hw : (bif Nat.beq r.1 99 then true else (match vwCl[r.1]? with
    | some (C, _, N) => zat r.2.1 (.classLink own idx C) && (zat r.2.2.1 (.instantiable C N) && zat r.2.2.2 (.initialized C))
    | none => false)) = true := hw
  rw [h99] at hw
  simp only [cond_false] at hw
  have h : (match nth zkinds r.1 with
    | some ks => frc hp.length (fun n => bif Nat.blt n 900000 then some (pc + 3, ls, .inl (some n) :: st, (some (.inr [.inr (r.1, ks.map zdef)]) : zp)) else none)
    | none => none) = some (pc', ls', st', z) := h
  rw [nth_eq] at h
  cases hks : zkinds[r.1]? with
  | none => rw [hks] at h; cases h
  | some ks =>
    rw [hks] at h
    simp only [frc_eq] at h
    cases hn : Nat.blt hp.length 900000 with
    | false => rw [hn] at h; cases h
    | true =>
      rw [hn] at h
      cases h
      have hn : hp.length < 900000 := by simpa [Nat.blt_eq] using hn
      cases hcl : vwCl[r.1]? with
      | none => rw [hcl] at hw; cases hw
      | some q3 =>
        obtain ⟨C, T, N⟩ := q3
        rw [hcl] at hw
        simp only [Bool.and_eq_true] at hw
        obtain ⟨hin, hN, ty, hty, hnmn, hkt⟩ := zcls hcl
        have hks2 : zkinds.getD r.1 [] = ks := by rw [List.getD_eq_getElem?_getD, hks]; rfl
        rw [hks2] at hN hkt
        have hz : zsl (hap hp (some (.inr [.inr (r.1, ks.map zdef)]))) = zsl hp + N := by
          show zsl (hp ++ _) = _
          rw [zsl_app]
          simp [zsl, zsz, hN]
        have hlen : (hap hp (some (.inr [.inr (r.1, ks.map zdef)]))).length = hp.length + 1 := by
          show (hp ++ _).length = _
          simp
        rw [hz] at hrs
        rw [hlen] at hrc
        refine va_new (fs := ks.map zdv) hx hb hts hin ty hty hown (hts _ (zat_ok hw.1)) (hts _ (zat_ok hw.2.1)) (hts _ (zat_ok hw.2.2)) hE.1 hW.1 hW.2.1 hS0 hA hcl ?_ (by omega) (by omega) hd (fun a H1 hP hD hS9 => zK_push k hW hn (by simp [zsz, hN]) ⟨_, rfl, zdefs_ok ks⟩ hP hD hS9 hL hS)
        intro j hj
        have h1 := zdv_ok (hkt j hj)
        rw [h1]
        unfold vp_V
        have hj2 : j < ks.length := by omega
        simp [List.getD_eq_getElem?_getD, List.getElem?_map, hj2]
theorem zH_newa {t : ArrayType} {r : zr} {pc pc' : Nat} {ls ls' : List (Option zv)} {st st' : List zv} {z : zp} {la : Array Slot} {vs : List Value} (hF : zFr p s m args meth c cc own nm g scr D A) (hd : decode cc pc = .ok (.newarray t, 2)) (hw : zwd own nm (.newarray t) r = true) (h : stH scr (.newarray t) r pc ls st hp = some (pc', ls', st', z)) (hW : zW (zX g) D A s H ws hp) (hS0 : va_S A s.heap H locs) (hL : zL (zX g) ws nL ls la) (hS : zS (zX g) ws st vs) (hrc : cells + (hap hp z).length ≤ R.cells + hp.length) (hrs : slots + zsl (hap hp z) ≤ R.slots + zsl hp) (k : zK p l e R s m args below meth c cells slots Q g D A nL ws hp (hap hp z) pc' ls' st') : W p l e R s m args below meth c H locs cells slots Q (F0 m pc la vs) := by
  obtain ⟨hx, hb, hown, hts, hnm, hE, hA⟩ := id hF
  rcases st with _ | ⟨nv, st1⟩
  · cases h
  · have h : (match zsize nv with
      | some N => frc hp.length (fun n => bif Nat.blt n 900000 then some (pc + 2, ls, .inl (some n) :: st1, (some (.inr [.inl (r.1, List.replicate N (zdef (bif Nat.beq r.1 2 then 3 else 0)))]) : zp)) else none)
      | none => none) = some (pc', ls', st', z) := h
    obtain ⟨u, t1, rfl, hu, hS1⟩ := zS_cons hS
    cases hN : zsize nv with
    | none => rw [hN] at h; cases h
    | some N =>
      rw [hN] at h
      simp only [frc_eq] at h
      cases hn : Nat.blt hp.length 900000 with
      | false => rw [hn] at h; cases h
      | true =>
        rw [hn] at h
        cases h
        have hn : hp.length < 900000 := by simpa [Nat.blt_eq] using hn
        obtain ⟨x, rfl, rfl, hx0, hN2⟩ := zsize_inv hN hu
        have hz : ∀ t9 : Nat, zsl (hap hp (some (.inr [.inl (r.1, List.replicate x.toNatClampNeg (zdef t9))]))) = zsl hp + x.toNatClampNeg := by
          intro t9
          show zsl (hp ++ _) = _
          rw [zsl_app]
          simp [zsl, zsz]
        have hlen : ∀ t9 : Nat, (hap hp (some (.inr [.inl (r.1, List.replicate x.toNatClampNeg (zdef t9))]))).length = hp.length + 1 := by
          intro t9
          show (hp ++ _).length = _
          simp
        rw [hz] at hrs
        rw [hlen] at hrc
        have hw : ((match (generalizing := false) t with
          | .int => Nat.beq r.1 0
          | .boolean => Nat.beq r.1 1
          | .long => Nat.beq r.1 2
          | _ => false) && zat r.2.1 (.arrayClass (newarray.typeOf t))) = true := hw
        simp only [Bool.and_eq_true] at hw
        obtain ⟨hw1, hw2⟩ := hw
        have hAC := hts _ (zat_ok hw2)
        cases t
        case int =>
          have hr : r.1 = 0 := Nat.eq_of_beq_eq_true hw1
          rw [hr] at k
          exact va_newa (atype := .int) (ty := .int) (a0 := (x.toNatClampNeg, .inl (fun _ => 0))) hx hb hAC rfl hE.1 hW.1 hW.2.1 hS0 hA (fun cA => rfl) hx0 rfl (by show _ * 4 ≤ _; omega) (by omega) (by omega) hd (fun a cA H1 hK9 hP hD hS9 => zK_push k hW hn (by simp [zsz]) ⟨cA, _, rfl, by simp, hK9.2 0 _ rfl, ⟨_, rfl⟩, fun i b hi => by
            have := List.eq_of_mem_replicate (List.mem_of_getElem? hi)
            subst this
            rfl⟩ hP hD hS9 hL hS1)
        case boolean =>
          have hr : r.1 = 1 := Nat.eq_of_beq_eq_true hw1
          rw [hr] at k
          exact va_newa (atype := .boolean) (ty := .boolean) (a0 := (x.toNatClampNeg, .inl (fun _ => 0))) hx hb hAC rfl hE.1 hW.1 hW.2.1 hS0 hA (fun cA => rfl) hx0 rfl (by show _ * 1 ≤ _; omega) (by omega) (by omega) hd (fun a cA H1 hK9 hP hD hS9 => zK_push k hW hn (by simp [zsz]) ⟨cA, _, rfl, by simp, hK9.2 0 _ rfl, ⟨_, rfl⟩, fun i b hi => by
            have := List.eq_of_mem_replicate (List.mem_of_getElem? hi)
            subst this
            rfl⟩ hP hD hS9 hL hS1)
        case long =>
          have hr : r.1 = 2 := Nat.eq_of_beq_eq_true hw1
          rw [hr] at k
          exact va_newa (atype := .long) (ty := .long) (a0 := (x.toNatClampNeg, .inr (.inl (fun _ => 0)))) hx hb hAC rfl hE.1 hW.1 hW.2.1 hS0 hA (fun cA => rfl) hx0 rfl (by show _ * 8 ≤ _; omega) (by omega) (by omega) hd (fun a cA H1 hK9 hP hD hS9 => zK_push k hW hn (by simp [zsz]) ⟨cA, _, rfl, by simp, hK9.2 0 _ rfl, ⟨_, rfl⟩, fun i b hi => by
            have := List.eq_of_mem_replicate (List.mem_of_getElem? hi)
            subst this
            rfl⟩ hP hD hS9 hL hS1)
        all_goals cases hw1
theorem zH_anew {idx : Nat} {r : zr} {pc pc' : Nat} {ls ls' : List (Option zv)} {st st' : List zv} {z : zp} {la : Array Slot} {vs : List Value} (hF : zFr p s m args meth c cc own nm g scr D A) (hd : decode cc pc = .ok (.anewarray idx, 3)) (hw : zwd own nm (.anewarray idx) r = true) (h : stH scr (.anewarray idx) r pc ls st hp = some (pc', ls', st', z)) (hW : zW (zX g) D A s H ws hp) (hS0 : va_S A s.heap H locs) (hL : zL (zX g) ws nL ls la) (hS : zS (zX g) ws st vs) (hrc : cells + (hap hp z).length ≤ R.cells + hp.length) (hrs : slots + zsl (hap hp z) ≤ R.slots + zsl hp) (k : zK p l e R s m args below meth c cells slots Q g D A nL ws hp (hap hp z) pc' ls' st') : W p l e R s m args below meth c H locs cells slots Q (F0 m pc la vs) := by
  obtain ⟨hx, hb, hown, hts, hnm, hE, hA⟩ := id hF
  rcases st with _ | ⟨nv, st1⟩
  · cases h
  · have h : (match zsize nv with
      | some N => frc hp.length (fun n => bif Nat.blt n 900000 then some (pc + 3, ls, .inl (some n) :: st1, (some (.inr [.inl (r.1, List.replicate N (.inl none))]) : zp)) else none)
      | none => none) = some (pc', ls', st', z) := h
    obtain ⟨u, t1, rfl, hu, hS1⟩ := zS_cons hS
    cases hN : zsize nv with
    | none => rw [hN] at h; cases h
    | some N =>
      rw [hN] at h
      simp only [frc_eq] at h
      cases hn : Nat.blt hp.length 900000 with
      | false => rw [hn] at h; cases h
      | true =>
        rw [hn] at h
        cases h
        have hn : hp.length < 900000 := by simpa [Nat.blt_eq] using hn
        obtain ⟨x, rfl, rfl, hx0, hN2⟩ := zsize_inv hN hu
        have hz : zsl (hap hp (some (.inr [.inl (r.1, List.replicate x.toNatClampNeg (.inl none))]))) = zsl hp + x.toNatClampNeg := by
          show zsl (hp ++ _) = _
          rw [zsl_app]
          simp [zsl, zsz]
        have hlen : (hap hp (some (.inr [.inl (r.1, List.replicate x.toNatClampNeg (.inl none))]))).length = hp.length + 1 := by
          show (hp ++ _).length = _
          simp
        rw [hz] at hrs
        rw [hlen] at hrc
        have hw : ((Nat.beq r.1 3 && zat r.2.1 (.classLink own idx "HeapJudge$Sides")) || (Nat.beq r.1 4 && zat r.2.1 (.classLink own idx "HeapJudge$Sequent"))) = true := hw
        simp only [Bool.or_eq_true, Bool.and_eq_true] at hw
        rcases hw with ⟨h1, h2⟩ | ⟨h1, h2⟩
        · have hr : r.1 = 3 := Nat.eq_of_beq_eq_true h1
          rw [hr] at k
          exact va_newq hx hb hown (hts _ (zat_ok h2)) hE.2.2.1.1 hE.1 hW.1 hW.2.1 hS0 hA hx0 rfl (by omega) (by omega) (by omega) hd (fun a cA H1 hK9 hP hD hS9 => zK_push k hW hn (by simp [zsz]) ⟨cA, _, rfl, by simp, hK9.2 0 _ rfl, ⟨_, rfl⟩, fun i b hi => by
            have := List.eq_of_mem_replicate (List.mem_of_getElem? hi)
            subst this
            rfl⟩ hP hD hS9 hL hS1)
        · have hr : r.1 = 4 := Nat.eq_of_beq_eq_true h1
          rw [hr] at k
          exact va_newq hx hb hown (hts _ (zat_ok h2)) hE.2.2.1.2.1 hE.1 hW.1 hW.2.1 hS0 hA hx0 rfl (by omega) (by omega) (by omega) hd (fun a cA H1 hK9 hP hD hS9 => zK_push k hW hn (by simp [zsz]) ⟨cA, _, rfl, by simp, hK9.2 0 _ rfl, ⟨_, rfl⟩, fun i b hi => by
            have := List.eq_of_mem_replicate (List.mem_of_getElem? hi)
            subst this
            rfl⟩ hP hD hS9 hL hS1)
end ZH4
