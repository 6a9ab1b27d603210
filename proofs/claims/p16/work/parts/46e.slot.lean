/-! slot's contract: up to the making it is read off -/
noncomputable def slotP (p a : Nat) (x : ao × aS) : Bool := match x.1 with
  | .inr (pc, [some (.inr (.inl p')), some (.inl _), some (.inl w)], []) => Nat.beq p p' && (ain2 x.2 w (0, 299) && (awsb x.2.2.2.2.2.1 [] && (Nat.beq x.2.2.2.2.2.2 0 && (match afnd x.2.2.2.1 a w.1 w.2 with
    | some (.inr (.inr q)) => Nat.beq q 0 && Nat.beq pc 21
    | some (.inr (.inl m)) => Nat.beq pc 34 && (!Nat.blt m 1000 && (match anty x.2.2.1 m with
      | some T => Nat.beq T 1008
      | none => false))
    | _ => false))))
  | _ => false
noncomputable def slotL (p : Nat) : Option aL := alp (fun _ => []) [] [21, 34] 2 (arn (fun _ => []) 200 2) 33 200 [] 0 [some (.inr (.inl p)), some (.inl (1, 0)), none] [] ([(0, 0), (-2147483648, 2147483647)], [], [], [], [], 0)
noncomputable def slotR (p a : Nat) : Bool := match slotL p with
  | some L => L.all (slotP p a)
  | none => false
theorem slotR28 : slotR 28 29 = true := by decide +kernel
theorem slotR35 : slotR 35 36 = true := by decide +kernel
theorem at28 : atyp 28 = some (.inr (4, [.inl (0, 1), .inr (.inl (29, false)), .inr (.inl (30, false)), .inr (.inl (31, false)), .inr (.inl (32, false)), .inl (0, 1), .inl (-2147483648, 2147483647), .inl (-2147483648, 2147483647), .inl (-2147483648, 2147483647), .inl (-2147483648, 2147483647), .inl (-2147483648, 2147483647), .inl (-2147483648, 2147483647)])) := rfl
theorem at35 : atyp 35 = some (.inr (4, [.inl (0, 1), .inr (.inl (36, false)), .inr (.inl (37, false)), .inr (.inl (38, false)), .inr (.inl (39, false)), .inl (0, 1), .inl (-2147483648, 2147483647), .inl (-2147483648, 2147483647), .inl (-2147483648, 2147483647), .inl (-2147483648, 2147483647), .inl (-2147483648, 2147483647), .inl (-2147483648, 2147483647)])) := rfl
/-- a prover and its row, as they lie -/
theorem prover_at {τ : List Nat} {h : zh} {p a : Nat} (hp : (p = 28 ∧ a = 29) ∨ (p = 35 ∧ a = 36)) (hh : hM τ h) : τ[a]? = some a ∧ ∃ (fsP fsA : List zv), h[p]? = some (.inr (4, fsP)) ∧ fsP[1]? = some (.inl (some a)) ∧ h[a]? = some (.inl (4, fsA)) ∧ fsA.length = 300 := by
  have key : ∀ (p a : Nat) (ss : List qs), atyp p = some (.inr (4, ss)) → ss[1]? = some (.inr (.inl (a, false))) → atyp a = some (.inl (4, 300, [(300, .inr (.inl (1008, true)))])) → a < 1000 → τ[p]? = some p → τ[a]? = some a → τ[a]? = some a ∧ ∃ (fsP fsA : List zv), h[p]? = some (.inr (4, fsP)) ∧ fsP[1]? = some (.inl (some a)) ∧ h[a]? = some (.inl (4, fsA)) ∧ fsA.length = 300 := by
    intro p a ss e1 e2 e3 ha k1 k2
    obtain ⟨-, c, hc, hty⟩ := hh.2.2.2 p p k1
    obtain ⟨-, c', hc', hty'⟩ := hh.2.2.2 a a k2
    obtain ⟨fsP, rfl, -⟩ := tyc_obj e1 hty
    obtain ⟨fsA, rfl, hl⟩ := tyc_arr e3 hty'
    obtain ⟨v, q, f1, f2, f3⟩ := tyc_slot e1 hty (i := 1) (by
      show 1 < ss.length
      exact (List.getElem?_eq_some_iff.mp e2).1)
    have f2 : ss[1]? = some q := f2
    rw [e2] at f2
    cases f2
    rcases f3 with ⟨f3, -⟩ | ⟨b, rfl, hb⟩
    · cases f3
    · have := (hh.2.2.2 b a hb).1 ha
      subst this
      exact ⟨k2, fsP, fsA, hc, f1, hc', hl⟩
  obtain ⟨p1, p2, -, p3, p4⟩ := atau_pr
  rcases hp with ⟨rfl, rfl⟩ | ⟨rfl, rfl⟩
  · exact key 28 29 _ at28 rfl at29.1 (by decide) (hh.2.2.1 _ _ p3) (hh.2.2.1 _ _ p1)
  · exact key 35 36 _ at35 rfl at29.2 (by decide) (hh.2.2.1 _ _ p4) (hh.2.2.1 _ _ p2)
theorem m_slot {p a : Nat} (hp : (p = 28 ∧ a = 29) ∨ (p = 35 ∧ a = 36)) : cOK aJ 33 ([.inr (.inl p), .inl (-2147483648, 2147483647)], [], 4, [(a, 0, 299)], [(.inl (some (.inr (.inl 1008))), 0, [], [])]) := by
  intro τ h t nL rk n hs vs l0 pv hm hh hJ hq _ hz
  have hm' : zmeth 33 = some (3, 3, 2, []) := rfl
  rw [hm'] at hm
  cases hm
  have hp1000 : p < 1000 := by rcases hp with ⟨rfl, -⟩ | ⟨rfl, -⟩ <;> decide
  have ha1000 : a < 1000 := by rcases hp with ⟨-, rfl⟩ | ⟨-, rfl⟩ <;> decide
  obtain ⟨v1, vs, rfl⟩ : ∃ v1 vs', vs = v1 :: vs' := by
    cases vs with
    | nil => exact hq.elim
    | cons v w => exact ⟨v, w, rfl⟩
  obtain ⟨⟨q, rfl, hτ⟩, hq⟩ := hq
  obtain ⟨v2, vs, rfl⟩ : ∃ v1 vs', vs = v1 :: vs' := by
    cases vs with
    | nil => exact hq.elim
    | cons v w => exact ⟨v, w, rfl⟩
  obtain ⟨⟨x, rfl, -, -⟩, hq⟩ := hq
  have hvs : vs = [] := by
    cases vs with
    | nil => rfl
    | cons v w => exact hq.elim
  subst hvs
  have hqp := (hh.2.2.2 q p hτ).1 hp1000
  subst hqp
  have hz' : zent [.inl (some q), zi x] 3 = some [some (.inl (some q)), some (zi x), none] := rfl
  rw [hz'] at hz
  cases hz
  have hR : slotR q a = true := by
    rcases hp with ⟨rfl, rfl⟩ | ⟨rfl, rfl⟩
    · exact slotR28
    · exact slotR35
  unfold slotR at hR
  cases hL : slotL q with
  | none => rw [hL] at hR; cases hR
  | some L =>
    rw [hL] at hR
    simp only at hR
    have hM0 : aM aJ τ h t ([(0, 0), (-2147483648, 2147483647)], [], [], [], [], 0) [0, x.toInt] [] τ h t := by
      refine ⟨⟨rfl, rfl, fun s p9 hp9 => ?_⟩, ⟨rfl, fun j T hj => (by cases hj)⟩, fun f hf => (by cases hf), fun f hf => (by cases hf), ⟨aup_refl _, fun k T i _ _ => rfl⟩, hh, hJ, rfl⟩
      match s, hp9 with
      | 0, hp9 => cases hp9; exact ⟨0, rfl, Int.le_refl _, Int.le_refl _⟩
      | 1, hp9 => cases hp9; exact ⟨x.toInt, rfl, (qin_full x).1, (qin_full x).2⟩
      | s + 2, hp9 => cases hp9
    have hl0 : alM [0, x.toInt] [] [some (.inr (.inl q)), some (.inl (1, 0)), none] [some (.inl (some q)), some (zi x), none] := by
      refine ⟨rfl, fun i b hb => ?_, fun i v hv hn => ?_⟩
      · match i, hb with
        | 0, hb => cases hb; exact ⟨_, rfl, q, by unfold anm; rw [bltT.mpr hp1000]; rfl, rfl⟩
        | 1, hb => cases hb; exact ⟨_, rfl, x, x.toInt, rfl, rfl, by omega⟩
        | 2, hb => cases hb
        | i + 3, hb => cases hb
      · match i, hv, hn with
        | 0, _, hn => cases hn
        | 1, _, hn => cases hn
        | 2, hv, _ => cases hv
        | i + 3, hv, _ => cases hv
    obtain ⟨xx, k1, b, h2, τ2, rfl, g2, g3, g4, g5, g6⟩ := alp_ok (ann := []) (stops := [21, 34]) (ctb := fun _ => []) (call := arn (fun _ => []) 200 2) (τ0 := τ) (h0 := h) (t0 := t) (ρt := [0, x.toInt]) (νt := []) (τt := τ) (d := 2) (mi := 33) (Out := fun xx => ∃ (b : Nat) (h2 : zh) (τ2 : List Nat), xx = (.inl (some (.inl (some b))), h2, t) ∧ aup τ τ2 ∧ hM τ2 h2 ∧ aJ h2 ∧ aFr τ h [(a, 0, 299)] h2 ∧ τ2[b]? = some 1008) aJ_ok (fun mj c hc => (by cases hc)) (arn_ok aJ_ok 2 (fun mj c hc => (by cases hc))) 200 [] 0 _ [] _ L _ _ _ _ [] h t hL hM0 hl0 trivial (fun o S' hm9 ρ' ν' τ' h' t' u1 u2 u3 hM' => by
      have hPx := List.all_eq_true.mp hR _ hm9
      unfold slotP at hPx
      split at hPx
      · rename_i pc9 p' w9 w hox
        simp only at hox hPx
        simp only [Bool.and_eq_true] at hPx
        obtain ⟨a1, a2, a3, a4, a5⟩ := hPx
        refine ⟨fun q9 hq9 => (by rw [hox] at hq9; cases hq9), fun pc ls st ho cs vs9 hl hs9 => ?_⟩
        rw [hox] at ho
        cases ho
        have := asM_nil hs9
        subst this
        have e1 := Nat.eq_of_beq_eq_true a1
        subst e1
        obtain ⟨hlen, hl2, -⟩ := hl
        obtain ⟨c0, d0, q0, d1, rfl⟩ := hl2 0 _ rfl
        have hq0 : q0 = q := by
          unfold anm at d1
          rw [bltT.mpr hp1000] at d1
          cases d1
          rfl
        subst hq0
        obtain ⟨c2, d2, y, r2, rfl, d3, d4⟩ := hl2 2 _ rfl
        have hin := ain2_ok a2 hM' d3
        simp only at hin
        obtain ⟨i, hi⟩ : ∃ i : Nat, y.toInt = (i : Int) := ⟨y.toInt.toNat, by omega⟩
        have hi300 : i < 300 := by omega
        obtain ⟨c1, hcs⟩ : ∃ c1, cs = [some (.inl (some q0)), c1, some (zi y)] := by
          match cs, hlen, d0, d2 with
          | [x0, x1, x2], _, d0, d2 =>
            cases d0
            cases d2
            exact ⟨x1, rfl⟩
        subst hcs
        have htt : t' = t := by
          have h9 := hM'.2.2.2.2.2.2.2
          rw [Nat.eq_of_beq_eq_true a4] at h9
          exact h9
        subst htt
        have hfr0 : aFr τ h [] h' := fun k T j hk _ => hM'.2.2.2.2.1.2 k T j hk (awsb_ok (T := T) (i := j) a3 rfl)
        have hh' := hM'.2.2.2.2.2.1
        have hJ' := hM'.2.2.2.2.2.2.1
        obtain ⟨hτa, fsP, fsA, s1, s2, s3, s4⟩ := prover_at hp hh'
        have hal : a < h'.length := (List.getElem?_eq_some_iff.mp s3).1
        have ham : anm ν' a = some a := by unfold anm; rw [bltT.mpr ha1000]; rfl
        have hj9 : h'.length ≤ 5899 := by
          have h9 := hJ'.1
          omega
        cases hfd : afnd S'.2.2.1 a w.1 w.2 with
        | none => rw [hfd] at a5; cases a5
        | some av9 =>
          rw [hfd] at a5
          obtain ⟨-, q9, i9, r9, v9, f1, f2, f3, f4, f5⟩ := hM'.2.2.1 _ (afnd_mem hfd)
          simp only at f1 f2 f3 f5
          rw [ham] at f1
          cases f1
          rw [d3] at f2
          cases f2
          have hii : i9 = i := by omega
          subst hii
          rw [hsl_arr s3] at f4
          rcases av9 with w0 | m | kk
          · cases a5
          · simp only [Bool.and_eq_true] at a5
            have hpc := Nat.eq_of_beq_eq_true a5.1
            subst hpc
            obtain ⟨b, g1, rfl⟩ := f5
            refine ⟨_, slot_A s1 s2 s3 f4 hi, b, h', τ', rfl, u3, hh', hJ', fun k T j hk _ => hfr0 k T j hk rfl, ?_⟩
            cases hT : anty S'.2.1 m with
            | none =>
              have h9 := a5.2.2
              rw [hT] at h9
              cases h9
            | some T =>
              have h9 := a5.2.2
              rw [hT] at h9
              have hT2 : T = 1008 := Nat.eq_of_beq_eq_true h9
              subst hT2
              refine anty_ty hM'.2.1 hh' hT ?_ g1
              have h8 : Nat.blt m 1000 = false := by simpa using a5.2.1
              rw [h8]
              rfl
          · simp only [Bool.and_eq_true] at a5
            have hk0 := Nat.eq_of_beq_eq_true a5.1
            subst hk0
            have hpc := Nat.eq_of_beq_eq_true a5.2
            subst hpc
            have hv9 : v9 = .inl none := by
              rcases f5 with ⟨-, h9⟩ | ⟨h9, -⟩ | ⟨h9, -⟩ | ⟨h9, -⟩ | ⟨h9, -⟩
              · exact h9
              · cases h9
              · cases h9
              · omega
              · omega
            subst hv9
            have h36 : 36 < h'.length := by
              rw [← hh'.1]
              exact (List.getElem?_eq_some_iff.mp (hh'.2.2.1 _ _ atau_pr.2.1)).1
            have hty := seq_ty hh' (by omega)
            have hτa2 : (τ' ++ seqT)[a]? = some a := aup_app _ _ _ _ hτa
            have hta : atyp a = some (.inl (4, 300, [(300, .inr (.inl (1008, true)))])) := by
              rcases hp with ⟨-, rfl⟩ | ⟨-, rfl⟩
              · exact at29.1
              · exact at29.2
            have hnew : (τ' ++ seqT)[h'.length]? = some 1008 := by
              have h9 := app_at (a := τ') (b := seqT) (k := 0) hh'.1
              exact h9
            refine ⟨_, slot_B (d := 0) s1 s2 s3 (by omega) hi (by omega), h'.length, _, τ' ++ seqT, rfl, aup_trans u3 (aup_app _ _), ?_, ?_, ?_, hnew⟩
            · refine hM_hup (w := .inl none) hty hτa2 hta (qq := .inr (.inl (1008, true))) ?_ (Or.inr ⟨_, rfl, hnew⟩)
              show (bif Nat.blt i9 300 then some (.inr (.inl (1008, true)) : qs) else none) = _
              rw [bltT.mpr hi300]
              rfl
            · refine slot_J hJ' s3 f4 ?_ h36 _
              rcases hp with ⟨-, rfl⟩ | ⟨-, rfl⟩
              · exact Or.inl rfl
              · exact Or.inr rfl
            · intro k T j hk hw
              have ha2 : hsl (h' ++ seqC h'.length) a i9 = some (.inl none) := by
                rw [hsl_arr (show (h' ++ seqC h'.length)[a]? = some (.inl (4, fsA)) by rw [List.getElem?_append_left hal]; exact s3)]
                exact f4
              have hkl : k < h'.length := by
                rw [← hh'.1]
                exact (List.getElem?_eq_some_iff.mp (u3 _ _ hk)).1
              rw [hup_sl ha2, if_neg]
              · have h9 := hfr0 k T j hk rfl
                rw [← h9]
                unfold hsl
                rw [List.getElem?_append_left hkl]
              · rintro ⟨rfl, rfl⟩
                have h9 := u3 _ _ hk
                rw [hτa] at h9
                cases h9
                have hw : (Nat.beq k k && (Nat.ble 0 j && Nat.ble j 299) || false) = false := hw
                rw [Nat.beq_refl, Nat.ble_eq_true_of_le (Nat.zero_le j), Nat.ble_eq_true_of_le (show j ≤ 299 by omega)] at hw
                cases hw
      · cases hPx) (fun o ho => (by cases ho)) (aup_refl _) (aup_refl _) (aup_refl _)
    exact ⟨_, h2, t, τ2, _, List.mem_cons_self, qE_le (show 3 ≤ 4 by decide) (qE_of k1), g2, g3, g4, g5, rfl, ⟨b, rfl, g6⟩, fun f hf => (by cases hf), fun f hf => (by cases hf)⟩
