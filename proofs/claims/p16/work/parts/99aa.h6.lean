/-! the class's small heaps: what a part has is taken -/
theorem sb_tab : ∀ s : Nat, s < 2048 → ∀ w : Nat, w < 11 → ((Int32.ofInt (s : Int) >>> (Int32.ofInt (w : Int) &&& 31)) &&& 1).toInt = (if s.testBit w then 1 else 0 : Int) := by decide +kernel
theorem so_tab : ∀ s : Nat, s < 2048 → ∀ w : Nat, w < 11 → (Int32.ofInt (s : Int) ||| ((1 : Int32) <<< (Int32.ofInt (w : Int) &&& 31))) = Int32.ofInt ((s ||| 2 ^ w : Nat) : Int) := by decide +kernel
def usC (h : zh) (u : usT) : Prop := ∃ s : Nat, s < 2048 ∧ hsl h 43 5 = some (zi (Int32.ofInt (s : Int))) ∧ ∀ w, 1 ≤ w → w ≤ 10 → (s.testBit w = u w)
theorem usC_up {h h1 : zh} {u : usT} (c : usC h u) (e : hsl h1 43 5 = hsl h 43 5) : usC h1 u := by
  obtain ⟨s, a, b, d⟩ := c
  exact ⟨s, a, e.trans b, d⟩
/-- places that are told stay within -/
def hpB (H : hpT) : Prop := ∀ w, H.1 w ≠ -1 → H.2.1 w ≤ 10 ∧ H.2.2.1 w ≤ 10
theorem e_tkY {d t w : Nat} {k : Int} {τ : List Nat} {h : zh} {H : hpT} {u : usT} {xw xk : Int32} (hg : hG τ h) (hp : hpC h H) (uc : usC h u) (exw : xw.toInt = (w : Int)) (hw : w ≤ 10) (exk : xk.toInt = k) (hw1 : 1 ≤ w) (hK : H.1 w = k) (hu : u w = false) : qI (d + 1) 20 [some (.inl (some 43)), some (zi xw), some (zi xk)] h t (fun y h1 => hG τ h1 ∧ y.toInt = 1 ∧ usC h1 (fun v => if v = w then true else u v) ∧ ∀ k j, (k ≠ 43 ∨ j ≠ 5) → hsl h1 k j = hsl h k j) := by
  obtain ⟨s, hs, hs5, us⟩ := uc
  obtain ⟨xv, hv, ev⟩ := (hp.1 w hw1 hw).1
  refine qI_of ?_
  refine y_same (i := .iload_n 1) (len := 1) (r := (0, 0, 0, 0)) (pc' := 1) (ls' := [some (.inl (some 43)), some (zi xw), some (zi xk)]) (st' := [zi xw]) (by decide +kernel) (fun k q => by cases q) rfl ?_
  refine y_iF (c := .le) (off := 31) (len := 3) (r := (0, 0, 0, 0)) (by decide +kernel) (acmpF (c := .le) (by show _ < _; omega)) ?_
  refine y_same (i := .iload_n 1) (len := 1) (r := (0, 0, 0, 0)) (pc' := 5) (ls' := [some (.inl (some 43)), some (zi xw), some (zi xk)]) (st' := [zi xw]) (by decide +kernel) (fun k q => by cases q) rfl ?_
  refine y_bi (c := 11) (len := 2) (r := (0, 0, 0, 0)) (by decide +kernel) (by decide) (fun y3318 hy3318 => ?_)
  refine y_cF (c := .ge) (off := 25) (len := 3) (r := (0, 0, 0, 0)) (by decide +kernel) (acmpF (c := .ge) (by show _ < _; omega)) ?_
  refine y_same (i := .aload_n 0) (len := 1) (r := (0, 0, 0, 0)) (pc' := 11) (ls' := [some (.inl (some 43)), some (zi xw), some (zi xk)]) (st' := [.inl (some 43)]) (by decide +kernel) (fun k q => by cases q) rfl ?_
  refine y_get (j := 15) (len := 3) (r := (1, 1, 2, 338)) (by decide +kernel) hg (tv43 hg) aw43 rfl rfl (g_rU (f := 1) (T2 := 45) hg (tv43 hg) aw43 rfl (by decide)) ?_
  refine y_same (i := .iload_n 1) (len := 1) (r := (0, 0, 0, 0)) (pc' := 15) (ls' := [some (.inl (some 43)), some (zi xw), some (zi xk)]) (st' := [zi xw, .inl (some 45)]) (by decide +kernel) (fun k q => by cases q) rfl ?_
  refine y_ial (i := w) (len := 1) (r := (0, 0, 0, 0)) (by decide +kernel) hg (tv45 hg) aw45 (by omega) hv ?_
  refine y_same (i := .iload_n 2) (len := 1) (r := (0, 0, 0, 0)) (pc' := 17) (ls' := [some (.inl (some 43)), some (zi xw), some (zi xk)]) (st' := [zi xk, zi xv]) (by decide +kernel) (fun k q => by cases q) rfl ?_
  refine y_cF (c := .ne) (off := 15) (len := 3) (r := (0, 0, 0, 0)) (by decide +kernel) (acmpF (c := .ne) (by show _ = _; omega)) ?_
  refine y_same (i := .aload_n 0) (len := 1) (r := (0, 0, 0, 0)) (pc' := 21) (ls' := [some (.inl (some 43)), some (zi xw), some (zi xk)]) (st' := [.inl (some 43)]) (by decide +kernel) (fun k q => by cases q) rfl ?_
  refine y_get (j := 27) (len := 3) (r := (1, 5, 0, 342)) (by decide +kernel) hg (tv43 hg) aw43 rfl rfl hs5 ?_
  refine y_same (i := .iload_n 1) (len := 1) (r := (0, 0, 0, 0)) (pc' := 25) (ls' := [some (.inl (some 43)), some (zi xw), some (zi xk)]) (st' := [zi xw, zi (Int32.ofInt (s : Int))]) (by decide +kernel) (fun k q => by cases q) rfl ?_
  refine y_bp (i := .ishr) (f := fun x y => x >>> (y &&& 31)) (len := 1) (r := (0, 0, 0, 0)) (by decide +kernel) rfl rfl (fun y3319 hy3319 => ?_)
  have hy3319 : y3319 = (Int32.ofInt (s : Int)) >>> (xw &&& 31) := hy3319
  refine y_ic (c := 1) (len := 1) (r := (0, 0, 0, 0)) (by decide +kernel) (by decide) (fun y3320 hy3320 => ?_)
  refine y_bp (i := .iand) (f := fun x y => x &&& y) (len := 1) (r := (0, 0, 0, 0)) (by decide +kernel) rfl rfl (fun y3321 hy3321 => ?_)
  have hy3321 : y3321 = y3319 &&& y3320 := hy3321
  refine y_ic (c := 1) (len := 1) (r := (0, 0, 0, 0)) (by decide +kernel) (by decide) (fun y3322 hy3322 => ?_)
  have ea : y3321.toInt = 0 := by
    rw [hy3321, hy3319, i32_of exw, ofI (w := 1) hy3320 rfl, sb_tab s hs w (by omega), us w (by omega) hw, hu]
    rfl
  refine y_cT (c := .ne) (off := 5) (pc' := 34) (len := 3) (r := (0, 0, 0, 0)) (by decide +kernel) (acmpT (c := .ne) (by show ¬ (_ = _); omega)) (by decide +kernel) ?_
  refine y_same (i := .aload_n 0) (len := 1) (r := (0, 0, 0, 0)) (pc' := 35) (ls' := [some (.inl (some 43)), some (zi xw), some (zi xk)]) (st' := [.inl (some 43)]) (by decide +kernel) (fun k q => by cases q) rfl ?_
  refine y_same (i := .dup) (len := 1) (r := (0, 0, 0, 0)) (pc' := 36) (ls' := [some (.inl (some 43)), some (zi xw), some (zi xk)]) (st' := [.inl (some 43), .inl (some 43)]) (by decide +kernel) (fun k q => by cases q) rfl ?_
  refine y_get (j := 27) (len := 3) (r := (1, 5, 0, 342)) (by decide +kernel) hg (tv43 hg) aw43 rfl rfl hs5 ?_
  refine y_ic (c := 1) (len := 1) (r := (0, 0, 0, 0)) (by decide +kernel) (by decide) (fun y3323 hy3323 => ?_)
  refine y_same (i := .iload_n 1) (len := 1) (r := (0, 0, 0, 0)) (pc' := 41) (ls' := [some (.inl (some 43)), some (zi xw), some (zi xk)]) (st' := [zi xw, zi y3323, zi (Int32.ofInt (s : Int)), .inl (some 43)]) (by decide +kernel) (fun k q => by cases q) rfl ?_
  refine y_bp (i := .ishl) (f := fun x y => x <<< (y &&& 31)) (len := 1) (r := (0, 0, 0, 0)) (by decide +kernel) rfl rfl (fun y3324 hy3324 => ?_)
  have hy3324 : y3324 = y3323 <<< (xw &&& 31) := hy3324
  refine y_bp (i := .ior) (f := fun x y => x ||| y) (len := 1) (r := (0, 0, 0, 0)) (by decide +kernel) rfl rfl (fun y3325 hy3325 => ?_)
  have hy3325 : y3325 = (Int32.ofInt (s : Int)) ||| y3324 := hy3325
  refine y_put (j := 27) (lo := (-2147483648)) (hi := 2147483647) (len := 3) (r := (1, 5, 0, 342)) (by decide +kernel) hg (tv43 hg) aw43 rfl rfl (by decide) rfl (qin_full _).1 (qin_full _).2 rfl (fun h3326 hg3326 hl3326 hs3326 ho3326 => ?_)
  have ho3326 : hO 43 5 h h3326 := ho3326
  have hs3326 : hsl h3326 43 5 = some (zi y3325) := hs3326
  refine y_ic (c := 1) (len := 1) (r := (0, 0, 0, 0)) (by decide +kernel) (by decide) (fun y3327 hy3327 => ?_)
  refine y_rI (len := 1) (r := (0, 0, 0, 0)) (nL := 3) (k := 2) (n9 := 3) (hs := []) (by decide +kernel) rfl (zfit_b (by omega) (by omega)).2 ?_
  refine ⟨hg3326, by omega, ⟨s ||| 2 ^ w, Nat.or_lt_two_pow (n := 11) hs (Nat.pow_lt_pow_right (by decide) (by omega)), ?_, fun v h1 h2 => ?_⟩, fun k j hC => (ho3326 k j (by omega))⟩
  · rw [hs3326, hy3325, hy3324, i32_of exw, ofI (w := 1) hy3323 rfl, so_tab s hs w (by omega)]
  · show Nat.testBit _ _ = if v = w then true else u v
    rw [Nat.testBit_or, us v h1 h2, Nat.testBit_two_pow]
    by_cases q9 : v = w
    · rw [if_pos q9, q9, decide_eq_true rfl, Bool.or_true]
    · rw [if_neg q9, decide_eq_false (fun e => q9 e.symm), Bool.or_false]
theorem e_tkN {d t w : Nat} {k : Int} {τ : List Nat} {h : zh} {H : hpT} {u : usT} {xw xk : Int32} (hg : hG τ h) (hp : hpC h H) (uc : usC h u) (exw : xw.toInt = (w : Int)) (hw : w ≤ 10) (exk : xk.toInt = k) (hn : w = 0 ∨ H.1 w ≠ k ∨ u w = true) : qI (d + 1) 20 [some (.inl (some 43)), some (zi xw), some (zi xk)] h t (fun y h1 => y.toInt = 0 ∧ h = h1) := by
  obtain ⟨s, hs, hs5, us⟩ := uc
  refine qI_of ?_
  rcases Nat.eq_zero_or_pos w with z | z
  ·
    refine y_same (i := .iload_n 1) (len := 1) (r := (0, 0, 0, 0)) (pc' := 1) (ls' := [some (.inl (some 43)), some (zi xw), some (zi xk)]) (st' := [zi xw]) (by decide +kernel) (fun k q => by cases q) rfl ?_
    refine y_iT (c := .le) (off := 31) (pc' := 32) (len := 3) (r := (0, 0, 0, 0)) (by decide +kernel) (acmpT (c := .le) (by show _ ≤ _; omega)) (by decide +kernel) ?_
    refine y_ic (c := 0) (len := 1) (r := (0, 0, 0, 0)) (by decide +kernel) (by decide) (fun y3328 hy3328 => ?_)
    refine y_rI (len := 1) (r := (0, 0, 0, 0)) (nL := 3) (k := 2) (n9 := 3) (hs := []) (by decide +kernel) rfl (zfit_b (by omega) (by omega)).2 ?_
    exact ⟨by omega, rfl⟩
  · obtain ⟨xv, hv, ev⟩ := (hp.1 w z hw).1
    by_cases hK : H.1 w = k
    · have hu : u w = true := by
        rcases hn with q | q | q
        · omega
        · exact absurd hK q
        · exact q
      refine y_same (i := .iload_n 1) (len := 1) (r := (0, 0, 0, 0)) (pc' := 1) (ls' := [some (.inl (some 43)), some (zi xw), some (zi xk)]) (st' := [zi xw]) (by decide +kernel) (fun k q => by cases q) rfl ?_
      refine y_iF (c := .le) (off := 31) (len := 3) (r := (0, 0, 0, 0)) (by decide +kernel) (acmpF (c := .le) (by show _ < _; omega)) ?_
      refine y_same (i := .iload_n 1) (len := 1) (r := (0, 0, 0, 0)) (pc' := 5) (ls' := [some (.inl (some 43)), some (zi xw), some (zi xk)]) (st' := [zi xw]) (by decide +kernel) (fun k q => by cases q) rfl ?_
      refine y_bi (c := 11) (len := 2) (r := (0, 0, 0, 0)) (by decide +kernel) (by decide) (fun y3331 hy3331 => ?_)
      refine y_cF (c := .ge) (off := 25) (len := 3) (r := (0, 0, 0, 0)) (by decide +kernel) (acmpF (c := .ge) (by show _ < _; omega)) ?_
      refine y_same (i := .aload_n 0) (len := 1) (r := (0, 0, 0, 0)) (pc' := 11) (ls' := [some (.inl (some 43)), some (zi xw), some (zi xk)]) (st' := [.inl (some 43)]) (by decide +kernel) (fun k q => by cases q) rfl ?_
      refine y_get (j := 15) (len := 3) (r := (1, 1, 2, 338)) (by decide +kernel) hg (tv43 hg) aw43 rfl rfl (g_rU (f := 1) (T2 := 45) hg (tv43 hg) aw43 rfl (by decide)) ?_
      refine y_same (i := .iload_n 1) (len := 1) (r := (0, 0, 0, 0)) (pc' := 15) (ls' := [some (.inl (some 43)), some (zi xw), some (zi xk)]) (st' := [zi xw, .inl (some 45)]) (by decide +kernel) (fun k q => by cases q) rfl ?_
      refine y_ial (i := w) (len := 1) (r := (0, 0, 0, 0)) (by decide +kernel) hg (tv45 hg) aw45 (by omega) hv ?_
      refine y_same (i := .iload_n 2) (len := 1) (r := (0, 0, 0, 0)) (pc' := 17) (ls' := [some (.inl (some 43)), some (zi xw), some (zi xk)]) (st' := [zi xk, zi xv]) (by decide +kernel) (fun k q => by cases q) rfl ?_
      refine y_cF (c := .ne) (off := 15) (len := 3) (r := (0, 0, 0, 0)) (by decide +kernel) (acmpF (c := .ne) (by show _ = _; omega)) ?_
      refine y_same (i := .aload_n 0) (len := 1) (r := (0, 0, 0, 0)) (pc' := 21) (ls' := [some (.inl (some 43)), some (zi xw), some (zi xk)]) (st' := [.inl (some 43)]) (by decide +kernel) (fun k q => by cases q) rfl ?_
      refine y_get (j := 27) (len := 3) (r := (1, 5, 0, 342)) (by decide +kernel) hg (tv43 hg) aw43 rfl rfl hs5 ?_
      refine y_same (i := .iload_n 1) (len := 1) (r := (0, 0, 0, 0)) (pc' := 25) (ls' := [some (.inl (some 43)), some (zi xw), some (zi xk)]) (st' := [zi xw, zi (Int32.ofInt (s : Int))]) (by decide +kernel) (fun k q => by cases q) rfl ?_
      refine y_bp (i := .ishr) (f := fun x y => x >>> (y &&& 31)) (len := 1) (r := (0, 0, 0, 0)) (by decide +kernel) rfl rfl (fun y3332 hy3332 => ?_)
      have hy3332 : y3332 = (Int32.ofInt (s : Int)) >>> (xw &&& 31) := hy3332
      refine y_ic (c := 1) (len := 1) (r := (0, 0, 0, 0)) (by decide +kernel) (by decide) (fun y3333 hy3333 => ?_)
      refine y_bp (i := .iand) (f := fun x y => x &&& y) (len := 1) (r := (0, 0, 0, 0)) (by decide +kernel) rfl rfl (fun y3334 hy3334 => ?_)
      have hy3334 : y3334 = y3332 &&& y3333 := hy3334
      refine y_ic (c := 1) (len := 1) (r := (0, 0, 0, 0)) (by decide +kernel) (by decide) (fun y3335 hy3335 => ?_)
      have ea : y3334.toInt = 1 := by
        rw [hy3334, hy3332, i32_of exw, ofI (w := 1) hy3333 rfl, sb_tab s hs w (by omega), us w (by omega) hw, hu]
        rfl
      refine y_cF (c := .ne) (off := 5) (len := 3) (r := (0, 0, 0, 0)) (by decide +kernel) (acmpF (c := .ne) (by show _ = _; omega)) ?_
      refine y_ic (c := 0) (len := 1) (r := (0, 0, 0, 0)) (by decide +kernel) (by decide) (fun y3336 hy3336 => ?_)
      refine y_rI (len := 1) (r := (0, 0, 0, 0)) (nL := 3) (k := 2) (n9 := 3) (hs := []) (by decide +kernel) rfl (zfit_b (by omega) (by omega)).2 ?_
      exact ⟨by omega, rfl⟩
    ·
      refine y_same (i := .iload_n 1) (len := 1) (r := (0, 0, 0, 0)) (pc' := 1) (ls' := [some (.inl (some 43)), some (zi xw), some (zi xk)]) (st' := [zi xw]) (by decide +kernel) (fun k q => by cases q) rfl ?_
      refine y_iF (c := .le) (off := 31) (len := 3) (r := (0, 0, 0, 0)) (by decide +kernel) (acmpF (c := .le) (by show _ < _; omega)) ?_
      refine y_same (i := .iload_n 1) (len := 1) (r := (0, 0, 0, 0)) (pc' := 5) (ls' := [some (.inl (some 43)), some (zi xw), some (zi xk)]) (st' := [zi xw]) (by decide +kernel) (fun k q => by cases q) rfl ?_
      refine y_bi (c := 11) (len := 2) (r := (0, 0, 0, 0)) (by decide +kernel) (by decide) (fun y3329 hy3329 => ?_)
      refine y_cF (c := .ge) (off := 25) (len := 3) (r := (0, 0, 0, 0)) (by decide +kernel) (acmpF (c := .ge) (by show _ < _; omega)) ?_
      refine y_same (i := .aload_n 0) (len := 1) (r := (0, 0, 0, 0)) (pc' := 11) (ls' := [some (.inl (some 43)), some (zi xw), some (zi xk)]) (st' := [.inl (some 43)]) (by decide +kernel) (fun k q => by cases q) rfl ?_
      refine y_get (j := 15) (len := 3) (r := (1, 1, 2, 338)) (by decide +kernel) hg (tv43 hg) aw43 rfl rfl (g_rU (f := 1) (T2 := 45) hg (tv43 hg) aw43 rfl (by decide)) ?_
      refine y_same (i := .iload_n 1) (len := 1) (r := (0, 0, 0, 0)) (pc' := 15) (ls' := [some (.inl (some 43)), some (zi xw), some (zi xk)]) (st' := [zi xw, .inl (some 45)]) (by decide +kernel) (fun k q => by cases q) rfl ?_
      refine y_ial (i := w) (len := 1) (r := (0, 0, 0, 0)) (by decide +kernel) hg (tv45 hg) aw45 (by omega) hv ?_
      refine y_same (i := .iload_n 2) (len := 1) (r := (0, 0, 0, 0)) (pc' := 17) (ls' := [some (.inl (some 43)), some (zi xw), some (zi xk)]) (st' := [zi xk, zi xv]) (by decide +kernel) (fun k q => by cases q) rfl ?_
      refine y_cT (c := .ne) (off := 15) (pc' := 32) (len := 3) (r := (0, 0, 0, 0)) (by decide +kernel) (acmpT (c := .ne) (by show ¬ (_ = _); omega)) (by decide +kernel) ?_
      refine y_ic (c := 0) (len := 1) (r := (0, 0, 0, 0)) (by decide +kernel) (by decide) (fun y3330 hy3330 => ?_)
      refine y_rI (len := 1) (r := (0, 0, 0, 0)) (nL := 3) (k := 2) (n9 := 3) (hs := []) (by decide +kernel) rfl (zfit_b (by omega) (by omega)).2 ?_
      exact ⟨by omega, rfl⟩
theorem e_tkA {d t w : Nat} {k : Int} {τ : List Nat} {h : zh} {H : hpT} {u : usT} {xw xk : Int32} (hg : hG τ h) (hp : hpC h H) (uc : usC h u) (exw : xw.toInt = (w : Int)) (hw : w ≤ 10) (exk : xk.toInt = k) : qI (d + 1) 20 [some (.inl (some 43)), some (zi xw), some (zi xk)] h t (fun y h1 => (∃ u', tkA H u w k = some u' ∧ hG τ h1 ∧ y.toInt = 1 ∧ usC h1 u' ∧ ∀ k j, (k ≠ 43 ∨ j ≠ 5) → hsl h1 k j = hsl h k j) ∨ (tkA H u w k = none ∧ y.toInt = 0 ∧ h = h1)) := by
  by_cases hn : w = 0 ∨ H.1 w ≠ k ∨ u w = true
  · refine qI_imp (e_tkN hg hp uc exw hw exk hn) (fun y h1 hR => Or.inr ⟨?_, hR⟩)
    unfold tkA
    rw [if_pos hn]
  · refine qI_imp (e_tkY hg hp uc exw hw exk (by omega) (Decidable.byContradiction (fun q => hn (Or.inr (Or.inl q)))) (by cases q : u w with
      | false => rfl
      | true => exact absurd (Or.inr (Or.inr q)) hn)) (fun y h1 hR => Or.inl ⟨_, ?_, hR⟩)
    unfold tkA
    rw [if_neg hn]
theorem tl_l {d t y : Nat} {τ : List Nat} {h0 : zh} {H : hpT} {l1 : Option zv} {xy : Int32} (hw : hpW H) (exy : xy.toInt = (y : Int)) : ∀ (n : Nat) (h : zh) (x : Nat) (u : usT) (xx : Int32) (xi : Int32) (i : Nat) (n9 : Nat), (hG τ h) → (hpC h H) → (usC h u) → (∀ k j, (k ≠ 43 ∨ j ≠ 5) → hsl h k j = hsl h0 k j) → (xx.toInt = (x : Int)) → (x ≤ 10) → (xi.toInt = (i : Int)) → (i ≤ cu_ u) → (11 ≤ n9 + cu_ u) → (11 ≤ cu_ u + n) → qX (d + 1) 21 5 [some (.inl (some 43)), l1, some (zi xy), some (zi xx), some (zi xi)] [] h t (rI (fun y9 h1 => hG τ h1 ∧ (∀ k j, (k ≠ 43 ∨ j ≠ 5) → hsl h1 k j = hsl h0 k j) ∧ ((∃ u', tkL H n9 u x y = some u' ∧ y9.toInt = 1 ∧ usC h1 u') ∨ (tkL H n9 u x y = none ∧ y9.toInt = 0))) t) := by
  intro n
  induction n with
  | zero =>
    intro h x u xx xi i n9 hg hp uc F0 hxx hx hxi hi hn9 hn
    have cl := cu_le (u := u)
    exfalso
    omega
  | succ n ih =>
    intro h x u xx xi i n9 hg hp uc F0 hxx hx hxi hi hn9 hn
    have cl := cu_le (u := u)
    refine y_same (i := .iload 4) (len := 2) (r := (0, 0, 0, 0)) (pc' := 7) (ls' := [some (.inl (some 43)), l1, some (zi xy), some (zi xx), some (zi xi)]) (st' := [zi xi]) (by decide +kernel) (fun k q => by cases q) rfl ?_
    refine y_bi (c := 11) (len := 2) (r := (0, 0, 0, 0)) (by decide +kernel) (by decide) (fun y3337 hy3337 => ?_)
    rcases Decidable.em (xi.toInt ≥ y3337.toInt) with q3338 | q3338
    ·
      refine y_cT (c := .ge) (off := 32) (pc' := 41) (len := 3) (r := (0, 0, 0, 0)) (by decide +kernel) (acmpT (c := .ge) (by show _ ≤ _; omega)) (by decide +kernel) ?_
      refine y_same (i := .iload_n 3) (len := 1) (r := (0, 0, 0, 0)) (pc' := 42) (ls' := [some (.inl (some 43)), l1, some (zi xy), some (zi xx), some (zi xi)]) (st' := [zi xx]) (by decide +kernel) (fun k q => by cases q) rfl ?_
      refine y_same (i := .iload_n 2) (len := 1) (r := (0, 0, 0, 0)) (pc' := 43) (ls' := [some (.inl (some 43)), l1, some (zi xy), some (zi xx), some (zi xi)]) (st' := [zi xy, zi xx]) (by decide +kernel) (fun k q => by cases q) rfl ?_
      rcases Decidable.em (xx.toInt ≠ xy.toInt) with q3339 | q3339
      ·
        refine y_cT (c := .ne) (off := 7) (pc' := 50) (len := 3) (r := (0, 0, 0, 0)) (by decide +kernel) (acmpT (c := .ne) (by show ¬ (_ = _); omega)) (by decide +kernel) ?_
        refine y_ic (c := 0) (len := 1) (r := (0, 0, 0, 0)) (by decide +kernel) (by decide) (fun y3340 hy3340 => ?_)
        refine y_rI (len := 1) (r := (0, 0, 0, 0)) (nL := 5) (k := 2) (n9 := 3) (hs := []) (by decide +kernel) rfl (zfit_b (by omega) (by omega)).2 ?_
        refine ⟨hg, F0, Or.inr ⟨?_, by omega⟩⟩
        exfalso
        omega
      ·
        refine y_cF (c := .ne) (off := 7) (len := 3) (r := (0, 0, 0, 0)) (by decide +kernel) (acmpF (c := .ne) (by show _ = _; omega)) ?_
        refine y_ic (c := 1) (len := 1) (r := (0, 0, 0, 0)) (by decide +kernel) (by decide) (fun y3341 hy3341 => ?_)
        refine y_goto (off := 4) (pc' := 51) (len := 3) (r := (0, 0, 0, 0)) (by decide +kernel) (by decide +kernel) ?_
        refine y_rI (len := 1) (r := (0, 0, 0, 0)) (nL := 5) (k := 2) (n9 := 3) (hs := []) (by decide +kernel) rfl (zfit_b (by omega) (by omega)).2 ?_
        exact ⟨hg, F0, Or.inl ⟨u, tkL_e (by omega), by omega, uc⟩⟩
    ·
      refine y_cF (c := .ge) (off := 32) (len := 3) (r := (0, 0, 0, 0)) (by decide +kernel) (acmpF (c := .ge) (by show _ < _; omega)) ?_
      refine y_same (i := .iload_n 3) (len := 1) (r := (0, 0, 0, 0)) (pc' := 13) (ls' := [some (.inl (some 43)), l1, some (zi xy), some (zi xx), some (zi xi)]) (st' := [zi xx]) (by decide +kernel) (fun k q => by cases q) rfl ?_
      refine y_same (i := .iload_n 2) (len := 1) (r := (0, 0, 0, 0)) (pc' := 14) (ls' := [some (.inl (some 43)), l1, some (zi xy), some (zi xx), some (zi xi)]) (st' := [zi xy, zi xx]) (by decide +kernel) (fun k q => by cases q) rfl ?_
      rcases Decidable.em (xx.toInt = xy.toInt) with q3342 | q3342
      ·
        refine y_cT (c := .eq) (off := 27) (pc' := 41) (len := 3) (r := (0, 0, 0, 0)) (by decide +kernel) (acmpT (c := .eq) (by show _ = _; omega)) (by decide +kernel) ?_
        refine y_same (i := .iload_n 3) (len := 1) (r := (0, 0, 0, 0)) (pc' := 42) (ls' := [some (.inl (some 43)), l1, some (zi xy), some (zi xx), some (zi xi)]) (st' := [zi xx]) (by decide +kernel) (fun k q => by cases q) rfl ?_
        refine y_same (i := .iload_n 2) (len := 1) (r := (0, 0, 0, 0)) (pc' := 43) (ls' := [some (.inl (some 43)), l1, some (zi xy), some (zi xx), some (zi xi)]) (st' := [zi xy, zi xx]) (by decide +kernel) (fun k q => by cases q) rfl ?_
        rcases Decidable.em (xx.toInt ≠ xy.toInt) with q3343 | q3343
        ·
          refine y_cT (c := .ne) (off := 7) (pc' := 50) (len := 3) (r := (0, 0, 0, 0)) (by decide +kernel) (acmpT (c := .ne) (by show ¬ (_ = _); omega)) (by decide +kernel) ?_
          refine y_ic (c := 0) (len := 1) (r := (0, 0, 0, 0)) (by decide +kernel) (by decide) (fun y3344 hy3344 => ?_)
          refine y_rI (len := 1) (r := (0, 0, 0, 0)) (nL := 5) (k := 2) (n9 := 3) (hs := []) (by decide +kernel) rfl (zfit_b (by omega) (by omega)).2 ?_
          refine ⟨hg, F0, Or.inr ⟨?_, by omega⟩⟩
          exfalso
          omega
        ·
          refine y_cF (c := .ne) (off := 7) (len := 3) (r := (0, 0, 0, 0)) (by decide +kernel) (acmpF (c := .ne) (by show _ = _; omega)) ?_
          refine y_ic (c := 1) (len := 1) (r := (0, 0, 0, 0)) (by decide +kernel) (by decide) (fun y3345 hy3345 => ?_)
          refine y_goto (off := 4) (pc' := 51) (len := 3) (r := (0, 0, 0, 0)) (by decide +kernel) (by decide +kernel) ?_
          refine y_rI (len := 1) (r := (0, 0, 0, 0)) (nL := 5) (k := 2) (n9 := 3) (hs := []) (by decide +kernel) rfl (zfit_b (by omega) (by omega)).2 ?_
          exact ⟨hg, F0, Or.inl ⟨u, tkL_e (by omega), by omega, uc⟩⟩
      ·
        refine y_cF (c := .eq) (off := 27) (len := 3) (r := (0, 0, 0, 0)) (by decide +kernel) (acmpF (c := .eq) (by show ¬ (_ = _); omega)) ?_
        refine y_same (i := .aload_n 0) (len := 1) (r := (0, 0, 0, 0)) (pc' := 18) (ls' := [some (.inl (some 43)), l1, some (zi xy), some (zi xx), some (zi xi)]) (st' := [.inl (some 43)]) (by decide +kernel) (fun k q => by cases q) rfl ?_
        refine y_same (i := .iload_n 3) (len := 1) (r := (0, 0, 0, 0)) (pc' := 19) (ls' := [some (.inl (some 43)), l1, some (zi xy), some (zi xx), some (zi xi)]) (st' := [zi xx, .inl (some 43)]) (by decide +kernel) (fun k q => by cases q) rfl ?_
        refine y_ic (c := 0) (len := 1) (r := (0, 0, 0, 0)) (by decide +kernel) (by decide) (fun y3346 hy3346 => ?_)
        refine y_cI (i := .invokevirtual 75) (len := 3) (r := (0, 20, 1, 1268)) (nL := 3) (k := 2) (n := 3) (hs := []) (args := [.inl (some 43), zi xx, zi y3346]) (rest := []) (l0 := [some (.inl (some 43)), some (zi xx), some (zi y3346)]) (by decide +kernel) (Or.inr (Or.inl ⟨_, rfl⟩)) rfl rfl rfl rfl (Nat.le_of_ble_eq_true rfl) (zO hg (tv43 hg) aw43 rfl) rfl (qI_le (by omega) (e_tkA (d := 0) (w := x) (k := 0) (u := u) hg hp uc (by omega) (by omega) (by omega))) (fun y3347 h3347 hRy3347 => ?_)
        rcases hRy3347 with ⟨u3347, tk3347, hg3347, hy3347, uc3347, F3347⟩ | ⟨tk3347, hy3347, hh3347⟩
        ·
          obtain ⟨t13347, t23347, t33347, t43347⟩ := tkA_some tk3347
          obtain ⟨xa3347, ha3347, ea3347⟩ := ((hp.1 x t13347 hx).2 (by rw [t23347]; decide)).1
          refine y_iT (c := .ne) (off := 5) (pc' := 28) (len := 3) (r := (0, 0, 0, 0)) (by decide +kernel) (acmpT (c := .ne) (by show ¬ (_ = _); omega)) (by decide +kernel) ?_
          refine y_same (i := .aload_n 0) (len := 1) (r := (0, 0, 0, 0)) (pc' := 29) (ls' := [some (.inl (some 43)), l1, some (zi xy), some (zi xx), some (zi xi)]) (st' := [.inl (some 43)]) (by decide +kernel) (fun k q => by cases q) rfl ?_
          refine y_get (j := 18) (len := 3) (r := (1, 2, 2, 339)) (by decide +kernel) hg3347 (tv43 hg3347) aw43 rfl rfl (g_rU (f := 2) (T2 := 46) hg3347 (tv43 hg3347) aw43 rfl (by decide)) ?_
          refine y_same (i := .iload_n 3) (len := 1) (r := (0, 0, 0, 0)) (pc' := 33) (ls' := [some (.inl (some 43)), l1, some (zi xy), some (zi xx), some (zi xi)]) (st' := [zi xx, .inl (some 46)]) (by decide +kernel) (fun k q => by cases q) rfl ?_
          have hv3348 := (F3347 46 x (by omega)).trans ha3347
          refine y_ial (i := x) (len := 1) (r := (0, 0, 0, 0)) (by decide +kernel) hg3347 (tv46 hg3347) aw46 (by omega) hv3348 ?_
          refine y_same (i := .istore_n 3) (len := 1) (r := (0, 0, 0, 0)) (pc' := 35) (ls' := [some (.inl (some 43)), l1, some (zi xy), some (zi xa3347), some (zi xi)]) (st' := []) (by decide +kernel) (fun k q => by cases q) rfl ?_
          refine y_inc (j := 4) (a := xi) (c := 1) (ls' := fun v => [some (.inl (some 43)), l1, some (zi xy), some (zi xa3347), some v]) (len := 3) (r := (0, 0, 0, 0)) (by decide +kernel) rfl (fun _ => rfl) (by decide) (by omega) (by omega) (fun y3349 hy3349 => ?_)
          show qX (d + 1) 21 38 [some (.inl (some 43)), l1, some (zi xy), some (zi xa3347), some (zi y3349)] [] h3347 t _
          refine y_goto (off := (-33)) (pc' := 5) (len := 3) (r := (0, 0, 0, 0)) (by decide +kernel) (by decide +kernel) ?_
          have hB := hw.2 x (by rw [t23347]; decide)
          have hw1 := hw.1
          obtain ⟨m9, rfl⟩ : ∃ m, n9 = m + 1 := ⟨n9 - 1, by omega⟩
          have hc9 := cu_tk hx tk3347
          rw [tkL_s (show x ≠ y by omega) tk3347]
          exact ih h3347 (H.2.1 x) u3347 xa3347 y3349 (i + 1) m9 hg3347 (hpC_up hp (fun k j hC => (F3347 k j (by omega)))) uc3347 (fun k j hC => ((F3347 k j (by omega))).trans (F0 k j hC)) (by omega) (by omega) (by omega) (by omega) (by omega) (by omega)
        ·
          subst hh3347
          refine y_iF (c := .ne) (off := 5) (len := 3) (r := (0, 0, 0, 0)) (by decide +kernel) (acmpF (c := .ne) (by show _ = _; omega)) ?_
          refine y_ic (c := 0) (len := 1) (r := (0, 0, 0, 0)) (by decide +kernel) (by decide) (fun y3350 hy3350 => ?_)
          refine y_rI (len := 1) (r := (0, 0, 0, 0)) (nL := 5) (k := 2) (n9 := 3) (hs := []) (by decide +kernel) rfl (zfit_b (by omega) (by omega)).2 ?_
          obtain ⟨m9, rfl⟩ : ∃ m, n9 = m + 1 := ⟨n9 - 1, by omega⟩
          exact ⟨hg, F0, Or.inr ⟨tkL_n (show x ≠ y by omega) tk3347, by omega⟩⟩
theorem e_tl {d t x y : Nat} {τ : List Nat} {h : zh} {H : hpT} {u : usT} {xx xy : Int32} (hg : hG τ h) (hp : hpC h H) (uc : usC h u) (hw : hpW H) (exx : xx.toInt = (x : Int)) (hx : x ≤ 10) (exy : xy.toInt = (y : Int)) : qI (d + 2) 21 [some (.inl (some 43)), some (zi xx), some (zi xy), none, none] h t (fun y9 h1 => hG τ h1 ∧ (∀ k j, (k ≠ 43 ∨ j ≠ 5) → hsl h1 k j = hsl h k j) ∧ ((∃ u', tkL H 11 u x y = some u' ∧ y9.toInt = 1 ∧ usC h1 u') ∨ (tkL H 11 u x y = none ∧ y9.toInt = 0))) := by
  refine qI_of ?_
  refine y_same (i := .iload_n 1) (len := 1) (r := (0, 0, 0, 0)) (pc' := 1) (ls' := [some (.inl (some 43)), some (zi xx), some (zi xy), none, none]) (st' := [zi xx]) (by decide +kernel) (fun k q => by cases q) rfl ?_
  refine y_same (i := .istore_n 3) (len := 1) (r := (0, 0, 0, 0)) (pc' := 2) (ls' := [some (.inl (some 43)), some (zi xx), some (zi xy), some (zi xx), none]) (st' := []) (by decide +kernel) (fun k q => by cases q) rfl ?_
  refine y_ic (c := 0) (len := 1) (r := (0, 0, 0, 0)) (by decide +kernel) (by decide) (fun y3351 hy3351 => ?_)
  refine y_same (i := .istore 4) (len := 2) (r := (0, 0, 0, 0)) (pc' := 5) (ls' := [some (.inl (some 43)), some (zi xx), some (zi xy), some (zi xx), some (zi y3351)]) (st' := []) (by decide +kernel) (fun k q => by cases q) rfl ?_
  exact tl_l hw exy 11 h x u _ y3351 0 11 hg hp uc (fun k j _ => rfl) (by omega) hx (by omega) (by omega) (by omega) (by omega)
