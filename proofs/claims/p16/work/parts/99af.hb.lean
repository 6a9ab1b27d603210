/-! the class's small heaps: all tellings -/
def ltU (n m : Nat) : List Nat := (List.range' 1 m).filter (fun v => decide (n / 2 ^ v % 2 = 1))
theorem ltU_s {n m : Nat} : ltU n (m + 1) = ltU n m ++ (if n / 2 ^ (m + 1) % 2 = 1 then [m + 1] else []) := by
  unfold ltU
  rw [List.range'_concat, List.filter_append, show 1 + 1 * m = m + 1 by omega]
  congr 1
  by_cases q : n / 2 ^ (m + 1) % 2 = 1
  · rw [if_pos q, List.filter_cons_of_pos (by exact decide_eq_true q)]
    rfl
  · rw [if_neg q, List.filter_cons_of_neg (by rw [decide_eq_true_eq]; exact q)]
    rfl
theorem ltU_l {n m : Nat} : (ltU n m).length ≤ m := by
  refine Nat.le_trans (List.length_filter_le _ _) ?_
  rw [List.length_range']
  exact Nat.le_refl _
theorem ltr_U {n : Nat} : ltr n = ltU n 5 := rfl
theorem ltr_b {n v : Nat} (h : v ∈ ltr n) : 1 ≤ v ∧ v ≤ 5 := by
  have := List.mem_range'_1.mp (List.mem_filter.mp h).1
  omega
theorem ltr_nd {n : Nat} : (ltr n).Nodup := List.Pairwise.filter _ (show (List.range' 1 5).Nodup by decide)
def wt : Nat → Nat
  | 0 => 500
  | n + 1 => wt n + 500
theorem wt_s {n : Nat} : wt (n + 1) = wt n + 500 := rfl
theorem wt_5 : ∀ {n : Nat}, 500 ≤ wt n
  | 0 => Nat.le_refl _
  | n + 1 => Nat.le_add_left _ _
theorem wt_b : ∀ n, n ≤ 203 → wt n < 200000 := by decide +kernel
theorem ltC_add {h h1 : zh} {ls : List Nat} {v : Nat} (c : ltC h ls) (h2 : ci_ h1 42 4 (ls.length + 1)) (h3 : ci_ h1 49 ls.length v) (F : ∀ j, j ≠ ls.length → hsl h1 49 j = hsl h 49 j) : ltC h1 (ls ++ [v]) := by
  refine ⟨by rw [List.length_append]; exact h2, fun i w hw => ?_⟩
  rcases Nat.lt_or_ge i ls.length with q | q
  · rw [List.getElem?_append_left q] at hw
    exact ci_up (c.2 i w hw) (F i (by omega))
  · rw [List.getElem?_append_right q] at hw
    have h9 := (List.getElem?_eq_some_iff.mp hw).1
    have h8 : i = ls.length := by simp only [List.length_cons, List.length_nil] at h9; omega
    subst h8
    rw [Nat.sub_self] at hw
    cases hw
    exact h3
theorem own_pos {f : tlT} {b : bsT} (h : alw f b) : ∀ (j : Nat) (i : it4), b.1.1[j]? = some i → hsS f i → 1 ≤ vX_ f i := fun j i hj hs => by
  have h1 : vX_ f i ∈ own f b.1.1 := List.mem_map.mpr ⟨i, List.mem_filter.mpr ⟨List.mem_of_getElem? hj, decide_eq_true hs⟩, rfl⟩
  have h2 := (List.nodup_cons.mp h.2).1
  rcases Nat.eq_zero_or_pos (vX_ f i) with q | q
  · rw [q] at h1
    exact absurd h1 h2
  · exact q
theorem e_setv0 {d t v n : Nat} {τ : List Nat} {h : zh} {xv xn : Int32} (hg : hG τ h) (exv : xv.toInt = (v : Int)) (hv1 : 1 ≤ v) (hv : v ≤ 5) (exn : xn.toInt = (n : Int)) : qV (d + 1) 12 [some (.inl (some 43)), some (zi xv), some (zi xn)] h t (fun h1 => hG τ h1 ∧ ci_ h1 44 v n ∧ ∀ k j, (k ≠ 44 ∨ j ≠ v) → hsl h1 k j = hsl h k j) := by
  refine qV_of ?_
  refine y_same (i := .iload_n 1) (len := 1) (r := (0, 0, 0, 0)) (pc' := 1) (ls' := [some (.inl (some 43)), some (zi xv), some (zi xn)]) (st' := [zi xv]) (by decide +kernel) (fun k q => by cases q) rfl ?_
  refine y_ic (c := 1) (len := 1) (r := (0, 0, 0, 0)) (by decide +kernel) (by decide) (fun y3548 hy3548 => ?_)
  refine y_cF (c := .lt) (off := 15) (len := 3) (r := (0, 0, 0, 0)) (by decide +kernel) (acmpF (c := .lt) (by show _ ≤ _; omega)) ?_
  refine y_same (i := .iload_n 1) (len := 1) (r := (0, 0, 0, 0)) (pc' := 6) (ls' := [some (.inl (some 43)), some (zi xv), some (zi xn)]) (st' := [zi xv]) (by decide +kernel) (fun k q => by cases q) rfl ?_
  refine y_ic (c := 5) (len := 1) (r := (0, 0, 0, 0)) (by decide +kernel) (by decide) (fun y3549 hy3549 => ?_)
  refine y_cF (c := .gt) (off := 10) (len := 3) (r := (0, 0, 0, 0)) (by decide +kernel) (acmpF (c := .gt) (by show _ ≤ _; omega)) ?_
  refine y_same (i := .aload_n 0) (len := 1) (r := (0, 0, 0, 0)) (pc' := 11) (ls' := [some (.inl (some 43)), some (zi xv), some (zi xn)]) (st' := [.inl (some 43)]) (by decide +kernel) (fun k q => by cases q) rfl ?_
  refine y_get (j := 9) (len := 3) (r := (1, 0, 2, 337)) (by decide +kernel) hg (tv43 hg) aw43 rfl rfl (g_rU (f := 0) (T2 := 44) hg (tv43 hg) aw43 rfl (by decide)) ?_
  refine y_same (i := .iload_n 1) (len := 1) (r := (0, 0, 0, 0)) (pc' := 15) (ls' := [some (.inl (some 43)), some (zi xv), some (zi xn)]) (st' := [zi xv, .inl (some 44)]) (by decide +kernel) (fun k q => by cases q) rfl ?_
  refine y_same (i := .iload_n 2) (len := 1) (r := (0, 0, 0, 0)) (pc' := 16) (ls' := [some (.inl (some 43)), some (zi xv), some (zi xn)]) (st' := [zi xn, zi xv, .inl (some 44)]) (by decide +kernel) (fun k q => by cases q) rfl ?_
  refine y_ias (i := v) (len := 1) (r := (0, 0, 0, 0)) (by decide +kernel) hg (tv44 hg) aw44 rfl (by omega) (by omega) (sr1 (by omega)) (qin_full _).1 (qin_full _).2 (fun h3550 hg3550 hl3550 hs3550 ho3550 => ?_)
  refine y_rV (len := 1) (r := (0, 0, 0, 0)) (nL := 3) (n9 := 3) (hs := []) (by decide +kernel) rfl ?_
  exact ⟨hg3550, ⟨_, hs3550, exn⟩, fun k j hC => ho3550 k j hC⟩
theorem fl_l {d t N : Nat} {τ : List Nat} {h0 : zh} {xb : Int32} (hN : N < 64) (hxb : xb = Int32.ofInt (N : Int)) : ∀ (n : Nat) (h : zh) (m : Nat) (xv : Int32), (hG τ h) → (ltC h (ltU N m)) → (∀ w, w < m + 1 → ci_ h 44 w 0) → (∀ k j, (k ≠ 44 ∧ k ≠ 49 ∧ (k ≠ 42 ∨ j ≠ 4)) → hsl h k j = hsl h0 k j) → (xv.toInt = (m : Int) + 1) → (m ≤ 5) → (5 < m + n) → qX (d + 1) 118 7 [some (.inl (some 42)), some (zi xb), some (zi xv)] [] h t (rV (fun h1 => hG τ h1 ∧ ltC h1 (ltr N) ∧ vC_ h1 (fun _ => 0) ∧ ∀ k j, (k ≠ 44 ∧ k ≠ 49 ∧ (k ≠ 42 ∨ j ≠ 4)) → hsl h1 k j = hsl h0 k j) t) := by
  intro n
  induction n with
  | zero =>
    intro h m xv hg lt c2 F0 hxv hm5 hn
    exfalso
    omega
  | succ n ih =>
    intro h m xv hg lt c2 F0 hxv hm5 hn
    have ll := ltU_l (n := N) (m := m)
    obtain ⟨xm, hm, em⟩ := lt.1
    refine y_same (i := .iload_n 2) (len := 1) (r := (0, 0, 0, 0)) (pc' := 8) (ls' := [some (.inl (some 42)), some (zi xb), some (zi xv)]) (st' := [zi xv]) (by decide +kernel) (fun k q => by cases q) rfl ?_
    refine y_ic (c := 5) (len := 1) (r := (0, 0, 0, 0)) (by decide +kernel) (by decide) (fun y3551 hy3551 => ?_)
    rcases Decidable.em (xv.toInt > y3551.toInt) with q3552 | q3552
    ·
      refine y_cT (c := .gt) (off := 55) (pc' := 64) (len := 3) (r := (0, 0, 0, 0)) (by decide +kernel) (acmpT (c := .gt) (by show _ < _; omega)) (by decide +kernel) ?_
      refine y_rV (len := 1) (r := (0, 0, 0, 0)) (nL := 3) (n9 := 2) (hs := []) (by decide +kernel) rfl ?_
      obtain rfl : m = 5 := by omega
      exact ⟨hg, lt, fun v hv => c2 v (by omega), F0⟩
    ·
      refine y_cF (c := .gt) (off := 55) (len := 3) (r := (0, 0, 0, 0)) (by decide +kernel) (acmpF (c := .gt) (by show _ ≤ _; omega)) ?_
      refine y_same (i := .aload_n 0) (len := 1) (r := (0, 0, 0, 0)) (pc' := 13) (ls' := [some (.inl (some 42)), some (zi xb), some (zi xv)]) (st' := [.inl (some 42)]) (by decide +kernel) (fun k q => by cases q) rfl ?_
      refine y_get (j := 12) (len := 3) (r := (10, 0, 2, 359)) (by decide +kernel) hg (tv42 hg) aw42 rfl rfl (g_rU (f := 0) (T2 := 43) hg (tv42 hg) aw42 rfl (by decide)) ?_
      refine y_same (i := .iload_n 2) (len := 1) (r := (0, 0, 0, 0)) (pc' := 17) (ls' := [some (.inl (some 42)), some (zi xb), some (zi xv)]) (st' := [zi xv, .inl (some 43)]) (by decide +kernel) (fun k q => by cases q) rfl ?_
      refine y_ic (c := 0) (len := 1) (r := (0, 0, 0, 0)) (by decide +kernel) (by decide) (fun y3553 hy3553 => ?_)
      refine y_cV (i := .invokevirtual 85) (len := 3) (r := (0, 12, 1, 1198)) (nL := 3) (k := 0) (n := 3) (hs := []) (args := [.inl (some 43), zi xv, zi y3553]) (rest := []) (l0 := [some (.inl (some 43)), some (zi xv), some (zi y3553)]) (by decide +kernel) (Or.inr (Or.inl ⟨_, rfl⟩)) rfl rfl rfl rfl (Nat.le_of_ble_eq_true rfl) (zO hg (tv43 hg) aw43 rfl) rfl (qV_le (by omega) (e_setv0 (d := 0) (v := m + 1) (n := 0) hg (by omega) (by omega) (by omega) (by omega))) (fun h3554 hR3554 => ?_)
      obtain ⟨hg3554, v3554, F3554⟩ := hR3554
      refine y_same (i := .iload_n 1) (len := 1) (r := (0, 0, 0, 0)) (pc' := 22) (ls' := [some (.inl (some 42)), some (zi xb), some (zi xv)]) (st' := [zi xb]) (by decide +kernel) (fun k q => by cases q) rfl ?_
      refine y_same (i := .iload_n 2) (len := 1) (r := (0, 0, 0, 0)) (pc' := 23) (ls' := [some (.inl (some 42)), some (zi xb), some (zi xv)]) (st' := [zi xv, zi xb]) (by decide +kernel) (fun k q => by cases q) rfl ?_
      refine y_bp (i := .ishr) (f := fun x y => x >>> (y &&& 31)) (len := 1) (r := (0, 0, 0, 0)) (by decide +kernel) rfl rfl (fun y3555 hy3555 => ?_)
      have hy3555 : y3555 = xb >>> (xv &&& 31) := hy3555
      refine y_ic (c := 1) (len := 1) (r := (0, 0, 0, 0)) (by decide +kernel) (by decide) (fun y3556 hy3556 => ?_)
      refine y_bp (i := .iand) (f := fun x y => x &&& y) (len := 1) (r := (0, 0, 0, 0)) (by decide +kernel) rfl rfl (fun y3557 hy3557 => ?_)
      have hy3557 : y3557 = y3555 &&& y3556 := hy3557
      refine y_ic (c := 1) (len := 1) (r := (0, 0, 0, 0)) (by decide +kernel) (by decide) (fun y3558 hy3558 => ?_)
      have ea : y3557.toInt = (if N.testBit (m + 1) then 1 else 0 : Int) := by
        rw [hy3557, hy3555, hxb, i32_of (x := xv) (r := ((m + 1 : Nat) : Int)) (by omega), ofI (w := 1) hy3556 rfl, sb_tab N (by omega) (m + 1) (by omega)]
      rw [Nat.testBit_eq_decide_div_mod_eq] at ea
      rcases Decidable.em (y3557.toInt ≠ y3558.toInt) with q3559 | q3559
      ·
        refine y_cT (c := .ne) (off := 31) (pc' := 58) (len := 3) (r := (0, 0, 0, 0)) (by decide +kernel) (acmpT (c := .ne) (by show ¬ (_ = _); omega)) (by decide +kernel) ?_
        refine y_inc (j := 2) (a := xv) (c := 1) (ls' := fun v => [some (.inl (some 42)), some (zi xb), some v]) (len := 3) (r := (0, 0, 0, 0)) (by decide +kernel) rfl (fun _ => rfl) (by decide) (by omega) (by omega) (fun y3560 hy3560 => ?_)
        show qX (d + 1) 118 61 [some (.inl (some 42)), some (zi xb), some (zi y3560)] [] h3554 t _
        refine y_goto (off := (-54)) (pc' := 7) (len := 3) (r := (0, 0, 0, 0)) (by decide +kernel) (by decide +kernel) ?_
        have va : ∀ w, w < m + 1 + 1 → ci_ h3554 44 w 0 := fun w hw => by
          rcases Nat.lt_or_eq_of_le (Nat.le_of_lt_succ hw) with q9 | q9
          · exact ci_up (c2 w q9) ((F3554 44 w (by omega)))
          · subst q9
            exact ci_up v3554 (rfl)
        have nb : ¬ N / 2 ^ (m + 1) % 2 = 1 := fun q9 => by
          rw [decide_eq_true q9] at ea
          simp only [if_true] at ea
          omega
        have lt9 : ltC h3554 (ltU N (m + 1)) := by
          rw [ltU_s, if_neg nb, List.append_nil]
          exact ltC_up lt ((F3554 42 4 (by omega))) (fun j => (F3554 49 j (by omega)))
        exact ih h3554 (m + 1) y3560 hg3554 lt9 va (fun k j hC => ((F3554 k j (by omega))).trans (F0 k j hC)) (by omega) (by omega) (by omega)
      ·
        refine y_cF (c := .ne) (off := 31) (len := 3) (r := (0, 0, 0, 0)) (by decide +kernel) (acmpF (c := .ne) (by show _ = _; omega)) ?_
        refine y_same (i := .aload_n 0) (len := 1) (r := (0, 0, 0, 0)) (pc' := 31) (ls' := [some (.inl (some 42)), some (zi xb), some (zi xv)]) (st' := [.inl (some 42)]) (by decide +kernel) (fun k q => by cases q) rfl ?_
        have hv3561 := (F3554 42 4 (by omega)).trans hm
        refine y_get (j := 28) (len := 3) (r := (10, 4, 0, 363)) (by decide +kernel) hg3554 (tv42 hg3554) aw42 rfl rfl hv3561 ?_
        refine y_ic (c := 5) (len := 1) (r := (0, 0, 0, 0)) (by decide +kernel) (by decide) (fun y3562 hy3562 => ?_)
        rcases Decidable.em (xm.toInt ≥ y3562.toInt) with q3563 | q3563
        ·
          exfalso
          omega
        ·
          refine y_cF (c := .ge) (off := 23) (len := 3) (r := (0, 0, 0, 0)) (by decide +kernel) (acmpF (c := .ge) (by show _ < _; omega)) ?_
          refine y_same (i := .aload_n 0) (len := 1) (r := (0, 0, 0, 0)) (pc' := 39) (ls' := [some (.inl (some 42)), some (zi xb), some (zi xv)]) (st' := [.inl (some 42)]) (by decide +kernel) (fun k q => by cases q) rfl ?_
          refine y_get (j := 18) (len := 3) (r := (10, 1, 2, 360)) (by decide +kernel) hg3554 (tv42 hg3554) aw42 rfl rfl (g_rU (f := 1) (T2 := 49) hg3554 (tv42 hg3554) aw42 rfl (by decide)) ?_
          refine y_same (i := .aload_n 0) (len := 1) (r := (0, 0, 0, 0)) (pc' := 43) (ls' := [some (.inl (some 42)), some (zi xb), some (zi xv)]) (st' := [.inl (some 42), .inl (some 49)]) (by decide +kernel) (fun k q => by cases q) rfl ?_
          refine y_get (j := 28) (len := 3) (r := (10, 4, 0, 363)) (by decide +kernel) hg3554 (tv42 hg3554) aw42 rfl rfl hv3561 ?_
          refine y_same (i := .iload_n 2) (len := 1) (r := (0, 0, 0, 0)) (pc' := 47) (ls' := [some (.inl (some 42)), some (zi xb), some (zi xv)]) (st' := [zi xv, zi xm, .inl (some 49)]) (by decide +kernel) (fun k q => by cases q) rfl ?_
          refine y_ias (i := (ltU N m).length) (len := 1) (r := (0, 0, 0, 0)) (by decide +kernel) hg3554 (tv49 hg3554) aw49 rfl (by omega) (by omega) (sr1 (by omega)) (by omega) (by omega) (fun h3564 hg3564 hl3564 hs3564 ho3564 => ?_)
          refine y_same (i := .aload_n 0) (len := 1) (r := (0, 0, 0, 0)) (pc' := 49) (ls' := [some (.inl (some 42)), some (zi xb), some (zi xv)]) (st' := [.inl (some 42)]) (by decide +kernel) (fun k q => by cases q) rfl ?_
          refine y_same (i := .dup) (len := 1) (r := (0, 0, 0, 0)) (pc' := 50) (ls' := [some (.inl (some 42)), some (zi xb), some (zi xv)]) (st' := [.inl (some 42), .inl (some 42)]) (by decide +kernel) (fun k q => by cases q) rfl ?_
          have hv3565 := (ho3564 42 4 (Or.inl (by omega))).trans hv3561
          refine y_get (j := 28) (len := 3) (r := (10, 4, 0, 363)) (by decide +kernel) hg3564 (tv42 hg3564) aw42 rfl rfl hv3565 ?_
          refine y_ic (c := 1) (len := 1) (r := (0, 0, 0, 0)) (by decide +kernel) (by decide) (fun y3566 hy3566 => ?_)
          refine y_add (len := 1) (r := (0, 0, 0, 0)) (by decide +kernel) (by omega) (by omega) (fun y3567 hy3567 => ?_)
          refine y_put (j := 28) (lo := 0) (hi := 5) (len := 3) (r := (10, 4, 0, 363)) (by decide +kernel) hg3564 (tv42 hg3564) aw42 rfl rfl (by decide) rfl (by omega) (by omega) rfl (fun h3568 hg3568 hl3568 hs3568 ho3568 => ?_)
          have ho3568 : hO 42 4 h3564 h3568 := ho3568
          have hs3568 : hsl h3568 42 4 = some (zi y3567) := hs3568
          refine y_inc (j := 2) (a := xv) (c := 1) (ls' := fun v => [some (.inl (some 42)), some (zi xb), some v]) (len := 3) (r := (0, 0, 0, 0)) (by decide +kernel) rfl (fun _ => rfl) (by decide) (by omega) (by omega) (fun y3569 hy3569 => ?_)
          show qX (d + 1) 118 61 [some (.inl (some 42)), some (zi xb), some (zi y3569)] [] h3568 t _
          refine y_goto (off := (-54)) (pc' := 7) (len := 3) (r := (0, 0, 0, 0)) (by decide +kernel) (by decide +kernel) ?_
          have hv3570 := (ho3568 49 (ltU N m).length (Or.inl (by omega))).trans hs3564
          have va : ∀ w, w < m + 1 + 1 → ci_ h3568 44 w 0 := fun w hw => by
            rcases Nat.lt_or_eq_of_le (Nat.le_of_lt_succ hw) with q9 | q9
            · exact ci_up (c2 w q9) (((ho3568 44 w (by omega)).trans ((ho3564 44 w (by omega)).trans (F3554 44 w (by omega)))))
            · subst q9
              exact ci_up v3554 (((ho3568 44 (m + 1) (by omega)).trans (ho3564 44 (m + 1) (by omega))))
          have nb : N / 2 ^ (m + 1) % 2 = 1 := Decidable.byContradiction (fun q9 => by
            rw [decide_eq_false q9] at ea
            simp only [Bool.false_eq_true, if_false] at ea
            omega)
          have lt9 : ltC h3568 (ltU N (m + 1)) := by
            rw [ltU_s, if_pos nb]
            exact ltC_add lt ⟨_, hs3568, by omega⟩ ⟨_, hv3570, by omega⟩ (fun j hj => ((ho3568 49 j (by omega)).trans ((ho3564 49 j (by omega)).trans (F3554 49 j (by omega)))))
          exact ih h3568 (m + 1) y3569 hg3568 lt9 va (fun k j hC => (((ho3568 k j (by omega)).trans ((ho3564 k j (by omega)).trans (F3554 k j (by omega))))).trans (F0 k j hC)) (by omega) (by omega) (by omega)
theorem e_fl {d t N : Nat} {τ : List Nat} {h : zh} {xb : Int32} (hg : hG τ h) (hN : N < 64) (hxb : xb = Int32.ofInt (N : Int)) (v0 : ci_ h 44 0 0) : qV (d + 2) 118 [some (.inl (some 42)), some (zi xb), none] h t (fun h1 => hG τ h1 ∧ ltC h1 (ltr N) ∧ vC_ h1 (fun _ => 0) ∧ ∀ k j, (k ≠ 44 ∧ k ≠ 49 ∧ (k ≠ 42 ∨ j ≠ 4)) → hsl h1 k j = hsl h k j) := by
  refine qV_of ?_
  refine y_same (i := .aload_n 0) (len := 1) (r := (0, 0, 0, 0)) (pc' := 1) (ls' := [some (.inl (some 42)), some (zi xb), none]) (st' := [.inl (some 42)]) (by decide +kernel) (fun k q => by cases q) rfl ?_
  refine y_ic (c := 0) (len := 1) (r := (0, 0, 0, 0)) (by decide +kernel) (by decide) (fun y3571 hy3571 => ?_)
  refine y_put (j := 28) (lo := 0) (hi := 5) (len := 3) (r := (10, 4, 0, 363)) (by decide +kernel) hg (tv42 hg) aw42 rfl rfl (by decide) rfl (by omega) (by omega) rfl (fun h3572 hg3572 hl3572 hs3572 ho3572 => ?_)
  have ho3572 : hO 42 4 h h3572 := ho3572
  have hs3572 : hsl h3572 42 4 = some (zi y3571) := hs3572
  refine y_ic (c := 1) (len := 1) (r := (0, 0, 0, 0)) (by decide +kernel) (by decide) (fun y3573 hy3573 => ?_)
  refine y_same (i := .istore_n 2) (len := 1) (r := (0, 0, 0, 0)) (pc' := 7) (ls' := [some (.inl (some 42)), some (zi xb), some (zi y3573)]) (st' := []) (by decide +kernel) (fun k q => by cases q) rfl ?_
  refine qX_V (fl_l (h0 := h3572) hN hxb 6 h3572 0 y3573 hg3572 ⟨⟨_, hs3572, by show _ = ((0 : Nat) : Int); omega⟩, fun i v hv => by cases hv⟩ (fun w hw => by obtain rfl : w = 0 := (by omega); exact ci_up v0 ((ho3572 44 0 (by omega)))) (fun k j _ => rfl) (by omega) (by omega) (by omega)) (fun h1 hR => ⟨hR.1, hR.2.1, hR.2.2.1, fun k j hC => (hR.2.2.2 k j hC).trans ((ho3572 k j (by omega)))⟩)
theorem e_clrS {d t : Nat} {τ : List Nat} {h : zh} {ls : List Nat} (hg : hG τ h) : qV (d + 2) 117 [some (.inl (some 42))] h t (fun h1 => hG τ h1 ∧ rcC h1 ls (0, 0, none) ∧ ∀ k j, (k ≠ 51 ∧ (k ≠ 42 ∨ j < 6)) → hsl h1 k j = hsl h k j) := by
  refine qV_of ?_
  refine y_same (i := .aload_n 0) (len := 1) (r := (0, 0, 0, 0)) (pc' := 1) (ls' := [some (.inl (some 42))]) (st' := [.inl (some 42)]) (by decide +kernel) (fun k q => by cases q) rfl ?_
  refine y_get (j := 25) (len := 3) (r := (10, 3, 2, 362)) (by decide +kernel) hg (tv42 hg) aw42 rfl rfl (g_rU (f := 3) (T2 := 51) hg (tv42 hg) aw42 rfl (by decide)) ?_
  refine y_ic (c := (-1)) (len := 1) (r := (0, 0, 0, 0)) (by decide +kernel) (by decide) (fun y3574 hy3574 => ?_)
  refine y_cV (i := .invokestatic 79) (len := 3) (r := (1, 274, 60, 1192)) (nL := 4) (k := 0) (n := 2) (hs := []) (args := [.inl (some 51), zi y3574]) (rest := []) (l0 := [some (.inl (some 51)), some (zi y3574), none, none]) (by decide +kernel) (Or.inl ⟨_, rfl⟩) rfl rfl rfl rfl (Nat.le_of_ble_eq_true rfl) rfl rfl (qV_le (by omega) (e_fil51 (d := 0) hg)) (fun h3575 hR3575 => ?_)
  obtain ⟨hg3575, c3575, F3575⟩ := hR3575
  refine y_same (i := .aload_n 0) (len := 1) (r := (0, 0, 0, 0)) (pc' := 9) (ls' := [some (.inl (some 42))]) (st' := [.inl (some 42)]) (by decide +kernel) (fun k q => by cases q) rfl ?_
  refine y_ic (c := 0) (len := 1) (r := (0, 0, 0, 0)) (by decide +kernel) (by decide) (fun y3576 hy3576 => ?_)
  refine y_put (j := 36) (lo := (-2147483648)) (hi := 2147483647) (len := 3) (r := (10, 6, 0, 366)) (by decide +kernel) hg3575 (tv42 hg3575) aw42 rfl rfl (by decide) rfl (qin_full _).1 (qin_full _).2 rfl (fun h3577 hg3577 hl3577 hs3577 ho3577 => ?_)
  have ho3577 : hO 42 6 h3575 h3577 := ho3577
  have hs3577 : hsl h3577 42 6 = some (zi y3576) := hs3577
  refine y_same (i := .aload_n 0) (len := 1) (r := (0, 0, 0, 0)) (pc' := 14) (ls' := [some (.inl (some 42))]) (st' := [.inl (some 42)]) (by decide +kernel) (fun k q => by cases q) rfl ?_
  refine y_ic (c := 0) (len := 1) (r := (0, 0, 0, 0)) (by decide +kernel) (by decide) (fun y3578 hy3578 => ?_)
  refine y_put (j := 39) (lo := (-2147483648)) (hi := 2147483647) (len := 3) (r := (10, 7, 0, 368)) (by decide +kernel) hg3577 (tv42 hg3577) aw42 rfl rfl (by decide) rfl (qin_full _).1 (qin_full _).2 rfl (fun h3579 hg3579 hl3579 hs3579 ho3579 => ?_)
  have ho3579 : hO 42 7 h3577 h3579 := ho3579
  have hs3579 : hsl h3579 42 7 = some (zi y3578) := hs3579
  refine y_same (i := .aload_n 0) (len := 1) (r := (0, 0, 0, 0)) (pc' := 19) (ls' := [some (.inl (some 42))]) (st' := [.inl (some 42)]) (by decide +kernel) (fun k q => by cases q) rfl ?_
  refine y_ic (c := (-1)) (len := 1) (r := (0, 0, 0, 0)) (by decide +kernel) (by decide) (fun y3580 hy3580 => ?_)
  refine y_put (j := 42) (lo := (-2147483648)) (hi := 2147483647) (len := 3) (r := (10, 8, 0, 370)) (by decide +kernel) hg3579 (tv42 hg3579) aw42 rfl rfl (by decide) rfl (qin_full _).1 (qin_full _).2 rfl (fun h3581 hg3581 hl3581 hs3581 ho3581 => ?_)
  have ho3581 : hO 42 8 h3579 h3581 := ho3581
  have hs3581 : hsl h3581 42 8 = some (zi y3580) := hs3581
  refine y_same (i := .aload_n 0) (len := 1) (r := (0, 0, 0, 0)) (pc' := 24) (ls' := [some (.inl (some 42))]) (st' := [.inl (some 42)]) (by decide +kernel) (fun k q => by cases q) rfl ?_
  refine y_ic (c := (-1)) (len := 1) (r := (0, 0, 0, 0)) (by decide +kernel) (by decide) (fun y3582 hy3582 => ?_)
  refine y_put (j := 45) (lo := (-2147483648)) (hi := 2147483647) (len := 3) (r := (10, 9, 0, 372)) (by decide +kernel) hg3581 (tv42 hg3581) aw42 rfl rfl (by decide) rfl (qin_full _).1 (qin_full _).2 rfl (fun h3583 hg3583 hl3583 hs3583 ho3583 => ?_)
  have ho3583 : hO 42 9 h3581 h3583 := ho3583
  have hs3583 : hsl h3583 42 9 = some (zi y3582) := hs3583
  refine y_same (i := .aload_n 0) (len := 1) (r := (0, 0, 0, 0)) (pc' := 29) (ls' := [some (.inl (some 42))]) (st' := [.inl (some 42)]) (by decide +kernel) (fun k q => by cases q) rfl ?_
  refine y_ic (c := (-1)) (len := 1) (r := (0, 0, 0, 0)) (by decide +kernel) (by decide) (fun y3584 hy3584 => ?_)
  refine y_put (j := 48) (lo := (-2147483648)) (hi := 2147483647) (len := 3) (r := (10, 10, 0, 374)) (by decide +kernel) hg3583 (tv42 hg3583) aw42 rfl rfl (by decide) rfl (qin_full _).1 (qin_full _).2 rfl (fun h3585 hg3585 hl3585 hs3585 ho3585 => ?_)
  have ho3585 : hO 42 10 h3583 h3585 := ho3585
  have hs3585 : hsl h3585 42 10 = some (zi y3584) := hs3585
  refine y_rV (len := 1) (r := (0, 0, 0, 0)) (nL := 1) (n9 := 1) (hs := []) (by decide +kernel) rfl ?_
  have hv3586 := (ho3579 42 6 (Or.inr (by omega))).trans hs3577
  have hv3587 := (ho3581 42 6 (Or.inr (by omega))).trans hv3586
  have hv3588 := (ho3583 42 6 (Or.inr (by omega))).trans hv3587
  have hv3589 := (ho3585 42 6 (Or.inr (by omega))).trans hv3588
  have hv3590 := (ho3581 42 7 (Or.inr (by omega))).trans hs3579
  have hv3591 := (ho3583 42 7 (Or.inr (by omega))).trans hv3590
  have hv3592 := (ho3585 42 7 (Or.inr (by omega))).trans hv3591
  have hv3593 := (ho3583 42 8 (Or.inr (by omega))).trans hs3581
  have hv3594 := (ho3585 42 8 (Or.inr (by omega))).trans hv3593
  have hv3595 := (ho3585 42 9 (Or.inr (by omega))).trans hs3583
  exact ⟨hg3585, ⟨⟨_, hv3589, by show _ = ((0 : Nat) : Int); omega⟩, ⟨_, hv3592, by show _ = ((0 : Nat) : Int); omega⟩, ⟨_, hv3594, by show _ = (-1 : Int); omega⟩, ⟨_, hv3595, by show _ = (-1 : Int); omega⟩, ⟨_, hs3585, by show _ = (-1 : Int); omega⟩, fun v h1 h2 => ⟨_, (((ho3585 51 v (by omega)).trans ((ho3583 51 v (by omega)).trans ((ho3581 51 v (by omega)).trans ((ho3579 51 v (by omega)).trans (ho3577 51 v (by omega))))))).trans (c3575 v (by omega)), by show _ = (-1 : Int); omega⟩⟩, fun k j hC => ((ho3585 k j (by omega)).trans ((ho3583 k j (by omega)).trans ((ho3581 k j (by omega)).trans ((ho3579 k j (by omega)).trans ((ho3577 k j (by omega)).trans (F3575 k j (by omega)))))))⟩
theorem tel1_b {b : bsT} {f : tlT} {s : rcT} (hl : b.1.1.length ≤ 5) (hs : s.2.1 ≤ s.1) : (tel1 b s f).1 ≤ s.1 + 243 ∧ (tel1 b s f).2.1 ≤ (tel1 b s f).1 := by
  have key : ∀ (L : List tlT) (s : rcT), s.2.1 ≤ s.1 → (L.foldl (fun s sh => lok b f sh s) s).2.1 ≤ (L.foldl (fun s sh => lok b f sh s) s).1 := by
    intro L
    induction L with
    | nil => intro s h; exact h
    | cons x L ih => intro s h; exact ih _ (lok_b h)
  unfold tel1
  split
  · have h1 := fold_1 (b := b) (f := f) (L := shL b f) (s := s)
    have h2 := sh_len (f := f) hl
    exact ⟨by omega, key _ _ hs⟩
  · exact ⟨by omega, hs⟩
theorem jd_l {d t : Nat} {τ : List Nat} {h0 : zh} {b : bsT} {ls : List Nat} {SL : Nat} (tyL : tyS τ SL) (hSL : SL + 4 < 42) (laL0 : laS h0 SL) (sdL0 : sdC h0 SL b.1) (okA : ∀ (j : Nat) (i : it4), b.1.1[j]? = some i → okI i) (okB : ∀ (j : Nat) (i : it4), b.1.2[j]? = some i → okI i) (hl5 : b.1.1.length ≤ 5) (p200 : hsl h0 2 0 = some (.inl (some SL))) {S : Nat} (tyS9 : tyS τ S) (hS9 : S + 4 < 42) (la0 : laS h0 S) (sd0 : sdC h0 S b.2) (ok1 : ∀ (j : Nat) (i : it4), b.2.1[j]? = some i → okI i) (ok2 : ∀ (j : Nat) (i : it4), b.2.2[j]? = some i → okI i) (hq5 : b.2.1.length ≤ 5) (p210 : hsl h0 2 1 = some (.inl (some S))) (lt0 : ltC h0 ls) (nd : ls.Nodup) (hls : ∀ v ∈ ls, 1 ≤ v ∧ v ≤ 5) (hls5 : ls.length ≤ 5) : ∀ (n : Nat) (h : zh) (f : tlT) (s : rcT) (L : List tlT) (i : Nat) (xm : Int32) (xi : Int32), (hG τ h) → (xm.toInt = 1) → (xi.toInt = (i : Int)) → (vC_ h f) → (rcC h ls s) → (∀ k j, ((k ≠ 44 ∨ j = 0) ∧ k ≠ 45 ∧ k ≠ 46 ∧ k ≠ 47 ∧ k ≠ 48 ∧ k ≠ 50 ∧ k ≠ 51 ∧ (k ≠ 43 ∨ (j ≠ 5 ∧ j ≠ 6)) ∧ (k ≠ 42 ∨ j < 6)) → hsl h k j = hsl h0 k j) → (lk_ (nx_ (fun _ => 0) (fun m _ => m + 1) (fun m p => max m p) ls 0) (f :: L) none) → (∀ x ∈ f :: L, (∀ v, v ≤ 5 → x v ≤ 5) ∧ x 0 = 0) → (i + L.length < 999) → (s.1 + wt L.length < 1000000) → (s.2.1 ≤ s.1) → (L.length < n) → qX (d + 7) 116 24 [some (.inl (some 42)), some (.inl (some 2)), some (zi xm), some (zi xi)] [] h t (rV (fun h1 => hG τ h1 ∧ (∀ k j, (((k ≠ 44 ∨ j = 0) ∧ k ≠ 45 ∧ k ≠ 46 ∧ k ≠ 47 ∧ k ≠ 48 ∧ k ≠ 50 ∧ k ≠ 51 ∧ (k ≠ 43 ∨ (j ≠ 5 ∧ j ≠ 6)) ∧ (k ≠ 42 ∨ j < 6)) ∧ (k ≠ 42 ∨ j ≠ 5)) → hsl h1 k j = hsl h0 k j) ∧ rcC h1 ls ((f :: L).foldl (tel1 b) s) ∧ ci_ h1 42 5 1) t) := by
  intro n
  induction n with
  | zero =>
    intro h f s L i xm xi hg hxm hxi vc rc F0 lk hL hi hs1 hs2 hn
    exfalso
    omega
  | succ n ih =>
    intro h f s L i xm xi hg hxm hxi vc rc F0 lk hL hi hs1 hs2 hn
    have U : ∀ k j, k < 42 → hsl h k j = hsl h0 k j := fun k j hk => F0 k j (by omega)
    have laL : laS h SL := laS_up laL0 (fun k j hk => U _ _ (by omega))
    have sdL : sdC h SL b.1 := sdC_up sdL0 (fun k j h1 h2 => U _ _ (by omega))
    have la9 : laS h S := laS_up la0 (fun k j hk => U _ _ (by omega))
    have sd9 : sdC h S b.2 := sdC_up sd0 (fun k j h1 h2 => U _ _ (by omega))
    have p20 : hsl h 2 0 = some (.inl (some SL)) := (U _ _ (by omega)).trans p200
    have p21 : hsl h 2 1 = some (.inl (some S)) := (U _ _ (by omega)).trans p210
    have lt : ltC h ls := ltC_up lt0 (F0 _ _ (by omega)) (fun j => F0 _ _ (by omega))
    obtain ⟨hfb, hf0⟩ := hL f List.mem_cons_self
    have w5 : 500 ≤ wt L.length := wt_5
    refine y_same (i := .iload_n 3) (len := 1) (r := (0, 0, 0, 0)) (pc' := 25) (ls' := [some (.inl (some 42)), some (.inl (some 2)), some (zi xm), some (zi xi)]) (st' := [zi xi]) (by decide +kernel) (fun k q => by cases q) rfl ?_
    refine y_si (c := 1000) (len := 3) (r := (0, 0, 0, 0)) (by decide +kernel) (by decide) (fun y3596 hy3596 => ?_)
    refine y_cF (c := .ge) (off := 34) (len := 3) (r := (0, 0, 0, 0)) (by decide +kernel) (acmpF (c := .ge) (by show _ < _; omega)) ?_
    refine y_same (i := .iload_n 2) (len := 1) (r := (0, 0, 0, 0)) (pc' := 32) (ls' := [some (.inl (some 42)), some (.inl (some 2)), some (zi xm), some (zi xi)]) (st' := [zi xm]) (by decide +kernel) (fun k q => by cases q) rfl ?_
    refine y_iF (c := .eq) (off := 30) (len := 3) (r := (0, 0, 0, 0)) (by decide +kernel) (acmpF (c := .eq) (by show ¬ (_ = _); omega)) ?_
    refine y_same (i := .aload_n 0) (len := 1) (r := (0, 0, 0, 0)) (pc' := 36) (ls' := [some (.inl (some 42)), some (.inl (some 2)), some (zi xm), some (zi xi)]) (st' := [.inl (some 42)]) (by decide +kernel) (fun k q => by cases q) rfl ?_
    refine y_same (i := .aload_n 1) (len := 1) (r := (0, 0, 0, 0)) (pc' := 37) (ls' := [some (.inl (some 42)), some (.inl (some 2)), some (zi xm), some (zi xi)]) (st' := [.inl (some 2), .inl (some 42)]) (by decide +kernel) (fun k q => by cases q) rfl ?_
    refine y_get (j := 63) (len := 3) (r := (9, 0, 2, 20199)) (by decide +kernel) hg (tv2 hg) aw1000 rfl rfl p20 ?_
    refine y_cI (i := .invokevirtual 67) (len := 3) (r := (0, 121, 10, 1202)) (nL := 5) (k := 2) (n := 2) (hs := []) (args := [.inl (some 42), .inl (some SL)]) (rest := []) (l0 := [some (.inl (some 42)), some (.inl (some SL)), none, none, none]) (by decide +kernel) (Or.inr (Or.inl ⟨_, rfl⟩)) rfl rfl rfl rfl (Nat.le_of_ble_eq_true rfl) (zO hg (tv42 hg) aw42 rfl) rfl (qI_le (by omega) (e_al (d := 0) (S := SL) (RA := SL + 1) (IA := SL + 2) (RB := SL + 3) (IB := SL + 4) (l := b.1.1) (c := b.1.2) hg vc hfb tyL.1 laL.1 laL.2.1 tyL.2.1 tyL.2.2.1 laL.2.2.1 sdL.1 okA tyL.2.2.2.1 tyL.2.2.2.2 laL.2.2.2 sdL.2 okB)) (fun y3597 qy3597 hRy3597 => ?_)
    obtain ⟨rfl, hDy3597⟩ := hRy3597
    rcases hDy3597 with ⟨hyy3597, al9⟩ | ⟨hyy3597, al9⟩
    ·
      refine y_iF (c := .eq) (off := 8) (len := 3) (r := (0, 0, 0, 0)) (by decide +kernel) (acmpF (c := .eq) (by show ¬ (_ = _); omega)) ?_
      refine y_same (i := .aload_n 0) (len := 1) (r := (0, 0, 0, 0)) (pc' := 47) (ls' := [some (.inl (some 42)), some (.inl (some 2)), some (zi xm), some (zi xi)]) (st' := [.inl (some 42)]) (by decide +kernel) (fun k q => by cases q) rfl ?_
      refine y_same (i := .aload_n 1) (len := 1) (r := (0, 0, 0, 0)) (pc' := 48) (ls' := [some (.inl (some 42)), some (.inl (some 2)), some (zi xm), some (zi xi)]) (st' := [.inl (some 2), .inl (some 42)]) (by decide +kernel) (fun k q => by cases q) rfl ?_
      refine y_cV (i := .invokevirtual 71) (len := 3) (r := (0, 125, 10, 1221)) (nL := 5) (k := 0) (n := 2) (hs := []) (args := [.inl (some 42), .inl (some 2)]) (rest := []) (l0 := [some (.inl (some 42)), some (.inl (some 2)), none, none, none]) (by decide +kernel) (Or.inr (Or.inl ⟨_, rfl⟩)) rfl rfl rfl rfl (Nat.le_of_ble_eq_true rfl) (zO hg (tv42 hg) aw42 rfl) rfl (qV_le (by omega) (e_cs (d := 0) (b := b) (f := f) (ls := ls) (s := s) hg tyL.2.1 tyL.2.2.1 (by omega) (by omega) laL.2.2.1 sdL.1 okA hl5 tyS9 hS9 la9 sd9 ok1 ok2 hq5 hfb lt hls hls5 tyL.1 p20 laL.1 vc p21 (own_pos al9) hf0 rc (by omega) hs2)) (fun h3598 hR3598 => ?_)
      obtain ⟨hg3598, F3598, rc3598⟩ := hR3598
      refine y_same (i := .aload_n 0) (len := 1) (r := (0, 0, 0, 0)) (pc' := 52) (ls' := [some (.inl (some 42)), some (.inl (some 2)), some (zi xm), some (zi xi)]) (st' := [.inl (some 42)]) (by decide +kernel) (fun k q => by cases q) rfl ?_
      refine y_cI (i := .invokevirtual 75) (len := 3) (r := (0, 119, 10, 1293)) (nL := 3) (k := 2) (n := 1) (hs := []) (args := [.inl (some 42)]) (rest := []) (l0 := [some (.inl (some 42)), none, none]) (by decide +kernel) (Or.inr (Or.inl ⟨_, rfl⟩)) rfl rfl rfl rfl (Nat.le_of_ble_eq_true rfl) (zO hg3598 (tv42 hg3598) aw42 rfl) rfl (qI_le (by omega) (e_tn (d := 0) (f := f) (ls := ls) hg3598 (vC_up vc (fun j => (F3598 44 j (by omega)))) (ltC_up lt ((F3598 42 4 (by omega))) (fun j => (F3598 49 j (by omega)))) nd hls (fun v hv => Nat.le_succ_of_le (hfb v hv)) hls5)) (fun y3599 h3599 hRy3599 => ?_)
      obtain ⟨hg3599, F3599, hD3599⟩ := hRy3599
      rcases hD3599 with ⟨hy3599, f9, nx9, vc9⟩ | ⟨hy3599, nx9⟩
      ·
        refine y_same (i := .istore_n 2) (len := 1) (r := (0, 0, 0, 0)) (pc' := 56) (ls' := [some (.inl (some 42)), some (.inl (some 2)), some (zi y3599), some (zi xi)]) (st' := []) (by decide +kernel) (fun k q => by cases q) rfl ?_
        refine y_inc (j := 3) (a := xi) (c := 1) (ls' := fun v => [some (.inl (some 42)), some (.inl (some 2)), some (zi y3599), some v]) (len := 3) (r := (0, 0, 0, 0)) (by decide +kernel) rfl (fun _ => rfl) (by decide) (by omega) (by omega) (fun y3600 hy3600 => ?_)
        show qX (d + 7) 116 59 [some (.inl (some 42)), some (.inl (some 2)), some (zi y3599), some (zi y3600)] [] h3599 t _
        refine y_goto (off := (-35)) (pc' := 24) (len := 3) (r := (0, 0, 0, 0)) (by decide +kernel) (by decide +kernel) ?_
        have te : tel1 b s f = (shL b f).foldl (fun s sh => lok b f sh s) s := by
          unfold tel1
          rw [if_pos al9]
        have rc9 : rcC h3599 ls (tel1 b s f) := by
          rw [te]
          exact (rcC_up rc3598 (fun k j hC => (F3599 k j (by omega))))
        obtain ⟨tb1, tb2⟩ := tel1_b (b := b) (f := f) hl5 hs2
        obtain ⟨L2, rfl⟩ : ∃ L2, L = f9 :: L2 := by
          cases L with
          | nil =>
            have lk9 : nx_ (fun _ => 0) (fun m _ => m + 1) (fun m p => max m p) ls 0 f = none := lk
            rw [nx9] at lk9
            cases lk9
          | cons x L2 =>
            have lk9 := lk.1
            rw [nx9] at lk9
            cases lk9
            exact ⟨L2, rfl⟩
        rw [List.length_cons] at hi hs1 hn
        rw [wt_s] at hs1
        rw [List.foldl_cons]
        exact ih h3599 f9 (tel1 b s f) L2 (i + 1) y3599 y3600 hg3599 (by omega) (by omega) vc9 rc9 (fun k j hC => (((F3599 k j (by omega)).trans (F3598 k j (by omega)))).trans (F0 k j hC)) lk.2 (fun x hx => hL x (List.mem_cons_of_mem _ hx)) (by omega) (by omega) tb2 (by omega)
      ·
        refine y_same (i := .istore_n 2) (len := 1) (r := (0, 0, 0, 0)) (pc' := 56) (ls' := [some (.inl (some 42)), some (.inl (some 2)), some (zi y3599), some (zi xi)]) (st' := []) (by decide +kernel) (fun k q => by cases q) rfl ?_
        refine y_inc (j := 3) (a := xi) (c := 1) (ls' := fun v => [some (.inl (some 42)), some (.inl (some 2)), some (zi y3599), some v]) (len := 3) (r := (0, 0, 0, 0)) (by decide +kernel) rfl (fun _ => rfl) (by decide) (by omega) (by omega) (fun y3601 hy3601 => ?_)
        show qX (d + 7) 116 59 [some (.inl (some 42)), some (.inl (some 2)), some (zi y3599), some (zi y3601)] [] h3599 t _
        refine y_goto (off := (-35)) (pc' := 24) (len := 3) (r := (0, 0, 0, 0)) (by decide +kernel) (by decide +kernel) ?_
        have te : tel1 b s f = (shL b f).foldl (fun s sh => lok b f sh s) s := by
          unfold tel1
          rw [if_pos al9]
        have rc9 : rcC h3599 ls (tel1 b s f) := by
          rw [te]
          exact (rcC_up rc3598 (fun k j hC => (F3599 k j (by omega))))
        obtain ⟨tb1, tb2⟩ := tel1_b (b := b) (f := f) hl5 hs2
        obtain rfl : L = [] := by
          cases L with
          | nil => rfl
          | cons x L2 =>
            have lk9 := lk.1
            rw [nx9] at lk9
            cases lk9
        rw [List.length_nil] at hn hi hs1
        rw [List.foldl_cons, List.foldl_nil]
        refine y_same (i := .iload_n 3) (len := 1) (r := (0, 0, 0, 0)) (pc' := 25) (ls' := [some (.inl (some 42)), some (.inl (some 2)), some (zi y3599), some (zi y3601)]) (st' := [zi y3601]) (by decide +kernel) (fun k q => by cases q) rfl ?_
        refine y_si (c := 1000) (len := 3) (r := (0, 0, 0, 0)) (by decide +kernel) (by decide) (fun y3602 hy3602 => ?_)
        refine y_cF (c := .ge) (off := 34) (len := 3) (r := (0, 0, 0, 0)) (by decide +kernel) (acmpF (c := .ge) (by show _ < _; omega)) ?_
        refine y_same (i := .iload_n 2) (len := 1) (r := (0, 0, 0, 0)) (pc' := 32) (ls' := [some (.inl (some 42)), some (.inl (some 2)), some (zi y3599), some (zi y3601)]) (st' := [zi y3599]) (by decide +kernel) (fun k q => by cases q) rfl ?_
        refine y_iT (c := .eq) (off := 30) (pc' := 62) (len := 3) (r := (0, 0, 0, 0)) (by decide +kernel) (acmpT (c := .eq) (by show _ = _; omega)) (by decide +kernel) ?_
        refine y_same (i := .aload_n 0) (len := 1) (r := (0, 0, 0, 0)) (pc' := 63) (ls' := [some (.inl (some 42)), some (.inl (some 2)), some (zi y3599), some (zi y3601)]) (st' := [.inl (some 42)]) (by decide +kernel) (fun k q => by cases q) rfl ?_
        refine y_ic (c := 1) (len := 1) (r := (0, 0, 0, 0)) (by decide +kernel) (by decide) (fun y3603 hy3603 => ?_)
        refine y_put (j := 32) (lo := 0) (hi := 1) (len := 3) (r := (10, 5, 1, 364)) (by decide +kernel) hg3599 (tv42 hg3599) aw42 rfl rfl (by decide) rfl (by omega) (by omega) (zfit_b (by omega) (by omega)).1 (fun h3604 hg3604 hl3604 hs3604 ho3604 => ?_)
        have ho3604 : hO 42 5 h3599 h3604 := ho3604
        have hs3604 : hsl h3604 42 5 = some (zi y3603) := hs3604
        refine y_rV (len := 1) (r := (0, 0, 0, 0)) (nL := 4) (n9 := 2) (hs := []) (by decide +kernel) rfl ?_
        exact ⟨hg3604, (fun k j hC => ((ho3604 k j (by omega))).trans ((((F3599 k j (by omega)).trans (F3598 k j (by omega)))).trans (F0 k j (by omega)))), rcC_up rc9 (fun k j hC => (ho3604 k j (by omega))), ⟨_, hs3604, by omega⟩⟩
    ·
      refine y_iT (c := .eq) (off := 8) (pc' := 51) (len := 3) (r := (0, 0, 0, 0)) (by decide +kernel) (acmpT (c := .eq) (by show _ = _; omega)) (by decide +kernel) ?_
      refine y_same (i := .aload_n 0) (len := 1) (r := (0, 0, 0, 0)) (pc' := 52) (ls' := [some (.inl (some 42)), some (.inl (some 2)), some (zi xm), some (zi xi)]) (st' := [.inl (some 42)]) (by decide +kernel) (fun k q => by cases q) rfl ?_
      refine y_cI (i := .invokevirtual 75) (len := 3) (r := (0, 119, 10, 1293)) (nL := 3) (k := 2) (n := 1) (hs := []) (args := [.inl (some 42)]) (rest := []) (l0 := [some (.inl (some 42)), none, none]) (by decide +kernel) (Or.inr (Or.inl ⟨_, rfl⟩)) rfl rfl rfl rfl (Nat.le_of_ble_eq_true rfl) (zO hg (tv42 hg) aw42 rfl) rfl (qI_le (by omega) (e_tn (d := 0) (f := f) (ls := ls) hg (vC_up vc (fun j => rfl)) (ltC_up lt (rfl) (fun j => rfl)) nd hls (fun v hv => Nat.le_succ_of_le (hfb v hv)) hls5)) (fun y3605 h3605 hRy3605 => ?_)
      obtain ⟨hg3605, F3605, hD3605⟩ := hRy3605
      rcases hD3605 with ⟨hy3605, f9, nx9, vc9⟩ | ⟨hy3605, nx9⟩
      ·
        refine y_same (i := .istore_n 2) (len := 1) (r := (0, 0, 0, 0)) (pc' := 56) (ls' := [some (.inl (some 42)), some (.inl (some 2)), some (zi y3605), some (zi xi)]) (st' := []) (by decide +kernel) (fun k q => by cases q) rfl ?_
        refine y_inc (j := 3) (a := xi) (c := 1) (ls' := fun v => [some (.inl (some 42)), some (.inl (some 2)), some (zi y3605), some v]) (len := 3) (r := (0, 0, 0, 0)) (by decide +kernel) rfl (fun _ => rfl) (by decide) (by omega) (by omega) (fun y3606 hy3606 => ?_)
        show qX (d + 7) 116 59 [some (.inl (some 42)), some (.inl (some 2)), some (zi y3605), some (zi y3606)] [] h3605 t _
        refine y_goto (off := (-35)) (pc' := 24) (len := 3) (r := (0, 0, 0, 0)) (by decide +kernel) (by decide +kernel) ?_
        have te : tel1 b s f = s := by
          unfold tel1
          rw [if_neg al9]
        have rc9 : rcC h3605 ls (tel1 b s f) := by
          rw [te]
          exact (rcC_up rc (fun k j hC => (F3605 k j (by omega))))
        obtain ⟨tb1, tb2⟩ := tel1_b (b := b) (f := f) hl5 hs2
        obtain ⟨L2, rfl⟩ : ∃ L2, L = f9 :: L2 := by
          cases L with
          | nil =>
            have lk9 : nx_ (fun _ => 0) (fun m _ => m + 1) (fun m p => max m p) ls 0 f = none := lk
            rw [nx9] at lk9
            cases lk9
          | cons x L2 =>
            have lk9 := lk.1
            rw [nx9] at lk9
            cases lk9
            exact ⟨L2, rfl⟩
        rw [List.length_cons] at hi hs1 hn
        rw [wt_s] at hs1
        rw [List.foldl_cons]
        exact ih h3605 f9 (tel1 b s f) L2 (i + 1) y3605 y3606 hg3605 (by omega) (by omega) vc9 rc9 (fun k j hC => ((F3605 k j (by omega))).trans (F0 k j hC)) lk.2 (fun x hx => hL x (List.mem_cons_of_mem _ hx)) (by omega) (by omega) tb2 (by omega)
      ·
        refine y_same (i := .istore_n 2) (len := 1) (r := (0, 0, 0, 0)) (pc' := 56) (ls' := [some (.inl (some 42)), some (.inl (some 2)), some (zi y3605), some (zi xi)]) (st' := []) (by decide +kernel) (fun k q => by cases q) rfl ?_
        refine y_inc (j := 3) (a := xi) (c := 1) (ls' := fun v => [some (.inl (some 42)), some (.inl (some 2)), some (zi y3605), some v]) (len := 3) (r := (0, 0, 0, 0)) (by decide +kernel) rfl (fun _ => rfl) (by decide) (by omega) (by omega) (fun y3607 hy3607 => ?_)
        show qX (d + 7) 116 59 [some (.inl (some 42)), some (.inl (some 2)), some (zi y3605), some (zi y3607)] [] h3605 t _
        refine y_goto (off := (-35)) (pc' := 24) (len := 3) (r := (0, 0, 0, 0)) (by decide +kernel) (by decide +kernel) ?_
        have te : tel1 b s f = s := by
          unfold tel1
          rw [if_neg al9]
        have rc9 : rcC h3605 ls (tel1 b s f) := by
          rw [te]
          exact (rcC_up rc (fun k j hC => (F3605 k j (by omega))))
        obtain ⟨tb1, tb2⟩ := tel1_b (b := b) (f := f) hl5 hs2
        obtain rfl : L = [] := by
          cases L with
          | nil => rfl
          | cons x L2 =>
            have lk9 := lk.1
            rw [nx9] at lk9
            cases lk9
        rw [List.length_nil] at hn hi hs1
        rw [List.foldl_cons, List.foldl_nil]
        refine y_same (i := .iload_n 3) (len := 1) (r := (0, 0, 0, 0)) (pc' := 25) (ls' := [some (.inl (some 42)), some (.inl (some 2)), some (zi y3605), some (zi y3607)]) (st' := [zi y3607]) (by decide +kernel) (fun k q => by cases q) rfl ?_
        refine y_si (c := 1000) (len := 3) (r := (0, 0, 0, 0)) (by decide +kernel) (by decide) (fun y3608 hy3608 => ?_)
        refine y_cF (c := .ge) (off := 34) (len := 3) (r := (0, 0, 0, 0)) (by decide +kernel) (acmpF (c := .ge) (by show _ < _; omega)) ?_
        refine y_same (i := .iload_n 2) (len := 1) (r := (0, 0, 0, 0)) (pc' := 32) (ls' := [some (.inl (some 42)), some (.inl (some 2)), some (zi y3605), some (zi y3607)]) (st' := [zi y3605]) (by decide +kernel) (fun k q => by cases q) rfl ?_
        refine y_iT (c := .eq) (off := 30) (pc' := 62) (len := 3) (r := (0, 0, 0, 0)) (by decide +kernel) (acmpT (c := .eq) (by show _ = _; omega)) (by decide +kernel) ?_
        refine y_same (i := .aload_n 0) (len := 1) (r := (0, 0, 0, 0)) (pc' := 63) (ls' := [some (.inl (some 42)), some (.inl (some 2)), some (zi y3605), some (zi y3607)]) (st' := [.inl (some 42)]) (by decide +kernel) (fun k q => by cases q) rfl ?_
        refine y_ic (c := 1) (len := 1) (r := (0, 0, 0, 0)) (by decide +kernel) (by decide) (fun y3609 hy3609 => ?_)
        refine y_put (j := 32) (lo := 0) (hi := 1) (len := 3) (r := (10, 5, 1, 364)) (by decide +kernel) hg3605 (tv42 hg3605) aw42 rfl rfl (by decide) rfl (by omega) (by omega) (zfit_b (by omega) (by omega)).1 (fun h3610 hg3610 hl3610 hs3610 ho3610 => ?_)
        have ho3610 : hO 42 5 h3605 h3610 := ho3610
        have hs3610 : hsl h3610 42 5 = some (zi y3609) := hs3610
        refine y_rV (len := 1) (r := (0, 0, 0, 0)) (nL := 4) (n9 := 2) (hs := []) (by decide +kernel) rfl ?_
        exact ⟨hg3610, (fun k j hC => ((ho3610 k j (by omega))).trans (((F3605 k j (by omega))).trans (F0 k j (by omega)))), rcC_up rc9 (fun k j hC => (ho3610 k j (by omega))), ⟨_, hs3610, by omega⟩⟩
theorem tl_hd {b : bsT} : ∃ f r, tlL b = f :: r ∧ f = fun _ => 0 := by
  obtain ⟨r, hr⟩ := en_hd (lo := fun _ => 0) (hi := fun m _ => m + 1) (mx := fun m p => max m p) (vs := ltr (letN b)) (m := 0) (f := fun _ => 0) ltr_nd
  refine ⟨_, r, hr, funext fun w => ?_⟩
  unfold rst_
  split <;> rfl
theorem tl_len {b : bsT} : (tlL b).length ≤ 203 := by
  have e : (tlL b).length = cnT (ltr (letN b)).length 0 := en_len
  rw [e]
  exact cnT_b _ (ltU_l (n := letN b) (m := 5))
theorem tl_bd {b : bsT} {x : tlT} (hx : x ∈ tlL b) : (∀ v, v ≤ 5 → x v ≤ 5) ∧ x 0 = 0 := by
  have ll : (ltr (letN b)).length ≤ 5 := ltU_l (n := letN b) (m := 5)
  have out : ∀ w, w ∉ ltr (letN b) → x w = 0 := fun w hw => en_out hx w hw
  refine ⟨fun v _ => ?_, out 0 (fun q => by have := ltr_b q; omega)⟩
  by_cases q : v ∈ ltr (letN b)
  · rcases en_bd hx v q with h | h
    · omega
    · exact absurd ltr_nd h
  · rw [out v q]
    omega
theorem e_jdg {d t : Nat} {τ : List Nat} {h : zh} {cur : bsT} {hs : List bsT} (hg : hG τ h) (rc : RC h cur hs) (ok : (∀ (j : Nat) (i : it4), cur.1.1[j]? = some i → okI i) ∧ (∀ (j : Nat) (i : it4), cur.1.2[j]? = some i → okI i) ∧ (∀ (j : Nat) (i : it4), cur.2.1[j]? = some i → okI i) ∧ ∀ (j : Nat) (i : it4), cur.2.2[j]? = some i → okI i) (len : cur.1.1.length ≤ 5 ∧ cur.1.2.length ≤ 6 ∧ cur.2.1.length ≤ 5 ∧ cur.2.2.length ≤ 6) (v0 : ci_ h 44 0 0) (jb : ∃ x : Int32, hsl h 42 5 = some (zi x) ∧ (x.toInt = 0 ∨ x.toInt = 1)) (jc : ci_ h 42 5 1 → rcC h (ltr (letN cur)) (run_ cur)) : qV (d + 8) 116 [some (.inl (some 42)), some (.inl (some 2)), none, none] h t (fun h1 => hG τ h1 ∧ rcC h1 (ltr (letN cur)) (run_ cur) ∧ ci_ h1 42 5 1 ∧ ci_ h1 44 0 0 ∧ ∀ k j, (k < 42 ∨ 51 < k) → hsl h1 k j = hsl h k j) := by
  obtain ⟨xj, hj, bj⟩ := jb
  have jc : xj.toInt = 1 → rcC h (ltr (letN cur)) (run_ cur) := fun q => jc ⟨xj, hj, q⟩
  refine qV_of ?_
  refine y_same (i := .aload_n 0) (len := 1) (r := (0, 0, 0, 0)) (pc' := 1) (ls' := [some (.inl (some 42)), some (.inl (some 2)), none, none]) (st' := [.inl (some 42)]) (by decide +kernel) (fun k q => by cases q) rfl ?_
  refine y_get (j := 32) (len := 3) (r := (10, 5, 1, 364)) (by decide +kernel) hg (tv42 hg) aw42 rfl rfl hj ?_
  rcases Decidable.em (xj.toInt = 0) with q3611 | q3611
  ·
    refine y_iT (c := .eq) (off := 4) (pc' := 8) (len := 3) (r := (0, 0, 0, 0)) (by decide +kernel) (acmpT (c := .eq) (by show _ = _; omega)) (by decide +kernel) ?_
    refine y_same (i := .aload_n 0) (len := 1) (r := (0, 0, 0, 0)) (pc' := 9) (ls' := [some (.inl (some 42)), some (.inl (some 2)), none, none]) (st' := [.inl (some 42)]) (by decide +kernel) (fun k q => by cases q) rfl ?_
    refine y_cV (i := .invokevirtual 51) (len := 3) (r := (0, 117, 10, 1188)) (nL := 1) (k := 0) (n := 1) (hs := []) (args := [.inl (some 42)]) (rest := []) (l0 := [some (.inl (some 42))]) (by decide +kernel) (Or.inr (Or.inl ⟨_, rfl⟩)) rfl rfl rfl rfl (Nat.le_of_ble_eq_true rfl) (zO hg (tv42 hg) aw42 rfl) rfl (qV_le (by omega) (e_clrS (d := 0) (ls := ltr (letN cur)) hg)) (fun h3612 hR3612 => ?_)
    obtain ⟨hg3612, rc3612, F3612⟩ := hR3612
    refine y_same (i := .aload_n 0) (len := 1) (r := (0, 0, 0, 0)) (pc' := 13) (ls' := [some (.inl (some 42)), some (.inl (some 2)), none, none]) (st' := [.inl (some 42)]) (by decide +kernel) (fun k q => by cases q) rfl ?_
    refine y_same (i := .aload_n 1) (len := 1) (r := (0, 0, 0, 0)) (pc' := 14) (ls' := [some (.inl (some 42)), some (.inl (some 2)), none, none]) (st' := [.inl (some 2), .inl (some 42)]) (by decide +kernel) (fun k q => by cases q) rfl ?_
    refine y_cI (i := .invokevirtual 54) (len := 3) (r := (0, 112, 9, 1193)) (nL := 2) (k := 1) (n := 1) (hs := []) (args := [.inl (some 2)]) (rest := [.inl (some 42)]) (l0 := [some (.inl (some 2)), none]) (by decide +kernel) (Or.inr (Or.inl ⟨_, rfl⟩)) rfl rfl rfl rfl (Nat.le_of_ble_eq_true rfl) (zO hg3612 (tv2 hg3612) aw1000 rfl) rfl (qI_le (by omega) (c_let (d := 0) hg3612 (RC_up rc (fun k j h1 => (F3612 k j (by omega)))) ok)) (fun y3613 qy3613 hRy3613 => ?_)
    obtain ⟨rfl, ey3613⟩ := hRy3613
    refine y_cV (i := .invokevirtual 59) (len := 3) (r := (0, 118, 10, 1194)) (nL := 3) (k := 0) (n := 2) (hs := []) (args := [.inl (some 42), zi y3613]) (rest := []) (l0 := [some (.inl (some 42)), some (zi y3613), none]) (by decide +kernel) (Or.inr (Or.inl ⟨_, rfl⟩)) rfl rfl rfl rfl (Nat.le_of_ble_eq_true rfl) (zO hg3612 (tv42 hg3612) aw42 rfl) rfl (qV_le (by omega) (e_fl (d := 0) (N := letN cur) hg3612 let_64 ey3613 (ci_up v0 ((F3612 44 0 (by omega)))))) (fun h3614 hR3614 => ?_)
    obtain ⟨hg3614, lt3614, vc3614, F3614⟩ := hR3614
    refine y_ic (c := 1) (len := 1) (r := (0, 0, 0, 0)) (by decide +kernel) (by decide) (fun y3615 hy3615 => ?_)
    refine y_same (i := .istore_n 2) (len := 1) (r := (0, 0, 0, 0)) (pc' := 22) (ls' := [some (.inl (some 42)), some (.inl (some 2)), some (zi y3615), none]) (st' := []) (by decide +kernel) (fun k q => by cases q) rfl ?_
    refine y_ic (c := 0) (len := 1) (r := (0, 0, 0, 0)) (by decide +kernel) (by decide) (fun y3616 hy3616 => ?_)
    refine y_same (i := .istore_n 3) (len := 1) (r := (0, 0, 0, 0)) (pc' := 24) (ls' := [some (.inl (some 42)), some (.inl (some 2)), some (zi y3615), some (zi y3616)]) (st' := []) (by decide +kernel) (fun k q => by cases q) rfl ?_
    obtain ⟨-, ⟨u, v, hu, l2, b2⟩, -⟩ := id rc
    have uu : (u = 1 ∧ v = 6) ∨ (u = 6 ∧ v = 1) := hu
    have ty9 := ty_u (tyB_of hg hu (tv2 hg) b2.1 b2.2.1 l2) hu
    have la9 := lay_u l2 hu
    obtain ⟨f0, L, eL, ef0⟩ := tl_hd (b := cur)
    have hl9 := tl_len (b := cur)
    have lk9 := en_lk (lo := fun _ => 0) (hi := fun m _ => m + 1) (mx := fun m p => max m p) (fun _ _ => Nat.zero_le _) (vs := ltr (letN cur)) (m := 0) (f := fun _ => 0) ltr_nd
    have tl9 : tlL cur = en_ (fun _ => 0) (fun m _ => m + 1) (fun m p => max m p) (ltr (letN cur)) 0 (fun _ => 0) := rfl
    rw [← tl9, eL] at lk9
    rw [eL, List.length_cons] at hl9
    have ll : (ltr (letN cur)).length ≤ 5 := ltU_l (n := letN cur) (m := 5)
    have vc9 : vC_ h3614 f0 := by
      rw [ef0]
      exact vc3614
    refine qX_V (jd_l (h0 := h3614) (b := cur) (ls := ltr (letN cur)) (SL := 2 + u) (S := 2 + v) ty9.1 (by omega) (laS_up la9.1 (fun k j hC => ((F3614 k j (by omega)).trans (F3612 k j (by omega))))) (sdC_up b2.2.2.1 (fun k j h1 h2 => ((F3614 k j (by omega)).trans (F3612 k j (by omega))))) ok.1 ok.2.1 len.1 (((F3614 2 0 (by omega)).trans (F3612 2 0 (by omega))).trans b2.1) ty9.2 (by omega) (laS_up la9.2 (fun k j hC => ((F3614 k j (by omega)).trans (F3612 k j (by omega))))) (sdC_up b2.2.2.2 (fun k j h1 h2 => ((F3614 k j (by omega)).trans (F3612 k j (by omega))))) ok.2.2.1 ok.2.2.2 len.2.2.1 (((F3614 2 1 (by omega)).trans (F3612 2 1 (by omega))).trans b2.2.1) lt3614 ltr_nd (fun v hv => ltr_b hv) ll (L.length + 1) h3614 f0 (0, 0, none) L 0 y3615 y3616 hg3614 (by omega) (by omega) vc9 (rcC_up rc3612 (fun k j hC => (F3614 k j (by omega)))) (fun k j _ => rfl) lk9 (fun x hx => by rw [← eL] at hx; exact tl_bd hx) (by omega) (by have := wt_b L.length (by omega); show 0 + wt L.length < 1000000; omega) (Nat.le_refl _) (by omega)) (fun h1 hR => ?_)
    obtain ⟨g1, F1, rc1, j1⟩ := hR
    rw [← eL] at rc1
    exact ⟨g1, rc1, j1, ci_up (vc3614 0 (by omega)) (F1 44 0 (by omega)), fun k j hC => (F1 k j (by omega)).trans (((F3614 k j (by omega)).trans (F3612 k j (by omega))))⟩
  ·
    refine y_iF (c := .eq) (off := 4) (len := 3) (r := (0, 0, 0, 0)) (by decide +kernel) (acmpF (c := .eq) (by show ¬ (_ = _); omega)) ?_
    refine y_rV (len := 1) (r := (0, 0, 0, 0)) (nL := 4) (n9 := 2) (hs := []) (by decide +kernel) rfl ?_
    exact ⟨hg, jc (by omega), ⟨_, hj, by omega⟩, v0, fun k j _ => rfl⟩
