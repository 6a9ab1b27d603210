/-! the model's small heaps: all tellings -/
def wk (n : Nat) : Nat := 1024 * n
theorem wk_add {a b : Nat} : wk (a + b) = wk a + wk b := Nat.mul_add _ _ _
theorem wk_1 : wk 1 = 1024 := rfl
theorem wk_le {a b : Nat} (h : a ≤ b) : wk a ≤ wk b := Nat.mul_le_mul_left _ h
theorem wk_203 : wk 203 ≤ 1000000 := by decide
def tlM (N v n m : Nat) (f : tlT) : List tlT := en_ (fun _ => 0) (fun m _ => m + 1) (fun m p => max m p) ((List.range' v n).filter (fun v => decide (N / 2 ^ v % 2 = 1))) m f
theorem tlM_y {N v n m : Nat} {f : tlT} (h : N / 2 ^ v % 2 = 1) : tlM N v (n + 1) m f = (List.range' 0 (m + 2)).flatMap (fun p => tlM N (v + 1) n (max m p) (upd_ f v p)) := by
  unfold tlM
  rw [List.range'_succ, List.filter_cons_of_pos (by exact decide_eq_true h)]
  rfl
theorem tlM_n {N v n m : Nat} {f : tlT} (h : ¬ N / 2 ^ v % 2 = 1) : tlM N v (n + 1) m f = tlM N (v + 1) n m f := by
  unfold tlM
  rw [List.range'_succ, List.filter_cons_of_neg (by rw [decide_eq_true_eq]; exact h)]
theorem ltr_m {N v : Nat} (h1 : 1 ≤ v) (h2 : v ≤ 5) : v ∈ ltr N ↔ N / 2 ^ v % 2 = 1 := by
  unfold ltr
  rw [List.mem_filter, decide_eq_true_eq, List.mem_range'_1]
  exact ⟨fun q => q.2, fun q => ⟨⟨h1, by omega⟩, q⟩⟩
def isV (ls : List Nat) (f : tlT) (v : Nat) : Int := if v = 0 ∨ v ∈ ls then (f v : Int) else -1
theorem mxv_u {f : tlT} {v p : Nat} (h1 : 1 ≤ v) (h2 : v ≤ 5) (h0 : f v = 0) : mxv (upd_ f v p) = max (mxv f) p := by
  unfold mxv
  rcases (show v = 1 ∨ v = 2 ∨ v = 3 ∨ v = 4 ∨ v = 5 by omega) with e | e | e | e | e <;> subst e <;> simp only [upd_, if_true, Nat.reduceEqDiff, if_false] <;> omega
theorem tf_b {b : bsT} (hl : b.1.1.length ≤ 5) : ∀ {L : List tlT} {s : rcT}, s.2.1 ≤ s.1 → (L.foldl (tel1 b) s).1 ≤ s.1 + wk L.length ∧ (L.foldl (tel1 b) s).2.1 ≤ (L.foldl (tel1 b) s).1
  | [], _, h => ⟨Nat.le_refl _, h⟩
  | f :: L, s, h => by
    obtain ⟨a, c⟩ := tel1_b (b := b) (f := f) hl h
    obtain ⟨d, e⟩ := tf_b hl (L := L) c
    rw [List.foldl_cons, List.length_cons, wk_add, wk_1]
    exact ⟨by omega, e⟩
theorem bit_m {l : List it4} {i : it4} {v : Nat} (hi : i ∈ l) (hv : (bI_ i).testBit v = true) : (mS_ 0 l).testBit v = true := by
  induction l with
  | nil => cases hi
  | cons x l ih =>
    have e : mS_ 0 (x :: l) = bI_ x ||| mS_ 0 l := by
      show mS_ (0 ||| bI_ x) l = _
      rw [Nat.zero_or, mS_or]
    rw [e, Nat.testBit_or]
    rcases List.mem_cons.mp hi with q | q
    · rw [← q, hv, Bool.true_or]
    · rw [ih q, Bool.or_true]
theorem bI_t {i : it4} {v : Nat} (h : v = i.2.1.toNat ∨ v = i.2.2.1.toNat ∨ v = i.2.2.2.toNat) : (bI_ i).testBit v = true := by
  unfold bI_
  rw [Nat.testBit_or, Nat.testBit_or, Nat.testBit_two_pow, Nat.testBit_two_pow, Nat.testBit_two_pow]
  rcases h with e | e | e
  · rw [decide_eq_true e.symm, Bool.true_or, Bool.true_or]
  · rw [decide_eq_true e.symm, Bool.or_true, Bool.true_or]
  · rw [decide_eq_true e.symm, Bool.or_true]
theorem t62 : ∀ v : Nat, v < 6 → 1 ≤ v → (62 : Nat).testBit v = true := by decide
theorem mn_let {b : bsT} {i : it4} {v : Nat} (hm : i ∈ b.1.1 ∨ i ∈ b.1.2 ∨ i ∈ b.2.1 ∨ i ∈ b.2.2) (h : v = i.2.1.toNat ∨ v = i.2.2.1.toNat ∨ v = i.2.2.2.toNat) (h5 : v ≤ 5) : mmV (ltr (letN b)) v := by
  rcases Nat.eq_zero_or_pos v with q | q
  · exact Or.inl q
  · refine Or.inr ((ltr_m q h5).mpr ?_)
    have e : (letN b).testBit v = true := by
      unfold letN
      rw [Nat.testBit_and, t62 v (by omega) q, Bool.and_true, Nat.testBit_or, Nat.testBit_or, Nat.testBit_or]
      rcases hm with m | m | m | m
      · rw [bit_m m (bI_t h), Bool.true_or, Bool.true_or, Bool.true_or]
      · rw [bit_m m (bI_t h), Bool.or_true, Bool.true_or, Bool.true_or]
      · rw [bit_m m (bI_t h), Bool.or_true, Bool.true_or]
      · rw [bit_m m (bI_t h), Bool.or_true]
    rw [Nat.testBit_eq_decide_div_mod_eq] at e
    exact of_decide_eq_true e
theorem mn_all {b : bsT} (ok : (∀ (j : Nat) (i : it4), b.1.1[j]? = some i → okI i) ∧ (∀ (j : Nat) (i : it4), b.1.2[j]? = some i → okI i) ∧ (∀ (j : Nat) (i : it4), b.2.1[j]? = some i → okI i) ∧ ∀ (j : Nat) (i : it4), b.2.2[j]? = some i → okI i) : mnB (ltr (letN b)) b := by
  have key : ∀ i, (i ∈ b.1.1 ∨ i ∈ b.1.2 ∨ i ∈ b.2.1 ∨ i ∈ b.2.2) → okI i → mnI (ltr (letN b)) i := fun i hm o => by
    obtain ⟨o1, o2, o3⟩ := ok_v o
    exact ⟨mn_let hm (Or.inl rfl) o1, mn_let hm (Or.inr (Or.inl rfl)) o2, mn_let hm (Or.inr (Or.inr rfl)) o3⟩
  exact ⟨fun i hi => key i (Or.inl hi) (ok_mem ok.1 i hi), fun i hi => key i (Or.inr (Or.inl hi)) (ok_mem ok.2.1 i hi), fun i hi => key i (Or.inr (Or.inr (Or.inl hi))) (ok_mem ok.2.2.1 i hi), fun i hi => key i (Or.inr (Or.inr (Or.inr hi))) (ok_mem ok.2.2.2 i hi)⟩
theorem htf_l {D t v n0 m N : Nat} {τ : List Nat} {h0 : zh} {f : tlT} {xv xs xm : Int32} (hD : 1 ≤ D) {b : bsT} (len : b.1.1.length ≤ 5 ∧ b.1.2.length ≤ 6 ∧ b.2.1.length ≤ 5 ∧ b.2.2.length ≤ 6) (ok : (∀ (j : Nat) (i : it4), b.1.1[j]? = some i → okI i) ∧ (∀ (j : Nat) (i : it4), b.1.2[j]? = some i → okI i) ∧ (∀ (j : Nat) (i : it4), b.2.1[j]? = some i → okI i) ∧ ∀ (j : Nat) (i : it4), b.2.2[j]? = some i → okI i) (pz : ∀ i ∈ b.1.1, pzi i) (mn : mnB (ltr N) b) (exv : xv.toInt = (v : Int)) (hv1 : 1 ≤ v) (hv5 : v ≤ 5) (hvl : v ∈ ltr N) (exm : xm.toInt = (m : Int)) (hmf : m = mxv f) (hmv : m < v) (hfl : ∀ w, w ≤ 5 → f w < v) (hfz : ∀ w, v ≤ w → f w = 0) (hf0 : f 0 = 0) (ih0 : ∀ (h : zh) (f : tlT) (s : rcT) (xv : Int32), hG τ h → bsM h 55 b → (∀ w, w < (v + 1) → kx_ h 381 w (isV (ltr N) f w)) → ci_ h 52 40 (mxv f) → (∀ w, w ≤ 5 → f w < (v + 1)) → (∀ w, (v + 1) ≤ w → f w = 0) → f 0 = 0 → rcM h (ltr N) s → s.2.1 ≤ s.1 → s.1 + wk (tlM N (v + 1) n0 (mxv f) f).length ≤ 1000000 → xv.toInt = (((v + 1) : Nat) : Int) → qV D 258 [some (.inl (some 52)), some (zi xv), some (zi xs), none, none] h t (fun h1 => hG τ h1 ∧ (∀ k j, ((k < 381 ∨ 387 < k) ∧ (k ≠ 52 ∨ (j < 39 ∨ 45 < j))) → hsl h1 k j = hsl h k j) ∧ (∀ j, j < (v + 1) → hsl h1 381 j = hsl h 381 j) ∧ ci_ h1 52 40 (mxv f) ∧ rcM h1 (ltr N) ((tlM N (v + 1) n0 (mxv f) f).foldl (tel1 b) s))) : ∀ (n : Nat) (h : zh) (r : Nat) (s : rcT) (p : Nat) (xp : Int32), (hG τ h) → (bsM h 55 b) → (∀ w, w < v → kx_ h 381 w (isV (ltr N) f w)) → (rcM h (ltr N) s) → (s.2.1 ≤ s.1) → (∀ k j, ((k < 381 ∨ 387 < k) ∧ (k ≠ 52 ∨ (j < 39 ∨ 45 < j))) → hsl h k j = hsl h0 k j) → (∀ j, j < v → hsl h 381 j = hsl h0 381 j) → (s.1 + wk ((List.range' p r).flatMap (fun p => tlM N (v + 1) n0 (max m p) (upd_ f v p))).length ≤ 1000000) → (xp.toInt = (p : Int)) → (p + r = m + 2) → (r < n) → qX D 258 43 [some (.inl (some 52)), some (zi xv), some (zi xs), some (zi xm), some (zi xp)] [] h t (rV (fun h1 => hG τ h1 ∧ (∀ k j, ((k < 381 ∨ 387 < k) ∧ (k ≠ 52 ∨ (j < 39 ∨ 45 < j))) → hsl h1 k j = hsl h0 k j) ∧ (∀ j, j < v → hsl h1 381 j = hsl h0 381 j) ∧ ci_ h1 52 40 m ∧ rcM h1 (ltr N) (((List.range' p r).flatMap (fun p => tlM N (v + 1) n0 (max m p) (upd_ f v p))).foldl (tel1 b) s)) t) := by
  intro n
  induction n with
  | zero =>
    intro h r s p xp hg bs tp rc hs2 F0 K0 hs1 hxp hpr hn
    exfalso
    omega
  | succ n ih =>
    intro h r s p xp hg bs tp rc hs2 F0 K0 hs1 hxp hpr hn
    skip
    refine y_same (i := .iload 4) (len := 2) (r := (0, 0, 0, 0)) (pc' := 45) (ls' := [some (.inl (some 52)), some (zi xv), some (zi xs), some (zi xm), some (zi xp)]) (st' := [zi xp]) (by decide +kernel) (fun k q => by cases q) rfl ?_
    refine y_same (i := .iload_n 3) (len := 1) (r := (0, 0, 0, 0)) (pc' := 46) (ls' := [some (.inl (some 52)), some (zi xv), some (zi xs), some (zi xm), some (zi xp)]) (st' := [zi xm, zi xp]) (by decide +kernel) (fun k q => by cases q) rfl ?_
    refine y_ic (c := 1) (len := 1) (r := (0, 0, 0, 0)) (by decide +kernel) (by decide) (fun y3479 hy3479 => ?_)
    refine y_add (len := 1) (r := (0, 0, 0, 0)) (by decide +kernel) (by omega) (by omega) (fun y3480 hy3480 => ?_)
    rcases Decidable.em (xp.toInt > y3480.toInt) with q3481 | q3481
    ·
      refine y_cT (c := .gt) (off := 35) (pc' := 83) (len := 3) (r := (0, 0, 0, 0)) (by decide +kernel) (acmpT (c := .gt) (by show _ < _; omega)) (by decide +kernel) ?_
      refine y_same (i := .aload_n 0) (len := 1) (r := (0, 0, 0, 0)) (pc' := 84) (ls' := [some (.inl (some 52)), some (zi xv), some (zi xs), some (zi xm), some (zi xp)]) (st' := [.inl (some 52)]) (by decide +kernel) (fun k q => by cases q) rfl ?_
      refine y_same (i := .iload_n 3) (len := 1) (r := (0, 0, 0, 0)) (pc' := 85) (ls' := [some (.inl (some 52)), some (zi xv), some (zi xs), some (zi xm), some (zi xp)]) (st' := [zi xm, .inl (some 52)]) (by decide +kernel) (fun k q => by cases q) rfl ?_
      refine y_put (j := 420) (lo := 0) (hi := 5) (len := 3) (r := (12, 40, 0, 1368)) (by decide +kernel) hg (t52 hg) at52 rfl rfl (by decide) rfl (by omega) (by omega) rfl (fun h3482 hg3482 hl3482 hs3482 ho3482 => ?_)
      have ho3482 : hO 52 40 h h3482 := ho3482
      have hs3482 : hsl h3482 52 40 = some (zi xm) := hs3482
      refine y_rV (len := 1) (r := (0, 0, 0, 0)) (nL := 5) (n9 := 3) (hs := []) (by decide +kernel) rfl ?_
      obtain rfl : r = 0 := by omega
      exact ⟨hg3482, (fun k j hC => ((ho3482 k j (by omega))).trans (F0 k j hC)), (fun j hj => ((ho3482 381 j (by omega))).trans (K0 j hj)), ⟨_, hs3482, by omega⟩, rcM_up rc (fun k j hC => (ho3482 k j (by omega)))⟩
    ·
      refine y_cF (c := .gt) (off := 35) (len := 3) (r := (0, 0, 0, 0)) (by decide +kernel) (acmpF (c := .gt) (by show _ ≤ _; omega)) ?_
      obtain ⟨r, rfl⟩ : ∃ r9, r = r9 + 1 := ⟨r - 1, by omega⟩
      rw [List.range'_succ, List.flatMap_cons] at hs1 ⊢
      rw [List.length_append, wk_add] at hs1
      have wb9 := tf_b len.1 (L := tlM N (v + 1) n0 (max m p) (upd_ f v p)) hs2
      refine y_same (i := .aload_n 0) (len := 1) (r := (0, 0, 0, 0)) (pc' := 52) (ls' := [some (.inl (some 52)), some (zi xv), some (zi xs), some (zi xm), some (zi xp)]) (st' := [.inl (some 52)]) (by decide +kernel) (fun k q => by cases q) rfl ?_
      refine y_get (j := 70) (len := 3) (r := (12, 33, 2, 1361)) (by decide +kernel) hg (t52 hg) at52 rfl rfl (g_r52 (f := 33) (T2 := 381) hg rfl (by decide)).1 ?_
      refine y_same (i := .iload_n 1) (len := 1) (r := (0, 0, 0, 0)) (pc' := 56) (ls' := [some (.inl (some 52)), some (zi xv), some (zi xs), some (zi xm), some (zi xp)]) (st' := [zi xv, .inl (some 381)]) (by decide +kernel) (fun k q => by cases q) rfl ?_
      refine y_same (i := .iload 4) (len := 2) (r := (0, 0, 0, 0)) (pc' := 58) (ls' := [some (.inl (some 52)), some (zi xv), some (zi xs), some (zi xm), some (zi xp)]) (st' := [zi xp, zi xv, .inl (some 381)]) (by decide +kernel) (fun k q => by cases q) rfl ?_
      refine y_ias (i := v) (len := 1) (r := (0, 0, 0, 0)) (by decide +kernel) hg (tu381 hg) at381 rfl (by omega) (by omega) (sr1 (by omega)) (by omega) (by omega) (fun h3483 hg3483 hl3483 hs3483 ho3483 => ?_)
      refine y_same (i := .aload_n 0) (len := 1) (r := (0, 0, 0, 0)) (pc' := 60) (ls' := [some (.inl (some 52)), some (zi xv), some (zi xs), some (zi xm), some (zi xp)]) (st' := [.inl (some 52)]) (by decide +kernel) (fun k q => by cases q) rfl ?_
      refine y_same (i := .iload_n 3) (len := 1) (r := (0, 0, 0, 0)) (pc' := 61) (ls' := [some (.inl (some 52)), some (zi xv), some (zi xs), some (zi xm), some (zi xp)]) (st' := [zi xm, .inl (some 52)]) (by decide +kernel) (fun k q => by cases q) rfl ?_
      refine y_same (i := .iload 4) (len := 2) (r := (0, 0, 0, 0)) (pc' := 63) (ls' := [some (.inl (some 52)), some (zi xv), some (zi xs), some (zi xm), some (zi xp)]) (st' := [zi xp, zi xm, .inl (some 52)]) (by decide +kernel) (fun k q => by cases q) rfl ?_
      refine y_cI (i := .invokestatic 230) (len := 3) (r := (1, 164, 12, 1591)) (nL := 2) (k := 1) (n := 2) (hs := []) (args := [zi xm, zi xp]) (rest := [.inl (some 52)]) (l0 := [some (zi xm), some (zi xp)]) (by decide +kernel) (Or.inl ⟨_, rfl⟩) rfl rfl rfl rfl (Nat.le_of_ble_eq_true rfl) rfl rfl (qI_le (by omega) (e_more (d := 0))) (fun y3484 qy3484 hRy3484 => ?_)
      obtain ⟨rfl, my3484, ny3484⟩ := hRy3484
      have ey3484 : y3484.toInt = ((max m p : Nat) : Int) := by omega
      refine y_put (j := 420) (lo := 0) (hi := 5) (len := 3) (r := (12, 40, 0, 1368)) (by decide +kernel) hg3483 (t52 hg3483) at52 rfl rfl (by decide) rfl (by omega) (by omega) rfl (fun h3485 hg3485 hl3485 hs3485 ho3485 => ?_)
      have ho3485 : hO 52 40 h3483 h3485 := ho3485
      have hs3485 : hsl h3485 52 40 = some (zi y3484) := hs3485
      refine y_same (i := .aload_n 0) (len := 1) (r := (0, 0, 0, 0)) (pc' := 70) (ls' := [some (.inl (some 52)), some (zi xv), some (zi xs), some (zi xm), some (zi xp)]) (st' := [.inl (some 52)]) (by decide +kernel) (fun k q => by cases q) rfl ?_
      refine y_same (i := .iload_n 1) (len := 1) (r := (0, 0, 0, 0)) (pc' := 71) (ls' := [some (.inl (some 52)), some (zi xv), some (zi xs), some (zi xm), some (zi xp)]) (st' := [zi xv, .inl (some 52)]) (by decide +kernel) (fun k q => by cases q) rfl ?_
      refine y_ic (c := 1) (len := 1) (r := (0, 0, 0, 0)) (by decide +kernel) (by decide) (fun y3486 hy3486 => ?_)
      refine y_add (len := 1) (r := (0, 0, 0, 0)) (by decide +kernel) (by omega) (by omega) (fun y3487 hy3487 => ?_)
      refine y_same (i := .iload_n 2) (len := 1) (r := (0, 0, 0, 0)) (pc' := 74) (ls' := [some (.inl (some 52)), some (zi xv), some (zi xs), some (zi xm), some (zi xp)]) (st' := [zi xs, zi y3487, .inl (some 52)]) (by decide +kernel) (fun k q => by cases q) rfl ?_
      have hv3489 := (ho3485 381 v (Or.inl (by omega))).trans hs3483
      have tp9 : ∀ w, w < v + 1 → kx_ h3485 381 w (isV (ltr N) (upd_ f v p) w) := fun w hw => by
        unfold isV upd_
        by_cases q9 : w = v
        · subst q9
          rw [if_pos (Or.inr hvl), if_pos rfl]
          exact ⟨_, hv3489, by omega⟩
        · rw [if_neg q9]
          exact kx_up (tp w (by omega)) (((ho3485 381 w (by omega)).trans (ho3483 381 w (by omega))))
      have mu9 := mxv_u (p := p) hv1 hv5 (hfz v (Nat.le_refl _))
      refine y_cV (i := .invokevirtual 468) (len := 3) (r := (0, 258, 12, 1802)) (nL := 5) (k := 0) (n := 3) (hs := []) (args := [.inl (some 52), zi y3487, zi xs]) (rest := []) (l0 := [some (.inl (some 52)), some (zi y3487), some (zi xs), none, none]) (by decide +kernel) (Or.inr (Or.inl ⟨_, rfl⟩)) rfl rfl rfl rfl (Nat.le_of_ble_eq_true rfl) (z52 hg3485) rfl (ih0 h3485 (upd_ f v p) s y3487 hg3485 (bsM_to bs (fun j => ((ho3485 55 j (by omega)).trans (ho3483 55 j (by omega))))) tp9 ⟨_, hs3485, by rw [mu9, ← hmf]; exact ey3484⟩ (fun w hw => ?_) (fun w hw => ?_) ?_ (rcM_up rc (fun k j hC => ((ho3485 k j (by omega)).trans (ho3483 k j (by omega))))) hs2 (by rw [mu9, ← hmf]; omega) (by omega)) (fun h3488 hR3488 => ?_)
      · unfold upd_
        split
        · omega
        · have := hfl w hw
          omega
      · unfold upd_
        rw [if_neg (by omega)]
        exact hfz w (by omega)
      · unfold upd_
        rw [if_neg (by omega)]
        exact hf0
      obtain ⟨hg3488, F3488, K3488, u3488, rc3488⟩ := hR3488
      rw [mu9, ← hmf] at rc3488
      refine y_inc (j := 4) (a := xp) (c := 1) (ls' := fun v => [some (.inl (some 52)), some (zi xv), some (zi xs), some (zi xm), some v]) (len := 3) (r := (0, 0, 0, 0)) (by decide +kernel) rfl (fun _ => rfl) (by decide) (by omega) (by omega) (fun y3490 hy3490 => ?_)
      show qX D 258 80 [some (.inl (some 52)), some (zi xv), some (zi xs), some (zi xm), some (zi y3490)] [] h3488 t _
      refine y_goto (off := (-37)) (pc' := 43) (len := 3) (r := (0, 0, 0, 0)) (by decide +kernel) (by decide +kernel) ?_
      have e381 : ∀ j, j < v → hsl h3488 381 j = hsl h 381 j := fun j hj => (K3488 j (by omega)).trans (((ho3485 381 j (by omega)).trans (ho3483 381 j (by omega))))
      rw [List.foldl_append]
      exact ih h3488 r ((tlM N (v + 1) n0 (max m p) (upd_ f v p)).foldl (tel1 b) s) (p + 1) y3490 hg3488 (bsM_to bs (fun j => ((F3488 55 j (by omega)).trans ((ho3485 55 j (by omega)).trans (ho3483 55 j (by omega)))))) (fun w hw => kx_up (tp w hw) (e381 w hw)) rc3488 wb9.2 (fun k j hC => (((F3488 k j (by omega)).trans ((ho3485 k j (by omega)).trans (ho3483 k j (by omega))))).trans (F0 k j hC)) (fun j hj => (e381 j hj).trans (K0 j hj)) (by omega) (by omega) (by omega) (by omega)
theorem m_tf {t N : Nat} {τ : List Nat} {xs : Int32} (hN : N < 64) (hxs : xs = Int32.ofInt (N : Int)) {b : bsT} (len : b.1.1.length ≤ 5 ∧ b.1.2.length ≤ 6 ∧ b.2.1.length ≤ 5 ∧ b.2.2.length ≤ 6) (ok : (∀ (j : Nat) (i : it4), b.1.1[j]? = some i → okI i) ∧ (∀ (j : Nat) (i : it4), b.1.2[j]? = some i → okI i) ∧ (∀ (j : Nat) (i : it4), b.2.1[j]? = some i → okI i) ∧ ∀ (j : Nat) (i : it4), b.2.2[j]? = some i → okI i) (pz : ∀ i ∈ b.1.1, pzi i) (mn : mnB (ltr N) b) : ∀ (n : Nat) (h : zh) (f : tlT) (s : rcT) (v : Nat) (xv : Int32), hG τ h → bsM h 55 b → (∀ w, w < v → kx_ h 381 w (isV (ltr N) f w)) → ci_ h 52 40 (mxv f) → (∀ w, w ≤ 5 → f w < v) → (∀ w, v ≤ w → f w = 0) → f 0 = 0 → rcM h (ltr N) s → s.2.1 ≤ s.1 → s.1 + wk (tlM N v n (mxv f) f).length ≤ 1000000 → xv.toInt = (v : Int) → 1 ≤ v → v + n = 6 → qV (n + 23) 258 [some (.inl (some 52)), some (zi xv), some (zi xs), none, none] h t (fun h1 => hG τ h1 ∧ (∀ k j, ((k < 381 ∨ 387 < k) ∧ (k ≠ 52 ∨ (j < 39 ∨ 45 < j))) → hsl h1 k j = hsl h k j) ∧ (∀ j, j < v → hsl h1 381 j = hsl h 381 j) ∧ ci_ h1 52 40 (mxv f) ∧ rcM h1 (ltr N) ((tlM N v n (mxv f) f).foldl (tel1 b) s)) := by
  intro n
  induction n with
  | zero =>
    intro h f s v xv hg bs tp hu hfl hfz hf0 rc hs2 hs1 hxv hv1 hvn
    obtain rfl : v = 6 := by omega
    have tf9 : tF h (ltr N) f := fun w hw => tp w (by omega)
    have l5 := len.1
    have sl := shA_len (l := b.1.1) (ks := List.range' 0 b.1.1.length) (g := fun _ => 0)
    rw [List.length_range'] at sl
    have p4 : 4 ^ b.1.1.length ≤ 4 ^ 5 := Nat.pow_le_pow_right (by decide) l5
    have hs1 : s.1 + wk 1 ≤ 1000000 := hs1
    rw [wk_1] at hs1
    show qV 23 258 [some (.inl (some 52)), some (zi xv), some (zi xs), none, none] h t (fun h1 => hG τ h1 ∧ (∀ k j, ((k < 381 ∨ 387 < k) ∧ (k ≠ 52 ∨ (j < 39 ∨ 45 < j))) → hsl h1 k j = hsl h k j) ∧ (∀ j, j < 6 → hsl h1 381 j = hsl h 381 j) ∧ ci_ h1 52 40 (mxv f) ∧ rcM h1 (ltr N) (tel1 b s f))
    refine qV_of ?_
    refine y_same (i := .iload_n 1) (len := 1) (r := (0, 0, 0, 0)) (pc' := 1) (ls' := [some (.inl (some 52)), some (zi xv), some (zi xs), none, none]) (st' := [zi xv]) (by decide +kernel) (fun k q => by cases q) rfl ?_
    refine y_ic (c := 5) (len := 1) (r := (0, 0, 0, 0)) (by decide +kernel) (by decide) (fun y3491 hy3491 => ?_)
    refine y_cF (c := .le) (off := 9) (len := 3) (r := (0, 0, 0, 0)) (by decide +kernel) (acmpF (c := .le) (by show _ < _; omega)) ?_
    refine y_same (i := .aload_n 0) (len := 1) (r := (0, 0, 0, 0)) (pc' := 6) (ls' := [some (.inl (some 52)), some (zi xv), some (zi xs), none, none]) (st' := [.inl (some 52)]) (by decide +kernel) (fun k q => by cases q) rfl ?_
    refine y_ic (c := 0) (len := 1) (r := (0, 0, 0, 0)) (by decide +kernel) (by decide) (fun y3492 hy3492 => ?_)
    refine y_cV (i := .invokevirtual 465) (len := 3) (r := (0, 257, 12, 1806)) (nL := 5) (k := 0) (n := 2) (hs := []) (args := [.inl (some 52), zi y3492]) (rest := []) (l0 := [some (.inl (some 52)), some (zi y3492), none, none, none]) (by decide +kernel) (Or.inr (Or.inl ⟨_, rfl⟩)) rfl rfl rfl rfl (Nat.le_of_ble_eq_true rfl) (z52 hg) rfl (qV_le (by omega) (m_sh (b := b) (ls := ltr N) (f := f) len ok pz mn (fun w hw => by have := hfl w hw; omega) hf0 b.1.1.length h (fun _ => 0) s 0 y3492 hg bs tf9 hu (fun w hw => absurd hw (Nat.not_lt_zero w)) (fun j i hj _ => absurd hj (Nat.not_lt_zero j)) rc hs2 (by omega) (by omega) (by omega))) (fun h3493 hR3493 => ?_)
    obtain ⟨hg3493, F3493, -, rc3493⟩ := hR3493
    refine y_rV (len := 1) (r := (0, 0, 0, 0)) (nL := 5) (n9 := 3) (hs := []) (by decide +kernel) rfl ?_
    rw [← List.range_eq_range', wf_all pz] at rc3493
    exact ⟨hg3493, (fun k j hC => (F3493 k j (by omega))), (fun j hj => (F3493 381 j (by omega))), ci_up hu ((F3493 52 40 (by omega))), rc3493⟩
  | succ n ih =>
    intro h f s v xv hg bs tp hu hfl hfz hf0 rc hs2 hs1 hxv hv1 hvn
    obtain ⟨xu, hu9, eu⟩ := id hu
    have mlt : mxv f < v := by
      have a := hfl 1 (by omega)
      have c := hfl 2 (by omega)
      have e := hfl 3 (by omega)
      have g := hfl 4 (by omega)
      have i := hfl 5 (by omega)
      unfold mxv
      omega
    refine qV_of ?_
    refine y_same (i := .iload_n 1) (len := 1) (r := (0, 0, 0, 0)) (pc' := 1) (ls' := [some (.inl (some 52)), some (zi xv), some (zi xs), none, none]) (st' := [zi xv]) (by decide +kernel) (fun k q => by cases q) rfl ?_
    refine y_ic (c := 5) (len := 1) (r := (0, 0, 0, 0)) (by decide +kernel) (by decide) (fun y3494 hy3494 => ?_)
    refine y_cT (c := .le) (off := 9) (pc' := 11) (len := 3) (r := (0, 0, 0, 0)) (by decide +kernel) (acmpT (c := .le) (by show _ ≤ _; omega)) (by decide +kernel) ?_
    refine y_same (i := .iload_n 2) (len := 1) (r := (0, 0, 0, 0)) (pc' := 12) (ls' := [some (.inl (some 52)), some (zi xv), some (zi xs), none, none]) (st' := [zi xs]) (by decide +kernel) (fun k q => by cases q) rfl ?_
    refine y_same (i := .iload_n 1) (len := 1) (r := (0, 0, 0, 0)) (pc' := 13) (ls' := [some (.inl (some 52)), some (zi xv), some (zi xs), none, none]) (st' := [zi xv, zi xs]) (by decide +kernel) (fun k q => by cases q) rfl ?_
    refine y_bp (i := .ishr) (f := fun x y => x >>> (y &&& 31)) (len := 1) (r := (0, 0, 0, 0)) (by decide +kernel) rfl rfl (fun y3495 hy3495 => ?_)
    have hy3495 : y3495 = xs >>> (xv &&& 31) := hy3495
    refine y_ic (c := 1) (len := 1) (r := (0, 0, 0, 0)) (by decide +kernel) (by decide) (fun y3496 hy3496 => ?_)
    refine y_bp (i := .iand) (f := fun x y => x &&& y) (len := 1) (r := (0, 0, 0, 0)) (by decide +kernel) rfl rfl (fun y3497 hy3497 => ?_)
    have hy3497 : y3497 = y3495 &&& y3496 := hy3497
    have ea : y3497.toInt = (if N.testBit v then 1 else 0 : Int) := by
      rw [hy3497, hy3495, hxs, i32_of hxv, ofI (w := 1) hy3496 rfl, sb_tab N (by omega) v (by omega)]
    rw [Nat.testBit_eq_decide_div_mod_eq] at ea
    rcases Decidable.em (y3497.toInt ≠ 0) with q3498 | q3498
    ·
      refine y_iT (c := .ne) (off := 19) (pc' := 35) (len := 3) (r := (0, 0, 0, 0)) (by decide +kernel) (acmpT (c := .ne) (by show ¬ (_ = _); omega)) (by decide +kernel) ?_
      refine y_same (i := .aload_n 0) (len := 1) (r := (0, 0, 0, 0)) (pc' := 36) (ls' := [some (.inl (some 52)), some (zi xv), some (zi xs), none, none]) (st' := [.inl (some 52)]) (by decide +kernel) (fun k q => by cases q) rfl ?_
      refine y_get (j := 420) (len := 3) (r := (12, 40, 0, 1368)) (by decide +kernel) hg (t52 hg) at52 rfl rfl hu9 ?_
      refine y_same (i := .istore_n 3) (len := 1) (r := (0, 0, 0, 0)) (pc' := 40) (ls' := [some (.inl (some 52)), some (zi xv), some (zi xs), some (zi xu), none]) (st' := []) (by decide +kernel) (fun k q => by cases q) rfl ?_
      refine y_ic (c := 0) (len := 1) (r := (0, 0, 0, 0)) (by decide +kernel) (by decide) (fun y3499 hy3499 => ?_)
      refine y_same (i := .istore 4) (len := 2) (r := (0, 0, 0, 0)) (pc' := 43) (ls' := [some (.inl (some 52)), some (zi xv), some (zi xs), some (zi xu), some (zi y3499)]) (st' := []) (by decide +kernel) (fun k q => by cases q) rfl ?_
      have nb : N / 2 ^ v % 2 = 1 := Decidable.byContradiction (fun q9 => by
        rw [decide_eq_false q9] at ea
        simp only [Bool.false_eq_true, if_false] at ea
        omega)
      rw [tlM_y nb] at hs1 ⊢
      refine qX_V (htf_l (D := n + 23) (h0 := h) (v := v) (n0 := n) (m := mxv f) (by omega) len ok pz mn hxv hv1 (by omega) ((ltr_m hv1 (by omega)).mpr nb) (by omega) rfl mlt hfl hfz hf0 (fun h f s xv a1 a2 a3 a4 a5 a6 a7 a8 a9 a10 a11 => ih h f s (v + 1) xv a1 a2 a3 a4 a5 a6 a7 a8 a9 a10 a11 (by omega) (by omega)) (mxv f + 3) h (mxv f + 2) s 0 y3499 hg bs tp rc hs2 (fun k j _ => rfl) (fun j _ => rfl) hs1 (by omega) (by omega) (by omega)) (fun h1 hR => hR)
    ·
      refine y_iF (c := .ne) (off := 19) (len := 3) (r := (0, 0, 0, 0)) (by decide +kernel) (acmpF (c := .ne) (by show _ = _; omega)) ?_
      refine y_same (i := .aload_n 0) (len := 1) (r := (0, 0, 0, 0)) (pc' := 20) (ls' := [some (.inl (some 52)), some (zi xv), some (zi xs), none, none]) (st' := [.inl (some 52)]) (by decide +kernel) (fun k q => by cases q) rfl ?_
      refine y_get (j := 70) (len := 3) (r := (12, 33, 2, 1361)) (by decide +kernel) hg (t52 hg) at52 rfl rfl (g_r52 (f := 33) (T2 := 381) hg rfl (by decide)).1 ?_
      refine y_same (i := .iload_n 1) (len := 1) (r := (0, 0, 0, 0)) (pc' := 24) (ls' := [some (.inl (some 52)), some (zi xv), some (zi xs), none, none]) (st' := [zi xv, .inl (some 381)]) (by decide +kernel) (fun k q => by cases q) rfl ?_
      refine y_ic (c := (-1)) (len := 1) (r := (0, 0, 0, 0)) (by decide +kernel) (by decide) (fun y3500 hy3500 => ?_)
      refine y_ias (i := v) (len := 1) (r := (0, 0, 0, 0)) (by decide +kernel) hg (tu381 hg) at381 rfl (by omega) (by omega) (sr1 (by omega)) (by omega) (by omega) (fun h3501 hg3501 hl3501 hs3501 ho3501 => ?_)
      refine y_same (i := .aload_n 0) (len := 1) (r := (0, 0, 0, 0)) (pc' := 27) (ls' := [some (.inl (some 52)), some (zi xv), some (zi xs), none, none]) (st' := [.inl (some 52)]) (by decide +kernel) (fun k q => by cases q) rfl ?_
      refine y_same (i := .iload_n 1) (len := 1) (r := (0, 0, 0, 0)) (pc' := 28) (ls' := [some (.inl (some 52)), some (zi xv), some (zi xs), none, none]) (st' := [zi xv, .inl (some 52)]) (by decide +kernel) (fun k q => by cases q) rfl ?_
      refine y_ic (c := 1) (len := 1) (r := (0, 0, 0, 0)) (by decide +kernel) (by decide) (fun y3502 hy3502 => ?_)
      refine y_add (len := 1) (r := (0, 0, 0, 0)) (by decide +kernel) (by omega) (by omega) (fun y3503 hy3503 => ?_)
      refine y_same (i := .iload_n 2) (len := 1) (r := (0, 0, 0, 0)) (pc' := 31) (ls' := [some (.inl (some 52)), some (zi xv), some (zi xs), none, none]) (st' := [zi xs, zi y3503, .inl (some 52)]) (by decide +kernel) (fun k q => by cases q) rfl ?_
      have nb : ¬ N / 2 ^ v % 2 = 1 := fun q9 => by
        rw [decide_eq_true q9] at ea
        simp only [if_true] at ea
        omega
      rw [tlM_n nb] at hs1 ⊢
      have tp9 : ∀ w, w < v + 1 → kx_ h3501 381 w (isV (ltr N) f w) := fun w hw => by
        by_cases q9 : w = v
        · subst q9
          unfold isV
          rw [if_neg (by rintro (q8 | q8); omega; exact nb ((ltr_m hv1 (by omega)).mp q8))]
          exact ⟨_, hs3501, by omega⟩
        · exact kx_up (tp w (by omega)) ((ho3501 381 w (by omega)))
      refine y_cV (i := .invokevirtual 468) (len := 3) (r := (0, 258, 12, 1802)) (nL := 5) (k := 0) (n := 3) (hs := []) (args := [.inl (some 52), zi y3503, zi xs]) (rest := []) (l0 := [some (.inl (some 52)), some (zi y3503), some (zi xs), none, none]) (by decide +kernel) (Or.inr (Or.inl ⟨_, rfl⟩)) rfl rfl rfl rfl (Nat.le_of_ble_eq_true rfl) (z52 hg3501) rfl (ih h3501 f s (v + 1) y3503 hg3501 (bsM_to bs (fun j => (ho3501 55 j (by omega)))) tp9 (ci_up hu ((ho3501 52 40 (by omega)))) (fun w hw => Nat.lt_succ_of_lt (hfl w hw)) (fun w hw => hfz w (by omega)) hf0 (rcM_up rc (fun k j hC => (ho3501 k j (by omega)))) hs2 hs1 (by omega) (by omega) (by omega)) (fun h3504 hR3504 => ?_)
      obtain ⟨hg3504, F3504, K3504, u3504, rc3504⟩ := hR3504
      refine y_rV (len := 1) (r := (0, 0, 0, 0)) (nL := 5) (n9 := 3) (hs := []) (by decide +kernel) rfl ?_
      exact ⟨hg3504, (fun k j hC => ((F3504 k j (by omega)).trans (ho3501 k j (by omega)))), (fun j hj => (K3504 j (by omega)).trans ((ho3501 381 j (by omega)))), u3504, rc3504⟩
theorem m_lay {d t : Nat} {τ : List Nat} {h : zh} {cur : bsT} {hs : List bsT} (hg : hG τ h) (rm : RM h cur hs) (len : cur.1.1.length ≤ 5 ∧ cur.1.2.length ≤ 6 ∧ cur.2.1.length ≤ 5 ∧ cur.2.2.length ≤ 6) (ok : (∀ (j : Nat) (i : it4), cur.1.1[j]? = some i → okI i) ∧ (∀ (j : Nat) (i : it4), cur.1.2[j]? = some i → okI i) ∧ (∀ (j : Nat) (i : it4), cur.2.1[j]? = some i → okI i) ∧ ∀ (j : Nat) (i : it4), cur.2.2[j]? = some i → okI i) (pz : ∀ i ∈ cur.1.1, pzi i) (cz : cz1 cur) (jb : ∃ x : Int32, hsl h 52 47 = some (zi x) ∧ (x.toInt = 0 ∨ x.toInt = 1)) (jm : ci_ h 52 47 1 → rcM h (ltr (letN cur)) (run_ cur)) : qV (d + 29) 259 [some (.inl (some 52))] h t (fun h1 => hG τ h1 ∧ rcM h1 (ltr (letN cur)) (run_ cur) ∧ ci_ h1 52 47 1 ∧ ∀ k j, ((k < 381 ∨ 387 < k) ∧ (k ≠ 52 ∨ (j < 39 ∨ 47 < j))) → hsl h1 k j = hsl h k j) := by
  obtain ⟨xj, hj, bj⟩ := jb
  have jm : xj.toInt = 1 → rcM h (ltr (letN cur)) (run_ cur) := fun q => jm ⟨xj, hj, q⟩
  refine qV_of ?_
  refine y_same (i := .aload_n 0) (len := 1) (r := (0, 0, 0, 0)) (pc' := 1) (ls' := [some (.inl (some 52))]) (st' := [.inl (some 52)]) (by decide +kernel) (fun k q => by cases q) rfl ?_
  refine y_get (j := 224) (len := 3) (r := (12, 47, 1, 1375)) (by decide +kernel) hg (t52 hg) at52 rfl rfl hj ?_
  rcases Decidable.em (xj.toInt = 0) with q3505 | q3505
  ·
    refine y_iT (c := .eq) (off := 4) (pc' := 8) (len := 3) (r := (0, 0, 0, 0)) (by decide +kernel) (acmpT (c := .eq) (by show _ = _; omega)) (by decide +kernel) ?_
    refine y_same (i := .aload_n 0) (len := 1) (r := (0, 0, 0, 0)) (pc' := 9) (ls' := [some (.inl (some 52))]) (st' := [.inl (some 52)]) (by decide +kernel) (fun k q => by cases q) rfl ?_
    refine y_ic (c := 1) (len := 1) (r := (0, 0, 0, 0)) (by decide +kernel) (by decide) (fun y3506 hy3506 => ?_)
    refine y_put (j := 224) (lo := 0) (hi := 1) (len := 3) (r := (12, 47, 1, 1375)) (by decide +kernel) hg (t52 hg) at52 rfl rfl (by decide) rfl (by omega) (by omega) (zfit_b (by omega) (by omega)).1 (fun h3507 hg3507 hl3507 hs3507 ho3507 => ?_)
    have ho3507 : hO 52 47 h h3507 := ho3507
    have hs3507 : hsl h3507 52 47 = some (zi y3506) := hs3507
    refine y_same (i := .aload_n 0) (len := 1) (r := (0, 0, 0, 0)) (pc' := 14) (ls' := [some (.inl (some 52))]) (st' := [.inl (some 52)]) (by decide +kernel) (fun k q => by cases q) rfl ?_
    refine y_ic (c := 0) (len := 1) (r := (0, 0, 0, 0)) (by decide +kernel) (by decide) (fun y3508 hy3508 => ?_)
    refine y_put (j := 441) (lo := (-2147483648)) (hi := 2147483647) (len := 3) (r := (12, 41, 0, 1369)) (by decide +kernel) hg3507 (t52 hg3507) at52 rfl rfl (by decide) rfl (qin_full _).1 (qin_full _).2 rfl (fun h3509 hg3509 hl3509 hs3509 ho3509 => ?_)
    have ho3509 : hO 52 41 h3507 h3509 := ho3509
    have hs3509 : hsl h3509 52 41 = some (zi y3508) := hs3509
    refine y_same (i := .aload_n 0) (len := 1) (r := (0, 0, 0, 0)) (pc' := 19) (ls' := [some (.inl (some 52))]) (st' := [.inl (some 52)]) (by decide +kernel) (fun k q => by cases q) rfl ?_
    refine y_ic (c := 0) (len := 1) (r := (0, 0, 0, 0)) (by decide +kernel) (by decide) (fun y3510 hy3510 => ?_)
    refine y_put (j := 447) (lo := (-2147483648)) (hi := 2147483647) (len := 3) (r := (12, 42, 0, 1370)) (by decide +kernel) hg3509 (t52 hg3509) at52 rfl rfl (by decide) rfl (qin_full _).1 (qin_full _).2 rfl (fun h3511 hg3511 hl3511 hs3511 ho3511 => ?_)
    have ho3511 : hO 52 42 h3509 h3511 := ho3511
    have hs3511 : hsl h3511 52 42 = some (zi y3510) := hs3511
    refine y_same (i := .aload_n 0) (len := 1) (r := (0, 0, 0, 0)) (pc' := 24) (ls' := [some (.inl (some 52))]) (st' := [.inl (some 52)]) (by decide +kernel) (fun k q => by cases q) rfl ?_
    refine y_ic (c := (-1)) (len := 1) (r := (0, 0, 0, 0)) (by decide +kernel) (by decide) (fun y3512 hy3512 => ?_)
    refine y_put (j := 450) (lo := (-2147483648)) (hi := 2147483647) (len := 3) (r := (12, 43, 0, 1371)) (by decide +kernel) hg3511 (t52 hg3511) at52 rfl rfl (by decide) rfl (qin_full _).1 (qin_full _).2 rfl (fun h3513 hg3513 hl3513 hs3513 ho3513 => ?_)
    have ho3513 : hO 52 43 h3511 h3513 := ho3513
    have hs3513 : hsl h3513 52 43 = some (zi y3512) := hs3513
    refine y_same (i := .aload_n 0) (len := 1) (r := (0, 0, 0, 0)) (pc' := 29) (ls' := [some (.inl (some 52))]) (st' := [.inl (some 52)]) (by decide +kernel) (fun k q => by cases q) rfl ?_
    refine y_ic (c := 0) (len := 1) (r := (0, 0, 0, 0)) (by decide +kernel) (by decide) (fun y3514 hy3514 => ?_)
    refine y_put (j := 420) (lo := 0) (hi := 5) (len := 3) (r := (12, 40, 0, 1368)) (by decide +kernel) hg3513 (t52 hg3513) at52 rfl rfl (by decide) rfl (by omega) (by omega) rfl (fun h3515 hg3515 hl3515 hs3515 ho3515 => ?_)
    have ho3515 : hO 52 40 h3513 h3515 := ho3515
    have hs3515 : hsl h3515 52 40 = some (zi y3514) := hs3515
    refine y_same (i := .aload_n 0) (len := 1) (r := (0, 0, 0, 0)) (pc' := 34) (ls' := [some (.inl (some 52))]) (st' := [.inl (some 52)]) (by decide +kernel) (fun k q => by cases q) rfl ?_
    refine y_get (j := 70) (len := 3) (r := (12, 33, 2, 1361)) (by decide +kernel) hg3515 (t52 hg3515) at52 rfl rfl (g_r52 (f := 33) (T2 := 381) hg3515 rfl (by decide)).1 ?_
    refine y_ic (c := 0) (len := 1) (r := (0, 0, 0, 0)) (by decide +kernel) (by decide) (fun y3516 hy3516 => ?_)
    refine y_ic (c := 0) (len := 1) (r := (0, 0, 0, 0)) (by decide +kernel) (by decide) (fun y3517 hy3517 => ?_)
    refine y_ias (i := 0) (len := 1) (r := (0, 0, 0, 0)) (by decide +kernel) hg3515 (tu381 hg3515) at381 rfl (by omega) (by omega) (sr1 (by omega)) (by omega) (by omega) (fun h3518 hg3518 hl3518 hs3518 ho3518 => ?_)
    refine y_same (i := .aload_n 0) (len := 1) (r := (0, 0, 0, 0)) (pc' := 41) (ls' := [some (.inl (some 52))]) (st' := [.inl (some 52)]) (by decide +kernel) (fun k q => by cases q) rfl ?_
    refine y_ic (c := 1) (len := 1) (r := (0, 0, 0, 0)) (by decide +kernel) (by decide) (fun y3519 hy3519 => ?_)
    refine y_same (i := .aload_n 0) (len := 1) (r := (0, 0, 0, 0)) (pc' := 43) (ls' := [some (.inl (some 52))]) (st' := [.inl (some 52), zi y3519, .inl (some 52)]) (by decide +kernel) (fun k q => by cases q) rfl ?_
    refine y_cI (i := .invokevirtual 239) (len := 3) (r := (0, 192, 12, 1609)) (nL := 5) (k := 1) (n := 1) (hs := []) (args := [.inl (some 52)]) (rest := [zi y3519, .inl (some 52)]) (l0 := [some (.inl (some 52)), none, none, none, none]) (by decide +kernel) (Or.inr (Or.inl ⟨_, rfl⟩)) rfl rfl rfl rfl (Nat.le_of_ble_eq_true rfl) (z52 hg3518) rfl (qI_le (by omega) (m_vars hg3518 (RM_up rm (fun k j h1 => ((ho3518 k j (by omega)).trans ((ho3515 k j (by omega)).trans ((ho3513 k j (by omega)).trans ((ho3511 k j (by omega)).trans ((ho3509 k j (by omega)).trans (ho3507 k j (by omega))))))))) ok cz)) (fun y3520 qy3520 hRy3520 => ?_)
    obtain ⟨rfl, ey3520⟩ := hRy3520
    have hv3522 := (ho3511 52 41 (Or.inr (by omega))).trans hs3509
    have hv3523 := (ho3513 52 41 (Or.inr (by omega))).trans hv3522
    have hv3524 := (ho3515 52 41 (Or.inr (by omega))).trans hv3523
    have hv3525 := (ho3518 52 41 (Or.inl (by omega))).trans hv3524
    have hv3526 := (ho3513 52 42 (Or.inr (by omega))).trans hs3511
    have hv3527 := (ho3515 52 42 (Or.inr (by omega))).trans hv3526
    have hv3528 := (ho3518 52 42 (Or.inl (by omega))).trans hv3527
    have hv3529 := (ho3515 52 43 (Or.inr (by omega))).trans hs3513
    have hv3530 := (ho3518 52 43 (Or.inl (by omega))).trans hv3529
    have hv3531 := (ho3518 52 40 (Or.inl (by omega))).trans hs3515
    have bl : wk (tlM (letN cur) 1 5 (mxv (fun _ => 0)) (fun _ => 0)).length ≤ 1000000 := by
      have := tl_len (b := cur)
      have e9 : (tlM (letN cur) 1 5 (mxv (fun _ => 0)) (fun _ => 0)).length = (tlL cur).length := rfl
      rw [e9]
      exact Nat.le_trans (wk_le this) wk_203
    refine y_cV (i := .invokevirtual 468) (len := 3) (r := (0, 258, 12, 1802)) (nL := 5) (k := 0) (n := 3) (hs := []) (args := [.inl (some 52), zi y3519, zi y3520]) (rest := []) (l0 := [some (.inl (some 52)), some (zi y3519), some (zi y3520), none, none]) (by decide +kernel) (Or.inr (Or.inl ⟨_, rfl⟩)) rfl rfl rfl rfl (Nat.le_of_ble_eq_true rfl) (z52 hg3518) rfl (qV_le (by omega) (m_tf (N := letN cur) (b := cur) let_64 ey3520 len ok pz (mn_all ok) 5 h3518 (fun _ => 0) (0, 0, none) 1 y3519 hg3518 (bsM_to rm.1 (fun j => ((ho3518 55 j (by omega)).trans ((ho3515 55 j (by omega)).trans ((ho3513 55 j (by omega)).trans ((ho3511 55 j (by omega)).trans ((ho3509 55 j (by omega)).trans (ho3507 55 j (by omega))))))))) (fun w hw => ?_) ⟨_, hv3531, by show _ = ((0 : Nat) : Int); omega⟩ (fun _ _ => by omega) (fun _ _ => rfl) rfl ⟨⟨_, hv3525, by show _ = ((0 : Nat) : Int); omega⟩, ⟨_, hv3528, by show _ = ((0 : Nat) : Int); omega⟩, ⟨_, hv3530, by show _ = (-1 : Int); omega⟩, fun q9 => absurd rfl q9⟩ (Nat.le_refl _) (by show 0 + wk _ ≤ _; omega) (by omega) (by omega) (by omega))) (fun h3521 hR3521 => ?_)
    · obtain rfl : w = 0 := by omega
      unfold isV
      rw [if_pos (Or.inl rfl)]
      exact ⟨_, hs3518, by omega⟩
    obtain ⟨hg3521, F3521, -, u3521, rc3521⟩ := hR3521
    refine y_rV (len := 1) (r := (0, 0, 0, 0)) (nL := 1) (n9 := 1) (hs := []) (by decide +kernel) rfl ?_
    have hv3532 := (ho3509 52 47 (Or.inr (by omega))).trans hs3507
    have hv3533 := (ho3511 52 47 (Or.inr (by omega))).trans hv3532
    have hv3534 := (ho3513 52 47 (Or.inr (by omega))).trans hv3533
    have hv3535 := (ho3515 52 47 (Or.inr (by omega))).trans hv3534
    have hv3536 := (ho3518 52 47 (Or.inl (by omega))).trans hv3535
    have hv3537 := (F3521 52 47 (by omega)).trans hv3536
    have e9 : tlM (letN cur) 1 5 (mxv (fun _ => 0)) (fun _ => 0) = tlL cur := rfl
    rw [e9] at rc3521
    exact ⟨hg3521, rc3521, ⟨_, hv3537, by omega⟩, fun k j hC => ((F3521 k j (by omega)).trans ((ho3518 k j (by omega)).trans ((ho3515 k j (by omega)).trans ((ho3513 k j (by omega)).trans ((ho3511 k j (by omega)).trans ((ho3509 k j (by omega)).trans (ho3507 k j (by omega))))))))⟩
  ·
    refine y_iF (c := .eq) (off := 4) (len := 3) (r := (0, 0, 0, 0)) (by decide +kernel) (acmpF (c := .eq) (by show ¬ (_ = _); omega)) ?_
    refine y_rV (len := 1) (r := (0, 0, 0, 0)) (nL := 1) (n9 := 1) (hs := []) (by decide +kernel) rfl ?_
    exact ⟨hg, jm (by omega), ⟨_, hj, by omega⟩, fun k j _ => rfl⟩
