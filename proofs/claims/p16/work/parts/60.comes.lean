/-! a sequent comes, told exactly -/
theorem e_follows {τ : List Nat} {h : zh} {o t : Nat} (hC : ∀ (mk : Nat) (c' : aK), c' ∈ actb mk → c'.2.2.1 ≤ 8 → cOK aJ mk c') {xo xw xs : Int32} (hg : hG τ h) (ho9 : o < 300) (hxo : xo.toInt = (o : Int)) (hw1 : 0 ≤ xw.toInt) (hw2 : xw.toInt ≤ 1) (hxs : hsl h 373 o = some (zi xs)) (h3 : 3 ≤ xs.toInt) (h8 : xs.toInt ≤ 8) (hst : (3 ≤ xs.toInt → xs.toInt ≤ 8 → stR h o) ∧ (3 ≤ xs.toInt → xs.toInt ≤ 7 → stL h o)) : qI 9 228 [some (.inl (some 52)), some (zi xo), some (zi xw), none, none, none, none, none, none, none, none] h t (fun y h1 => 0 ≤ y.toInt ∧ y.toInt ≤ 1 ∧ ∃ τ1, oF (fun k j => k ≠ 378) τ h τ1 h1) := by
  obtain ⟨xr, hr1, lr, ur⟩ := g_int (i := o) hg (tu374 hg) at374 (show o < 300 by omega) (sr1 (by omega))
  obtain ⟨xl, hl1, ll, ul⟩ := g_int (i := o) hg (tu375 hg) at375 (show o < 300 by omega) (sr1 (by omega))
  obtain ⟨c0, hc0, l0, u0⟩ := g_int (i := 0) hg (tuR hg ho9) at1012 (by decide) (srA (by decide))
  obtain ⟨c1, hc1, l1, u1⟩ := g_int (i := 1) hg (tuR hg ho9) at1012 (by decide) (srA (by decide))
  obtain ⟨c2, hc2, l2, u2⟩ := g_int (i := 2) hg (tuR hg ho9) at1012 (by decide) (srA (by decide))
  have hRt : xr.toInt < c1.toInt := by
    obtain ⟨a, b, e1, e2, e3⟩ := hst.1 h3 h8
    rw [hr1] at e1
    rw [hc1] at e2
    cases e1
    cases e2
    exact e3
  have fin : ∀ (b : Int32) (h3 : zh) (τ3 : List Nat), qF none 8 228 0 [some (.inl (some 52)), some (zi xo), some (zi xw), none, none, none, none, none, none, none, none] [] h t (.inl (some (zi b)), h3, t) → (0 ≤ b.toInt ∧ b.toInt ≤ 1) → aup τ τ3 → hM τ3 h3 → aJ h3 → aFr τ h [(378, 0, 199)] h3 → qI 9 228 [some (.inl (some 52)), some (zi xo), some (zi xw), none, none, none, none, none, none, none, none] h t (fun y h1 => 0 ≤ y.toInt ∧ y.toInt ≤ 1 ∧ ∃ τ1, oF (fun k j => k ≠ 378) τ h τ1 h1) := fun b h3 τ3 k1 k2 k3 k4 k5 k6 => ⟨b, h3, qE_of k1, k2.1, k2.2, τ3, k3, ⟨k4, k5⟩, fun k T j hk hne => k6 k T j hk (awc1 (uq hg hk (by decide) hne) rfl)⟩
  rcases (show (xs.toInt = 3 ∧ xw.toInt = 0) ∨ (xs.toInt = 3 ∧ xw.toInt = 1) ∨ (xs.toInt = 4 ∧ xw.toInt = 0) ∨ (xs.toInt = 4 ∧ xw.toInt = 1) ∨ (xs.toInt = 5 ∧ xw.toInt = 0) ∨ (xs.toInt = 5 ∧ xw.toInt = 1) ∨ (xs.toInt = 6 ∧ xw.toInt = 0) ∨ (xs.toInt = 6 ∧ xw.toInt = 1) ∨ (xs.toInt = 7 ∧ xw.toInt = 0) ∨ (xs.toInt = 7 ∧ xw.toInt = 1) ∨ (xs.toInt = 8 ∧ xw.toInt = 0) ∨ (xs.toInt = 8 ∧ xw.toInt = 1) by omega) with ⟨q1, q2⟩ | ⟨q1, q2⟩ | ⟨q1, q2⟩ | ⟨q1, q2⟩ | ⟨q1, q2⟩ | ⟨q1, q2⟩ | ⟨q1, q2⟩ | ⟨q1, q2⟩ | ⟨q1, q2⟩ | ⟨q1, q2⟩ | ⟨q1, q2⟩ | ⟨q1, q2⟩
  · 
    have hL : xl.toInt < c0.toInt := by
      obtain ⟨a, b, e1, e2, e3⟩ := (hst.2 (by omega) (by omega))
      rw [hl1] at e1
      rw [hc0] at e2
      cases e1
      cases e2
      exact e3
    obtain ⟨b, h3, τ3, k1, k2, k3, k4, k5, k6⟩ := fol_run (t := t) folR30 hC hg.1 hg.2 hxo (by omega) hr1 hl1 hxs (hg.2.2 o (by omega)) (tuR hg ho9) hc1 hc0 hc2 ⟨by omega, by omega⟩ ⟨by omega, by omega⟩ ⟨by omega, by omega⟩ ⟨by omega, by omega⟩ ⟨by omega, by omega⟩ (by omega) (by omega) (fun f hf => by
        simp only [List.mem_cons, List.not_mem_nil, or_false] at hf
        rcases hf with rfl | rfl
        · exact ⟨_, _, rfl, rfl, by show xr.toInt ≤ c1.toInt + (-1); omega⟩
        · exact ⟨_, _, rfl, rfl, by show xl.toInt ≤ c0.toInt + (-1); omega⟩)
    exact fin b h3 τ3 k1 k2 k3 k4 k5 k6
  · 
    have hL : xl.toInt < c0.toInt := by
      obtain ⟨a, b, e1, e2, e3⟩ := (hst.2 (by omega) (by omega))
      rw [hl1] at e1
      rw [hc0] at e2
      cases e1
      cases e2
      exact e3
    obtain ⟨b, h3, τ3, k1, k2, k3, k4, k5, k6⟩ := fol_run (t := t) folR31 hC hg.1 hg.2 hxo (by omega) hr1 hl1 hxs (hg.2.2 o (by omega)) (tuR hg ho9) hc1 hc0 hc2 ⟨by omega, by omega⟩ ⟨by omega, by omega⟩ ⟨by omega, by omega⟩ ⟨by omega, by omega⟩ ⟨by omega, by omega⟩ (by omega) (by omega) (fun f hf => by
        simp only [List.mem_cons, List.not_mem_nil, or_false] at hf
        rcases hf with rfl | rfl
        · exact ⟨_, _, rfl, rfl, by show xr.toInt ≤ c1.toInt + (-1); omega⟩
        · exact ⟨_, _, rfl, rfl, by show xl.toInt ≤ c0.toInt + (-1); omega⟩)
    exact fin b h3 τ3 k1 k2 k3 k4 k5 k6
  · 
    have hL : xl.toInt < c0.toInt := by
      obtain ⟨a, b, e1, e2, e3⟩ := (hst.2 (by omega) (by omega))
      rw [hl1] at e1
      rw [hc0] at e2
      cases e1
      cases e2
      exact e3
    obtain ⟨b, h3, τ3, k1, k2, k3, k4, k5, k6⟩ := fol_run (t := t) folR40 hC hg.1 hg.2 hxo (by omega) hr1 hl1 hxs (hg.2.2 o (by omega)) (tuR hg ho9) hc1 hc0 hc2 ⟨by omega, by omega⟩ ⟨by omega, by omega⟩ ⟨by omega, by omega⟩ ⟨by omega, by omega⟩ ⟨by omega, by omega⟩ (by omega) (by omega) (fun f hf => by
        simp only [List.mem_cons, List.not_mem_nil, or_false] at hf
        rcases hf with rfl | rfl
        · exact ⟨_, _, rfl, rfl, by show xr.toInt ≤ c1.toInt + (-1); omega⟩
        · exact ⟨_, _, rfl, rfl, by show xl.toInt ≤ c0.toInt + (-1); omega⟩)
    exact fin b h3 τ3 k1 k2 k3 k4 k5 k6
  · 
    have hL : xl.toInt < c0.toInt := by
      obtain ⟨a, b, e1, e2, e3⟩ := (hst.2 (by omega) (by omega))
      rw [hl1] at e1
      rw [hc0] at e2
      cases e1
      cases e2
      exact e3
    obtain ⟨b, h3, τ3, k1, k2, k3, k4, k5, k6⟩ := fol_run (t := t) folR41 hC hg.1 hg.2 hxo (by omega) hr1 hl1 hxs (hg.2.2 o (by omega)) (tuR hg ho9) hc1 hc0 hc2 ⟨by omega, by omega⟩ ⟨by omega, by omega⟩ ⟨by omega, by omega⟩ ⟨by omega, by omega⟩ ⟨by omega, by omega⟩ (by omega) (by omega) (fun f hf => by
        simp only [List.mem_cons, List.not_mem_nil, or_false] at hf
        rcases hf with rfl | rfl
        · exact ⟨_, _, rfl, rfl, by show xr.toInt ≤ c1.toInt + (-1); omega⟩
        · exact ⟨_, _, rfl, rfl, by show xl.toInt ≤ c0.toInt + (-1); omega⟩)
    exact fin b h3 τ3 k1 k2 k3 k4 k5 k6
  · 
    have hL : xl.toInt < c0.toInt := by
      obtain ⟨a, b, e1, e2, e3⟩ := (hst.2 (by omega) (by omega))
      rw [hl1] at e1
      rw [hc0] at e2
      cases e1
      cases e2
      exact e3
    obtain ⟨b, h3, τ3, k1, k2, k3, k4, k5, k6⟩ := fol_run (t := t) folR50 hC hg.1 hg.2 hxo (by omega) hr1 hl1 hxs (hg.2.2 o (by omega)) (tuR hg ho9) hc1 hc0 hc2 ⟨by omega, by omega⟩ ⟨by omega, by omega⟩ ⟨by omega, by omega⟩ ⟨by omega, by omega⟩ ⟨by omega, by omega⟩ (by omega) (by omega) (fun f hf => by
        simp only [List.mem_cons, List.not_mem_nil, or_false] at hf
        rcases hf with rfl | rfl
        · exact ⟨_, _, rfl, rfl, by show xr.toInt ≤ c1.toInt + (-1); omega⟩
        · exact ⟨_, _, rfl, rfl, by show xl.toInt ≤ c0.toInt + (-1); omega⟩)
    exact fin b h3 τ3 k1 k2 k3 k4 k5 k6
  · 
    have hL : xl.toInt < c0.toInt := by
      obtain ⟨a, b, e1, e2, e3⟩ := (hst.2 (by omega) (by omega))
      rw [hl1] at e1
      rw [hc0] at e2
      cases e1
      cases e2
      exact e3
    obtain ⟨b, h3, τ3, k1, k2, k3, k4, k5, k6⟩ := fol_run (t := t) folR51 hC hg.1 hg.2 hxo (by omega) hr1 hl1 hxs (hg.2.2 o (by omega)) (tuR hg ho9) hc1 hc0 hc2 ⟨by omega, by omega⟩ ⟨by omega, by omega⟩ ⟨by omega, by omega⟩ ⟨by omega, by omega⟩ ⟨by omega, by omega⟩ (by omega) (by omega) (fun f hf => by
        simp only [List.mem_cons, List.not_mem_nil, or_false] at hf
        rcases hf with rfl | rfl
        · exact ⟨_, _, rfl, rfl, by show xr.toInt ≤ c1.toInt + (-1); omega⟩
        · exact ⟨_, _, rfl, rfl, by show xl.toInt ≤ c0.toInt + (-1); omega⟩)
    exact fin b h3 τ3 k1 k2 k3 k4 k5 k6
  · 
    have hL : xl.toInt < c0.toInt := by
      obtain ⟨a, b, e1, e2, e3⟩ := (hst.2 (by omega) (by omega))
      rw [hl1] at e1
      rw [hc0] at e2
      cases e1
      cases e2
      exact e3
    obtain ⟨b, h3, τ3, k1, k2, k3, k4, k5, k6⟩ := fol_run (t := t) folR60 hC hg.1 hg.2 hxo (by omega) hr1 hl1 hxs (hg.2.2 o (by omega)) (tuR hg ho9) hc1 hc0 hc2 ⟨by omega, by omega⟩ ⟨by omega, by omega⟩ ⟨by omega, by omega⟩ ⟨by omega, by omega⟩ ⟨by omega, by omega⟩ (by omega) (by omega) (fun f hf => by
        simp only [List.mem_cons, List.not_mem_nil, or_false] at hf
        rcases hf with rfl | rfl
        · exact ⟨_, _, rfl, rfl, by show xr.toInt ≤ c1.toInt + (-1); omega⟩
        · exact ⟨_, _, rfl, rfl, by show xl.toInt ≤ c0.toInt + (-1); omega⟩)
    exact fin b h3 τ3 k1 k2 k3 k4 k5 k6
  · 
    have hL : xl.toInt < c0.toInt := by
      obtain ⟨a, b, e1, e2, e3⟩ := (hst.2 (by omega) (by omega))
      rw [hl1] at e1
      rw [hc0] at e2
      cases e1
      cases e2
      exact e3
    obtain ⟨b, h3, τ3, k1, k2, k3, k4, k5, k6⟩ := fol_run (t := t) folR61 hC hg.1 hg.2 hxo (by omega) hr1 hl1 hxs (hg.2.2 o (by omega)) (tuR hg ho9) hc1 hc0 hc2 ⟨by omega, by omega⟩ ⟨by omega, by omega⟩ ⟨by omega, by omega⟩ ⟨by omega, by omega⟩ ⟨by omega, by omega⟩ (by omega) (by omega) (fun f hf => by
        simp only [List.mem_cons, List.not_mem_nil, or_false] at hf
        rcases hf with rfl | rfl
        · exact ⟨_, _, rfl, rfl, by show xr.toInt ≤ c1.toInt + (-1); omega⟩
        · exact ⟨_, _, rfl, rfl, by show xl.toInt ≤ c0.toInt + (-1); omega⟩)
    exact fin b h3 τ3 k1 k2 k3 k4 k5 k6
  · 
    have hL : xl.toInt < c0.toInt := by
      obtain ⟨a, b, e1, e2, e3⟩ := (hst.2 (by omega) (by omega))
      rw [hl1] at e1
      rw [hc0] at e2
      cases e1
      cases e2
      exact e3
    obtain ⟨b, h3, τ3, k1, k2, k3, k4, k5, k6⟩ := fol_run (t := t) folR70 hC hg.1 hg.2 hxo (by omega) hr1 hl1 hxs (hg.2.2 o (by omega)) (tuR hg ho9) hc1 hc0 hc2 ⟨by omega, by omega⟩ ⟨by omega, by omega⟩ ⟨by omega, by omega⟩ ⟨by omega, by omega⟩ ⟨by omega, by omega⟩ (by omega) (by omega) (fun f hf => by
        simp only [List.mem_cons, List.not_mem_nil, or_false] at hf
        rcases hf with rfl | rfl
        · exact ⟨_, _, rfl, rfl, by show xr.toInt ≤ c1.toInt + (-1); omega⟩
        · exact ⟨_, _, rfl, rfl, by show xl.toInt ≤ c0.toInt + (-1); omega⟩)
    exact fin b h3 τ3 k1 k2 k3 k4 k5 k6
  · 
    have hL : xl.toInt < c0.toInt := by
      obtain ⟨a, b, e1, e2, e3⟩ := (hst.2 (by omega) (by omega))
      rw [hl1] at e1
      rw [hc0] at e2
      cases e1
      cases e2
      exact e3
    obtain ⟨b, h3, τ3, k1, k2, k3, k4, k5, k6⟩ := fol_run (t := t) folR71 hC hg.1 hg.2 hxo (by omega) hr1 hl1 hxs (hg.2.2 o (by omega)) (tuR hg ho9) hc1 hc0 hc2 ⟨by omega, by omega⟩ ⟨by omega, by omega⟩ ⟨by omega, by omega⟩ ⟨by omega, by omega⟩ ⟨by omega, by omega⟩ (by omega) (by omega) (fun f hf => by
        simp only [List.mem_cons, List.not_mem_nil, or_false] at hf
        rcases hf with rfl | rfl
        · exact ⟨_, _, rfl, rfl, by show xr.toInt ≤ c1.toInt + (-1); omega⟩
        · exact ⟨_, _, rfl, rfl, by show xl.toInt ≤ c0.toInt + (-1); omega⟩)
    exact fin b h3 τ3 k1 k2 k3 k4 k5 k6
  · 
    obtain ⟨b, h3, τ3, k1, k2, k3, k4, k5, k6⟩ := fol_run (t := t) folR80 hC hg.1 hg.2 hxo (by omega) hr1 hl1 hxs (hg.2.2 o (by omega)) (tuR hg ho9) hc1 hc0 hc2 ⟨by omega, by omega⟩ ⟨by omega, by omega⟩ ⟨by omega, by omega⟩ ⟨by omega, by omega⟩ ⟨by omega, by omega⟩ (by omega) (by omega) (fun f hf => by
        simp only [List.mem_cons, List.not_mem_nil, or_false] at hf
        subst hf
        exact ⟨_, _, rfl, rfl, by show xr.toInt ≤ c1.toInt + (-1); omega⟩)
    exact fin b h3 τ3 k1 k2 k3 k4 k5 k6
  · 
    obtain ⟨b, h3, τ3, k1, k2, k3, k4, k5, k6⟩ := fol_run (t := t) folR81 hC hg.1 hg.2 hxo (by omega) hr1 hl1 hxs (hg.2.2 o (by omega)) (tuR hg ho9) hc1 hc0 hc2 ⟨by omega, by omega⟩ ⟨by omega, by omega⟩ ⟨by omega, by omega⟩ ⟨by omega, by omega⟩ ⟨by omega, by omega⟩ (by omega) (by omega) (fun f hf => by
        simp only [List.mem_cons, List.not_mem_nil, or_false] at hf
        subst hf
        exact ⟨_, _, rfl, rfl, by show xr.toInt ≤ c1.toInt + (-1); omega⟩)
    exact fin b h3 τ3 k1 k2 k3 k4 k5 k6
/-- all sequents that there are -/
def Gv (h : zh) (n : Nat) : Prop := (∀ j, j < n → ∃ x : Int32, hsl h 371 j = some (zi x) ∧ x.toInt < (j : Int)) ∧ ∀ j, j < n → stOK h j
theorem stOK_up {h h1 : zh} {j : Nat} (s : stOK h j) (e3 : hsl h1 373 j = hsl h 373 j) (e4 : hsl h1 374 j = hsl h 374 j) (e5 : hsl h1 375 j = hsl h 375 j) (r0 : hsl h1 (71 + j) 0 = hsl h (71 + j) 0) (r1 : hsl h1 (71 + j) 1 = hsl h (71 + j) 1) : stOK h1 j := by
  obtain ⟨xs, a, b, c⟩ := s
  refine ⟨xs, e3.trans a, fun p q => ?_, fun p q => ?_⟩
  · obtain ⟨x, y, f1, f2, f3⟩ := b p q
    exact ⟨x, y, e4.trans f1, r1.trans f2, f3⟩
  · obtain ⟨x, y, f1, f2, f3⟩ := c p q
    exact ⟨x, y, e5.trans f1, r0.trans f2, f3⟩
theorem Gv_up {τ τ1 : List Nat} {h h1 : zh} {n : Nat} (g : Gv h n) (hg : hG τ h) (hn : n < 300) (F : oF (fun k j => k ≠ 68 ∧ k ≠ 69 ∧ k ≠ 378 ∧ k ≠ 71 + n ∧ ((k ≠ 371 ∧ k ≠ 372 ∧ k ≠ 373 ∧ k ≠ 374 ∧ k ≠ 375 ∧ k ≠ 376) ∨ j ≠ n) ∧ (k ≠ 52 ∨ j ≠ 26)) τ h τ1 h1) : Gv h1 n := by
  refine ⟨fun j hj => ?_, fun j hj => ?_⟩
  · obtain ⟨x, e, l⟩ := g.1 j hj
    exact ⟨x, (F.2.2 371 371 j (tu371 hg) (show 371 ≠ 68 ∧ 371 ≠ 69 ∧ 371 ≠ 378 ∧ 371 ≠ 71 + n ∧ ((371 ≠ 371 ∧ 371 ≠ 372 ∧ 371 ≠ 373 ∧ 371 ≠ 374 ∧ 371 ≠ 375 ∧ 371 ≠ 376) ∨ j ≠ n) ∧ (371 ≠ 52 ∨ j ≠ 26) by omega)).trans e, l⟩
  · exact stOK_up (g.2 j hj) (F.2.2 373 373 j (tu373 hg) (show 373 ≠ 68 ∧ 373 ≠ 69 ∧ 373 ≠ 378 ∧ 373 ≠ 71 + n ∧ ((373 ≠ 371 ∧ 373 ≠ 372 ∧ 373 ≠ 373 ∧ 373 ≠ 374 ∧ 373 ≠ 375 ∧ 373 ≠ 376) ∨ j ≠ n) ∧ (373 ≠ 52 ∨ j ≠ 26) by omega)) (F.2.2 374 374 j (tu374 hg) (show 374 ≠ 68 ∧ 374 ≠ 69 ∧ 374 ≠ 378 ∧ 374 ≠ 71 + n ∧ ((374 ≠ 371 ∧ 374 ≠ 372 ∧ 374 ≠ 373 ∧ 374 ≠ 374 ∧ 374 ≠ 375 ∧ 374 ≠ 376) ∨ j ≠ n) ∧ (374 ≠ 52 ∨ j ≠ 26) by omega)) (F.2.2 375 375 j (tu375 hg) (show 375 ≠ 68 ∧ 375 ≠ 69 ∧ 375 ≠ 378 ∧ 375 ≠ 71 + n ∧ ((375 ≠ 371 ∧ 375 ≠ 372 ∧ 375 ≠ 373 ∧ 375 ≠ 374 ∧ 375 ≠ 375 ∧ 375 ≠ 376) ∨ j ≠ n) ∧ (375 ≠ 52 ∨ j ≠ 26) by omega)) (F.2.2 (71 + j) 1012 0 (tuR hg (by omega)) (show (71 + j) ≠ 68 ∧ (71 + j) ≠ 69 ∧ (71 + j) ≠ 378 ∧ (71 + j) ≠ 71 + n ∧ (((71 + j) ≠ 371 ∧ (71 + j) ≠ 372 ∧ (71 + j) ≠ 373 ∧ (71 + j) ≠ 374 ∧ (71 + j) ≠ 375 ∧ (71 + j) ≠ 376) ∨ 0 ≠ n) ∧ ((71 + j) ≠ 52 ∨ 0 ≠ 26) by omega)) (F.2.2 (71 + j) 1012 1 (tuR hg (by omega)) (show (71 + j) ≠ 68 ∧ (71 + j) ≠ 69 ∧ (71 + j) ≠ 378 ∧ (71 + j) ≠ 71 + n ∧ (((71 + j) ≠ 371 ∧ (71 + j) ≠ 372 ∧ (71 + j) ≠ 373 ∧ (71 + j) ≠ 374 ∧ (71 + j) ≠ 375 ∧ (71 + j) ≠ 376) ∨ 1 ≠ n) ∧ ((71 + j) ≠ 52 ∨ 1 ≠ 26) by omega))
theorem Gv_add {h : zh} {n : Nat} (g : Gv h n) (hp : ∃ x : Int32, hsl h 371 n = some (zi x) ∧ x.toInt < (n : Int)) (hs : stOK h n) : Gv h (n + 1) := by
  refine ⟨fun j hj => ?_, fun j hj => ?_⟩
  · rcases (show j < n ∨ j = n by omega) with q | q
    · exact g.1 j q
    · subst q
      exact hp
  · rcases (show j < n ∨ j = n by omega) with q | q
    · exact g.2 j q
    · subst q
      exact hs
def cmR (τ : List Nat) (n : Nat) (h : zh) (y : Int32) (h1 : zh) : Prop := 0 ≤ y.toInt ∧ y.toInt ≤ 1 ∧ ∃ τ1, oF (fun k j => k ≠ 68 ∧ k ≠ 69 ∧ k ≠ 378 ∧ k ≠ 71 + n ∧ ((k ≠ 371 ∧ k ≠ 372 ∧ k ≠ 373 ∧ k ≠ 374 ∧ k ≠ 375 ∧ k ≠ 376) ∨ j ≠ n) ∧ (k ≠ 52 ∨ j ≠ 26)) τ h τ1 h1 ∧ (y.toInt ≠ 0 → n < 300 ∧ (∃ x : Int32, hsl h1 52 26 = some (zi x) ∧ x.toInt = (n : Int) + 1) ∧ Gv h1 (n + 1))
theorem fall_same {h h1 h2 : zh} {R : Nat} (hf : fall h h1 R) (e : ∀ j, hsl h2 R j = hsl h1 R j) : fall h h2 R := by
  have s : ∀ o n, sm h2 R o n = sm h1 R o n := fun o n => sm_eq (fun i _ => e _)
  unfold fall at hf ⊢
  rw [s, s, s]
  exact hf
theorem fall_rec {R : Nat} {Q : List Nat → zh → Prop} (step : ∀ τ h, (∀ τ1 h1, fall h h1 R → Q τ1 h1) → Q τ h) : ∀ τ h, Q τ h := by
  have key : ∀ a b c τ h, sm h R 0 3 = a → sm h R 24 176 = b → sm h R 3 21 = c → Q τ h := by
    intro a
    induction a using Nat.strongRecOn with
    | _ a iha =>
      intro b
      induction b using Nat.strongRecOn with
      | _ b ihb =>
        intro c
        induction c using Nat.strongRecOn with
        | _ c ihc =>
          intro τ h e1 e2 e3
          refine step τ h (fun τ1 h1 hf => ?_)
          rcases hf with q | ⟨q1, q | ⟨q2, q⟩⟩
          · exact iha _ (by omega) _ _ τ1 h1 rfl rfl rfl
          · exact ihb _ (show sm h1 R 24 176 < b by omega) _ τ1 h1 (by omega) rfl rfl
          · exact ihc _ (show sm h1 R 3 21 < c by omega) τ1 h1 (by omega) (by omega) rfl
  exact fun τ h => key _ _ _ τ h rfl rfl rfl
theorem cm_l {τ0 : List Nat} {h0 : zh} {n t : Nat} (hC : ∀ (mk : Nat) (c' : aK), c' ∈ actb mk → c'.2.2.1 ≤ 8 → cOK aJ mk c') (hn9 : n < 300) {xo xw xk : Int32} {P : zo × zh × Nat → Prop} (hxk : xk.toInt = (n : Int)) (kk : ∀ (τ : List Nat) (h : zh) (v : Int32), oF (fun k j => k ≠ 71 + n) τ0 h0 τ h → 0 ≤ v.toInt → v.toInt ≤ 1 → qX 11 231 189 [some (.inl (some 52)), some (zi xo), some (zi xw), some (zi xk), some (zi v)] [] h t P) : ∀ (τ : List Nat) (h : zh), oF (fun k j => k ≠ 71 + n) τ0 h0 τ h → ∀ v : Int32, 0 ≤ v.toInt → v.toInt ≤ 1 → qX 11 231 158 [some (.inl (some 52)), some (zi xo), some (zi xw), some (zi xk), some (zi v)] [] h t P := by
  refine fall_rec (R := 71 + n) ?_
  intro τ h ih O0 v hv0 hv1
  have hg := O0.2.1
  refine y_same (i := .iload 4) (len := 2) (r := (0, 0, 0, 0)) (pc' := 160) (ls' := [some (.inl (some 52)), some (zi xo), some (zi xw), some (zi xk), some (zi v)]) (st' := [zi v]) (by decide +kernel) (fun k q => by cases q) rfl ?_
  rcases Decidable.em (v.toInt ≠ 0) with q144 | q144
  ·
    refine y_iT (c := .ne) (off := 29) (pc' := 189) (len := 3) (r := (0, 0, 0, 0)) (by decide +kernel) (acmpT (c := .ne) (by show ¬ (_ = _); omega)) (by decide +kernel) ?_
    exact kk τ h v O0 (by omega) (by omega)
  ·
    refine y_iF (c := .ne) (off := 29) (len := 3) (r := (0, 0, 0, 0)) (by decide +kernel) (acmpF (c := .ne) (by show _ = _; omega)) ?_
    refine y_same (i := .aload_n 0) (len := 1) (r := (0, 0, 0, 0)) (pc' := 164) (ls' := [some (.inl (some 52)), some (zi xo), some (zi xw), some (zi xk), some (zi v)]) (st' := [.inl (some 52)]) (by decide +kernel) (fun k q => by cases q) rfl ?_
    refine y_get (j := 37) (len := 3) (r := (12, 15, 2, 1343)) (by decide +kernel) hg (t52 hg) at52 rfl rfl (g_r52 (f := 15) (T2 := 70) hg rfl (by decide)).1 ?_
    refine y_same (i := .iload_n 3) (len := 1) (r := (0, 0, 0, 0)) (pc' := 168) (ls' := [some (.inl (some 52)), some (zi xo), some (zi xw), some (zi xk), some (zi v)]) (st' := [zi xk, .inl (some 70)]) (by decide +kernel) (fun k q => by cases q) rfl ?_
    refine y_aal (i := n) (len := 1) (r := (0, 0, 0, 0)) (by decide +kernel) hg (tu70 hg) at70 rfl (by omega) (hg.2.2 n (by omega)) ?_
    refine y_cI (i := .invokestatic 357) (len := 3) (r := (1, 215, 12, 1718)) (nL := 3) (k := 2) (n := 1) (hs := []) (args := [.inl (some ((71 + n)))]) (rest := []) (l0 := [some (.inl (some ((71 + n)))), none, none]) (by decide +kernel) (Or.inl ⟨_, rfl⟩) rfl rfl rfl rfl (Nat.le_of_ble_eq_true rfl) rfl rfl (qI_le (by decide) (e_readies hC hg (tuR hg hn9))) (fun y145 h145 hRy145 => ?_)
    obtain ⟨ly145, uy145, ⟨τ145, hu145, hg145, hf145⟩, fl145⟩ := hRy145
    have O145 : oF (fun k j => k ≠ 71 + n) τ h τ145 h145 := ⟨hu145, hg145, fun k T j hk hne => hf145 k T j hk hne⟩
    rcases Decidable.em (y145.toInt = 0) with q146 | q146
    ·
      refine y_iT (c := .eq) (off := 17) (pc' := 189) (len := 3) (r := (0, 0, 0, 0)) (by decide +kernel) (acmpT (c := .eq) (by show _ = _; omega)) (by decide +kernel) ?_
      exact kk τ145 h145 v ⟨aup_trans O0.1 O145.1, O145.2.1, fun k T j hk (hC : k ≠ 71 + n) => ((O145.2.2 k T j (O0.1 _ _ hk) (show k ≠ 71 + n by omega))).trans (O0.2.2 k T j hk hC)⟩ (by omega) (by omega)
    ·
      refine y_iF (c := .eq) (off := 17) (len := 3) (r := (0, 0, 0, 0)) (by decide +kernel) (acmpF (c := .eq) (by show ¬ (_ = _); omega)) ?_
      refine y_same (i := .aload_n 0) (len := 1) (r := (0, 0, 0, 0)) (pc' := 176) (ls' := [some (.inl (some 52)), some (zi xo), some (zi xw), some (zi xk), some (zi v)]) (st' := [.inl (some 52)]) (by decide +kernel) (fun k q => by cases q) rfl ?_
      refine y_get (j := 37) (len := 3) (r := (12, 15, 2, 1343)) (by decide +kernel) O145.2.1 (t52 O145.2.1) at52 rfl rfl (g_r52 (f := 15) (T2 := 70) O145.2.1 rfl (by decide)).1 ?_
      refine y_same (i := .iload_n 3) (len := 1) (r := (0, 0, 0, 0)) (pc' := 180) (ls' := [some (.inl (some 52)), some (zi xo), some (zi xw), some (zi xk), some (zi v)]) (st' := [zi xk, .inl (some 70)]) (by decide +kernel) (fun k q => by cases q) rfl ?_
      refine y_aal (i := n) (len := 1) (r := (0, 0, 0, 0)) (by decide +kernel) O145.2.1 (tu70 O145.2.1) at70 rfl (by omega) (O145.2.1.2.2 n (by omega)) ?_
      refine y_cI (i := .invokestatic 354) (len := 3) (r := (1, 213, 12, 1709)) (nL := 3) (k := 2) (n := 1) (hs := []) (args := [.inl (some ((71 + n)))]) (rest := []) (l0 := [some (.inl (some ((71 + n)))), none, none]) (by decide +kernel) (Or.inl ⟨_, rfl⟩) rfl rfl rfl rfl (Nat.le_of_ble_eq_true rfl) rfl rfl (use_I (τ := τ145) 0 1 (hC 213 ac264 List.mem_cons_self (by decide)) rfl O145.2.1 (show aqsM _ _ [.inl (some ((71 + n)))] from ⟨aqR (tuR O145.2.1 (by omega)), trivial⟩) rfl (by decide +kernel) (by decide)) (fun y147 h147 hRy147 => ?_)
      obtain ⟨ly147, uy147, τ147, hu147, hg147, hF147⟩ := hRy147
      have O147 : oF (fun _ _ => True) τ145 h145 τ147 h147 := ⟨hu147, hg147, fun k T j hk _ => hF147 k T j hk rfl⟩
      refine y_same (i := .istore 4) (len := 2) (r := (0, 0, 0, 0)) (pc' := 186) (ls' := [some (.inl (some 52)), some (zi xo), some (zi xw), some (zi xk), some (zi y147)]) (st' := []) (by decide +kernel) (fun k q => by cases q) rfl ?_
      refine y_goto (off := (-28)) (pc' := 158) (len := 3) (r := (0, 0, 0, 0)) (by decide +kernel) (by decide +kernel) ?_
      exact ih τ147 h147 (fall_same (fl145 (by omega)) (fun j => O147.2.2 (71 + n) 1012 j (tuR hg145 hn9) trivial)) ⟨aup_trans O0.1 (aup_trans O145.1 O147.1), O147.2.1, fun k T j hk (hC : k ≠ 71 + n) => (((O147.2.2 k T j (O145.1 _ _ (O0.1 _ _ hk)) (trivial)).trans (O145.2.2 k T j (O0.1 _ _ hk) (show k ≠ 71 + n by omega)))).trans (O0.2.2 k T j hk hC)⟩ y147 (by omega) (by omega)
theorem cm_tA {τ0 τ : List Nat} {h0 h : zh} {n t : Nat} (hC : ∀ (mk : Nat) (c' : aK), c' ∈ actb mk → c'.2.2.1 ≤ 8 → cOK aJ mk c') (hn9 : n < 300) {xo xw xs : Int32} (hxo : xo.toInt = -1) (hg0 : hG τ0 h0) (G0 : Gv h0 n) (O0 : oF (fun k j => k ≠ 68 ∧ k ≠ 69 ∧ k ≠ 378 ∧ k ≠ 71 + n ∧ ((k ≠ 371 ∧ k ≠ 372 ∧ k ≠ 373 ∧ k ≠ 374 ∧ k ≠ 375 ∧ k ≠ 376) ∨ j ≠ n) ∧ (k ≠ 52 ∨ j ≠ 26)) τ0 h0 τ h) (hs : hsl h 52 26 = some (zi xs)) (hxs : xs.toInt = (n : Int)) : qX 11 231 44 [some (.inl (some 52)), some (zi xo), some (zi xw), none, none] [] h t (rI (cmR τ0 n h0) t) := by
  have hg := O0.2.1
  refine y_same (i := .aload_n 0) (len := 1) (r := (0, 0, 0, 0)) (pc' := 45) (ls' := [some (.inl (some 52)), some (zi xo), some (zi xw), none, none]) (st' := [.inl (some 52)]) (by decide +kernel) (fun k q => by cases q) rfl ?_
  refine y_get (j := 61) (len := 3) (r := (12, 23, 2, 1351)) (by decide +kernel) hg (t52 hg) at52 rfl rfl (g_r52 (f := 23) (T2 := 378) hg rfl (by decide)).1 ?_
  refine y_ic (c := 0) (len := 1) (r := (0, 0, 0, 0)) (by decide +kernel) (by decide) (fun y148 hy148 => ?_)
  obtain ⟨v149, hv150, lv149, uv149⟩ := g_int (i := 0) hg (tu378 hg) at378 (show 0 < 200 by omega) (srA (by omega))
  refine y_ial (i := 0) (len := 1) (r := (0, 0, 0, 0)) (by decide +kernel) hg (tu378 hg) at378 (by omega) hv150 ?_
  refine y_bi (c := 12) (len := 2) (r := (0, 0, 0, 0)) (by decide +kernel) (by decide) (fun y151 hy151 => ?_)
  rcases Decidable.em (v149.toInt > y151.toInt) with q152 | q152
  ·
    refine y_cT (c := .gt) (off := 25) (pc' := 77) (len := 3) (r := (0, 0, 0, 0)) (by decide +kernel) (acmpT (c := .gt) (by show _ < _; omega)) (by decide +kernel) ?_
    refine y_ic (c := 0) (len := 1) (r := (0, 0, 0, 0)) (by decide +kernel) (by decide) (fun y153 hy153 => ?_)
    refine y_rI (len := 1) (r := (0, 0, 0, 0)) (nL := 5) (k := 2) (n9 := 3) (hs := []) (by decide +kernel) rfl (zfit_b (by omega) (by omega)).2 ?_
    exact ⟨by omega, by omega, _, O0, fun h9 => absurd (by omega) h9⟩
  ·
    refine y_cF (c := .gt) (off := 25) (len := 3) (r := (0, 0, 0, 0)) (by decide +kernel) (acmpF (c := .gt) (by show _ ≤ _; omega)) ?_
    refine y_same (i := .aload_n 0) (len := 1) (r := (0, 0, 0, 0)) (pc' := 56) (ls' := [some (.inl (some 52)), some (zi xo), some (zi xw), none, none]) (st' := [.inl (some 52)]) (by decide +kernel) (fun k q => by cases q) rfl ?_
    refine y_get (j := 61) (len := 3) (r := (12, 23, 2, 1351)) (by decide +kernel) hg (t52 hg) at52 rfl rfl (g_r52 (f := 23) (T2 := 378) hg rfl (by decide)).1 ?_
    refine y_ic (c := 1) (len := 1) (r := (0, 0, 0, 0)) (by decide +kernel) (by decide) (fun y154 hy154 => ?_)
    obtain ⟨v155, hv156, lv155, uv155⟩ := g_int (i := 1) hg (tu378 hg) at378 (show 1 < 200 by omega) (srA (by omega))
    refine y_ial (i := 1) (len := 1) (r := (0, 0, 0, 0)) (by decide +kernel) hg (tu378 hg) at378 (by omega) hv156 ?_
    refine y_bi (c := 12) (len := 2) (r := (0, 0, 0, 0)) (by decide +kernel) (by decide) (fun y157 hy157 => ?_)
    rcases Decidable.em (v155.toInt > y157.toInt) with q158 | q158
    ·
      refine y_cT (c := .gt) (off := 14) (pc' := 77) (len := 3) (r := (0, 0, 0, 0)) (by decide +kernel) (acmpT (c := .gt) (by show _ < _; omega)) (by decide +kernel) ?_
      refine y_ic (c := 0) (len := 1) (r := (0, 0, 0, 0)) (by decide +kernel) (by decide) (fun y159 hy159 => ?_)
      refine y_rI (len := 1) (r := (0, 0, 0, 0)) (nL := 5) (k := 2) (n9 := 3) (hs := []) (by decide +kernel) rfl (zfit_b (by omega) (by omega)).2 ?_
      exact ⟨by omega, by omega, _, O0, fun h9 => absurd (by omega) h9⟩
    ·
      refine y_cF (c := .gt) (off := 14) (len := 3) (r := (0, 0, 0, 0)) (by decide +kernel) (acmpF (c := .gt) (by show _ ≤ _; omega)) ?_
      refine y_same (i := .aload_n 0) (len := 1) (r := (0, 0, 0, 0)) (pc' := 67) (ls' := [some (.inl (some 52)), some (zi xo), some (zi xw), none, none]) (st' := [.inl (some 52)]) (by decide +kernel) (fun k q => by cases q) rfl ?_
      refine y_get (j := 61) (len := 3) (r := (12, 23, 2, 1351)) (by decide +kernel) hg (t52 hg) at52 rfl rfl (g_r52 (f := 23) (T2 := 378) hg rfl (by decide)).1 ?_
      refine y_ic (c := 2) (len := 1) (r := (0, 0, 0, 0)) (by decide +kernel) (by decide) (fun y160 hy160 => ?_)
      obtain ⟨v161, hv162, lv161, uv161⟩ := g_int (i := 2) hg (tu378 hg) at378 (show 2 < 200 by omega) (srA (by omega))
      refine y_ial (i := 2) (len := 1) (r := (0, 0, 0, 0)) (by decide +kernel) hg (tu378 hg) at378 (by omega) hv162 ?_
      refine y_bi (c := 12) (len := 2) (r := (0, 0, 0, 0)) (by decide +kernel) (by decide) (fun y163 hy163 => ?_)
      rcases Decidable.em (v161.toInt ≤ y163.toInt) with q164 | q164
      ·
        refine y_cT (c := .le) (off := 5) (pc' := 79) (len := 3) (r := (0, 0, 0, 0)) (by decide +kernel) (acmpT (c := .le) (by show _ ≤ _; omega)) (by decide +kernel) ?_
        refine y_same (i := .aload_n 0) (len := 1) (r := (0, 0, 0, 0)) (pc' := 80) (ls' := [some (.inl (some 52)), some (zi xo), some (zi xw), none, none]) (st' := [.inl (some 52)]) (by decide +kernel) (fun k q => by cases q) rfl ?_
        refine y_get (j := 348) (len := 3) (r := (12, 26, 0, 1354)) (by decide +kernel) hg (t52 hg) at52 rfl rfl hs ?_
        refine y_same (i := .istore_n 3) (len := 1) (r := (0, 0, 0, 0)) (pc' := 84) (ls' := [some (.inl (some 52)), some (zi xo), some (zi xw), some (zi xs), none]) (st' := []) (by decide +kernel) (fun k q => by cases q) rfl ?_
        refine y_same (i := .aload_n 0) (len := 1) (r := (0, 0, 0, 0)) (pc' := 85) (ls' := [some (.inl (some 52)), some (zi xo), some (zi xw), some (zi xs), none]) (st' := [.inl (some 52)]) (by decide +kernel) (fun k q => by cases q) rfl ?_
        refine y_same (i := .dup) (len := 1) (r := (0, 0, 0, 0)) (pc' := 86) (ls' := [some (.inl (some 52)), some (zi xo), some (zi xw), some (zi xs), none]) (st' := [.inl (some 52), .inl (some 52)]) (by decide +kernel) (fun k q => by cases q) rfl ?_
        refine y_get (j := 348) (len := 3) (r := (12, 26, 0, 1354)) (by decide +kernel) hg (t52 hg) at52 rfl rfl hs ?_
        refine y_ic (c := 1) (len := 1) (r := (0, 0, 0, 0)) (by decide +kernel) (by decide) (fun y165 hy165 => ?_)
        refine y_add (len := 1) (r := (0, 0, 0, 0)) (by decide +kernel) (by omega) (by omega) (fun y166 hy166 => ?_)
        refine y_put (j := 348) (lo := 0) (hi := 300) (len := 3) (r := (12, 26, 0, 1354)) (by decide +kernel) hg (t52 hg) at52 rfl rfl (by decide) rfl (by omega) (by omega) rfl (fun h167 hg167 hl167 hs167 ho167 => ?_)
        have ho167 : hO 52 26 h h167 := ho167
        have hs167 : hsl h167 52 26 = some (zi y166) := hs167
        refine y_same (i := .aload_n 0) (len := 1) (r := (0, 0, 0, 0)) (pc' := 95) (ls' := [some (.inl (some 52)), some (zi xo), some (zi xw), some (zi xs), none]) (st' := [.inl (some 52)]) (by decide +kernel) (fun k q => by cases q) rfl ?_
        refine y_get (j := 40) (len := 3) (r := (12, 16, 2, 1344)) (by decide +kernel) hg167 (t52 hg167) at52 rfl rfl (g_r52 (f := 16) (T2 := 371) hg167 rfl (by decide)).1 ?_
        refine y_same (i := .iload_n 3) (len := 1) (r := (0, 0, 0, 0)) (pc' := 99) (ls' := [some (.inl (some 52)), some (zi xo), some (zi xw), some (zi xs), none]) (st' := [zi xs, .inl (some 371)]) (by decide +kernel) (fun k q => by cases q) rfl ?_
        refine y_same (i := .iload_n 1) (len := 1) (r := (0, 0, 0, 0)) (pc' := 100) (ls' := [some (.inl (some 52)), some (zi xo), some (zi xw), some (zi xs), none]) (st' := [zi xo, zi xs, .inl (some 371)]) (by decide +kernel) (fun k q => by cases q) rfl ?_
        refine y_ias (i := n) (len := 1) (r := (0, 0, 0, 0)) (by decide +kernel) hg167 (tu371 hg167) at371 rfl (by omega) (by omega) (sr1 (by omega)) (by omega) (by omega) (fun h168 hg168 hl168 hs168 ho168 => ?_)
        refine y_same (i := .aload_n 0) (len := 1) (r := (0, 0, 0, 0)) (pc' := 102) (ls' := [some (.inl (some 52)), some (zi xo), some (zi xw), some (zi xs), none]) (st' := [.inl (some 52)]) (by decide +kernel) (fun k q => by cases q) rfl ?_
        refine y_get (j := 43) (len := 3) (r := (12, 17, 2, 1345)) (by decide +kernel) hg168 (t52 hg168) at52 rfl rfl (g_r52 (f := 17) (T2 := 372) hg168 rfl (by decide)).1 ?_
        refine y_same (i := .iload_n 3) (len := 1) (r := (0, 0, 0, 0)) (pc' := 106) (ls' := [some (.inl (some 52)), some (zi xo), some (zi xw), some (zi xs), none]) (st' := [zi xs, .inl (some 372)]) (by decide +kernel) (fun k q => by cases q) rfl ?_
        refine y_same (i := .iload_n 1) (len := 1) (r := (0, 0, 0, 0)) (pc' := 107) (ls' := [some (.inl (some 52)), some (zi xo), some (zi xw), some (zi xs), none]) (st' := [zi xo, zi xs, .inl (some 372)]) (by decide +kernel) (fun k q => by cases q) rfl ?_
        refine y_ic (c := (-1)) (len := 1) (r := (0, 0, 0, 0)) (by decide +kernel) (by decide) (fun y169 hy169 => ?_)
        refine y_cF (c := .ne) (off := 7) (len := 3) (r := (0, 0, 0, 0)) (by decide +kernel) (acmpF (c := .ne) (by show _ = _; omega)) ?_
        refine y_ic (c := 1) (len := 1) (r := (0, 0, 0, 0)) (by decide +kernel) (by decide) (fun y170 hy170 => ?_)
        refine y_goto (off := 11) (pc' := 123) (len := 3) (r := (0, 0, 0, 0)) (by decide +kernel) (by decide +kernel) ?_
        refine y_ias (i := n) (len := 1) (r := (0, 0, 0, 0)) (by decide +kernel) hg168 (tu372 hg168) at372 rfl (by omega) (by omega) (sr1 (by omega)) (by omega) (by omega) (fun h171 hg171 hl171 hs171 ho171 => ?_)
        refine y_same (i := .aload_n 0) (len := 1) (r := (0, 0, 0, 0)) (pc' := 125) (ls' := [some (.inl (some 52)), some (zi xo), some (zi xw), some (zi xs), none]) (st' := [.inl (some 52)]) (by decide +kernel) (fun k q => by cases q) rfl ?_
        refine y_get (j := 55) (len := 3) (r := (12, 21, 2, 1349)) (by decide +kernel) hg171 (t52 hg171) at52 rfl rfl (g_r52 (f := 21) (T2 := 376) hg171 rfl (by decide)).1 ?_
        refine y_same (i := .iload_n 3) (len := 1) (r := (0, 0, 0, 0)) (pc' := 129) (ls' := [some (.inl (some 52)), some (zi xo), some (zi xw), some (zi xs), none]) (st' := [zi xs, .inl (some 376)]) (by decide +kernel) (fun k q => by cases q) rfl ?_
        refine y_ic (c := (-1)) (len := 1) (r := (0, 0, 0, 0)) (by decide +kernel) (by decide) (fun y172 hy172 => ?_)
        refine y_ias (i := n) (len := 1) (r := (0, 0, 0, 0)) (by decide +kernel) hg171 (tu376 hg171) at376 rfl (by omega) (by omega) (sr1 (by omega)) (by omega) (by omega) (fun h173 hg173 hl173 hs173 ho173 => ?_)
        refine y_same (i := .aload_n 0) (len := 1) (r := (0, 0, 0, 0)) (pc' := 132) (ls' := [some (.inl (some 52)), some (zi xo), some (zi xw), some (zi xs), none]) (st' := [.inl (some 52)]) (by decide +kernel) (fun k q => by cases q) rfl ?_
        refine y_get (j := 61) (len := 3) (r := (12, 23, 2, 1351)) (by decide +kernel) hg173 (t52 hg173) at52 rfl rfl (g_r52 (f := 23) (T2 := 378) hg173 rfl (by decide)).1 ?_
        refine y_same (i := .aload_n 0) (len := 1) (r := (0, 0, 0, 0)) (pc' := 136) (ls' := [some (.inl (some 52)), some (zi xo), some (zi xw), some (zi xs), none]) (st' := [.inl (some 52), .inl (some 378)]) (by decide +kernel) (fun k q => by cases q) rfl ?_
        refine y_get (j := 37) (len := 3) (r := (12, 15, 2, 1343)) (by decide +kernel) hg173 (t52 hg173) at52 rfl rfl (g_r52 (f := 15) (T2 := 70) hg173 rfl (by decide)).1 ?_
        refine y_same (i := .iload_n 3) (len := 1) (r := (0, 0, 0, 0)) (pc' := 140) (ls' := [some (.inl (some 52)), some (zi xo), some (zi xw), some (zi xs), none]) (st' := [zi xs, .inl (some 70), .inl (some 378)]) (by decide +kernel) (fun k q => by cases q) rfl ?_
        refine y_aal (i := n) (len := 1) (r := (0, 0, 0, 0)) (by decide +kernel) hg173 (tu70 hg173) at70 rfl (by omega) (hg173.2.2 n (by omega)) ?_
        refine y_si (c := 200) (len := 3) (r := (0, 0, 0, 0)) (by decide +kernel) (by decide) (fun y174 hy174 => ?_)
        have hv176 := (ho167 378 0 (Or.inl (by omega))).trans hv150
        have hv177 := (ho168 378 0 (Or.inl (by omega))).trans hv176
        have hv178 := (ho171 378 0 (Or.inl (by omega))).trans hv177
        have hv179 := (ho173 378 0 (Or.inl (by omega))).trans hv178
        have hv180 := (ho167 378 1 (Or.inl (by omega))).trans hv156
        have hv181 := (ho168 378 1 (Or.inl (by omega))).trans hv180
        have hv182 := (ho171 378 1 (Or.inl (by omega))).trans hv181
        have hv183 := (ho173 378 1 (Or.inl (by omega))).trans hv182
        have hv184 := (ho167 378 2 (Or.inl (by omega))).trans hv162
        have hv185 := (ho168 378 2 (Or.inl (by omega))).trans hv184
        have hv186 := (ho171 378 2 (Or.inl (by omega))).trans hv185
        have hv187 := (ho173 378 2 (Or.inl (by omega))).trans hv186
        refine y_cV (i := .invokestatic 216) (len := 3) (r := (1, 185, 12, 1572)) (nL := 4) (k := 0) (n := 3) (hs := []) (args := [.inl (some 378), .inl (some ((71 + n))), zi y174]) (rest := []) (l0 := [some (.inl (some 378)), some (.inl (some ((71 + n)))), some (zi y174), none]) (by decide +kernel) (Or.inl ⟨_, rfl⟩) rfl rfl rfl rfl (Nat.le_of_ble_eq_true rfl) rfl rfl (e_copies hg173 hn9 (by omega) (fun j hj x hx => by
              rcases (show j = 0 ∨ j = 1 ∨ j = 2 by omega) with rfl | rfl | rfl
              · rw [hv179] at hx
                cases hx
                omega
              · rw [hv183] at hx
                cases hx
                omega
              · rw [hv187] at hx
                cases hx
                omega)) (fun h175 hR175 => ?_)
        obtain ⟨hg175, hl175, ho175⟩ := hR175
        have O175 : oF (fun k j => k ≠ 71 + n) τ h173 τ h175 := ⟨aup_refl _, hg175, fun k T j _ hne => ho175 k j hne⟩
        refine y_same (i := .aload_n 0) (len := 1) (r := (0, 0, 0, 0)) (pc' := 148) (ls' := [some (.inl (some 52)), some (zi xo), some (zi xw), some (zi xs), none]) (st' := [.inl (some 52)]) (by decide +kernel) (fun k q => by cases q) rfl ?_
        refine y_get (j := 37) (len := 3) (r := (12, 15, 2, 1343)) (by decide +kernel) O175.2.1 (t52 O175.2.1) at52 rfl rfl (g_r52 (f := 15) (T2 := 70) O175.2.1 rfl (by decide)).1 ?_
        refine y_same (i := .iload_n 3) (len := 1) (r := (0, 0, 0, 0)) (pc' := 152) (ls' := [some (.inl (some 52)), some (zi xo), some (zi xw), some (zi xs), none]) (st' := [zi xs, .inl (some 70)]) (by decide +kernel) (fun k q => by cases q) rfl ?_
        refine y_aal (i := n) (len := 1) (r := (0, 0, 0, 0)) (by decide +kernel) O175.2.1 (tu70 O175.2.1) at70 rfl (by omega) (O175.2.1.2.2 n (by omega)) ?_
        refine y_cI (i := .invokestatic 354) (len := 3) (r := (1, 213, 12, 1709)) (nL := 3) (k := 2) (n := 1) (hs := []) (args := [.inl (some ((71 + n)))]) (rest := []) (l0 := [some (.inl (some ((71 + n)))), none, none]) (by decide +kernel) (Or.inl ⟨_, rfl⟩) rfl rfl rfl rfl (Nat.le_of_ble_eq_true rfl) rfl rfl (use_I (τ := τ) 0 1 (hC 213 ac264 List.mem_cons_self (by decide)) rfl O175.2.1 (show aqsM _ _ [.inl (some ((71 + n)))] from ⟨aqR (tuR O175.2.1 (by omega)), trivial⟩) rfl (by decide +kernel) (by decide)) (fun y188 h188 hRy188 => ?_)
        obtain ⟨ly188, uy188, τ188, hu188, hg188, hF188⟩ := hRy188
        have O188 : oF (fun _ _ => True) τ h175 τ188 h188 := ⟨hu188, hg188, fun k T j hk _ => hF188 k T j hk rfl⟩
        refine y_same (i := .istore 4) (len := 2) (r := (0, 0, 0, 0)) (pc' := 158) (ls' := [some (.inl (some 52)), some (zi xo), some (zi xw), some (zi xs), some (zi y188)]) (st' := []) (by decide +kernel) (fun k q => by cases q) rfl ?_
        have hv189 := (ho168 52 26 (Or.inl (by omega))).trans hs167
        have hv190 := (ho171 52 26 (Or.inl (by omega))).trans hv189
        have hv191 := (ho173 52 26 (Or.inl (by omega))).trans hv190
        have hv192 := (O175.2.2 52 52 26 (t52 hg173) (show 52 ≠ 71 + n by omega)).trans hv191
        have hv193 := (O188.2.2 52 52 26 (t52 O175.2.1) (trivial)).trans hv192
        have hv194 := (ho171 371 n (Or.inl (by omega))).trans hs168
        have hv195 := (ho173 371 n (Or.inl (by omega))).trans hv194
        have hv196 := (O175.2.2 371 371 n (tu371 hg173) (show 371 ≠ 71 + n by omega)).trans hv195
        have hv197 := (O188.2.2 371 371 n (tu371 O175.2.1) (trivial)).trans hv196
        have O1 : oF (fun k j => k ≠ 68 ∧ k ≠ 69 ∧ k ≠ 378 ∧ k ≠ 71 + n ∧ ((k ≠ 371 ∧ k ≠ 372 ∧ k ≠ 373 ∧ k ≠ 374 ∧ k ≠ 375 ∧ k ≠ 376) ∨ j ≠ n) ∧ (k ≠ 52 ∨ j ≠ 26)) τ0 h0 τ188 h188 := ⟨aup_trans O0.1 (aup_trans O175.1 O188.1), O188.2.1, fun k T j hk (hC : k ≠ 68 ∧ k ≠ 69 ∧ k ≠ 378 ∧ k ≠ 71 + n ∧ ((k ≠ 371 ∧ k ≠ 372 ∧ k ≠ 373 ∧ k ≠ 374 ∧ k ≠ 375 ∧ k ≠ 376) ∨ j ≠ n) ∧ (k ≠ 52 ∨ j ≠ 26)) => (((O188.2.2 k T j (O175.1 _ _ (O0.1 _ _ hk)) (trivial)).trans ((O175.2.2 k T j (O0.1 _ _ hk) (show k ≠ 71 + n by omega)).trans ((ho173 k j (by omega)).trans ((ho171 k j (by omega)).trans ((ho168 k j (by omega)).trans (ho167 k j (by omega)))))))).trans (O0.2.2 k T j hk hC)⟩
        refine cm_l hC hn9 (by omega) (fun τb hb v Ob hv0 hv1 => ?_) τ188 h188 (oF_refl O188.2.1) y188 (by omega) (by omega)
        have O2 : oF (fun k j => k ≠ 68 ∧ k ≠ 69 ∧ k ≠ 378 ∧ k ≠ 71 + n ∧ ((k ≠ 371 ∧ k ≠ 372 ∧ k ≠ 373 ∧ k ≠ 374 ∧ k ≠ 375 ∧ k ≠ 376) ∨ j ≠ n) ∧ (k ≠ 52 ∨ j ≠ 26)) τ0 h0 τb hb := oF_trans O1 (oF_imp (fun k j hC => hC.2.2.2.1) Ob)
        have hs1 := (Ob.2.2 52 52 26 (t52 O188.2.1) (show 52 ≠ 71 + n by omega)).trans hv193
        have hp1 := (Ob.2.2 371 371 n (tu371 O188.2.1) (show 371 ≠ 71 + n by omega)).trans hv197
        have hpar : ∀ j, j ≤ n → ∃ x : Int32, hsl hb 371 j = some (zi x) ∧ x.toInt < (j : Int) := fun j hj => by
          rcases (show j < n ∨ j = n by omega) with q | q
          · exact (Gv_up G0 hg0 hn9 O2).1 j q
          · subst q
            exact ⟨_, hp1, by omega⟩
        refine y_same (i := .iload 4) (len := 2) (r := (0, 0, 0, 0)) (pc' := 191) (ls' := [some (.inl (some 52)), some (zi xo), some (zi xw), some (zi xs), some (zi v)]) (st' := [zi v]) (by decide +kernel) (fun k q => by cases q) rfl ?_
        rcases Decidable.em (v.toInt = 0) with q198 | q198
        ·
          refine y_iT (c := .eq) (off := 13) (pc' := 204) (len := 3) (r := (0, 0, 0, 0)) (by decide +kernel) (acmpT (c := .eq) (by show _ = _; omega)) (by decide +kernel) ?_
          refine y_same (i := .aload_n 0) (len := 1) (r := (0, 0, 0, 0)) (pc' := 205) (ls' := [some (.inl (some 52)), some (zi xo), some (zi xw), some (zi xs), some (zi v)]) (st' := [.inl (some 52)]) (by decide +kernel) (fun k q => by cases q) rfl ?_
          refine y_same (i := .iload_n 3) (len := 1) (r := (0, 0, 0, 0)) (pc' := 206) (ls' := [some (.inl (some 52)), some (zi xo), some (zi xw), some (zi xs), some (zi v)]) (st' := [zi xs, .inl (some 52)]) (by decide +kernel) (fun k q => by cases q) rfl ?_
          refine y_cV (i := .invokevirtual 360) (len := 3) (r := (0, 233, 12, 1730)) (nL := 5) (k := 0) (n := 2) (hs := []) (args := [.inl (some 52), zi xs]) (rest := []) (l0 := [some (.inl (some 52)), some (zi xs), none, none, none]) (by decide +kernel) (Or.inr (Or.inl ⟨_, rfl⟩)) rfl rfl rfl rfl (Nat.le_of_ble_eq_true rfl) (z52 Ob.2.1) rfl (e_steps hC Ob.2.1 hn9 (by omega) hpar) (fun h199 hR199 => ?_)
          obtain ⟨τ199, O199, st199⟩ := hR199
          refine y_ic (c := 1) (len := 1) (r := (0, 0, 0, 0)) (by decide +kernel) (by decide) (fun y200 hy200 => ?_)
          refine y_rI (len := 1) (r := (0, 0, 0, 0)) (nL := 5) (k := 2) (n9 := 3) (hs := []) (by decide +kernel) rfl (zfit_b (by omega) (by omega)).2 ?_
          have hv201 := (O199.2.2 52 52 26 (t52 Ob.2.1) (show 52 ≠ 68 ∧ 52 ≠ 69 ∧ ((52 ≠ 373 ∧ 52 ≠ 374 ∧ 52 ≠ 375 ∧ 52 ≠ 376) ∨ 26 ≠ n) by omega)).trans hs1
          have hv202 := (O199.2.2 371 371 n (tu371 Ob.2.1) (show 371 ≠ 68 ∧ 371 ≠ 69 ∧ ((371 ≠ 373 ∧ 371 ≠ 374 ∧ 371 ≠ 375 ∧ 371 ≠ 376) ∨ n ≠ n) by omega)).trans hp1
          have O3 : oF (fun k j => k ≠ 68 ∧ k ≠ 69 ∧ k ≠ 378 ∧ k ≠ 71 + n ∧ ((k ≠ 371 ∧ k ≠ 372 ∧ k ≠ 373 ∧ k ≠ 374 ∧ k ≠ 375 ∧ k ≠ 376) ∨ j ≠ n) ∧ (k ≠ 52 ∨ j ≠ 26)) τ0 h0 τ199 h199 := ⟨aup_trans O2.1 O199.1, O199.2.1, fun k T j hk (hC : k ≠ 68 ∧ k ≠ 69 ∧ k ≠ 378 ∧ k ≠ 71 + n ∧ ((k ≠ 371 ∧ k ≠ 372 ∧ k ≠ 373 ∧ k ≠ 374 ∧ k ≠ 375 ∧ k ≠ 376) ∨ j ≠ n) ∧ (k ≠ 52 ∨ j ≠ 26)) => ((O199.2.2 k T j (O2.1 _ _ hk) (show k ≠ 68 ∧ k ≠ 69 ∧ ((k ≠ 373 ∧ k ≠ 374 ∧ k ≠ 375 ∧ k ≠ 376) ∨ j ≠ n) by omega))).trans (O2.2.2 k T j hk hC)⟩
          exact ⟨by omega, by omega, _, O3, fun _ => ⟨hn9, ⟨_, hv201, by omega⟩, Gv_add (Gv_up G0 hg0 hn9 O3) ⟨_, hv202, by omega⟩ st199⟩⟩
        ·
          refine y_iF (c := .eq) (off := 13) (len := 3) (r := (0, 0, 0, 0)) (by decide +kernel) (acmpF (c := .eq) (by show ¬ (_ = _); omega)) ?_
          refine y_same (i := .aload_n 0) (len := 1) (r := (0, 0, 0, 0)) (pc' := 195) (ls' := [some (.inl (some 52)), some (zi xo), some (zi xw), some (zi xs), some (zi v)]) (st' := [.inl (some 52)]) (by decide +kernel) (fun k q => by cases q) rfl ?_
          refine y_get (j := 46) (len := 3) (r := (12, 18, 2, 1346)) (by decide +kernel) Ob.2.1 (t52 Ob.2.1) at52 rfl rfl (g_r52 (f := 18) (T2 := 373) Ob.2.1 rfl (by decide)).1 ?_
          refine y_same (i := .iload_n 3) (len := 1) (r := (0, 0, 0, 0)) (pc' := 199) (ls' := [some (.inl (some 52)), some (zi xo), some (zi xw), some (zi xs), some (zi v)]) (st' := [zi xs, .inl (some 373)]) (by decide +kernel) (fun k q => by cases q) rfl ?_
          refine y_ic (c := 0) (len := 1) (r := (0, 0, 0, 0)) (by decide +kernel) (by decide) (fun y203 hy203 => ?_)
          refine y_ias (i := n) (len := 1) (r := (0, 0, 0, 0)) (by decide +kernel) Ob.2.1 (tu373 Ob.2.1) at373 rfl (by omega) (by omega) (sr1 (by omega)) (by omega) (by omega) (fun h204 hg204 hl204 hs204 ho204 => ?_)
          refine y_goto (off := 8) (pc' := 209) (len := 3) (r := (0, 0, 0, 0)) (by decide +kernel) (by decide +kernel) ?_
          refine y_ic (c := 1) (len := 1) (r := (0, 0, 0, 0)) (by decide +kernel) (by decide) (fun y205 hy205 => ?_)
          refine y_rI (len := 1) (r := (0, 0, 0, 0)) (nL := 5) (k := 2) (n9 := 3) (hs := []) (by decide +kernel) rfl (zfit_b (by omega) (by omega)).2 ?_
          have hv206 := (ho204 52 26 (Or.inl (by omega))).trans hs1
          have hv207 := (ho204 371 n (Or.inl (by omega))).trans hp1
          have O3 : oF (fun k j => k ≠ 68 ∧ k ≠ 69 ∧ k ≠ 378 ∧ k ≠ 71 + n ∧ ((k ≠ 371 ∧ k ≠ 372 ∧ k ≠ 373 ∧ k ≠ 374 ∧ k ≠ 375 ∧ k ≠ 376) ∨ j ≠ n) ∧ (k ≠ 52 ∨ j ≠ 26)) τ0 h0 τb h204 := ⟨aup_trans O2.1 (aup_refl _), hg204, fun k T j hk (hC : k ≠ 68 ∧ k ≠ 69 ∧ k ≠ 378 ∧ k ≠ 71 + n ∧ ((k ≠ 371 ∧ k ≠ 372 ∧ k ≠ 373 ∧ k ≠ 374 ∧ k ≠ 375 ∧ k ≠ 376) ∨ j ≠ n) ∧ (k ≠ 52 ∨ j ≠ 26)) => ((ho204 k j (by omega))).trans (O2.2.2 k T j hk hC)⟩
          exact ⟨by omega, by omega, _, O3, fun _ => ⟨hn9, ⟨_, hv206, by omega⟩, Gv_add (Gv_up G0 hg0 hn9 O3) ⟨_, hv207, by omega⟩ ⟨_, hs204, fun _ _ => by omega, fun _ _ => by omega⟩⟩⟩
      ·
        refine y_cF (c := .le) (off := 5) (len := 3) (r := (0, 0, 0, 0)) (by decide +kernel) (acmpF (c := .le) (by show _ < _; omega)) ?_
        refine y_ic (c := 0) (len := 1) (r := (0, 0, 0, 0)) (by decide +kernel) (by decide) (fun y208 hy208 => ?_)
        refine y_rI (len := 1) (r := (0, 0, 0, 0)) (nL := 5) (k := 2) (n9 := 3) (hs := []) (by decide +kernel) rfl (zfit_b (by omega) (by omega)).2 ?_
        exact ⟨by omega, by omega, _, O0, fun h9 => absurd (by omega) h9⟩
theorem cm_tB {τ0 τ : List Nat} {h0 h : zh} {n t : Nat} (hC : ∀ (mk : Nat) (c' : aK), c' ∈ actb mk → c'.2.2.1 ≤ 8 → cOK aJ mk c') (hn9 : n < 300) {xo xw xs : Int32} {o : Nat} {xr : Int32} (hxo : xo.toInt = (o : Int)) (hon : o < n) (hr : hsl h 372 o = some (zi xr)) (hr0 : 0 ≤ xr.toInt) (hr1 : xr.toInt ≤ 39) (hg0 : hG τ0 h0) (G0 : Gv h0 n) (O0 : oF (fun k j => k ≠ 68 ∧ k ≠ 69 ∧ k ≠ 378 ∧ k ≠ 71 + n ∧ ((k ≠ 371 ∧ k ≠ 372 ∧ k ≠ 373 ∧ k ≠ 374 ∧ k ≠ 375 ∧ k ≠ 376) ∨ j ≠ n) ∧ (k ≠ 52 ∨ j ≠ 26)) τ0 h0 τ h) (hs : hsl h 52 26 = some (zi xs)) (hxs : xs.toInt = (n : Int)) : qX 11 231 44 [some (.inl (some 52)), some (zi xo), some (zi xw), none, none] [] h t (rI (cmR τ0 n h0) t) := by
  have hg := O0.2.1
  refine y_same (i := .aload_n 0) (len := 1) (r := (0, 0, 0, 0)) (pc' := 45) (ls' := [some (.inl (some 52)), some (zi xo), some (zi xw), none, none]) (st' := [.inl (some 52)]) (by decide +kernel) (fun k q => by cases q) rfl ?_
  refine y_get (j := 61) (len := 3) (r := (12, 23, 2, 1351)) (by decide +kernel) hg (t52 hg) at52 rfl rfl (g_r52 (f := 23) (T2 := 378) hg rfl (by decide)).1 ?_
  refine y_ic (c := 0) (len := 1) (r := (0, 0, 0, 0)) (by decide +kernel) (by decide) (fun y209 hy209 => ?_)
  obtain ⟨v210, hv211, lv210, uv210⟩ := g_int (i := 0) hg (tu378 hg) at378 (show 0 < 200 by omega) (srA (by omega))
  refine y_ial (i := 0) (len := 1) (r := (0, 0, 0, 0)) (by decide +kernel) hg (tu378 hg) at378 (by omega) hv211 ?_
  refine y_bi (c := 12) (len := 2) (r := (0, 0, 0, 0)) (by decide +kernel) (by decide) (fun y212 hy212 => ?_)
  rcases Decidable.em (v210.toInt > y212.toInt) with q213 | q213
  ·
    refine y_cT (c := .gt) (off := 25) (pc' := 77) (len := 3) (r := (0, 0, 0, 0)) (by decide +kernel) (acmpT (c := .gt) (by show _ < _; omega)) (by decide +kernel) ?_
    refine y_ic (c := 0) (len := 1) (r := (0, 0, 0, 0)) (by decide +kernel) (by decide) (fun y214 hy214 => ?_)
    refine y_rI (len := 1) (r := (0, 0, 0, 0)) (nL := 5) (k := 2) (n9 := 3) (hs := []) (by decide +kernel) rfl (zfit_b (by omega) (by omega)).2 ?_
    exact ⟨by omega, by omega, _, O0, fun h9 => absurd (by omega) h9⟩
  ·
    refine y_cF (c := .gt) (off := 25) (len := 3) (r := (0, 0, 0, 0)) (by decide +kernel) (acmpF (c := .gt) (by show _ ≤ _; omega)) ?_
    refine y_same (i := .aload_n 0) (len := 1) (r := (0, 0, 0, 0)) (pc' := 56) (ls' := [some (.inl (some 52)), some (zi xo), some (zi xw), none, none]) (st' := [.inl (some 52)]) (by decide +kernel) (fun k q => by cases q) rfl ?_
    refine y_get (j := 61) (len := 3) (r := (12, 23, 2, 1351)) (by decide +kernel) hg (t52 hg) at52 rfl rfl (g_r52 (f := 23) (T2 := 378) hg rfl (by decide)).1 ?_
    refine y_ic (c := 1) (len := 1) (r := (0, 0, 0, 0)) (by decide +kernel) (by decide) (fun y215 hy215 => ?_)
    obtain ⟨v216, hv217, lv216, uv216⟩ := g_int (i := 1) hg (tu378 hg) at378 (show 1 < 200 by omega) (srA (by omega))
    refine y_ial (i := 1) (len := 1) (r := (0, 0, 0, 0)) (by decide +kernel) hg (tu378 hg) at378 (by omega) hv217 ?_
    refine y_bi (c := 12) (len := 2) (r := (0, 0, 0, 0)) (by decide +kernel) (by decide) (fun y218 hy218 => ?_)
    rcases Decidable.em (v216.toInt > y218.toInt) with q219 | q219
    ·
      refine y_cT (c := .gt) (off := 14) (pc' := 77) (len := 3) (r := (0, 0, 0, 0)) (by decide +kernel) (acmpT (c := .gt) (by show _ < _; omega)) (by decide +kernel) ?_
      refine y_ic (c := 0) (len := 1) (r := (0, 0, 0, 0)) (by decide +kernel) (by decide) (fun y220 hy220 => ?_)
      refine y_rI (len := 1) (r := (0, 0, 0, 0)) (nL := 5) (k := 2) (n9 := 3) (hs := []) (by decide +kernel) rfl (zfit_b (by omega) (by omega)).2 ?_
      exact ⟨by omega, by omega, _, O0, fun h9 => absurd (by omega) h9⟩
    ·
      refine y_cF (c := .gt) (off := 14) (len := 3) (r := (0, 0, 0, 0)) (by decide +kernel) (acmpF (c := .gt) (by show _ ≤ _; omega)) ?_
      refine y_same (i := .aload_n 0) (len := 1) (r := (0, 0, 0, 0)) (pc' := 67) (ls' := [some (.inl (some 52)), some (zi xo), some (zi xw), none, none]) (st' := [.inl (some 52)]) (by decide +kernel) (fun k q => by cases q) rfl ?_
      refine y_get (j := 61) (len := 3) (r := (12, 23, 2, 1351)) (by decide +kernel) hg (t52 hg) at52 rfl rfl (g_r52 (f := 23) (T2 := 378) hg rfl (by decide)).1 ?_
      refine y_ic (c := 2) (len := 1) (r := (0, 0, 0, 0)) (by decide +kernel) (by decide) (fun y221 hy221 => ?_)
      obtain ⟨v222, hv223, lv222, uv222⟩ := g_int (i := 2) hg (tu378 hg) at378 (show 2 < 200 by omega) (srA (by omega))
      refine y_ial (i := 2) (len := 1) (r := (0, 0, 0, 0)) (by decide +kernel) hg (tu378 hg) at378 (by omega) hv223 ?_
      refine y_bi (c := 12) (len := 2) (r := (0, 0, 0, 0)) (by decide +kernel) (by decide) (fun y224 hy224 => ?_)
      rcases Decidable.em (v222.toInt ≤ y224.toInt) with q225 | q225
      ·
        refine y_cT (c := .le) (off := 5) (pc' := 79) (len := 3) (r := (0, 0, 0, 0)) (by decide +kernel) (acmpT (c := .le) (by show _ ≤ _; omega)) (by decide +kernel) ?_
        refine y_same (i := .aload_n 0) (len := 1) (r := (0, 0, 0, 0)) (pc' := 80) (ls' := [some (.inl (some 52)), some (zi xo), some (zi xw), none, none]) (st' := [.inl (some 52)]) (by decide +kernel) (fun k q => by cases q) rfl ?_
        refine y_get (j := 348) (len := 3) (r := (12, 26, 0, 1354)) (by decide +kernel) hg (t52 hg) at52 rfl rfl hs ?_
        refine y_same (i := .istore_n 3) (len := 1) (r := (0, 0, 0, 0)) (pc' := 84) (ls' := [some (.inl (some 52)), some (zi xo), some (zi xw), some (zi xs), none]) (st' := []) (by decide +kernel) (fun k q => by cases q) rfl ?_
        refine y_same (i := .aload_n 0) (len := 1) (r := (0, 0, 0, 0)) (pc' := 85) (ls' := [some (.inl (some 52)), some (zi xo), some (zi xw), some (zi xs), none]) (st' := [.inl (some 52)]) (by decide +kernel) (fun k q => by cases q) rfl ?_
        refine y_same (i := .dup) (len := 1) (r := (0, 0, 0, 0)) (pc' := 86) (ls' := [some (.inl (some 52)), some (zi xo), some (zi xw), some (zi xs), none]) (st' := [.inl (some 52), .inl (some 52)]) (by decide +kernel) (fun k q => by cases q) rfl ?_
        refine y_get (j := 348) (len := 3) (r := (12, 26, 0, 1354)) (by decide +kernel) hg (t52 hg) at52 rfl rfl hs ?_
        refine y_ic (c := 1) (len := 1) (r := (0, 0, 0, 0)) (by decide +kernel) (by decide) (fun y226 hy226 => ?_)
        refine y_add (len := 1) (r := (0, 0, 0, 0)) (by decide +kernel) (by omega) (by omega) (fun y227 hy227 => ?_)
        refine y_put (j := 348) (lo := 0) (hi := 300) (len := 3) (r := (12, 26, 0, 1354)) (by decide +kernel) hg (t52 hg) at52 rfl rfl (by decide) rfl (by omega) (by omega) rfl (fun h228 hg228 hl228 hs228 ho228 => ?_)
        have ho228 : hO 52 26 h h228 := ho228
        have hs228 : hsl h228 52 26 = some (zi y227) := hs228
        refine y_same (i := .aload_n 0) (len := 1) (r := (0, 0, 0, 0)) (pc' := 95) (ls' := [some (.inl (some 52)), some (zi xo), some (zi xw), some (zi xs), none]) (st' := [.inl (some 52)]) (by decide +kernel) (fun k q => by cases q) rfl ?_
        refine y_get (j := 40) (len := 3) (r := (12, 16, 2, 1344)) (by decide +kernel) hg228 (t52 hg228) at52 rfl rfl (g_r52 (f := 16) (T2 := 371) hg228 rfl (by decide)).1 ?_
        refine y_same (i := .iload_n 3) (len := 1) (r := (0, 0, 0, 0)) (pc' := 99) (ls' := [some (.inl (some 52)), some (zi xo), some (zi xw), some (zi xs), none]) (st' := [zi xs, .inl (some 371)]) (by decide +kernel) (fun k q => by cases q) rfl ?_
        refine y_same (i := .iload_n 1) (len := 1) (r := (0, 0, 0, 0)) (pc' := 100) (ls' := [some (.inl (some 52)), some (zi xo), some (zi xw), some (zi xs), none]) (st' := [zi xo, zi xs, .inl (some 371)]) (by decide +kernel) (fun k q => by cases q) rfl ?_
        refine y_ias (i := n) (len := 1) (r := (0, 0, 0, 0)) (by decide +kernel) hg228 (tu371 hg228) at371 rfl (by omega) (by omega) (sr1 (by omega)) (by omega) (by omega) (fun h229 hg229 hl229 hs229 ho229 => ?_)
        refine y_same (i := .aload_n 0) (len := 1) (r := (0, 0, 0, 0)) (pc' := 102) (ls' := [some (.inl (some 52)), some (zi xo), some (zi xw), some (zi xs), none]) (st' := [.inl (some 52)]) (by decide +kernel) (fun k q => by cases q) rfl ?_
        refine y_get (j := 43) (len := 3) (r := (12, 17, 2, 1345)) (by decide +kernel) hg229 (t52 hg229) at52 rfl rfl (g_r52 (f := 17) (T2 := 372) hg229 rfl (by decide)).1 ?_
        refine y_same (i := .iload_n 3) (len := 1) (r := (0, 0, 0, 0)) (pc' := 106) (ls' := [some (.inl (some 52)), some (zi xo), some (zi xw), some (zi xs), none]) (st' := [zi xs, .inl (some 372)]) (by decide +kernel) (fun k q => by cases q) rfl ?_
        refine y_same (i := .iload_n 1) (len := 1) (r := (0, 0, 0, 0)) (pc' := 107) (ls' := [some (.inl (some 52)), some (zi xo), some (zi xw), some (zi xs), none]) (st' := [zi xo, zi xs, .inl (some 372)]) (by decide +kernel) (fun k q => by cases q) rfl ?_
        refine y_ic (c := (-1)) (len := 1) (r := (0, 0, 0, 0)) (by decide +kernel) (by decide) (fun y230 hy230 => ?_)
        refine y_cT (c := .ne) (off := 7) (pc' := 115) (len := 3) (r := (0, 0, 0, 0)) (by decide +kernel) (acmpT (c := .ne) (by show ¬ (_ = _); omega)) (by decide +kernel) ?_
        refine y_same (i := .aload_n 0) (len := 1) (r := (0, 0, 0, 0)) (pc' := 116) (ls' := [some (.inl (some 52)), some (zi xo), some (zi xw), some (zi xs), none]) (st' := [.inl (some 52), zi xs, .inl (some 372)]) (by decide +kernel) (fun k q => by cases q) rfl ?_
        refine y_get (j := 43) (len := 3) (r := (12, 17, 2, 1345)) (by decide +kernel) hg229 (t52 hg229) at52 rfl rfl (g_r52 (f := 17) (T2 := 372) hg229 rfl (by decide)).1 ?_
        refine y_same (i := .iload_n 1) (len := 1) (r := (0, 0, 0, 0)) (pc' := 120) (ls' := [some (.inl (some 52)), some (zi xo), some (zi xw), some (zi xs), none]) (st' := [zi xo, .inl (some 372), zi xs, .inl (some 372)]) (by decide +kernel) (fun k q => by cases q) rfl ?_
        have hv231 := (ho228 372 o (Or.inl (by omega))).trans hr
        have hv232 := (ho229 372 o (Or.inl (by omega))).trans hv231
        refine y_ial (i := o) (len := 1) (r := (0, 0, 0, 0)) (by decide +kernel) hg229 (tu372 hg229) at372 (by omega) hv232 ?_
        refine y_ic (c := 1) (len := 1) (r := (0, 0, 0, 0)) (by decide +kernel) (by decide) (fun y233 hy233 => ?_)
        refine y_add (len := 1) (r := (0, 0, 0, 0)) (by decide +kernel) (by omega) (by omega) (fun y234 hy234 => ?_)
        refine y_ias (i := n) (len := 1) (r := (0, 0, 0, 0)) (by decide +kernel) hg229 (tu372 hg229) at372 rfl (by omega) (by omega) (sr1 (by omega)) (by omega) (by omega) (fun h235 hg235 hl235 hs235 ho235 => ?_)
        refine y_same (i := .aload_n 0) (len := 1) (r := (0, 0, 0, 0)) (pc' := 125) (ls' := [some (.inl (some 52)), some (zi xo), some (zi xw), some (zi xs), none]) (st' := [.inl (some 52)]) (by decide +kernel) (fun k q => by cases q) rfl ?_
        refine y_get (j := 55) (len := 3) (r := (12, 21, 2, 1349)) (by decide +kernel) hg235 (t52 hg235) at52 rfl rfl (g_r52 (f := 21) (T2 := 376) hg235 rfl (by decide)).1 ?_
        refine y_same (i := .iload_n 3) (len := 1) (r := (0, 0, 0, 0)) (pc' := 129) (ls' := [some (.inl (some 52)), some (zi xo), some (zi xw), some (zi xs), none]) (st' := [zi xs, .inl (some 376)]) (by decide +kernel) (fun k q => by cases q) rfl ?_
        refine y_ic (c := (-1)) (len := 1) (r := (0, 0, 0, 0)) (by decide +kernel) (by decide) (fun y236 hy236 => ?_)
        refine y_ias (i := n) (len := 1) (r := (0, 0, 0, 0)) (by decide +kernel) hg235 (tu376 hg235) at376 rfl (by omega) (by omega) (sr1 (by omega)) (by omega) (by omega) (fun h237 hg237 hl237 hs237 ho237 => ?_)
        refine y_same (i := .aload_n 0) (len := 1) (r := (0, 0, 0, 0)) (pc' := 132) (ls' := [some (.inl (some 52)), some (zi xo), some (zi xw), some (zi xs), none]) (st' := [.inl (some 52)]) (by decide +kernel) (fun k q => by cases q) rfl ?_
        refine y_get (j := 61) (len := 3) (r := (12, 23, 2, 1351)) (by decide +kernel) hg237 (t52 hg237) at52 rfl rfl (g_r52 (f := 23) (T2 := 378) hg237 rfl (by decide)).1 ?_
        refine y_same (i := .aload_n 0) (len := 1) (r := (0, 0, 0, 0)) (pc' := 136) (ls' := [some (.inl (some 52)), some (zi xo), some (zi xw), some (zi xs), none]) (st' := [.inl (some 52), .inl (some 378)]) (by decide +kernel) (fun k q => by cases q) rfl ?_
        refine y_get (j := 37) (len := 3) (r := (12, 15, 2, 1343)) (by decide +kernel) hg237 (t52 hg237) at52 rfl rfl (g_r52 (f := 15) (T2 := 70) hg237 rfl (by decide)).1 ?_
        refine y_same (i := .iload_n 3) (len := 1) (r := (0, 0, 0, 0)) (pc' := 140) (ls' := [some (.inl (some 52)), some (zi xo), some (zi xw), some (zi xs), none]) (st' := [zi xs, .inl (some 70), .inl (some 378)]) (by decide +kernel) (fun k q => by cases q) rfl ?_
        refine y_aal (i := n) (len := 1) (r := (0, 0, 0, 0)) (by decide +kernel) hg237 (tu70 hg237) at70 rfl (by omega) (hg237.2.2 n (by omega)) ?_
        refine y_si (c := 200) (len := 3) (r := (0, 0, 0, 0)) (by decide +kernel) (by decide) (fun y238 hy238 => ?_)
        have hv240 := (ho228 378 0 (Or.inl (by omega))).trans hv211
        have hv241 := (ho229 378 0 (Or.inl (by omega))).trans hv240
        have hv242 := (ho235 378 0 (Or.inl (by omega))).trans hv241
        have hv243 := (ho237 378 0 (Or.inl (by omega))).trans hv242
        have hv244 := (ho228 378 1 (Or.inl (by omega))).trans hv217
        have hv245 := (ho229 378 1 (Or.inl (by omega))).trans hv244
        have hv246 := (ho235 378 1 (Or.inl (by omega))).trans hv245
        have hv247 := (ho237 378 1 (Or.inl (by omega))).trans hv246
        have hv248 := (ho228 378 2 (Or.inl (by omega))).trans hv223
        have hv249 := (ho229 378 2 (Or.inl (by omega))).trans hv248
        have hv250 := (ho235 378 2 (Or.inl (by omega))).trans hv249
        have hv251 := (ho237 378 2 (Or.inl (by omega))).trans hv250
        refine y_cV (i := .invokestatic 216) (len := 3) (r := (1, 185, 12, 1572)) (nL := 4) (k := 0) (n := 3) (hs := []) (args := [.inl (some 378), .inl (some ((71 + n))), zi y238]) (rest := []) (l0 := [some (.inl (some 378)), some (.inl (some ((71 + n)))), some (zi y238), none]) (by decide +kernel) (Or.inl ⟨_, rfl⟩) rfl rfl rfl rfl (Nat.le_of_ble_eq_true rfl) rfl rfl (e_copies hg237 hn9 (by omega) (fun j hj x hx => by
              rcases (show j = 0 ∨ j = 1 ∨ j = 2 by omega) with rfl | rfl | rfl
              · rw [hv243] at hx
                cases hx
                omega
              · rw [hv247] at hx
                cases hx
                omega
              · rw [hv251] at hx
                cases hx
                omega)) (fun h239 hR239 => ?_)
        obtain ⟨hg239, hl239, ho239⟩ := hR239
        have O239 : oF (fun k j => k ≠ 71 + n) τ h237 τ h239 := ⟨aup_refl _, hg239, fun k T j _ hne => ho239 k j hne⟩
        refine y_same (i := .aload_n 0) (len := 1) (r := (0, 0, 0, 0)) (pc' := 148) (ls' := [some (.inl (some 52)), some (zi xo), some (zi xw), some (zi xs), none]) (st' := [.inl (some 52)]) (by decide +kernel) (fun k q => by cases q) rfl ?_
        refine y_get (j := 37) (len := 3) (r := (12, 15, 2, 1343)) (by decide +kernel) O239.2.1 (t52 O239.2.1) at52 rfl rfl (g_r52 (f := 15) (T2 := 70) O239.2.1 rfl (by decide)).1 ?_
        refine y_same (i := .iload_n 3) (len := 1) (r := (0, 0, 0, 0)) (pc' := 152) (ls' := [some (.inl (some 52)), some (zi xo), some (zi xw), some (zi xs), none]) (st' := [zi xs, .inl (some 70)]) (by decide +kernel) (fun k q => by cases q) rfl ?_
        refine y_aal (i := n) (len := 1) (r := (0, 0, 0, 0)) (by decide +kernel) O239.2.1 (tu70 O239.2.1) at70 rfl (by omega) (O239.2.1.2.2 n (by omega)) ?_
        refine y_cI (i := .invokestatic 354) (len := 3) (r := (1, 213, 12, 1709)) (nL := 3) (k := 2) (n := 1) (hs := []) (args := [.inl (some ((71 + n)))]) (rest := []) (l0 := [some (.inl (some ((71 + n)))), none, none]) (by decide +kernel) (Or.inl ⟨_, rfl⟩) rfl rfl rfl rfl (Nat.le_of_ble_eq_true rfl) rfl rfl (use_I (τ := τ) 0 1 (hC 213 ac264 List.mem_cons_self (by decide)) rfl O239.2.1 (show aqsM _ _ [.inl (some ((71 + n)))] from ⟨aqR (tuR O239.2.1 (by omega)), trivial⟩) rfl (by decide +kernel) (by decide)) (fun y252 h252 hRy252 => ?_)
        obtain ⟨ly252, uy252, τ252, hu252, hg252, hF252⟩ := hRy252
        have O252 : oF (fun _ _ => True) τ h239 τ252 h252 := ⟨hu252, hg252, fun k T j hk _ => hF252 k T j hk rfl⟩
        refine y_same (i := .istore 4) (len := 2) (r := (0, 0, 0, 0)) (pc' := 158) (ls' := [some (.inl (some 52)), some (zi xo), some (zi xw), some (zi xs), some (zi y252)]) (st' := []) (by decide +kernel) (fun k q => by cases q) rfl ?_
        have hv253 := (ho229 52 26 (Or.inl (by omega))).trans hs228
        have hv254 := (ho235 52 26 (Or.inl (by omega))).trans hv253
        have hv255 := (ho237 52 26 (Or.inl (by omega))).trans hv254
        have hv256 := (O239.2.2 52 52 26 (t52 hg237) (show 52 ≠ 71 + n by omega)).trans hv255
        have hv257 := (O252.2.2 52 52 26 (t52 O239.2.1) (trivial)).trans hv256
        have hv258 := (ho235 371 n (Or.inl (by omega))).trans hs229
        have hv259 := (ho237 371 n (Or.inl (by omega))).trans hv258
        have hv260 := (O239.2.2 371 371 n (tu371 hg237) (show 371 ≠ 71 + n by omega)).trans hv259
        have hv261 := (O252.2.2 371 371 n (tu371 O239.2.1) (trivial)).trans hv260
        have O1 : oF (fun k j => k ≠ 68 ∧ k ≠ 69 ∧ k ≠ 378 ∧ k ≠ 71 + n ∧ ((k ≠ 371 ∧ k ≠ 372 ∧ k ≠ 373 ∧ k ≠ 374 ∧ k ≠ 375 ∧ k ≠ 376) ∨ j ≠ n) ∧ (k ≠ 52 ∨ j ≠ 26)) τ0 h0 τ252 h252 := ⟨aup_trans O0.1 (aup_trans O239.1 O252.1), O252.2.1, fun k T j hk (hC : k ≠ 68 ∧ k ≠ 69 ∧ k ≠ 378 ∧ k ≠ 71 + n ∧ ((k ≠ 371 ∧ k ≠ 372 ∧ k ≠ 373 ∧ k ≠ 374 ∧ k ≠ 375 ∧ k ≠ 376) ∨ j ≠ n) ∧ (k ≠ 52 ∨ j ≠ 26)) => (((O252.2.2 k T j (O239.1 _ _ (O0.1 _ _ hk)) (trivial)).trans ((O239.2.2 k T j (O0.1 _ _ hk) (show k ≠ 71 + n by omega)).trans ((ho237 k j (by omega)).trans ((ho235 k j (by omega)).trans ((ho229 k j (by omega)).trans (ho228 k j (by omega)))))))).trans (O0.2.2 k T j hk hC)⟩
        refine cm_l hC hn9 (by omega) (fun τb hb v Ob hv0 hv1 => ?_) τ252 h252 (oF_refl O252.2.1) y252 (by omega) (by omega)
        have O2 : oF (fun k j => k ≠ 68 ∧ k ≠ 69 ∧ k ≠ 378 ∧ k ≠ 71 + n ∧ ((k ≠ 371 ∧ k ≠ 372 ∧ k ≠ 373 ∧ k ≠ 374 ∧ k ≠ 375 ∧ k ≠ 376) ∨ j ≠ n) ∧ (k ≠ 52 ∨ j ≠ 26)) τ0 h0 τb hb := oF_trans O1 (oF_imp (fun k j hC => hC.2.2.2.1) Ob)
        have hs1 := (Ob.2.2 52 52 26 (t52 O252.2.1) (show 52 ≠ 71 + n by omega)).trans hv257
        have hp1 := (Ob.2.2 371 371 n (tu371 O252.2.1) (show 371 ≠ 71 + n by omega)).trans hv261
        have hpar : ∀ j, j ≤ n → ∃ x : Int32, hsl hb 371 j = some (zi x) ∧ x.toInt < (j : Int) := fun j hj => by
          rcases (show j < n ∨ j = n by omega) with q | q
          · exact (Gv_up G0 hg0 hn9 O2).1 j q
          · subst q
            exact ⟨_, hp1, by omega⟩
        refine y_same (i := .iload 4) (len := 2) (r := (0, 0, 0, 0)) (pc' := 191) (ls' := [some (.inl (some 52)), some (zi xo), some (zi xw), some (zi xs), some (zi v)]) (st' := [zi v]) (by decide +kernel) (fun k q => by cases q) rfl ?_
        rcases Decidable.em (v.toInt = 0) with q262 | q262
        ·
          refine y_iT (c := .eq) (off := 13) (pc' := 204) (len := 3) (r := (0, 0, 0, 0)) (by decide +kernel) (acmpT (c := .eq) (by show _ = _; omega)) (by decide +kernel) ?_
          refine y_same (i := .aload_n 0) (len := 1) (r := (0, 0, 0, 0)) (pc' := 205) (ls' := [some (.inl (some 52)), some (zi xo), some (zi xw), some (zi xs), some (zi v)]) (st' := [.inl (some 52)]) (by decide +kernel) (fun k q => by cases q) rfl ?_
          refine y_same (i := .iload_n 3) (len := 1) (r := (0, 0, 0, 0)) (pc' := 206) (ls' := [some (.inl (some 52)), some (zi xo), some (zi xw), some (zi xs), some (zi v)]) (st' := [zi xs, .inl (some 52)]) (by decide +kernel) (fun k q => by cases q) rfl ?_
          refine y_cV (i := .invokevirtual 360) (len := 3) (r := (0, 233, 12, 1730)) (nL := 5) (k := 0) (n := 2) (hs := []) (args := [.inl (some 52), zi xs]) (rest := []) (l0 := [some (.inl (some 52)), some (zi xs), none, none, none]) (by decide +kernel) (Or.inr (Or.inl ⟨_, rfl⟩)) rfl rfl rfl rfl (Nat.le_of_ble_eq_true rfl) (z52 Ob.2.1) rfl (e_steps hC Ob.2.1 hn9 (by omega) hpar) (fun h263 hR263 => ?_)
          obtain ⟨τ263, O263, st263⟩ := hR263
          refine y_ic (c := 1) (len := 1) (r := (0, 0, 0, 0)) (by decide +kernel) (by decide) (fun y264 hy264 => ?_)
          refine y_rI (len := 1) (r := (0, 0, 0, 0)) (nL := 5) (k := 2) (n9 := 3) (hs := []) (by decide +kernel) rfl (zfit_b (by omega) (by omega)).2 ?_
          have hv265 := (O263.2.2 52 52 26 (t52 Ob.2.1) (show 52 ≠ 68 ∧ 52 ≠ 69 ∧ ((52 ≠ 373 ∧ 52 ≠ 374 ∧ 52 ≠ 375 ∧ 52 ≠ 376) ∨ 26 ≠ n) by omega)).trans hs1
          have hv266 := (O263.2.2 371 371 n (tu371 Ob.2.1) (show 371 ≠ 68 ∧ 371 ≠ 69 ∧ ((371 ≠ 373 ∧ 371 ≠ 374 ∧ 371 ≠ 375 ∧ 371 ≠ 376) ∨ n ≠ n) by omega)).trans hp1
          have O3 : oF (fun k j => k ≠ 68 ∧ k ≠ 69 ∧ k ≠ 378 ∧ k ≠ 71 + n ∧ ((k ≠ 371 ∧ k ≠ 372 ∧ k ≠ 373 ∧ k ≠ 374 ∧ k ≠ 375 ∧ k ≠ 376) ∨ j ≠ n) ∧ (k ≠ 52 ∨ j ≠ 26)) τ0 h0 τ263 h263 := ⟨aup_trans O2.1 O263.1, O263.2.1, fun k T j hk (hC : k ≠ 68 ∧ k ≠ 69 ∧ k ≠ 378 ∧ k ≠ 71 + n ∧ ((k ≠ 371 ∧ k ≠ 372 ∧ k ≠ 373 ∧ k ≠ 374 ∧ k ≠ 375 ∧ k ≠ 376) ∨ j ≠ n) ∧ (k ≠ 52 ∨ j ≠ 26)) => ((O263.2.2 k T j (O2.1 _ _ hk) (show k ≠ 68 ∧ k ≠ 69 ∧ ((k ≠ 373 ∧ k ≠ 374 ∧ k ≠ 375 ∧ k ≠ 376) ∨ j ≠ n) by omega))).trans (O2.2.2 k T j hk hC)⟩
          exact ⟨by omega, by omega, _, O3, fun _ => ⟨hn9, ⟨_, hv265, by omega⟩, Gv_add (Gv_up G0 hg0 hn9 O3) ⟨_, hv266, by omega⟩ st263⟩⟩
        ·
          refine y_iF (c := .eq) (off := 13) (len := 3) (r := (0, 0, 0, 0)) (by decide +kernel) (acmpF (c := .eq) (by show ¬ (_ = _); omega)) ?_
          refine y_same (i := .aload_n 0) (len := 1) (r := (0, 0, 0, 0)) (pc' := 195) (ls' := [some (.inl (some 52)), some (zi xo), some (zi xw), some (zi xs), some (zi v)]) (st' := [.inl (some 52)]) (by decide +kernel) (fun k q => by cases q) rfl ?_
          refine y_get (j := 46) (len := 3) (r := (12, 18, 2, 1346)) (by decide +kernel) Ob.2.1 (t52 Ob.2.1) at52 rfl rfl (g_r52 (f := 18) (T2 := 373) Ob.2.1 rfl (by decide)).1 ?_
          refine y_same (i := .iload_n 3) (len := 1) (r := (0, 0, 0, 0)) (pc' := 199) (ls' := [some (.inl (some 52)), some (zi xo), some (zi xw), some (zi xs), some (zi v)]) (st' := [zi xs, .inl (some 373)]) (by decide +kernel) (fun k q => by cases q) rfl ?_
          refine y_ic (c := 0) (len := 1) (r := (0, 0, 0, 0)) (by decide +kernel) (by decide) (fun y267 hy267 => ?_)
          refine y_ias (i := n) (len := 1) (r := (0, 0, 0, 0)) (by decide +kernel) Ob.2.1 (tu373 Ob.2.1) at373 rfl (by omega) (by omega) (sr1 (by omega)) (by omega) (by omega) (fun h268 hg268 hl268 hs268 ho268 => ?_)
          refine y_goto (off := 8) (pc' := 209) (len := 3) (r := (0, 0, 0, 0)) (by decide +kernel) (by decide +kernel) ?_
          refine y_ic (c := 1) (len := 1) (r := (0, 0, 0, 0)) (by decide +kernel) (by decide) (fun y269 hy269 => ?_)
          refine y_rI (len := 1) (r := (0, 0, 0, 0)) (nL := 5) (k := 2) (n9 := 3) (hs := []) (by decide +kernel) rfl (zfit_b (by omega) (by omega)).2 ?_
          have hv270 := (ho268 52 26 (Or.inl (by omega))).trans hs1
          have hv271 := (ho268 371 n (Or.inl (by omega))).trans hp1
          have O3 : oF (fun k j => k ≠ 68 ∧ k ≠ 69 ∧ k ≠ 378 ∧ k ≠ 71 + n ∧ ((k ≠ 371 ∧ k ≠ 372 ∧ k ≠ 373 ∧ k ≠ 374 ∧ k ≠ 375 ∧ k ≠ 376) ∨ j ≠ n) ∧ (k ≠ 52 ∨ j ≠ 26)) τ0 h0 τb h268 := ⟨aup_trans O2.1 (aup_refl _), hg268, fun k T j hk (hC : k ≠ 68 ∧ k ≠ 69 ∧ k ≠ 378 ∧ k ≠ 71 + n ∧ ((k ≠ 371 ∧ k ≠ 372 ∧ k ≠ 373 ∧ k ≠ 374 ∧ k ≠ 375 ∧ k ≠ 376) ∨ j ≠ n) ∧ (k ≠ 52 ∨ j ≠ 26)) => ((ho268 k j (by omega))).trans (O2.2.2 k T j hk hC)⟩
          exact ⟨by omega, by omega, _, O3, fun _ => ⟨hn9, ⟨_, hv270, by omega⟩, Gv_add (Gv_up G0 hg0 hn9 O3) ⟨_, hv271, by omega⟩ ⟨_, hs268, fun _ _ => by omega, fun _ _ => by omega⟩⟩⟩
      ·
        refine y_cF (c := .le) (off := 5) (len := 3) (r := (0, 0, 0, 0)) (by decide +kernel) (acmpF (c := .le) (by show _ < _; omega)) ?_
        refine y_ic (c := 0) (len := 1) (r := (0, 0, 0, 0)) (by decide +kernel) (by decide) (fun y272 hy272 => ?_)
        refine y_rI (len := 1) (r := (0, 0, 0, 0)) (nL := 5) (k := 2) (n9 := 3) (hs := []) (by decide +kernel) rfl (zfit_b (by omega) (by omega)).2 ?_
        exact ⟨by omega, by omega, _, O0, fun h9 => absurd (by omega) h9⟩
theorem e_comesA {τ : List Nat} {h : zh} {n t : Nat} (hC : ∀ (mk : Nat) (c' : aK), c' ∈ actb mk → c'.2.2.1 ≤ 8 → cOK aJ mk c') {xo xw xs : Int32} (hg : hG τ h) (G0 : Gv h n) (hs : hsl h 52 26 = some (zi xs)) (hxs : xs.toInt = (n : Int)) (hn9 : n < 300) (hxo : xo.toInt = -1) : qI 12 231 [some (.inl (some 52)), some (zi xo), some (zi xw), none, none] h t (cmR τ n h) := by
  refine qI_of ?_
  refine y_same (i := .iload_n 1) (len := 1) (r := (0, 0, 0, 0)) (pc' := 1) (ls' := [some (.inl (some 52)), some (zi xo), some (zi xw), none, none]) (st' := [zi xo]) (by decide +kernel) (fun k q => by cases q) rfl ?_
  refine y_ic (c := (-1)) (len := 1) (r := (0, 0, 0, 0)) (by decide +kernel) (by decide) (fun y273 hy273 => ?_)
  refine y_cF (c := .ne) (off := 10) (len := 3) (r := (0, 0, 0, 0)) (by decide +kernel) (acmpF (c := .ne) (by show _ = _; omega)) ?_
  refine y_same (i := .aload_n 0) (len := 1) (r := (0, 0, 0, 0)) (pc' := 6) (ls' := [some (.inl (some 52)), some (zi xo), some (zi xw), none, none]) (st' := [.inl (some 52)]) (by decide +kernel) (fun k q => by cases q) rfl ?_
  refine y_cV (i := .invokevirtual 345) (len := 3) (r := (0, 225, 12, 1640)) (nL := 8) (k := 0) (n := 1) (hs := []) (args := [.inl (some 52)]) (rest := []) (l0 := [some (.inl (some 52)), none, none, none, none, none, none, none]) (by decide +kernel) (Or.inr (Or.inl ⟨_, rfl⟩)) rfl rfl rfl rfl (Nat.le_of_ble_eq_true rfl) (z52 hg) rfl (use_V (τ := τ) (pv := []) (hC 225 ac276 List.mem_cons_self (by decide)) rfl hg (show aqsM _ _ [.inl (some 52)] from ⟨aqR (t52 hg), trivial⟩) trivial rfl (by decide +kernel) (by decide)) (fun h274 hR274 => ?_)
  obtain ⟨τ274, hu274, hg274, hF274⟩ := hR274
  have O274 : oF (fun k j => k ≠ 378) τ h τ274 h274 := ⟨hu274, hg274, fun k T j hk hne => hF274 k T j hk (awc1 (uq hg hk (by decide) hne) rfl)⟩
  refine y_goto (off := 35) (pc' := 44) (len := 3) (r := (0, 0, 0, 0)) (by decide +kernel) (by decide +kernel) ?_
  have hv275 := (O274.2.2 52 52 26 (t52 hg) (show 52 ≠ 378 by omega)).trans hs
  exact cm_tA hC hn9 hxo hg G0 ⟨O274.1, O274.2.1, fun k T j hk (hC : k ≠ 68 ∧ k ≠ 69 ∧ k ≠ 378 ∧ k ≠ 71 + n ∧ ((k ≠ 371 ∧ k ≠ 372 ∧ k ≠ 373 ∧ k ≠ 374 ∧ k ≠ 375 ∧ k ≠ 376) ∨ j ≠ n) ∧ (k ≠ 52 ∨ j ≠ 26)) => (O274.2.2 k T j hk (show k ≠ 378 by omega))⟩ hv275 hxs
theorem e_comesB {τ : List Nat} {h : zh} {n t : Nat} (hC : ∀ (mk : Nat) (c' : aK), c' ∈ actb mk → c'.2.2.1 ≤ 8 → cOK aJ mk c') {xo xw xs : Int32} (hg : hG τ h) (G0 : Gv h n) (hs : hsl h 52 26 = some (zi xs)) (hxs : xs.toInt = (n : Int)) {o : Nat} {xt : Int32} (hn : n ≤ 300) (hxo : xo.toInt = (o : Int)) (hon : o < n) (hw1 : 0 ≤ xw.toInt) (hw2 : xw.toInt ≤ 1) (hxt : hsl h 373 o = some (zi xt)) (h3 : 3 ≤ xt.toInt) (h8 : xt.toInt ≤ 8) : qI 12 231 [some (.inl (some 52)), some (zi xo), some (zi xw), none, none] h t (cmR τ n h) := by
  have hst : (3 ≤ xt.toInt → xt.toInt ≤ 8 → stR h o) ∧ (3 ≤ xt.toInt → xt.toInt ≤ 7 → stL h o) := by
    obtain ⟨x, e1, e2, e3⟩ := G0.2 o hon
    rw [hxt] at e1
    cases e1
    exact ⟨e2, e3⟩
  refine qI_of ?_
  refine y_same (i := .iload_n 1) (len := 1) (r := (0, 0, 0, 0)) (pc' := 1) (ls' := [some (.inl (some 52)), some (zi xo), some (zi xw), none, none]) (st' := [zi xo]) (by decide +kernel) (fun k q => by cases q) rfl ?_
  refine y_ic (c := (-1)) (len := 1) (r := (0, 0, 0, 0)) (by decide +kernel) (by decide) (fun y276 hy276 => ?_)
  refine y_cT (c := .ne) (off := 10) (pc' := 12) (len := 3) (r := (0, 0, 0, 0)) (by decide +kernel) (acmpT (c := .ne) (by show ¬ (_ = _); omega)) (by decide +kernel) ?_
  refine y_same (i := .aload_n 0) (len := 1) (r := (0, 0, 0, 0)) (pc' := 13) (ls' := [some (.inl (some 52)), some (zi xo), some (zi xw), none, none]) (st' := [.inl (some 52)]) (by decide +kernel) (fun k q => by cases q) rfl ?_
  refine y_get (j := 348) (len := 3) (r := (12, 26, 0, 1354)) (by decide +kernel) hg (t52 hg) at52 rfl rfl hs ?_
  refine y_si (c := 300) (len := 3) (r := (0, 0, 0, 0)) (by decide +kernel) (by decide) (fun y277 hy277 => ?_)
  rcases Decidable.em (xs.toInt = y277.toInt) with q278 | q278
  ·
    refine y_cT (c := .eq) (off := 23) (pc' := 42) (len := 3) (r := (0, 0, 0, 0)) (by decide +kernel) (acmpT (c := .eq) (by show _ = _; omega)) (by decide +kernel) ?_
    refine y_ic (c := 0) (len := 1) (r := (0, 0, 0, 0)) (by decide +kernel) (by decide) (fun y279 hy279 => ?_)
    refine y_rI (len := 1) (r := (0, 0, 0, 0)) (nL := 5) (k := 2) (n9 := 3) (hs := []) (by decide +kernel) rfl (zfit_b (by omega) (by omega)).2 ?_
    exact ⟨by omega, by omega, _, oF_refl hg, fun h9 => absurd (by omega) h9⟩
  ·
    refine y_cF (c := .eq) (off := 23) (len := 3) (r := (0, 0, 0, 0)) (by decide +kernel) (acmpF (c := .eq) (by show ¬ (_ = _); omega)) ?_
    refine y_same (i := .aload_n 0) (len := 1) (r := (0, 0, 0, 0)) (pc' := 23) (ls' := [some (.inl (some 52)), some (zi xo), some (zi xw), none, none]) (st' := [.inl (some 52)]) (by decide +kernel) (fun k q => by cases q) rfl ?_
    refine y_get (j := 43) (len := 3) (r := (12, 17, 2, 1345)) (by decide +kernel) hg (t52 hg) at52 rfl rfl (g_r52 (f := 17) (T2 := 372) hg rfl (by decide)).1 ?_
    refine y_same (i := .iload_n 1) (len := 1) (r := (0, 0, 0, 0)) (pc' := 27) (ls' := [some (.inl (some 52)), some (zi xo), some (zi xw), none, none]) (st' := [zi xo, .inl (some 372)]) (by decide +kernel) (fun k q => by cases q) rfl ?_
    obtain ⟨v280, hv281, lv280, uv280⟩ := g_int (i := o) hg (tu372 hg) at372 (show o < 300 by omega) (sr1 (by omega))
    refine y_ial (i := o) (len := 1) (r := (0, 0, 0, 0)) (by decide +kernel) hg (tu372 hg) at372 (by omega) hv281 ?_
    refine y_bi (c := 40) (len := 2) (r := (0, 0, 0, 0)) (by decide +kernel) (by decide) (fun y282 hy282 => ?_)
    rcases Decidable.em (v280.toInt = y282.toInt) with q283 | q283
    ·
      refine y_cT (c := .eq) (off := 12) (pc' := 42) (len := 3) (r := (0, 0, 0, 0)) (by decide +kernel) (acmpT (c := .eq) (by show _ = _; omega)) (by decide +kernel) ?_
      refine y_ic (c := 0) (len := 1) (r := (0, 0, 0, 0)) (by decide +kernel) (by decide) (fun y284 hy284 => ?_)
      refine y_rI (len := 1) (r := (0, 0, 0, 0)) (nL := 5) (k := 2) (n9 := 3) (hs := []) (by decide +kernel) rfl (zfit_b (by omega) (by omega)).2 ?_
      exact ⟨by omega, by omega, _, oF_refl hg, fun h9 => absurd (by omega) h9⟩
    ·
      refine y_cF (c := .eq) (off := 12) (len := 3) (r := (0, 0, 0, 0)) (by decide +kernel) (acmpF (c := .eq) (by show ¬ (_ = _); omega)) ?_
      refine y_same (i := .aload_n 0) (len := 1) (r := (0, 0, 0, 0)) (pc' := 34) (ls' := [some (.inl (some 52)), some (zi xo), some (zi xw), none, none]) (st' := [.inl (some 52)]) (by decide +kernel) (fun k q => by cases q) rfl ?_
      refine y_same (i := .iload_n 1) (len := 1) (r := (0, 0, 0, 0)) (pc' := 35) (ls' := [some (.inl (some 52)), some (zi xo), some (zi xw), none, none]) (st' := [zi xo, .inl (some 52)]) (by decide +kernel) (fun k q => by cases q) rfl ?_
      refine y_same (i := .iload_n 2) (len := 1) (r := (0, 0, 0, 0)) (pc' := 36) (ls' := [some (.inl (some 52)), some (zi xo), some (zi xw), none, none]) (st' := [zi xw, zi xo, .inl (some 52)]) (by decide +kernel) (fun k q => by cases q) rfl ?_
      refine y_cI (i := .invokevirtual 351) (len := 3) (r := (0, 228, 12, 1675)) (nL := 11) (k := 2) (n := 3) (hs := []) (args := [.inl (some 52), zi xo, zi xw]) (rest := []) (l0 := [some (.inl (some 52)), some (zi xo), some (zi xw), none, none, none, none, none, none, none, none]) (by decide +kernel) (Or.inr (Or.inl ⟨_, rfl⟩)) rfl rfl rfl rfl (Nat.le_of_ble_eq_true rfl) (z52 hg) rfl (qI_le (by decide) (e_follows hC hg (by omega) (by omega) hw1 hw2 hxt h3 h8 hst)) (fun y285 h285 hRy285 => ?_)
      obtain ⟨ly285, uy285, τ285, O285⟩ := hRy285
      rcases Decidable.em (y285.toInt ≠ 0) with q286 | q286
      ·
        refine y_iT (c := .ne) (off := 5) (pc' := 44) (len := 3) (r := (0, 0, 0, 0)) (by decide +kernel) (acmpT (c := .ne) (by show ¬ (_ = _); omega)) (by decide +kernel) ?_
        have hv287 := (O285.2.2 52 52 26 (t52 hg) (show 52 ≠ 378 by omega)).trans hs
        have hv288 := (O285.2.2 372 372 o (tu372 hg) (show 372 ≠ 378 by omega)).trans hv281
        exact cm_tB hC (by omega) hxo hon hv288 (by omega) (by omega) hg G0 ⟨O285.1, O285.2.1, fun k T j hk (hC : k ≠ 68 ∧ k ≠ 69 ∧ k ≠ 378 ∧ k ≠ 71 + n ∧ ((k ≠ 371 ∧ k ≠ 372 ∧ k ≠ 373 ∧ k ≠ 374 ∧ k ≠ 375 ∧ k ≠ 376) ∨ j ≠ n) ∧ (k ≠ 52 ∨ j ≠ 26)) => (O285.2.2 k T j hk (show k ≠ 378 by omega))⟩ hv287 hxs
      ·
        refine y_iF (c := .ne) (off := 5) (len := 3) (r := (0, 0, 0, 0)) (by decide +kernel) (acmpF (c := .ne) (by show _ = _; omega)) ?_
        refine y_ic (c := 0) (len := 1) (r := (0, 0, 0, 0)) (by decide +kernel) (by decide) (fun y289 hy289 => ?_)
        refine y_rI (len := 1) (r := (0, 0, 0, 0)) (nL := 5) (k := 2) (n9 := 3) (hs := []) (by decide +kernel) rfl (zfit_b (by omega) (by omega)).2 ?_
        exact ⟨by omega, by omega, _, ⟨O285.1, O285.2.1, fun k T j hk (hC : k ≠ 68 ∧ k ≠ 69 ∧ k ≠ 378 ∧ k ≠ 71 + n ∧ ((k ≠ 371 ∧ k ≠ 372 ∧ k ≠ 373 ∧ k ≠ 374 ∧ k ≠ 375 ∧ k ≠ 376) ∨ j ≠ n) ∧ (k ≠ 52 ∨ j ≠ 26)) => (O285.2.2 k T j hk (show k ≠ 378 by omega))⟩, fun h9 => absurd (by omega) h9⟩
