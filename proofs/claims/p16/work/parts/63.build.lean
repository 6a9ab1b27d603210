/-! small heaps: one is built, and held against the right side -/
/-- what stands in a part has a place -/
def LV (h : zh) (s m : Nat) : Prop := ∀ k, k < m → ∀ w, 1 ≤ w → w ≤ 3 → ∀ l v : Int32, hsl h 55 (46 * s + 2 + 4 * k + w) = some (zi l) → hsl h 381 l.toInt.toNat = some (zi v) → 0 ≤ v.toInt
theorem LV_up {h h1 : zh} {s m : Nat} (L : LV h s m) (e1 : ∀ j, hsl h1 55 j = hsl h 55 j) (e2 : ∀ j, hsl h1 381 j = hsl h 381 j) : LV h1 s m := fun k hk w w1 w3 l v a b => L k hk w w1 w3 l v ((e1 _).symm.trans a) ((e2 _).symm.trans b)
theorem e_putsPart {t k m pl : Nat} {τ : List Nat} {h : zh} {xk xp : Int32} (hg : hG τ h) (hxk : xk.toInt = (k : Int)) (hk : k < m) (hm : m ≤ 5) (hLV : LV h 0 m) (hp : hsl h 52 39 = some (zi xp)) (hxp : xp.toInt = (pl : Int)) (hpl : pl ≤ 20) : qI 41 249 [some (.inl (some 52)), some (zi xk), none, none, none, none, none] h t (fun y h1 => 0 ≤ y.toInt ∧ y.toInt ≤ 1 ∧ (∃ τ1, oF (fun k j => k ≠ 383 ∧ k ≠ 384 ∧ k ≠ 385 ∧ (k ≠ 52 ∨ j ≠ 39)) τ h τ1 h1) ∧ ∃ x : Int32, hsl h1 52 39 = some (zi x) ∧ 0 ≤ x.toInt ∧ x.toInt ≤ (pl : Int) + 1) := by
  refine qI_of ?_
  refine y_ic (c := 0) (len := 1) (r := (0, 0, 0, 0)) (by decide +kernel) (by decide) (fun y131 hy131 => ?_)
  refine y_same (i := .iload_n 1) (len := 1) (r := (0, 0, 0, 0)) (pc' := 2) (ls' := [some (.inl (some 52)), some (zi xk), none, none, none, none, none]) (st' := [zi xk, zi y131]) (by decide +kernel) (fun k q => by cases q) rfl ?_
  refine y_cI (i := .invokestatic 147) (len := 3) (r := (1, 168, 12, 1546)) (nL := 2) (k := 1) (n := 2) (hs := []) (args := [zi y131, zi xk]) (rest := []) (l0 := [some (zi y131), some (zi xk)]) (by decide +kernel) (Or.inl ⟨_, rfl⟩) rfl rfl rfl rfl (Nat.le_of_ble_eq_true rfl) rfl rfl (e_partAt (s := 0) (k := k) (by omega) (by omega) (by omega) (by omega)) (fun y132 qy132 hRy132 => ?_)
  obtain ⟨rfl, hy132⟩ := hRy132
  refine y_same (i := .istore_n 2) (len := 1) (r := (0, 0, 0, 0)) (pc' := 6) (ls' := [some (.inl (some 52)), some (zi xk), some (zi y132), none, none, none, none]) (st' := []) (by decide +kernel) (fun k q => by cases q) rfl ?_
  refine y_same (i := .aload_n 0) (len := 1) (r := (0, 0, 0, 0)) (pc' := 7) (ls' := [some (.inl (some 52)), some (zi xk), some (zi y132), none, none, none, none]) (st' := [.inl (some 52)]) (by decide +kernel) (fun k q => by cases q) rfl ?_
  refine y_get (j := 70) (len := 3) (r := (12, 33, 2, 1361)) (by decide +kernel) hg (t52 hg) at52 rfl rfl (g_r52 (f := 33) (T2 := 381) hg rfl (by decide)).1 ?_
  refine y_same (i := .aload_n 0) (len := 1) (r := (0, 0, 0, 0)) (pc' := 11) (ls' := [some (.inl (some 52)), some (zi xk), some (zi y132), none, none, none, none]) (st' := [.inl (some 52), .inl (some 381)]) (by decide +kernel) (fun k q => by cases q) rfl ?_
  refine y_get (j := 20) (len := 3) (r := (12, 9, 2, 1337)) (by decide +kernel) hg (t52 hg) at52 rfl rfl (g_r52 (f := 9) (T2 := 55) hg rfl (by decide)).1 ?_
  refine y_same (i := .iload_n 2) (len := 1) (r := (0, 0, 0, 0)) (pc' := 15) (ls' := [some (.inl (some 52)), some (zi xk), some (zi y132), none, none, none, none]) (st' := [zi y132, .inl (some 55), .inl (some 381)]) (by decide +kernel) (fun k q => by cases q) rfl ?_
  refine y_ic (c := 1) (len := 1) (r := (0, 0, 0, 0)) (by decide +kernel) (by decide) (fun y133 hy133 => ?_)
  refine y_add (len := 1) (r := (0, 0, 0, 0)) (by decide +kernel) (by omega) (by omega) (fun y134 hy134 => ?_)
  obtain ⟨v135, hv136, lv135, uv135⟩ := g55 (i := ((46 * 0 + 2 + 4 * k) + 1)) hg (by omega) (by omega) (by omega)
  refine y_ial (i := ((46 * 0 + 2 + 4 * k) + 1)) (len := 1) (r := (0, 0, 0, 0)) (by decide +kernel) hg (tu55 hg) at55 (by omega) hv136 ?_
  obtain ⟨v137, hv138, lv137, uv137⟩ := g_int (i := v135.toInt.toNat) hg (tu381 hg) at381 (show v135.toInt.toNat < 6 by omega) (sr1 (by omega))
  have zv137 := hLV k (by omega) 1 (by omega) (by omega) _ _ hv136 hv138
  refine y_ial (i := v135.toInt.toNat) (len := 1) (r := (0, 0, 0, 0)) (by decide +kernel) hg (tu381 hg) at381 (by omega) hv138 ?_
  refine y_same (i := .istore_n 3) (len := 1) (r := (0, 0, 0, 0)) (pc' := 20) (ls' := [some (.inl (some 52)), some (zi xk), some (zi y132), some (zi v137), none, none, none]) (st' := []) (by decide +kernel) (fun k q => by cases q) rfl ?_
  refine y_same (i := .aload_n 0) (len := 1) (r := (0, 0, 0, 0)) (pc' := 21) (ls' := [some (.inl (some 52)), some (zi xk), some (zi y132), some (zi v137), none, none, none]) (st' := [.inl (some 52)]) (by decide +kernel) (fun k q => by cases q) rfl ?_
  refine y_get (j := 70) (len := 3) (r := (12, 33, 2, 1361)) (by decide +kernel) hg (t52 hg) at52 rfl rfl (g_r52 (f := 33) (T2 := 381) hg rfl (by decide)).1 ?_
  refine y_same (i := .aload_n 0) (len := 1) (r := (0, 0, 0, 0)) (pc' := 25) (ls' := [some (.inl (some 52)), some (zi xk), some (zi y132), some (zi v137), none, none, none]) (st' := [.inl (some 52), .inl (some 381)]) (by decide +kernel) (fun k q => by cases q) rfl ?_
  refine y_get (j := 20) (len := 3) (r := (12, 9, 2, 1337)) (by decide +kernel) hg (t52 hg) at52 rfl rfl (g_r52 (f := 9) (T2 := 55) hg rfl (by decide)).1 ?_
  refine y_same (i := .iload_n 2) (len := 1) (r := (0, 0, 0, 0)) (pc' := 29) (ls' := [some (.inl (some 52)), some (zi xk), some (zi y132), some (zi v137), none, none, none]) (st' := [zi y132, .inl (some 55), .inl (some 381)]) (by decide +kernel) (fun k q => by cases q) rfl ?_
  refine y_ic (c := 2) (len := 1) (r := (0, 0, 0, 0)) (by decide +kernel) (by decide) (fun y139 hy139 => ?_)
  refine y_add (len := 1) (r := (0, 0, 0, 0)) (by decide +kernel) (by omega) (by omega) (fun y140 hy140 => ?_)
  obtain ⟨v141, hv142, lv141, uv141⟩ := g55 (i := ((46 * 0 + 2 + 4 * k) + 2)) hg (by omega) (by omega) (by omega)
  refine y_ial (i := ((46 * 0 + 2 + 4 * k) + 2)) (len := 1) (r := (0, 0, 0, 0)) (by decide +kernel) hg (tu55 hg) at55 (by omega) hv142 ?_
  obtain ⟨v143, hv144, lv143, uv143⟩ := g_int (i := v141.toInt.toNat) hg (tu381 hg) at381 (show v141.toInt.toNat < 6 by omega) (sr1 (by omega))
  have zv143 := hLV k (by omega) 2 (by omega) (by omega) _ _ hv142 hv144
  refine y_ial (i := v141.toInt.toNat) (len := 1) (r := (0, 0, 0, 0)) (by decide +kernel) hg (tu381 hg) at381 (by omega) hv144 ?_
  refine y_same (i := .istore 4) (len := 2) (r := (0, 0, 0, 0)) (pc' := 35) (ls' := [some (.inl (some 52)), some (zi xk), some (zi y132), some (zi v137), some (zi v143), none, none]) (st' := []) (by decide +kernel) (fun k q => by cases q) rfl ?_
  refine y_same (i := .aload_n 0) (len := 1) (r := (0, 0, 0, 0)) (pc' := 36) (ls' := [some (.inl (some 52)), some (zi xk), some (zi y132), some (zi v137), some (zi v143), none, none]) (st' := [.inl (some 52)]) (by decide +kernel) (fun k q => by cases q) rfl ?_
  refine y_get (j := 73) (len := 3) (r := (12, 34, 2, 1362)) (by decide +kernel) hg (t52 hg) at52 rfl rfl (g_r52 (f := 34) (T2 := 382) hg rfl (by decide)).1 ?_
  refine y_same (i := .iload_n 1) (len := 1) (r := (0, 0, 0, 0)) (pc' := 40) (ls' := [some (.inl (some 52)), some (zi xk), some (zi y132), some (zi v137), some (zi v143), none, none]) (st' := [zi xk, .inl (some 382)]) (by decide +kernel) (fun k q => by cases q) rfl ?_
  obtain ⟨v145, hv146, lv145, uv145⟩ := g_int (i := k) hg (tu382 hg) at382 (show k < 5 by omega) (sr1 (by omega))
  refine y_ial (i := k) (len := 1) (r := (0, 0, 0, 0)) (by decide +kernel) hg (tu382 hg) at382 (by omega) hv146 ?_
  refine y_same (i := .istore 5) (len := 2) (r := (0, 0, 0, 0)) (pc' := 43) (ls' := [some (.inl (some 52)), some (zi xk), some (zi y132), some (zi v137), some (zi v143), some (zi v145), none]) (st' := []) (by decide +kernel) (fun k q => by cases q) rfl ?_
  refine y_same (i := .aload_n 0) (len := 1) (r := (0, 0, 0, 0)) (pc' := 44) (ls' := [some (.inl (some 52)), some (zi xk), some (zi y132), some (zi v137), some (zi v143), some (zi v145), none]) (st' := [.inl (some 52)]) (by decide +kernel) (fun k q => by cases q) rfl ?_
  refine y_get (j := 20) (len := 3) (r := (12, 9, 2, 1337)) (by decide +kernel) hg (t52 hg) at52 rfl rfl (g_r52 (f := 9) (T2 := 55) hg rfl (by decide)).1 ?_
  refine y_same (i := .iload_n 2) (len := 1) (r := (0, 0, 0, 0)) (pc' := 48) (ls' := [some (.inl (some 52)), some (zi xk), some (zi y132), some (zi v137), some (zi v143), some (zi v145), none]) (st' := [zi y132, .inl (some 55)]) (by decide +kernel) (fun k q => by cases q) rfl ?_
  obtain ⟨v147, hv148, lv147, uv147⟩ := g55 (i := (46 * 0 + 2 + 4 * k)) hg (by omega) (by omega) (by omega)
  refine y_ial (i := (46 * 0 + 2 + 4 * k)) (len := 1) (r := (0, 0, 0, 0)) (by decide +kernel) hg (tu55 hg) at55 (by omega) hv148 ?_
  rcases (show v147.toInt = 0 ∨ v147.toInt = 1 ∨ v147.toInt = 2 ∨ v147.toInt < 0 ∨ 2 < v147.toInt by omega) with q149 | q149 | q149 | q149
  ·
    refine y_sw (dflt := 146) (lo := 0) (hi := 2) (offs := #[27, 37, 59]) (off := 27) (pc' := 76) (len := 27) (r := (0, 0, 0, 0)) (by decide +kernel) (zswI (k := 0) (by omega) (by omega) (by omega) rfl) (by decide +kernel) ?_
    refine y_same (i := .aload_n 0) (len := 1) (r := (0, 0, 0, 0)) (pc' := 77) (ls' := [some (.inl (some 52)), some (zi xk), some (zi y132), some (zi v137), some (zi v143), some (zi v145), none]) (st' := [.inl (some 52)]) (by decide +kernel) (fun k q => by cases q) rfl ?_
    refine y_same (i := .iload_n 3) (len := 1) (r := (0, 0, 0, 0)) (pc' := 78) (ls' := [some (.inl (some 52)), some (zi xk), some (zi y132), some (zi v137), some (zi v143), some (zi v145), none]) (st' := [zi v137, .inl (some 52)]) (by decide +kernel) (fun k q => by cases q) rfl ?_
    refine y_ic (c := 0) (len := 1) (r := (0, 0, 0, 0)) (by decide +kernel) (by decide) (fun y150 hy150 => ?_)
    refine y_same (i := .iload 4) (len := 2) (r := (0, 0, 0, 0)) (pc' := 81) (ls' := [some (.inl (some 52)), some (zi xk), some (zi y132), some (zi v137), some (zi v143), some (zi v145), none]) (st' := [zi v143, zi y150, zi v137, .inl (some 52)]) (by decide +kernel) (fun k q => by cases q) rfl ?_
    refine y_ic (c := 0) (len := 1) (r := (0, 0, 0, 0)) (by decide +kernel) (by decide) (fun y151 hy151 => ?_)
    refine y_cI (i := .invokevirtual 413) (len := 3) (r := (0, 246, 12, 1826)) (nL := 5) (k := 2) (n := 5) (hs := []) (args := [.inl (some 52), zi v137, zi y150, zi v143, zi y151]) (rest := []) (l0 := [some (.inl (some 52)), some (zi v137), some (zi y150), some (zi v143), some (zi y151)]) (by decide +kernel) (Or.inr (Or.inl ⟨_, rfl⟩)) rfl rfl rfl rfl (Nat.le_of_ble_eq_true rfl) (z52 hg) rfl (e_puts (a := v137.toInt.toNat) hg (by omega) (by omega) (by omega) (by omega) (by omega) (by omega) (by omega) (by omega)) (fun y152 h152 hRy152 => ?_)
    obtain ⟨ly152, uy152, τ152, O152⟩ := hRy152
    refine y_rI (len := 1) (r := (0, 0, 0, 0)) (nL := 7) (k := 2) (n9 := 2) (hs := []) (by decide +kernel) rfl (zfit_b (by omega) (by omega)).2 ?_
    have hv153 := (O152.2.2 52 52 39 (t52 hg) (show 52 ≠ 383 ∧ 52 ≠ 384 ∧ 52 ≠ 385 by omega)).trans hp
    exact ⟨by omega, by omega, ⟨_, ⟨O152.1, O152.2.1, fun k T j hk (hC : k ≠ 383 ∧ k ≠ 384 ∧ k ≠ 385 ∧ (k ≠ 52 ∨ j ≠ 39)) => (O152.2.2 k T j hk (show k ≠ 383 ∧ k ≠ 384 ∧ k ≠ 385 by omega))⟩⟩, xp, hv153, by omega, by omega⟩
  ·
    refine y_sw (dflt := 146) (lo := 0) (hi := 2) (offs := #[27, 37, 59]) (off := 37) (pc' := 86) (len := 27) (r := (0, 0, 0, 0)) (by decide +kernel) (zswI (k := 1) (by omega) (by omega) (by omega) rfl) (by decide +kernel) ?_
    refine y_same (i := .aload_n 0) (len := 1) (r := (0, 0, 0, 0)) (pc' := 87) (ls' := [some (.inl (some 52)), some (zi xk), some (zi y132), some (zi v137), some (zi v143), some (zi v145), none]) (st' := [.inl (some 52)]) (by decide +kernel) (fun k q => by cases q) rfl ?_
    refine y_same (i := .iload_n 3) (len := 1) (r := (0, 0, 0, 0)) (pc' := 88) (ls' := [some (.inl (some 52)), some (zi xk), some (zi y132), some (zi v137), some (zi v143), some (zi v145), none]) (st' := [zi v137, .inl (some 52)]) (by decide +kernel) (fun k q => by cases q) rfl ?_
    refine y_ic (c := 1) (len := 1) (r := (0, 0, 0, 0)) (by decide +kernel) (by decide) (fun y154 hy154 => ?_)
    refine y_same (i := .iload 4) (len := 2) (r := (0, 0, 0, 0)) (pc' := 91) (ls' := [some (.inl (some 52)), some (zi xk), some (zi y132), some (zi v137), some (zi v143), some (zi v145), none]) (st' := [zi v143, zi y154, zi v137, .inl (some 52)]) (by decide +kernel) (fun k q => by cases q) rfl ?_
    refine y_same (i := .aload_n 0) (len := 1) (r := (0, 0, 0, 0)) (pc' := 92) (ls' := [some (.inl (some 52)), some (zi xk), some (zi y132), some (zi v137), some (zi v143), some (zi v145), none]) (st' := [.inl (some 52), zi v143, zi y154, zi v137, .inl (some 52)]) (by decide +kernel) (fun k q => by cases q) rfl ?_
    refine y_get (j := 70) (len := 3) (r := (12, 33, 2, 1361)) (by decide +kernel) hg (t52 hg) at52 rfl rfl (g_r52 (f := 33) (T2 := 381) hg rfl (by decide)).1 ?_
    refine y_same (i := .aload_n 0) (len := 1) (r := (0, 0, 0, 0)) (pc' := 96) (ls' := [some (.inl (some 52)), some (zi xk), some (zi y132), some (zi v137), some (zi v143), some (zi v145), none]) (st' := [.inl (some 52), .inl (some 381), zi v143, zi y154, zi v137, .inl (some 52)]) (by decide +kernel) (fun k q => by cases q) rfl ?_
    refine y_get (j := 20) (len := 3) (r := (12, 9, 2, 1337)) (by decide +kernel) hg (t52 hg) at52 rfl rfl (g_r52 (f := 9) (T2 := 55) hg rfl (by decide)).1 ?_
    refine y_same (i := .iload_n 2) (len := 1) (r := (0, 0, 0, 0)) (pc' := 100) (ls' := [some (.inl (some 52)), some (zi xk), some (zi y132), some (zi v137), some (zi v143), some (zi v145), none]) (st' := [zi y132, .inl (some 55), .inl (some 381), zi v143, zi y154, zi v137, .inl (some 52)]) (by decide +kernel) (fun k q => by cases q) rfl ?_
    refine y_ic (c := 3) (len := 1) (r := (0, 0, 0, 0)) (by decide +kernel) (by decide) (fun y155 hy155 => ?_)
    refine y_add (len := 1) (r := (0, 0, 0, 0)) (by decide +kernel) (by omega) (by omega) (fun y156 hy156 => ?_)
    obtain ⟨v157, hv158, lv157, uv157⟩ := g55 (i := ((46 * 0 + 2 + 4 * k) + 3)) hg (by omega) (by omega) (by omega)
    refine y_ial (i := ((46 * 0 + 2 + 4 * k) + 3)) (len := 1) (r := (0, 0, 0, 0)) (by decide +kernel) hg (tu55 hg) at55 (by omega) hv158 ?_
    obtain ⟨v159, hv160, lv159, uv159⟩ := g_int (i := v157.toInt.toNat) hg (tu381 hg) at381 (show v157.toInt.toNat < 6 by omega) (sr1 (by omega))
    have zv159 := hLV k (by omega) 3 (by omega) (by omega) _ _ hv158 hv160
    refine y_ial (i := v157.toInt.toNat) (len := 1) (r := (0, 0, 0, 0)) (by decide +kernel) hg (tu381 hg) at381 (by omega) hv160 ?_
    refine y_cI (i := .invokevirtual 413) (len := 3) (r := (0, 246, 12, 1826)) (nL := 5) (k := 2) (n := 5) (hs := []) (args := [.inl (some 52), zi v137, zi y154, zi v143, zi v159]) (rest := []) (l0 := [some (.inl (some 52)), some (zi v137), some (zi y154), some (zi v143), some (zi v159)]) (by decide +kernel) (Or.inr (Or.inl ⟨_, rfl⟩)) rfl rfl rfl rfl (Nat.le_of_ble_eq_true rfl) (z52 hg) rfl (e_puts (a := v137.toInt.toNat) hg (by omega) (by omega) (by omega) (by omega) (by omega) (by omega) (by omega) (by omega)) (fun y161 h161 hRy161 => ?_)
    obtain ⟨ly161, uy161, τ161, O161⟩ := hRy161
    refine y_rI (len := 1) (r := (0, 0, 0, 0)) (nL := 7) (k := 2) (n9 := 2) (hs := []) (by decide +kernel) rfl (zfit_b (by omega) (by omega)).2 ?_
    have hv162 := (O161.2.2 52 52 39 (t52 hg) (show 52 ≠ 383 ∧ 52 ≠ 384 ∧ 52 ≠ 385 by omega)).trans hp
    exact ⟨by omega, by omega, ⟨_, ⟨O161.1, O161.2.1, fun k T j hk (hC : k ≠ 383 ∧ k ≠ 384 ∧ k ≠ 385 ∧ (k ≠ 52 ∨ j ≠ 39)) => (O161.2.2 k T j hk (show k ≠ 383 ∧ k ≠ 384 ∧ k ≠ 385 by omega))⟩⟩, xp, hv162, by omega, by omega⟩
  ·
    refine y_sw (dflt := 146) (lo := 0) (hi := 2) (offs := #[27, 37, 59]) (off := 59) (pc' := 108) (len := 27) (r := (0, 0, 0, 0)) (by decide +kernel) (zswI (k := 2) (by omega) (by omega) (by omega) rfl) (by decide +kernel) ?_
    refine y_same (i := .iload 5) (len := 2) (r := (0, 0, 0, 0)) (pc' := 110) (ls' := [some (.inl (some 52)), some (zi xk), some (zi y132), some (zi v137), some (zi v143), some (zi v145), none]) (st' := [zi v145]) (by decide +kernel) (fun k q => by cases q) rfl ?_
    rcases Decidable.em (v145.toInt ≠ 0) with q163 | q163
    ·
      refine y_iT (c := .ne) (off := 7) (pc' := 117) (len := 3) (r := (0, 0, 0, 0)) (by decide +kernel) (acmpT (c := .ne) (by show ¬ (_ = _); omega)) (by decide +kernel) ?_
      refine y_ic (c := 0) (len := 1) (r := (0, 0, 0, 0)) (by decide +kernel) (by decide) (fun y164 hy164 => ?_)
      refine y_same (i := .iload_n 3) (len := 1) (r := (0, 0, 0, 0)) (pc' := 119) (ls' := [some (.inl (some 52)), some (zi xk), some (zi y132), some (zi v137), some (zi v143), some (zi v145), none]) (st' := [zi v137, zi y164]) (by decide +kernel) (fun k q => by cases q) rfl ?_
      refine y_same (i := .iload 4) (len := 2) (r := (0, 0, 0, 0)) (pc' := 121) (ls' := [some (.inl (some 52)), some (zi xk), some (zi y132), some (zi v137), some (zi v143), some (zi v145), none]) (st' := [zi v143, zi v137, zi y164]) (by decide +kernel) (fun k q => by cases q) rfl ?_
      rcases Decidable.em (v137.toInt ≠ v143.toInt) with q165 | q165
      ·
        refine y_cT (c := .ne) (off := 7) (pc' := 128) (len := 3) (r := (0, 0, 0, 0)) (by decide +kernel) (acmpT (c := .ne) (by show ¬ (_ = _); omega)) (by decide +kernel) ?_
        refine y_ic (c := 0) (len := 1) (r := (0, 0, 0, 0)) (by decide +kernel) (by decide) (fun y166 hy166 => ?_)
        refine y_cT (c := .eq) (off := 5) (pc' := 134) (len := 3) (r := (0, 0, 0, 0)) (by decide +kernel) (acmpT (c := .eq) (by show _ = _; omega)) (by decide +kernel) ?_
        refine y_same (i := .iload 5) (len := 2) (r := (0, 0, 0, 0)) (pc' := 136) (ls' := [some (.inl (some 52)), some (zi xk), some (zi y132), some (zi v137), some (zi v143), some (zi v145), none]) (st' := [zi v145]) (by decide +kernel) (fun k q => by cases q) rfl ?_
        rcases Decidable.em (v145.toInt ≠ 0) with q167 | q167
        ·
          refine y_iT (c := .ne) (off := 5) (pc' := 141) (len := 3) (r := (0, 0, 0, 0)) (by decide +kernel) (acmpT (c := .ne) (by show ¬ (_ = _); omega)) (by decide +kernel) ?_
          refine y_same (i := .iload 5) (len := 2) (r := (0, 0, 0, 0)) (pc' := 143) (ls' := [some (.inl (some 52)), some (zi xk), some (zi y132), some (zi v137), some (zi v143), some (zi v145), none]) (st' := [zi v145]) (by decide +kernel) (fun k q => by cases q) rfl ?_
          refine y_ic (c := 1) (len := 1) (r := (0, 0, 0, 0)) (by decide +kernel) (by decide) (fun y168 hy168 => ?_)
          rcases Decidable.em (v145.toInt ≠ y168.toInt) with q169 | q169
          ·
            refine y_cT (c := .ne) (off := 8) (pc' := 152) (len := 3) (r := (0, 0, 0, 0)) (by decide +kernel) (acmpT (c := .ne) (by show ¬ (_ = _); omega)) (by decide +kernel) ?_
            refine y_same (i := .aload_n 0) (len := 1) (r := (0, 0, 0, 0)) (pc' := 153) (ls' := [some (.inl (some 52)), some (zi xk), some (zi y132), some (zi v137), some (zi v143), some (zi v145), none]) (st' := [.inl (some 52)]) (by decide +kernel) (fun k q => by cases q) rfl ?_
            refine y_cI (i := .invokevirtual 417) (len := 3) (r := (0, 247, 12, 1830)) (nL := 1) (k := 1) (n := 1) (hs := []) (args := [.inl (some 52)]) (rest := []) (l0 := [some (.inl (some 52))]) (by decide +kernel) (Or.inr (Or.inl ⟨_, rfl⟩)) rfl rfl rfl rfl (Nat.le_of_ble_eq_true rfl) (z52 hg) rfl (e_comesNew (m := pl) hg hp (by omega) (by omega)) (fun y170 h170 hRy170 => ?_)
            obtain ⟨ey170, τ170, O170, p170⟩ := hRy170
            refine y_same (i := .istore 6) (len := 2) (r := (0, 0, 0, 0)) (pc' := 158) (ls' := [some (.inl (some 52)), some (zi xk), some (zi y132), some (zi v137), some (zi v143), some (zi v145), some (zi y170)]) (st' := []) (by decide +kernel) (fun k q => by cases q) rfl ?_
            refine y_same (i := .aload_n 0) (len := 1) (r := (0, 0, 0, 0)) (pc' := 159) (ls' := [some (.inl (some 52)), some (zi xk), some (zi y132), some (zi v137), some (zi v143), some (zi v145), some (zi y170)]) (st' := [.inl (some 52)]) (by decide +kernel) (fun k q => by cases q) rfl ?_
            refine y_same (i := .iload_n 3) (len := 1) (r := (0, 0, 0, 0)) (pc' := 160) (ls' := [some (.inl (some 52)), some (zi xk), some (zi y132), some (zi v137), some (zi v143), some (zi v145), some (zi y170)]) (st' := [zi v137, .inl (some 52)]) (by decide +kernel) (fun k q => by cases q) rfl ?_
            refine y_ic (c := 0) (len := 1) (r := (0, 0, 0, 0)) (by decide +kernel) (by decide) (fun y171 hy171 => ?_)
            refine y_same (i := .iload 6) (len := 2) (r := (0, 0, 0, 0)) (pc' := 163) (ls' := [some (.inl (some 52)), some (zi xk), some (zi y132), some (zi v137), some (zi v143), some (zi v145), some (zi y170)]) (st' := [zi y170, zi y171, zi v137, .inl (some 52)]) (by decide +kernel) (fun k q => by cases q) rfl ?_
            refine y_ic (c := 0) (len := 1) (r := (0, 0, 0, 0)) (by decide +kernel) (by decide) (fun y172 hy172 => ?_)
            refine y_cI (i := .invokevirtual 413) (len := 3) (r := (0, 246, 12, 1826)) (nL := 5) (k := 2) (n := 5) (hs := []) (args := [.inl (some 52), zi v137, zi y171, zi y170, zi y172]) (rest := []) (l0 := [some (.inl (some 52)), some (zi v137), some (zi y171), some (zi y170), some (zi y172)]) (by decide +kernel) (Or.inr (Or.inl ⟨_, rfl⟩)) rfl rfl rfl rfl (Nat.le_of_ble_eq_true rfl) (z52 O170.2.1) rfl (e_puts (a := v137.toInt.toNat) O170.2.1 (by omega) (by omega) (by omega) (by omega) (by omega) (by omega) (by omega) (by omega)) (fun y173 h173 hRy173 => ?_)
            obtain ⟨ly173, uy173, τ173, O173⟩ := hRy173
            rcases Decidable.em (y173.toInt = 0) with q174 | q174
            ·
              refine y_iT (c := .eq) (off := 26) (pc' := 193) (len := 3) (r := (0, 0, 0, 0)) (by decide +kernel) (acmpT (c := .eq) (by show _ = _; omega)) (by decide +kernel) ?_
              refine y_ic (c := 0) (len := 1) (r := (0, 0, 0, 0)) (by decide +kernel) (by decide) (fun y175 hy175 => ?_)
              refine y_rI (len := 1) (r := (0, 0, 0, 0)) (nL := 7) (k := 2) (n9 := 2) (hs := []) (by decide +kernel) rfl (zfit_b (by omega) (by omega)).2 ?_
              have hv176 := (O173.2.2 52 52 39 (t52 O170.2.1) (show 52 ≠ 383 ∧ 52 ≠ 384 ∧ 52 ≠ 385 by omega)).trans p170
              exact ⟨by omega, by omega, ⟨_, ⟨(aup_trans O170.1 O173.1), O173.2.1, fun k T j hk (hC : k ≠ 383 ∧ k ≠ 384 ∧ k ≠ 385 ∧ (k ≠ 52 ∨ j ≠ 39)) => ((O173.2.2 k T j (O170.1 _ _ hk) (show k ≠ 383 ∧ k ≠ 384 ∧ k ≠ 385 by omega)).trans (O170.2.2 k T j hk (show k ≠ 383 ∧ (k ≠ 52 ∨ j ≠ 39) by omega)))⟩⟩, y170, hv176, by omega, by omega⟩
            ·
              refine y_iF (c := .eq) (off := 26) (len := 3) (r := (0, 0, 0, 0)) (by decide +kernel) (acmpF (c := .eq) (by show ¬ (_ = _); omega)) ?_
              refine y_same (i := .iload 5) (len := 2) (r := (0, 0, 0, 0)) (pc' := 172) (ls' := [some (.inl (some 52)), some (zi xk), some (zi y132), some (zi v137), some (zi v143), some (zi v145), some (zi y170)]) (st' := [zi v145]) (by decide +kernel) (fun k q => by cases q) rfl ?_
              refine y_ic (c := 1) (len := 1) (r := (0, 0, 0, 0)) (by decide +kernel) (by decide) (fun y177 hy177 => ?_)
              rcases Decidable.em (v145.toInt = y177.toInt) with q178 | q178
              ·
                refine y_cT (c := .eq) (off := 16) (pc' := 189) (len := 3) (r := (0, 0, 0, 0)) (by decide +kernel) (acmpT (c := .eq) (by show _ = _; omega)) (by decide +kernel) ?_
                refine y_ic (c := 1) (len := 1) (r := (0, 0, 0, 0)) (by decide +kernel) (by decide) (fun y179 hy179 => ?_)
                refine y_goto (off := 4) (pc' := 194) (len := 3) (r := (0, 0, 0, 0)) (by decide +kernel) (by decide +kernel) ?_
                refine y_rI (len := 1) (r := (0, 0, 0, 0)) (nL := 7) (k := 2) (n9 := 2) (hs := []) (by decide +kernel) rfl (zfit_b (by omega) (by omega)).2 ?_
                have hv180 := (O173.2.2 52 52 39 (t52 O170.2.1) (show 52 ≠ 383 ∧ 52 ≠ 384 ∧ 52 ≠ 385 by omega)).trans p170
                exact ⟨by omega, by omega, ⟨_, ⟨(aup_trans O170.1 O173.1), O173.2.1, fun k T j hk (hC : k ≠ 383 ∧ k ≠ 384 ∧ k ≠ 385 ∧ (k ≠ 52 ∨ j ≠ 39)) => ((O173.2.2 k T j (O170.1 _ _ hk) (show k ≠ 383 ∧ k ≠ 384 ∧ k ≠ 385 by omega)).trans (O170.2.2 k T j hk (show k ≠ 383 ∧ (k ≠ 52 ∨ j ≠ 39) by omega)))⟩⟩, y170, hv180, by omega, by omega⟩
              ·
                refine y_cF (c := .eq) (off := 16) (len := 3) (r := (0, 0, 0, 0)) (by decide +kernel) (acmpF (c := .eq) (by show ¬ (_ = _); omega)) ?_
                refine y_same (i := .aload_n 0) (len := 1) (r := (0, 0, 0, 0)) (pc' := 177) (ls' := [some (.inl (some 52)), some (zi xk), some (zi y132), some (zi v137), some (zi v143), some (zi v145), some (zi y170)]) (st' := [.inl (some 52)]) (by decide +kernel) (fun k q => by cases q) rfl ?_
                refine y_same (i := .iload 6) (len := 2) (r := (0, 0, 0, 0)) (pc' := 179) (ls' := [some (.inl (some 52)), some (zi xk), some (zi y132), some (zi v137), some (zi v143), some (zi v145), some (zi y170)]) (st' := [zi y170, .inl (some 52)]) (by decide +kernel) (fun k q => by cases q) rfl ?_
                refine y_ic (c := 0) (len := 1) (r := (0, 0, 0, 0)) (by decide +kernel) (by decide) (fun y181 hy181 => ?_)
                refine y_same (i := .iload 4) (len := 2) (r := (0, 0, 0, 0)) (pc' := 182) (ls' := [some (.inl (some 52)), some (zi xk), some (zi y132), some (zi v137), some (zi v143), some (zi v145), some (zi y170)]) (st' := [zi v143, zi y181, zi y170, .inl (some 52)]) (by decide +kernel) (fun k q => by cases q) rfl ?_
                refine y_ic (c := 0) (len := 1) (r := (0, 0, 0, 0)) (by decide +kernel) (by decide) (fun y182 hy182 => ?_)
                refine y_cI (i := .invokevirtual 413) (len := 3) (r := (0, 246, 12, 1826)) (nL := 5) (k := 2) (n := 5) (hs := []) (args := [.inl (some 52), zi y170, zi y181, zi v143, zi y182]) (rest := []) (l0 := [some (.inl (some 52)), some (zi y170), some (zi y181), some (zi v143), some (zi y182)]) (by decide +kernel) (Or.inr (Or.inl ⟨_, rfl⟩)) rfl rfl rfl rfl (Nat.le_of_ble_eq_true rfl) (z52 O173.2.1) rfl (e_puts (a := (pl + 1)) O173.2.1 (by omega) (by omega) (by omega) (by omega) (by omega) (by omega) (by omega) (by omega)) (fun y183 h183 hRy183 => ?_)
                obtain ⟨ly183, uy183, τ183, O183⟩ := hRy183
                rcases Decidable.em (y183.toInt = 0) with q184 | q184
                ·
                  refine y_iT (c := .eq) (off := 7) (pc' := 193) (len := 3) (r := (0, 0, 0, 0)) (by decide +kernel) (acmpT (c := .eq) (by show _ = _; omega)) (by decide +kernel) ?_
                  refine y_ic (c := 0) (len := 1) (r := (0, 0, 0, 0)) (by decide +kernel) (by decide) (fun y185 hy185 => ?_)
                  refine y_rI (len := 1) (r := (0, 0, 0, 0)) (nL := 7) (k := 2) (n9 := 2) (hs := []) (by decide +kernel) rfl (zfit_b (by omega) (by omega)).2 ?_
                  have hv186 := (O173.2.2 52 52 39 (t52 O170.2.1) (show 52 ≠ 383 ∧ 52 ≠ 384 ∧ 52 ≠ 385 by omega)).trans p170
                  have hv187 := (O183.2.2 52 52 39 (t52 O173.2.1) (show 52 ≠ 383 ∧ 52 ≠ 384 ∧ 52 ≠ 385 by omega)).trans hv186
                  exact ⟨by omega, by omega, ⟨_, ⟨(aup_trans (aup_trans O170.1 O173.1) O183.1), O183.2.1, fun k T j hk (hC : k ≠ 383 ∧ k ≠ 384 ∧ k ≠ 385 ∧ (k ≠ 52 ∨ j ≠ 39)) => ((O183.2.2 k T j (O173.1 _ _ (O170.1 _ _ hk)) (show k ≠ 383 ∧ k ≠ 384 ∧ k ≠ 385 by omega)).trans ((O173.2.2 k T j (O170.1 _ _ hk) (show k ≠ 383 ∧ k ≠ 384 ∧ k ≠ 385 by omega)).trans (O170.2.2 k T j hk (show k ≠ 383 ∧ (k ≠ 52 ∨ j ≠ 39) by omega))))⟩⟩, y170, hv187, by omega, by omega⟩
                ·
                  refine y_iF (c := .eq) (off := 7) (len := 3) (r := (0, 0, 0, 0)) (by decide +kernel) (acmpF (c := .eq) (by show ¬ (_ = _); omega)) ?_
                  refine y_ic (c := 1) (len := 1) (r := (0, 0, 0, 0)) (by decide +kernel) (by decide) (fun y188 hy188 => ?_)
                  refine y_goto (off := 4) (pc' := 194) (len := 3) (r := (0, 0, 0, 0)) (by decide +kernel) (by decide +kernel) ?_
                  refine y_rI (len := 1) (r := (0, 0, 0, 0)) (nL := 7) (k := 2) (n9 := 2) (hs := []) (by decide +kernel) rfl (zfit_b (by omega) (by omega)).2 ?_
                  have hv189 := (O173.2.2 52 52 39 (t52 O170.2.1) (show 52 ≠ 383 ∧ 52 ≠ 384 ∧ 52 ≠ 385 by omega)).trans p170
                  have hv190 := (O183.2.2 52 52 39 (t52 O173.2.1) (show 52 ≠ 383 ∧ 52 ≠ 384 ∧ 52 ≠ 385 by omega)).trans hv189
                  exact ⟨by omega, by omega, ⟨_, ⟨(aup_trans (aup_trans O170.1 O173.1) O183.1), O183.2.1, fun k T j hk (hC : k ≠ 383 ∧ k ≠ 384 ∧ k ≠ 385 ∧ (k ≠ 52 ∨ j ≠ 39)) => ((O183.2.2 k T j (O173.1 _ _ (O170.1 _ _ hk)) (show k ≠ 383 ∧ k ≠ 384 ∧ k ≠ 385 by omega)).trans ((O173.2.2 k T j (O170.1 _ _ hk) (show k ≠ 383 ∧ k ≠ 384 ∧ k ≠ 385 by omega)).trans (O170.2.2 k T j hk (show k ≠ 383 ∧ (k ≠ 52 ∨ j ≠ 39) by omega))))⟩⟩, y170, hv190, by omega, by omega⟩
          ·
            refine y_cF (c := .ne) (off := 8) (len := 3) (r := (0, 0, 0, 0)) (by decide +kernel) (acmpF (c := .ne) (by show _ = _; omega)) ?_
            refine y_same (i := .iload 4) (len := 2) (r := (0, 0, 0, 0)) (pc' := 149) (ls' := [some (.inl (some 52)), some (zi xk), some (zi y132), some (zi v137), some (zi v143), some (zi v145), none]) (st' := [zi v143]) (by decide +kernel) (fun k q => by cases q) rfl ?_
            refine y_goto (off := 7) (pc' := 156) (len := 3) (r := (0, 0, 0, 0)) (by decide +kernel) (by decide +kernel) ?_
            refine y_same (i := .istore 6) (len := 2) (r := (0, 0, 0, 0)) (pc' := 158) (ls' := [some (.inl (some 52)), some (zi xk), some (zi y132), some (zi v137), some (zi v143), some (zi v145), some (zi v143)]) (st' := []) (by decide +kernel) (fun k q => by cases q) rfl ?_
            refine y_same (i := .aload_n 0) (len := 1) (r := (0, 0, 0, 0)) (pc' := 159) (ls' := [some (.inl (some 52)), some (zi xk), some (zi y132), some (zi v137), some (zi v143), some (zi v145), some (zi v143)]) (st' := [.inl (some 52)]) (by decide +kernel) (fun k q => by cases q) rfl ?_
            refine y_same (i := .iload_n 3) (len := 1) (r := (0, 0, 0, 0)) (pc' := 160) (ls' := [some (.inl (some 52)), some (zi xk), some (zi y132), some (zi v137), some (zi v143), some (zi v145), some (zi v143)]) (st' := [zi v137, .inl (some 52)]) (by decide +kernel) (fun k q => by cases q) rfl ?_
            refine y_ic (c := 0) (len := 1) (r := (0, 0, 0, 0)) (by decide +kernel) (by decide) (fun y191 hy191 => ?_)
            refine y_same (i := .iload 6) (len := 2) (r := (0, 0, 0, 0)) (pc' := 163) (ls' := [some (.inl (some 52)), some (zi xk), some (zi y132), some (zi v137), some (zi v143), some (zi v145), some (zi v143)]) (st' := [zi v143, zi y191, zi v137, .inl (some 52)]) (by decide +kernel) (fun k q => by cases q) rfl ?_
            refine y_ic (c := 0) (len := 1) (r := (0, 0, 0, 0)) (by decide +kernel) (by decide) (fun y192 hy192 => ?_)
            refine y_cI (i := .invokevirtual 413) (len := 3) (r := (0, 246, 12, 1826)) (nL := 5) (k := 2) (n := 5) (hs := []) (args := [.inl (some 52), zi v137, zi y191, zi v143, zi y192]) (rest := []) (l0 := [some (.inl (some 52)), some (zi v137), some (zi y191), some (zi v143), some (zi y192)]) (by decide +kernel) (Or.inr (Or.inl ⟨_, rfl⟩)) rfl rfl rfl rfl (Nat.le_of_ble_eq_true rfl) (z52 hg) rfl (e_puts (a := v137.toInt.toNat) hg (by omega) (by omega) (by omega) (by omega) (by omega) (by omega) (by omega) (by omega)) (fun y193 h193 hRy193 => ?_)
            obtain ⟨ly193, uy193, τ193, O193⟩ := hRy193
            rcases Decidable.em (y193.toInt = 0) with q194 | q194
            ·
              refine y_iT (c := .eq) (off := 26) (pc' := 193) (len := 3) (r := (0, 0, 0, 0)) (by decide +kernel) (acmpT (c := .eq) (by show _ = _; omega)) (by decide +kernel) ?_
              refine y_ic (c := 0) (len := 1) (r := (0, 0, 0, 0)) (by decide +kernel) (by decide) (fun y195 hy195 => ?_)
              refine y_rI (len := 1) (r := (0, 0, 0, 0)) (nL := 7) (k := 2) (n9 := 2) (hs := []) (by decide +kernel) rfl (zfit_b (by omega) (by omega)).2 ?_
              have hv196 := (O193.2.2 52 52 39 (t52 hg) (show 52 ≠ 383 ∧ 52 ≠ 384 ∧ 52 ≠ 385 by omega)).trans hp
              exact ⟨by omega, by omega, ⟨_, ⟨O193.1, O193.2.1, fun k T j hk (hC : k ≠ 383 ∧ k ≠ 384 ∧ k ≠ 385 ∧ (k ≠ 52 ∨ j ≠ 39)) => (O193.2.2 k T j hk (show k ≠ 383 ∧ k ≠ 384 ∧ k ≠ 385 by omega))⟩⟩, xp, hv196, by omega, by omega⟩
            ·
              refine y_iF (c := .eq) (off := 26) (len := 3) (r := (0, 0, 0, 0)) (by decide +kernel) (acmpF (c := .eq) (by show ¬ (_ = _); omega)) ?_
              refine y_same (i := .iload 5) (len := 2) (r := (0, 0, 0, 0)) (pc' := 172) (ls' := [some (.inl (some 52)), some (zi xk), some (zi y132), some (zi v137), some (zi v143), some (zi v145), some (zi v143)]) (st' := [zi v145]) (by decide +kernel) (fun k q => by cases q) rfl ?_
              refine y_ic (c := 1) (len := 1) (r := (0, 0, 0, 0)) (by decide +kernel) (by decide) (fun y197 hy197 => ?_)
              rcases Decidable.em (v145.toInt = y197.toInt) with q198 | q198
              ·
                refine y_cT (c := .eq) (off := 16) (pc' := 189) (len := 3) (r := (0, 0, 0, 0)) (by decide +kernel) (acmpT (c := .eq) (by show _ = _; omega)) (by decide +kernel) ?_
                refine y_ic (c := 1) (len := 1) (r := (0, 0, 0, 0)) (by decide +kernel) (by decide) (fun y199 hy199 => ?_)
                refine y_goto (off := 4) (pc' := 194) (len := 3) (r := (0, 0, 0, 0)) (by decide +kernel) (by decide +kernel) ?_
                refine y_rI (len := 1) (r := (0, 0, 0, 0)) (nL := 7) (k := 2) (n9 := 2) (hs := []) (by decide +kernel) rfl (zfit_b (by omega) (by omega)).2 ?_
                have hv200 := (O193.2.2 52 52 39 (t52 hg) (show 52 ≠ 383 ∧ 52 ≠ 384 ∧ 52 ≠ 385 by omega)).trans hp
                exact ⟨by omega, by omega, ⟨_, ⟨O193.1, O193.2.1, fun k T j hk (hC : k ≠ 383 ∧ k ≠ 384 ∧ k ≠ 385 ∧ (k ≠ 52 ∨ j ≠ 39)) => (O193.2.2 k T j hk (show k ≠ 383 ∧ k ≠ 384 ∧ k ≠ 385 by omega))⟩⟩, xp, hv200, by omega, by omega⟩
              ·
                refine y_cF (c := .eq) (off := 16) (len := 3) (r := (0, 0, 0, 0)) (by decide +kernel) (acmpF (c := .eq) (by show ¬ (_ = _); omega)) ?_
                refine y_same (i := .aload_n 0) (len := 1) (r := (0, 0, 0, 0)) (pc' := 177) (ls' := [some (.inl (some 52)), some (zi xk), some (zi y132), some (zi v137), some (zi v143), some (zi v145), some (zi v143)]) (st' := [.inl (some 52)]) (by decide +kernel) (fun k q => by cases q) rfl ?_
                refine y_same (i := .iload 6) (len := 2) (r := (0, 0, 0, 0)) (pc' := 179) (ls' := [some (.inl (some 52)), some (zi xk), some (zi y132), some (zi v137), some (zi v143), some (zi v145), some (zi v143)]) (st' := [zi v143, .inl (some 52)]) (by decide +kernel) (fun k q => by cases q) rfl ?_
                refine y_ic (c := 0) (len := 1) (r := (0, 0, 0, 0)) (by decide +kernel) (by decide) (fun y201 hy201 => ?_)
                refine y_same (i := .iload 4) (len := 2) (r := (0, 0, 0, 0)) (pc' := 182) (ls' := [some (.inl (some 52)), some (zi xk), some (zi y132), some (zi v137), some (zi v143), some (zi v145), some (zi v143)]) (st' := [zi v143, zi y201, zi v143, .inl (some 52)]) (by decide +kernel) (fun k q => by cases q) rfl ?_
                refine y_ic (c := 0) (len := 1) (r := (0, 0, 0, 0)) (by decide +kernel) (by decide) (fun y202 hy202 => ?_)
                refine y_cI (i := .invokevirtual 413) (len := 3) (r := (0, 246, 12, 1826)) (nL := 5) (k := 2) (n := 5) (hs := []) (args := [.inl (some 52), zi v143, zi y201, zi v143, zi y202]) (rest := []) (l0 := [some (.inl (some 52)), some (zi v143), some (zi y201), some (zi v143), some (zi y202)]) (by decide +kernel) (Or.inr (Or.inl ⟨_, rfl⟩)) rfl rfl rfl rfl (Nat.le_of_ble_eq_true rfl) (z52 O193.2.1) rfl (e_puts (a := v143.toInt.toNat) O193.2.1 (by omega) (by omega) (by omega) (by omega) (by omega) (by omega) (by omega) (by omega)) (fun y203 h203 hRy203 => ?_)
                obtain ⟨ly203, uy203, τ203, O203⟩ := hRy203
                rcases Decidable.em (y203.toInt = 0) with q204 | q204
                ·
                  refine y_iT (c := .eq) (off := 7) (pc' := 193) (len := 3) (r := (0, 0, 0, 0)) (by decide +kernel) (acmpT (c := .eq) (by show _ = _; omega)) (by decide +kernel) ?_
                  refine y_ic (c := 0) (len := 1) (r := (0, 0, 0, 0)) (by decide +kernel) (by decide) (fun y205 hy205 => ?_)
                  refine y_rI (len := 1) (r := (0, 0, 0, 0)) (nL := 7) (k := 2) (n9 := 2) (hs := []) (by decide +kernel) rfl (zfit_b (by omega) (by omega)).2 ?_
                  have hv206 := (O193.2.2 52 52 39 (t52 hg) (show 52 ≠ 383 ∧ 52 ≠ 384 ∧ 52 ≠ 385 by omega)).trans hp
                  have hv207 := (O203.2.2 52 52 39 (t52 O193.2.1) (show 52 ≠ 383 ∧ 52 ≠ 384 ∧ 52 ≠ 385 by omega)).trans hv206
                  exact ⟨by omega, by omega, ⟨_, ⟨(aup_trans O193.1 O203.1), O203.2.1, fun k T j hk (hC : k ≠ 383 ∧ k ≠ 384 ∧ k ≠ 385 ∧ (k ≠ 52 ∨ j ≠ 39)) => ((O203.2.2 k T j (O193.1 _ _ hk) (show k ≠ 383 ∧ k ≠ 384 ∧ k ≠ 385 by omega)).trans (O193.2.2 k T j hk (show k ≠ 383 ∧ k ≠ 384 ∧ k ≠ 385 by omega)))⟩⟩, xp, hv207, by omega, by omega⟩
                ·
                  refine y_iF (c := .eq) (off := 7) (len := 3) (r := (0, 0, 0, 0)) (by decide +kernel) (acmpF (c := .eq) (by show ¬ (_ = _); omega)) ?_
                  refine y_ic (c := 1) (len := 1) (r := (0, 0, 0, 0)) (by decide +kernel) (by decide) (fun y208 hy208 => ?_)
                  refine y_goto (off := 4) (pc' := 194) (len := 3) (r := (0, 0, 0, 0)) (by decide +kernel) (by decide +kernel) ?_
                  refine y_rI (len := 1) (r := (0, 0, 0, 0)) (nL := 7) (k := 2) (n9 := 2) (hs := []) (by decide +kernel) rfl (zfit_b (by omega) (by omega)).2 ?_
                  have hv209 := (O193.2.2 52 52 39 (t52 hg) (show 52 ≠ 383 ∧ 52 ≠ 384 ∧ 52 ≠ 385 by omega)).trans hp
                  have hv210 := (O203.2.2 52 52 39 (t52 O193.2.1) (show 52 ≠ 383 ∧ 52 ≠ 384 ∧ 52 ≠ 385 by omega)).trans hv209
                  exact ⟨by omega, by omega, ⟨_, ⟨(aup_trans O193.1 O203.1), O203.2.1, fun k T j hk (hC : k ≠ 383 ∧ k ≠ 384 ∧ k ≠ 385 ∧ (k ≠ 52 ∨ j ≠ 39)) => ((O203.2.2 k T j (O193.1 _ _ hk) (show k ≠ 383 ∧ k ≠ 384 ∧ k ≠ 385 by omega)).trans (O193.2.2 k T j hk (show k ≠ 383 ∧ k ≠ 384 ∧ k ≠ 385 by omega)))⟩⟩, xp, hv210, by omega, by omega⟩
        ·
          refine y_iF (c := .ne) (off := 5) (len := 3) (r := (0, 0, 0, 0)) (by decide +kernel) (acmpF (c := .ne) (by show _ = _; omega)) ?_
          refine y_ic (c := 1) (len := 1) (r := (0, 0, 0, 0)) (by decide +kernel) (by decide) (fun y211 hy211 => ?_)
          refine y_rI (len := 1) (r := (0, 0, 0, 0)) (nL := 7) (k := 2) (n9 := 2) (hs := []) (by decide +kernel) rfl (zfit_b (by omega) (by omega)).2 ?_
          exact ⟨by omega, by omega, ⟨_, oF_refl hg⟩, xp, hp, by omega, by omega⟩
      ·
        refine y_cF (c := .ne) (off := 7) (len := 3) (r := (0, 0, 0, 0)) (by decide +kernel) (acmpF (c := .ne) (by show _ = _; omega)) ?_
        refine y_ic (c := 1) (len := 1) (r := (0, 0, 0, 0)) (by decide +kernel) (by decide) (fun y212 hy212 => ?_)
        refine y_goto (off := 4) (pc' := 129) (len := 3) (r := (0, 0, 0, 0)) (by decide +kernel) (by decide +kernel) ?_
        refine y_cF (c := .eq) (off := 5) (len := 3) (r := (0, 0, 0, 0)) (by decide +kernel) (acmpF (c := .eq) (by show ¬ (_ = _); omega)) ?_
        refine y_ic (c := 0) (len := 1) (r := (0, 0, 0, 0)) (by decide +kernel) (by decide) (fun y213 hy213 => ?_)
        refine y_rI (len := 1) (r := (0, 0, 0, 0)) (nL := 7) (k := 2) (n9 := 2) (hs := []) (by decide +kernel) rfl (zfit_b (by omega) (by omega)).2 ?_
        exact ⟨by omega, by omega, ⟨_, oF_refl hg⟩, xp, hp, by omega, by omega⟩
    ·
      refine y_iF (c := .ne) (off := 7) (len := 3) (r := (0, 0, 0, 0)) (by decide +kernel) (acmpF (c := .ne) (by show _ = _; omega)) ?_
      refine y_ic (c := 1) (len := 1) (r := (0, 0, 0, 0)) (by decide +kernel) (by decide) (fun y214 hy214 => ?_)
      refine y_goto (off := 4) (pc' := 118) (len := 3) (r := (0, 0, 0, 0)) (by decide +kernel) (by decide +kernel) ?_
      refine y_same (i := .iload_n 3) (len := 1) (r := (0, 0, 0, 0)) (pc' := 119) (ls' := [some (.inl (some 52)), some (zi xk), some (zi y132), some (zi v137), some (zi v143), some (zi v145), none]) (st' := [zi v137, zi y214]) (by decide +kernel) (fun k q => by cases q) rfl ?_
      refine y_same (i := .iload 4) (len := 2) (r := (0, 0, 0, 0)) (pc' := 121) (ls' := [some (.inl (some 52)), some (zi xk), some (zi y132), some (zi v137), some (zi v143), some (zi v145), none]) (st' := [zi v143, zi v137, zi y214]) (by decide +kernel) (fun k q => by cases q) rfl ?_
      rcases Decidable.em (v137.toInt ≠ v143.toInt) with q215 | q215
      ·
        refine y_cT (c := .ne) (off := 7) (pc' := 128) (len := 3) (r := (0, 0, 0, 0)) (by decide +kernel) (acmpT (c := .ne) (by show ¬ (_ = _); omega)) (by decide +kernel) ?_
        refine y_ic (c := 0) (len := 1) (r := (0, 0, 0, 0)) (by decide +kernel) (by decide) (fun y216 hy216 => ?_)
        refine y_cF (c := .eq) (off := 5) (len := 3) (r := (0, 0, 0, 0)) (by decide +kernel) (acmpF (c := .eq) (by show ¬ (_ = _); omega)) ?_
        refine y_ic (c := 0) (len := 1) (r := (0, 0, 0, 0)) (by decide +kernel) (by decide) (fun y217 hy217 => ?_)
        refine y_rI (len := 1) (r := (0, 0, 0, 0)) (nL := 7) (k := 2) (n9 := 2) (hs := []) (by decide +kernel) rfl (zfit_b (by omega) (by omega)).2 ?_
        exact ⟨by omega, by omega, ⟨_, oF_refl hg⟩, xp, hp, by omega, by omega⟩
      ·
        refine y_cF (c := .ne) (off := 7) (len := 3) (r := (0, 0, 0, 0)) (by decide +kernel) (acmpF (c := .ne) (by show _ = _; omega)) ?_
        refine y_ic (c := 1) (len := 1) (r := (0, 0, 0, 0)) (by decide +kernel) (by decide) (fun y218 hy218 => ?_)
        refine y_goto (off := 4) (pc' := 129) (len := 3) (r := (0, 0, 0, 0)) (by decide +kernel) (by decide +kernel) ?_
        refine y_cT (c := .eq) (off := 5) (pc' := 134) (len := 3) (r := (0, 0, 0, 0)) (by decide +kernel) (acmpT (c := .eq) (by show _ = _; omega)) (by decide +kernel) ?_
        refine y_same (i := .iload 5) (len := 2) (r := (0, 0, 0, 0)) (pc' := 136) (ls' := [some (.inl (some 52)), some (zi xk), some (zi y132), some (zi v137), some (zi v143), some (zi v145), none]) (st' := [zi v145]) (by decide +kernel) (fun k q => by cases q) rfl ?_
        rcases Decidable.em (v145.toInt ≠ 0) with q219 | q219
        ·
          refine y_iT (c := .ne) (off := 5) (pc' := 141) (len := 3) (r := (0, 0, 0, 0)) (by decide +kernel) (acmpT (c := .ne) (by show ¬ (_ = _); omega)) (by decide +kernel) ?_
          refine y_same (i := .iload 5) (len := 2) (r := (0, 0, 0, 0)) (pc' := 143) (ls' := [some (.inl (some 52)), some (zi xk), some (zi y132), some (zi v137), some (zi v143), some (zi v145), none]) (st' := [zi v145]) (by decide +kernel) (fun k q => by cases q) rfl ?_
          refine y_ic (c := 1) (len := 1) (r := (0, 0, 0, 0)) (by decide +kernel) (by decide) (fun y220 hy220 => ?_)
          rcases Decidable.em (v145.toInt ≠ y220.toInt) with q221 | q221
          ·
            refine y_cT (c := .ne) (off := 8) (pc' := 152) (len := 3) (r := (0, 0, 0, 0)) (by decide +kernel) (acmpT (c := .ne) (by show ¬ (_ = _); omega)) (by decide +kernel) ?_
            refine y_same (i := .aload_n 0) (len := 1) (r := (0, 0, 0, 0)) (pc' := 153) (ls' := [some (.inl (some 52)), some (zi xk), some (zi y132), some (zi v137), some (zi v143), some (zi v145), none]) (st' := [.inl (some 52)]) (by decide +kernel) (fun k q => by cases q) rfl ?_
            refine y_cI (i := .invokevirtual 417) (len := 3) (r := (0, 247, 12, 1830)) (nL := 1) (k := 1) (n := 1) (hs := []) (args := [.inl (some 52)]) (rest := []) (l0 := [some (.inl (some 52))]) (by decide +kernel) (Or.inr (Or.inl ⟨_, rfl⟩)) rfl rfl rfl rfl (Nat.le_of_ble_eq_true rfl) (z52 hg) rfl (e_comesNew (m := pl) hg hp (by omega) (by omega)) (fun y222 h222 hRy222 => ?_)
            obtain ⟨ey222, τ222, O222, p222⟩ := hRy222
            refine y_same (i := .istore 6) (len := 2) (r := (0, 0, 0, 0)) (pc' := 158) (ls' := [some (.inl (some 52)), some (zi xk), some (zi y132), some (zi v137), some (zi v143), some (zi v145), some (zi y222)]) (st' := []) (by decide +kernel) (fun k q => by cases q) rfl ?_
            refine y_same (i := .aload_n 0) (len := 1) (r := (0, 0, 0, 0)) (pc' := 159) (ls' := [some (.inl (some 52)), some (zi xk), some (zi y132), some (zi v137), some (zi v143), some (zi v145), some (zi y222)]) (st' := [.inl (some 52)]) (by decide +kernel) (fun k q => by cases q) rfl ?_
            refine y_same (i := .iload_n 3) (len := 1) (r := (0, 0, 0, 0)) (pc' := 160) (ls' := [some (.inl (some 52)), some (zi xk), some (zi y132), some (zi v137), some (zi v143), some (zi v145), some (zi y222)]) (st' := [zi v137, .inl (some 52)]) (by decide +kernel) (fun k q => by cases q) rfl ?_
            refine y_ic (c := 0) (len := 1) (r := (0, 0, 0, 0)) (by decide +kernel) (by decide) (fun y223 hy223 => ?_)
            refine y_same (i := .iload 6) (len := 2) (r := (0, 0, 0, 0)) (pc' := 163) (ls' := [some (.inl (some 52)), some (zi xk), some (zi y132), some (zi v137), some (zi v143), some (zi v145), some (zi y222)]) (st' := [zi y222, zi y223, zi v137, .inl (some 52)]) (by decide +kernel) (fun k q => by cases q) rfl ?_
            refine y_ic (c := 0) (len := 1) (r := (0, 0, 0, 0)) (by decide +kernel) (by decide) (fun y224 hy224 => ?_)
            refine y_cI (i := .invokevirtual 413) (len := 3) (r := (0, 246, 12, 1826)) (nL := 5) (k := 2) (n := 5) (hs := []) (args := [.inl (some 52), zi v137, zi y223, zi y222, zi y224]) (rest := []) (l0 := [some (.inl (some 52)), some (zi v137), some (zi y223), some (zi y222), some (zi y224)]) (by decide +kernel) (Or.inr (Or.inl ⟨_, rfl⟩)) rfl rfl rfl rfl (Nat.le_of_ble_eq_true rfl) (z52 O222.2.1) rfl (e_puts (a := v137.toInt.toNat) O222.2.1 (by omega) (by omega) (by omega) (by omega) (by omega) (by omega) (by omega) (by omega)) (fun y225 h225 hRy225 => ?_)
            obtain ⟨ly225, uy225, τ225, O225⟩ := hRy225
            rcases Decidable.em (y225.toInt = 0) with q226 | q226
            ·
              refine y_iT (c := .eq) (off := 26) (pc' := 193) (len := 3) (r := (0, 0, 0, 0)) (by decide +kernel) (acmpT (c := .eq) (by show _ = _; omega)) (by decide +kernel) ?_
              refine y_ic (c := 0) (len := 1) (r := (0, 0, 0, 0)) (by decide +kernel) (by decide) (fun y227 hy227 => ?_)
              refine y_rI (len := 1) (r := (0, 0, 0, 0)) (nL := 7) (k := 2) (n9 := 2) (hs := []) (by decide +kernel) rfl (zfit_b (by omega) (by omega)).2 ?_
              have hv228 := (O225.2.2 52 52 39 (t52 O222.2.1) (show 52 ≠ 383 ∧ 52 ≠ 384 ∧ 52 ≠ 385 by omega)).trans p222
              exact ⟨by omega, by omega, ⟨_, ⟨(aup_trans O222.1 O225.1), O225.2.1, fun k T j hk (hC : k ≠ 383 ∧ k ≠ 384 ∧ k ≠ 385 ∧ (k ≠ 52 ∨ j ≠ 39)) => ((O225.2.2 k T j (O222.1 _ _ hk) (show k ≠ 383 ∧ k ≠ 384 ∧ k ≠ 385 by omega)).trans (O222.2.2 k T j hk (show k ≠ 383 ∧ (k ≠ 52 ∨ j ≠ 39) by omega)))⟩⟩, y222, hv228, by omega, by omega⟩
            ·
              refine y_iF (c := .eq) (off := 26) (len := 3) (r := (0, 0, 0, 0)) (by decide +kernel) (acmpF (c := .eq) (by show ¬ (_ = _); omega)) ?_
              refine y_same (i := .iload 5) (len := 2) (r := (0, 0, 0, 0)) (pc' := 172) (ls' := [some (.inl (some 52)), some (zi xk), some (zi y132), some (zi v137), some (zi v143), some (zi v145), some (zi y222)]) (st' := [zi v145]) (by decide +kernel) (fun k q => by cases q) rfl ?_
              refine y_ic (c := 1) (len := 1) (r := (0, 0, 0, 0)) (by decide +kernel) (by decide) (fun y229 hy229 => ?_)
              rcases Decidable.em (v145.toInt = y229.toInt) with q230 | q230
              ·
                refine y_cT (c := .eq) (off := 16) (pc' := 189) (len := 3) (r := (0, 0, 0, 0)) (by decide +kernel) (acmpT (c := .eq) (by show _ = _; omega)) (by decide +kernel) ?_
                refine y_ic (c := 1) (len := 1) (r := (0, 0, 0, 0)) (by decide +kernel) (by decide) (fun y231 hy231 => ?_)
                refine y_goto (off := 4) (pc' := 194) (len := 3) (r := (0, 0, 0, 0)) (by decide +kernel) (by decide +kernel) ?_
                refine y_rI (len := 1) (r := (0, 0, 0, 0)) (nL := 7) (k := 2) (n9 := 2) (hs := []) (by decide +kernel) rfl (zfit_b (by omega) (by omega)).2 ?_
                have hv232 := (O225.2.2 52 52 39 (t52 O222.2.1) (show 52 ≠ 383 ∧ 52 ≠ 384 ∧ 52 ≠ 385 by omega)).trans p222
                exact ⟨by omega, by omega, ⟨_, ⟨(aup_trans O222.1 O225.1), O225.2.1, fun k T j hk (hC : k ≠ 383 ∧ k ≠ 384 ∧ k ≠ 385 ∧ (k ≠ 52 ∨ j ≠ 39)) => ((O225.2.2 k T j (O222.1 _ _ hk) (show k ≠ 383 ∧ k ≠ 384 ∧ k ≠ 385 by omega)).trans (O222.2.2 k T j hk (show k ≠ 383 ∧ (k ≠ 52 ∨ j ≠ 39) by omega)))⟩⟩, y222, hv232, by omega, by omega⟩
              ·
                refine y_cF (c := .eq) (off := 16) (len := 3) (r := (0, 0, 0, 0)) (by decide +kernel) (acmpF (c := .eq) (by show ¬ (_ = _); omega)) ?_
                refine y_same (i := .aload_n 0) (len := 1) (r := (0, 0, 0, 0)) (pc' := 177) (ls' := [some (.inl (some 52)), some (zi xk), some (zi y132), some (zi v137), some (zi v143), some (zi v145), some (zi y222)]) (st' := [.inl (some 52)]) (by decide +kernel) (fun k q => by cases q) rfl ?_
                refine y_same (i := .iload 6) (len := 2) (r := (0, 0, 0, 0)) (pc' := 179) (ls' := [some (.inl (some 52)), some (zi xk), some (zi y132), some (zi v137), some (zi v143), some (zi v145), some (zi y222)]) (st' := [zi y222, .inl (some 52)]) (by decide +kernel) (fun k q => by cases q) rfl ?_
                refine y_ic (c := 0) (len := 1) (r := (0, 0, 0, 0)) (by decide +kernel) (by decide) (fun y233 hy233 => ?_)
                refine y_same (i := .iload 4) (len := 2) (r := (0, 0, 0, 0)) (pc' := 182) (ls' := [some (.inl (some 52)), some (zi xk), some (zi y132), some (zi v137), some (zi v143), some (zi v145), some (zi y222)]) (st' := [zi v143, zi y233, zi y222, .inl (some 52)]) (by decide +kernel) (fun k q => by cases q) rfl ?_
                refine y_ic (c := 0) (len := 1) (r := (0, 0, 0, 0)) (by decide +kernel) (by decide) (fun y234 hy234 => ?_)
                refine y_cI (i := .invokevirtual 413) (len := 3) (r := (0, 246, 12, 1826)) (nL := 5) (k := 2) (n := 5) (hs := []) (args := [.inl (some 52), zi y222, zi y233, zi v143, zi y234]) (rest := []) (l0 := [some (.inl (some 52)), some (zi y222), some (zi y233), some (zi v143), some (zi y234)]) (by decide +kernel) (Or.inr (Or.inl ⟨_, rfl⟩)) rfl rfl rfl rfl (Nat.le_of_ble_eq_true rfl) (z52 O225.2.1) rfl (e_puts (a := (pl + 1)) O225.2.1 (by omega) (by omega) (by omega) (by omega) (by omega) (by omega) (by omega) (by omega)) (fun y235 h235 hRy235 => ?_)
                obtain ⟨ly235, uy235, τ235, O235⟩ := hRy235
                rcases Decidable.em (y235.toInt = 0) with q236 | q236
                ·
                  refine y_iT (c := .eq) (off := 7) (pc' := 193) (len := 3) (r := (0, 0, 0, 0)) (by decide +kernel) (acmpT (c := .eq) (by show _ = _; omega)) (by decide +kernel) ?_
                  refine y_ic (c := 0) (len := 1) (r := (0, 0, 0, 0)) (by decide +kernel) (by decide) (fun y237 hy237 => ?_)
                  refine y_rI (len := 1) (r := (0, 0, 0, 0)) (nL := 7) (k := 2) (n9 := 2) (hs := []) (by decide +kernel) rfl (zfit_b (by omega) (by omega)).2 ?_
                  have hv238 := (O225.2.2 52 52 39 (t52 O222.2.1) (show 52 ≠ 383 ∧ 52 ≠ 384 ∧ 52 ≠ 385 by omega)).trans p222
                  have hv239 := (O235.2.2 52 52 39 (t52 O225.2.1) (show 52 ≠ 383 ∧ 52 ≠ 384 ∧ 52 ≠ 385 by omega)).trans hv238
                  exact ⟨by omega, by omega, ⟨_, ⟨(aup_trans (aup_trans O222.1 O225.1) O235.1), O235.2.1, fun k T j hk (hC : k ≠ 383 ∧ k ≠ 384 ∧ k ≠ 385 ∧ (k ≠ 52 ∨ j ≠ 39)) => ((O235.2.2 k T j (O225.1 _ _ (O222.1 _ _ hk)) (show k ≠ 383 ∧ k ≠ 384 ∧ k ≠ 385 by omega)).trans ((O225.2.2 k T j (O222.1 _ _ hk) (show k ≠ 383 ∧ k ≠ 384 ∧ k ≠ 385 by omega)).trans (O222.2.2 k T j hk (show k ≠ 383 ∧ (k ≠ 52 ∨ j ≠ 39) by omega))))⟩⟩, y222, hv239, by omega, by omega⟩
                ·
                  refine y_iF (c := .eq) (off := 7) (len := 3) (r := (0, 0, 0, 0)) (by decide +kernel) (acmpF (c := .eq) (by show ¬ (_ = _); omega)) ?_
                  refine y_ic (c := 1) (len := 1) (r := (0, 0, 0, 0)) (by decide +kernel) (by decide) (fun y240 hy240 => ?_)
                  refine y_goto (off := 4) (pc' := 194) (len := 3) (r := (0, 0, 0, 0)) (by decide +kernel) (by decide +kernel) ?_
                  refine y_rI (len := 1) (r := (0, 0, 0, 0)) (nL := 7) (k := 2) (n9 := 2) (hs := []) (by decide +kernel) rfl (zfit_b (by omega) (by omega)).2 ?_
                  have hv241 := (O225.2.2 52 52 39 (t52 O222.2.1) (show 52 ≠ 383 ∧ 52 ≠ 384 ∧ 52 ≠ 385 by omega)).trans p222
                  have hv242 := (O235.2.2 52 52 39 (t52 O225.2.1) (show 52 ≠ 383 ∧ 52 ≠ 384 ∧ 52 ≠ 385 by omega)).trans hv241
                  exact ⟨by omega, by omega, ⟨_, ⟨(aup_trans (aup_trans O222.1 O225.1) O235.1), O235.2.1, fun k T j hk (hC : k ≠ 383 ∧ k ≠ 384 ∧ k ≠ 385 ∧ (k ≠ 52 ∨ j ≠ 39)) => ((O235.2.2 k T j (O225.1 _ _ (O222.1 _ _ hk)) (show k ≠ 383 ∧ k ≠ 384 ∧ k ≠ 385 by omega)).trans ((O225.2.2 k T j (O222.1 _ _ hk) (show k ≠ 383 ∧ k ≠ 384 ∧ k ≠ 385 by omega)).trans (O222.2.2 k T j hk (show k ≠ 383 ∧ (k ≠ 52 ∨ j ≠ 39) by omega))))⟩⟩, y222, hv242, by omega, by omega⟩
          ·
            refine y_cF (c := .ne) (off := 8) (len := 3) (r := (0, 0, 0, 0)) (by decide +kernel) (acmpF (c := .ne) (by show _ = _; omega)) ?_
            refine y_same (i := .iload 4) (len := 2) (r := (0, 0, 0, 0)) (pc' := 149) (ls' := [some (.inl (some 52)), some (zi xk), some (zi y132), some (zi v137), some (zi v143), some (zi v145), none]) (st' := [zi v143]) (by decide +kernel) (fun k q => by cases q) rfl ?_
            refine y_goto (off := 7) (pc' := 156) (len := 3) (r := (0, 0, 0, 0)) (by decide +kernel) (by decide +kernel) ?_
            refine y_same (i := .istore 6) (len := 2) (r := (0, 0, 0, 0)) (pc' := 158) (ls' := [some (.inl (some 52)), some (zi xk), some (zi y132), some (zi v137), some (zi v143), some (zi v145), some (zi v143)]) (st' := []) (by decide +kernel) (fun k q => by cases q) rfl ?_
            refine y_same (i := .aload_n 0) (len := 1) (r := (0, 0, 0, 0)) (pc' := 159) (ls' := [some (.inl (some 52)), some (zi xk), some (zi y132), some (zi v137), some (zi v143), some (zi v145), some (zi v143)]) (st' := [.inl (some 52)]) (by decide +kernel) (fun k q => by cases q) rfl ?_
            refine y_same (i := .iload_n 3) (len := 1) (r := (0, 0, 0, 0)) (pc' := 160) (ls' := [some (.inl (some 52)), some (zi xk), some (zi y132), some (zi v137), some (zi v143), some (zi v145), some (zi v143)]) (st' := [zi v137, .inl (some 52)]) (by decide +kernel) (fun k q => by cases q) rfl ?_
            refine y_ic (c := 0) (len := 1) (r := (0, 0, 0, 0)) (by decide +kernel) (by decide) (fun y243 hy243 => ?_)
            refine y_same (i := .iload 6) (len := 2) (r := (0, 0, 0, 0)) (pc' := 163) (ls' := [some (.inl (some 52)), some (zi xk), some (zi y132), some (zi v137), some (zi v143), some (zi v145), some (zi v143)]) (st' := [zi v143, zi y243, zi v137, .inl (some 52)]) (by decide +kernel) (fun k q => by cases q) rfl ?_
            refine y_ic (c := 0) (len := 1) (r := (0, 0, 0, 0)) (by decide +kernel) (by decide) (fun y244 hy244 => ?_)
            refine y_cI (i := .invokevirtual 413) (len := 3) (r := (0, 246, 12, 1826)) (nL := 5) (k := 2) (n := 5) (hs := []) (args := [.inl (some 52), zi v137, zi y243, zi v143, zi y244]) (rest := []) (l0 := [some (.inl (some 52)), some (zi v137), some (zi y243), some (zi v143), some (zi y244)]) (by decide +kernel) (Or.inr (Or.inl ⟨_, rfl⟩)) rfl rfl rfl rfl (Nat.le_of_ble_eq_true rfl) (z52 hg) rfl (e_puts (a := v137.toInt.toNat) hg (by omega) (by omega) (by omega) (by omega) (by omega) (by omega) (by omega) (by omega)) (fun y245 h245 hRy245 => ?_)
            obtain ⟨ly245, uy245, τ245, O245⟩ := hRy245
            rcases Decidable.em (y245.toInt = 0) with q246 | q246
            ·
              refine y_iT (c := .eq) (off := 26) (pc' := 193) (len := 3) (r := (0, 0, 0, 0)) (by decide +kernel) (acmpT (c := .eq) (by show _ = _; omega)) (by decide +kernel) ?_
              refine y_ic (c := 0) (len := 1) (r := (0, 0, 0, 0)) (by decide +kernel) (by decide) (fun y247 hy247 => ?_)
              refine y_rI (len := 1) (r := (0, 0, 0, 0)) (nL := 7) (k := 2) (n9 := 2) (hs := []) (by decide +kernel) rfl (zfit_b (by omega) (by omega)).2 ?_
              have hv248 := (O245.2.2 52 52 39 (t52 hg) (show 52 ≠ 383 ∧ 52 ≠ 384 ∧ 52 ≠ 385 by omega)).trans hp
              exact ⟨by omega, by omega, ⟨_, ⟨O245.1, O245.2.1, fun k T j hk (hC : k ≠ 383 ∧ k ≠ 384 ∧ k ≠ 385 ∧ (k ≠ 52 ∨ j ≠ 39)) => (O245.2.2 k T j hk (show k ≠ 383 ∧ k ≠ 384 ∧ k ≠ 385 by omega))⟩⟩, xp, hv248, by omega, by omega⟩
            ·
              refine y_iF (c := .eq) (off := 26) (len := 3) (r := (0, 0, 0, 0)) (by decide +kernel) (acmpF (c := .eq) (by show ¬ (_ = _); omega)) ?_
              refine y_same (i := .iload 5) (len := 2) (r := (0, 0, 0, 0)) (pc' := 172) (ls' := [some (.inl (some 52)), some (zi xk), some (zi y132), some (zi v137), some (zi v143), some (zi v145), some (zi v143)]) (st' := [zi v145]) (by decide +kernel) (fun k q => by cases q) rfl ?_
              refine y_ic (c := 1) (len := 1) (r := (0, 0, 0, 0)) (by decide +kernel) (by decide) (fun y249 hy249 => ?_)
              rcases Decidable.em (v145.toInt = y249.toInt) with q250 | q250
              ·
                refine y_cT (c := .eq) (off := 16) (pc' := 189) (len := 3) (r := (0, 0, 0, 0)) (by decide +kernel) (acmpT (c := .eq) (by show _ = _; omega)) (by decide +kernel) ?_
                refine y_ic (c := 1) (len := 1) (r := (0, 0, 0, 0)) (by decide +kernel) (by decide) (fun y251 hy251 => ?_)
                refine y_goto (off := 4) (pc' := 194) (len := 3) (r := (0, 0, 0, 0)) (by decide +kernel) (by decide +kernel) ?_
                refine y_rI (len := 1) (r := (0, 0, 0, 0)) (nL := 7) (k := 2) (n9 := 2) (hs := []) (by decide +kernel) rfl (zfit_b (by omega) (by omega)).2 ?_
                have hv252 := (O245.2.2 52 52 39 (t52 hg) (show 52 ≠ 383 ∧ 52 ≠ 384 ∧ 52 ≠ 385 by omega)).trans hp
                exact ⟨by omega, by omega, ⟨_, ⟨O245.1, O245.2.1, fun k T j hk (hC : k ≠ 383 ∧ k ≠ 384 ∧ k ≠ 385 ∧ (k ≠ 52 ∨ j ≠ 39)) => (O245.2.2 k T j hk (show k ≠ 383 ∧ k ≠ 384 ∧ k ≠ 385 by omega))⟩⟩, xp, hv252, by omega, by omega⟩
              ·
                refine y_cF (c := .eq) (off := 16) (len := 3) (r := (0, 0, 0, 0)) (by decide +kernel) (acmpF (c := .eq) (by show ¬ (_ = _); omega)) ?_
                refine y_same (i := .aload_n 0) (len := 1) (r := (0, 0, 0, 0)) (pc' := 177) (ls' := [some (.inl (some 52)), some (zi xk), some (zi y132), some (zi v137), some (zi v143), some (zi v145), some (zi v143)]) (st' := [.inl (some 52)]) (by decide +kernel) (fun k q => by cases q) rfl ?_
                refine y_same (i := .iload 6) (len := 2) (r := (0, 0, 0, 0)) (pc' := 179) (ls' := [some (.inl (some 52)), some (zi xk), some (zi y132), some (zi v137), some (zi v143), some (zi v145), some (zi v143)]) (st' := [zi v143, .inl (some 52)]) (by decide +kernel) (fun k q => by cases q) rfl ?_
                refine y_ic (c := 0) (len := 1) (r := (0, 0, 0, 0)) (by decide +kernel) (by decide) (fun y253 hy253 => ?_)
                refine y_same (i := .iload 4) (len := 2) (r := (0, 0, 0, 0)) (pc' := 182) (ls' := [some (.inl (some 52)), some (zi xk), some (zi y132), some (zi v137), some (zi v143), some (zi v145), some (zi v143)]) (st' := [zi v143, zi y253, zi v143, .inl (some 52)]) (by decide +kernel) (fun k q => by cases q) rfl ?_
                refine y_ic (c := 0) (len := 1) (r := (0, 0, 0, 0)) (by decide +kernel) (by decide) (fun y254 hy254 => ?_)
                refine y_cI (i := .invokevirtual 413) (len := 3) (r := (0, 246, 12, 1826)) (nL := 5) (k := 2) (n := 5) (hs := []) (args := [.inl (some 52), zi v143, zi y253, zi v143, zi y254]) (rest := []) (l0 := [some (.inl (some 52)), some (zi v143), some (zi y253), some (zi v143), some (zi y254)]) (by decide +kernel) (Or.inr (Or.inl ⟨_, rfl⟩)) rfl rfl rfl rfl (Nat.le_of_ble_eq_true rfl) (z52 O245.2.1) rfl (e_puts (a := v143.toInt.toNat) O245.2.1 (by omega) (by omega) (by omega) (by omega) (by omega) (by omega) (by omega) (by omega)) (fun y255 h255 hRy255 => ?_)
                obtain ⟨ly255, uy255, τ255, O255⟩ := hRy255
                rcases Decidable.em (y255.toInt = 0) with q256 | q256
                ·
                  refine y_iT (c := .eq) (off := 7) (pc' := 193) (len := 3) (r := (0, 0, 0, 0)) (by decide +kernel) (acmpT (c := .eq) (by show _ = _; omega)) (by decide +kernel) ?_
                  refine y_ic (c := 0) (len := 1) (r := (0, 0, 0, 0)) (by decide +kernel) (by decide) (fun y257 hy257 => ?_)
                  refine y_rI (len := 1) (r := (0, 0, 0, 0)) (nL := 7) (k := 2) (n9 := 2) (hs := []) (by decide +kernel) rfl (zfit_b (by omega) (by omega)).2 ?_
                  have hv258 := (O245.2.2 52 52 39 (t52 hg) (show 52 ≠ 383 ∧ 52 ≠ 384 ∧ 52 ≠ 385 by omega)).trans hp
                  have hv259 := (O255.2.2 52 52 39 (t52 O245.2.1) (show 52 ≠ 383 ∧ 52 ≠ 384 ∧ 52 ≠ 385 by omega)).trans hv258
                  exact ⟨by omega, by omega, ⟨_, ⟨(aup_trans O245.1 O255.1), O255.2.1, fun k T j hk (hC : k ≠ 383 ∧ k ≠ 384 ∧ k ≠ 385 ∧ (k ≠ 52 ∨ j ≠ 39)) => ((O255.2.2 k T j (O245.1 _ _ hk) (show k ≠ 383 ∧ k ≠ 384 ∧ k ≠ 385 by omega)).trans (O245.2.2 k T j hk (show k ≠ 383 ∧ k ≠ 384 ∧ k ≠ 385 by omega)))⟩⟩, xp, hv259, by omega, by omega⟩
                ·
                  refine y_iF (c := .eq) (off := 7) (len := 3) (r := (0, 0, 0, 0)) (by decide +kernel) (acmpF (c := .eq) (by show ¬ (_ = _); omega)) ?_
                  refine y_ic (c := 1) (len := 1) (r := (0, 0, 0, 0)) (by decide +kernel) (by decide) (fun y260 hy260 => ?_)
                  refine y_goto (off := 4) (pc' := 194) (len := 3) (r := (0, 0, 0, 0)) (by decide +kernel) (by decide +kernel) ?_
                  refine y_rI (len := 1) (r := (0, 0, 0, 0)) (nL := 7) (k := 2) (n9 := 2) (hs := []) (by decide +kernel) rfl (zfit_b (by omega) (by omega)).2 ?_
                  have hv261 := (O245.2.2 52 52 39 (t52 hg) (show 52 ≠ 383 ∧ 52 ≠ 384 ∧ 52 ≠ 385 by omega)).trans hp
                  have hv262 := (O255.2.2 52 52 39 (t52 O245.2.1) (show 52 ≠ 383 ∧ 52 ≠ 384 ∧ 52 ≠ 385 by omega)).trans hv261
                  exact ⟨by omega, by omega, ⟨_, ⟨(aup_trans O245.1 O255.1), O255.2.1, fun k T j hk (hC : k ≠ 383 ∧ k ≠ 384 ∧ k ≠ 385 ∧ (k ≠ 52 ∨ j ≠ 39)) => ((O255.2.2 k T j (O245.1 _ _ hk) (show k ≠ 383 ∧ k ≠ 384 ∧ k ≠ 385 by omega)).trans (O245.2.2 k T j hk (show k ≠ 383 ∧ k ≠ 384 ∧ k ≠ 385 by omega)))⟩⟩, xp, hv262, by omega, by omega⟩
        ·
          refine y_iF (c := .ne) (off := 5) (len := 3) (r := (0, 0, 0, 0)) (by decide +kernel) (acmpF (c := .ne) (by show _ = _; omega)) ?_
          refine y_ic (c := 1) (len := 1) (r := (0, 0, 0, 0)) (by decide +kernel) (by decide) (fun y263 hy263 => ?_)
          refine y_rI (len := 1) (r := (0, 0, 0, 0)) (nL := 7) (k := 2) (n9 := 2) (hs := []) (by decide +kernel) rfl (zfit_b (by omega) (by omega)).2 ?_
          exact ⟨by omega, by omega, ⟨_, oF_refl hg⟩, xp, hp, by omega, by omega⟩
  ·
    refine y_sw (dflt := 146) (lo := 0) (hi := 2) (offs := #[27, 37, 59]) (off := 146) (pc' := 195) (len := 27) (r := (0, 0, 0, 0)) (by decide +kernel) (zswO (by omega)) (by decide +kernel) ?_
    refine y_same (i := .iload 5) (len := 2) (r := (0, 0, 0, 0)) (pc' := 197) (ls' := [some (.inl (some 52)), some (zi xk), some (zi y132), some (zi v137), some (zi v143), some (zi v145), none]) (st' := [zi v145]) (by decide +kernel) (fun k q => by cases q) rfl ?_
    rcases Decidable.em (v145.toInt ≠ 0) with q264 | q264
    ·
      refine y_iT (c := .ne) (off := 7) (pc' := 204) (len := 3) (r := (0, 0, 0, 0)) (by decide +kernel) (acmpT (c := .ne) (by show ¬ (_ = _); omega)) (by decide +kernel) ?_
      refine y_ic (c := 0) (len := 1) (r := (0, 0, 0, 0)) (by decide +kernel) (by decide) (fun y265 hy265 => ?_)
      refine y_same (i := .iload_n 3) (len := 1) (r := (0, 0, 0, 0)) (pc' := 206) (ls' := [some (.inl (some 52)), some (zi xk), some (zi y132), some (zi v137), some (zi v143), some (zi v145), none]) (st' := [zi v137, zi y265]) (by decide +kernel) (fun k q => by cases q) rfl ?_
      rcases Decidable.em (v137.toInt ≠ 0) with q266 | q266
      ·
        refine y_iT (c := .ne) (off := 7) (pc' := 213) (len := 3) (r := (0, 0, 0, 0)) (by decide +kernel) (acmpT (c := .ne) (by show ¬ (_ = _); omega)) (by decide +kernel) ?_
        refine y_ic (c := 0) (len := 1) (r := (0, 0, 0, 0)) (by decide +kernel) (by decide) (fun y267 hy267 => ?_)
        refine y_cT (c := .eq) (off := 5) (pc' := 219) (len := 3) (r := (0, 0, 0, 0)) (by decide +kernel) (acmpT (c := .eq) (by show _ = _; omega)) (by decide +kernel) ?_
        refine y_same (i := .iload 5) (len := 2) (r := (0, 0, 0, 0)) (pc' := 221) (ls' := [some (.inl (some 52)), some (zi xk), some (zi y132), some (zi v137), some (zi v143), some (zi v145), none]) (st' := [zi v145]) (by decide +kernel) (fun k q => by cases q) rfl ?_
        rcases Decidable.em (v145.toInt ≠ 0) with q268 | q268
        ·
          refine y_iT (c := .ne) (off := 5) (pc' := 226) (len := 3) (r := (0, 0, 0, 0)) (by decide +kernel) (acmpT (c := .ne) (by show ¬ (_ = _); omega)) (by decide +kernel) ?_
          refine y_same (i := .iload 5) (len := 2) (r := (0, 0, 0, 0)) (pc' := 228) (ls' := [some (.inl (some 52)), some (zi xk), some (zi y132), some (zi v137), some (zi v143), some (zi v145), none]) (st' := [zi v145]) (by decide +kernel) (fun k q => by cases q) rfl ?_
          refine y_ic (c := 1) (len := 1) (r := (0, 0, 0, 0)) (by decide +kernel) (by decide) (fun y269 hy269 => ?_)
          rcases Decidable.em (v145.toInt ≠ y269.toInt) with q270 | q270
          ·
            refine y_cT (c := .ne) (off := 7) (pc' := 236) (len := 3) (r := (0, 0, 0, 0)) (by decide +kernel) (acmpT (c := .ne) (by show ¬ (_ = _); omega)) (by decide +kernel) ?_
            refine y_same (i := .aload_n 0) (len := 1) (r := (0, 0, 0, 0)) (pc' := 237) (ls' := [some (.inl (some 52)), some (zi xk), some (zi y132), some (zi v137), some (zi v143), some (zi v145), none]) (st' := [.inl (some 52)]) (by decide +kernel) (fun k q => by cases q) rfl ?_
            refine y_cI (i := .invokevirtual 417) (len := 3) (r := (0, 247, 12, 1830)) (nL := 1) (k := 1) (n := 1) (hs := []) (args := [.inl (some 52)]) (rest := []) (l0 := [some (.inl (some 52))]) (by decide +kernel) (Or.inr (Or.inl ⟨_, rfl⟩)) rfl rfl rfl rfl (Nat.le_of_ble_eq_true rfl) (z52 hg) rfl (e_comesNew (m := pl) hg hp (by omega) (by omega)) (fun y271 h271 hRy271 => ?_)
            obtain ⟨ey271, τ271, O271, p271⟩ := hRy271
            refine y_same (i := .istore 6) (len := 2) (r := (0, 0, 0, 0)) (pc' := 242) (ls' := [some (.inl (some 52)), some (zi xk), some (zi y132), some (zi v137), some (zi v143), some (zi v145), some (zi y271)]) (st' := []) (by decide +kernel) (fun k q => by cases q) rfl ?_
            refine y_same (i := .aload_n 0) (len := 1) (r := (0, 0, 0, 0)) (pc' := 243) (ls' := [some (.inl (some 52)), some (zi xk), some (zi y132), some (zi v137), some (zi v143), some (zi v145), some (zi y271)]) (st' := [.inl (some 52)]) (by decide +kernel) (fun k q => by cases q) rfl ?_
            refine y_same (i := .iload_n 3) (len := 1) (r := (0, 0, 0, 0)) (pc' := 244) (ls' := [some (.inl (some 52)), some (zi xk), some (zi y132), some (zi v137), some (zi v143), some (zi v145), some (zi y271)]) (st' := [zi v137, .inl (some 52)]) (by decide +kernel) (fun k q => by cases q) rfl ?_
            refine y_ic (c := 1) (len := 1) (r := (0, 0, 0, 0)) (by decide +kernel) (by decide) (fun y272 hy272 => ?_)
            refine y_same (i := .iload 5) (len := 2) (r := (0, 0, 0, 0)) (pc' := 247) (ls' := [some (.inl (some 52)), some (zi xk), some (zi y132), some (zi v137), some (zi v143), some (zi v145), some (zi y271)]) (st' := [zi v145, zi y272, zi v137, .inl (some 52)]) (by decide +kernel) (fun k q => by cases q) rfl ?_
            refine y_ic (c := 2) (len := 1) (r := (0, 0, 0, 0)) (by decide +kernel) (by decide) (fun y273 hy273 => ?_)
            rcases Decidable.em (v145.toInt ≠ y273.toInt) with q274 | q274
            ·
              refine y_cT (c := .ne) (off := 8) (pc' := 256) (len := 3) (r := (0, 0, 0, 0)) (by decide +kernel) (acmpT (c := .ne) (by show ¬ (_ = _); omega)) (by decide +kernel) ?_
              refine y_ic (c := 0) (len := 1) (r := (0, 0, 0, 0)) (by decide +kernel) (by decide) (fun y275 hy275 => ?_)
              refine y_same (i := .iload 5) (len := 2) (r := (0, 0, 0, 0)) (pc' := 259) (ls' := [some (.inl (some 52)), some (zi xk), some (zi y132), some (zi v137), some (zi v143), some (zi v145), some (zi y271)]) (st' := [zi v145, zi y275, zi y272, zi v137, .inl (some 52)]) (by decide +kernel) (fun k q => by cases q) rfl ?_
              refine y_ic (c := 3) (len := 1) (r := (0, 0, 0, 0)) (by decide +kernel) (by decide) (fun y276 hy276 => ?_)
              rcases Decidable.em (v145.toInt ≠ y276.toInt) with q277 | q277
              ·
                refine y_cT (c := .ne) (off := 8) (pc' := 268) (len := 3) (r := (0, 0, 0, 0)) (by decide +kernel) (acmpT (c := .ne) (by show ¬ (_ = _); omega)) (by decide +kernel) ?_
                refine y_ic (c := 0) (len := 1) (r := (0, 0, 0, 0)) (by decide +kernel) (by decide) (fun y278 hy278 => ?_)
                refine y_cI (i := .invokevirtual 413) (len := 3) (r := (0, 246, 12, 1826)) (nL := 5) (k := 2) (n := 5) (hs := []) (args := [.inl (some 52), zi v137, zi y272, zi y275, zi y278]) (rest := []) (l0 := [some (.inl (some 52)), some (zi v137), some (zi y272), some (zi y275), some (zi y278)]) (by decide +kernel) (Or.inr (Or.inl ⟨_, rfl⟩)) rfl rfl rfl rfl (Nat.le_of_ble_eq_true rfl) (z52 O271.2.1) rfl (e_puts (a := v137.toInt.toNat) O271.2.1 (by omega) (by omega) (by omega) (by omega) (by omega) (by omega) (by omega) (by omega)) (fun y279 h279 hRy279 => ?_)
                obtain ⟨ly279, uy279, τ279, O279⟩ := hRy279
                rcases Decidable.em (y279.toInt = 0) with q280 | q280
                ·
                  refine y_iT (c := .eq) (off := 25) (pc' := 297) (len := 3) (r := (0, 0, 0, 0)) (by decide +kernel) (acmpT (c := .eq) (by show _ = _; omega)) (by decide +kernel) ?_
                  refine y_ic (c := 0) (len := 1) (r := (0, 0, 0, 0)) (by decide +kernel) (by decide) (fun y281 hy281 => ?_)
                  refine y_rI (len := 1) (r := (0, 0, 0, 0)) (nL := 7) (k := 2) (n9 := 2) (hs := []) (by decide +kernel) rfl (zfit_b (by omega) (by omega)).2 ?_
                  have hv282 := (O279.2.2 52 52 39 (t52 O271.2.1) (show 52 ≠ 383 ∧ 52 ≠ 384 ∧ 52 ≠ 385 by omega)).trans p271
                  exact ⟨by omega, by omega, ⟨_, ⟨(aup_trans O271.1 O279.1), O279.2.1, fun k T j hk (hC : k ≠ 383 ∧ k ≠ 384 ∧ k ≠ 385 ∧ (k ≠ 52 ∨ j ≠ 39)) => ((O279.2.2 k T j (O271.1 _ _ hk) (show k ≠ 383 ∧ k ≠ 384 ∧ k ≠ 385 by omega)).trans (O271.2.2 k T j hk (show k ≠ 383 ∧ (k ≠ 52 ∨ j ≠ 39) by omega)))⟩⟩, y271, hv282, by omega, by omega⟩
                ·
                  refine y_iF (c := .eq) (off := 25) (len := 3) (r := (0, 0, 0, 0)) (by decide +kernel) (acmpF (c := .eq) (by show ¬ (_ = _); omega)) ?_
                  refine y_same (i := .iload 5) (len := 2) (r := (0, 0, 0, 0)) (pc' := 277) (ls' := [some (.inl (some 52)), some (zi xk), some (zi y132), some (zi v137), some (zi v143), some (zi v145), some (zi y271)]) (st' := [zi v145]) (by decide +kernel) (fun k q => by cases q) rfl ?_
                  refine y_ic (c := 1) (len := 1) (r := (0, 0, 0, 0)) (by decide +kernel) (by decide) (fun y283 hy283 => ?_)
                  rcases Decidable.em (v145.toInt = y283.toInt) with q284 | q284
                  ·
                    refine y_cT (c := .eq) (off := 15) (pc' := 293) (len := 3) (r := (0, 0, 0, 0)) (by decide +kernel) (acmpT (c := .eq) (by show _ = _; omega)) (by decide +kernel) ?_
                    refine y_ic (c := 1) (len := 1) (r := (0, 0, 0, 0)) (by decide +kernel) (by decide) (fun y285 hy285 => ?_)
                    refine y_goto (off := 4) (pc' := 298) (len := 3) (r := (0, 0, 0, 0)) (by decide +kernel) (by decide +kernel) ?_
                    refine y_rI (len := 1) (r := (0, 0, 0, 0)) (nL := 7) (k := 2) (n9 := 2) (hs := []) (by decide +kernel) rfl (zfit_b (by omega) (by omega)).2 ?_
                    have hv286 := (O279.2.2 52 52 39 (t52 O271.2.1) (show 52 ≠ 383 ∧ 52 ≠ 384 ∧ 52 ≠ 385 by omega)).trans p271
                    exact ⟨by omega, by omega, ⟨_, ⟨(aup_trans O271.1 O279.1), O279.2.1, fun k T j hk (hC : k ≠ 383 ∧ k ≠ 384 ∧ k ≠ 385 ∧ (k ≠ 52 ∨ j ≠ 39)) => ((O279.2.2 k T j (O271.1 _ _ hk) (show k ≠ 383 ∧ k ≠ 384 ∧ k ≠ 385 by omega)).trans (O271.2.2 k T j hk (show k ≠ 383 ∧ (k ≠ 52 ∨ j ≠ 39) by omega)))⟩⟩, y271, hv286, by omega, by omega⟩
                  ·
                    refine y_cF (c := .eq) (off := 15) (len := 3) (r := (0, 0, 0, 0)) (by decide +kernel) (acmpF (c := .eq) (by show ¬ (_ = _); omega)) ?_
                    refine y_same (i := .aload_n 0) (len := 1) (r := (0, 0, 0, 0)) (pc' := 282) (ls' := [some (.inl (some 52)), some (zi xk), some (zi y132), some (zi v137), some (zi v143), some (zi v145), some (zi y271)]) (st' := [.inl (some 52)]) (by decide +kernel) (fun k q => by cases q) rfl ?_
                    refine y_same (i := .iload 6) (len := 2) (r := (0, 0, 0, 0)) (pc' := 284) (ls' := [some (.inl (some 52)), some (zi xk), some (zi y132), some (zi v137), some (zi v143), some (zi v145), some (zi y271)]) (st' := [zi y271, .inl (some 52)]) (by decide +kernel) (fun k q => by cases q) rfl ?_
                    refine y_ic (c := 1) (len := 1) (r := (0, 0, 0, 0)) (by decide +kernel) (by decide) (fun y287 hy287 => ?_)
                    refine y_ic (c := 0) (len := 1) (r := (0, 0, 0, 0)) (by decide +kernel) (by decide) (fun y288 hy288 => ?_)
                    refine y_ic (c := 0) (len := 1) (r := (0, 0, 0, 0)) (by decide +kernel) (by decide) (fun y289 hy289 => ?_)
                    refine y_cI (i := .invokevirtual 413) (len := 3) (r := (0, 246, 12, 1826)) (nL := 5) (k := 2) (n := 5) (hs := []) (args := [.inl (some 52), zi y271, zi y287, zi y288, zi y289]) (rest := []) (l0 := [some (.inl (some 52)), some (zi y271), some (zi y287), some (zi y288), some (zi y289)]) (by decide +kernel) (Or.inr (Or.inl ⟨_, rfl⟩)) rfl rfl rfl rfl (Nat.le_of_ble_eq_true rfl) (z52 O279.2.1) rfl (e_puts (a := (pl + 1)) O279.2.1 (by omega) (by omega) (by omega) (by omega) (by omega) (by omega) (by omega) (by omega)) (fun y290 h290 hRy290 => ?_)
                    obtain ⟨ly290, uy290, τ290, O290⟩ := hRy290
                    rcases Decidable.em (y290.toInt = 0) with q291 | q291
                    ·
                      refine y_iT (c := .eq) (off := 7) (pc' := 297) (len := 3) (r := (0, 0, 0, 0)) (by decide +kernel) (acmpT (c := .eq) (by show _ = _; omega)) (by decide +kernel) ?_
                      refine y_ic (c := 0) (len := 1) (r := (0, 0, 0, 0)) (by decide +kernel) (by decide) (fun y292 hy292 => ?_)
                      refine y_rI (len := 1) (r := (0, 0, 0, 0)) (nL := 7) (k := 2) (n9 := 2) (hs := []) (by decide +kernel) rfl (zfit_b (by omega) (by omega)).2 ?_
                      have hv293 := (O279.2.2 52 52 39 (t52 O271.2.1) (show 52 ≠ 383 ∧ 52 ≠ 384 ∧ 52 ≠ 385 by omega)).trans p271
                      have hv294 := (O290.2.2 52 52 39 (t52 O279.2.1) (show 52 ≠ 383 ∧ 52 ≠ 384 ∧ 52 ≠ 385 by omega)).trans hv293
                      exact ⟨by omega, by omega, ⟨_, ⟨(aup_trans (aup_trans O271.1 O279.1) O290.1), O290.2.1, fun k T j hk (hC : k ≠ 383 ∧ k ≠ 384 ∧ k ≠ 385 ∧ (k ≠ 52 ∨ j ≠ 39)) => ((O290.2.2 k T j (O279.1 _ _ (O271.1 _ _ hk)) (show k ≠ 383 ∧ k ≠ 384 ∧ k ≠ 385 by omega)).trans ((O279.2.2 k T j (O271.1 _ _ hk) (show k ≠ 383 ∧ k ≠ 384 ∧ k ≠ 385 by omega)).trans (O271.2.2 k T j hk (show k ≠ 383 ∧ (k ≠ 52 ∨ j ≠ 39) by omega))))⟩⟩, y271, hv294, by omega, by omega⟩
                    ·
                      refine y_iF (c := .eq) (off := 7) (len := 3) (r := (0, 0, 0, 0)) (by decide +kernel) (acmpF (c := .eq) (by show ¬ (_ = _); omega)) ?_
                      refine y_ic (c := 1) (len := 1) (r := (0, 0, 0, 0)) (by decide +kernel) (by decide) (fun y295 hy295 => ?_)
                      refine y_goto (off := 4) (pc' := 298) (len := 3) (r := (0, 0, 0, 0)) (by decide +kernel) (by decide +kernel) ?_
                      refine y_rI (len := 1) (r := (0, 0, 0, 0)) (nL := 7) (k := 2) (n9 := 2) (hs := []) (by decide +kernel) rfl (zfit_b (by omega) (by omega)).2 ?_
                      have hv296 := (O279.2.2 52 52 39 (t52 O271.2.1) (show 52 ≠ 383 ∧ 52 ≠ 384 ∧ 52 ≠ 385 by omega)).trans p271
                      have hv297 := (O290.2.2 52 52 39 (t52 O279.2.1) (show 52 ≠ 383 ∧ 52 ≠ 384 ∧ 52 ≠ 385 by omega)).trans hv296
                      exact ⟨by omega, by omega, ⟨_, ⟨(aup_trans (aup_trans O271.1 O279.1) O290.1), O290.2.1, fun k T j hk (hC : k ≠ 383 ∧ k ≠ 384 ∧ k ≠ 385 ∧ (k ≠ 52 ∨ j ≠ 39)) => ((O290.2.2 k T j (O279.1 _ _ (O271.1 _ _ hk)) (show k ≠ 383 ∧ k ≠ 384 ∧ k ≠ 385 by omega)).trans ((O279.2.2 k T j (O271.1 _ _ hk) (show k ≠ 383 ∧ k ≠ 384 ∧ k ≠ 385 by omega)).trans (O271.2.2 k T j hk (show k ≠ 383 ∧ (k ≠ 52 ∨ j ≠ 39) by omega))))⟩⟩, y271, hv297, by omega, by omega⟩
              ·
                refine y_cF (c := .ne) (off := 8) (len := 3) (r := (0, 0, 0, 0)) (by decide +kernel) (acmpF (c := .ne) (by show _ = _; omega)) ?_
                refine y_same (i := .iload 6) (len := 2) (r := (0, 0, 0, 0)) (pc' := 265) (ls' := [some (.inl (some 52)), some (zi xk), some (zi y132), some (zi v137), some (zi v143), some (zi v145), some (zi y271)]) (st' := [zi y271, zi y275, zi y272, zi v137, .inl (some 52)]) (by decide +kernel) (fun k q => by cases q) rfl ?_
                refine y_goto (off := 4) (pc' := 269) (len := 3) (r := (0, 0, 0, 0)) (by decide +kernel) (by decide +kernel) ?_
                refine y_cI (i := .invokevirtual 413) (len := 3) (r := (0, 246, 12, 1826)) (nL := 5) (k := 2) (n := 5) (hs := []) (args := [.inl (some 52), zi v137, zi y272, zi y275, zi y271]) (rest := []) (l0 := [some (.inl (some 52)), some (zi v137), some (zi y272), some (zi y275), some (zi y271)]) (by decide +kernel) (Or.inr (Or.inl ⟨_, rfl⟩)) rfl rfl rfl rfl (Nat.le_of_ble_eq_true rfl) (z52 O271.2.1) rfl (e_puts (a := v137.toInt.toNat) O271.2.1 (by omega) (by omega) (by omega) (by omega) (by omega) (by omega) (by omega) (by omega)) (fun y298 h298 hRy298 => ?_)
                obtain ⟨ly298, uy298, τ298, O298⟩ := hRy298
                rcases Decidable.em (y298.toInt = 0) with q299 | q299
                ·
                  refine y_iT (c := .eq) (off := 25) (pc' := 297) (len := 3) (r := (0, 0, 0, 0)) (by decide +kernel) (acmpT (c := .eq) (by show _ = _; omega)) (by decide +kernel) ?_
                  refine y_ic (c := 0) (len := 1) (r := (0, 0, 0, 0)) (by decide +kernel) (by decide) (fun y300 hy300 => ?_)
                  refine y_rI (len := 1) (r := (0, 0, 0, 0)) (nL := 7) (k := 2) (n9 := 2) (hs := []) (by decide +kernel) rfl (zfit_b (by omega) (by omega)).2 ?_
                  have hv301 := (O298.2.2 52 52 39 (t52 O271.2.1) (show 52 ≠ 383 ∧ 52 ≠ 384 ∧ 52 ≠ 385 by omega)).trans p271
                  exact ⟨by omega, by omega, ⟨_, ⟨(aup_trans O271.1 O298.1), O298.2.1, fun k T j hk (hC : k ≠ 383 ∧ k ≠ 384 ∧ k ≠ 385 ∧ (k ≠ 52 ∨ j ≠ 39)) => ((O298.2.2 k T j (O271.1 _ _ hk) (show k ≠ 383 ∧ k ≠ 384 ∧ k ≠ 385 by omega)).trans (O271.2.2 k T j hk (show k ≠ 383 ∧ (k ≠ 52 ∨ j ≠ 39) by omega)))⟩⟩, y271, hv301, by omega, by omega⟩
                ·
                  refine y_iF (c := .eq) (off := 25) (len := 3) (r := (0, 0, 0, 0)) (by decide +kernel) (acmpF (c := .eq) (by show ¬ (_ = _); omega)) ?_
                  refine y_same (i := .iload 5) (len := 2) (r := (0, 0, 0, 0)) (pc' := 277) (ls' := [some (.inl (some 52)), some (zi xk), some (zi y132), some (zi v137), some (zi v143), some (zi v145), some (zi y271)]) (st' := [zi v145]) (by decide +kernel) (fun k q => by cases q) rfl ?_
                  refine y_ic (c := 1) (len := 1) (r := (0, 0, 0, 0)) (by decide +kernel) (by decide) (fun y302 hy302 => ?_)
                  rcases Decidable.em (v145.toInt = y302.toInt) with q303 | q303
                  ·
                    refine y_cT (c := .eq) (off := 15) (pc' := 293) (len := 3) (r := (0, 0, 0, 0)) (by decide +kernel) (acmpT (c := .eq) (by show _ = _; omega)) (by decide +kernel) ?_
                    refine y_ic (c := 1) (len := 1) (r := (0, 0, 0, 0)) (by decide +kernel) (by decide) (fun y304 hy304 => ?_)
                    refine y_goto (off := 4) (pc' := 298) (len := 3) (r := (0, 0, 0, 0)) (by decide +kernel) (by decide +kernel) ?_
                    refine y_rI (len := 1) (r := (0, 0, 0, 0)) (nL := 7) (k := 2) (n9 := 2) (hs := []) (by decide +kernel) rfl (zfit_b (by omega) (by omega)).2 ?_
                    have hv305 := (O298.2.2 52 52 39 (t52 O271.2.1) (show 52 ≠ 383 ∧ 52 ≠ 384 ∧ 52 ≠ 385 by omega)).trans p271
                    exact ⟨by omega, by omega, ⟨_, ⟨(aup_trans O271.1 O298.1), O298.2.1, fun k T j hk (hC : k ≠ 383 ∧ k ≠ 384 ∧ k ≠ 385 ∧ (k ≠ 52 ∨ j ≠ 39)) => ((O298.2.2 k T j (O271.1 _ _ hk) (show k ≠ 383 ∧ k ≠ 384 ∧ k ≠ 385 by omega)).trans (O271.2.2 k T j hk (show k ≠ 383 ∧ (k ≠ 52 ∨ j ≠ 39) by omega)))⟩⟩, y271, hv305, by omega, by omega⟩
                  ·
                    refine y_cF (c := .eq) (off := 15) (len := 3) (r := (0, 0, 0, 0)) (by decide +kernel) (acmpF (c := .eq) (by show ¬ (_ = _); omega)) ?_
                    refine y_same (i := .aload_n 0) (len := 1) (r := (0, 0, 0, 0)) (pc' := 282) (ls' := [some (.inl (some 52)), some (zi xk), some (zi y132), some (zi v137), some (zi v143), some (zi v145), some (zi y271)]) (st' := [.inl (some 52)]) (by decide +kernel) (fun k q => by cases q) rfl ?_
                    refine y_same (i := .iload 6) (len := 2) (r := (0, 0, 0, 0)) (pc' := 284) (ls' := [some (.inl (some 52)), some (zi xk), some (zi y132), some (zi v137), some (zi v143), some (zi v145), some (zi y271)]) (st' := [zi y271, .inl (some 52)]) (by decide +kernel) (fun k q => by cases q) rfl ?_
                    refine y_ic (c := 1) (len := 1) (r := (0, 0, 0, 0)) (by decide +kernel) (by decide) (fun y306 hy306 => ?_)
                    refine y_ic (c := 0) (len := 1) (r := (0, 0, 0, 0)) (by decide +kernel) (by decide) (fun y307 hy307 => ?_)
                    refine y_ic (c := 0) (len := 1) (r := (0, 0, 0, 0)) (by decide +kernel) (by decide) (fun y308 hy308 => ?_)
                    refine y_cI (i := .invokevirtual 413) (len := 3) (r := (0, 246, 12, 1826)) (nL := 5) (k := 2) (n := 5) (hs := []) (args := [.inl (some 52), zi y271, zi y306, zi y307, zi y308]) (rest := []) (l0 := [some (.inl (some 52)), some (zi y271), some (zi y306), some (zi y307), some (zi y308)]) (by decide +kernel) (Or.inr (Or.inl ⟨_, rfl⟩)) rfl rfl rfl rfl (Nat.le_of_ble_eq_true rfl) (z52 O298.2.1) rfl (e_puts (a := (pl + 1)) O298.2.1 (by omega) (by omega) (by omega) (by omega) (by omega) (by omega) (by omega) (by omega)) (fun y309 h309 hRy309 => ?_)
                    obtain ⟨ly309, uy309, τ309, O309⟩ := hRy309
                    rcases Decidable.em (y309.toInt = 0) with q310 | q310
                    ·
                      refine y_iT (c := .eq) (off := 7) (pc' := 297) (len := 3) (r := (0, 0, 0, 0)) (by decide +kernel) (acmpT (c := .eq) (by show _ = _; omega)) (by decide +kernel) ?_
                      refine y_ic (c := 0) (len := 1) (r := (0, 0, 0, 0)) (by decide +kernel) (by decide) (fun y311 hy311 => ?_)
                      refine y_rI (len := 1) (r := (0, 0, 0, 0)) (nL := 7) (k := 2) (n9 := 2) (hs := []) (by decide +kernel) rfl (zfit_b (by omega) (by omega)).2 ?_
                      have hv312 := (O298.2.2 52 52 39 (t52 O271.2.1) (show 52 ≠ 383 ∧ 52 ≠ 384 ∧ 52 ≠ 385 by omega)).trans p271
                      have hv313 := (O309.2.2 52 52 39 (t52 O298.2.1) (show 52 ≠ 383 ∧ 52 ≠ 384 ∧ 52 ≠ 385 by omega)).trans hv312
                      exact ⟨by omega, by omega, ⟨_, ⟨(aup_trans (aup_trans O271.1 O298.1) O309.1), O309.2.1, fun k T j hk (hC : k ≠ 383 ∧ k ≠ 384 ∧ k ≠ 385 ∧ (k ≠ 52 ∨ j ≠ 39)) => ((O309.2.2 k T j (O298.1 _ _ (O271.1 _ _ hk)) (show k ≠ 383 ∧ k ≠ 384 ∧ k ≠ 385 by omega)).trans ((O298.2.2 k T j (O271.1 _ _ hk) (show k ≠ 383 ∧ k ≠ 384 ∧ k ≠ 385 by omega)).trans (O271.2.2 k T j hk (show k ≠ 383 ∧ (k ≠ 52 ∨ j ≠ 39) by omega))))⟩⟩, y271, hv313, by omega, by omega⟩
                    ·
                      refine y_iF (c := .eq) (off := 7) (len := 3) (r := (0, 0, 0, 0)) (by decide +kernel) (acmpF (c := .eq) (by show ¬ (_ = _); omega)) ?_
                      refine y_ic (c := 1) (len := 1) (r := (0, 0, 0, 0)) (by decide +kernel) (by decide) (fun y314 hy314 => ?_)
                      refine y_goto (off := 4) (pc' := 298) (len := 3) (r := (0, 0, 0, 0)) (by decide +kernel) (by decide +kernel) ?_
                      refine y_rI (len := 1) (r := (0, 0, 0, 0)) (nL := 7) (k := 2) (n9 := 2) (hs := []) (by decide +kernel) rfl (zfit_b (by omega) (by omega)).2 ?_
                      have hv315 := (O298.2.2 52 52 39 (t52 O271.2.1) (show 52 ≠ 383 ∧ 52 ≠ 384 ∧ 52 ≠ 385 by omega)).trans p271
                      have hv316 := (O309.2.2 52 52 39 (t52 O298.2.1) (show 52 ≠ 383 ∧ 52 ≠ 384 ∧ 52 ≠ 385 by omega)).trans hv315
                      exact ⟨by omega, by omega, ⟨_, ⟨(aup_trans (aup_trans O271.1 O298.1) O309.1), O309.2.1, fun k T j hk (hC : k ≠ 383 ∧ k ≠ 384 ∧ k ≠ 385 ∧ (k ≠ 52 ∨ j ≠ 39)) => ((O309.2.2 k T j (O298.1 _ _ (O271.1 _ _ hk)) (show k ≠ 383 ∧ k ≠ 384 ∧ k ≠ 385 by omega)).trans ((O298.2.2 k T j (O271.1 _ _ hk) (show k ≠ 383 ∧ k ≠ 384 ∧ k ≠ 385 by omega)).trans (O271.2.2 k T j hk (show k ≠ 383 ∧ (k ≠ 52 ∨ j ≠ 39) by omega))))⟩⟩, y271, hv316, by omega, by omega⟩
            ·
              refine y_cF (c := .ne) (off := 8) (len := 3) (r := (0, 0, 0, 0)) (by decide +kernel) (acmpF (c := .ne) (by show _ = _; omega)) ?_
              refine y_same (i := .iload 6) (len := 2) (r := (0, 0, 0, 0)) (pc' := 253) (ls' := [some (.inl (some 52)), some (zi xk), some (zi y132), some (zi v137), some (zi v143), some (zi v145), some (zi y271)]) (st' := [zi y271, zi y272, zi v137, .inl (some 52)]) (by decide +kernel) (fun k q => by cases q) rfl ?_
              refine y_goto (off := 4) (pc' := 257) (len := 3) (r := (0, 0, 0, 0)) (by decide +kernel) (by decide +kernel) ?_
              refine y_same (i := .iload 5) (len := 2) (r := (0, 0, 0, 0)) (pc' := 259) (ls' := [some (.inl (some 52)), some (zi xk), some (zi y132), some (zi v137), some (zi v143), some (zi v145), some (zi y271)]) (st' := [zi v145, zi y271, zi y272, zi v137, .inl (some 52)]) (by decide +kernel) (fun k q => by cases q) rfl ?_
              refine y_ic (c := 3) (len := 1) (r := (0, 0, 0, 0)) (by decide +kernel) (by decide) (fun y317 hy317 => ?_)
              rcases Decidable.em (v145.toInt ≠ y317.toInt) with q318 | q318
              ·
                refine y_cT (c := .ne) (off := 8) (pc' := 268) (len := 3) (r := (0, 0, 0, 0)) (by decide +kernel) (acmpT (c := .ne) (by show ¬ (_ = _); omega)) (by decide +kernel) ?_
                refine y_ic (c := 0) (len := 1) (r := (0, 0, 0, 0)) (by decide +kernel) (by decide) (fun y319 hy319 => ?_)
                refine y_cI (i := .invokevirtual 413) (len := 3) (r := (0, 246, 12, 1826)) (nL := 5) (k := 2) (n := 5) (hs := []) (args := [.inl (some 52), zi v137, zi y272, zi y271, zi y319]) (rest := []) (l0 := [some (.inl (some 52)), some (zi v137), some (zi y272), some (zi y271), some (zi y319)]) (by decide +kernel) (Or.inr (Or.inl ⟨_, rfl⟩)) rfl rfl rfl rfl (Nat.le_of_ble_eq_true rfl) (z52 O271.2.1) rfl (e_puts (a := v137.toInt.toNat) O271.2.1 (by omega) (by omega) (by omega) (by omega) (by omega) (by omega) (by omega) (by omega)) (fun y320 h320 hRy320 => ?_)
                obtain ⟨ly320, uy320, τ320, O320⟩ := hRy320
                rcases Decidable.em (y320.toInt = 0) with q321 | q321
                ·
                  refine y_iT (c := .eq) (off := 25) (pc' := 297) (len := 3) (r := (0, 0, 0, 0)) (by decide +kernel) (acmpT (c := .eq) (by show _ = _; omega)) (by decide +kernel) ?_
                  refine y_ic (c := 0) (len := 1) (r := (0, 0, 0, 0)) (by decide +kernel) (by decide) (fun y322 hy322 => ?_)
                  refine y_rI (len := 1) (r := (0, 0, 0, 0)) (nL := 7) (k := 2) (n9 := 2) (hs := []) (by decide +kernel) rfl (zfit_b (by omega) (by omega)).2 ?_
                  have hv323 := (O320.2.2 52 52 39 (t52 O271.2.1) (show 52 ≠ 383 ∧ 52 ≠ 384 ∧ 52 ≠ 385 by omega)).trans p271
                  exact ⟨by omega, by omega, ⟨_, ⟨(aup_trans O271.1 O320.1), O320.2.1, fun k T j hk (hC : k ≠ 383 ∧ k ≠ 384 ∧ k ≠ 385 ∧ (k ≠ 52 ∨ j ≠ 39)) => ((O320.2.2 k T j (O271.1 _ _ hk) (show k ≠ 383 ∧ k ≠ 384 ∧ k ≠ 385 by omega)).trans (O271.2.2 k T j hk (show k ≠ 383 ∧ (k ≠ 52 ∨ j ≠ 39) by omega)))⟩⟩, y271, hv323, by omega, by omega⟩
                ·
                  refine y_iF (c := .eq) (off := 25) (len := 3) (r := (0, 0, 0, 0)) (by decide +kernel) (acmpF (c := .eq) (by show ¬ (_ = _); omega)) ?_
                  refine y_same (i := .iload 5) (len := 2) (r := (0, 0, 0, 0)) (pc' := 277) (ls' := [some (.inl (some 52)), some (zi xk), some (zi y132), some (zi v137), some (zi v143), some (zi v145), some (zi y271)]) (st' := [zi v145]) (by decide +kernel) (fun k q => by cases q) rfl ?_
                  refine y_ic (c := 1) (len := 1) (r := (0, 0, 0, 0)) (by decide +kernel) (by decide) (fun y324 hy324 => ?_)
                  rcases Decidable.em (v145.toInt = y324.toInt) with q325 | q325
                  ·
                    refine y_cT (c := .eq) (off := 15) (pc' := 293) (len := 3) (r := (0, 0, 0, 0)) (by decide +kernel) (acmpT (c := .eq) (by show _ = _; omega)) (by decide +kernel) ?_
                    refine y_ic (c := 1) (len := 1) (r := (0, 0, 0, 0)) (by decide +kernel) (by decide) (fun y326 hy326 => ?_)
                    refine y_goto (off := 4) (pc' := 298) (len := 3) (r := (0, 0, 0, 0)) (by decide +kernel) (by decide +kernel) ?_
                    refine y_rI (len := 1) (r := (0, 0, 0, 0)) (nL := 7) (k := 2) (n9 := 2) (hs := []) (by decide +kernel) rfl (zfit_b (by omega) (by omega)).2 ?_
                    have hv327 := (O320.2.2 52 52 39 (t52 O271.2.1) (show 52 ≠ 383 ∧ 52 ≠ 384 ∧ 52 ≠ 385 by omega)).trans p271
                    exact ⟨by omega, by omega, ⟨_, ⟨(aup_trans O271.1 O320.1), O320.2.1, fun k T j hk (hC : k ≠ 383 ∧ k ≠ 384 ∧ k ≠ 385 ∧ (k ≠ 52 ∨ j ≠ 39)) => ((O320.2.2 k T j (O271.1 _ _ hk) (show k ≠ 383 ∧ k ≠ 384 ∧ k ≠ 385 by omega)).trans (O271.2.2 k T j hk (show k ≠ 383 ∧ (k ≠ 52 ∨ j ≠ 39) by omega)))⟩⟩, y271, hv327, by omega, by omega⟩
                  ·
                    refine y_cF (c := .eq) (off := 15) (len := 3) (r := (0, 0, 0, 0)) (by decide +kernel) (acmpF (c := .eq) (by show ¬ (_ = _); omega)) ?_
                    refine y_same (i := .aload_n 0) (len := 1) (r := (0, 0, 0, 0)) (pc' := 282) (ls' := [some (.inl (some 52)), some (zi xk), some (zi y132), some (zi v137), some (zi v143), some (zi v145), some (zi y271)]) (st' := [.inl (some 52)]) (by decide +kernel) (fun k q => by cases q) rfl ?_
                    refine y_same (i := .iload 6) (len := 2) (r := (0, 0, 0, 0)) (pc' := 284) (ls' := [some (.inl (some 52)), some (zi xk), some (zi y132), some (zi v137), some (zi v143), some (zi v145), some (zi y271)]) (st' := [zi y271, .inl (some 52)]) (by decide +kernel) (fun k q => by cases q) rfl ?_
                    refine y_ic (c := 1) (len := 1) (r := (0, 0, 0, 0)) (by decide +kernel) (by decide) (fun y328 hy328 => ?_)
                    refine y_ic (c := 0) (len := 1) (r := (0, 0, 0, 0)) (by decide +kernel) (by decide) (fun y329 hy329 => ?_)
                    refine y_ic (c := 0) (len := 1) (r := (0, 0, 0, 0)) (by decide +kernel) (by decide) (fun y330 hy330 => ?_)
                    refine y_cI (i := .invokevirtual 413) (len := 3) (r := (0, 246, 12, 1826)) (nL := 5) (k := 2) (n := 5) (hs := []) (args := [.inl (some 52), zi y271, zi y328, zi y329, zi y330]) (rest := []) (l0 := [some (.inl (some 52)), some (zi y271), some (zi y328), some (zi y329), some (zi y330)]) (by decide +kernel) (Or.inr (Or.inl ⟨_, rfl⟩)) rfl rfl rfl rfl (Nat.le_of_ble_eq_true rfl) (z52 O320.2.1) rfl (e_puts (a := (pl + 1)) O320.2.1 (by omega) (by omega) (by omega) (by omega) (by omega) (by omega) (by omega) (by omega)) (fun y331 h331 hRy331 => ?_)
                    obtain ⟨ly331, uy331, τ331, O331⟩ := hRy331
                    rcases Decidable.em (y331.toInt = 0) with q332 | q332
                    ·
                      refine y_iT (c := .eq) (off := 7) (pc' := 297) (len := 3) (r := (0, 0, 0, 0)) (by decide +kernel) (acmpT (c := .eq) (by show _ = _; omega)) (by decide +kernel) ?_
                      refine y_ic (c := 0) (len := 1) (r := (0, 0, 0, 0)) (by decide +kernel) (by decide) (fun y333 hy333 => ?_)
                      refine y_rI (len := 1) (r := (0, 0, 0, 0)) (nL := 7) (k := 2) (n9 := 2) (hs := []) (by decide +kernel) rfl (zfit_b (by omega) (by omega)).2 ?_
                      have hv334 := (O320.2.2 52 52 39 (t52 O271.2.1) (show 52 ≠ 383 ∧ 52 ≠ 384 ∧ 52 ≠ 385 by omega)).trans p271
                      have hv335 := (O331.2.2 52 52 39 (t52 O320.2.1) (show 52 ≠ 383 ∧ 52 ≠ 384 ∧ 52 ≠ 385 by omega)).trans hv334
                      exact ⟨by omega, by omega, ⟨_, ⟨(aup_trans (aup_trans O271.1 O320.1) O331.1), O331.2.1, fun k T j hk (hC : k ≠ 383 ∧ k ≠ 384 ∧ k ≠ 385 ∧ (k ≠ 52 ∨ j ≠ 39)) => ((O331.2.2 k T j (O320.1 _ _ (O271.1 _ _ hk)) (show k ≠ 383 ∧ k ≠ 384 ∧ k ≠ 385 by omega)).trans ((O320.2.2 k T j (O271.1 _ _ hk) (show k ≠ 383 ∧ k ≠ 384 ∧ k ≠ 385 by omega)).trans (O271.2.2 k T j hk (show k ≠ 383 ∧ (k ≠ 52 ∨ j ≠ 39) by omega))))⟩⟩, y271, hv335, by omega, by omega⟩
                    ·
                      refine y_iF (c := .eq) (off := 7) (len := 3) (r := (0, 0, 0, 0)) (by decide +kernel) (acmpF (c := .eq) (by show ¬ (_ = _); omega)) ?_
                      refine y_ic (c := 1) (len := 1) (r := (0, 0, 0, 0)) (by decide +kernel) (by decide) (fun y336 hy336 => ?_)
                      refine y_goto (off := 4) (pc' := 298) (len := 3) (r := (0, 0, 0, 0)) (by decide +kernel) (by decide +kernel) ?_
                      refine y_rI (len := 1) (r := (0, 0, 0, 0)) (nL := 7) (k := 2) (n9 := 2) (hs := []) (by decide +kernel) rfl (zfit_b (by omega) (by omega)).2 ?_
                      have hv337 := (O320.2.2 52 52 39 (t52 O271.2.1) (show 52 ≠ 383 ∧ 52 ≠ 384 ∧ 52 ≠ 385 by omega)).trans p271
                      have hv338 := (O331.2.2 52 52 39 (t52 O320.2.1) (show 52 ≠ 383 ∧ 52 ≠ 384 ∧ 52 ≠ 385 by omega)).trans hv337
                      exact ⟨by omega, by omega, ⟨_, ⟨(aup_trans (aup_trans O271.1 O320.1) O331.1), O331.2.1, fun k T j hk (hC : k ≠ 383 ∧ k ≠ 384 ∧ k ≠ 385 ∧ (k ≠ 52 ∨ j ≠ 39)) => ((O331.2.2 k T j (O320.1 _ _ (O271.1 _ _ hk)) (show k ≠ 383 ∧ k ≠ 384 ∧ k ≠ 385 by omega)).trans ((O320.2.2 k T j (O271.1 _ _ hk) (show k ≠ 383 ∧ k ≠ 384 ∧ k ≠ 385 by omega)).trans (O271.2.2 k T j hk (show k ≠ 383 ∧ (k ≠ 52 ∨ j ≠ 39) by omega))))⟩⟩, y271, hv338, by omega, by omega⟩
              ·
                refine y_cF (c := .ne) (off := 8) (len := 3) (r := (0, 0, 0, 0)) (by decide +kernel) (acmpF (c := .ne) (by show _ = _; omega)) ?_
                refine y_same (i := .iload 6) (len := 2) (r := (0, 0, 0, 0)) (pc' := 265) (ls' := [some (.inl (some 52)), some (zi xk), some (zi y132), some (zi v137), some (zi v143), some (zi v145), some (zi y271)]) (st' := [zi y271, zi y271, zi y272, zi v137, .inl (some 52)]) (by decide +kernel) (fun k q => by cases q) rfl ?_
                refine y_goto (off := 4) (pc' := 269) (len := 3) (r := (0, 0, 0, 0)) (by decide +kernel) (by decide +kernel) ?_
                refine y_cI (i := .invokevirtual 413) (len := 3) (r := (0, 246, 12, 1826)) (nL := 5) (k := 2) (n := 5) (hs := []) (args := [.inl (some 52), zi v137, zi y272, zi y271, zi y271]) (rest := []) (l0 := [some (.inl (some 52)), some (zi v137), some (zi y272), some (zi y271), some (zi y271)]) (by decide +kernel) (Or.inr (Or.inl ⟨_, rfl⟩)) rfl rfl rfl rfl (Nat.le_of_ble_eq_true rfl) (z52 O271.2.1) rfl (e_puts (a := v137.toInt.toNat) O271.2.1 (by omega) (by omega) (by omega) (by omega) (by omega) (by omega) (by omega) (by omega)) (fun y339 h339 hRy339 => ?_)
                obtain ⟨ly339, uy339, τ339, O339⟩ := hRy339
                rcases Decidable.em (y339.toInt = 0) with q340 | q340
                ·
                  refine y_iT (c := .eq) (off := 25) (pc' := 297) (len := 3) (r := (0, 0, 0, 0)) (by decide +kernel) (acmpT (c := .eq) (by show _ = _; omega)) (by decide +kernel) ?_
                  refine y_ic (c := 0) (len := 1) (r := (0, 0, 0, 0)) (by decide +kernel) (by decide) (fun y341 hy341 => ?_)
                  refine y_rI (len := 1) (r := (0, 0, 0, 0)) (nL := 7) (k := 2) (n9 := 2) (hs := []) (by decide +kernel) rfl (zfit_b (by omega) (by omega)).2 ?_
                  have hv342 := (O339.2.2 52 52 39 (t52 O271.2.1) (show 52 ≠ 383 ∧ 52 ≠ 384 ∧ 52 ≠ 385 by omega)).trans p271
                  exact ⟨by omega, by omega, ⟨_, ⟨(aup_trans O271.1 O339.1), O339.2.1, fun k T j hk (hC : k ≠ 383 ∧ k ≠ 384 ∧ k ≠ 385 ∧ (k ≠ 52 ∨ j ≠ 39)) => ((O339.2.2 k T j (O271.1 _ _ hk) (show k ≠ 383 ∧ k ≠ 384 ∧ k ≠ 385 by omega)).trans (O271.2.2 k T j hk (show k ≠ 383 ∧ (k ≠ 52 ∨ j ≠ 39) by omega)))⟩⟩, y271, hv342, by omega, by omega⟩
                ·
                  refine y_iF (c := .eq) (off := 25) (len := 3) (r := (0, 0, 0, 0)) (by decide +kernel) (acmpF (c := .eq) (by show ¬ (_ = _); omega)) ?_
                  refine y_same (i := .iload 5) (len := 2) (r := (0, 0, 0, 0)) (pc' := 277) (ls' := [some (.inl (some 52)), some (zi xk), some (zi y132), some (zi v137), some (zi v143), some (zi v145), some (zi y271)]) (st' := [zi v145]) (by decide +kernel) (fun k q => by cases q) rfl ?_
                  refine y_ic (c := 1) (len := 1) (r := (0, 0, 0, 0)) (by decide +kernel) (by decide) (fun y343 hy343 => ?_)
                  rcases Decidable.em (v145.toInt = y343.toInt) with q344 | q344
                  ·
                    refine y_cT (c := .eq) (off := 15) (pc' := 293) (len := 3) (r := (0, 0, 0, 0)) (by decide +kernel) (acmpT (c := .eq) (by show _ = _; omega)) (by decide +kernel) ?_
                    refine y_ic (c := 1) (len := 1) (r := (0, 0, 0, 0)) (by decide +kernel) (by decide) (fun y345 hy345 => ?_)
                    refine y_goto (off := 4) (pc' := 298) (len := 3) (r := (0, 0, 0, 0)) (by decide +kernel) (by decide +kernel) ?_
                    refine y_rI (len := 1) (r := (0, 0, 0, 0)) (nL := 7) (k := 2) (n9 := 2) (hs := []) (by decide +kernel) rfl (zfit_b (by omega) (by omega)).2 ?_
                    have hv346 := (O339.2.2 52 52 39 (t52 O271.2.1) (show 52 ≠ 383 ∧ 52 ≠ 384 ∧ 52 ≠ 385 by omega)).trans p271
                    exact ⟨by omega, by omega, ⟨_, ⟨(aup_trans O271.1 O339.1), O339.2.1, fun k T j hk (hC : k ≠ 383 ∧ k ≠ 384 ∧ k ≠ 385 ∧ (k ≠ 52 ∨ j ≠ 39)) => ((O339.2.2 k T j (O271.1 _ _ hk) (show k ≠ 383 ∧ k ≠ 384 ∧ k ≠ 385 by omega)).trans (O271.2.2 k T j hk (show k ≠ 383 ∧ (k ≠ 52 ∨ j ≠ 39) by omega)))⟩⟩, y271, hv346, by omega, by omega⟩
                  ·
                    refine y_cF (c := .eq) (off := 15) (len := 3) (r := (0, 0, 0, 0)) (by decide +kernel) (acmpF (c := .eq) (by show ¬ (_ = _); omega)) ?_
                    refine y_same (i := .aload_n 0) (len := 1) (r := (0, 0, 0, 0)) (pc' := 282) (ls' := [some (.inl (some 52)), some (zi xk), some (zi y132), some (zi v137), some (zi v143), some (zi v145), some (zi y271)]) (st' := [.inl (some 52)]) (by decide +kernel) (fun k q => by cases q) rfl ?_
                    refine y_same (i := .iload 6) (len := 2) (r := (0, 0, 0, 0)) (pc' := 284) (ls' := [some (.inl (some 52)), some (zi xk), some (zi y132), some (zi v137), some (zi v143), some (zi v145), some (zi y271)]) (st' := [zi y271, .inl (some 52)]) (by decide +kernel) (fun k q => by cases q) rfl ?_
                    refine y_ic (c := 1) (len := 1) (r := (0, 0, 0, 0)) (by decide +kernel) (by decide) (fun y347 hy347 => ?_)
                    refine y_ic (c := 0) (len := 1) (r := (0, 0, 0, 0)) (by decide +kernel) (by decide) (fun y348 hy348 => ?_)
                    refine y_ic (c := 0) (len := 1) (r := (0, 0, 0, 0)) (by decide +kernel) (by decide) (fun y349 hy349 => ?_)
                    refine y_cI (i := .invokevirtual 413) (len := 3) (r := (0, 246, 12, 1826)) (nL := 5) (k := 2) (n := 5) (hs := []) (args := [.inl (some 52), zi y271, zi y347, zi y348, zi y349]) (rest := []) (l0 := [some (.inl (some 52)), some (zi y271), some (zi y347), some (zi y348), some (zi y349)]) (by decide +kernel) (Or.inr (Or.inl ⟨_, rfl⟩)) rfl rfl rfl rfl (Nat.le_of_ble_eq_true rfl) (z52 O339.2.1) rfl (e_puts (a := (pl + 1)) O339.2.1 (by omega) (by omega) (by omega) (by omega) (by omega) (by omega) (by omega) (by omega)) (fun y350 h350 hRy350 => ?_)
                    obtain ⟨ly350, uy350, τ350, O350⟩ := hRy350
                    rcases Decidable.em (y350.toInt = 0) with q351 | q351
                    ·
                      refine y_iT (c := .eq) (off := 7) (pc' := 297) (len := 3) (r := (0, 0, 0, 0)) (by decide +kernel) (acmpT (c := .eq) (by show _ = _; omega)) (by decide +kernel) ?_
                      refine y_ic (c := 0) (len := 1) (r := (0, 0, 0, 0)) (by decide +kernel) (by decide) (fun y352 hy352 => ?_)
                      refine y_rI (len := 1) (r := (0, 0, 0, 0)) (nL := 7) (k := 2) (n9 := 2) (hs := []) (by decide +kernel) rfl (zfit_b (by omega) (by omega)).2 ?_
                      have hv353 := (O339.2.2 52 52 39 (t52 O271.2.1) (show 52 ≠ 383 ∧ 52 ≠ 384 ∧ 52 ≠ 385 by omega)).trans p271
                      have hv354 := (O350.2.2 52 52 39 (t52 O339.2.1) (show 52 ≠ 383 ∧ 52 ≠ 384 ∧ 52 ≠ 385 by omega)).trans hv353
                      exact ⟨by omega, by omega, ⟨_, ⟨(aup_trans (aup_trans O271.1 O339.1) O350.1), O350.2.1, fun k T j hk (hC : k ≠ 383 ∧ k ≠ 384 ∧ k ≠ 385 ∧ (k ≠ 52 ∨ j ≠ 39)) => ((O350.2.2 k T j (O339.1 _ _ (O271.1 _ _ hk)) (show k ≠ 383 ∧ k ≠ 384 ∧ k ≠ 385 by omega)).trans ((O339.2.2 k T j (O271.1 _ _ hk) (show k ≠ 383 ∧ k ≠ 384 ∧ k ≠ 385 by omega)).trans (O271.2.2 k T j hk (show k ≠ 383 ∧ (k ≠ 52 ∨ j ≠ 39) by omega))))⟩⟩, y271, hv354, by omega, by omega⟩
                    ·
                      refine y_iF (c := .eq) (off := 7) (len := 3) (r := (0, 0, 0, 0)) (by decide +kernel) (acmpF (c := .eq) (by show ¬ (_ = _); omega)) ?_
                      refine y_ic (c := 1) (len := 1) (r := (0, 0, 0, 0)) (by decide +kernel) (by decide) (fun y355 hy355 => ?_)
                      refine y_goto (off := 4) (pc' := 298) (len := 3) (r := (0, 0, 0, 0)) (by decide +kernel) (by decide +kernel) ?_
                      refine y_rI (len := 1) (r := (0, 0, 0, 0)) (nL := 7) (k := 2) (n9 := 2) (hs := []) (by decide +kernel) rfl (zfit_b (by omega) (by omega)).2 ?_
                      have hv356 := (O339.2.2 52 52 39 (t52 O271.2.1) (show 52 ≠ 383 ∧ 52 ≠ 384 ∧ 52 ≠ 385 by omega)).trans p271
                      have hv357 := (O350.2.2 52 52 39 (t52 O339.2.1) (show 52 ≠ 383 ∧ 52 ≠ 384 ∧ 52 ≠ 385 by omega)).trans hv356
                      exact ⟨by omega, by omega, ⟨_, ⟨(aup_trans (aup_trans O271.1 O339.1) O350.1), O350.2.1, fun k T j hk (hC : k ≠ 383 ∧ k ≠ 384 ∧ k ≠ 385 ∧ (k ≠ 52 ∨ j ≠ 39)) => ((O350.2.2 k T j (O339.1 _ _ (O271.1 _ _ hk)) (show k ≠ 383 ∧ k ≠ 384 ∧ k ≠ 385 by omega)).trans ((O339.2.2 k T j (O271.1 _ _ hk) (show k ≠ 383 ∧ k ≠ 384 ∧ k ≠ 385 by omega)).trans (O271.2.2 k T j hk (show k ≠ 383 ∧ (k ≠ 52 ∨ j ≠ 39) by omega))))⟩⟩, y271, hv357, by omega, by omega⟩
          ·
            refine y_cF (c := .ne) (off := 7) (len := 3) (r := (0, 0, 0, 0)) (by decide +kernel) (acmpF (c := .ne) (by show _ = _; omega)) ?_
            refine y_ic (c := 0) (len := 1) (r := (0, 0, 0, 0)) (by decide +kernel) (by decide) (fun y358 hy358 => ?_)
            refine y_goto (off := 7) (pc' := 240) (len := 3) (r := (0, 0, 0, 0)) (by decide +kernel) (by decide +kernel) ?_
            refine y_same (i := .istore 6) (len := 2) (r := (0, 0, 0, 0)) (pc' := 242) (ls' := [some (.inl (some 52)), some (zi xk), some (zi y132), some (zi v137), some (zi v143), some (zi v145), some (zi y358)]) (st' := []) (by decide +kernel) (fun k q => by cases q) rfl ?_
            refine y_same (i := .aload_n 0) (len := 1) (r := (0, 0, 0, 0)) (pc' := 243) (ls' := [some (.inl (some 52)), some (zi xk), some (zi y132), some (zi v137), some (zi v143), some (zi v145), some (zi y358)]) (st' := [.inl (some 52)]) (by decide +kernel) (fun k q => by cases q) rfl ?_
            refine y_same (i := .iload_n 3) (len := 1) (r := (0, 0, 0, 0)) (pc' := 244) (ls' := [some (.inl (some 52)), some (zi xk), some (zi y132), some (zi v137), some (zi v143), some (zi v145), some (zi y358)]) (st' := [zi v137, .inl (some 52)]) (by decide +kernel) (fun k q => by cases q) rfl ?_
            refine y_ic (c := 1) (len := 1) (r := (0, 0, 0, 0)) (by decide +kernel) (by decide) (fun y359 hy359 => ?_)
            refine y_same (i := .iload 5) (len := 2) (r := (0, 0, 0, 0)) (pc' := 247) (ls' := [some (.inl (some 52)), some (zi xk), some (zi y132), some (zi v137), some (zi v143), some (zi v145), some (zi y358)]) (st' := [zi v145, zi y359, zi v137, .inl (some 52)]) (by decide +kernel) (fun k q => by cases q) rfl ?_
            refine y_ic (c := 2) (len := 1) (r := (0, 0, 0, 0)) (by decide +kernel) (by decide) (fun y360 hy360 => ?_)
            rcases Decidable.em (v145.toInt ≠ y360.toInt) with q361 | q361
            ·
              refine y_cT (c := .ne) (off := 8) (pc' := 256) (len := 3) (r := (0, 0, 0, 0)) (by decide +kernel) (acmpT (c := .ne) (by show ¬ (_ = _); omega)) (by decide +kernel) ?_
              refine y_ic (c := 0) (len := 1) (r := (0, 0, 0, 0)) (by decide +kernel) (by decide) (fun y362 hy362 => ?_)
              refine y_same (i := .iload 5) (len := 2) (r := (0, 0, 0, 0)) (pc' := 259) (ls' := [some (.inl (some 52)), some (zi xk), some (zi y132), some (zi v137), some (zi v143), some (zi v145), some (zi y358)]) (st' := [zi v145, zi y362, zi y359, zi v137, .inl (some 52)]) (by decide +kernel) (fun k q => by cases q) rfl ?_
              refine y_ic (c := 3) (len := 1) (r := (0, 0, 0, 0)) (by decide +kernel) (by decide) (fun y363 hy363 => ?_)
              rcases Decidable.em (v145.toInt ≠ y363.toInt) with q364 | q364
              ·
                refine y_cT (c := .ne) (off := 8) (pc' := 268) (len := 3) (r := (0, 0, 0, 0)) (by decide +kernel) (acmpT (c := .ne) (by show ¬ (_ = _); omega)) (by decide +kernel) ?_
                refine y_ic (c := 0) (len := 1) (r := (0, 0, 0, 0)) (by decide +kernel) (by decide) (fun y365 hy365 => ?_)
                refine y_cI (i := .invokevirtual 413) (len := 3) (r := (0, 246, 12, 1826)) (nL := 5) (k := 2) (n := 5) (hs := []) (args := [.inl (some 52), zi v137, zi y359, zi y362, zi y365]) (rest := []) (l0 := [some (.inl (some 52)), some (zi v137), some (zi y359), some (zi y362), some (zi y365)]) (by decide +kernel) (Or.inr (Or.inl ⟨_, rfl⟩)) rfl rfl rfl rfl (Nat.le_of_ble_eq_true rfl) (z52 hg) rfl (e_puts (a := v137.toInt.toNat) hg (by omega) (by omega) (by omega) (by omega) (by omega) (by omega) (by omega) (by omega)) (fun y366 h366 hRy366 => ?_)
                obtain ⟨ly366, uy366, τ366, O366⟩ := hRy366
                rcases Decidable.em (y366.toInt = 0) with q367 | q367
                ·
                  refine y_iT (c := .eq) (off := 25) (pc' := 297) (len := 3) (r := (0, 0, 0, 0)) (by decide +kernel) (acmpT (c := .eq) (by show _ = _; omega)) (by decide +kernel) ?_
                  refine y_ic (c := 0) (len := 1) (r := (0, 0, 0, 0)) (by decide +kernel) (by decide) (fun y368 hy368 => ?_)
                  refine y_rI (len := 1) (r := (0, 0, 0, 0)) (nL := 7) (k := 2) (n9 := 2) (hs := []) (by decide +kernel) rfl (zfit_b (by omega) (by omega)).2 ?_
                  have hv369 := (O366.2.2 52 52 39 (t52 hg) (show 52 ≠ 383 ∧ 52 ≠ 384 ∧ 52 ≠ 385 by omega)).trans hp
                  exact ⟨by omega, by omega, ⟨_, ⟨O366.1, O366.2.1, fun k T j hk (hC : k ≠ 383 ∧ k ≠ 384 ∧ k ≠ 385 ∧ (k ≠ 52 ∨ j ≠ 39)) => (O366.2.2 k T j hk (show k ≠ 383 ∧ k ≠ 384 ∧ k ≠ 385 by omega))⟩⟩, xp, hv369, by omega, by omega⟩
                ·
                  refine y_iF (c := .eq) (off := 25) (len := 3) (r := (0, 0, 0, 0)) (by decide +kernel) (acmpF (c := .eq) (by show ¬ (_ = _); omega)) ?_
                  refine y_same (i := .iload 5) (len := 2) (r := (0, 0, 0, 0)) (pc' := 277) (ls' := [some (.inl (some 52)), some (zi xk), some (zi y132), some (zi v137), some (zi v143), some (zi v145), some (zi y358)]) (st' := [zi v145]) (by decide +kernel) (fun k q => by cases q) rfl ?_
                  refine y_ic (c := 1) (len := 1) (r := (0, 0, 0, 0)) (by decide +kernel) (by decide) (fun y370 hy370 => ?_)
                  rcases Decidable.em (v145.toInt = y370.toInt) with q371 | q371
                  ·
                    refine y_cT (c := .eq) (off := 15) (pc' := 293) (len := 3) (r := (0, 0, 0, 0)) (by decide +kernel) (acmpT (c := .eq) (by show _ = _; omega)) (by decide +kernel) ?_
                    refine y_ic (c := 1) (len := 1) (r := (0, 0, 0, 0)) (by decide +kernel) (by decide) (fun y372 hy372 => ?_)
                    refine y_goto (off := 4) (pc' := 298) (len := 3) (r := (0, 0, 0, 0)) (by decide +kernel) (by decide +kernel) ?_
                    refine y_rI (len := 1) (r := (0, 0, 0, 0)) (nL := 7) (k := 2) (n9 := 2) (hs := []) (by decide +kernel) rfl (zfit_b (by omega) (by omega)).2 ?_
                    have hv373 := (O366.2.2 52 52 39 (t52 hg) (show 52 ≠ 383 ∧ 52 ≠ 384 ∧ 52 ≠ 385 by omega)).trans hp
                    exact ⟨by omega, by omega, ⟨_, ⟨O366.1, O366.2.1, fun k T j hk (hC : k ≠ 383 ∧ k ≠ 384 ∧ k ≠ 385 ∧ (k ≠ 52 ∨ j ≠ 39)) => (O366.2.2 k T j hk (show k ≠ 383 ∧ k ≠ 384 ∧ k ≠ 385 by omega))⟩⟩, xp, hv373, by omega, by omega⟩
                  ·
                    refine y_cF (c := .eq) (off := 15) (len := 3) (r := (0, 0, 0, 0)) (by decide +kernel) (acmpF (c := .eq) (by show ¬ (_ = _); omega)) ?_
                    refine y_same (i := .aload_n 0) (len := 1) (r := (0, 0, 0, 0)) (pc' := 282) (ls' := [some (.inl (some 52)), some (zi xk), some (zi y132), some (zi v137), some (zi v143), some (zi v145), some (zi y358)]) (st' := [.inl (some 52)]) (by decide +kernel) (fun k q => by cases q) rfl ?_
                    refine y_same (i := .iload 6) (len := 2) (r := (0, 0, 0, 0)) (pc' := 284) (ls' := [some (.inl (some 52)), some (zi xk), some (zi y132), some (zi v137), some (zi v143), some (zi v145), some (zi y358)]) (st' := [zi y358, .inl (some 52)]) (by decide +kernel) (fun k q => by cases q) rfl ?_
                    refine y_ic (c := 1) (len := 1) (r := (0, 0, 0, 0)) (by decide +kernel) (by decide) (fun y374 hy374 => ?_)
                    refine y_ic (c := 0) (len := 1) (r := (0, 0, 0, 0)) (by decide +kernel) (by decide) (fun y375 hy375 => ?_)
                    refine y_ic (c := 0) (len := 1) (r := (0, 0, 0, 0)) (by decide +kernel) (by decide) (fun y376 hy376 => ?_)
                    refine y_cI (i := .invokevirtual 413) (len := 3) (r := (0, 246, 12, 1826)) (nL := 5) (k := 2) (n := 5) (hs := []) (args := [.inl (some 52), zi y358, zi y374, zi y375, zi y376]) (rest := []) (l0 := [some (.inl (some 52)), some (zi y358), some (zi y374), some (zi y375), some (zi y376)]) (by decide +kernel) (Or.inr (Or.inl ⟨_, rfl⟩)) rfl rfl rfl rfl (Nat.le_of_ble_eq_true rfl) (z52 O366.2.1) rfl (e_puts (a := 0) O366.2.1 (by omega) (by omega) (by omega) (by omega) (by omega) (by omega) (by omega) (by omega)) (fun y377 h377 hRy377 => ?_)
                    obtain ⟨ly377, uy377, τ377, O377⟩ := hRy377
                    rcases Decidable.em (y377.toInt = 0) with q378 | q378
                    ·
                      refine y_iT (c := .eq) (off := 7) (pc' := 297) (len := 3) (r := (0, 0, 0, 0)) (by decide +kernel) (acmpT (c := .eq) (by show _ = _; omega)) (by decide +kernel) ?_
                      refine y_ic (c := 0) (len := 1) (r := (0, 0, 0, 0)) (by decide +kernel) (by decide) (fun y379 hy379 => ?_)
                      refine y_rI (len := 1) (r := (0, 0, 0, 0)) (nL := 7) (k := 2) (n9 := 2) (hs := []) (by decide +kernel) rfl (zfit_b (by omega) (by omega)).2 ?_
                      have hv380 := (O366.2.2 52 52 39 (t52 hg) (show 52 ≠ 383 ∧ 52 ≠ 384 ∧ 52 ≠ 385 by omega)).trans hp
                      have hv381 := (O377.2.2 52 52 39 (t52 O366.2.1) (show 52 ≠ 383 ∧ 52 ≠ 384 ∧ 52 ≠ 385 by omega)).trans hv380
                      exact ⟨by omega, by omega, ⟨_, ⟨(aup_trans O366.1 O377.1), O377.2.1, fun k T j hk (hC : k ≠ 383 ∧ k ≠ 384 ∧ k ≠ 385 ∧ (k ≠ 52 ∨ j ≠ 39)) => ((O377.2.2 k T j (O366.1 _ _ hk) (show k ≠ 383 ∧ k ≠ 384 ∧ k ≠ 385 by omega)).trans (O366.2.2 k T j hk (show k ≠ 383 ∧ k ≠ 384 ∧ k ≠ 385 by omega)))⟩⟩, xp, hv381, by omega, by omega⟩
                    ·
                      refine y_iF (c := .eq) (off := 7) (len := 3) (r := (0, 0, 0, 0)) (by decide +kernel) (acmpF (c := .eq) (by show ¬ (_ = _); omega)) ?_
                      refine y_ic (c := 1) (len := 1) (r := (0, 0, 0, 0)) (by decide +kernel) (by decide) (fun y382 hy382 => ?_)
                      refine y_goto (off := 4) (pc' := 298) (len := 3) (r := (0, 0, 0, 0)) (by decide +kernel) (by decide +kernel) ?_
                      refine y_rI (len := 1) (r := (0, 0, 0, 0)) (nL := 7) (k := 2) (n9 := 2) (hs := []) (by decide +kernel) rfl (zfit_b (by omega) (by omega)).2 ?_
                      have hv383 := (O366.2.2 52 52 39 (t52 hg) (show 52 ≠ 383 ∧ 52 ≠ 384 ∧ 52 ≠ 385 by omega)).trans hp
                      have hv384 := (O377.2.2 52 52 39 (t52 O366.2.1) (show 52 ≠ 383 ∧ 52 ≠ 384 ∧ 52 ≠ 385 by omega)).trans hv383
                      exact ⟨by omega, by omega, ⟨_, ⟨(aup_trans O366.1 O377.1), O377.2.1, fun k T j hk (hC : k ≠ 383 ∧ k ≠ 384 ∧ k ≠ 385 ∧ (k ≠ 52 ∨ j ≠ 39)) => ((O377.2.2 k T j (O366.1 _ _ hk) (show k ≠ 383 ∧ k ≠ 384 ∧ k ≠ 385 by omega)).trans (O366.2.2 k T j hk (show k ≠ 383 ∧ k ≠ 384 ∧ k ≠ 385 by omega)))⟩⟩, xp, hv384, by omega, by omega⟩
              ·
                refine y_cF (c := .ne) (off := 8) (len := 3) (r := (0, 0, 0, 0)) (by decide +kernel) (acmpF (c := .ne) (by show _ = _; omega)) ?_
                refine y_same (i := .iload 6) (len := 2) (r := (0, 0, 0, 0)) (pc' := 265) (ls' := [some (.inl (some 52)), some (zi xk), some (zi y132), some (zi v137), some (zi v143), some (zi v145), some (zi y358)]) (st' := [zi y358, zi y362, zi y359, zi v137, .inl (some 52)]) (by decide +kernel) (fun k q => by cases q) rfl ?_
                refine y_goto (off := 4) (pc' := 269) (len := 3) (r := (0, 0, 0, 0)) (by decide +kernel) (by decide +kernel) ?_
                refine y_cI (i := .invokevirtual 413) (len := 3) (r := (0, 246, 12, 1826)) (nL := 5) (k := 2) (n := 5) (hs := []) (args := [.inl (some 52), zi v137, zi y359, zi y362, zi y358]) (rest := []) (l0 := [some (.inl (some 52)), some (zi v137), some (zi y359), some (zi y362), some (zi y358)]) (by decide +kernel) (Or.inr (Or.inl ⟨_, rfl⟩)) rfl rfl rfl rfl (Nat.le_of_ble_eq_true rfl) (z52 hg) rfl (e_puts (a := v137.toInt.toNat) hg (by omega) (by omega) (by omega) (by omega) (by omega) (by omega) (by omega) (by omega)) (fun y385 h385 hRy385 => ?_)
                obtain ⟨ly385, uy385, τ385, O385⟩ := hRy385
                rcases Decidable.em (y385.toInt = 0) with q386 | q386
                ·
                  refine y_iT (c := .eq) (off := 25) (pc' := 297) (len := 3) (r := (0, 0, 0, 0)) (by decide +kernel) (acmpT (c := .eq) (by show _ = _; omega)) (by decide +kernel) ?_
                  refine y_ic (c := 0) (len := 1) (r := (0, 0, 0, 0)) (by decide +kernel) (by decide) (fun y387 hy387 => ?_)
                  refine y_rI (len := 1) (r := (0, 0, 0, 0)) (nL := 7) (k := 2) (n9 := 2) (hs := []) (by decide +kernel) rfl (zfit_b (by omega) (by omega)).2 ?_
                  have hv388 := (O385.2.2 52 52 39 (t52 hg) (show 52 ≠ 383 ∧ 52 ≠ 384 ∧ 52 ≠ 385 by omega)).trans hp
                  exact ⟨by omega, by omega, ⟨_, ⟨O385.1, O385.2.1, fun k T j hk (hC : k ≠ 383 ∧ k ≠ 384 ∧ k ≠ 385 ∧ (k ≠ 52 ∨ j ≠ 39)) => (O385.2.2 k T j hk (show k ≠ 383 ∧ k ≠ 384 ∧ k ≠ 385 by omega))⟩⟩, xp, hv388, by omega, by omega⟩
                ·
                  refine y_iF (c := .eq) (off := 25) (len := 3) (r := (0, 0, 0, 0)) (by decide +kernel) (acmpF (c := .eq) (by show ¬ (_ = _); omega)) ?_
                  refine y_same (i := .iload 5) (len := 2) (r := (0, 0, 0, 0)) (pc' := 277) (ls' := [some (.inl (some 52)), some (zi xk), some (zi y132), some (zi v137), some (zi v143), some (zi v145), some (zi y358)]) (st' := [zi v145]) (by decide +kernel) (fun k q => by cases q) rfl ?_
                  refine y_ic (c := 1) (len := 1) (r := (0, 0, 0, 0)) (by decide +kernel) (by decide) (fun y389 hy389 => ?_)
                  rcases Decidable.em (v145.toInt = y389.toInt) with q390 | q390
                  ·
                    refine y_cT (c := .eq) (off := 15) (pc' := 293) (len := 3) (r := (0, 0, 0, 0)) (by decide +kernel) (acmpT (c := .eq) (by show _ = _; omega)) (by decide +kernel) ?_
                    refine y_ic (c := 1) (len := 1) (r := (0, 0, 0, 0)) (by decide +kernel) (by decide) (fun y391 hy391 => ?_)
                    refine y_goto (off := 4) (pc' := 298) (len := 3) (r := (0, 0, 0, 0)) (by decide +kernel) (by decide +kernel) ?_
                    refine y_rI (len := 1) (r := (0, 0, 0, 0)) (nL := 7) (k := 2) (n9 := 2) (hs := []) (by decide +kernel) rfl (zfit_b (by omega) (by omega)).2 ?_
                    have hv392 := (O385.2.2 52 52 39 (t52 hg) (show 52 ≠ 383 ∧ 52 ≠ 384 ∧ 52 ≠ 385 by omega)).trans hp
                    exact ⟨by omega, by omega, ⟨_, ⟨O385.1, O385.2.1, fun k T j hk (hC : k ≠ 383 ∧ k ≠ 384 ∧ k ≠ 385 ∧ (k ≠ 52 ∨ j ≠ 39)) => (O385.2.2 k T j hk (show k ≠ 383 ∧ k ≠ 384 ∧ k ≠ 385 by omega))⟩⟩, xp, hv392, by omega, by omega⟩
                  ·
                    refine y_cF (c := .eq) (off := 15) (len := 3) (r := (0, 0, 0, 0)) (by decide +kernel) (acmpF (c := .eq) (by show ¬ (_ = _); omega)) ?_
                    refine y_same (i := .aload_n 0) (len := 1) (r := (0, 0, 0, 0)) (pc' := 282) (ls' := [some (.inl (some 52)), some (zi xk), some (zi y132), some (zi v137), some (zi v143), some (zi v145), some (zi y358)]) (st' := [.inl (some 52)]) (by decide +kernel) (fun k q => by cases q) rfl ?_
                    refine y_same (i := .iload 6) (len := 2) (r := (0, 0, 0, 0)) (pc' := 284) (ls' := [some (.inl (some 52)), some (zi xk), some (zi y132), some (zi v137), some (zi v143), some (zi v145), some (zi y358)]) (st' := [zi y358, .inl (some 52)]) (by decide +kernel) (fun k q => by cases q) rfl ?_
                    refine y_ic (c := 1) (len := 1) (r := (0, 0, 0, 0)) (by decide +kernel) (by decide) (fun y393 hy393 => ?_)
                    refine y_ic (c := 0) (len := 1) (r := (0, 0, 0, 0)) (by decide +kernel) (by decide) (fun y394 hy394 => ?_)
                    refine y_ic (c := 0) (len := 1) (r := (0, 0, 0, 0)) (by decide +kernel) (by decide) (fun y395 hy395 => ?_)
                    refine y_cI (i := .invokevirtual 413) (len := 3) (r := (0, 246, 12, 1826)) (nL := 5) (k := 2) (n := 5) (hs := []) (args := [.inl (some 52), zi y358, zi y393, zi y394, zi y395]) (rest := []) (l0 := [some (.inl (some 52)), some (zi y358), some (zi y393), some (zi y394), some (zi y395)]) (by decide +kernel) (Or.inr (Or.inl ⟨_, rfl⟩)) rfl rfl rfl rfl (Nat.le_of_ble_eq_true rfl) (z52 O385.2.1) rfl (e_puts (a := 0) O385.2.1 (by omega) (by omega) (by omega) (by omega) (by omega) (by omega) (by omega) (by omega)) (fun y396 h396 hRy396 => ?_)
                    obtain ⟨ly396, uy396, τ396, O396⟩ := hRy396
                    rcases Decidable.em (y396.toInt = 0) with q397 | q397
                    ·
                      refine y_iT (c := .eq) (off := 7) (pc' := 297) (len := 3) (r := (0, 0, 0, 0)) (by decide +kernel) (acmpT (c := .eq) (by show _ = _; omega)) (by decide +kernel) ?_
                      refine y_ic (c := 0) (len := 1) (r := (0, 0, 0, 0)) (by decide +kernel) (by decide) (fun y398 hy398 => ?_)
                      refine y_rI (len := 1) (r := (0, 0, 0, 0)) (nL := 7) (k := 2) (n9 := 2) (hs := []) (by decide +kernel) rfl (zfit_b (by omega) (by omega)).2 ?_
                      have hv399 := (O385.2.2 52 52 39 (t52 hg) (show 52 ≠ 383 ∧ 52 ≠ 384 ∧ 52 ≠ 385 by omega)).trans hp
                      have hv400 := (O396.2.2 52 52 39 (t52 O385.2.1) (show 52 ≠ 383 ∧ 52 ≠ 384 ∧ 52 ≠ 385 by omega)).trans hv399
                      exact ⟨by omega, by omega, ⟨_, ⟨(aup_trans O385.1 O396.1), O396.2.1, fun k T j hk (hC : k ≠ 383 ∧ k ≠ 384 ∧ k ≠ 385 ∧ (k ≠ 52 ∨ j ≠ 39)) => ((O396.2.2 k T j (O385.1 _ _ hk) (show k ≠ 383 ∧ k ≠ 384 ∧ k ≠ 385 by omega)).trans (O385.2.2 k T j hk (show k ≠ 383 ∧ k ≠ 384 ∧ k ≠ 385 by omega)))⟩⟩, xp, hv400, by omega, by omega⟩
                    ·
                      refine y_iF (c := .eq) (off := 7) (len := 3) (r := (0, 0, 0, 0)) (by decide +kernel) (acmpF (c := .eq) (by show ¬ (_ = _); omega)) ?_
                      refine y_ic (c := 1) (len := 1) (r := (0, 0, 0, 0)) (by decide +kernel) (by decide) (fun y401 hy401 => ?_)
                      refine y_goto (off := 4) (pc' := 298) (len := 3) (r := (0, 0, 0, 0)) (by decide +kernel) (by decide +kernel) ?_
                      refine y_rI (len := 1) (r := (0, 0, 0, 0)) (nL := 7) (k := 2) (n9 := 2) (hs := []) (by decide +kernel) rfl (zfit_b (by omega) (by omega)).2 ?_
                      have hv402 := (O385.2.2 52 52 39 (t52 hg) (show 52 ≠ 383 ∧ 52 ≠ 384 ∧ 52 ≠ 385 by omega)).trans hp
                      have hv403 := (O396.2.2 52 52 39 (t52 O385.2.1) (show 52 ≠ 383 ∧ 52 ≠ 384 ∧ 52 ≠ 385 by omega)).trans hv402
                      exact ⟨by omega, by omega, ⟨_, ⟨(aup_trans O385.1 O396.1), O396.2.1, fun k T j hk (hC : k ≠ 383 ∧ k ≠ 384 ∧ k ≠ 385 ∧ (k ≠ 52 ∨ j ≠ 39)) => ((O396.2.2 k T j (O385.1 _ _ hk) (show k ≠ 383 ∧ k ≠ 384 ∧ k ≠ 385 by omega)).trans (O385.2.2 k T j hk (show k ≠ 383 ∧ k ≠ 384 ∧ k ≠ 385 by omega)))⟩⟩, xp, hv403, by omega, by omega⟩
            ·
              refine y_cF (c := .ne) (off := 8) (len := 3) (r := (0, 0, 0, 0)) (by decide +kernel) (acmpF (c := .ne) (by show _ = _; omega)) ?_
              refine y_same (i := .iload 6) (len := 2) (r := (0, 0, 0, 0)) (pc' := 253) (ls' := [some (.inl (some 52)), some (zi xk), some (zi y132), some (zi v137), some (zi v143), some (zi v145), some (zi y358)]) (st' := [zi y358, zi y359, zi v137, .inl (some 52)]) (by decide +kernel) (fun k q => by cases q) rfl ?_
              refine y_goto (off := 4) (pc' := 257) (len := 3) (r := (0, 0, 0, 0)) (by decide +kernel) (by decide +kernel) ?_
              refine y_same (i := .iload 5) (len := 2) (r := (0, 0, 0, 0)) (pc' := 259) (ls' := [some (.inl (some 52)), some (zi xk), some (zi y132), some (zi v137), some (zi v143), some (zi v145), some (zi y358)]) (st' := [zi v145, zi y358, zi y359, zi v137, .inl (some 52)]) (by decide +kernel) (fun k q => by cases q) rfl ?_
              refine y_ic (c := 3) (len := 1) (r := (0, 0, 0, 0)) (by decide +kernel) (by decide) (fun y404 hy404 => ?_)
              rcases Decidable.em (v145.toInt ≠ y404.toInt) with q405 | q405
              ·
                refine y_cT (c := .ne) (off := 8) (pc' := 268) (len := 3) (r := (0, 0, 0, 0)) (by decide +kernel) (acmpT (c := .ne) (by show ¬ (_ = _); omega)) (by decide +kernel) ?_
                refine y_ic (c := 0) (len := 1) (r := (0, 0, 0, 0)) (by decide +kernel) (by decide) (fun y406 hy406 => ?_)
                refine y_cI (i := .invokevirtual 413) (len := 3) (r := (0, 246, 12, 1826)) (nL := 5) (k := 2) (n := 5) (hs := []) (args := [.inl (some 52), zi v137, zi y359, zi y358, zi y406]) (rest := []) (l0 := [some (.inl (some 52)), some (zi v137), some (zi y359), some (zi y358), some (zi y406)]) (by decide +kernel) (Or.inr (Or.inl ⟨_, rfl⟩)) rfl rfl rfl rfl (Nat.le_of_ble_eq_true rfl) (z52 hg) rfl (e_puts (a := v137.toInt.toNat) hg (by omega) (by omega) (by omega) (by omega) (by omega) (by omega) (by omega) (by omega)) (fun y407 h407 hRy407 => ?_)
                obtain ⟨ly407, uy407, τ407, O407⟩ := hRy407
                rcases Decidable.em (y407.toInt = 0) with q408 | q408
                ·
                  refine y_iT (c := .eq) (off := 25) (pc' := 297) (len := 3) (r := (0, 0, 0, 0)) (by decide +kernel) (acmpT (c := .eq) (by show _ = _; omega)) (by decide +kernel) ?_
                  refine y_ic (c := 0) (len := 1) (r := (0, 0, 0, 0)) (by decide +kernel) (by decide) (fun y409 hy409 => ?_)
                  refine y_rI (len := 1) (r := (0, 0, 0, 0)) (nL := 7) (k := 2) (n9 := 2) (hs := []) (by decide +kernel) rfl (zfit_b (by omega) (by omega)).2 ?_
                  have hv410 := (O407.2.2 52 52 39 (t52 hg) (show 52 ≠ 383 ∧ 52 ≠ 384 ∧ 52 ≠ 385 by omega)).trans hp
                  exact ⟨by omega, by omega, ⟨_, ⟨O407.1, O407.2.1, fun k T j hk (hC : k ≠ 383 ∧ k ≠ 384 ∧ k ≠ 385 ∧ (k ≠ 52 ∨ j ≠ 39)) => (O407.2.2 k T j hk (show k ≠ 383 ∧ k ≠ 384 ∧ k ≠ 385 by omega))⟩⟩, xp, hv410, by omega, by omega⟩
                ·
                  refine y_iF (c := .eq) (off := 25) (len := 3) (r := (0, 0, 0, 0)) (by decide +kernel) (acmpF (c := .eq) (by show ¬ (_ = _); omega)) ?_
                  refine y_same (i := .iload 5) (len := 2) (r := (0, 0, 0, 0)) (pc' := 277) (ls' := [some (.inl (some 52)), some (zi xk), some (zi y132), some (zi v137), some (zi v143), some (zi v145), some (zi y358)]) (st' := [zi v145]) (by decide +kernel) (fun k q => by cases q) rfl ?_
                  refine y_ic (c := 1) (len := 1) (r := (0, 0, 0, 0)) (by decide +kernel) (by decide) (fun y411 hy411 => ?_)
                  rcases Decidable.em (v145.toInt = y411.toInt) with q412 | q412
                  ·
                    refine y_cT (c := .eq) (off := 15) (pc' := 293) (len := 3) (r := (0, 0, 0, 0)) (by decide +kernel) (acmpT (c := .eq) (by show _ = _; omega)) (by decide +kernel) ?_
                    refine y_ic (c := 1) (len := 1) (r := (0, 0, 0, 0)) (by decide +kernel) (by decide) (fun y413 hy413 => ?_)
                    refine y_goto (off := 4) (pc' := 298) (len := 3) (r := (0, 0, 0, 0)) (by decide +kernel) (by decide +kernel) ?_
                    refine y_rI (len := 1) (r := (0, 0, 0, 0)) (nL := 7) (k := 2) (n9 := 2) (hs := []) (by decide +kernel) rfl (zfit_b (by omega) (by omega)).2 ?_
                    have hv414 := (O407.2.2 52 52 39 (t52 hg) (show 52 ≠ 383 ∧ 52 ≠ 384 ∧ 52 ≠ 385 by omega)).trans hp
                    exact ⟨by omega, by omega, ⟨_, ⟨O407.1, O407.2.1, fun k T j hk (hC : k ≠ 383 ∧ k ≠ 384 ∧ k ≠ 385 ∧ (k ≠ 52 ∨ j ≠ 39)) => (O407.2.2 k T j hk (show k ≠ 383 ∧ k ≠ 384 ∧ k ≠ 385 by omega))⟩⟩, xp, hv414, by omega, by omega⟩
                  ·
                    refine y_cF (c := .eq) (off := 15) (len := 3) (r := (0, 0, 0, 0)) (by decide +kernel) (acmpF (c := .eq) (by show ¬ (_ = _); omega)) ?_
                    refine y_same (i := .aload_n 0) (len := 1) (r := (0, 0, 0, 0)) (pc' := 282) (ls' := [some (.inl (some 52)), some (zi xk), some (zi y132), some (zi v137), some (zi v143), some (zi v145), some (zi y358)]) (st' := [.inl (some 52)]) (by decide +kernel) (fun k q => by cases q) rfl ?_
                    refine y_same (i := .iload 6) (len := 2) (r := (0, 0, 0, 0)) (pc' := 284) (ls' := [some (.inl (some 52)), some (zi xk), some (zi y132), some (zi v137), some (zi v143), some (zi v145), some (zi y358)]) (st' := [zi y358, .inl (some 52)]) (by decide +kernel) (fun k q => by cases q) rfl ?_
                    refine y_ic (c := 1) (len := 1) (r := (0, 0, 0, 0)) (by decide +kernel) (by decide) (fun y415 hy415 => ?_)
                    refine y_ic (c := 0) (len := 1) (r := (0, 0, 0, 0)) (by decide +kernel) (by decide) (fun y416 hy416 => ?_)
                    refine y_ic (c := 0) (len := 1) (r := (0, 0, 0, 0)) (by decide +kernel) (by decide) (fun y417 hy417 => ?_)
                    refine y_cI (i := .invokevirtual 413) (len := 3) (r := (0, 246, 12, 1826)) (nL := 5) (k := 2) (n := 5) (hs := []) (args := [.inl (some 52), zi y358, zi y415, zi y416, zi y417]) (rest := []) (l0 := [some (.inl (some 52)), some (zi y358), some (zi y415), some (zi y416), some (zi y417)]) (by decide +kernel) (Or.inr (Or.inl ⟨_, rfl⟩)) rfl rfl rfl rfl (Nat.le_of_ble_eq_true rfl) (z52 O407.2.1) rfl (e_puts (a := 0) O407.2.1 (by omega) (by omega) (by omega) (by omega) (by omega) (by omega) (by omega) (by omega)) (fun y418 h418 hRy418 => ?_)
                    obtain ⟨ly418, uy418, τ418, O418⟩ := hRy418
                    rcases Decidable.em (y418.toInt = 0) with q419 | q419
                    ·
                      refine y_iT (c := .eq) (off := 7) (pc' := 297) (len := 3) (r := (0, 0, 0, 0)) (by decide +kernel) (acmpT (c := .eq) (by show _ = _; omega)) (by decide +kernel) ?_
                      refine y_ic (c := 0) (len := 1) (r := (0, 0, 0, 0)) (by decide +kernel) (by decide) (fun y420 hy420 => ?_)
                      refine y_rI (len := 1) (r := (0, 0, 0, 0)) (nL := 7) (k := 2) (n9 := 2) (hs := []) (by decide +kernel) rfl (zfit_b (by omega) (by omega)).2 ?_
                      have hv421 := (O407.2.2 52 52 39 (t52 hg) (show 52 ≠ 383 ∧ 52 ≠ 384 ∧ 52 ≠ 385 by omega)).trans hp
                      have hv422 := (O418.2.2 52 52 39 (t52 O407.2.1) (show 52 ≠ 383 ∧ 52 ≠ 384 ∧ 52 ≠ 385 by omega)).trans hv421
                      exact ⟨by omega, by omega, ⟨_, ⟨(aup_trans O407.1 O418.1), O418.2.1, fun k T j hk (hC : k ≠ 383 ∧ k ≠ 384 ∧ k ≠ 385 ∧ (k ≠ 52 ∨ j ≠ 39)) => ((O418.2.2 k T j (O407.1 _ _ hk) (show k ≠ 383 ∧ k ≠ 384 ∧ k ≠ 385 by omega)).trans (O407.2.2 k T j hk (show k ≠ 383 ∧ k ≠ 384 ∧ k ≠ 385 by omega)))⟩⟩, xp, hv422, by omega, by omega⟩
                    ·
                      refine y_iF (c := .eq) (off := 7) (len := 3) (r := (0, 0, 0, 0)) (by decide +kernel) (acmpF (c := .eq) (by show ¬ (_ = _); omega)) ?_
                      refine y_ic (c := 1) (len := 1) (r := (0, 0, 0, 0)) (by decide +kernel) (by decide) (fun y423 hy423 => ?_)
                      refine y_goto (off := 4) (pc' := 298) (len := 3) (r := (0, 0, 0, 0)) (by decide +kernel) (by decide +kernel) ?_
                      refine y_rI (len := 1) (r := (0, 0, 0, 0)) (nL := 7) (k := 2) (n9 := 2) (hs := []) (by decide +kernel) rfl (zfit_b (by omega) (by omega)).2 ?_
                      have hv424 := (O407.2.2 52 52 39 (t52 hg) (show 52 ≠ 383 ∧ 52 ≠ 384 ∧ 52 ≠ 385 by omega)).trans hp
                      have hv425 := (O418.2.2 52 52 39 (t52 O407.2.1) (show 52 ≠ 383 ∧ 52 ≠ 384 ∧ 52 ≠ 385 by omega)).trans hv424
                      exact ⟨by omega, by omega, ⟨_, ⟨(aup_trans O407.1 O418.1), O418.2.1, fun k T j hk (hC : k ≠ 383 ∧ k ≠ 384 ∧ k ≠ 385 ∧ (k ≠ 52 ∨ j ≠ 39)) => ((O418.2.2 k T j (O407.1 _ _ hk) (show k ≠ 383 ∧ k ≠ 384 ∧ k ≠ 385 by omega)).trans (O407.2.2 k T j hk (show k ≠ 383 ∧ k ≠ 384 ∧ k ≠ 385 by omega)))⟩⟩, xp, hv425, by omega, by omega⟩
              ·
                refine y_cF (c := .ne) (off := 8) (len := 3) (r := (0, 0, 0, 0)) (by decide +kernel) (acmpF (c := .ne) (by show _ = _; omega)) ?_
                refine y_same (i := .iload 6) (len := 2) (r := (0, 0, 0, 0)) (pc' := 265) (ls' := [some (.inl (some 52)), some (zi xk), some (zi y132), some (zi v137), some (zi v143), some (zi v145), some (zi y358)]) (st' := [zi y358, zi y358, zi y359, zi v137, .inl (some 52)]) (by decide +kernel) (fun k q => by cases q) rfl ?_
                refine y_goto (off := 4) (pc' := 269) (len := 3) (r := (0, 0, 0, 0)) (by decide +kernel) (by decide +kernel) ?_
                refine y_cI (i := .invokevirtual 413) (len := 3) (r := (0, 246, 12, 1826)) (nL := 5) (k := 2) (n := 5) (hs := []) (args := [.inl (some 52), zi v137, zi y359, zi y358, zi y358]) (rest := []) (l0 := [some (.inl (some 52)), some (zi v137), some (zi y359), some (zi y358), some (zi y358)]) (by decide +kernel) (Or.inr (Or.inl ⟨_, rfl⟩)) rfl rfl rfl rfl (Nat.le_of_ble_eq_true rfl) (z52 hg) rfl (e_puts (a := v137.toInt.toNat) hg (by omega) (by omega) (by omega) (by omega) (by omega) (by omega) (by omega) (by omega)) (fun y426 h426 hRy426 => ?_)
                obtain ⟨ly426, uy426, τ426, O426⟩ := hRy426
                rcases Decidable.em (y426.toInt = 0) with q427 | q427
                ·
                  refine y_iT (c := .eq) (off := 25) (pc' := 297) (len := 3) (r := (0, 0, 0, 0)) (by decide +kernel) (acmpT (c := .eq) (by show _ = _; omega)) (by decide +kernel) ?_
                  refine y_ic (c := 0) (len := 1) (r := (0, 0, 0, 0)) (by decide +kernel) (by decide) (fun y428 hy428 => ?_)
                  refine y_rI (len := 1) (r := (0, 0, 0, 0)) (nL := 7) (k := 2) (n9 := 2) (hs := []) (by decide +kernel) rfl (zfit_b (by omega) (by omega)).2 ?_
                  have hv429 := (O426.2.2 52 52 39 (t52 hg) (show 52 ≠ 383 ∧ 52 ≠ 384 ∧ 52 ≠ 385 by omega)).trans hp
                  exact ⟨by omega, by omega, ⟨_, ⟨O426.1, O426.2.1, fun k T j hk (hC : k ≠ 383 ∧ k ≠ 384 ∧ k ≠ 385 ∧ (k ≠ 52 ∨ j ≠ 39)) => (O426.2.2 k T j hk (show k ≠ 383 ∧ k ≠ 384 ∧ k ≠ 385 by omega))⟩⟩, xp, hv429, by omega, by omega⟩
                ·
                  refine y_iF (c := .eq) (off := 25) (len := 3) (r := (0, 0, 0, 0)) (by decide +kernel) (acmpF (c := .eq) (by show ¬ (_ = _); omega)) ?_
                  refine y_same (i := .iload 5) (len := 2) (r := (0, 0, 0, 0)) (pc' := 277) (ls' := [some (.inl (some 52)), some (zi xk), some (zi y132), some (zi v137), some (zi v143), some (zi v145), some (zi y358)]) (st' := [zi v145]) (by decide +kernel) (fun k q => by cases q) rfl ?_
                  refine y_ic (c := 1) (len := 1) (r := (0, 0, 0, 0)) (by decide +kernel) (by decide) (fun y430 hy430 => ?_)
                  rcases Decidable.em (v145.toInt = y430.toInt) with q431 | q431
                  ·
                    refine y_cT (c := .eq) (off := 15) (pc' := 293) (len := 3) (r := (0, 0, 0, 0)) (by decide +kernel) (acmpT (c := .eq) (by show _ = _; omega)) (by decide +kernel) ?_
                    refine y_ic (c := 1) (len := 1) (r := (0, 0, 0, 0)) (by decide +kernel) (by decide) (fun y432 hy432 => ?_)
                    refine y_goto (off := 4) (pc' := 298) (len := 3) (r := (0, 0, 0, 0)) (by decide +kernel) (by decide +kernel) ?_
                    refine y_rI (len := 1) (r := (0, 0, 0, 0)) (nL := 7) (k := 2) (n9 := 2) (hs := []) (by decide +kernel) rfl (zfit_b (by omega) (by omega)).2 ?_
                    have hv433 := (O426.2.2 52 52 39 (t52 hg) (show 52 ≠ 383 ∧ 52 ≠ 384 ∧ 52 ≠ 385 by omega)).trans hp
                    exact ⟨by omega, by omega, ⟨_, ⟨O426.1, O426.2.1, fun k T j hk (hC : k ≠ 383 ∧ k ≠ 384 ∧ k ≠ 385 ∧ (k ≠ 52 ∨ j ≠ 39)) => (O426.2.2 k T j hk (show k ≠ 383 ∧ k ≠ 384 ∧ k ≠ 385 by omega))⟩⟩, xp, hv433, by omega, by omega⟩
                  ·
                    refine y_cF (c := .eq) (off := 15) (len := 3) (r := (0, 0, 0, 0)) (by decide +kernel) (acmpF (c := .eq) (by show ¬ (_ = _); omega)) ?_
                    refine y_same (i := .aload_n 0) (len := 1) (r := (0, 0, 0, 0)) (pc' := 282) (ls' := [some (.inl (some 52)), some (zi xk), some (zi y132), some (zi v137), some (zi v143), some (zi v145), some (zi y358)]) (st' := [.inl (some 52)]) (by decide +kernel) (fun k q => by cases q) rfl ?_
                    refine y_same (i := .iload 6) (len := 2) (r := (0, 0, 0, 0)) (pc' := 284) (ls' := [some (.inl (some 52)), some (zi xk), some (zi y132), some (zi v137), some (zi v143), some (zi v145), some (zi y358)]) (st' := [zi y358, .inl (some 52)]) (by decide +kernel) (fun k q => by cases q) rfl ?_
                    refine y_ic (c := 1) (len := 1) (r := (0, 0, 0, 0)) (by decide +kernel) (by decide) (fun y434 hy434 => ?_)
                    refine y_ic (c := 0) (len := 1) (r := (0, 0, 0, 0)) (by decide +kernel) (by decide) (fun y435 hy435 => ?_)
                    refine y_ic (c := 0) (len := 1) (r := (0, 0, 0, 0)) (by decide +kernel) (by decide) (fun y436 hy436 => ?_)
                    refine y_cI (i := .invokevirtual 413) (len := 3) (r := (0, 246, 12, 1826)) (nL := 5) (k := 2) (n := 5) (hs := []) (args := [.inl (some 52), zi y358, zi y434, zi y435, zi y436]) (rest := []) (l0 := [some (.inl (some 52)), some (zi y358), some (zi y434), some (zi y435), some (zi y436)]) (by decide +kernel) (Or.inr (Or.inl ⟨_, rfl⟩)) rfl rfl rfl rfl (Nat.le_of_ble_eq_true rfl) (z52 O426.2.1) rfl (e_puts (a := 0) O426.2.1 (by omega) (by omega) (by omega) (by omega) (by omega) (by omega) (by omega) (by omega)) (fun y437 h437 hRy437 => ?_)
                    obtain ⟨ly437, uy437, τ437, O437⟩ := hRy437
                    rcases Decidable.em (y437.toInt = 0) with q438 | q438
                    ·
                      refine y_iT (c := .eq) (off := 7) (pc' := 297) (len := 3) (r := (0, 0, 0, 0)) (by decide +kernel) (acmpT (c := .eq) (by show _ = _; omega)) (by decide +kernel) ?_
                      refine y_ic (c := 0) (len := 1) (r := (0, 0, 0, 0)) (by decide +kernel) (by decide) (fun y439 hy439 => ?_)
                      refine y_rI (len := 1) (r := (0, 0, 0, 0)) (nL := 7) (k := 2) (n9 := 2) (hs := []) (by decide +kernel) rfl (zfit_b (by omega) (by omega)).2 ?_
                      have hv440 := (O426.2.2 52 52 39 (t52 hg) (show 52 ≠ 383 ∧ 52 ≠ 384 ∧ 52 ≠ 385 by omega)).trans hp
                      have hv441 := (O437.2.2 52 52 39 (t52 O426.2.1) (show 52 ≠ 383 ∧ 52 ≠ 384 ∧ 52 ≠ 385 by omega)).trans hv440
                      exact ⟨by omega, by omega, ⟨_, ⟨(aup_trans O426.1 O437.1), O437.2.1, fun k T j hk (hC : k ≠ 383 ∧ k ≠ 384 ∧ k ≠ 385 ∧ (k ≠ 52 ∨ j ≠ 39)) => ((O437.2.2 k T j (O426.1 _ _ hk) (show k ≠ 383 ∧ k ≠ 384 ∧ k ≠ 385 by omega)).trans (O426.2.2 k T j hk (show k ≠ 383 ∧ k ≠ 384 ∧ k ≠ 385 by omega)))⟩⟩, xp, hv441, by omega, by omega⟩
                    ·
                      refine y_iF (c := .eq) (off := 7) (len := 3) (r := (0, 0, 0, 0)) (by decide +kernel) (acmpF (c := .eq) (by show ¬ (_ = _); omega)) ?_
                      refine y_ic (c := 1) (len := 1) (r := (0, 0, 0, 0)) (by decide +kernel) (by decide) (fun y442 hy442 => ?_)
                      refine y_goto (off := 4) (pc' := 298) (len := 3) (r := (0, 0, 0, 0)) (by decide +kernel) (by decide +kernel) ?_
                      refine y_rI (len := 1) (r := (0, 0, 0, 0)) (nL := 7) (k := 2) (n9 := 2) (hs := []) (by decide +kernel) rfl (zfit_b (by omega) (by omega)).2 ?_
                      have hv443 := (O426.2.2 52 52 39 (t52 hg) (show 52 ≠ 383 ∧ 52 ≠ 384 ∧ 52 ≠ 385 by omega)).trans hp
                      have hv444 := (O437.2.2 52 52 39 (t52 O426.2.1) (show 52 ≠ 383 ∧ 52 ≠ 384 ∧ 52 ≠ 385 by omega)).trans hv443
                      exact ⟨by omega, by omega, ⟨_, ⟨(aup_trans O426.1 O437.1), O437.2.1, fun k T j hk (hC : k ≠ 383 ∧ k ≠ 384 ∧ k ≠ 385 ∧ (k ≠ 52 ∨ j ≠ 39)) => ((O437.2.2 k T j (O426.1 _ _ hk) (show k ≠ 383 ∧ k ≠ 384 ∧ k ≠ 385 by omega)).trans (O426.2.2 k T j hk (show k ≠ 383 ∧ k ≠ 384 ∧ k ≠ 385 by omega)))⟩⟩, xp, hv444, by omega, by omega⟩
        ·
          refine y_iF (c := .ne) (off := 5) (len := 3) (r := (0, 0, 0, 0)) (by decide +kernel) (acmpF (c := .ne) (by show _ = _; omega)) ?_
          refine y_ic (c := 1) (len := 1) (r := (0, 0, 0, 0)) (by decide +kernel) (by decide) (fun y445 hy445 => ?_)
          refine y_rI (len := 1) (r := (0, 0, 0, 0)) (nL := 7) (k := 2) (n9 := 2) (hs := []) (by decide +kernel) rfl (zfit_b (by omega) (by omega)).2 ?_
          exact ⟨by omega, by omega, ⟨_, oF_refl hg⟩, xp, hp, by omega, by omega⟩
      ·
        refine y_iF (c := .ne) (off := 7) (len := 3) (r := (0, 0, 0, 0)) (by decide +kernel) (acmpF (c := .ne) (by show _ = _; omega)) ?_
        refine y_ic (c := 1) (len := 1) (r := (0, 0, 0, 0)) (by decide +kernel) (by decide) (fun y446 hy446 => ?_)
        refine y_goto (off := 4) (pc' := 214) (len := 3) (r := (0, 0, 0, 0)) (by decide +kernel) (by decide +kernel) ?_
        refine y_cF (c := .eq) (off := 5) (len := 3) (r := (0, 0, 0, 0)) (by decide +kernel) (acmpF (c := .eq) (by show ¬ (_ = _); omega)) ?_
        refine y_ic (c := 0) (len := 1) (r := (0, 0, 0, 0)) (by decide +kernel) (by decide) (fun y447 hy447 => ?_)
        refine y_rI (len := 1) (r := (0, 0, 0, 0)) (nL := 7) (k := 2) (n9 := 2) (hs := []) (by decide +kernel) rfl (zfit_b (by omega) (by omega)).2 ?_
        exact ⟨by omega, by omega, ⟨_, oF_refl hg⟩, xp, hp, by omega, by omega⟩
    ·
      refine y_iF (c := .ne) (off := 7) (len := 3) (r := (0, 0, 0, 0)) (by decide +kernel) (acmpF (c := .ne) (by show _ = _; omega)) ?_
      refine y_ic (c := 1) (len := 1) (r := (0, 0, 0, 0)) (by decide +kernel) (by decide) (fun y448 hy448 => ?_)
      refine y_goto (off := 4) (pc' := 205) (len := 3) (r := (0, 0, 0, 0)) (by decide +kernel) (by decide +kernel) ?_
      refine y_same (i := .iload_n 3) (len := 1) (r := (0, 0, 0, 0)) (pc' := 206) (ls' := [some (.inl (some 52)), some (zi xk), some (zi y132), some (zi v137), some (zi v143), some (zi v145), none]) (st' := [zi v137, zi y448]) (by decide +kernel) (fun k q => by cases q) rfl ?_
      rcases Decidable.em (v137.toInt ≠ 0) with q449 | q449
      ·
        refine y_iT (c := .ne) (off := 7) (pc' := 213) (len := 3) (r := (0, 0, 0, 0)) (by decide +kernel) (acmpT (c := .ne) (by show ¬ (_ = _); omega)) (by decide +kernel) ?_
        refine y_ic (c := 0) (len := 1) (r := (0, 0, 0, 0)) (by decide +kernel) (by decide) (fun y450 hy450 => ?_)
        refine y_cF (c := .eq) (off := 5) (len := 3) (r := (0, 0, 0, 0)) (by decide +kernel) (acmpF (c := .eq) (by show ¬ (_ = _); omega)) ?_
        refine y_ic (c := 0) (len := 1) (r := (0, 0, 0, 0)) (by decide +kernel) (by decide) (fun y451 hy451 => ?_)
        refine y_rI (len := 1) (r := (0, 0, 0, 0)) (nL := 7) (k := 2) (n9 := 2) (hs := []) (by decide +kernel) rfl (zfit_b (by omega) (by omega)).2 ?_
        exact ⟨by omega, by omega, ⟨_, oF_refl hg⟩, xp, hp, by omega, by omega⟩
      ·
        refine y_iF (c := .ne) (off := 7) (len := 3) (r := (0, 0, 0, 0)) (by decide +kernel) (acmpF (c := .ne) (by show _ = _; omega)) ?_
        refine y_ic (c := 1) (len := 1) (r := (0, 0, 0, 0)) (by decide +kernel) (by decide) (fun y452 hy452 => ?_)
        refine y_goto (off := 4) (pc' := 214) (len := 3) (r := (0, 0, 0, 0)) (by decide +kernel) (by decide +kernel) ?_
        refine y_cT (c := .eq) (off := 5) (pc' := 219) (len := 3) (r := (0, 0, 0, 0)) (by decide +kernel) (acmpT (c := .eq) (by show _ = _; omega)) (by decide +kernel) ?_
        refine y_same (i := .iload 5) (len := 2) (r := (0, 0, 0, 0)) (pc' := 221) (ls' := [some (.inl (some 52)), some (zi xk), some (zi y132), some (zi v137), some (zi v143), some (zi v145), none]) (st' := [zi v145]) (by decide +kernel) (fun k q => by cases q) rfl ?_
        rcases Decidable.em (v145.toInt ≠ 0) with q453 | q453
        ·
          refine y_iT (c := .ne) (off := 5) (pc' := 226) (len := 3) (r := (0, 0, 0, 0)) (by decide +kernel) (acmpT (c := .ne) (by show ¬ (_ = _); omega)) (by decide +kernel) ?_
          refine y_same (i := .iload 5) (len := 2) (r := (0, 0, 0, 0)) (pc' := 228) (ls' := [some (.inl (some 52)), some (zi xk), some (zi y132), some (zi v137), some (zi v143), some (zi v145), none]) (st' := [zi v145]) (by decide +kernel) (fun k q => by cases q) rfl ?_
          refine y_ic (c := 1) (len := 1) (r := (0, 0, 0, 0)) (by decide +kernel) (by decide) (fun y454 hy454 => ?_)
          rcases Decidable.em (v145.toInt ≠ y454.toInt) with q455 | q455
          ·
            refine y_cT (c := .ne) (off := 7) (pc' := 236) (len := 3) (r := (0, 0, 0, 0)) (by decide +kernel) (acmpT (c := .ne) (by show ¬ (_ = _); omega)) (by decide +kernel) ?_
            refine y_same (i := .aload_n 0) (len := 1) (r := (0, 0, 0, 0)) (pc' := 237) (ls' := [some (.inl (some 52)), some (zi xk), some (zi y132), some (zi v137), some (zi v143), some (zi v145), none]) (st' := [.inl (some 52)]) (by decide +kernel) (fun k q => by cases q) rfl ?_
            refine y_cI (i := .invokevirtual 417) (len := 3) (r := (0, 247, 12, 1830)) (nL := 1) (k := 1) (n := 1) (hs := []) (args := [.inl (some 52)]) (rest := []) (l0 := [some (.inl (some 52))]) (by decide +kernel) (Or.inr (Or.inl ⟨_, rfl⟩)) rfl rfl rfl rfl (Nat.le_of_ble_eq_true rfl) (z52 hg) rfl (e_comesNew (m := pl) hg hp (by omega) (by omega)) (fun y456 h456 hRy456 => ?_)
            obtain ⟨ey456, τ456, O456, p456⟩ := hRy456
            refine y_same (i := .istore 6) (len := 2) (r := (0, 0, 0, 0)) (pc' := 242) (ls' := [some (.inl (some 52)), some (zi xk), some (zi y132), some (zi v137), some (zi v143), some (zi v145), some (zi y456)]) (st' := []) (by decide +kernel) (fun k q => by cases q) rfl ?_
            refine y_same (i := .aload_n 0) (len := 1) (r := (0, 0, 0, 0)) (pc' := 243) (ls' := [some (.inl (some 52)), some (zi xk), some (zi y132), some (zi v137), some (zi v143), some (zi v145), some (zi y456)]) (st' := [.inl (some 52)]) (by decide +kernel) (fun k q => by cases q) rfl ?_
            refine y_same (i := .iload_n 3) (len := 1) (r := (0, 0, 0, 0)) (pc' := 244) (ls' := [some (.inl (some 52)), some (zi xk), some (zi y132), some (zi v137), some (zi v143), some (zi v145), some (zi y456)]) (st' := [zi v137, .inl (some 52)]) (by decide +kernel) (fun k q => by cases q) rfl ?_
            refine y_ic (c := 1) (len := 1) (r := (0, 0, 0, 0)) (by decide +kernel) (by decide) (fun y457 hy457 => ?_)
            refine y_same (i := .iload 5) (len := 2) (r := (0, 0, 0, 0)) (pc' := 247) (ls' := [some (.inl (some 52)), some (zi xk), some (zi y132), some (zi v137), some (zi v143), some (zi v145), some (zi y456)]) (st' := [zi v145, zi y457, zi v137, .inl (some 52)]) (by decide +kernel) (fun k q => by cases q) rfl ?_
            refine y_ic (c := 2) (len := 1) (r := (0, 0, 0, 0)) (by decide +kernel) (by decide) (fun y458 hy458 => ?_)
            rcases Decidable.em (v145.toInt ≠ y458.toInt) with q459 | q459
            ·
              refine y_cT (c := .ne) (off := 8) (pc' := 256) (len := 3) (r := (0, 0, 0, 0)) (by decide +kernel) (acmpT (c := .ne) (by show ¬ (_ = _); omega)) (by decide +kernel) ?_
              refine y_ic (c := 0) (len := 1) (r := (0, 0, 0, 0)) (by decide +kernel) (by decide) (fun y460 hy460 => ?_)
              refine y_same (i := .iload 5) (len := 2) (r := (0, 0, 0, 0)) (pc' := 259) (ls' := [some (.inl (some 52)), some (zi xk), some (zi y132), some (zi v137), some (zi v143), some (zi v145), some (zi y456)]) (st' := [zi v145, zi y460, zi y457, zi v137, .inl (some 52)]) (by decide +kernel) (fun k q => by cases q) rfl ?_
              refine y_ic (c := 3) (len := 1) (r := (0, 0, 0, 0)) (by decide +kernel) (by decide) (fun y461 hy461 => ?_)
              rcases Decidable.em (v145.toInt ≠ y461.toInt) with q462 | q462
              ·
                refine y_cT (c := .ne) (off := 8) (pc' := 268) (len := 3) (r := (0, 0, 0, 0)) (by decide +kernel) (acmpT (c := .ne) (by show ¬ (_ = _); omega)) (by decide +kernel) ?_
                refine y_ic (c := 0) (len := 1) (r := (0, 0, 0, 0)) (by decide +kernel) (by decide) (fun y463 hy463 => ?_)
                refine y_cI (i := .invokevirtual 413) (len := 3) (r := (0, 246, 12, 1826)) (nL := 5) (k := 2) (n := 5) (hs := []) (args := [.inl (some 52), zi v137, zi y457, zi y460, zi y463]) (rest := []) (l0 := [some (.inl (some 52)), some (zi v137), some (zi y457), some (zi y460), some (zi y463)]) (by decide +kernel) (Or.inr (Or.inl ⟨_, rfl⟩)) rfl rfl rfl rfl (Nat.le_of_ble_eq_true rfl) (z52 O456.2.1) rfl (e_puts (a := v137.toInt.toNat) O456.2.1 (by omega) (by omega) (by omega) (by omega) (by omega) (by omega) (by omega) (by omega)) (fun y464 h464 hRy464 => ?_)
                obtain ⟨ly464, uy464, τ464, O464⟩ := hRy464
                rcases Decidable.em (y464.toInt = 0) with q465 | q465
                ·
                  refine y_iT (c := .eq) (off := 25) (pc' := 297) (len := 3) (r := (0, 0, 0, 0)) (by decide +kernel) (acmpT (c := .eq) (by show _ = _; omega)) (by decide +kernel) ?_
                  refine y_ic (c := 0) (len := 1) (r := (0, 0, 0, 0)) (by decide +kernel) (by decide) (fun y466 hy466 => ?_)
                  refine y_rI (len := 1) (r := (0, 0, 0, 0)) (nL := 7) (k := 2) (n9 := 2) (hs := []) (by decide +kernel) rfl (zfit_b (by omega) (by omega)).2 ?_
                  have hv467 := (O464.2.2 52 52 39 (t52 O456.2.1) (show 52 ≠ 383 ∧ 52 ≠ 384 ∧ 52 ≠ 385 by omega)).trans p456
                  exact ⟨by omega, by omega, ⟨_, ⟨(aup_trans O456.1 O464.1), O464.2.1, fun k T j hk (hC : k ≠ 383 ∧ k ≠ 384 ∧ k ≠ 385 ∧ (k ≠ 52 ∨ j ≠ 39)) => ((O464.2.2 k T j (O456.1 _ _ hk) (show k ≠ 383 ∧ k ≠ 384 ∧ k ≠ 385 by omega)).trans (O456.2.2 k T j hk (show k ≠ 383 ∧ (k ≠ 52 ∨ j ≠ 39) by omega)))⟩⟩, y456, hv467, by omega, by omega⟩
                ·
                  refine y_iF (c := .eq) (off := 25) (len := 3) (r := (0, 0, 0, 0)) (by decide +kernel) (acmpF (c := .eq) (by show ¬ (_ = _); omega)) ?_
                  refine y_same (i := .iload 5) (len := 2) (r := (0, 0, 0, 0)) (pc' := 277) (ls' := [some (.inl (some 52)), some (zi xk), some (zi y132), some (zi v137), some (zi v143), some (zi v145), some (zi y456)]) (st' := [zi v145]) (by decide +kernel) (fun k q => by cases q) rfl ?_
                  refine y_ic (c := 1) (len := 1) (r := (0, 0, 0, 0)) (by decide +kernel) (by decide) (fun y468 hy468 => ?_)
                  rcases Decidable.em (v145.toInt = y468.toInt) with q469 | q469
                  ·
                    refine y_cT (c := .eq) (off := 15) (pc' := 293) (len := 3) (r := (0, 0, 0, 0)) (by decide +kernel) (acmpT (c := .eq) (by show _ = _; omega)) (by decide +kernel) ?_
                    refine y_ic (c := 1) (len := 1) (r := (0, 0, 0, 0)) (by decide +kernel) (by decide) (fun y470 hy470 => ?_)
                    refine y_goto (off := 4) (pc' := 298) (len := 3) (r := (0, 0, 0, 0)) (by decide +kernel) (by decide +kernel) ?_
                    refine y_rI (len := 1) (r := (0, 0, 0, 0)) (nL := 7) (k := 2) (n9 := 2) (hs := []) (by decide +kernel) rfl (zfit_b (by omega) (by omega)).2 ?_
                    have hv471 := (O464.2.2 52 52 39 (t52 O456.2.1) (show 52 ≠ 383 ∧ 52 ≠ 384 ∧ 52 ≠ 385 by omega)).trans p456
                    exact ⟨by omega, by omega, ⟨_, ⟨(aup_trans O456.1 O464.1), O464.2.1, fun k T j hk (hC : k ≠ 383 ∧ k ≠ 384 ∧ k ≠ 385 ∧ (k ≠ 52 ∨ j ≠ 39)) => ((O464.2.2 k T j (O456.1 _ _ hk) (show k ≠ 383 ∧ k ≠ 384 ∧ k ≠ 385 by omega)).trans (O456.2.2 k T j hk (show k ≠ 383 ∧ (k ≠ 52 ∨ j ≠ 39) by omega)))⟩⟩, y456, hv471, by omega, by omega⟩
                  ·
                    refine y_cF (c := .eq) (off := 15) (len := 3) (r := (0, 0, 0, 0)) (by decide +kernel) (acmpF (c := .eq) (by show ¬ (_ = _); omega)) ?_
                    refine y_same (i := .aload_n 0) (len := 1) (r := (0, 0, 0, 0)) (pc' := 282) (ls' := [some (.inl (some 52)), some (zi xk), some (zi y132), some (zi v137), some (zi v143), some (zi v145), some (zi y456)]) (st' := [.inl (some 52)]) (by decide +kernel) (fun k q => by cases q) rfl ?_
                    refine y_same (i := .iload 6) (len := 2) (r := (0, 0, 0, 0)) (pc' := 284) (ls' := [some (.inl (some 52)), some (zi xk), some (zi y132), some (zi v137), some (zi v143), some (zi v145), some (zi y456)]) (st' := [zi y456, .inl (some 52)]) (by decide +kernel) (fun k q => by cases q) rfl ?_
                    refine y_ic (c := 1) (len := 1) (r := (0, 0, 0, 0)) (by decide +kernel) (by decide) (fun y472 hy472 => ?_)
                    refine y_ic (c := 0) (len := 1) (r := (0, 0, 0, 0)) (by decide +kernel) (by decide) (fun y473 hy473 => ?_)
                    refine y_ic (c := 0) (len := 1) (r := (0, 0, 0, 0)) (by decide +kernel) (by decide) (fun y474 hy474 => ?_)
                    refine y_cI (i := .invokevirtual 413) (len := 3) (r := (0, 246, 12, 1826)) (nL := 5) (k := 2) (n := 5) (hs := []) (args := [.inl (some 52), zi y456, zi y472, zi y473, zi y474]) (rest := []) (l0 := [some (.inl (some 52)), some (zi y456), some (zi y472), some (zi y473), some (zi y474)]) (by decide +kernel) (Or.inr (Or.inl ⟨_, rfl⟩)) rfl rfl rfl rfl (Nat.le_of_ble_eq_true rfl) (z52 O464.2.1) rfl (e_puts (a := (pl + 1)) O464.2.1 (by omega) (by omega) (by omega) (by omega) (by omega) (by omega) (by omega) (by omega)) (fun y475 h475 hRy475 => ?_)
                    obtain ⟨ly475, uy475, τ475, O475⟩ := hRy475
                    rcases Decidable.em (y475.toInt = 0) with q476 | q476
                    ·
                      refine y_iT (c := .eq) (off := 7) (pc' := 297) (len := 3) (r := (0, 0, 0, 0)) (by decide +kernel) (acmpT (c := .eq) (by show _ = _; omega)) (by decide +kernel) ?_
                      refine y_ic (c := 0) (len := 1) (r := (0, 0, 0, 0)) (by decide +kernel) (by decide) (fun y477 hy477 => ?_)
                      refine y_rI (len := 1) (r := (0, 0, 0, 0)) (nL := 7) (k := 2) (n9 := 2) (hs := []) (by decide +kernel) rfl (zfit_b (by omega) (by omega)).2 ?_
                      have hv478 := (O464.2.2 52 52 39 (t52 O456.2.1) (show 52 ≠ 383 ∧ 52 ≠ 384 ∧ 52 ≠ 385 by omega)).trans p456
                      have hv479 := (O475.2.2 52 52 39 (t52 O464.2.1) (show 52 ≠ 383 ∧ 52 ≠ 384 ∧ 52 ≠ 385 by omega)).trans hv478
                      exact ⟨by omega, by omega, ⟨_, ⟨(aup_trans (aup_trans O456.1 O464.1) O475.1), O475.2.1, fun k T j hk (hC : k ≠ 383 ∧ k ≠ 384 ∧ k ≠ 385 ∧ (k ≠ 52 ∨ j ≠ 39)) => ((O475.2.2 k T j (O464.1 _ _ (O456.1 _ _ hk)) (show k ≠ 383 ∧ k ≠ 384 ∧ k ≠ 385 by omega)).trans ((O464.2.2 k T j (O456.1 _ _ hk) (show k ≠ 383 ∧ k ≠ 384 ∧ k ≠ 385 by omega)).trans (O456.2.2 k T j hk (show k ≠ 383 ∧ (k ≠ 52 ∨ j ≠ 39) by omega))))⟩⟩, y456, hv479, by omega, by omega⟩
                    ·
                      refine y_iF (c := .eq) (off := 7) (len := 3) (r := (0, 0, 0, 0)) (by decide +kernel) (acmpF (c := .eq) (by show ¬ (_ = _); omega)) ?_
                      refine y_ic (c := 1) (len := 1) (r := (0, 0, 0, 0)) (by decide +kernel) (by decide) (fun y480 hy480 => ?_)
                      refine y_goto (off := 4) (pc' := 298) (len := 3) (r := (0, 0, 0, 0)) (by decide +kernel) (by decide +kernel) ?_
                      refine y_rI (len := 1) (r := (0, 0, 0, 0)) (nL := 7) (k := 2) (n9 := 2) (hs := []) (by decide +kernel) rfl (zfit_b (by omega) (by omega)).2 ?_
                      have hv481 := (O464.2.2 52 52 39 (t52 O456.2.1) (show 52 ≠ 383 ∧ 52 ≠ 384 ∧ 52 ≠ 385 by omega)).trans p456
                      have hv482 := (O475.2.2 52 52 39 (t52 O464.2.1) (show 52 ≠ 383 ∧ 52 ≠ 384 ∧ 52 ≠ 385 by omega)).trans hv481
                      exact ⟨by omega, by omega, ⟨_, ⟨(aup_trans (aup_trans O456.1 O464.1) O475.1), O475.2.1, fun k T j hk (hC : k ≠ 383 ∧ k ≠ 384 ∧ k ≠ 385 ∧ (k ≠ 52 ∨ j ≠ 39)) => ((O475.2.2 k T j (O464.1 _ _ (O456.1 _ _ hk)) (show k ≠ 383 ∧ k ≠ 384 ∧ k ≠ 385 by omega)).trans ((O464.2.2 k T j (O456.1 _ _ hk) (show k ≠ 383 ∧ k ≠ 384 ∧ k ≠ 385 by omega)).trans (O456.2.2 k T j hk (show k ≠ 383 ∧ (k ≠ 52 ∨ j ≠ 39) by omega))))⟩⟩, y456, hv482, by omega, by omega⟩
              ·
                refine y_cF (c := .ne) (off := 8) (len := 3) (r := (0, 0, 0, 0)) (by decide +kernel) (acmpF (c := .ne) (by show _ = _; omega)) ?_
                refine y_same (i := .iload 6) (len := 2) (r := (0, 0, 0, 0)) (pc' := 265) (ls' := [some (.inl (some 52)), some (zi xk), some (zi y132), some (zi v137), some (zi v143), some (zi v145), some (zi y456)]) (st' := [zi y456, zi y460, zi y457, zi v137, .inl (some 52)]) (by decide +kernel) (fun k q => by cases q) rfl ?_
                refine y_goto (off := 4) (pc' := 269) (len := 3) (r := (0, 0, 0, 0)) (by decide +kernel) (by decide +kernel) ?_
                refine y_cI (i := .invokevirtual 413) (len := 3) (r := (0, 246, 12, 1826)) (nL := 5) (k := 2) (n := 5) (hs := []) (args := [.inl (some 52), zi v137, zi y457, zi y460, zi y456]) (rest := []) (l0 := [some (.inl (some 52)), some (zi v137), some (zi y457), some (zi y460), some (zi y456)]) (by decide +kernel) (Or.inr (Or.inl ⟨_, rfl⟩)) rfl rfl rfl rfl (Nat.le_of_ble_eq_true rfl) (z52 O456.2.1) rfl (e_puts (a := v137.toInt.toNat) O456.2.1 (by omega) (by omega) (by omega) (by omega) (by omega) (by omega) (by omega) (by omega)) (fun y483 h483 hRy483 => ?_)
                obtain ⟨ly483, uy483, τ483, O483⟩ := hRy483
                rcases Decidable.em (y483.toInt = 0) with q484 | q484
                ·
                  refine y_iT (c := .eq) (off := 25) (pc' := 297) (len := 3) (r := (0, 0, 0, 0)) (by decide +kernel) (acmpT (c := .eq) (by show _ = _; omega)) (by decide +kernel) ?_
                  refine y_ic (c := 0) (len := 1) (r := (0, 0, 0, 0)) (by decide +kernel) (by decide) (fun y485 hy485 => ?_)
                  refine y_rI (len := 1) (r := (0, 0, 0, 0)) (nL := 7) (k := 2) (n9 := 2) (hs := []) (by decide +kernel) rfl (zfit_b (by omega) (by omega)).2 ?_
                  have hv486 := (O483.2.2 52 52 39 (t52 O456.2.1) (show 52 ≠ 383 ∧ 52 ≠ 384 ∧ 52 ≠ 385 by omega)).trans p456
                  exact ⟨by omega, by omega, ⟨_, ⟨(aup_trans O456.1 O483.1), O483.2.1, fun k T j hk (hC : k ≠ 383 ∧ k ≠ 384 ∧ k ≠ 385 ∧ (k ≠ 52 ∨ j ≠ 39)) => ((O483.2.2 k T j (O456.1 _ _ hk) (show k ≠ 383 ∧ k ≠ 384 ∧ k ≠ 385 by omega)).trans (O456.2.2 k T j hk (show k ≠ 383 ∧ (k ≠ 52 ∨ j ≠ 39) by omega)))⟩⟩, y456, hv486, by omega, by omega⟩
                ·
                  refine y_iF (c := .eq) (off := 25) (len := 3) (r := (0, 0, 0, 0)) (by decide +kernel) (acmpF (c := .eq) (by show ¬ (_ = _); omega)) ?_
                  refine y_same (i := .iload 5) (len := 2) (r := (0, 0, 0, 0)) (pc' := 277) (ls' := [some (.inl (some 52)), some (zi xk), some (zi y132), some (zi v137), some (zi v143), some (zi v145), some (zi y456)]) (st' := [zi v145]) (by decide +kernel) (fun k q => by cases q) rfl ?_
                  refine y_ic (c := 1) (len := 1) (r := (0, 0, 0, 0)) (by decide +kernel) (by decide) (fun y487 hy487 => ?_)
                  rcases Decidable.em (v145.toInt = y487.toInt) with q488 | q488
                  ·
                    refine y_cT (c := .eq) (off := 15) (pc' := 293) (len := 3) (r := (0, 0, 0, 0)) (by decide +kernel) (acmpT (c := .eq) (by show _ = _; omega)) (by decide +kernel) ?_
                    refine y_ic (c := 1) (len := 1) (r := (0, 0, 0, 0)) (by decide +kernel) (by decide) (fun y489 hy489 => ?_)
                    refine y_goto (off := 4) (pc' := 298) (len := 3) (r := (0, 0, 0, 0)) (by decide +kernel) (by decide +kernel) ?_
                    refine y_rI (len := 1) (r := (0, 0, 0, 0)) (nL := 7) (k := 2) (n9 := 2) (hs := []) (by decide +kernel) rfl (zfit_b (by omega) (by omega)).2 ?_
                    have hv490 := (O483.2.2 52 52 39 (t52 O456.2.1) (show 52 ≠ 383 ∧ 52 ≠ 384 ∧ 52 ≠ 385 by omega)).trans p456
                    exact ⟨by omega, by omega, ⟨_, ⟨(aup_trans O456.1 O483.1), O483.2.1, fun k T j hk (hC : k ≠ 383 ∧ k ≠ 384 ∧ k ≠ 385 ∧ (k ≠ 52 ∨ j ≠ 39)) => ((O483.2.2 k T j (O456.1 _ _ hk) (show k ≠ 383 ∧ k ≠ 384 ∧ k ≠ 385 by omega)).trans (O456.2.2 k T j hk (show k ≠ 383 ∧ (k ≠ 52 ∨ j ≠ 39) by omega)))⟩⟩, y456, hv490, by omega, by omega⟩
                  ·
                    refine y_cF (c := .eq) (off := 15) (len := 3) (r := (0, 0, 0, 0)) (by decide +kernel) (acmpF (c := .eq) (by show ¬ (_ = _); omega)) ?_
                    refine y_same (i := .aload_n 0) (len := 1) (r := (0, 0, 0, 0)) (pc' := 282) (ls' := [some (.inl (some 52)), some (zi xk), some (zi y132), some (zi v137), some (zi v143), some (zi v145), some (zi y456)]) (st' := [.inl (some 52)]) (by decide +kernel) (fun k q => by cases q) rfl ?_
                    refine y_same (i := .iload 6) (len := 2) (r := (0, 0, 0, 0)) (pc' := 284) (ls' := [some (.inl (some 52)), some (zi xk), some (zi y132), some (zi v137), some (zi v143), some (zi v145), some (zi y456)]) (st' := [zi y456, .inl (some 52)]) (by decide +kernel) (fun k q => by cases q) rfl ?_
                    refine y_ic (c := 1) (len := 1) (r := (0, 0, 0, 0)) (by decide +kernel) (by decide) (fun y491 hy491 => ?_)
                    refine y_ic (c := 0) (len := 1) (r := (0, 0, 0, 0)) (by decide +kernel) (by decide) (fun y492 hy492 => ?_)
                    refine y_ic (c := 0) (len := 1) (r := (0, 0, 0, 0)) (by decide +kernel) (by decide) (fun y493 hy493 => ?_)
                    refine y_cI (i := .invokevirtual 413) (len := 3) (r := (0, 246, 12, 1826)) (nL := 5) (k := 2) (n := 5) (hs := []) (args := [.inl (some 52), zi y456, zi y491, zi y492, zi y493]) (rest := []) (l0 := [some (.inl (some 52)), some (zi y456), some (zi y491), some (zi y492), some (zi y493)]) (by decide +kernel) (Or.inr (Or.inl ⟨_, rfl⟩)) rfl rfl rfl rfl (Nat.le_of_ble_eq_true rfl) (z52 O483.2.1) rfl (e_puts (a := (pl + 1)) O483.2.1 (by omega) (by omega) (by omega) (by omega) (by omega) (by omega) (by omega) (by omega)) (fun y494 h494 hRy494 => ?_)
                    obtain ⟨ly494, uy494, τ494, O494⟩ := hRy494
                    rcases Decidable.em (y494.toInt = 0) with q495 | q495
                    ·
                      refine y_iT (c := .eq) (off := 7) (pc' := 297) (len := 3) (r := (0, 0, 0, 0)) (by decide +kernel) (acmpT (c := .eq) (by show _ = _; omega)) (by decide +kernel) ?_
                      refine y_ic (c := 0) (len := 1) (r := (0, 0, 0, 0)) (by decide +kernel) (by decide) (fun y496 hy496 => ?_)
                      refine y_rI (len := 1) (r := (0, 0, 0, 0)) (nL := 7) (k := 2) (n9 := 2) (hs := []) (by decide +kernel) rfl (zfit_b (by omega) (by omega)).2 ?_
                      have hv497 := (O483.2.2 52 52 39 (t52 O456.2.1) (show 52 ≠ 383 ∧ 52 ≠ 384 ∧ 52 ≠ 385 by omega)).trans p456
                      have hv498 := (O494.2.2 52 52 39 (t52 O483.2.1) (show 52 ≠ 383 ∧ 52 ≠ 384 ∧ 52 ≠ 385 by omega)).trans hv497
                      exact ⟨by omega, by omega, ⟨_, ⟨(aup_trans (aup_trans O456.1 O483.1) O494.1), O494.2.1, fun k T j hk (hC : k ≠ 383 ∧ k ≠ 384 ∧ k ≠ 385 ∧ (k ≠ 52 ∨ j ≠ 39)) => ((O494.2.2 k T j (O483.1 _ _ (O456.1 _ _ hk)) (show k ≠ 383 ∧ k ≠ 384 ∧ k ≠ 385 by omega)).trans ((O483.2.2 k T j (O456.1 _ _ hk) (show k ≠ 383 ∧ k ≠ 384 ∧ k ≠ 385 by omega)).trans (O456.2.2 k T j hk (show k ≠ 383 ∧ (k ≠ 52 ∨ j ≠ 39) by omega))))⟩⟩, y456, hv498, by omega, by omega⟩
                    ·
                      refine y_iF (c := .eq) (off := 7) (len := 3) (r := (0, 0, 0, 0)) (by decide +kernel) (acmpF (c := .eq) (by show ¬ (_ = _); omega)) ?_
                      refine y_ic (c := 1) (len := 1) (r := (0, 0, 0, 0)) (by decide +kernel) (by decide) (fun y499 hy499 => ?_)
                      refine y_goto (off := 4) (pc' := 298) (len := 3) (r := (0, 0, 0, 0)) (by decide +kernel) (by decide +kernel) ?_
                      refine y_rI (len := 1) (r := (0, 0, 0, 0)) (nL := 7) (k := 2) (n9 := 2) (hs := []) (by decide +kernel) rfl (zfit_b (by omega) (by omega)).2 ?_
                      have hv500 := (O483.2.2 52 52 39 (t52 O456.2.1) (show 52 ≠ 383 ∧ 52 ≠ 384 ∧ 52 ≠ 385 by omega)).trans p456
                      have hv501 := (O494.2.2 52 52 39 (t52 O483.2.1) (show 52 ≠ 383 ∧ 52 ≠ 384 ∧ 52 ≠ 385 by omega)).trans hv500
                      exact ⟨by omega, by omega, ⟨_, ⟨(aup_trans (aup_trans O456.1 O483.1) O494.1), O494.2.1, fun k T j hk (hC : k ≠ 383 ∧ k ≠ 384 ∧ k ≠ 385 ∧ (k ≠ 52 ∨ j ≠ 39)) => ((O494.2.2 k T j (O483.1 _ _ (O456.1 _ _ hk)) (show k ≠ 383 ∧ k ≠ 384 ∧ k ≠ 385 by omega)).trans ((O483.2.2 k T j (O456.1 _ _ hk) (show k ≠ 383 ∧ k ≠ 384 ∧ k ≠ 385 by omega)).trans (O456.2.2 k T j hk (show k ≠ 383 ∧ (k ≠ 52 ∨ j ≠ 39) by omega))))⟩⟩, y456, hv501, by omega, by omega⟩
            ·
              refine y_cF (c := .ne) (off := 8) (len := 3) (r := (0, 0, 0, 0)) (by decide +kernel) (acmpF (c := .ne) (by show _ = _; omega)) ?_
              refine y_same (i := .iload 6) (len := 2) (r := (0, 0, 0, 0)) (pc' := 253) (ls' := [some (.inl (some 52)), some (zi xk), some (zi y132), some (zi v137), some (zi v143), some (zi v145), some (zi y456)]) (st' := [zi y456, zi y457, zi v137, .inl (some 52)]) (by decide +kernel) (fun k q => by cases q) rfl ?_
              refine y_goto (off := 4) (pc' := 257) (len := 3) (r := (0, 0, 0, 0)) (by decide +kernel) (by decide +kernel) ?_
              refine y_same (i := .iload 5) (len := 2) (r := (0, 0, 0, 0)) (pc' := 259) (ls' := [some (.inl (some 52)), some (zi xk), some (zi y132), some (zi v137), some (zi v143), some (zi v145), some (zi y456)]) (st' := [zi v145, zi y456, zi y457, zi v137, .inl (some 52)]) (by decide +kernel) (fun k q => by cases q) rfl ?_
              refine y_ic (c := 3) (len := 1) (r := (0, 0, 0, 0)) (by decide +kernel) (by decide) (fun y502 hy502 => ?_)
              rcases Decidable.em (v145.toInt ≠ y502.toInt) with q503 | q503
              ·
                refine y_cT (c := .ne) (off := 8) (pc' := 268) (len := 3) (r := (0, 0, 0, 0)) (by decide +kernel) (acmpT (c := .ne) (by show ¬ (_ = _); omega)) (by decide +kernel) ?_
                refine y_ic (c := 0) (len := 1) (r := (0, 0, 0, 0)) (by decide +kernel) (by decide) (fun y504 hy504 => ?_)
                refine y_cI (i := .invokevirtual 413) (len := 3) (r := (0, 246, 12, 1826)) (nL := 5) (k := 2) (n := 5) (hs := []) (args := [.inl (some 52), zi v137, zi y457, zi y456, zi y504]) (rest := []) (l0 := [some (.inl (some 52)), some (zi v137), some (zi y457), some (zi y456), some (zi y504)]) (by decide +kernel) (Or.inr (Or.inl ⟨_, rfl⟩)) rfl rfl rfl rfl (Nat.le_of_ble_eq_true rfl) (z52 O456.2.1) rfl (e_puts (a := v137.toInt.toNat) O456.2.1 (by omega) (by omega) (by omega) (by omega) (by omega) (by omega) (by omega) (by omega)) (fun y505 h505 hRy505 => ?_)
                obtain ⟨ly505, uy505, τ505, O505⟩ := hRy505
                rcases Decidable.em (y505.toInt = 0) with q506 | q506
                ·
                  refine y_iT (c := .eq) (off := 25) (pc' := 297) (len := 3) (r := (0, 0, 0, 0)) (by decide +kernel) (acmpT (c := .eq) (by show _ = _; omega)) (by decide +kernel) ?_
                  refine y_ic (c := 0) (len := 1) (r := (0, 0, 0, 0)) (by decide +kernel) (by decide) (fun y507 hy507 => ?_)
                  refine y_rI (len := 1) (r := (0, 0, 0, 0)) (nL := 7) (k := 2) (n9 := 2) (hs := []) (by decide +kernel) rfl (zfit_b (by omega) (by omega)).2 ?_
                  have hv508 := (O505.2.2 52 52 39 (t52 O456.2.1) (show 52 ≠ 383 ∧ 52 ≠ 384 ∧ 52 ≠ 385 by omega)).trans p456
                  exact ⟨by omega, by omega, ⟨_, ⟨(aup_trans O456.1 O505.1), O505.2.1, fun k T j hk (hC : k ≠ 383 ∧ k ≠ 384 ∧ k ≠ 385 ∧ (k ≠ 52 ∨ j ≠ 39)) => ((O505.2.2 k T j (O456.1 _ _ hk) (show k ≠ 383 ∧ k ≠ 384 ∧ k ≠ 385 by omega)).trans (O456.2.2 k T j hk (show k ≠ 383 ∧ (k ≠ 52 ∨ j ≠ 39) by omega)))⟩⟩, y456, hv508, by omega, by omega⟩
                ·
                  refine y_iF (c := .eq) (off := 25) (len := 3) (r := (0, 0, 0, 0)) (by decide +kernel) (acmpF (c := .eq) (by show ¬ (_ = _); omega)) ?_
                  refine y_same (i := .iload 5) (len := 2) (r := (0, 0, 0, 0)) (pc' := 277) (ls' := [some (.inl (some 52)), some (zi xk), some (zi y132), some (zi v137), some (zi v143), some (zi v145), some (zi y456)]) (st' := [zi v145]) (by decide +kernel) (fun k q => by cases q) rfl ?_
                  refine y_ic (c := 1) (len := 1) (r := (0, 0, 0, 0)) (by decide +kernel) (by decide) (fun y509 hy509 => ?_)
                  rcases Decidable.em (v145.toInt = y509.toInt) with q510 | q510
                  ·
                    refine y_cT (c := .eq) (off := 15) (pc' := 293) (len := 3) (r := (0, 0, 0, 0)) (by decide +kernel) (acmpT (c := .eq) (by show _ = _; omega)) (by decide +kernel) ?_
                    refine y_ic (c := 1) (len := 1) (r := (0, 0, 0, 0)) (by decide +kernel) (by decide) (fun y511 hy511 => ?_)
                    refine y_goto (off := 4) (pc' := 298) (len := 3) (r := (0, 0, 0, 0)) (by decide +kernel) (by decide +kernel) ?_
                    refine y_rI (len := 1) (r := (0, 0, 0, 0)) (nL := 7) (k := 2) (n9 := 2) (hs := []) (by decide +kernel) rfl (zfit_b (by omega) (by omega)).2 ?_
                    have hv512 := (O505.2.2 52 52 39 (t52 O456.2.1) (show 52 ≠ 383 ∧ 52 ≠ 384 ∧ 52 ≠ 385 by omega)).trans p456
                    exact ⟨by omega, by omega, ⟨_, ⟨(aup_trans O456.1 O505.1), O505.2.1, fun k T j hk (hC : k ≠ 383 ∧ k ≠ 384 ∧ k ≠ 385 ∧ (k ≠ 52 ∨ j ≠ 39)) => ((O505.2.2 k T j (O456.1 _ _ hk) (show k ≠ 383 ∧ k ≠ 384 ∧ k ≠ 385 by omega)).trans (O456.2.2 k T j hk (show k ≠ 383 ∧ (k ≠ 52 ∨ j ≠ 39) by omega)))⟩⟩, y456, hv512, by omega, by omega⟩
                  ·
                    refine y_cF (c := .eq) (off := 15) (len := 3) (r := (0, 0, 0, 0)) (by decide +kernel) (acmpF (c := .eq) (by show ¬ (_ = _); omega)) ?_
                    refine y_same (i := .aload_n 0) (len := 1) (r := (0, 0, 0, 0)) (pc' := 282) (ls' := [some (.inl (some 52)), some (zi xk), some (zi y132), some (zi v137), some (zi v143), some (zi v145), some (zi y456)]) (st' := [.inl (some 52)]) (by decide +kernel) (fun k q => by cases q) rfl ?_
                    refine y_same (i := .iload 6) (len := 2) (r := (0, 0, 0, 0)) (pc' := 284) (ls' := [some (.inl (some 52)), some (zi xk), some (zi y132), some (zi v137), some (zi v143), some (zi v145), some (zi y456)]) (st' := [zi y456, .inl (some 52)]) (by decide +kernel) (fun k q => by cases q) rfl ?_
                    refine y_ic (c := 1) (len := 1) (r := (0, 0, 0, 0)) (by decide +kernel) (by decide) (fun y513 hy513 => ?_)
                    refine y_ic (c := 0) (len := 1) (r := (0, 0, 0, 0)) (by decide +kernel) (by decide) (fun y514 hy514 => ?_)
                    refine y_ic (c := 0) (len := 1) (r := (0, 0, 0, 0)) (by decide +kernel) (by decide) (fun y515 hy515 => ?_)
                    refine y_cI (i := .invokevirtual 413) (len := 3) (r := (0, 246, 12, 1826)) (nL := 5) (k := 2) (n := 5) (hs := []) (args := [.inl (some 52), zi y456, zi y513, zi y514, zi y515]) (rest := []) (l0 := [some (.inl (some 52)), some (zi y456), some (zi y513), some (zi y514), some (zi y515)]) (by decide +kernel) (Or.inr (Or.inl ⟨_, rfl⟩)) rfl rfl rfl rfl (Nat.le_of_ble_eq_true rfl) (z52 O505.2.1) rfl (e_puts (a := (pl + 1)) O505.2.1 (by omega) (by omega) (by omega) (by omega) (by omega) (by omega) (by omega) (by omega)) (fun y516 h516 hRy516 => ?_)
                    obtain ⟨ly516, uy516, τ516, O516⟩ := hRy516
                    rcases Decidable.em (y516.toInt = 0) with q517 | q517
                    ·
                      refine y_iT (c := .eq) (off := 7) (pc' := 297) (len := 3) (r := (0, 0, 0, 0)) (by decide +kernel) (acmpT (c := .eq) (by show _ = _; omega)) (by decide +kernel) ?_
                      refine y_ic (c := 0) (len := 1) (r := (0, 0, 0, 0)) (by decide +kernel) (by decide) (fun y518 hy518 => ?_)
                      refine y_rI (len := 1) (r := (0, 0, 0, 0)) (nL := 7) (k := 2) (n9 := 2) (hs := []) (by decide +kernel) rfl (zfit_b (by omega) (by omega)).2 ?_
                      have hv519 := (O505.2.2 52 52 39 (t52 O456.2.1) (show 52 ≠ 383 ∧ 52 ≠ 384 ∧ 52 ≠ 385 by omega)).trans p456
                      have hv520 := (O516.2.2 52 52 39 (t52 O505.2.1) (show 52 ≠ 383 ∧ 52 ≠ 384 ∧ 52 ≠ 385 by omega)).trans hv519
                      exact ⟨by omega, by omega, ⟨_, ⟨(aup_trans (aup_trans O456.1 O505.1) O516.1), O516.2.1, fun k T j hk (hC : k ≠ 383 ∧ k ≠ 384 ∧ k ≠ 385 ∧ (k ≠ 52 ∨ j ≠ 39)) => ((O516.2.2 k T j (O505.1 _ _ (O456.1 _ _ hk)) (show k ≠ 383 ∧ k ≠ 384 ∧ k ≠ 385 by omega)).trans ((O505.2.2 k T j (O456.1 _ _ hk) (show k ≠ 383 ∧ k ≠ 384 ∧ k ≠ 385 by omega)).trans (O456.2.2 k T j hk (show k ≠ 383 ∧ (k ≠ 52 ∨ j ≠ 39) by omega))))⟩⟩, y456, hv520, by omega, by omega⟩
                    ·
                      refine y_iF (c := .eq) (off := 7) (len := 3) (r := (0, 0, 0, 0)) (by decide +kernel) (acmpF (c := .eq) (by show ¬ (_ = _); omega)) ?_
                      refine y_ic (c := 1) (len := 1) (r := (0, 0, 0, 0)) (by decide +kernel) (by decide) (fun y521 hy521 => ?_)
                      refine y_goto (off := 4) (pc' := 298) (len := 3) (r := (0, 0, 0, 0)) (by decide +kernel) (by decide +kernel) ?_
                      refine y_rI (len := 1) (r := (0, 0, 0, 0)) (nL := 7) (k := 2) (n9 := 2) (hs := []) (by decide +kernel) rfl (zfit_b (by omega) (by omega)).2 ?_
                      have hv522 := (O505.2.2 52 52 39 (t52 O456.2.1) (show 52 ≠ 383 ∧ 52 ≠ 384 ∧ 52 ≠ 385 by omega)).trans p456
                      have hv523 := (O516.2.2 52 52 39 (t52 O505.2.1) (show 52 ≠ 383 ∧ 52 ≠ 384 ∧ 52 ≠ 385 by omega)).trans hv522
                      exact ⟨by omega, by omega, ⟨_, ⟨(aup_trans (aup_trans O456.1 O505.1) O516.1), O516.2.1, fun k T j hk (hC : k ≠ 383 ∧ k ≠ 384 ∧ k ≠ 385 ∧ (k ≠ 52 ∨ j ≠ 39)) => ((O516.2.2 k T j (O505.1 _ _ (O456.1 _ _ hk)) (show k ≠ 383 ∧ k ≠ 384 ∧ k ≠ 385 by omega)).trans ((O505.2.2 k T j (O456.1 _ _ hk) (show k ≠ 383 ∧ k ≠ 384 ∧ k ≠ 385 by omega)).trans (O456.2.2 k T j hk (show k ≠ 383 ∧ (k ≠ 52 ∨ j ≠ 39) by omega))))⟩⟩, y456, hv523, by omega, by omega⟩
              ·
                refine y_cF (c := .ne) (off := 8) (len := 3) (r := (0, 0, 0, 0)) (by decide +kernel) (acmpF (c := .ne) (by show _ = _; omega)) ?_
                refine y_same (i := .iload 6) (len := 2) (r := (0, 0, 0, 0)) (pc' := 265) (ls' := [some (.inl (some 52)), some (zi xk), some (zi y132), some (zi v137), some (zi v143), some (zi v145), some (zi y456)]) (st' := [zi y456, zi y456, zi y457, zi v137, .inl (some 52)]) (by decide +kernel) (fun k q => by cases q) rfl ?_
                refine y_goto (off := 4) (pc' := 269) (len := 3) (r := (0, 0, 0, 0)) (by decide +kernel) (by decide +kernel) ?_
                refine y_cI (i := .invokevirtual 413) (len := 3) (r := (0, 246, 12, 1826)) (nL := 5) (k := 2) (n := 5) (hs := []) (args := [.inl (some 52), zi v137, zi y457, zi y456, zi y456]) (rest := []) (l0 := [some (.inl (some 52)), some (zi v137), some (zi y457), some (zi y456), some (zi y456)]) (by decide +kernel) (Or.inr (Or.inl ⟨_, rfl⟩)) rfl rfl rfl rfl (Nat.le_of_ble_eq_true rfl) (z52 O456.2.1) rfl (e_puts (a := v137.toInt.toNat) O456.2.1 (by omega) (by omega) (by omega) (by omega) (by omega) (by omega) (by omega) (by omega)) (fun y524 h524 hRy524 => ?_)
                obtain ⟨ly524, uy524, τ524, O524⟩ := hRy524
                rcases Decidable.em (y524.toInt = 0) with q525 | q525
                ·
                  refine y_iT (c := .eq) (off := 25) (pc' := 297) (len := 3) (r := (0, 0, 0, 0)) (by decide +kernel) (acmpT (c := .eq) (by show _ = _; omega)) (by decide +kernel) ?_
                  refine y_ic (c := 0) (len := 1) (r := (0, 0, 0, 0)) (by decide +kernel) (by decide) (fun y526 hy526 => ?_)
                  refine y_rI (len := 1) (r := (0, 0, 0, 0)) (nL := 7) (k := 2) (n9 := 2) (hs := []) (by decide +kernel) rfl (zfit_b (by omega) (by omega)).2 ?_
                  have hv527 := (O524.2.2 52 52 39 (t52 O456.2.1) (show 52 ≠ 383 ∧ 52 ≠ 384 ∧ 52 ≠ 385 by omega)).trans p456
                  exact ⟨by omega, by omega, ⟨_, ⟨(aup_trans O456.1 O524.1), O524.2.1, fun k T j hk (hC : k ≠ 383 ∧ k ≠ 384 ∧ k ≠ 385 ∧ (k ≠ 52 ∨ j ≠ 39)) => ((O524.2.2 k T j (O456.1 _ _ hk) (show k ≠ 383 ∧ k ≠ 384 ∧ k ≠ 385 by omega)).trans (O456.2.2 k T j hk (show k ≠ 383 ∧ (k ≠ 52 ∨ j ≠ 39) by omega)))⟩⟩, y456, hv527, by omega, by omega⟩
                ·
                  refine y_iF (c := .eq) (off := 25) (len := 3) (r := (0, 0, 0, 0)) (by decide +kernel) (acmpF (c := .eq) (by show ¬ (_ = _); omega)) ?_
                  refine y_same (i := .iload 5) (len := 2) (r := (0, 0, 0, 0)) (pc' := 277) (ls' := [some (.inl (some 52)), some (zi xk), some (zi y132), some (zi v137), some (zi v143), some (zi v145), some (zi y456)]) (st' := [zi v145]) (by decide +kernel) (fun k q => by cases q) rfl ?_
                  refine y_ic (c := 1) (len := 1) (r := (0, 0, 0, 0)) (by decide +kernel) (by decide) (fun y528 hy528 => ?_)
                  rcases Decidable.em (v145.toInt = y528.toInt) with q529 | q529
                  ·
                    refine y_cT (c := .eq) (off := 15) (pc' := 293) (len := 3) (r := (0, 0, 0, 0)) (by decide +kernel) (acmpT (c := .eq) (by show _ = _; omega)) (by decide +kernel) ?_
                    refine y_ic (c := 1) (len := 1) (r := (0, 0, 0, 0)) (by decide +kernel) (by decide) (fun y530 hy530 => ?_)
                    refine y_goto (off := 4) (pc' := 298) (len := 3) (r := (0, 0, 0, 0)) (by decide +kernel) (by decide +kernel) ?_
                    refine y_rI (len := 1) (r := (0, 0, 0, 0)) (nL := 7) (k := 2) (n9 := 2) (hs := []) (by decide +kernel) rfl (zfit_b (by omega) (by omega)).2 ?_
                    have hv531 := (O524.2.2 52 52 39 (t52 O456.2.1) (show 52 ≠ 383 ∧ 52 ≠ 384 ∧ 52 ≠ 385 by omega)).trans p456
                    exact ⟨by omega, by omega, ⟨_, ⟨(aup_trans O456.1 O524.1), O524.2.1, fun k T j hk (hC : k ≠ 383 ∧ k ≠ 384 ∧ k ≠ 385 ∧ (k ≠ 52 ∨ j ≠ 39)) => ((O524.2.2 k T j (O456.1 _ _ hk) (show k ≠ 383 ∧ k ≠ 384 ∧ k ≠ 385 by omega)).trans (O456.2.2 k T j hk (show k ≠ 383 ∧ (k ≠ 52 ∨ j ≠ 39) by omega)))⟩⟩, y456, hv531, by omega, by omega⟩
                  ·
                    refine y_cF (c := .eq) (off := 15) (len := 3) (r := (0, 0, 0, 0)) (by decide +kernel) (acmpF (c := .eq) (by show ¬ (_ = _); omega)) ?_
                    refine y_same (i := .aload_n 0) (len := 1) (r := (0, 0, 0, 0)) (pc' := 282) (ls' := [some (.inl (some 52)), some (zi xk), some (zi y132), some (zi v137), some (zi v143), some (zi v145), some (zi y456)]) (st' := [.inl (some 52)]) (by decide +kernel) (fun k q => by cases q) rfl ?_
                    refine y_same (i := .iload 6) (len := 2) (r := (0, 0, 0, 0)) (pc' := 284) (ls' := [some (.inl (some 52)), some (zi xk), some (zi y132), some (zi v137), some (zi v143), some (zi v145), some (zi y456)]) (st' := [zi y456, .inl (some 52)]) (by decide +kernel) (fun k q => by cases q) rfl ?_
                    refine y_ic (c := 1) (len := 1) (r := (0, 0, 0, 0)) (by decide +kernel) (by decide) (fun y532 hy532 => ?_)
                    refine y_ic (c := 0) (len := 1) (r := (0, 0, 0, 0)) (by decide +kernel) (by decide) (fun y533 hy533 => ?_)
                    refine y_ic (c := 0) (len := 1) (r := (0, 0, 0, 0)) (by decide +kernel) (by decide) (fun y534 hy534 => ?_)
                    refine y_cI (i := .invokevirtual 413) (len := 3) (r := (0, 246, 12, 1826)) (nL := 5) (k := 2) (n := 5) (hs := []) (args := [.inl (some 52), zi y456, zi y532, zi y533, zi y534]) (rest := []) (l0 := [some (.inl (some 52)), some (zi y456), some (zi y532), some (zi y533), some (zi y534)]) (by decide +kernel) (Or.inr (Or.inl ⟨_, rfl⟩)) rfl rfl rfl rfl (Nat.le_of_ble_eq_true rfl) (z52 O524.2.1) rfl (e_puts (a := (pl + 1)) O524.2.1 (by omega) (by omega) (by omega) (by omega) (by omega) (by omega) (by omega) (by omega)) (fun y535 h535 hRy535 => ?_)
                    obtain ⟨ly535, uy535, τ535, O535⟩ := hRy535
                    rcases Decidable.em (y535.toInt = 0) with q536 | q536
                    ·
                      refine y_iT (c := .eq) (off := 7) (pc' := 297) (len := 3) (r := (0, 0, 0, 0)) (by decide +kernel) (acmpT (c := .eq) (by show _ = _; omega)) (by decide +kernel) ?_
                      refine y_ic (c := 0) (len := 1) (r := (0, 0, 0, 0)) (by decide +kernel) (by decide) (fun y537 hy537 => ?_)
                      refine y_rI (len := 1) (r := (0, 0, 0, 0)) (nL := 7) (k := 2) (n9 := 2) (hs := []) (by decide +kernel) rfl (zfit_b (by omega) (by omega)).2 ?_
                      have hv538 := (O524.2.2 52 52 39 (t52 O456.2.1) (show 52 ≠ 383 ∧ 52 ≠ 384 ∧ 52 ≠ 385 by omega)).trans p456
                      have hv539 := (O535.2.2 52 52 39 (t52 O524.2.1) (show 52 ≠ 383 ∧ 52 ≠ 384 ∧ 52 ≠ 385 by omega)).trans hv538
                      exact ⟨by omega, by omega, ⟨_, ⟨(aup_trans (aup_trans O456.1 O524.1) O535.1), O535.2.1, fun k T j hk (hC : k ≠ 383 ∧ k ≠ 384 ∧ k ≠ 385 ∧ (k ≠ 52 ∨ j ≠ 39)) => ((O535.2.2 k T j (O524.1 _ _ (O456.1 _ _ hk)) (show k ≠ 383 ∧ k ≠ 384 ∧ k ≠ 385 by omega)).trans ((O524.2.2 k T j (O456.1 _ _ hk) (show k ≠ 383 ∧ k ≠ 384 ∧ k ≠ 385 by omega)).trans (O456.2.2 k T j hk (show k ≠ 383 ∧ (k ≠ 52 ∨ j ≠ 39) by omega))))⟩⟩, y456, hv539, by omega, by omega⟩
                    ·
                      refine y_iF (c := .eq) (off := 7) (len := 3) (r := (0, 0, 0, 0)) (by decide +kernel) (acmpF (c := .eq) (by show ¬ (_ = _); omega)) ?_
                      refine y_ic (c := 1) (len := 1) (r := (0, 0, 0, 0)) (by decide +kernel) (by decide) (fun y540 hy540 => ?_)
                      refine y_goto (off := 4) (pc' := 298) (len := 3) (r := (0, 0, 0, 0)) (by decide +kernel) (by decide +kernel) ?_
                      refine y_rI (len := 1) (r := (0, 0, 0, 0)) (nL := 7) (k := 2) (n9 := 2) (hs := []) (by decide +kernel) rfl (zfit_b (by omega) (by omega)).2 ?_
                      have hv541 := (O524.2.2 52 52 39 (t52 O456.2.1) (show 52 ≠ 383 ∧ 52 ≠ 384 ∧ 52 ≠ 385 by omega)).trans p456
                      have hv542 := (O535.2.2 52 52 39 (t52 O524.2.1) (show 52 ≠ 383 ∧ 52 ≠ 384 ∧ 52 ≠ 385 by omega)).trans hv541
                      exact ⟨by omega, by omega, ⟨_, ⟨(aup_trans (aup_trans O456.1 O524.1) O535.1), O535.2.1, fun k T j hk (hC : k ≠ 383 ∧ k ≠ 384 ∧ k ≠ 385 ∧ (k ≠ 52 ∨ j ≠ 39)) => ((O535.2.2 k T j (O524.1 _ _ (O456.1 _ _ hk)) (show k ≠ 383 ∧ k ≠ 384 ∧ k ≠ 385 by omega)).trans ((O524.2.2 k T j (O456.1 _ _ hk) (show k ≠ 383 ∧ k ≠ 384 ∧ k ≠ 385 by omega)).trans (O456.2.2 k T j hk (show k ≠ 383 ∧ (k ≠ 52 ∨ j ≠ 39) by omega))))⟩⟩, y456, hv542, by omega, by omega⟩
          ·
            refine y_cF (c := .ne) (off := 7) (len := 3) (r := (0, 0, 0, 0)) (by decide +kernel) (acmpF (c := .ne) (by show _ = _; omega)) ?_
            refine y_ic (c := 0) (len := 1) (r := (0, 0, 0, 0)) (by decide +kernel) (by decide) (fun y543 hy543 => ?_)
            refine y_goto (off := 7) (pc' := 240) (len := 3) (r := (0, 0, 0, 0)) (by decide +kernel) (by decide +kernel) ?_
            refine y_same (i := .istore 6) (len := 2) (r := (0, 0, 0, 0)) (pc' := 242) (ls' := [some (.inl (some 52)), some (zi xk), some (zi y132), some (zi v137), some (zi v143), some (zi v145), some (zi y543)]) (st' := []) (by decide +kernel) (fun k q => by cases q) rfl ?_
            refine y_same (i := .aload_n 0) (len := 1) (r := (0, 0, 0, 0)) (pc' := 243) (ls' := [some (.inl (some 52)), some (zi xk), some (zi y132), some (zi v137), some (zi v143), some (zi v145), some (zi y543)]) (st' := [.inl (some 52)]) (by decide +kernel) (fun k q => by cases q) rfl ?_
            refine y_same (i := .iload_n 3) (len := 1) (r := (0, 0, 0, 0)) (pc' := 244) (ls' := [some (.inl (some 52)), some (zi xk), some (zi y132), some (zi v137), some (zi v143), some (zi v145), some (zi y543)]) (st' := [zi v137, .inl (some 52)]) (by decide +kernel) (fun k q => by cases q) rfl ?_
            refine y_ic (c := 1) (len := 1) (r := (0, 0, 0, 0)) (by decide +kernel) (by decide) (fun y544 hy544 => ?_)
            refine y_same (i := .iload 5) (len := 2) (r := (0, 0, 0, 0)) (pc' := 247) (ls' := [some (.inl (some 52)), some (zi xk), some (zi y132), some (zi v137), some (zi v143), some (zi v145), some (zi y543)]) (st' := [zi v145, zi y544, zi v137, .inl (some 52)]) (by decide +kernel) (fun k q => by cases q) rfl ?_
            refine y_ic (c := 2) (len := 1) (r := (0, 0, 0, 0)) (by decide +kernel) (by decide) (fun y545 hy545 => ?_)
            rcases Decidable.em (v145.toInt ≠ y545.toInt) with q546 | q546
            ·
              refine y_cT (c := .ne) (off := 8) (pc' := 256) (len := 3) (r := (0, 0, 0, 0)) (by decide +kernel) (acmpT (c := .ne) (by show ¬ (_ = _); omega)) (by decide +kernel) ?_
              refine y_ic (c := 0) (len := 1) (r := (0, 0, 0, 0)) (by decide +kernel) (by decide) (fun y547 hy547 => ?_)
              refine y_same (i := .iload 5) (len := 2) (r := (0, 0, 0, 0)) (pc' := 259) (ls' := [some (.inl (some 52)), some (zi xk), some (zi y132), some (zi v137), some (zi v143), some (zi v145), some (zi y543)]) (st' := [zi v145, zi y547, zi y544, zi v137, .inl (some 52)]) (by decide +kernel) (fun k q => by cases q) rfl ?_
              refine y_ic (c := 3) (len := 1) (r := (0, 0, 0, 0)) (by decide +kernel) (by decide) (fun y548 hy548 => ?_)
              rcases Decidable.em (v145.toInt ≠ y548.toInt) with q549 | q549
              ·
                refine y_cT (c := .ne) (off := 8) (pc' := 268) (len := 3) (r := (0, 0, 0, 0)) (by decide +kernel) (acmpT (c := .ne) (by show ¬ (_ = _); omega)) (by decide +kernel) ?_
                refine y_ic (c := 0) (len := 1) (r := (0, 0, 0, 0)) (by decide +kernel) (by decide) (fun y550 hy550 => ?_)
                refine y_cI (i := .invokevirtual 413) (len := 3) (r := (0, 246, 12, 1826)) (nL := 5) (k := 2) (n := 5) (hs := []) (args := [.inl (some 52), zi v137, zi y544, zi y547, zi y550]) (rest := []) (l0 := [some (.inl (some 52)), some (zi v137), some (zi y544), some (zi y547), some (zi y550)]) (by decide +kernel) (Or.inr (Or.inl ⟨_, rfl⟩)) rfl rfl rfl rfl (Nat.le_of_ble_eq_true rfl) (z52 hg) rfl (e_puts (a := v137.toInt.toNat) hg (by omega) (by omega) (by omega) (by omega) (by omega) (by omega) (by omega) (by omega)) (fun y551 h551 hRy551 => ?_)
                obtain ⟨ly551, uy551, τ551, O551⟩ := hRy551
                rcases Decidable.em (y551.toInt = 0) with q552 | q552
                ·
                  refine y_iT (c := .eq) (off := 25) (pc' := 297) (len := 3) (r := (0, 0, 0, 0)) (by decide +kernel) (acmpT (c := .eq) (by show _ = _; omega)) (by decide +kernel) ?_
                  refine y_ic (c := 0) (len := 1) (r := (0, 0, 0, 0)) (by decide +kernel) (by decide) (fun y553 hy553 => ?_)
                  refine y_rI (len := 1) (r := (0, 0, 0, 0)) (nL := 7) (k := 2) (n9 := 2) (hs := []) (by decide +kernel) rfl (zfit_b (by omega) (by omega)).2 ?_
                  have hv554 := (O551.2.2 52 52 39 (t52 hg) (show 52 ≠ 383 ∧ 52 ≠ 384 ∧ 52 ≠ 385 by omega)).trans hp
                  exact ⟨by omega, by omega, ⟨_, ⟨O551.1, O551.2.1, fun k T j hk (hC : k ≠ 383 ∧ k ≠ 384 ∧ k ≠ 385 ∧ (k ≠ 52 ∨ j ≠ 39)) => (O551.2.2 k T j hk (show k ≠ 383 ∧ k ≠ 384 ∧ k ≠ 385 by omega))⟩⟩, xp, hv554, by omega, by omega⟩
                ·
                  refine y_iF (c := .eq) (off := 25) (len := 3) (r := (0, 0, 0, 0)) (by decide +kernel) (acmpF (c := .eq) (by show ¬ (_ = _); omega)) ?_
                  refine y_same (i := .iload 5) (len := 2) (r := (0, 0, 0, 0)) (pc' := 277) (ls' := [some (.inl (some 52)), some (zi xk), some (zi y132), some (zi v137), some (zi v143), some (zi v145), some (zi y543)]) (st' := [zi v145]) (by decide +kernel) (fun k q => by cases q) rfl ?_
                  refine y_ic (c := 1) (len := 1) (r := (0, 0, 0, 0)) (by decide +kernel) (by decide) (fun y555 hy555 => ?_)
                  rcases Decidable.em (v145.toInt = y555.toInt) with q556 | q556
                  ·
                    refine y_cT (c := .eq) (off := 15) (pc' := 293) (len := 3) (r := (0, 0, 0, 0)) (by decide +kernel) (acmpT (c := .eq) (by show _ = _; omega)) (by decide +kernel) ?_
                    refine y_ic (c := 1) (len := 1) (r := (0, 0, 0, 0)) (by decide +kernel) (by decide) (fun y557 hy557 => ?_)
                    refine y_goto (off := 4) (pc' := 298) (len := 3) (r := (0, 0, 0, 0)) (by decide +kernel) (by decide +kernel) ?_
                    refine y_rI (len := 1) (r := (0, 0, 0, 0)) (nL := 7) (k := 2) (n9 := 2) (hs := []) (by decide +kernel) rfl (zfit_b (by omega) (by omega)).2 ?_
                    have hv558 := (O551.2.2 52 52 39 (t52 hg) (show 52 ≠ 383 ∧ 52 ≠ 384 ∧ 52 ≠ 385 by omega)).trans hp
                    exact ⟨by omega, by omega, ⟨_, ⟨O551.1, O551.2.1, fun k T j hk (hC : k ≠ 383 ∧ k ≠ 384 ∧ k ≠ 385 ∧ (k ≠ 52 ∨ j ≠ 39)) => (O551.2.2 k T j hk (show k ≠ 383 ∧ k ≠ 384 ∧ k ≠ 385 by omega))⟩⟩, xp, hv558, by omega, by omega⟩
                  ·
                    refine y_cF (c := .eq) (off := 15) (len := 3) (r := (0, 0, 0, 0)) (by decide +kernel) (acmpF (c := .eq) (by show ¬ (_ = _); omega)) ?_
                    refine y_same (i := .aload_n 0) (len := 1) (r := (0, 0, 0, 0)) (pc' := 282) (ls' := [some (.inl (some 52)), some (zi xk), some (zi y132), some (zi v137), some (zi v143), some (zi v145), some (zi y543)]) (st' := [.inl (some 52)]) (by decide +kernel) (fun k q => by cases q) rfl ?_
                    refine y_same (i := .iload 6) (len := 2) (r := (0, 0, 0, 0)) (pc' := 284) (ls' := [some (.inl (some 52)), some (zi xk), some (zi y132), some (zi v137), some (zi v143), some (zi v145), some (zi y543)]) (st' := [zi y543, .inl (some 52)]) (by decide +kernel) (fun k q => by cases q) rfl ?_
                    refine y_ic (c := 1) (len := 1) (r := (0, 0, 0, 0)) (by decide +kernel) (by decide) (fun y559 hy559 => ?_)
                    refine y_ic (c := 0) (len := 1) (r := (0, 0, 0, 0)) (by decide +kernel) (by decide) (fun y560 hy560 => ?_)
                    refine y_ic (c := 0) (len := 1) (r := (0, 0, 0, 0)) (by decide +kernel) (by decide) (fun y561 hy561 => ?_)
                    refine y_cI (i := .invokevirtual 413) (len := 3) (r := (0, 246, 12, 1826)) (nL := 5) (k := 2) (n := 5) (hs := []) (args := [.inl (some 52), zi y543, zi y559, zi y560, zi y561]) (rest := []) (l0 := [some (.inl (some 52)), some (zi y543), some (zi y559), some (zi y560), some (zi y561)]) (by decide +kernel) (Or.inr (Or.inl ⟨_, rfl⟩)) rfl rfl rfl rfl (Nat.le_of_ble_eq_true rfl) (z52 O551.2.1) rfl (e_puts (a := 0) O551.2.1 (by omega) (by omega) (by omega) (by omega) (by omega) (by omega) (by omega) (by omega)) (fun y562 h562 hRy562 => ?_)
                    obtain ⟨ly562, uy562, τ562, O562⟩ := hRy562
                    rcases Decidable.em (y562.toInt = 0) with q563 | q563
                    ·
                      refine y_iT (c := .eq) (off := 7) (pc' := 297) (len := 3) (r := (0, 0, 0, 0)) (by decide +kernel) (acmpT (c := .eq) (by show _ = _; omega)) (by decide +kernel) ?_
                      refine y_ic (c := 0) (len := 1) (r := (0, 0, 0, 0)) (by decide +kernel) (by decide) (fun y564 hy564 => ?_)
                      refine y_rI (len := 1) (r := (0, 0, 0, 0)) (nL := 7) (k := 2) (n9 := 2) (hs := []) (by decide +kernel) rfl (zfit_b (by omega) (by omega)).2 ?_
                      have hv565 := (O551.2.2 52 52 39 (t52 hg) (show 52 ≠ 383 ∧ 52 ≠ 384 ∧ 52 ≠ 385 by omega)).trans hp
                      have hv566 := (O562.2.2 52 52 39 (t52 O551.2.1) (show 52 ≠ 383 ∧ 52 ≠ 384 ∧ 52 ≠ 385 by omega)).trans hv565
                      exact ⟨by omega, by omega, ⟨_, ⟨(aup_trans O551.1 O562.1), O562.2.1, fun k T j hk (hC : k ≠ 383 ∧ k ≠ 384 ∧ k ≠ 385 ∧ (k ≠ 52 ∨ j ≠ 39)) => ((O562.2.2 k T j (O551.1 _ _ hk) (show k ≠ 383 ∧ k ≠ 384 ∧ k ≠ 385 by omega)).trans (O551.2.2 k T j hk (show k ≠ 383 ∧ k ≠ 384 ∧ k ≠ 385 by omega)))⟩⟩, xp, hv566, by omega, by omega⟩
                    ·
                      refine y_iF (c := .eq) (off := 7) (len := 3) (r := (0, 0, 0, 0)) (by decide +kernel) (acmpF (c := .eq) (by show ¬ (_ = _); omega)) ?_
                      refine y_ic (c := 1) (len := 1) (r := (0, 0, 0, 0)) (by decide +kernel) (by decide) (fun y567 hy567 => ?_)
                      refine y_goto (off := 4) (pc' := 298) (len := 3) (r := (0, 0, 0, 0)) (by decide +kernel) (by decide +kernel) ?_
                      refine y_rI (len := 1) (r := (0, 0, 0, 0)) (nL := 7) (k := 2) (n9 := 2) (hs := []) (by decide +kernel) rfl (zfit_b (by omega) (by omega)).2 ?_
                      have hv568 := (O551.2.2 52 52 39 (t52 hg) (show 52 ≠ 383 ∧ 52 ≠ 384 ∧ 52 ≠ 385 by omega)).trans hp
                      have hv569 := (O562.2.2 52 52 39 (t52 O551.2.1) (show 52 ≠ 383 ∧ 52 ≠ 384 ∧ 52 ≠ 385 by omega)).trans hv568
                      exact ⟨by omega, by omega, ⟨_, ⟨(aup_trans O551.1 O562.1), O562.2.1, fun k T j hk (hC : k ≠ 383 ∧ k ≠ 384 ∧ k ≠ 385 ∧ (k ≠ 52 ∨ j ≠ 39)) => ((O562.2.2 k T j (O551.1 _ _ hk) (show k ≠ 383 ∧ k ≠ 384 ∧ k ≠ 385 by omega)).trans (O551.2.2 k T j hk (show k ≠ 383 ∧ k ≠ 384 ∧ k ≠ 385 by omega)))⟩⟩, xp, hv569, by omega, by omega⟩
              ·
                refine y_cF (c := .ne) (off := 8) (len := 3) (r := (0, 0, 0, 0)) (by decide +kernel) (acmpF (c := .ne) (by show _ = _; omega)) ?_
                refine y_same (i := .iload 6) (len := 2) (r := (0, 0, 0, 0)) (pc' := 265) (ls' := [some (.inl (some 52)), some (zi xk), some (zi y132), some (zi v137), some (zi v143), some (zi v145), some (zi y543)]) (st' := [zi y543, zi y547, zi y544, zi v137, .inl (some 52)]) (by decide +kernel) (fun k q => by cases q) rfl ?_
                refine y_goto (off := 4) (pc' := 269) (len := 3) (r := (0, 0, 0, 0)) (by decide +kernel) (by decide +kernel) ?_
                refine y_cI (i := .invokevirtual 413) (len := 3) (r := (0, 246, 12, 1826)) (nL := 5) (k := 2) (n := 5) (hs := []) (args := [.inl (some 52), zi v137, zi y544, zi y547, zi y543]) (rest := []) (l0 := [some (.inl (some 52)), some (zi v137), some (zi y544), some (zi y547), some (zi y543)]) (by decide +kernel) (Or.inr (Or.inl ⟨_, rfl⟩)) rfl rfl rfl rfl (Nat.le_of_ble_eq_true rfl) (z52 hg) rfl (e_puts (a := v137.toInt.toNat) hg (by omega) (by omega) (by omega) (by omega) (by omega) (by omega) (by omega) (by omega)) (fun y570 h570 hRy570 => ?_)
                obtain ⟨ly570, uy570, τ570, O570⟩ := hRy570
                rcases Decidable.em (y570.toInt = 0) with q571 | q571
                ·
                  refine y_iT (c := .eq) (off := 25) (pc' := 297) (len := 3) (r := (0, 0, 0, 0)) (by decide +kernel) (acmpT (c := .eq) (by show _ = _; omega)) (by decide +kernel) ?_
                  refine y_ic (c := 0) (len := 1) (r := (0, 0, 0, 0)) (by decide +kernel) (by decide) (fun y572 hy572 => ?_)
                  refine y_rI (len := 1) (r := (0, 0, 0, 0)) (nL := 7) (k := 2) (n9 := 2) (hs := []) (by decide +kernel) rfl (zfit_b (by omega) (by omega)).2 ?_
                  have hv573 := (O570.2.2 52 52 39 (t52 hg) (show 52 ≠ 383 ∧ 52 ≠ 384 ∧ 52 ≠ 385 by omega)).trans hp
                  exact ⟨by omega, by omega, ⟨_, ⟨O570.1, O570.2.1, fun k T j hk (hC : k ≠ 383 ∧ k ≠ 384 ∧ k ≠ 385 ∧ (k ≠ 52 ∨ j ≠ 39)) => (O570.2.2 k T j hk (show k ≠ 383 ∧ k ≠ 384 ∧ k ≠ 385 by omega))⟩⟩, xp, hv573, by omega, by omega⟩
                ·
                  refine y_iF (c := .eq) (off := 25) (len := 3) (r := (0, 0, 0, 0)) (by decide +kernel) (acmpF (c := .eq) (by show ¬ (_ = _); omega)) ?_
                  refine y_same (i := .iload 5) (len := 2) (r := (0, 0, 0, 0)) (pc' := 277) (ls' := [some (.inl (some 52)), some (zi xk), some (zi y132), some (zi v137), some (zi v143), some (zi v145), some (zi y543)]) (st' := [zi v145]) (by decide +kernel) (fun k q => by cases q) rfl ?_
                  refine y_ic (c := 1) (len := 1) (r := (0, 0, 0, 0)) (by decide +kernel) (by decide) (fun y574 hy574 => ?_)
                  rcases Decidable.em (v145.toInt = y574.toInt) with q575 | q575
                  ·
                    refine y_cT (c := .eq) (off := 15) (pc' := 293) (len := 3) (r := (0, 0, 0, 0)) (by decide +kernel) (acmpT (c := .eq) (by show _ = _; omega)) (by decide +kernel) ?_
                    refine y_ic (c := 1) (len := 1) (r := (0, 0, 0, 0)) (by decide +kernel) (by decide) (fun y576 hy576 => ?_)
                    refine y_goto (off := 4) (pc' := 298) (len := 3) (r := (0, 0, 0, 0)) (by decide +kernel) (by decide +kernel) ?_
                    refine y_rI (len := 1) (r := (0, 0, 0, 0)) (nL := 7) (k := 2) (n9 := 2) (hs := []) (by decide +kernel) rfl (zfit_b (by omega) (by omega)).2 ?_
                    have hv577 := (O570.2.2 52 52 39 (t52 hg) (show 52 ≠ 383 ∧ 52 ≠ 384 ∧ 52 ≠ 385 by omega)).trans hp
                    exact ⟨by omega, by omega, ⟨_, ⟨O570.1, O570.2.1, fun k T j hk (hC : k ≠ 383 ∧ k ≠ 384 ∧ k ≠ 385 ∧ (k ≠ 52 ∨ j ≠ 39)) => (O570.2.2 k T j hk (show k ≠ 383 ∧ k ≠ 384 ∧ k ≠ 385 by omega))⟩⟩, xp, hv577, by omega, by omega⟩
                  ·
                    refine y_cF (c := .eq) (off := 15) (len := 3) (r := (0, 0, 0, 0)) (by decide +kernel) (acmpF (c := .eq) (by show ¬ (_ = _); omega)) ?_
                    refine y_same (i := .aload_n 0) (len := 1) (r := (0, 0, 0, 0)) (pc' := 282) (ls' := [some (.inl (some 52)), some (zi xk), some (zi y132), some (zi v137), some (zi v143), some (zi v145), some (zi y543)]) (st' := [.inl (some 52)]) (by decide +kernel) (fun k q => by cases q) rfl ?_
                    refine y_same (i := .iload 6) (len := 2) (r := (0, 0, 0, 0)) (pc' := 284) (ls' := [some (.inl (some 52)), some (zi xk), some (zi y132), some (zi v137), some (zi v143), some (zi v145), some (zi y543)]) (st' := [zi y543, .inl (some 52)]) (by decide +kernel) (fun k q => by cases q) rfl ?_
                    refine y_ic (c := 1) (len := 1) (r := (0, 0, 0, 0)) (by decide +kernel) (by decide) (fun y578 hy578 => ?_)
                    refine y_ic (c := 0) (len := 1) (r := (0, 0, 0, 0)) (by decide +kernel) (by decide) (fun y579 hy579 => ?_)
                    refine y_ic (c := 0) (len := 1) (r := (0, 0, 0, 0)) (by decide +kernel) (by decide) (fun y580 hy580 => ?_)
                    refine y_cI (i := .invokevirtual 413) (len := 3) (r := (0, 246, 12, 1826)) (nL := 5) (k := 2) (n := 5) (hs := []) (args := [.inl (some 52), zi y543, zi y578, zi y579, zi y580]) (rest := []) (l0 := [some (.inl (some 52)), some (zi y543), some (zi y578), some (zi y579), some (zi y580)]) (by decide +kernel) (Or.inr (Or.inl ⟨_, rfl⟩)) rfl rfl rfl rfl (Nat.le_of_ble_eq_true rfl) (z52 O570.2.1) rfl (e_puts (a := 0) O570.2.1 (by omega) (by omega) (by omega) (by omega) (by omega) (by omega) (by omega) (by omega)) (fun y581 h581 hRy581 => ?_)
                    obtain ⟨ly581, uy581, τ581, O581⟩ := hRy581
                    rcases Decidable.em (y581.toInt = 0) with q582 | q582
                    ·
                      refine y_iT (c := .eq) (off := 7) (pc' := 297) (len := 3) (r := (0, 0, 0, 0)) (by decide +kernel) (acmpT (c := .eq) (by show _ = _; omega)) (by decide +kernel) ?_
                      refine y_ic (c := 0) (len := 1) (r := (0, 0, 0, 0)) (by decide +kernel) (by decide) (fun y583 hy583 => ?_)
                      refine y_rI (len := 1) (r := (0, 0, 0, 0)) (nL := 7) (k := 2) (n9 := 2) (hs := []) (by decide +kernel) rfl (zfit_b (by omega) (by omega)).2 ?_
                      have hv584 := (O570.2.2 52 52 39 (t52 hg) (show 52 ≠ 383 ∧ 52 ≠ 384 ∧ 52 ≠ 385 by omega)).trans hp
                      have hv585 := (O581.2.2 52 52 39 (t52 O570.2.1) (show 52 ≠ 383 ∧ 52 ≠ 384 ∧ 52 ≠ 385 by omega)).trans hv584
                      exact ⟨by omega, by omega, ⟨_, ⟨(aup_trans O570.1 O581.1), O581.2.1, fun k T j hk (hC : k ≠ 383 ∧ k ≠ 384 ∧ k ≠ 385 ∧ (k ≠ 52 ∨ j ≠ 39)) => ((O581.2.2 k T j (O570.1 _ _ hk) (show k ≠ 383 ∧ k ≠ 384 ∧ k ≠ 385 by omega)).trans (O570.2.2 k T j hk (show k ≠ 383 ∧ k ≠ 384 ∧ k ≠ 385 by omega)))⟩⟩, xp, hv585, by omega, by omega⟩
                    ·
                      refine y_iF (c := .eq) (off := 7) (len := 3) (r := (0, 0, 0, 0)) (by decide +kernel) (acmpF (c := .eq) (by show ¬ (_ = _); omega)) ?_
                      refine y_ic (c := 1) (len := 1) (r := (0, 0, 0, 0)) (by decide +kernel) (by decide) (fun y586 hy586 => ?_)
                      refine y_goto (off := 4) (pc' := 298) (len := 3) (r := (0, 0, 0, 0)) (by decide +kernel) (by decide +kernel) ?_
                      refine y_rI (len := 1) (r := (0, 0, 0, 0)) (nL := 7) (k := 2) (n9 := 2) (hs := []) (by decide +kernel) rfl (zfit_b (by omega) (by omega)).2 ?_
                      have hv587 := (O570.2.2 52 52 39 (t52 hg) (show 52 ≠ 383 ∧ 52 ≠ 384 ∧ 52 ≠ 385 by omega)).trans hp
                      have hv588 := (O581.2.2 52 52 39 (t52 O570.2.1) (show 52 ≠ 383 ∧ 52 ≠ 384 ∧ 52 ≠ 385 by omega)).trans hv587
                      exact ⟨by omega, by omega, ⟨_, ⟨(aup_trans O570.1 O581.1), O581.2.1, fun k T j hk (hC : k ≠ 383 ∧ k ≠ 384 ∧ k ≠ 385 ∧ (k ≠ 52 ∨ j ≠ 39)) => ((O581.2.2 k T j (O570.1 _ _ hk) (show k ≠ 383 ∧ k ≠ 384 ∧ k ≠ 385 by omega)).trans (O570.2.2 k T j hk (show k ≠ 383 ∧ k ≠ 384 ∧ k ≠ 385 by omega)))⟩⟩, xp, hv588, by omega, by omega⟩
            ·
              refine y_cF (c := .ne) (off := 8) (len := 3) (r := (0, 0, 0, 0)) (by decide +kernel) (acmpF (c := .ne) (by show _ = _; omega)) ?_
              refine y_same (i := .iload 6) (len := 2) (r := (0, 0, 0, 0)) (pc' := 253) (ls' := [some (.inl (some 52)), some (zi xk), some (zi y132), some (zi v137), some (zi v143), some (zi v145), some (zi y543)]) (st' := [zi y543, zi y544, zi v137, .inl (some 52)]) (by decide +kernel) (fun k q => by cases q) rfl ?_
              refine y_goto (off := 4) (pc' := 257) (len := 3) (r := (0, 0, 0, 0)) (by decide +kernel) (by decide +kernel) ?_
              refine y_same (i := .iload 5) (len := 2) (r := (0, 0, 0, 0)) (pc' := 259) (ls' := [some (.inl (some 52)), some (zi xk), some (zi y132), some (zi v137), some (zi v143), some (zi v145), some (zi y543)]) (st' := [zi v145, zi y543, zi y544, zi v137, .inl (some 52)]) (by decide +kernel) (fun k q => by cases q) rfl ?_
              refine y_ic (c := 3) (len := 1) (r := (0, 0, 0, 0)) (by decide +kernel) (by decide) (fun y589 hy589 => ?_)
              rcases Decidable.em (v145.toInt ≠ y589.toInt) with q590 | q590
              ·
                refine y_cT (c := .ne) (off := 8) (pc' := 268) (len := 3) (r := (0, 0, 0, 0)) (by decide +kernel) (acmpT (c := .ne) (by show ¬ (_ = _); omega)) (by decide +kernel) ?_
                refine y_ic (c := 0) (len := 1) (r := (0, 0, 0, 0)) (by decide +kernel) (by decide) (fun y591 hy591 => ?_)
                refine y_cI (i := .invokevirtual 413) (len := 3) (r := (0, 246, 12, 1826)) (nL := 5) (k := 2) (n := 5) (hs := []) (args := [.inl (some 52), zi v137, zi y544, zi y543, zi y591]) (rest := []) (l0 := [some (.inl (some 52)), some (zi v137), some (zi y544), some (zi y543), some (zi y591)]) (by decide +kernel) (Or.inr (Or.inl ⟨_, rfl⟩)) rfl rfl rfl rfl (Nat.le_of_ble_eq_true rfl) (z52 hg) rfl (e_puts (a := v137.toInt.toNat) hg (by omega) (by omega) (by omega) (by omega) (by omega) (by omega) (by omega) (by omega)) (fun y592 h592 hRy592 => ?_)
                obtain ⟨ly592, uy592, τ592, O592⟩ := hRy592
                rcases Decidable.em (y592.toInt = 0) with q593 | q593
                ·
                  refine y_iT (c := .eq) (off := 25) (pc' := 297) (len := 3) (r := (0, 0, 0, 0)) (by decide +kernel) (acmpT (c := .eq) (by show _ = _; omega)) (by decide +kernel) ?_
                  refine y_ic (c := 0) (len := 1) (r := (0, 0, 0, 0)) (by decide +kernel) (by decide) (fun y594 hy594 => ?_)
                  refine y_rI (len := 1) (r := (0, 0, 0, 0)) (nL := 7) (k := 2) (n9 := 2) (hs := []) (by decide +kernel) rfl (zfit_b (by omega) (by omega)).2 ?_
                  have hv595 := (O592.2.2 52 52 39 (t52 hg) (show 52 ≠ 383 ∧ 52 ≠ 384 ∧ 52 ≠ 385 by omega)).trans hp
                  exact ⟨by omega, by omega, ⟨_, ⟨O592.1, O592.2.1, fun k T j hk (hC : k ≠ 383 ∧ k ≠ 384 ∧ k ≠ 385 ∧ (k ≠ 52 ∨ j ≠ 39)) => (O592.2.2 k T j hk (show k ≠ 383 ∧ k ≠ 384 ∧ k ≠ 385 by omega))⟩⟩, xp, hv595, by omega, by omega⟩
                ·
                  refine y_iF (c := .eq) (off := 25) (len := 3) (r := (0, 0, 0, 0)) (by decide +kernel) (acmpF (c := .eq) (by show ¬ (_ = _); omega)) ?_
                  refine y_same (i := .iload 5) (len := 2) (r := (0, 0, 0, 0)) (pc' := 277) (ls' := [some (.inl (some 52)), some (zi xk), some (zi y132), some (zi v137), some (zi v143), some (zi v145), some (zi y543)]) (st' := [zi v145]) (by decide +kernel) (fun k q => by cases q) rfl ?_
                  refine y_ic (c := 1) (len := 1) (r := (0, 0, 0, 0)) (by decide +kernel) (by decide) (fun y596 hy596 => ?_)
                  rcases Decidable.em (v145.toInt = y596.toInt) with q597 | q597
                  ·
                    refine y_cT (c := .eq) (off := 15) (pc' := 293) (len := 3) (r := (0, 0, 0, 0)) (by decide +kernel) (acmpT (c := .eq) (by show _ = _; omega)) (by decide +kernel) ?_
                    refine y_ic (c := 1) (len := 1) (r := (0, 0, 0, 0)) (by decide +kernel) (by decide) (fun y598 hy598 => ?_)
                    refine y_goto (off := 4) (pc' := 298) (len := 3) (r := (0, 0, 0, 0)) (by decide +kernel) (by decide +kernel) ?_
                    refine y_rI (len := 1) (r := (0, 0, 0, 0)) (nL := 7) (k := 2) (n9 := 2) (hs := []) (by decide +kernel) rfl (zfit_b (by omega) (by omega)).2 ?_
                    have hv599 := (O592.2.2 52 52 39 (t52 hg) (show 52 ≠ 383 ∧ 52 ≠ 384 ∧ 52 ≠ 385 by omega)).trans hp
                    exact ⟨by omega, by omega, ⟨_, ⟨O592.1, O592.2.1, fun k T j hk (hC : k ≠ 383 ∧ k ≠ 384 ∧ k ≠ 385 ∧ (k ≠ 52 ∨ j ≠ 39)) => (O592.2.2 k T j hk (show k ≠ 383 ∧ k ≠ 384 ∧ k ≠ 385 by omega))⟩⟩, xp, hv599, by omega, by omega⟩
                  ·
                    refine y_cF (c := .eq) (off := 15) (len := 3) (r := (0, 0, 0, 0)) (by decide +kernel) (acmpF (c := .eq) (by show ¬ (_ = _); omega)) ?_
                    refine y_same (i := .aload_n 0) (len := 1) (r := (0, 0, 0, 0)) (pc' := 282) (ls' := [some (.inl (some 52)), some (zi xk), some (zi y132), some (zi v137), some (zi v143), some (zi v145), some (zi y543)]) (st' := [.inl (some 52)]) (by decide +kernel) (fun k q => by cases q) rfl ?_
                    refine y_same (i := .iload 6) (len := 2) (r := (0, 0, 0, 0)) (pc' := 284) (ls' := [some (.inl (some 52)), some (zi xk), some (zi y132), some (zi v137), some (zi v143), some (zi v145), some (zi y543)]) (st' := [zi y543, .inl (some 52)]) (by decide +kernel) (fun k q => by cases q) rfl ?_
                    refine y_ic (c := 1) (len := 1) (r := (0, 0, 0, 0)) (by decide +kernel) (by decide) (fun y600 hy600 => ?_)
                    refine y_ic (c := 0) (len := 1) (r := (0, 0, 0, 0)) (by decide +kernel) (by decide) (fun y601 hy601 => ?_)
                    refine y_ic (c := 0) (len := 1) (r := (0, 0, 0, 0)) (by decide +kernel) (by decide) (fun y602 hy602 => ?_)
                    refine y_cI (i := .invokevirtual 413) (len := 3) (r := (0, 246, 12, 1826)) (nL := 5) (k := 2) (n := 5) (hs := []) (args := [.inl (some 52), zi y543, zi y600, zi y601, zi y602]) (rest := []) (l0 := [some (.inl (some 52)), some (zi y543), some (zi y600), some (zi y601), some (zi y602)]) (by decide +kernel) (Or.inr (Or.inl ⟨_, rfl⟩)) rfl rfl rfl rfl (Nat.le_of_ble_eq_true rfl) (z52 O592.2.1) rfl (e_puts (a := 0) O592.2.1 (by omega) (by omega) (by omega) (by omega) (by omega) (by omega) (by omega) (by omega)) (fun y603 h603 hRy603 => ?_)
                    obtain ⟨ly603, uy603, τ603, O603⟩ := hRy603
                    rcases Decidable.em (y603.toInt = 0) with q604 | q604
                    ·
                      refine y_iT (c := .eq) (off := 7) (pc' := 297) (len := 3) (r := (0, 0, 0, 0)) (by decide +kernel) (acmpT (c := .eq) (by show _ = _; omega)) (by decide +kernel) ?_
                      refine y_ic (c := 0) (len := 1) (r := (0, 0, 0, 0)) (by decide +kernel) (by decide) (fun y605 hy605 => ?_)
                      refine y_rI (len := 1) (r := (0, 0, 0, 0)) (nL := 7) (k := 2) (n9 := 2) (hs := []) (by decide +kernel) rfl (zfit_b (by omega) (by omega)).2 ?_
                      have hv606 := (O592.2.2 52 52 39 (t52 hg) (show 52 ≠ 383 ∧ 52 ≠ 384 ∧ 52 ≠ 385 by omega)).trans hp
                      have hv607 := (O603.2.2 52 52 39 (t52 O592.2.1) (show 52 ≠ 383 ∧ 52 ≠ 384 ∧ 52 ≠ 385 by omega)).trans hv606
                      exact ⟨by omega, by omega, ⟨_, ⟨(aup_trans O592.1 O603.1), O603.2.1, fun k T j hk (hC : k ≠ 383 ∧ k ≠ 384 ∧ k ≠ 385 ∧ (k ≠ 52 ∨ j ≠ 39)) => ((O603.2.2 k T j (O592.1 _ _ hk) (show k ≠ 383 ∧ k ≠ 384 ∧ k ≠ 385 by omega)).trans (O592.2.2 k T j hk (show k ≠ 383 ∧ k ≠ 384 ∧ k ≠ 385 by omega)))⟩⟩, xp, hv607, by omega, by omega⟩
                    ·
                      refine y_iF (c := .eq) (off := 7) (len := 3) (r := (0, 0, 0, 0)) (by decide +kernel) (acmpF (c := .eq) (by show ¬ (_ = _); omega)) ?_
                      refine y_ic (c := 1) (len := 1) (r := (0, 0, 0, 0)) (by decide +kernel) (by decide) (fun y608 hy608 => ?_)
                      refine y_goto (off := 4) (pc' := 298) (len := 3) (r := (0, 0, 0, 0)) (by decide +kernel) (by decide +kernel) ?_
                      refine y_rI (len := 1) (r := (0, 0, 0, 0)) (nL := 7) (k := 2) (n9 := 2) (hs := []) (by decide +kernel) rfl (zfit_b (by omega) (by omega)).2 ?_
                      have hv609 := (O592.2.2 52 52 39 (t52 hg) (show 52 ≠ 383 ∧ 52 ≠ 384 ∧ 52 ≠ 385 by omega)).trans hp
                      have hv610 := (O603.2.2 52 52 39 (t52 O592.2.1) (show 52 ≠ 383 ∧ 52 ≠ 384 ∧ 52 ≠ 385 by omega)).trans hv609
                      exact ⟨by omega, by omega, ⟨_, ⟨(aup_trans O592.1 O603.1), O603.2.1, fun k T j hk (hC : k ≠ 383 ∧ k ≠ 384 ∧ k ≠ 385 ∧ (k ≠ 52 ∨ j ≠ 39)) => ((O603.2.2 k T j (O592.1 _ _ hk) (show k ≠ 383 ∧ k ≠ 384 ∧ k ≠ 385 by omega)).trans (O592.2.2 k T j hk (show k ≠ 383 ∧ k ≠ 384 ∧ k ≠ 385 by omega)))⟩⟩, xp, hv610, by omega, by omega⟩
              ·
                refine y_cF (c := .ne) (off := 8) (len := 3) (r := (0, 0, 0, 0)) (by decide +kernel) (acmpF (c := .ne) (by show _ = _; omega)) ?_
                refine y_same (i := .iload 6) (len := 2) (r := (0, 0, 0, 0)) (pc' := 265) (ls' := [some (.inl (some 52)), some (zi xk), some (zi y132), some (zi v137), some (zi v143), some (zi v145), some (zi y543)]) (st' := [zi y543, zi y543, zi y544, zi v137, .inl (some 52)]) (by decide +kernel) (fun k q => by cases q) rfl ?_
                refine y_goto (off := 4) (pc' := 269) (len := 3) (r := (0, 0, 0, 0)) (by decide +kernel) (by decide +kernel) ?_
                refine y_cI (i := .invokevirtual 413) (len := 3) (r := (0, 246, 12, 1826)) (nL := 5) (k := 2) (n := 5) (hs := []) (args := [.inl (some 52), zi v137, zi y544, zi y543, zi y543]) (rest := []) (l0 := [some (.inl (some 52)), some (zi v137), some (zi y544), some (zi y543), some (zi y543)]) (by decide +kernel) (Or.inr (Or.inl ⟨_, rfl⟩)) rfl rfl rfl rfl (Nat.le_of_ble_eq_true rfl) (z52 hg) rfl (e_puts (a := v137.toInt.toNat) hg (by omega) (by omega) (by omega) (by omega) (by omega) (by omega) (by omega) (by omega)) (fun y611 h611 hRy611 => ?_)
                obtain ⟨ly611, uy611, τ611, O611⟩ := hRy611
                rcases Decidable.em (y611.toInt = 0) with q612 | q612
                ·
                  refine y_iT (c := .eq) (off := 25) (pc' := 297) (len := 3) (r := (0, 0, 0, 0)) (by decide +kernel) (acmpT (c := .eq) (by show _ = _; omega)) (by decide +kernel) ?_
                  refine y_ic (c := 0) (len := 1) (r := (0, 0, 0, 0)) (by decide +kernel) (by decide) (fun y613 hy613 => ?_)
                  refine y_rI (len := 1) (r := (0, 0, 0, 0)) (nL := 7) (k := 2) (n9 := 2) (hs := []) (by decide +kernel) rfl (zfit_b (by omega) (by omega)).2 ?_
                  have hv614 := (O611.2.2 52 52 39 (t52 hg) (show 52 ≠ 383 ∧ 52 ≠ 384 ∧ 52 ≠ 385 by omega)).trans hp
                  exact ⟨by omega, by omega, ⟨_, ⟨O611.1, O611.2.1, fun k T j hk (hC : k ≠ 383 ∧ k ≠ 384 ∧ k ≠ 385 ∧ (k ≠ 52 ∨ j ≠ 39)) => (O611.2.2 k T j hk (show k ≠ 383 ∧ k ≠ 384 ∧ k ≠ 385 by omega))⟩⟩, xp, hv614, by omega, by omega⟩
                ·
                  refine y_iF (c := .eq) (off := 25) (len := 3) (r := (0, 0, 0, 0)) (by decide +kernel) (acmpF (c := .eq) (by show ¬ (_ = _); omega)) ?_
                  refine y_same (i := .iload 5) (len := 2) (r := (0, 0, 0, 0)) (pc' := 277) (ls' := [some (.inl (some 52)), some (zi xk), some (zi y132), some (zi v137), some (zi v143), some (zi v145), some (zi y543)]) (st' := [zi v145]) (by decide +kernel) (fun k q => by cases q) rfl ?_
                  refine y_ic (c := 1) (len := 1) (r := (0, 0, 0, 0)) (by decide +kernel) (by decide) (fun y615 hy615 => ?_)
                  rcases Decidable.em (v145.toInt = y615.toInt) with q616 | q616
                  ·
                    refine y_cT (c := .eq) (off := 15) (pc' := 293) (len := 3) (r := (0, 0, 0, 0)) (by decide +kernel) (acmpT (c := .eq) (by show _ = _; omega)) (by decide +kernel) ?_
                    refine y_ic (c := 1) (len := 1) (r := (0, 0, 0, 0)) (by decide +kernel) (by decide) (fun y617 hy617 => ?_)
                    refine y_goto (off := 4) (pc' := 298) (len := 3) (r := (0, 0, 0, 0)) (by decide +kernel) (by decide +kernel) ?_
                    refine y_rI (len := 1) (r := (0, 0, 0, 0)) (nL := 7) (k := 2) (n9 := 2) (hs := []) (by decide +kernel) rfl (zfit_b (by omega) (by omega)).2 ?_
                    have hv618 := (O611.2.2 52 52 39 (t52 hg) (show 52 ≠ 383 ∧ 52 ≠ 384 ∧ 52 ≠ 385 by omega)).trans hp
                    exact ⟨by omega, by omega, ⟨_, ⟨O611.1, O611.2.1, fun k T j hk (hC : k ≠ 383 ∧ k ≠ 384 ∧ k ≠ 385 ∧ (k ≠ 52 ∨ j ≠ 39)) => (O611.2.2 k T j hk (show k ≠ 383 ∧ k ≠ 384 ∧ k ≠ 385 by omega))⟩⟩, xp, hv618, by omega, by omega⟩
                  ·
                    refine y_cF (c := .eq) (off := 15) (len := 3) (r := (0, 0, 0, 0)) (by decide +kernel) (acmpF (c := .eq) (by show ¬ (_ = _); omega)) ?_
                    refine y_same (i := .aload_n 0) (len := 1) (r := (0, 0, 0, 0)) (pc' := 282) (ls' := [some (.inl (some 52)), some (zi xk), some (zi y132), some (zi v137), some (zi v143), some (zi v145), some (zi y543)]) (st' := [.inl (some 52)]) (by decide +kernel) (fun k q => by cases q) rfl ?_
                    refine y_same (i := .iload 6) (len := 2) (r := (0, 0, 0, 0)) (pc' := 284) (ls' := [some (.inl (some 52)), some (zi xk), some (zi y132), some (zi v137), some (zi v143), some (zi v145), some (zi y543)]) (st' := [zi y543, .inl (some 52)]) (by decide +kernel) (fun k q => by cases q) rfl ?_
                    refine y_ic (c := 1) (len := 1) (r := (0, 0, 0, 0)) (by decide +kernel) (by decide) (fun y619 hy619 => ?_)
                    refine y_ic (c := 0) (len := 1) (r := (0, 0, 0, 0)) (by decide +kernel) (by decide) (fun y620 hy620 => ?_)
                    refine y_ic (c := 0) (len := 1) (r := (0, 0, 0, 0)) (by decide +kernel) (by decide) (fun y621 hy621 => ?_)
                    refine y_cI (i := .invokevirtual 413) (len := 3) (r := (0, 246, 12, 1826)) (nL := 5) (k := 2) (n := 5) (hs := []) (args := [.inl (some 52), zi y543, zi y619, zi y620, zi y621]) (rest := []) (l0 := [some (.inl (some 52)), some (zi y543), some (zi y619), some (zi y620), some (zi y621)]) (by decide +kernel) (Or.inr (Or.inl ⟨_, rfl⟩)) rfl rfl rfl rfl (Nat.le_of_ble_eq_true rfl) (z52 O611.2.1) rfl (e_puts (a := 0) O611.2.1 (by omega) (by omega) (by omega) (by omega) (by omega) (by omega) (by omega) (by omega)) (fun y622 h622 hRy622 => ?_)
                    obtain ⟨ly622, uy622, τ622, O622⟩ := hRy622
                    rcases Decidable.em (y622.toInt = 0) with q623 | q623
                    ·
                      refine y_iT (c := .eq) (off := 7) (pc' := 297) (len := 3) (r := (0, 0, 0, 0)) (by decide +kernel) (acmpT (c := .eq) (by show _ = _; omega)) (by decide +kernel) ?_
                      refine y_ic (c := 0) (len := 1) (r := (0, 0, 0, 0)) (by decide +kernel) (by decide) (fun y624 hy624 => ?_)
                      refine y_rI (len := 1) (r := (0, 0, 0, 0)) (nL := 7) (k := 2) (n9 := 2) (hs := []) (by decide +kernel) rfl (zfit_b (by omega) (by omega)).2 ?_
                      have hv625 := (O611.2.2 52 52 39 (t52 hg) (show 52 ≠ 383 ∧ 52 ≠ 384 ∧ 52 ≠ 385 by omega)).trans hp
                      have hv626 := (O622.2.2 52 52 39 (t52 O611.2.1) (show 52 ≠ 383 ∧ 52 ≠ 384 ∧ 52 ≠ 385 by omega)).trans hv625
                      exact ⟨by omega, by omega, ⟨_, ⟨(aup_trans O611.1 O622.1), O622.2.1, fun k T j hk (hC : k ≠ 383 ∧ k ≠ 384 ∧ k ≠ 385 ∧ (k ≠ 52 ∨ j ≠ 39)) => ((O622.2.2 k T j (O611.1 _ _ hk) (show k ≠ 383 ∧ k ≠ 384 ∧ k ≠ 385 by omega)).trans (O611.2.2 k T j hk (show k ≠ 383 ∧ k ≠ 384 ∧ k ≠ 385 by omega)))⟩⟩, xp, hv626, by omega, by omega⟩
                    ·
                      refine y_iF (c := .eq) (off := 7) (len := 3) (r := (0, 0, 0, 0)) (by decide +kernel) (acmpF (c := .eq) (by show ¬ (_ = _); omega)) ?_
                      refine y_ic (c := 1) (len := 1) (r := (0, 0, 0, 0)) (by decide +kernel) (by decide) (fun y627 hy627 => ?_)
                      refine y_goto (off := 4) (pc' := 298) (len := 3) (r := (0, 0, 0, 0)) (by decide +kernel) (by decide +kernel) ?_
                      refine y_rI (len := 1) (r := (0, 0, 0, 0)) (nL := 7) (k := 2) (n9 := 2) (hs := []) (by decide +kernel) rfl (zfit_b (by omega) (by omega)).2 ?_
                      have hv628 := (O611.2.2 52 52 39 (t52 hg) (show 52 ≠ 383 ∧ 52 ≠ 384 ∧ 52 ≠ 385 by omega)).trans hp
                      have hv629 := (O622.2.2 52 52 39 (t52 O611.2.1) (show 52 ≠ 383 ∧ 52 ≠ 384 ∧ 52 ≠ 385 by omega)).trans hv628
                      exact ⟨by omega, by omega, ⟨_, ⟨(aup_trans O611.1 O622.1), O622.2.1, fun k T j hk (hC : k ≠ 383 ∧ k ≠ 384 ∧ k ≠ 385 ∧ (k ≠ 52 ∨ j ≠ 39)) => ((O622.2.2 k T j (O611.1 _ _ hk) (show k ≠ 383 ∧ k ≠ 384 ∧ k ≠ 385 by omega)).trans (O611.2.2 k T j hk (show k ≠ 383 ∧ k ≠ 384 ∧ k ≠ 385 by omega)))⟩⟩, xp, hv629, by omega, by omega⟩
        ·
          refine y_iF (c := .ne) (off := 5) (len := 3) (r := (0, 0, 0, 0)) (by decide +kernel) (acmpF (c := .ne) (by show _ = _; omega)) ?_
          refine y_ic (c := 1) (len := 1) (r := (0, 0, 0, 0)) (by decide +kernel) (by decide) (fun y630 hy630 => ?_)
          refine y_rI (len := 1) (r := (0, 0, 0, 0)) (nL := 7) (k := 2) (n9 := 2) (hs := []) (by decide +kernel) rfl (zfit_b (by omega) (by omega)).2 ?_
          exact ⟨by omega, by omega, ⟨_, oF_refl hg⟩, xp, hp, by omega, by omega⟩
theorem ib_2 {τ0 : List Nat} {h0 : zh} {t m : Nat} {xm : Int32} (hg0 : hG τ0 h0) (hLV0 : LV h0 0 m) (hxm : xm.toInt = (m : Int)) (hm5 : m ≤ 5) : ∀ (n : Nat) (τ : List Nat) (h : zh), oF (fun k j => k ≠ 383 ∧ k ≠ 384 ∧ k ≠ 385 ∧ (k ≠ 52 ∨ j ≠ 39)) τ0 h0 τ h → ∀ (k : Nat) (xk : Int32) (pl : Nat) (xp : Int32), hsl h 55 (46 * 0 + 0) = some (zi xm) → hsl h 52 39 = some (zi xp) → xp.toInt = (pl : Int) → pl ≤ 5 + k → xk.toInt = (k : Int) → k ≤ m → m ≤ k + n → qX 41 250 43 [some (.inl (some 52)), some (zi xk)] [] h t (rI (fun y h1 => 0 ≤ y.toInt ∧ y.toInt ≤ 1 ∧ ∃ τ1, oF (fun k j => k ≠ 383 ∧ k ≠ 384 ∧ k ≠ 385 ∧ (k ≠ 52 ∨ j ≠ 39)) τ0 h0 τ1 h1) t) := by
  intro n
  induction n with
  | zero =>
    intro τ h O0 k xk pl xp hm hp hxp hpl hxk hk hn
    have hg := O0.2.1
    refine y_same (i := .iload_n 1) (len := 1) (r := (0, 0, 0, 0)) (pc' := 44) (ls' := [some (.inl (some 52)), some (zi xk)]) (st' := [zi xk]) (by decide +kernel) (fun k q => by cases q) rfl ?_
    refine y_same (i := .aload_n 0) (len := 1) (r := (0, 0, 0, 0)) (pc' := 45) (ls' := [some (.inl (some 52)), some (zi xk)]) (st' := [.inl (some 52), zi xk]) (by decide +kernel) (fun k q => by cases q) rfl ?_
    refine y_get (j := 20) (len := 3) (r := (12, 9, 2, 1337)) (by decide +kernel) hg (t52 hg) at52 rfl rfl (g_r52 (f := 9) (T2 := 55) hg rfl (by decide)).1 ?_
    refine y_ic (c := 0) (len := 1) (r := (0, 0, 0, 0)) (by decide +kernel) (by decide) (fun y631 hy631 => ?_)
    refine y_cI (i := .invokestatic 143) (len := 3) (r := (1, 166, 12, 1543)) (nL := 2) (k := 1) (n := 2) (hs := []) (args := [.inl (some 55), zi y631]) (rest := [zi xk]) (l0 := [some (.inl (some 55)), some (zi y631)]) (by decide +kernel) (Or.inl ⟨_, rfl⟩) rfl rfl rfl rfl (Nat.le_of_ble_eq_true rfl) rfl rfl (e_parts (s := 0) hg (by omega) (by omega) hm) (fun y632 qy632 hRy632 => ?_)
    obtain ⟨rfl, rfl⟩ := hRy632
    refine y_cT (c := .ge) (off := 19) (pc' := 71) (len := 3) (r := (0, 0, 0, 0)) (by decide +kernel) (acmpT (c := .ge) (by show _ ≤ _; omega)) (by decide +kernel) ?_
    refine y_ic (c := 1) (len := 1) (r := (0, 0, 0, 0)) (by decide +kernel) (by decide) (fun y633 hy633 => ?_)
    refine y_rI (len := 1) (r := (0, 0, 0, 0)) (nL := 2) (k := 2) (n9 := 1) (hs := []) (by decide +kernel) rfl (zfit_b (by omega) (by omega)).2 ?_
    exact ⟨by omega, by omega, _, O0⟩
  | succ n ih =>
    intro τ h O0 k xk pl xp hm hp hxp hpl hxk hk hn
    have hg := O0.2.1
    refine y_same (i := .iload_n 1) (len := 1) (r := (0, 0, 0, 0)) (pc' := 44) (ls' := [some (.inl (some 52)), some (zi xk)]) (st' := [zi xk]) (by decide +kernel) (fun k q => by cases q) rfl ?_
    refine y_same (i := .aload_n 0) (len := 1) (r := (0, 0, 0, 0)) (pc' := 45) (ls' := [some (.inl (some 52)), some (zi xk)]) (st' := [.inl (some 52), zi xk]) (by decide +kernel) (fun k q => by cases q) rfl ?_
    refine y_get (j := 20) (len := 3) (r := (12, 9, 2, 1337)) (by decide +kernel) hg (t52 hg) at52 rfl rfl (g_r52 (f := 9) (T2 := 55) hg rfl (by decide)).1 ?_
    refine y_ic (c := 0) (len := 1) (r := (0, 0, 0, 0)) (by decide +kernel) (by decide) (fun y634 hy634 => ?_)
    refine y_cI (i := .invokestatic 143) (len := 3) (r := (1, 166, 12, 1543)) (nL := 2) (k := 1) (n := 2) (hs := []) (args := [.inl (some 55), zi y634]) (rest := [zi xk]) (l0 := [some (.inl (some 55)), some (zi y634)]) (by decide +kernel) (Or.inl ⟨_, rfl⟩) rfl rfl rfl rfl (Nat.le_of_ble_eq_true rfl) rfl rfl (e_parts (s := 0) hg (by omega) (by omega) hm) (fun y635 qy635 hRy635 => ?_)
    obtain ⟨rfl, rfl⟩ := hRy635
    rcases Decidable.em (xk.toInt ≥ xm.toInt) with q636 | q636
    ·
      refine y_cT (c := .ge) (off := 19) (pc' := 71) (len := 3) (r := (0, 0, 0, 0)) (by decide +kernel) (acmpT (c := .ge) (by show _ ≤ _; omega)) (by decide +kernel) ?_
      refine y_ic (c := 1) (len := 1) (r := (0, 0, 0, 0)) (by decide +kernel) (by decide) (fun y637 hy637 => ?_)
      refine y_rI (len := 1) (r := (0, 0, 0, 0)) (nL := 2) (k := 2) (n9 := 1) (hs := []) (by decide +kernel) rfl (zfit_b (by omega) (by omega)).2 ?_
      exact ⟨by omega, by omega, _, O0⟩
    ·
      refine y_cF (c := .ge) (off := 19) (len := 3) (r := (0, 0, 0, 0)) (by decide +kernel) (acmpF (c := .ge) (by show _ < _; omega)) ?_
      refine y_same (i := .aload_n 0) (len := 1) (r := (0, 0, 0, 0)) (pc' := 56) (ls' := [some (.inl (some 52)), some (zi xk)]) (st' := [.inl (some 52)]) (by decide +kernel) (fun k q => by cases q) rfl ?_
      refine y_same (i := .iload_n 1) (len := 1) (r := (0, 0, 0, 0)) (pc' := 57) (ls' := [some (.inl (some 52)), some (zi xk)]) (st' := [zi xk, .inl (some 52)]) (by decide +kernel) (fun k q => by cases q) rfl ?_
      have LVc := LV_up hLV0 (fun j => O0.2.2 55 55 j (tu55 hg0) (show 55 ≠ 383 ∧ 55 ≠ 384 ∧ 55 ≠ 385 ∧ (55 ≠ 52 ∨ j ≠ 39) by omega)) (fun j => O0.2.2 381 381 j (tu381 hg0) (show 381 ≠ 383 ∧ 381 ≠ 384 ∧ 381 ≠ 385 ∧ (381 ≠ 52 ∨ j ≠ 39) by omega))
      refine y_cI (i := .invokevirtual 426) (len := 3) (r := (0, 249, 12, 1822)) (nL := 7) (k := 2) (n := 2) (hs := []) (args := [.inl (some 52), zi xk]) (rest := []) (l0 := [some (.inl (some 52)), some (zi xk), none, none, none, none, none]) (by decide +kernel) (Or.inr (Or.inl ⟨_, rfl⟩)) rfl rfl rfl rfl (Nat.le_of_ble_eq_true rfl) (z52 hg) rfl (e_putsPart (k := k) (m := m) (pl := pl) hg (by omega) (by omega) (by omega) LVc hp (by omega) (by omega)) (fun y638 h638 hRy638 => ?_)
      obtain ⟨ly638, uy638, ⟨τ638, O638⟩, x638, p638, lx638, ux638⟩ := hRy638
      rcases Decidable.em (y638.toInt ≠ 0) with q639 | q639
      ·
        refine y_iT (c := .ne) (off := 5) (pc' := 65) (len := 3) (r := (0, 0, 0, 0)) (by decide +kernel) (acmpT (c := .ne) (by show ¬ (_ = _); omega)) (by decide +kernel) ?_
        refine y_inc (j := 1) (a := xk) (c := 1) (ls' := fun v => [some (.inl (some 52)), some v]) (len := 3) (r := (0, 0, 0, 0)) (by decide +kernel) rfl (fun _ => rfl) (by decide) (by omega) (by omega) (fun y640 hy640 => ?_)
        show qX 41 250 68 [some (.inl (some 52)), some (zi y640)] [] h638 t _
        refine y_goto (off := (-25)) (pc' := 43) (len := 3) (r := (0, 0, 0, 0)) (by decide +kernel) (by decide +kernel) ?_
        have hv641 := (O638.2.2 55 55 (46 * 0 + 0) (tu55 hg) (show 55 ≠ 383 ∧ 55 ≠ 384 ∧ 55 ≠ 385 ∧ (55 ≠ 52 ∨ (46 * 0 + 0) ≠ 39) by omega)).trans hm
        exact ih τ638 h638 ⟨aup_trans O0.1 O638.1, O638.2.1, fun k T j hk (hC : k ≠ 383 ∧ k ≠ 384 ∧ k ≠ 385 ∧ (k ≠ 52 ∨ j ≠ 39)) => ((O638.2.2 k T j (O0.1 _ _ hk) (show k ≠ 383 ∧ k ≠ 384 ∧ k ≠ 385 ∧ (k ≠ 52 ∨ j ≠ 39) by omega))).trans (O0.2.2 k T j hk hC)⟩ (k + 1) y640 (x638.toInt.toNat) x638 hv641 p638 (by omega) (by omega) (by omega) (by omega) (by omega)
      ·
        refine y_iF (c := .ne) (off := 5) (len := 3) (r := (0, 0, 0, 0)) (by decide +kernel) (acmpF (c := .ne) (by show _ = _; omega)) ?_
        refine y_ic (c := 0) (len := 1) (r := (0, 0, 0, 0)) (by decide +kernel) (by decide) (fun y642 hy642 => ?_)
        refine y_rI (len := 1) (r := (0, 0, 0, 0)) (nL := 2) (k := 2) (n9 := 1) (hs := []) (by decide +kernel) rfl (zfit_b (by omega) (by omega)).2 ?_
        exact ⟨by omega, by omega, _, ⟨aup_trans O0.1 O638.1, O638.2.1, fun k T j hk (hC : k ≠ 383 ∧ k ≠ 384 ∧ k ≠ 385 ∧ (k ≠ 52 ∨ j ≠ 39)) => ((O638.2.2 k T j (O0.1 _ _ hk) (show k ≠ 383 ∧ k ≠ 384 ∧ k ≠ 385 ∧ (k ≠ 52 ∨ j ≠ 39) by omega))).trans (O0.2.2 k T j hk hC)⟩⟩
theorem ib_1 {τ0 : List Nat} {h0 : zh} {t m pl : Nat} {xm xp : Int32} (hg0 : hG τ0 h0) (hLV0 : LV h0 0 m) (hxm : xm.toInt = (m : Int)) (hm5 : m ≤ 5) (hxp : xp.toInt = (pl : Int)) (hpl : pl ≤ 5) : ∀ (n : Nat) (τ : List Nat) (h : zh), oF (fun k j => k ≠ 383 ∧ k ≠ 384 ∧ k ≠ 385 ∧ (k ≠ 52 ∨ j ≠ 39)) τ0 h0 τ h → ∀ (k : Nat) (xk : Int32), hsl h 55 (46 * 0 + 0) = some (zi xm) → hsl h 52 39 = some (zi xp) → xk.toInt = (k : Int) → k ≤ pl + 1 → pl + 1 ≤ k + n → qX 41 250 10 [some (.inl (some 52)), some (zi xk)] [] h t (rI (fun y h1 => 0 ≤ y.toInt ∧ y.toInt ≤ 1 ∧ ∃ τ1, oF (fun k j => k ≠ 383 ∧ k ≠ 384 ∧ k ≠ 385 ∧ (k ≠ 52 ∨ j ≠ 39)) τ0 h0 τ1 h1) t) := by
  intro n
  induction n with
  | zero =>
    intro τ h O0 k xk hm hp hxk hk hn
    have hg := O0.2.1
    refine y_same (i := .iload_n 1) (len := 1) (r := (0, 0, 0, 0)) (pc' := 11) (ls' := [some (.inl (some 52)), some (zi xk)]) (st' := [zi xk]) (by decide +kernel) (fun k q => by cases q) rfl ?_
    refine y_same (i := .aload_n 0) (len := 1) (r := (0, 0, 0, 0)) (pc' := 12) (ls' := [some (.inl (some 52)), some (zi xk)]) (st' := [.inl (some 52), zi xk]) (by decide +kernel) (fun k q => by cases q) rfl ?_
    refine y_get (j := 410) (len := 3) (r := (12, 39, 0, 1367)) (by decide +kernel) hg (t52 hg) at52 rfl rfl hp ?_
    refine y_cT (c := .gt) (off := 16) (pc' := 31) (len := 3) (r := (0, 0, 0, 0)) (by decide +kernel) (acmpT (c := .gt) (by show _ < _; omega)) (by decide +kernel) ?_
    refine y_same (i := .aload_n 0) (len := 1) (r := (0, 0, 0, 0)) (pc' := 32) (ls' := [some (.inl (some 52)), some (zi xk)]) (st' := [.inl (some 52)]) (by decide +kernel) (fun k q => by cases q) rfl ?_
    refine y_ic (c := 0) (len := 1) (r := (0, 0, 0, 0)) (by decide +kernel) (by decide) (fun y643 hy643 => ?_)
    refine y_cI (i := .invokevirtual 423) (len := 3) (r := (0, 248, 12, 1818)) (nL := 4) (k := 2) (n := 2) (hs := []) (args := [.inl (some 52), zi y643]) (rest := []) (l0 := [some (.inl (some 52)), some (zi y643), none, none]) (by decide +kernel) (Or.inr (Or.inl ⟨_, rfl⟩)) rfl rfl rfl rfl (Nat.le_of_ble_eq_true rfl) (z52 hg) rfl (qI_le (by decide) (e_claimsAre (s := 0) hg (by omega) (by omega))) (fun y644 qy644 hRy644 => ?_)
    obtain ⟨rfl, ly644, uy644⟩ := hRy644
    rcases Decidable.em (y644.toInt ≠ 0) with q645 | q645
    ·
      refine y_iT (c := .ne) (off := 5) (pc' := 41) (len := 3) (r := (0, 0, 0, 0)) (by decide +kernel) (acmpT (c := .ne) (by show ¬ (_ = _); omega)) (by decide +kernel) ?_
      refine y_ic (c := 0) (len := 1) (r := (0, 0, 0, 0)) (by decide +kernel) (by decide) (fun y646 hy646 => ?_)
      refine y_same (i := .istore_n 1) (len := 1) (r := (0, 0, 0, 0)) (pc' := 43) (ls' := [some (.inl (some 52)), some (zi y646)]) (st' := []) (by decide +kernel) (fun k q => by cases q) rfl ?_
      exact ib_2 hg0 hLV0 hxm hm5 5 τ h O0 0 y646 pl xp hm hp hxp (by omega) (by omega) (by omega) (by omega)
    ·
      refine y_iF (c := .ne) (off := 5) (len := 3) (r := (0, 0, 0, 0)) (by decide +kernel) (acmpF (c := .ne) (by show _ = _; omega)) ?_
      refine y_ic (c := 0) (len := 1) (r := (0, 0, 0, 0)) (by decide +kernel) (by decide) (fun y647 hy647 => ?_)
      refine y_rI (len := 1) (r := (0, 0, 0, 0)) (nL := 2) (k := 2) (n9 := 1) (hs := []) (by decide +kernel) rfl (zfit_b (by omega) (by omega)).2 ?_
      exact ⟨by omega, by omega, _, O0⟩
  | succ n ih =>
    intro τ h O0 k xk hm hp hxk hk hn
    have hg := O0.2.1
    refine y_same (i := .iload_n 1) (len := 1) (r := (0, 0, 0, 0)) (pc' := 11) (ls' := [some (.inl (some 52)), some (zi xk)]) (st' := [zi xk]) (by decide +kernel) (fun k q => by cases q) rfl ?_
    refine y_same (i := .aload_n 0) (len := 1) (r := (0, 0, 0, 0)) (pc' := 12) (ls' := [some (.inl (some 52)), some (zi xk)]) (st' := [.inl (some 52), zi xk]) (by decide +kernel) (fun k q => by cases q) rfl ?_
    refine y_get (j := 410) (len := 3) (r := (12, 39, 0, 1367)) (by decide +kernel) hg (t52 hg) at52 rfl rfl hp ?_
    rcases Decidable.em (xk.toInt > xp.toInt) with q648 | q648
    ·
      refine y_cT (c := .gt) (off := 16) (pc' := 31) (len := 3) (r := (0, 0, 0, 0)) (by decide +kernel) (acmpT (c := .gt) (by show _ < _; omega)) (by decide +kernel) ?_
      refine y_same (i := .aload_n 0) (len := 1) (r := (0, 0, 0, 0)) (pc' := 32) (ls' := [some (.inl (some 52)), some (zi xk)]) (st' := [.inl (some 52)]) (by decide +kernel) (fun k q => by cases q) rfl ?_
      refine y_ic (c := 0) (len := 1) (r := (0, 0, 0, 0)) (by decide +kernel) (by decide) (fun y649 hy649 => ?_)
      refine y_cI (i := .invokevirtual 423) (len := 3) (r := (0, 248, 12, 1818)) (nL := 4) (k := 2) (n := 2) (hs := []) (args := [.inl (some 52), zi y649]) (rest := []) (l0 := [some (.inl (some 52)), some (zi y649), none, none]) (by decide +kernel) (Or.inr (Or.inl ⟨_, rfl⟩)) rfl rfl rfl rfl (Nat.le_of_ble_eq_true rfl) (z52 hg) rfl (qI_le (by decide) (e_claimsAre (s := 0) hg (by omega) (by omega))) (fun y650 qy650 hRy650 => ?_)
      obtain ⟨rfl, ly650, uy650⟩ := hRy650
      rcases Decidable.em (y650.toInt ≠ 0) with q651 | q651
      ·
        refine y_iT (c := .ne) (off := 5) (pc' := 41) (len := 3) (r := (0, 0, 0, 0)) (by decide +kernel) (acmpT (c := .ne) (by show ¬ (_ = _); omega)) (by decide +kernel) ?_
        refine y_ic (c := 0) (len := 1) (r := (0, 0, 0, 0)) (by decide +kernel) (by decide) (fun y652 hy652 => ?_)
        refine y_same (i := .istore_n 1) (len := 1) (r := (0, 0, 0, 0)) (pc' := 43) (ls' := [some (.inl (some 52)), some (zi y652)]) (st' := []) (by decide +kernel) (fun k q => by cases q) rfl ?_
        exact ib_2 hg0 hLV0 hxm hm5 5 τ h O0 0 y652 pl xp hm hp hxp (by omega) (by omega) (by omega) (by omega)
      ·
        refine y_iF (c := .ne) (off := 5) (len := 3) (r := (0, 0, 0, 0)) (by decide +kernel) (acmpF (c := .ne) (by show _ = _; omega)) ?_
        refine y_ic (c := 0) (len := 1) (r := (0, 0, 0, 0)) (by decide +kernel) (by decide) (fun y653 hy653 => ?_)
        refine y_rI (len := 1) (r := (0, 0, 0, 0)) (nL := 2) (k := 2) (n9 := 1) (hs := []) (by decide +kernel) rfl (zfit_b (by omega) (by omega)).2 ?_
        exact ⟨by omega, by omega, _, O0⟩
    ·
      refine y_cF (c := .gt) (off := 16) (len := 3) (r := (0, 0, 0, 0)) (by decide +kernel) (acmpF (c := .gt) (by show _ ≤ _; omega)) ?_
      refine y_same (i := .aload_n 0) (len := 1) (r := (0, 0, 0, 0)) (pc' := 19) (ls' := [some (.inl (some 52)), some (zi xk)]) (st' := [.inl (some 52)]) (by decide +kernel) (fun k q => by cases q) rfl ?_
      refine y_get (j := 76) (len := 3) (r := (12, 35, 2, 1363)) (by decide +kernel) hg (t52 hg) at52 rfl rfl (g_r52 (f := 35) (T2 := 383) hg rfl (by decide)).1 ?_
      refine y_same (i := .iload_n 1) (len := 1) (r := (0, 0, 0, 0)) (pc' := 23) (ls' := [some (.inl (some 52)), some (zi xk)]) (st' := [zi xk, .inl (some 383)]) (by decide +kernel) (fun k q => by cases q) rfl ?_
      refine y_ic (c := (-1)) (len := 1) (r := (0, 0, 0, 0)) (by decide +kernel) (by decide) (fun y654 hy654 => ?_)
      refine y_ias (i := k) (len := 1) (r := (0, 0, 0, 0)) (by decide +kernel) hg (tu383 hg) at383 rfl (by omega) (by omega) (sr1 (by omega)) (by omega) (by omega) (fun h655 hg655 hl655 hs655 ho655 => ?_)
      refine y_inc (j := 1) (a := xk) (c := 1) (ls' := fun v => [some (.inl (some 52)), some v]) (len := 3) (r := (0, 0, 0, 0)) (by decide +kernel) rfl (fun _ => rfl) (by decide) (by omega) (by omega) (fun y656 hy656 => ?_)
      show qX 41 250 28 [some (.inl (some 52)), some (zi y656)] [] h655 t _
      refine y_goto (off := (-18)) (pc' := 10) (len := 3) (r := (0, 0, 0, 0)) (by decide +kernel) (by decide +kernel) ?_
      have hv657 := (ho655 52 39 (Or.inl (by omega))).trans hp
      have hv658 := (ho655 55 (46 * 0 + 0) (Or.inl (by omega))).trans hm
      exact ih τ h655 ⟨aup_trans O0.1 (aup_refl _), hg655, fun k T j hk (hC : k ≠ 383 ∧ k ≠ 384 ∧ k ≠ 385 ∧ (k ≠ 52 ∨ j ≠ 39)) => ((ho655 k j (by omega))).trans (O0.2.2 k T j hk hC)⟩ (k + 1) y656 hv658 hv657 (by omega) (by omega) (by omega)
theorem e_isBuilt {t m : Nat} {τ : List Nat} {h : zh} {xm : Int32} (hg : hG τ h) (hLV : LV h 0 m) (hm : hsl h 55 (46 * 0 + 0) = some (zi xm)) (hxm : xm.toInt = (m : Int)) (hm5 : m ≤ 5) : qI 42 250 [some (.inl (some 52)), none] h t (fun y h1 => 0 ≤ y.toInt ∧ y.toInt ≤ 1 ∧ ∃ τ1, oF (fun k j => k ≠ 383 ∧ k ≠ 384 ∧ k ≠ 385 ∧ (k ≠ 52 ∨ j ≠ 39)) τ h τ1 h1) := by
  refine qI_of ?_
  refine y_same (i := .aload_n 0) (len := 1) (r := (0, 0, 0, 0)) (pc' := 1) (ls' := [some (.inl (some 52)), none]) (st' := [.inl (some 52)]) (by decide +kernel) (fun k q => by cases q) rfl ?_
  refine y_same (i := .aload_n 0) (len := 1) (r := (0, 0, 0, 0)) (pc' := 2) (ls' := [some (.inl (some 52)), none]) (st' := [.inl (some 52), .inl (some 52)]) (by decide +kernel) (fun k q => by cases q) rfl ?_
  obtain ⟨v659, hv660, lv659, uv659⟩ := g_int (i := 40) (lo := 0) (hi := 5) hg (t52 hg) at52 (by decide) rfl
  refine y_get (j := 420) (len := 3) (r := (12, 40, 0, 1368)) (by decide +kernel) hg (t52 hg) at52 rfl rfl hv660 ?_
  refine y_put (j := 410) (lo := 0) (hi := 31) (len := 3) (r := (12, 39, 0, 1367)) (by decide +kernel) hg (t52 hg) at52 rfl rfl (by decide) rfl (by omega) (by omega) rfl (fun h661 hg661 hl661 hs661 ho661 => ?_)
  have ho661 : hO 52 39 h h661 := ho661
  have hs661 : hsl h661 52 39 = some (zi v659) := hs661
  refine y_ic (c := 0) (len := 1) (r := (0, 0, 0, 0)) (by decide +kernel) (by decide) (fun y662 hy662 => ?_)
  refine y_same (i := .istore_n 1) (len := 1) (r := (0, 0, 0, 0)) (pc' := 10) (ls' := [some (.inl (some 52)), some (zi y662)]) (st' := []) (by decide +kernel) (fun k q => by cases q) rfl ?_
  have hv663 := (ho661 55 (46 * 0 + 0) (Or.inl (by omega))).trans hm
  exact ib_1 (pl := v659.toInt.toNat) hg hLV hxm hm5 (by omega) (by omega) 6 τ h661 ⟨(aup_refl _), hg661, fun k T j hk (hC : k ≠ 383 ∧ k ≠ 384 ∧ k ≠ 385 ∧ (k ≠ 52 ∨ j ≠ 39)) => (ho661 k j (by omega))⟩ 0 y662 hv663 hs661 (by omega) (by omega) (by omega)
theorem up_l {τ0 : List Nat} {h0 : zh} {t : Nat} {xk xq y : Int32} : ∀ (n : Nat) (τ : List Nat) (h : zh), oF (fun k j => k ≠ 386) τ0 h0 τ h → ∀ (a : Nat) (x : Int32), x.toInt = (a : Int) → a < 32 → 32 ≤ sm h 386 0 32 + n → qX 40 253 142 [some (.inl (some 52)), some (zi xk), some (zi xq), some (zi x), some (zi y)] [] h t (rI (fun y h1 => 0 ≤ y.toInt ∧ y.toInt ≤ 1 ∧ ∃ τ1, oF (fun k j => k ≠ 386) τ0 h0 τ1 h1) t) := by
  intro n
  induction n with
  | zero =>
    intro τ h O0 a x hx ha hn
    have hg := O0.2.1
    refine y_same (i := .iload_n 3) (len := 1) (r := (0, 0, 0, 0)) (pc' := 143) (ls' := [some (.inl (some 52)), some (zi xk), some (zi xq), some (zi x), some (zi y)]) (st' := [zi x]) (by decide +kernel) (fun k q => by cases q) rfl ?_
    refine y_same (i := .iload 4) (len := 2) (r := (0, 0, 0, 0)) (pc' := 145) (ls' := [some (.inl (some 52)), some (zi xk), some (zi xq), some (zi x), some (zi y)]) (st' := [zi y, zi x]) (by decide +kernel) (fun k q => by cases q) rfl ?_
    rcases Decidable.em (x.toInt = y.toInt) with q664 | q664
    ·
      refine y_cT (c := .eq) (off := 24) (pc' := 169) (len := 3) (r := (0, 0, 0, 0)) (by decide +kernel) (acmpT (c := .eq) (by show _ = _; omega)) (by decide +kernel) ?_
      refine y_ic (c := 1) (len := 1) (r := (0, 0, 0, 0)) (by decide +kernel) (by decide) (fun y665 hy665 => ?_)
      refine y_rI (len := 1) (r := (0, 0, 0, 0)) (nL := 5) (k := 2) (n9 := 2) (hs := []) (by decide +kernel) rfl (zfit_b (by omega) (by omega)).2 ?_
      exact ⟨by omega, by omega, _, O0⟩
    ·
      refine y_cF (c := .eq) (off := 24) (len := 3) (r := (0, 0, 0, 0)) (by decide +kernel) (acmpF (c := .eq) (by show ¬ (_ = _); omega)) ?_
      refine y_same (i := .aload_n 0) (len := 1) (r := (0, 0, 0, 0)) (pc' := 149) (ls' := [some (.inl (some 52)), some (zi xk), some (zi xq), some (zi x), some (zi y)]) (st' := [.inl (some 52)]) (by decide +kernel) (fun k q => by cases q) rfl ?_
      refine y_same (i := .iload_n 3) (len := 1) (r := (0, 0, 0, 0)) (pc' := 150) (ls' := [some (.inl (some 52)), some (zi xk), some (zi xq), some (zi x), some (zi y)]) (st' := [zi x, .inl (some 52)]) (by decide +kernel) (fun k q => by cases q) rfl ?_
      refine y_ic (c := 0) (len := 1) (r := (0, 0, 0, 0)) (by decide +kernel) (by decide) (fun y666 hy666 => ?_)
      refine y_cI (i := .invokevirtual 429) (len := 3) (r := (0, 251, 12, 1842)) (nL := 3) (k := 2) (n := 3) (hs := []) (args := [.inl (some 52), zi x, zi y666]) (rest := []) (l0 := [some (.inl (some 52)), some (zi x), some (zi y666)]) (by decide +kernel) (Or.inr (Or.inl ⟨_, rfl⟩)) rfl rfl rfl rfl (Nat.le_of_ble_eq_true rfl) (z52 hg) rfl (e_uses (a := a) hg (by omega) (by omega)) (fun y667 h667 hRy667 => ?_)
      obtain ⟨ly667, uy667, τ667, O667, g667, f667⟩ := hRy667
      have B0 := used_le O667.2.1
      have N0 : ¬ (y667.toInt ≠ 0) := fun h9 => by have := f667 h9; omega
      refine y_iF (c := .ne) (off := 5) (len := 3) (r := (0, 0, 0, 0)) (by decide +kernel) (acmpF (c := .ne) (by show _ = _; omega)) ?_
      refine y_ic (c := 0) (len := 1) (r := (0, 0, 0, 0)) (by decide +kernel) (by decide) (fun y668 hy668 => ?_)
      refine y_rI (len := 1) (r := (0, 0, 0, 0)) (nL := 5) (k := 2) (n9 := 2) (hs := []) (by decide +kernel) rfl (zfit_b (by omega) (by omega)).2 ?_
      exact ⟨by omega, by omega, _, ⟨aup_trans O0.1 O667.1, O667.2.1, fun k T j hk (hC : k ≠ 386) => ((O667.2.2 k T j (O0.1 _ _ hk) (show k ≠ 386 by omega))).trans (O0.2.2 k T j hk hC)⟩⟩
  | succ n ih =>
    intro τ h O0 a x hx ha hn
    have hg := O0.2.1
    refine y_same (i := .iload_n 3) (len := 1) (r := (0, 0, 0, 0)) (pc' := 143) (ls' := [some (.inl (some 52)), some (zi xk), some (zi xq), some (zi x), some (zi y)]) (st' := [zi x]) (by decide +kernel) (fun k q => by cases q) rfl ?_
    refine y_same (i := .iload 4) (len := 2) (r := (0, 0, 0, 0)) (pc' := 145) (ls' := [some (.inl (some 52)), some (zi xk), some (zi xq), some (zi x), some (zi y)]) (st' := [zi y, zi x]) (by decide +kernel) (fun k q => by cases q) rfl ?_
    rcases Decidable.em (x.toInt = y.toInt) with q669 | q669
    ·
      refine y_cT (c := .eq) (off := 24) (pc' := 169) (len := 3) (r := (0, 0, 0, 0)) (by decide +kernel) (acmpT (c := .eq) (by show _ = _; omega)) (by decide +kernel) ?_
      refine y_ic (c := 1) (len := 1) (r := (0, 0, 0, 0)) (by decide +kernel) (by decide) (fun y670 hy670 => ?_)
      refine y_rI (len := 1) (r := (0, 0, 0, 0)) (nL := 5) (k := 2) (n9 := 2) (hs := []) (by decide +kernel) rfl (zfit_b (by omega) (by omega)).2 ?_
      exact ⟨by omega, by omega, _, O0⟩
    ·
      refine y_cF (c := .eq) (off := 24) (len := 3) (r := (0, 0, 0, 0)) (by decide +kernel) (acmpF (c := .eq) (by show ¬ (_ = _); omega)) ?_
      refine y_same (i := .aload_n 0) (len := 1) (r := (0, 0, 0, 0)) (pc' := 149) (ls' := [some (.inl (some 52)), some (zi xk), some (zi xq), some (zi x), some (zi y)]) (st' := [.inl (some 52)]) (by decide +kernel) (fun k q => by cases q) rfl ?_
      refine y_same (i := .iload_n 3) (len := 1) (r := (0, 0, 0, 0)) (pc' := 150) (ls' := [some (.inl (some 52)), some (zi xk), some (zi xq), some (zi x), some (zi y)]) (st' := [zi x, .inl (some 52)]) (by decide +kernel) (fun k q => by cases q) rfl ?_
      refine y_ic (c := 0) (len := 1) (r := (0, 0, 0, 0)) (by decide +kernel) (by decide) (fun y671 hy671 => ?_)
      refine y_cI (i := .invokevirtual 429) (len := 3) (r := (0, 251, 12, 1842)) (nL := 3) (k := 2) (n := 3) (hs := []) (args := [.inl (some 52), zi x, zi y671]) (rest := []) (l0 := [some (.inl (some 52)), some (zi x), some (zi y671)]) (by decide +kernel) (Or.inr (Or.inl ⟨_, rfl⟩)) rfl rfl rfl rfl (Nat.le_of_ble_eq_true rfl) (z52 hg) rfl (e_uses (a := a) hg (by omega) (by omega)) (fun y672 h672 hRy672 => ?_)
      obtain ⟨ly672, uy672, τ672, O672, g672, f672⟩ := hRy672
      rcases Decidable.em (y672.toInt ≠ 0) with q673 | q673
      ·
        have B0 := used_le O672.2.1
        refine y_iT (c := .ne) (off := 5) (pc' := 159) (len := 3) (r := (0, 0, 0, 0)) (by decide +kernel) (acmpT (c := .ne) (by show ¬ (_ = _); omega)) (by decide +kernel) ?_
        refine y_same (i := .aload_n 0) (len := 1) (r := (0, 0, 0, 0)) (pc' := 160) (ls' := [some (.inl (some 52)), some (zi xk), some (zi xq), some (zi x), some (zi y)]) (st' := [.inl (some 52)]) (by decide +kernel) (fun k q => by cases q) rfl ?_
        refine y_get (j := 79) (len := 3) (r := (12, 36, 2, 1364)) (by decide +kernel) O672.2.1 (t52 O672.2.1) at52 rfl rfl (g_r52 (f := 36) (T2 := 384) O672.2.1 rfl (by decide)).1 ?_
        refine y_same (i := .iload_n 3) (len := 1) (r := (0, 0, 0, 0)) (pc' := 164) (ls' := [some (.inl (some 52)), some (zi xk), some (zi xq), some (zi x), some (zi y)]) (st' := [zi x, .inl (some 384)]) (by decide +kernel) (fun k q => by cases q) rfl ?_
        obtain ⟨v674, hv675, lv674, uv674⟩ := g_int (i := a) O672.2.1 (tu384 O672.2.1) at384 (show a < 32 by omega) (sr1 (by omega))
        refine y_ial (i := a) (len := 1) (r := (0, 0, 0, 0)) (by decide +kernel) O672.2.1 (tu384 O672.2.1) at384 (by omega) hv675 ?_
        refine y_same (i := .istore_n 3) (len := 1) (r := (0, 0, 0, 0)) (pc' := 166) (ls' := [some (.inl (some 52)), some (zi xk), some (zi xq), some (zi v674), some (zi y)]) (st' := []) (by decide +kernel) (fun k q => by cases q) rfl ?_
        refine y_goto (off := (-24)) (pc' := 142) (len := 3) (r := (0, 0, 0, 0)) (by decide +kernel) (by decide +kernel) ?_
        have N1 := f672 (by omega)
        exact ih τ672 h672 ⟨aup_trans O0.1 O672.1, O672.2.1, fun k T j hk (hC : k ≠ 386) => ((O672.2.2 k T j (O0.1 _ _ hk) (show k ≠ 386 by omega))).trans (O0.2.2 k T j hk hC)⟩ (v674.toInt.toNat) v674 (by omega) (by omega) (by omega)
      ·
        have B0 := used_le O672.2.1
        refine y_iF (c := .ne) (off := 5) (len := 3) (r := (0, 0, 0, 0)) (by decide +kernel) (acmpF (c := .ne) (by show _ = _; omega)) ?_
        refine y_ic (c := 0) (len := 1) (r := (0, 0, 0, 0)) (by decide +kernel) (by decide) (fun y676 hy676 => ?_)
        refine y_rI (len := 1) (r := (0, 0, 0, 0)) (nL := 5) (k := 2) (n9 := 2) (hs := []) (by decide +kernel) rfl (zfit_b (by omega) (by omega)).2 ?_
        exact ⟨by omega, by omega, _, ⟨aup_trans O0.1 O672.1, O672.2.1, fun k T j hk (hC : k ≠ 386) => ((O672.2.2 k T j (O0.1 _ _ hk) (show k ≠ 386 by omega))).trans (O0.2.2 k T j hk hC)⟩⟩
theorem e_usesPart {t k m : Nat} {τ : List Nat} {h : zh} {xk : Int32} (hg : hG τ h) (hxk : xk.toInt = (k : Int)) (hk : k < m) (hm : m ≤ 5) (hLV : LV h 1 m) : qI 41 253 [some (.inl (some 52)), some (zi xk), none, none, none] h t (fun y h1 => 0 ≤ y.toInt ∧ y.toInt ≤ 1 ∧ ∃ τ1, oF (fun k j => k ≠ 386) τ h τ1 h1) := by
  refine qI_of ?_
  refine y_ic (c := 1) (len := 1) (r := (0, 0, 0, 0)) (by decide +kernel) (by decide) (fun y677 hy677 => ?_)
  refine y_same (i := .iload_n 1) (len := 1) (r := (0, 0, 0, 0)) (pc' := 2) (ls' := [some (.inl (some 52)), some (zi xk), none, none, none]) (st' := [zi xk, zi y677]) (by decide +kernel) (fun k q => by cases q) rfl ?_
  refine y_cI (i := .invokestatic 147) (len := 3) (r := (1, 168, 12, 1546)) (nL := 2) (k := 1) (n := 2) (hs := []) (args := [zi y677, zi xk]) (rest := []) (l0 := [some (zi y677), some (zi xk)]) (by decide +kernel) (Or.inl ⟨_, rfl⟩) rfl rfl rfl rfl (Nat.le_of_ble_eq_true rfl) rfl rfl (e_partAt (s := 1) (k := k) (by omega) (by omega) (by omega) (by omega)) (fun y678 qy678 hRy678 => ?_)
  obtain ⟨rfl, hy678⟩ := hRy678
  refine y_same (i := .istore_n 2) (len := 1) (r := (0, 0, 0, 0)) (pc' := 6) (ls' := [some (.inl (some 52)), some (zi xk), some (zi y678), none, none]) (st' := []) (by decide +kernel) (fun k q => by cases q) rfl ?_
  refine y_same (i := .aload_n 0) (len := 1) (r := (0, 0, 0, 0)) (pc' := 7) (ls' := [some (.inl (some 52)), some (zi xk), some (zi y678), none, none]) (st' := [.inl (some 52)]) (by decide +kernel) (fun k q => by cases q) rfl ?_
  refine y_get (j := 70) (len := 3) (r := (12, 33, 2, 1361)) (by decide +kernel) hg (t52 hg) at52 rfl rfl (g_r52 (f := 33) (T2 := 381) hg rfl (by decide)).1 ?_
  refine y_same (i := .aload_n 0) (len := 1) (r := (0, 0, 0, 0)) (pc' := 11) (ls' := [some (.inl (some 52)), some (zi xk), some (zi y678), none, none]) (st' := [.inl (some 52), .inl (some 381)]) (by decide +kernel) (fun k q => by cases q) rfl ?_
  refine y_get (j := 20) (len := 3) (r := (12, 9, 2, 1337)) (by decide +kernel) hg (t52 hg) at52 rfl rfl (g_r52 (f := 9) (T2 := 55) hg rfl (by decide)).1 ?_
  refine y_same (i := .iload_n 2) (len := 1) (r := (0, 0, 0, 0)) (pc' := 15) (ls' := [some (.inl (some 52)), some (zi xk), some (zi y678), none, none]) (st' := [zi y678, .inl (some 55), .inl (some 381)]) (by decide +kernel) (fun k q => by cases q) rfl ?_
  refine y_ic (c := 1) (len := 1) (r := (0, 0, 0, 0)) (by decide +kernel) (by decide) (fun y679 hy679 => ?_)
  refine y_add (len := 1) (r := (0, 0, 0, 0)) (by decide +kernel) (by omega) (by omega) (fun y680 hy680 => ?_)
  obtain ⟨v681, hv682, lv681, uv681⟩ := g55 (i := ((46 * 1 + 2 + 4 * k) + 1)) hg (by omega) (by omega) (by omega)
  refine y_ial (i := ((46 * 1 + 2 + 4 * k) + 1)) (len := 1) (r := (0, 0, 0, 0)) (by decide +kernel) hg (tu55 hg) at55 (by omega) hv682 ?_
  obtain ⟨v683, hv684, lv683, uv683⟩ := g_int (i := v681.toInt.toNat) hg (tu381 hg) at381 (show v681.toInt.toNat < 6 by omega) (sr1 (by omega))
  have zv683 := hLV k (by omega) 1 (by omega) (by omega) _ _ hv682 hv684
  refine y_ial (i := v681.toInt.toNat) (len := 1) (r := (0, 0, 0, 0)) (by decide +kernel) hg (tu381 hg) at381 (by omega) hv684 ?_
  refine y_same (i := .istore_n 3) (len := 1) (r := (0, 0, 0, 0)) (pc' := 20) (ls' := [some (.inl (some 52)), some (zi xk), some (zi y678), some (zi v683), none]) (st' := []) (by decide +kernel) (fun k q => by cases q) rfl ?_
  refine y_same (i := .aload_n 0) (len := 1) (r := (0, 0, 0, 0)) (pc' := 21) (ls' := [some (.inl (some 52)), some (zi xk), some (zi y678), some (zi v683), none]) (st' := [.inl (some 52)]) (by decide +kernel) (fun k q => by cases q) rfl ?_
  refine y_get (j := 70) (len := 3) (r := (12, 33, 2, 1361)) (by decide +kernel) hg (t52 hg) at52 rfl rfl (g_r52 (f := 33) (T2 := 381) hg rfl (by decide)).1 ?_
  refine y_same (i := .aload_n 0) (len := 1) (r := (0, 0, 0, 0)) (pc' := 25) (ls' := [some (.inl (some 52)), some (zi xk), some (zi y678), some (zi v683), none]) (st' := [.inl (some 52), .inl (some 381)]) (by decide +kernel) (fun k q => by cases q) rfl ?_
  refine y_get (j := 20) (len := 3) (r := (12, 9, 2, 1337)) (by decide +kernel) hg (t52 hg) at52 rfl rfl (g_r52 (f := 9) (T2 := 55) hg rfl (by decide)).1 ?_
  refine y_same (i := .iload_n 2) (len := 1) (r := (0, 0, 0, 0)) (pc' := 29) (ls' := [some (.inl (some 52)), some (zi xk), some (zi y678), some (zi v683), none]) (st' := [zi y678, .inl (some 55), .inl (some 381)]) (by decide +kernel) (fun k q => by cases q) rfl ?_
  refine y_ic (c := 2) (len := 1) (r := (0, 0, 0, 0)) (by decide +kernel) (by decide) (fun y685 hy685 => ?_)
  refine y_add (len := 1) (r := (0, 0, 0, 0)) (by decide +kernel) (by omega) (by omega) (fun y686 hy686 => ?_)
  obtain ⟨v687, hv688, lv687, uv687⟩ := g55 (i := ((46 * 1 + 2 + 4 * k) + 2)) hg (by omega) (by omega) (by omega)
  refine y_ial (i := ((46 * 1 + 2 + 4 * k) + 2)) (len := 1) (r := (0, 0, 0, 0)) (by decide +kernel) hg (tu55 hg) at55 (by omega) hv688 ?_
  obtain ⟨v689, hv690, lv689, uv689⟩ := g_int (i := v687.toInt.toNat) hg (tu381 hg) at381 (show v687.toInt.toNat < 6 by omega) (sr1 (by omega))
  have zv689 := hLV k (by omega) 2 (by omega) (by omega) _ _ hv688 hv690
  refine y_ial (i := v687.toInt.toNat) (len := 1) (r := (0, 0, 0, 0)) (by decide +kernel) hg (tu381 hg) at381 (by omega) hv690 ?_
  refine y_same (i := .istore 4) (len := 2) (r := (0, 0, 0, 0)) (pc' := 35) (ls' := [some (.inl (some 52)), some (zi xk), some (zi y678), some (zi v683), some (zi v689)]) (st' := []) (by decide +kernel) (fun k q => by cases q) rfl ?_
  refine y_same (i := .aload_n 0) (len := 1) (r := (0, 0, 0, 0)) (pc' := 36) (ls' := [some (.inl (some 52)), some (zi xk), some (zi y678), some (zi v683), some (zi v689)]) (st' := [.inl (some 52)]) (by decide +kernel) (fun k q => by cases q) rfl ?_
  refine y_get (j := 20) (len := 3) (r := (12, 9, 2, 1337)) (by decide +kernel) hg (t52 hg) at52 rfl rfl (g_r52 (f := 9) (T2 := 55) hg rfl (by decide)).1 ?_
  refine y_same (i := .iload_n 2) (len := 1) (r := (0, 0, 0, 0)) (pc' := 40) (ls' := [some (.inl (some 52)), some (zi xk), some (zi y678), some (zi v683), some (zi v689)]) (st' := [zi y678, .inl (some 55)]) (by decide +kernel) (fun k q => by cases q) rfl ?_
  obtain ⟨v691, hv692, lv691, uv691⟩ := g55 (i := (46 * 1 + 2 + 4 * k)) hg (by omega) (by omega) (by omega)
  refine y_ial (i := (46 * 1 + 2 + 4 * k)) (len := 1) (r := (0, 0, 0, 0)) (by decide +kernel) hg (tu55 hg) at55 (by omega) hv692 ?_
  rcases (show v691.toInt = 0 ∨ v691.toInt = 1 ∨ v691.toInt = 2 ∨ v691.toInt < 0 ∨ 2 < v691.toInt by omega) with q693 | q693 | q693 | q693
  ·
    refine y_sw (dflt := 130) (lo := 0) (hi := 2) (offs := #[27, 53, 101]) (off := 27) (pc' := 68) (len := 27) (r := (0, 0, 0, 0)) (by decide +kernel) (zswI (k := 0) (by omega) (by omega) (by omega) rfl) (by decide +kernel) ?_
    refine y_same (i := .aload_n 0) (len := 1) (r := (0, 0, 0, 0)) (pc' := 69) (ls' := [some (.inl (some 52)), some (zi xk), some (zi y678), some (zi v683), some (zi v689)]) (st' := [.inl (some 52)]) (by decide +kernel) (fun k q => by cases q) rfl ?_
    refine y_same (i := .iload_n 3) (len := 1) (r := (0, 0, 0, 0)) (pc' := 70) (ls' := [some (.inl (some 52)), some (zi xk), some (zi y678), some (zi v683), some (zi v689)]) (st' := [zi v683, .inl (some 52)]) (by decide +kernel) (fun k q => by cases q) rfl ?_
    refine y_ic (c := 0) (len := 1) (r := (0, 0, 0, 0)) (by decide +kernel) (by decide) (fun y694 hy694 => ?_)
    refine y_cI (i := .invokevirtual 429) (len := 3) (r := (0, 251, 12, 1842)) (nL := 3) (k := 2) (n := 3) (hs := []) (args := [.inl (some 52), zi v683, zi y694]) (rest := []) (l0 := [some (.inl (some 52)), some (zi v683), some (zi y694)]) (by decide +kernel) (Or.inr (Or.inl ⟨_, rfl⟩)) rfl rfl rfl rfl (Nat.le_of_ble_eq_true rfl) (z52 hg) rfl (e_uses (a := v683.toInt.toNat) hg (by omega) (by omega)) (fun y695 h695 hRy695 => ?_)
    obtain ⟨ly695, uy695, τ695, O695, g695, f695⟩ := hRy695
    rcases Decidable.em (y695.toInt = 0) with q696 | q696
    ·
      refine y_iT (c := .eq) (off := 18) (pc' := 92) (len := 3) (r := (0, 0, 0, 0)) (by decide +kernel) (acmpT (c := .eq) (by show _ = _; omega)) (by decide +kernel) ?_
      refine y_ic (c := 0) (len := 1) (r := (0, 0, 0, 0)) (by decide +kernel) (by decide) (fun y697 hy697 => ?_)
      refine y_rI (len := 1) (r := (0, 0, 0, 0)) (nL := 5) (k := 2) (n9 := 2) (hs := []) (by decide +kernel) rfl (zfit_b (by omega) (by omega)).2 ?_
      exact ⟨by omega, by omega, _, ⟨O695.1, O695.2.1, fun k T j hk (hC : k ≠ 386) => (O695.2.2 k T j hk (show k ≠ 386 by omega))⟩⟩
    ·
      refine y_iF (c := .eq) (off := 18) (len := 3) (r := (0, 0, 0, 0)) (by decide +kernel) (acmpF (c := .eq) (by show ¬ (_ = _); omega)) ?_
      refine y_same (i := .aload_n 0) (len := 1) (r := (0, 0, 0, 0)) (pc' := 78) (ls' := [some (.inl (some 52)), some (zi xk), some (zi y678), some (zi v683), some (zi v689)]) (st' := [.inl (some 52)]) (by decide +kernel) (fun k q => by cases q) rfl ?_
      refine y_get (j := 79) (len := 3) (r := (12, 36, 2, 1364)) (by decide +kernel) O695.2.1 (t52 O695.2.1) at52 rfl rfl (g_r52 (f := 36) (T2 := 384) O695.2.1 rfl (by decide)).1 ?_
      refine y_same (i := .iload_n 3) (len := 1) (r := (0, 0, 0, 0)) (pc' := 82) (ls' := [some (.inl (some 52)), some (zi xk), some (zi y678), some (zi v683), some (zi v689)]) (st' := [zi v683, .inl (some 384)]) (by decide +kernel) (fun k q => by cases q) rfl ?_
      obtain ⟨v698, hv699, lv698, uv698⟩ := g_int (i := v683.toInt.toNat) O695.2.1 (tu384 O695.2.1) at384 (show v683.toInt.toNat < 32 by omega) (sr1 (by omega))
      refine y_ial (i := v683.toInt.toNat) (len := 1) (r := (0, 0, 0, 0)) (by decide +kernel) O695.2.1 (tu384 O695.2.1) at384 (by omega) hv699 ?_
      refine y_same (i := .iload 4) (len := 2) (r := (0, 0, 0, 0)) (pc' := 85) (ls' := [some (.inl (some 52)), some (zi xk), some (zi y678), some (zi v683), some (zi v689)]) (st' := [zi v689, zi v698]) (by decide +kernel) (fun k q => by cases q) rfl ?_
      rcases Decidable.em (v698.toInt ≠ v689.toInt) with q700 | q700
      ·
        refine y_cT (c := .ne) (off := 7) (pc' := 92) (len := 3) (r := (0, 0, 0, 0)) (by decide +kernel) (acmpT (c := .ne) (by show ¬ (_ = _); omega)) (by decide +kernel) ?_
        refine y_ic (c := 0) (len := 1) (r := (0, 0, 0, 0)) (by decide +kernel) (by decide) (fun y701 hy701 => ?_)
        refine y_rI (len := 1) (r := (0, 0, 0, 0)) (nL := 5) (k := 2) (n9 := 2) (hs := []) (by decide +kernel) rfl (zfit_b (by omega) (by omega)).2 ?_
        exact ⟨by omega, by omega, _, ⟨O695.1, O695.2.1, fun k T j hk (hC : k ≠ 386) => (O695.2.2 k T j hk (show k ≠ 386 by omega))⟩⟩
      ·
        refine y_cF (c := .ne) (off := 7) (len := 3) (r := (0, 0, 0, 0)) (by decide +kernel) (acmpF (c := .ne) (by show _ = _; omega)) ?_
        refine y_ic (c := 1) (len := 1) (r := (0, 0, 0, 0)) (by decide +kernel) (by decide) (fun y702 hy702 => ?_)
        refine y_goto (off := 4) (pc' := 93) (len := 3) (r := (0, 0, 0, 0)) (by decide +kernel) (by decide +kernel) ?_
        refine y_rI (len := 1) (r := (0, 0, 0, 0)) (nL := 5) (k := 2) (n9 := 2) (hs := []) (by decide +kernel) rfl (zfit_b (by omega) (by omega)).2 ?_
        exact ⟨by omega, by omega, _, ⟨O695.1, O695.2.1, fun k T j hk (hC : k ≠ 386) => (O695.2.2 k T j hk (show k ≠ 386 by omega))⟩⟩
  ·
    refine y_sw (dflt := 130) (lo := 0) (hi := 2) (offs := #[27, 53, 101]) (off := 53) (pc' := 94) (len := 27) (r := (0, 0, 0, 0)) (by decide +kernel) (zswI (k := 1) (by omega) (by omega) (by omega) rfl) (by decide +kernel) ?_
    refine y_same (i := .aload_n 0) (len := 1) (r := (0, 0, 0, 0)) (pc' := 95) (ls' := [some (.inl (some 52)), some (zi xk), some (zi y678), some (zi v683), some (zi v689)]) (st' := [.inl (some 52)]) (by decide +kernel) (fun k q => by cases q) rfl ?_
    refine y_same (i := .iload_n 3) (len := 1) (r := (0, 0, 0, 0)) (pc' := 96) (ls' := [some (.inl (some 52)), some (zi xk), some (zi y678), some (zi v683), some (zi v689)]) (st' := [zi v683, .inl (some 52)]) (by decide +kernel) (fun k q => by cases q) rfl ?_
    refine y_ic (c := 1) (len := 1) (r := (0, 0, 0, 0)) (by decide +kernel) (by decide) (fun y703 hy703 => ?_)
    refine y_cI (i := .invokevirtual 429) (len := 3) (r := (0, 251, 12, 1842)) (nL := 3) (k := 2) (n := 3) (hs := []) (args := [.inl (some 52), zi v683, zi y703]) (rest := []) (l0 := [some (.inl (some 52)), some (zi v683), some (zi y703)]) (by decide +kernel) (Or.inr (Or.inl ⟨_, rfl⟩)) rfl rfl rfl rfl (Nat.le_of_ble_eq_true rfl) (z52 hg) rfl (e_uses (a := v683.toInt.toNat) hg (by omega) (by omega)) (fun y704 h704 hRy704 => ?_)
    obtain ⟨ly704, uy704, τ704, O704, g704, f704⟩ := hRy704
    rcases Decidable.em (y704.toInt = 0) with q705 | q705
    ·
      refine y_iT (c := .eq) (off := 40) (pc' := 140) (len := 3) (r := (0, 0, 0, 0)) (by decide +kernel) (acmpT (c := .eq) (by show _ = _; omega)) (by decide +kernel) ?_
      refine y_ic (c := 0) (len := 1) (r := (0, 0, 0, 0)) (by decide +kernel) (by decide) (fun y706 hy706 => ?_)
      refine y_rI (len := 1) (r := (0, 0, 0, 0)) (nL := 5) (k := 2) (n9 := 2) (hs := []) (by decide +kernel) rfl (zfit_b (by omega) (by omega)).2 ?_
      exact ⟨by omega, by omega, _, ⟨O704.1, O704.2.1, fun k T j hk (hC : k ≠ 386) => (O704.2.2 k T j hk (show k ≠ 386 by omega))⟩⟩
    ·
      refine y_iF (c := .eq) (off := 40) (len := 3) (r := (0, 0, 0, 0)) (by decide +kernel) (acmpF (c := .eq) (by show ¬ (_ = _); omega)) ?_
      refine y_same (i := .aload_n 0) (len := 1) (r := (0, 0, 0, 0)) (pc' := 104) (ls' := [some (.inl (some 52)), some (zi xk), some (zi y678), some (zi v683), some (zi v689)]) (st' := [.inl (some 52)]) (by decide +kernel) (fun k q => by cases q) rfl ?_
      refine y_get (j := 79) (len := 3) (r := (12, 36, 2, 1364)) (by decide +kernel) O704.2.1 (t52 O704.2.1) at52 rfl rfl (g_r52 (f := 36) (T2 := 384) O704.2.1 rfl (by decide)).1 ?_
      refine y_same (i := .iload_n 3) (len := 1) (r := (0, 0, 0, 0)) (pc' := 108) (ls' := [some (.inl (some 52)), some (zi xk), some (zi y678), some (zi v683), some (zi v689)]) (st' := [zi v683, .inl (some 384)]) (by decide +kernel) (fun k q => by cases q) rfl ?_
      obtain ⟨v707, hv708, lv707, uv707⟩ := g_int (i := v683.toInt.toNat) O704.2.1 (tu384 O704.2.1) at384 (show v683.toInt.toNat < 32 by omega) (sr1 (by omega))
      refine y_ial (i := v683.toInt.toNat) (len := 1) (r := (0, 0, 0, 0)) (by decide +kernel) O704.2.1 (tu384 O704.2.1) at384 (by omega) hv708 ?_
      refine y_same (i := .iload 4) (len := 2) (r := (0, 0, 0, 0)) (pc' := 111) (ls' := [some (.inl (some 52)), some (zi xk), some (zi y678), some (zi v683), some (zi v689)]) (st' := [zi v689, zi v707]) (by decide +kernel) (fun k q => by cases q) rfl ?_
      rcases Decidable.em (v707.toInt ≠ v689.toInt) with q709 | q709
      ·
        refine y_cT (c := .ne) (off := 29) (pc' := 140) (len := 3) (r := (0, 0, 0, 0)) (by decide +kernel) (acmpT (c := .ne) (by show ¬ (_ = _); omega)) (by decide +kernel) ?_
        refine y_ic (c := 0) (len := 1) (r := (0, 0, 0, 0)) (by decide +kernel) (by decide) (fun y710 hy710 => ?_)
        refine y_rI (len := 1) (r := (0, 0, 0, 0)) (nL := 5) (k := 2) (n9 := 2) (hs := []) (by decide +kernel) rfl (zfit_b (by omega) (by omega)).2 ?_
        exact ⟨by omega, by omega, _, ⟨O704.1, O704.2.1, fun k T j hk (hC : k ≠ 386) => (O704.2.2 k T j hk (show k ≠ 386 by omega))⟩⟩
      ·
        refine y_cF (c := .ne) (off := 29) (len := 3) (r := (0, 0, 0, 0)) (by decide +kernel) (acmpF (c := .ne) (by show _ = _; omega)) ?_
        refine y_same (i := .aload_n 0) (len := 1) (r := (0, 0, 0, 0)) (pc' := 115) (ls' := [some (.inl (some 52)), some (zi xk), some (zi y678), some (zi v683), some (zi v689)]) (st' := [.inl (some 52)]) (by decide +kernel) (fun k q => by cases q) rfl ?_
        refine y_get (j := 82) (len := 3) (r := (12, 37, 2, 1365)) (by decide +kernel) O704.2.1 (t52 O704.2.1) at52 rfl rfl (g_r52 (f := 37) (T2 := 385) O704.2.1 rfl (by decide)).1 ?_
        refine y_same (i := .iload_n 3) (len := 1) (r := (0, 0, 0, 0)) (pc' := 119) (ls' := [some (.inl (some 52)), some (zi xk), some (zi y678), some (zi v683), some (zi v689)]) (st' := [zi v683, .inl (some 385)]) (by decide +kernel) (fun k q => by cases q) rfl ?_
        obtain ⟨v711, hv712, lv711, uv711⟩ := g_int (i := v683.toInt.toNat) O704.2.1 (tu385 O704.2.1) at385 (show v683.toInt.toNat < 32 by omega) (sr1 (by omega))
        refine y_ial (i := v683.toInt.toNat) (len := 1) (r := (0, 0, 0, 0)) (by decide +kernel) O704.2.1 (tu385 O704.2.1) at385 (by omega) hv712 ?_
        refine y_same (i := .aload_n 0) (len := 1) (r := (0, 0, 0, 0)) (pc' := 121) (ls' := [some (.inl (some 52)), some (zi xk), some (zi y678), some (zi v683), some (zi v689)]) (st' := [.inl (some 52), zi v711]) (by decide +kernel) (fun k q => by cases q) rfl ?_
        refine y_get (j := 70) (len := 3) (r := (12, 33, 2, 1361)) (by decide +kernel) O704.2.1 (t52 O704.2.1) at52 rfl rfl (g_r52 (f := 33) (T2 := 381) O704.2.1 rfl (by decide)).1 ?_
        refine y_same (i := .aload_n 0) (len := 1) (r := (0, 0, 0, 0)) (pc' := 125) (ls' := [some (.inl (some 52)), some (zi xk), some (zi y678), some (zi v683), some (zi v689)]) (st' := [.inl (some 52), .inl (some 381), zi v711]) (by decide +kernel) (fun k q => by cases q) rfl ?_
        refine y_get (j := 20) (len := 3) (r := (12, 9, 2, 1337)) (by decide +kernel) O704.2.1 (t52 O704.2.1) at52 rfl rfl (g_r52 (f := 9) (T2 := 55) O704.2.1 rfl (by decide)).1 ?_
        refine y_same (i := .iload_n 2) (len := 1) (r := (0, 0, 0, 0)) (pc' := 129) (ls' := [some (.inl (some 52)), some (zi xk), some (zi y678), some (zi v683), some (zi v689)]) (st' := [zi y678, .inl (some 55), .inl (some 381), zi v711]) (by decide +kernel) (fun k q => by cases q) rfl ?_
        refine y_ic (c := 3) (len := 1) (r := (0, 0, 0, 0)) (by decide +kernel) (by decide) (fun y713 hy713 => ?_)
        refine y_add (len := 1) (r := (0, 0, 0, 0)) (by decide +kernel) (by omega) (by omega) (fun y714 hy714 => ?_)
        obtain ⟨v715, hv716, lv715, uv715⟩ := g55 (i := ((46 * 1 + 2 + 4 * k) + 3)) O704.2.1 (by omega) (by omega) (by omega)
        refine y_ial (i := ((46 * 1 + 2 + 4 * k) + 3)) (len := 1) (r := (0, 0, 0, 0)) (by decide +kernel) O704.2.1 (tu55 O704.2.1) at55 (by omega) hv716 ?_
        obtain ⟨v717, hv718, lv717, uv717⟩ := g_int (i := v715.toInt.toNat) O704.2.1 (tu381 O704.2.1) at381 (show v715.toInt.toNat < 6 by omega) (sr1 (by omega))
        refine y_ial (i := v715.toInt.toNat) (len := 1) (r := (0, 0, 0, 0)) (by decide +kernel) O704.2.1 (tu381 O704.2.1) at381 (by omega) hv718 ?_
        rcases Decidable.em (v711.toInt ≠ v717.toInt) with q719 | q719
        ·
          refine y_cT (c := .ne) (off := 7) (pc' := 140) (len := 3) (r := (0, 0, 0, 0)) (by decide +kernel) (acmpT (c := .ne) (by show ¬ (_ = _); omega)) (by decide +kernel) ?_
          refine y_ic (c := 0) (len := 1) (r := (0, 0, 0, 0)) (by decide +kernel) (by decide) (fun y720 hy720 => ?_)
          refine y_rI (len := 1) (r := (0, 0, 0, 0)) (nL := 5) (k := 2) (n9 := 2) (hs := []) (by decide +kernel) rfl (zfit_b (by omega) (by omega)).2 ?_
          exact ⟨by omega, by omega, _, ⟨O704.1, O704.2.1, fun k T j hk (hC : k ≠ 386) => (O704.2.2 k T j hk (show k ≠ 386 by omega))⟩⟩
        ·
          refine y_cF (c := .ne) (off := 7) (len := 3) (r := (0, 0, 0, 0)) (by decide +kernel) (acmpF (c := .ne) (by show _ = _; omega)) ?_
          refine y_ic (c := 1) (len := 1) (r := (0, 0, 0, 0)) (by decide +kernel) (by decide) (fun y721 hy721 => ?_)
          refine y_goto (off := 4) (pc' := 141) (len := 3) (r := (0, 0, 0, 0)) (by decide +kernel) (by decide +kernel) ?_
          refine y_rI (len := 1) (r := (0, 0, 0, 0)) (nL := 5) (k := 2) (n9 := 2) (hs := []) (by decide +kernel) rfl (zfit_b (by omega) (by omega)).2 ?_
          exact ⟨by omega, by omega, _, ⟨O704.1, O704.2.1, fun k T j hk (hC : k ≠ 386) => (O704.2.2 k T j hk (show k ≠ 386 by omega))⟩⟩
  ·
    refine y_sw (dflt := 130) (lo := 0) (hi := 2) (offs := #[27, 53, 101]) (off := 101) (pc' := 142) (len := 27) (r := (0, 0, 0, 0)) (by decide +kernel) (zswI (k := 2) (by omega) (by omega) (by omega) rfl) (by decide +kernel) ?_
    exact up_l 32 τ h (oF_refl hg) (v683.toInt.toNat) v683 (by omega) (by omega) (by omega)
  ·
    refine y_sw (dflt := 130) (lo := 0) (hi := 2) (offs := #[27, 53, 101]) (off := 130) (pc' := 171) (len := 27) (r := (0, 0, 0, 0)) (by decide +kernel) (zswO (by omega)) (by decide +kernel) ?_
    refine y_same (i := .aload_n 0) (len := 1) (r := (0, 0, 0, 0)) (pc' := 172) (ls' := [some (.inl (some 52)), some (zi xk), some (zi y678), some (zi v683), some (zi v689)]) (st' := [.inl (some 52)]) (by decide +kernel) (fun k q => by cases q) rfl ?_
    refine y_same (i := .iload_n 3) (len := 1) (r := (0, 0, 0, 0)) (pc' := 173) (ls' := [some (.inl (some 52)), some (zi xk), some (zi y678), some (zi v683), some (zi v689)]) (st' := [zi v683, .inl (some 52)]) (by decide +kernel) (fun k q => by cases q) rfl ?_
    refine y_cI (i := .invokevirtual 432) (len := 3) (r := (0, 252, 12, 1846)) (nL := 2) (k := 2) (n := 2) (hs := []) (args := [.inl (some 52), zi v683]) (rest := []) (l0 := [some (.inl (some 52)), some (zi v683)]) (by decide +kernel) (Or.inr (Or.inl ⟨_, rfl⟩)) rfl rfl rfl rfl (Nat.le_of_ble_eq_true rfl) (z52 hg) rfl (qI_le (by decide) (e_usesTree 32 τ h hg (a := v683.toInt.toNat) (by omega) (by omega) (by omega))) (fun y722 h722 hRy722 => ?_)
    obtain ⟨ly722, uy722, τ722, O722, g722⟩ := hRy722
    refine y_rI (len := 1) (r := (0, 0, 0, 0)) (nL := 5) (k := 2) (n9 := 2) (hs := []) (by decide +kernel) rfl (zfit_b (by omega) (by omega)).2 ?_
    exact ⟨by omega, by omega, _, ⟨O722.1, O722.2.1, fun k T j hk (hC : k ≠ 386) => (O722.2.2 k T j hk (show k ≠ 386 by omega))⟩⟩
theorem ir_3 {τ0 τ : List Nat} {h0 h : zh} {t pl : Nat} {xp : Int32} (O0 : oF (fun k j => k ≠ 386) τ0 h0 τ h) (hp : hsl h 52 39 = some (zi xp)) (hxp : xp.toInt = (pl : Int)) (hpl : pl ≤ 31) : ∀ (n k : Nat) (xk : Int32), xk.toInt = (k : Int) → k ≤ pl + 1 → pl + 1 ≤ k + n → qX 41 254 65 [some (.inl (some 52)), some (zi xk)] [] h t (rI (fun y h1 => 0 ≤ y.toInt ∧ y.toInt ≤ 1 ∧ ∃ τ1, oF (fun k j => k ≠ 386) τ0 h0 τ1 h1) t) := by
  have hg := O0.2.1
  intro n
  induction n with
  | zero =>
    intro k xk hxk hk hn
    refine y_same (i := .iload_n 1) (len := 1) (r := (0, 0, 0, 0)) (pc' := 66) (ls' := [some (.inl (some 52)), some (zi xk)]) (st' := [zi xk]) (by decide +kernel) (fun k q => by cases q) rfl ?_
    refine y_same (i := .aload_n 0) (len := 1) (r := (0, 0, 0, 0)) (pc' := 67) (ls' := [some (.inl (some 52)), some (zi xk)]) (st' := [.inl (some 52), zi xk]) (by decide +kernel) (fun k q => by cases q) rfl ?_
    refine y_get (j := 410) (len := 3) (r := (12, 39, 0, 1367)) (by decide +kernel) hg (t52 hg) at52 rfl rfl hp ?_
    refine y_cT (c := .gt) (off := 30) (pc' := 100) (len := 3) (r := (0, 0, 0, 0)) (by decide +kernel) (acmpT (c := .gt) (by show _ < _; omega)) (by decide +kernel) ?_
    refine y_ic (c := 1) (len := 1) (r := (0, 0, 0, 0)) (by decide +kernel) (by decide) (fun y723 hy723 => ?_)
    refine y_rI (len := 1) (r := (0, 0, 0, 0)) (nL := 2) (k := 2) (n9 := 1) (hs := []) (by decide +kernel) rfl (zfit_b (by omega) (by omega)).2 ?_
    exact ⟨by omega, by omega, _, O0⟩
  | succ n ih =>
    intro k xk hxk hk hn
    refine y_same (i := .iload_n 1) (len := 1) (r := (0, 0, 0, 0)) (pc' := 66) (ls' := [some (.inl (some 52)), some (zi xk)]) (st' := [zi xk]) (by decide +kernel) (fun k q => by cases q) rfl ?_
    refine y_same (i := .aload_n 0) (len := 1) (r := (0, 0, 0, 0)) (pc' := 67) (ls' := [some (.inl (some 52)), some (zi xk)]) (st' := [.inl (some 52), zi xk]) (by decide +kernel) (fun k q => by cases q) rfl ?_
    refine y_get (j := 410) (len := 3) (r := (12, 39, 0, 1367)) (by decide +kernel) hg (t52 hg) at52 rfl rfl hp ?_
    rcases Decidable.em (xk.toInt > xp.toInt) with q724 | q724
    ·
      refine y_cT (c := .gt) (off := 30) (pc' := 100) (len := 3) (r := (0, 0, 0, 0)) (by decide +kernel) (acmpT (c := .gt) (by show _ < _; omega)) (by decide +kernel) ?_
      refine y_ic (c := 1) (len := 1) (r := (0, 0, 0, 0)) (by decide +kernel) (by decide) (fun y725 hy725 => ?_)
      refine y_rI (len := 1) (r := (0, 0, 0, 0)) (nL := 2) (k := 2) (n9 := 1) (hs := []) (by decide +kernel) rfl (zfit_b (by omega) (by omega)).2 ?_
      exact ⟨by omega, by omega, _, O0⟩
    ·
      refine y_cF (c := .gt) (off := 30) (len := 3) (r := (0, 0, 0, 0)) (by decide +kernel) (acmpF (c := .gt) (by show _ ≤ _; omega)) ?_
      refine y_same (i := .aload_n 0) (len := 1) (r := (0, 0, 0, 0)) (pc' := 74) (ls' := [some (.inl (some 52)), some (zi xk)]) (st' := [.inl (some 52)]) (by decide +kernel) (fun k q => by cases q) rfl ?_
      refine y_get (j := 76) (len := 3) (r := (12, 35, 2, 1363)) (by decide +kernel) hg (t52 hg) at52 rfl rfl (g_r52 (f := 35) (T2 := 383) hg rfl (by decide)).1 ?_
      refine y_same (i := .iload_n 1) (len := 1) (r := (0, 0, 0, 0)) (pc' := 78) (ls' := [some (.inl (some 52)), some (zi xk)]) (st' := [zi xk, .inl (some 383)]) (by decide +kernel) (fun k q => by cases q) rfl ?_
      obtain ⟨v726, hv727, lv726, uv726⟩ := g_int (i := k) hg (tu383 hg) at383 (show k < 32 by omega) (sr1 (by omega))
      refine y_ial (i := k) (len := 1) (r := (0, 0, 0, 0)) (by decide +kernel) hg (tu383 hg) at383 (by omega) hv727 ?_
      refine y_ic (c := (-1)) (len := 1) (r := (0, 0, 0, 0)) (by decide +kernel) (by decide) (fun y728 hy728 => ?_)
      rcases Decidable.em (v726.toInt = y728.toInt) with q729 | q729
      ·
        refine y_cT (c := .eq) (off := 14) (pc' := 94) (len := 3) (r := (0, 0, 0, 0)) (by decide +kernel) (acmpT (c := .eq) (by show _ = _; omega)) (by decide +kernel) ?_
        refine y_inc (j := 1) (a := xk) (c := 1) (ls' := fun v => [some (.inl (some 52)), some v]) (len := 3) (r := (0, 0, 0, 0)) (by decide +kernel) rfl (fun _ => rfl) (by decide) (by omega) (by omega) (fun y730 hy730 => ?_)
        show qX 41 254 97 [some (.inl (some 52)), some (zi y730)] [] h t _
        refine y_goto (off := (-32)) (pc' := 65) (len := 3) (r := (0, 0, 0, 0)) (by decide +kernel) (by decide +kernel) ?_
        exact ih (k + 1) y730 (by omega) (by omega) (by omega)
      ·
        refine y_cF (c := .eq) (off := 14) (len := 3) (r := (0, 0, 0, 0)) (by decide +kernel) (acmpF (c := .eq) (by show ¬ (_ = _); omega)) ?_
        refine y_same (i := .aload_n 0) (len := 1) (r := (0, 0, 0, 0)) (pc' := 84) (ls' := [some (.inl (some 52)), some (zi xk)]) (st' := [.inl (some 52)]) (by decide +kernel) (fun k q => by cases q) rfl ?_
        refine y_get (j := 85) (len := 3) (r := (12, 38, 2, 1366)) (by decide +kernel) hg (t52 hg) at52 rfl rfl (g_r52 (f := 38) (T2 := 386) hg rfl (by decide)).1 ?_
        refine y_same (i := .iload_n 1) (len := 1) (r := (0, 0, 0, 0)) (pc' := 88) (ls' := [some (.inl (some 52)), some (zi xk)]) (st' := [zi xk, .inl (some 386)]) (by decide +kernel) (fun k q => by cases q) rfl ?_
        obtain ⟨v731, hv732, lv731, uv731⟩ := g_int (i := k) hg (tu386 hg) at386 (show k < 32 by omega) (sr1 (by omega))
        refine y_bal (i := k) (len := 1) (r := (0, 0, 0, 0)) (by decide +kernel) hg (tu386 hg) at386 (by omega) hv732 ?_
        rcases Decidable.em (v731.toInt ≠ 0) with q733 | q733
        ·
          refine y_iT (c := .ne) (off := 5) (pc' := 94) (len := 3) (r := (0, 0, 0, 0)) (by decide +kernel) (acmpT (c := .ne) (by show ¬ (_ = _); omega)) (by decide +kernel) ?_
          refine y_inc (j := 1) (a := xk) (c := 1) (ls' := fun v => [some (.inl (some 52)), some v]) (len := 3) (r := (0, 0, 0, 0)) (by decide +kernel) rfl (fun _ => rfl) (by decide) (by omega) (by omega) (fun y734 hy734 => ?_)
          show qX 41 254 97 [some (.inl (some 52)), some (zi y734)] [] h t _
          refine y_goto (off := (-32)) (pc' := 65) (len := 3) (r := (0, 0, 0, 0)) (by decide +kernel) (by decide +kernel) ?_
          exact ih (k + 1) y734 (by omega) (by omega) (by omega)
        ·
          refine y_iF (c := .ne) (off := 5) (len := 3) (r := (0, 0, 0, 0)) (by decide +kernel) (acmpF (c := .ne) (by show _ = _; omega)) ?_
          refine y_ic (c := 0) (len := 1) (r := (0, 0, 0, 0)) (by decide +kernel) (by decide) (fun y735 hy735 => ?_)
          refine y_rI (len := 1) (r := (0, 0, 0, 0)) (nL := 2) (k := 2) (n9 := 1) (hs := []) (by decide +kernel) rfl (zfit_b (by omega) (by omega)).2 ?_
          exact ⟨by omega, by omega, _, O0⟩
theorem ir_2 {τ0 : List Nat} {h0 : zh} {t m pl : Nat} {xm xp : Int32} (hg0 : hG τ0 h0) (hLV0 : LV h0 1 m) (hxm : xm.toInt = (m : Int)) (hm5 : m ≤ 5) (hxp : xp.toInt = (pl : Int)) (hpl : pl ≤ 31) : ∀ (n : Nat) (τ : List Nat) (h : zh), oF (fun k j => k ≠ 386) τ0 h0 τ h → ∀ (k : Nat) (xk : Int32), hsl h 55 (46 * 1 + 0) = some (zi xm) → hsl h 52 39 = some (zi xp) → xk.toInt = (k : Int) → k ≤ m → m ≤ k + n → qX 41 254 35 [some (.inl (some 52)), some (zi xk)] [] h t (rI (fun y h1 => 0 ≤ y.toInt ∧ y.toInt ≤ 1 ∧ ∃ τ1, oF (fun k j => k ≠ 386) τ0 h0 τ1 h1) t) := by
  intro n
  induction n with
  | zero =>
    intro τ h O0 k xk hm hp hxk hk hn
    have hg := O0.2.1
    refine y_same (i := .iload_n 1) (len := 1) (r := (0, 0, 0, 0)) (pc' := 36) (ls' := [some (.inl (some 52)), some (zi xk)]) (st' := [zi xk]) (by decide +kernel) (fun k q => by cases q) rfl ?_
    refine y_same (i := .aload_n 0) (len := 1) (r := (0, 0, 0, 0)) (pc' := 37) (ls' := [some (.inl (some 52)), some (zi xk)]) (st' := [.inl (some 52), zi xk]) (by decide +kernel) (fun k q => by cases q) rfl ?_
    refine y_get (j := 20) (len := 3) (r := (12, 9, 2, 1337)) (by decide +kernel) hg (t52 hg) at52 rfl rfl (g_r52 (f := 9) (T2 := 55) hg rfl (by decide)).1 ?_
    refine y_ic (c := 1) (len := 1) (r := (0, 0, 0, 0)) (by decide +kernel) (by decide) (fun y736 hy736 => ?_)
    refine y_cI (i := .invokestatic 143) (len := 3) (r := (1, 166, 12, 1543)) (nL := 2) (k := 1) (n := 2) (hs := []) (args := [.inl (some 55), zi y736]) (rest := [zi xk]) (l0 := [some (.inl (some 55)), some (zi y736)]) (by decide +kernel) (Or.inl ⟨_, rfl⟩) rfl rfl rfl rfl (Nat.le_of_ble_eq_true rfl) rfl rfl (e_parts (s := 1) hg (by omega) (by omega) hm) (fun y737 qy737 hRy737 => ?_)
    obtain ⟨rfl, rfl⟩ := hRy737
    refine y_cT (c := .ge) (off := 19) (pc' := 63) (len := 3) (r := (0, 0, 0, 0)) (by decide +kernel) (acmpT (c := .ge) (by show _ ≤ _; omega)) (by decide +kernel) ?_
    refine y_ic (c := 1) (len := 1) (r := (0, 0, 0, 0)) (by decide +kernel) (by decide) (fun y738 hy738 => ?_)
    refine y_same (i := .istore_n 1) (len := 1) (r := (0, 0, 0, 0)) (pc' := 65) (ls' := [some (.inl (some 52)), some (zi y738)]) (st' := []) (by decide +kernel) (fun k q => by cases q) rfl ?_
    exact ir_3 O0 hp hxp hpl 32 1 y738 (by omega) (by omega) (by omega)
  | succ n ih =>
    intro τ h O0 k xk hm hp hxk hk hn
    have hg := O0.2.1
    refine y_same (i := .iload_n 1) (len := 1) (r := (0, 0, 0, 0)) (pc' := 36) (ls' := [some (.inl (some 52)), some (zi xk)]) (st' := [zi xk]) (by decide +kernel) (fun k q => by cases q) rfl ?_
    refine y_same (i := .aload_n 0) (len := 1) (r := (0, 0, 0, 0)) (pc' := 37) (ls' := [some (.inl (some 52)), some (zi xk)]) (st' := [.inl (some 52), zi xk]) (by decide +kernel) (fun k q => by cases q) rfl ?_
    refine y_get (j := 20) (len := 3) (r := (12, 9, 2, 1337)) (by decide +kernel) hg (t52 hg) at52 rfl rfl (g_r52 (f := 9) (T2 := 55) hg rfl (by decide)).1 ?_
    refine y_ic (c := 1) (len := 1) (r := (0, 0, 0, 0)) (by decide +kernel) (by decide) (fun y739 hy739 => ?_)
    refine y_cI (i := .invokestatic 143) (len := 3) (r := (1, 166, 12, 1543)) (nL := 2) (k := 1) (n := 2) (hs := []) (args := [.inl (some 55), zi y739]) (rest := [zi xk]) (l0 := [some (.inl (some 55)), some (zi y739)]) (by decide +kernel) (Or.inl ⟨_, rfl⟩) rfl rfl rfl rfl (Nat.le_of_ble_eq_true rfl) rfl rfl (e_parts (s := 1) hg (by omega) (by omega) hm) (fun y740 qy740 hRy740 => ?_)
    obtain ⟨rfl, rfl⟩ := hRy740
    rcases Decidable.em (xk.toInt ≥ xm.toInt) with q741 | q741
    ·
      refine y_cT (c := .ge) (off := 19) (pc' := 63) (len := 3) (r := (0, 0, 0, 0)) (by decide +kernel) (acmpT (c := .ge) (by show _ ≤ _; omega)) (by decide +kernel) ?_
      refine y_ic (c := 1) (len := 1) (r := (0, 0, 0, 0)) (by decide +kernel) (by decide) (fun y742 hy742 => ?_)
      refine y_same (i := .istore_n 1) (len := 1) (r := (0, 0, 0, 0)) (pc' := 65) (ls' := [some (.inl (some 52)), some (zi y742)]) (st' := []) (by decide +kernel) (fun k q => by cases q) rfl ?_
      exact ir_3 O0 hp hxp hpl 32 1 y742 (by omega) (by omega) (by omega)
    ·
      refine y_cF (c := .ge) (off := 19) (len := 3) (r := (0, 0, 0, 0)) (by decide +kernel) (acmpF (c := .ge) (by show _ < _; omega)) ?_
      refine y_same (i := .aload_n 0) (len := 1) (r := (0, 0, 0, 0)) (pc' := 48) (ls' := [some (.inl (some 52)), some (zi xk)]) (st' := [.inl (some 52)]) (by decide +kernel) (fun k q => by cases q) rfl ?_
      refine y_same (i := .iload_n 1) (len := 1) (r := (0, 0, 0, 0)) (pc' := 49) (ls' := [some (.inl (some 52)), some (zi xk)]) (st' := [zi xk, .inl (some 52)]) (by decide +kernel) (fun k q => by cases q) rfl ?_
      have LVc := LV_up hLV0 (fun j => O0.2.2 55 55 j (tu55 hg0) (show 55 ≠ 386 by omega)) (fun j => O0.2.2 381 381 j (tu381 hg0) (show 381 ≠ 386 by omega))
      refine y_cI (i := .invokevirtual 435) (len := 3) (r := (0, 253, 12, 1838)) (nL := 5) (k := 2) (n := 2) (hs := []) (args := [.inl (some 52), zi xk]) (rest := []) (l0 := [some (.inl (some 52)), some (zi xk), none, none, none]) (by decide +kernel) (Or.inr (Or.inl ⟨_, rfl⟩)) rfl rfl rfl rfl (Nat.le_of_ble_eq_true rfl) (z52 hg) rfl (e_usesPart (k := k) (m := m) hg (by omega) (by omega) (by omega) LVc) (fun y743 h743 hRy743 => ?_)
      obtain ⟨ly743, uy743, τ743, O743⟩ := hRy743
      rcases Decidable.em (y743.toInt ≠ 0) with q744 | q744
      ·
        refine y_iT (c := .ne) (off := 5) (pc' := 57) (len := 3) (r := (0, 0, 0, 0)) (by decide +kernel) (acmpT (c := .ne) (by show ¬ (_ = _); omega)) (by decide +kernel) ?_
        refine y_inc (j := 1) (a := xk) (c := 1) (ls' := fun v => [some (.inl (some 52)), some v]) (len := 3) (r := (0, 0, 0, 0)) (by decide +kernel) rfl (fun _ => rfl) (by decide) (by omega) (by omega) (fun y745 hy745 => ?_)
        show qX 41 254 60 [some (.inl (some 52)), some (zi y745)] [] h743 t _
        refine y_goto (off := (-25)) (pc' := 35) (len := 3) (r := (0, 0, 0, 0)) (by decide +kernel) (by decide +kernel) ?_
        have hv746 := (O743.2.2 52 52 39 (t52 hg) (show 52 ≠ 386 by omega)).trans hp
        have hv747 := (O743.2.2 55 55 (46 * 1 + 0) (tu55 hg) (show 55 ≠ 386 by omega)).trans hm
        exact ih τ743 h743 ⟨aup_trans O0.1 O743.1, O743.2.1, fun k T j hk (hC : k ≠ 386) => ((O743.2.2 k T j (O0.1 _ _ hk) (show k ≠ 386 by omega))).trans (O0.2.2 k T j hk hC)⟩ (k + 1) y745 hv747 hv746 (by omega) (by omega) (by omega)
      ·
        refine y_iF (c := .ne) (off := 5) (len := 3) (r := (0, 0, 0, 0)) (by decide +kernel) (acmpF (c := .ne) (by show _ = _; omega)) ?_
        refine y_ic (c := 0) (len := 1) (r := (0, 0, 0, 0)) (by decide +kernel) (by decide) (fun y748 hy748 => ?_)
        refine y_rI (len := 1) (r := (0, 0, 0, 0)) (nL := 2) (k := 2) (n9 := 1) (hs := []) (by decide +kernel) rfl (zfit_b (by omega) (by omega)).2 ?_
        have hv749 := (O743.2.2 52 52 39 (t52 hg) (show 52 ≠ 386 by omega)).trans hp
        have hv750 := (O743.2.2 55 55 (46 * 1 + 0) (tu55 hg) (show 55 ≠ 386 by omega)).trans hm
        exact ⟨by omega, by omega, _, ⟨aup_trans O0.1 O743.1, O743.2.1, fun k T j hk (hC : k ≠ 386) => ((O743.2.2 k T j (O0.1 _ _ hk) (show k ≠ 386 by omega))).trans (O0.2.2 k T j hk hC)⟩⟩
theorem ir_1 {τ0 : List Nat} {h0 : zh} {t m pl : Nat} {xm xp : Int32} (hg0 : hG τ0 h0) (hLV0 : LV h0 1 m) (hxm : xm.toInt = (m : Int)) (hm5 : m ≤ 5) (hxp : xp.toInt = (pl : Int)) (hpl : pl ≤ 31) : ∀ (n : Nat) (τ : List Nat) (h : zh), oF (fun k j => k ≠ 386) τ0 h0 τ h → ∀ (k : Nat) (xk : Int32), hsl h 55 (46 * 1 + 0) = some (zi xm) → hsl h 52 39 = some (zi xp) → xk.toInt = (k : Int) → k ≤ pl + 1 → pl + 1 ≤ k + n → qX 41 254 12 [some (.inl (some 52)), some (zi xk)] [] h t (rI (fun y h1 => 0 ≤ y.toInt ∧ y.toInt ≤ 1 ∧ ∃ τ1, oF (fun k j => k ≠ 386) τ0 h0 τ1 h1) t) := by
  intro n
  induction n with
  | zero =>
    intro τ h O0 k xk hm hp hxk hk hn
    have hg := O0.2.1
    refine y_same (i := .iload_n 1) (len := 1) (r := (0, 0, 0, 0)) (pc' := 13) (ls' := [some (.inl (some 52)), some (zi xk)]) (st' := [zi xk]) (by decide +kernel) (fun k q => by cases q) rfl ?_
    refine y_same (i := .aload_n 0) (len := 1) (r := (0, 0, 0, 0)) (pc' := 14) (ls' := [some (.inl (some 52)), some (zi xk)]) (st' := [.inl (some 52), zi xk]) (by decide +kernel) (fun k q => by cases q) rfl ?_
    refine y_get (j := 410) (len := 3) (r := (12, 39, 0, 1367)) (by decide +kernel) hg (t52 hg) at52 rfl rfl hp ?_
    refine y_cT (c := .gt) (off := 16) (pc' := 33) (len := 3) (r := (0, 0, 0, 0)) (by decide +kernel) (acmpT (c := .gt) (by show _ < _; omega)) (by decide +kernel) ?_
    refine y_ic (c := 0) (len := 1) (r := (0, 0, 0, 0)) (by decide +kernel) (by decide) (fun y751 hy751 => ?_)
    refine y_same (i := .istore_n 1) (len := 1) (r := (0, 0, 0, 0)) (pc' := 35) (ls' := [some (.inl (some 52)), some (zi y751)]) (st' := []) (by decide +kernel) (fun k q => by cases q) rfl ?_
    exact ir_2 hg0 hLV0 hxm hm5 hxp hpl 5 τ h O0 0 y751 hm hp (by omega) (by omega) (by omega)
  | succ n ih =>
    intro τ h O0 k xk hm hp hxk hk hn
    have hg := O0.2.1
    refine y_same (i := .iload_n 1) (len := 1) (r := (0, 0, 0, 0)) (pc' := 13) (ls' := [some (.inl (some 52)), some (zi xk)]) (st' := [zi xk]) (by decide +kernel) (fun k q => by cases q) rfl ?_
    refine y_same (i := .aload_n 0) (len := 1) (r := (0, 0, 0, 0)) (pc' := 14) (ls' := [some (.inl (some 52)), some (zi xk)]) (st' := [.inl (some 52), zi xk]) (by decide +kernel) (fun k q => by cases q) rfl ?_
    refine y_get (j := 410) (len := 3) (r := (12, 39, 0, 1367)) (by decide +kernel) hg (t52 hg) at52 rfl rfl hp ?_
    rcases Decidable.em (xk.toInt > xp.toInt) with q752 | q752
    ·
      refine y_cT (c := .gt) (off := 16) (pc' := 33) (len := 3) (r := (0, 0, 0, 0)) (by decide +kernel) (acmpT (c := .gt) (by show _ < _; omega)) (by decide +kernel) ?_
      refine y_ic (c := 0) (len := 1) (r := (0, 0, 0, 0)) (by decide +kernel) (by decide) (fun y753 hy753 => ?_)
      refine y_same (i := .istore_n 1) (len := 1) (r := (0, 0, 0, 0)) (pc' := 35) (ls' := [some (.inl (some 52)), some (zi y753)]) (st' := []) (by decide +kernel) (fun k q => by cases q) rfl ?_
      exact ir_2 hg0 hLV0 hxm hm5 hxp hpl 5 τ h O0 0 y753 hm hp (by omega) (by omega) (by omega)
    ·
      refine y_cF (c := .gt) (off := 16) (len := 3) (r := (0, 0, 0, 0)) (by decide +kernel) (acmpF (c := .gt) (by show _ ≤ _; omega)) ?_
      refine y_same (i := .aload_n 0) (len := 1) (r := (0, 0, 0, 0)) (pc' := 21) (ls' := [some (.inl (some 52)), some (zi xk)]) (st' := [.inl (some 52)]) (by decide +kernel) (fun k q => by cases q) rfl ?_
      refine y_get (j := 85) (len := 3) (r := (12, 38, 2, 1366)) (by decide +kernel) hg (t52 hg) at52 rfl rfl (g_r52 (f := 38) (T2 := 386) hg rfl (by decide)).1 ?_
      refine y_same (i := .iload_n 1) (len := 1) (r := (0, 0, 0, 0)) (pc' := 25) (ls' := [some (.inl (some 52)), some (zi xk)]) (st' := [zi xk, .inl (some 386)]) (by decide +kernel) (fun k q => by cases q) rfl ?_
      refine y_ic (c := 0) (len := 1) (r := (0, 0, 0, 0)) (by decide +kernel) (by decide) (fun y754 hy754 => ?_)
      refine y_bas (i := k) (len := 1) (r := (0, 0, 0, 0)) (by decide +kernel) hg (tu386 hg) at386 rfl (by omega) (by omega) (sr1 (by omega)) (by omega) (by omega) (zfit_b (by omega) (by omega)).1 (fun h755 hg755 hl755 hs755 ho755 => ?_)
      refine y_inc (j := 1) (a := xk) (c := 1) (ls' := fun v => [some (.inl (some 52)), some v]) (len := 3) (r := (0, 0, 0, 0)) (by decide +kernel) rfl (fun _ => rfl) (by decide) (by omega) (by omega) (fun y756 hy756 => ?_)
      show qX 41 254 30 [some (.inl (some 52)), some (zi y756)] [] h755 t _
      refine y_goto (off := (-18)) (pc' := 12) (len := 3) (r := (0, 0, 0, 0)) (by decide +kernel) (by decide +kernel) ?_
      have hv757 := (ho755 52 39 (Or.inl (by omega))).trans hp
      have hv758 := (ho755 55 (46 * 1 + 0) (Or.inl (by omega))).trans hm
      exact ih τ h755 ⟨aup_trans O0.1 (aup_refl _), hg755, fun k T j hk (hC : k ≠ 386) => ((ho755 k j (by omega))).trans (O0.2.2 k T j hk hC)⟩ (k + 1) y756 hv758 hv757 (by omega) (by omega) (by omega)
theorem e_isRight {t m : Nat} {τ : List Nat} {h : zh} {xm : Int32} (hg : hG τ h) (hLV : LV h 1 m) (hm : hsl h 55 (46 * 1 + 0) = some (zi xm)) (hxm : xm.toInt = (m : Int)) (hm5 : m ≤ 5) : qI 42 254 [some (.inl (some 52)), none] h t (fun y h1 => 0 ≤ y.toInt ∧ y.toInt ≤ 1 ∧ ∃ τ1, oF (fun k j => k ≠ 386) τ h τ1 h1) := by
  obtain ⟨xp, hp, l1, u1⟩ := g_int (i := 39) (lo := 0) (hi := 31) hg (t52 hg) at52 (by decide) rfl
  refine qI_of ?_
  refine y_same (i := .aload_n 0) (len := 1) (r := (0, 0, 0, 0)) (pc' := 1) (ls' := [some (.inl (some 52)), none]) (st' := [.inl (some 52)]) (by decide +kernel) (fun k q => by cases q) rfl ?_
  refine y_ic (c := 1) (len := 1) (r := (0, 0, 0, 0)) (by decide +kernel) (by decide) (fun y759 hy759 => ?_)
  refine y_cI (i := .invokevirtual 423) (len := 3) (r := (0, 248, 12, 1818)) (nL := 4) (k := 2) (n := 2) (hs := []) (args := [.inl (some 52), zi y759]) (rest := []) (l0 := [some (.inl (some 52)), some (zi y759), none, none]) (by decide +kernel) (Or.inr (Or.inl ⟨_, rfl⟩)) rfl rfl rfl rfl (Nat.le_of_ble_eq_true rfl) (z52 hg) rfl (qI_le (by decide) (e_claimsAre (s := 1) hg (by omega) (by omega))) (fun y760 qy760 hRy760 => ?_)
  obtain ⟨rfl, ly760, uy760⟩ := hRy760
  rcases Decidable.em (y760.toInt ≠ 0) with q761 | q761
  ·
    refine y_iT (c := .ne) (off := 5) (pc' := 10) (len := 3) (r := (0, 0, 0, 0)) (by decide +kernel) (acmpT (c := .ne) (by show ¬ (_ = _); omega)) (by decide +kernel) ?_
    refine y_ic (c := 0) (len := 1) (r := (0, 0, 0, 0)) (by decide +kernel) (by decide) (fun y762 hy762 => ?_)
    refine y_same (i := .istore_n 1) (len := 1) (r := (0, 0, 0, 0)) (pc' := 12) (ls' := [some (.inl (some 52)), some (zi y762)]) (st' := []) (by decide +kernel) (fun k q => by cases q) rfl ?_
    exact ir_1 (pl := xp.toInt.toNat) hg hLV hxm hm5 (by omega) (by omega) 32 τ h (oF_refl hg) 0 y762 hm hp (by omega) (by omega) (by omega)
  ·
    refine y_iF (c := .ne) (off := 5) (len := 3) (r := (0, 0, 0, 0)) (by decide +kernel) (acmpF (c := .ne) (by show _ = _; omega)) ?_
    refine y_ic (c := 0) (len := 1) (r := (0, 0, 0, 0)) (by decide +kernel) (by decide) (fun y763 hy763 => ?_)
    refine y_rI (len := 1) (r := (0, 0, 0, 0)) (nL := 2) (k := 2) (n9 := 1) (hs := []) (by decide +kernel) rfl (zfit_b (by omega) (by omega)).2 ?_
    exact ⟨by omega, by omega, _, oF_refl hg⟩
