/-! which step is done, told exactly -/
def stOK (h : zh) (n : Nat) : Prop := ∃ xs : Int32, hsl h 373 n = some (zi xs) ∧ (3 ≤ xs.toInt → xs.toInt ≤ 8 → stR h n) ∧ (3 ≤ xs.toInt → xs.toInt ≤ 7 → stL h n)
def spR (τ : List Nat) (n : Nat) (h h1 : zh) : Prop := ∃ τ1, oF (fun k j => k ≠ 68 ∧ k ≠ 69 ∧ ((k ≠ 373 ∧ k ≠ 374 ∧ k ≠ 375 ∧ k ≠ 376) ∨ j ≠ n)) τ h τ1 h1 ∧ stOK h1 n
theorem st_f {τ0 : List Nat} {h0 : zh} {n t : Nat} (hC : ∀ (mk : Nat) (c' : aK), c' ∈ actb mk → c'.2.2.1 ≤ 8 → cOK aJ mk c') (hn9 : n < 300) {xk : Int32} (hxk : xk.toInt = (n : Int)) {l3 l4 : Option zv} : ∀ (m : Nat) (τ : List Nat) (h : zh), oF (fun k j => k ≠ 68 ∧ k ≠ 69 ∧ ((k ≠ 373 ∧ k ≠ 374 ∧ k ≠ 375 ∧ k ≠ 376) ∨ j ≠ n)) τ0 h0 τ h → ∀ (s : Nat) (xs : Int32), hsl h 373 n = some (zi xs) → xs.toInt = (s : Int) → 3 ≤ s → s ≤ 8 → 8 ≤ s + m → qX 10 233 150 [some (.inl (some 52)), some (zi xk), some (.inl (some (71 + n))), l3, l4] [] h t (rV (spR τ0 n h0) t) := by
  intro m
  induction m with
  | zero =>
    intro τ h O0 s xs hs hxs h3 h8 hm
    have hg := O0.2.1
    refine y_same (i := .aload_n 0) (len := 1) (r := (0, 0, 0, 0)) (pc' := 151) (ls' := [some (.inl (some 52)), some (zi xk), some (.inl (some ((71 + n)))), l3, l4]) (st' := [.inl (some 52)]) (by decide +kernel) (fun k q => by cases q) rfl ?_
    refine y_get (j := 46) (len := 3) (r := (12, 18, 2, 1346)) (by decide +kernel) hg (t52 hg) at52 rfl rfl (g_r52 (f := 18) (T2 := 373) hg rfl (by decide)).1 ?_
    refine y_same (i := .iload_n 1) (len := 1) (r := (0, 0, 0, 0)) (pc' := 155) (ls' := [some (.inl (some 52)), some (zi xk), some (.inl (some ((71 + n)))), l3, l4]) (st' := [zi xk, .inl (some 373)]) (by decide +kernel) (fun k q => by cases q) rfl ?_
    refine y_ial (i := n) (len := 1) (r := (0, 0, 0, 0)) (by decide +kernel) hg (tu373 hg) at373 (by omega) hs ?_
    refine y_bi (c := 8) (len := 2) (r := (0, 0, 0, 0)) (by decide +kernel) (by decide) (fun y67 hy67 => ?_)
    refine y_cT (c := .ge) (off := 30) (pc' := 188) (len := 3) (r := (0, 0, 0, 0)) (by decide +kernel) (acmpT (c := .ge) (by show _ ≤ _; omega)) (by decide +kernel) ?_
    refine y_same (i := .aload_n 0) (len := 1) (r := (0, 0, 0, 0)) (pc' := 189) (ls' := [some (.inl (some 52)), some (zi xk), some (.inl (some ((71 + n)))), l3, l4]) (st' := [.inl (some 52)]) (by decide +kernel) (fun k q => by cases q) rfl ?_
    refine y_get (j := 46) (len := 3) (r := (12, 18, 2, 1346)) (by decide +kernel) hg (t52 hg) at52 rfl rfl (g_r52 (f := 18) (T2 := 373) hg rfl (by decide)).1 ?_
    refine y_same (i := .iload_n 1) (len := 1) (r := (0, 0, 0, 0)) (pc' := 193) (ls' := [some (.inl (some 52)), some (zi xk), some (.inl (some ((71 + n)))), l3, l4]) (st' := [zi xk, .inl (some 373)]) (by decide +kernel) (fun k q => by cases q) rfl ?_
    refine y_ial (i := n) (len := 1) (r := (0, 0, 0, 0)) (by decide +kernel) hg (tu373 hg) at373 (by omega) hs ?_
    refine y_bi (c := 8) (len := 2) (r := (0, 0, 0, 0)) (by decide +kernel) (by decide) (fun y68 hy68 => ?_)
    refine y_cF (c := .ne) (off := 19) (len := 3) (r := (0, 0, 0, 0)) (by decide +kernel) (acmpF (c := .ne) (by show _ = _; omega)) ?_
    refine y_same (i := .aload_n 0) (len := 1) (r := (0, 0, 0, 0)) (pc' := 200) (ls' := [some (.inl (some 52)), some (zi xk), some (.inl (some ((71 + n)))), l3, l4]) (st' := [.inl (some 52)]) (by decide +kernel) (fun k q => by cases q) rfl ?_
    refine y_same (i := .iload_n 1) (len := 1) (r := (0, 0, 0, 0)) (pc' := 201) (ls' := [some (.inl (some 52)), some (zi xk), some (.inl (some ((71 + n)))), l3, l4]) (st' := [zi xk, .inl (some 52)]) (by decide +kernel) (fun k q => by cases q) rfl ?_
    refine y_cI (i := .invokevirtual 375) (len := 3) (r := (0, 236, 12, 1767)) (nL := 3) (k := 2) (n := 2) (hs := []) (args := [.inl (some 52), zi xk]) (rest := []) (l0 := [some (.inl (some 52)), some (zi xk), none]) (by decide +kernel) (Or.inr (Or.inl ⟨_, rfl⟩)) rfl rfl rfl rfl (Nat.le_of_ble_eq_true rfl) (z52 hg) rfl (e_empties hg hn9 (by omega)) (fun y69 h69 hRy69 => ?_)
    obtain ⟨ly69, uy69, τ69, O69, f69⟩ := hRy69
    rcases Decidable.em (y69.toInt ≠ 0) with q70 | q70
    ·
      refine y_iT (c := .ne) (off := 11) (pc' := 215) (len := 3) (r := (0, 0, 0, 0)) (by decide +kernel) (acmpT (c := .ne) (by show ¬ (_ = _); omega)) (by decide +kernel) ?_
      refine y_rV (len := 1) (r := (0, 0, 0, 0)) (nL := 5) (n9 := 2) (hs := []) (by decide +kernel) rfl ?_
      have hv71 := (O69.2.2 373 373 n (tu373 hg) (show (373 ≠ 374 ∧ 373 ≠ 375) ∨ n ≠ n by omega)).trans hs
      exact ⟨_, ⟨aup_trans O0.1 O69.1, O69.2.1, fun k T j hk (hC : k ≠ 68 ∧ k ≠ 69 ∧ ((k ≠ 373 ∧ k ≠ 374 ∧ k ≠ 375 ∧ k ≠ 376) ∨ j ≠ n)) => ((O69.2.2 k T j (O0.1 _ _ hk) (show (k ≠ 374 ∧ k ≠ 375) ∨ j ≠ n by omega))).trans (O0.2.2 k T j hk hC)⟩, xs, hv71, fun _ _ => f69 (by omega), fun _ _ => by omega⟩
    ·
      refine y_iF (c := .ne) (off := 11) (len := 3) (r := (0, 0, 0, 0)) (by decide +kernel) (acmpF (c := .ne) (by show _ = _; omega)) ?_
      refine y_same (i := .aload_n 0) (len := 1) (r := (0, 0, 0, 0)) (pc' := 208) (ls' := [some (.inl (some 52)), some (zi xk), some (.inl (some ((71 + n)))), l3, l4]) (st' := [.inl (some 52)]) (by decide +kernel) (fun k q => by cases q) rfl ?_
      refine y_get (j := 46) (len := 3) (r := (12, 18, 2, 1346)) (by decide +kernel) O69.2.1 (t52 O69.2.1) at52 rfl rfl (g_r52 (f := 18) (T2 := 373) O69.2.1 rfl (by decide)).1 ?_
      refine y_same (i := .iload_n 1) (len := 1) (r := (0, 0, 0, 0)) (pc' := 212) (ls' := [some (.inl (some 52)), some (zi xk), some (.inl (some ((71 + n)))), l3, l4]) (st' := [zi xk, .inl (some 373)]) (by decide +kernel) (fun k q => by cases q) rfl ?_
      refine y_bi (c := 9) (len := 2) (r := (0, 0, 0, 0)) (by decide +kernel) (by decide) (fun y72 hy72 => ?_)
      refine y_ias (i := n) (len := 1) (r := (0, 0, 0, 0)) (by decide +kernel) O69.2.1 (tu373 O69.2.1) at373 rfl (by omega) (by omega) (sr1 (by omega)) (by omega) (by omega) (fun h73 hg73 hl73 hs73 ho73 => ?_)
      refine y_rV (len := 1) (r := (0, 0, 0, 0)) (nL := 5) (n9 := 2) (hs := []) (by decide +kernel) rfl ?_
      exact ⟨_, ⟨aup_trans O0.1 O69.1, hg73, fun k T j hk (hC : k ≠ 68 ∧ k ≠ 69 ∧ ((k ≠ 373 ∧ k ≠ 374 ∧ k ≠ 375 ∧ k ≠ 376) ∨ j ≠ n)) => (((ho73 k j (by omega)).trans (O69.2.2 k T j (O0.1 _ _ hk) (show (k ≠ 374 ∧ k ≠ 375) ∨ j ≠ n by omega)))).trans (O0.2.2 k T j hk hC)⟩, y72, hs73, fun _ _ => by omega, fun _ _ => by omega⟩
  | succ m ih =>
    intro τ h O0 s xs hs hxs h3 h8 hm
    have hg := O0.2.1
    refine y_same (i := .aload_n 0) (len := 1) (r := (0, 0, 0, 0)) (pc' := 151) (ls' := [some (.inl (some 52)), some (zi xk), some (.inl (some ((71 + n)))), l3, l4]) (st' := [.inl (some 52)]) (by decide +kernel) (fun k q => by cases q) rfl ?_
    refine y_get (j := 46) (len := 3) (r := (12, 18, 2, 1346)) (by decide +kernel) hg (t52 hg) at52 rfl rfl (g_r52 (f := 18) (T2 := 373) hg rfl (by decide)).1 ?_
    refine y_same (i := .iload_n 1) (len := 1) (r := (0, 0, 0, 0)) (pc' := 155) (ls' := [some (.inl (some 52)), some (zi xk), some (.inl (some ((71 + n)))), l3, l4]) (st' := [zi xk, .inl (some 373)]) (by decide +kernel) (fun k q => by cases q) rfl ?_
    refine y_ial (i := n) (len := 1) (r := (0, 0, 0, 0)) (by decide +kernel) hg (tu373 hg) at373 (by omega) hs ?_
    refine y_bi (c := 8) (len := 2) (r := (0, 0, 0, 0)) (by decide +kernel) (by decide) (fun y74 hy74 => ?_)
    rcases Decidable.em (xs.toInt ≥ y74.toInt) with q75 | q75
    ·
      refine y_cT (c := .ge) (off := 30) (pc' := 188) (len := 3) (r := (0, 0, 0, 0)) (by decide +kernel) (acmpT (c := .ge) (by show _ ≤ _; omega)) (by decide +kernel) ?_
      refine y_same (i := .aload_n 0) (len := 1) (r := (0, 0, 0, 0)) (pc' := 189) (ls' := [some (.inl (some 52)), some (zi xk), some (.inl (some ((71 + n)))), l3, l4]) (st' := [.inl (some 52)]) (by decide +kernel) (fun k q => by cases q) rfl ?_
      refine y_get (j := 46) (len := 3) (r := (12, 18, 2, 1346)) (by decide +kernel) hg (t52 hg) at52 rfl rfl (g_r52 (f := 18) (T2 := 373) hg rfl (by decide)).1 ?_
      refine y_same (i := .iload_n 1) (len := 1) (r := (0, 0, 0, 0)) (pc' := 193) (ls' := [some (.inl (some 52)), some (zi xk), some (.inl (some ((71 + n)))), l3, l4]) (st' := [zi xk, .inl (some 373)]) (by decide +kernel) (fun k q => by cases q) rfl ?_
      refine y_ial (i := n) (len := 1) (r := (0, 0, 0, 0)) (by decide +kernel) hg (tu373 hg) at373 (by omega) hs ?_
      refine y_bi (c := 8) (len := 2) (r := (0, 0, 0, 0)) (by decide +kernel) (by decide) (fun y76 hy76 => ?_)
      refine y_cF (c := .ne) (off := 19) (len := 3) (r := (0, 0, 0, 0)) (by decide +kernel) (acmpF (c := .ne) (by show _ = _; omega)) ?_
      refine y_same (i := .aload_n 0) (len := 1) (r := (0, 0, 0, 0)) (pc' := 200) (ls' := [some (.inl (some 52)), some (zi xk), some (.inl (some ((71 + n)))), l3, l4]) (st' := [.inl (some 52)]) (by decide +kernel) (fun k q => by cases q) rfl ?_
      refine y_same (i := .iload_n 1) (len := 1) (r := (0, 0, 0, 0)) (pc' := 201) (ls' := [some (.inl (some 52)), some (zi xk), some (.inl (some ((71 + n)))), l3, l4]) (st' := [zi xk, .inl (some 52)]) (by decide +kernel) (fun k q => by cases q) rfl ?_
      refine y_cI (i := .invokevirtual 375) (len := 3) (r := (0, 236, 12, 1767)) (nL := 3) (k := 2) (n := 2) (hs := []) (args := [.inl (some 52), zi xk]) (rest := []) (l0 := [some (.inl (some 52)), some (zi xk), none]) (by decide +kernel) (Or.inr (Or.inl ⟨_, rfl⟩)) rfl rfl rfl rfl (Nat.le_of_ble_eq_true rfl) (z52 hg) rfl (e_empties hg hn9 (by omega)) (fun y77 h77 hRy77 => ?_)
      obtain ⟨ly77, uy77, τ77, O77, f77⟩ := hRy77
      rcases Decidable.em (y77.toInt ≠ 0) with q78 | q78
      ·
        refine y_iT (c := .ne) (off := 11) (pc' := 215) (len := 3) (r := (0, 0, 0, 0)) (by decide +kernel) (acmpT (c := .ne) (by show ¬ (_ = _); omega)) (by decide +kernel) ?_
        refine y_rV (len := 1) (r := (0, 0, 0, 0)) (nL := 5) (n9 := 2) (hs := []) (by decide +kernel) rfl ?_
        have hv79 := (O77.2.2 373 373 n (tu373 hg) (show (373 ≠ 374 ∧ 373 ≠ 375) ∨ n ≠ n by omega)).trans hs
        exact ⟨_, ⟨aup_trans O0.1 O77.1, O77.2.1, fun k T j hk (hC : k ≠ 68 ∧ k ≠ 69 ∧ ((k ≠ 373 ∧ k ≠ 374 ∧ k ≠ 375 ∧ k ≠ 376) ∨ j ≠ n)) => ((O77.2.2 k T j (O0.1 _ _ hk) (show (k ≠ 374 ∧ k ≠ 375) ∨ j ≠ n by omega))).trans (O0.2.2 k T j hk hC)⟩, xs, hv79, fun _ _ => f77 (by omega), fun _ _ => by omega⟩
      ·
        refine y_iF (c := .ne) (off := 11) (len := 3) (r := (0, 0, 0, 0)) (by decide +kernel) (acmpF (c := .ne) (by show _ = _; omega)) ?_
        refine y_same (i := .aload_n 0) (len := 1) (r := (0, 0, 0, 0)) (pc' := 208) (ls' := [some (.inl (some 52)), some (zi xk), some (.inl (some ((71 + n)))), l3, l4]) (st' := [.inl (some 52)]) (by decide +kernel) (fun k q => by cases q) rfl ?_
        refine y_get (j := 46) (len := 3) (r := (12, 18, 2, 1346)) (by decide +kernel) O77.2.1 (t52 O77.2.1) at52 rfl rfl (g_r52 (f := 18) (T2 := 373) O77.2.1 rfl (by decide)).1 ?_
        refine y_same (i := .iload_n 1) (len := 1) (r := (0, 0, 0, 0)) (pc' := 212) (ls' := [some (.inl (some 52)), some (zi xk), some (.inl (some ((71 + n)))), l3, l4]) (st' := [zi xk, .inl (some 373)]) (by decide +kernel) (fun k q => by cases q) rfl ?_
        refine y_bi (c := 9) (len := 2) (r := (0, 0, 0, 0)) (by decide +kernel) (by decide) (fun y80 hy80 => ?_)
        refine y_ias (i := n) (len := 1) (r := (0, 0, 0, 0)) (by decide +kernel) O77.2.1 (tu373 O77.2.1) at373 rfl (by omega) (by omega) (sr1 (by omega)) (by omega) (by omega) (fun h81 hg81 hl81 hs81 ho81 => ?_)
        refine y_rV (len := 1) (r := (0, 0, 0, 0)) (nL := 5) (n9 := 2) (hs := []) (by decide +kernel) rfl ?_
        exact ⟨_, ⟨aup_trans O0.1 O77.1, hg81, fun k T j hk (hC : k ≠ 68 ∧ k ≠ 69 ∧ ((k ≠ 373 ∧ k ≠ 374 ∧ k ≠ 375 ∧ k ≠ 376) ∨ j ≠ n)) => (((ho81 k j (by omega)).trans (O77.2.2 k T j (O0.1 _ _ hk) (show (k ≠ 374 ∧ k ≠ 375) ∨ j ≠ n by omega)))).trans (O0.2.2 k T j hk hC)⟩, y80, hs81, fun _ _ => by omega, fun _ _ => by omega⟩
    ·
      refine y_cF (c := .ge) (off := 30) (len := 3) (r := (0, 0, 0, 0)) (by decide +kernel) (acmpF (c := .ge) (by show _ < _; omega)) ?_
      refine y_same (i := .aload_n 0) (len := 1) (r := (0, 0, 0, 0)) (pc' := 162) (ls' := [some (.inl (some 52)), some (zi xk), some (.inl (some ((71 + n)))), l3, l4]) (st' := [.inl (some 52)]) (by decide +kernel) (fun k q => by cases q) rfl ?_
      refine y_same (i := .iload_n 1) (len := 1) (r := (0, 0, 0, 0)) (pc' := 163) (ls' := [some (.inl (some 52)), some (zi xk), some (.inl (some ((71 + n)))), l3, l4]) (st' := [zi xk, .inl (some 52)]) (by decide +kernel) (fun k q => by cases q) rfl ?_
      refine y_same (i := .aload_n 0) (len := 1) (r := (0, 0, 0, 0)) (pc' := 164) (ls' := [some (.inl (some 52)), some (zi xk), some (.inl (some ((71 + n)))), l3, l4]) (st' := [.inl (some 52), zi xk, .inl (some 52)]) (by decide +kernel) (fun k q => by cases q) rfl ?_
      refine y_get (j := 46) (len := 3) (r := (12, 18, 2, 1346)) (by decide +kernel) hg (t52 hg) at52 rfl rfl (g_r52 (f := 18) (T2 := 373) hg rfl (by decide)).1 ?_
      refine y_same (i := .iload_n 1) (len := 1) (r := (0, 0, 0, 0)) (pc' := 168) (ls' := [some (.inl (some 52)), some (zi xk), some (.inl (some ((71 + n)))), l3, l4]) (st' := [zi xk, .inl (some 373), zi xk, .inl (some 52)]) (by decide +kernel) (fun k q => by cases q) rfl ?_
      refine y_ial (i := n) (len := 1) (r := (0, 0, 0, 0)) (by decide +kernel) hg (tu373 hg) at373 (by omega) hs ?_
      refine y_cI (i := .invokevirtual 372) (len := 3) (r := (0, 234, 12, 1760)) (nL := 6) (k := 2) (n := 3) (hs := []) (args := [.inl (some 52), zi xk, zi xs]) (rest := []) (l0 := [some (.inl (some 52)), some (zi xk), some (zi xs), none, none, none]) (by decide +kernel) (Or.inr (Or.inl ⟨_, rfl⟩)) rfl rfl rfl rfl (Nat.le_of_ble_eq_true rfl) (z52 hg) rfl (e_finds hC hg hn9 (by omega) (by omega) (by omega)) (fun y82 h82 hRy82 => ?_)
      obtain ⟨ly82, uy82, τ82, O82, f82⟩ := hRy82
      rcases Decidable.em (y82.toInt ≠ 0) with q83 | q83
      ·
        refine y_iT (c := .ne) (off := 16) (pc' := 188) (len := 3) (r := (0, 0, 0, 0)) (by decide +kernel) (acmpT (c := .ne) (by show ¬ (_ = _); omega)) (by decide +kernel) ?_
        refine y_same (i := .aload_n 0) (len := 1) (r := (0, 0, 0, 0)) (pc' := 189) (ls' := [some (.inl (some 52)), some (zi xk), some (.inl (some ((71 + n)))), l3, l4]) (st' := [.inl (some 52)]) (by decide +kernel) (fun k q => by cases q) rfl ?_
        refine y_get (j := 46) (len := 3) (r := (12, 18, 2, 1346)) (by decide +kernel) O82.2.1 (t52 O82.2.1) at52 rfl rfl (g_r52 (f := 18) (T2 := 373) O82.2.1 rfl (by decide)).1 ?_
        refine y_same (i := .iload_n 1) (len := 1) (r := (0, 0, 0, 0)) (pc' := 193) (ls' := [some (.inl (some 52)), some (zi xk), some (.inl (some ((71 + n)))), l3, l4]) (st' := [zi xk, .inl (some 373)]) (by decide +kernel) (fun k q => by cases q) rfl ?_
        have hv84 := (O82.2.2 373 373 n (tu373 hg) (show (373 ≠ 374 ∧ 373 ≠ 375) ∨ n ≠ n by omega)).trans hs
        refine y_ial (i := n) (len := 1) (r := (0, 0, 0, 0)) (by decide +kernel) O82.2.1 (tu373 O82.2.1) at373 (by omega) hv84 ?_
        refine y_bi (c := 8) (len := 2) (r := (0, 0, 0, 0)) (by decide +kernel) (by decide) (fun y85 hy85 => ?_)
        refine y_cT (c := .ne) (off := 19) (pc' := 215) (len := 3) (r := (0, 0, 0, 0)) (by decide +kernel) (acmpT (c := .ne) (by show ¬ (_ = _); omega)) (by decide +kernel) ?_
        refine y_rV (len := 1) (r := (0, 0, 0, 0)) (nL := 5) (n9 := 2) (hs := []) (by decide +kernel) rfl ?_
        exact ⟨_, ⟨aup_trans O0.1 O82.1, O82.2.1, fun k T j hk (hC : k ≠ 68 ∧ k ≠ 69 ∧ ((k ≠ 373 ∧ k ≠ 374 ∧ k ≠ 375 ∧ k ≠ 376) ∨ j ≠ n)) => ((O82.2.2 k T j (O0.1 _ _ hk) (show (k ≠ 374 ∧ k ≠ 375) ∨ j ≠ n by omega))).trans (O0.2.2 k T j hk hC)⟩, xs, hv84, fun _ _ => (f82 (by omega)).1, fun _ _ => (f82 (by omega)).2⟩
      ·
        refine y_iF (c := .ne) (off := 16) (len := 3) (r := (0, 0, 0, 0)) (by decide +kernel) (acmpF (c := .ne) (by show _ = _; omega)) ?_
        refine y_same (i := .aload_n 0) (len := 1) (r := (0, 0, 0, 0)) (pc' := 176) (ls' := [some (.inl (some 52)), some (zi xk), some (.inl (some ((71 + n)))), l3, l4]) (st' := [.inl (some 52)]) (by decide +kernel) (fun k q => by cases q) rfl ?_
        refine y_get (j := 46) (len := 3) (r := (12, 18, 2, 1346)) (by decide +kernel) O82.2.1 (t52 O82.2.1) at52 rfl rfl (g_r52 (f := 18) (T2 := 373) O82.2.1 rfl (by decide)).1 ?_
        refine y_same (i := .iload_n 1) (len := 1) (r := (0, 0, 0, 0)) (pc' := 180) (ls' := [some (.inl (some 52)), some (zi xk), some (.inl (some ((71 + n)))), l3, l4]) (st' := [zi xk, .inl (some 373)]) (by decide +kernel) (fun k q => by cases q) rfl ?_
        refine y_same (i := .dup2) (len := 1) (r := (0, 0, 0, 0)) (pc' := 181) (ls' := [some (.inl (some 52)), some (zi xk), some (.inl (some ((71 + n)))), l3, l4]) (st' := [zi xk, .inl (some 373), zi xk, .inl (some 373)]) (by decide +kernel) (fun k q => by cases q) rfl ?_
        have hv86 := (O82.2.2 373 373 n (tu373 hg) (show (373 ≠ 374 ∧ 373 ≠ 375) ∨ n ≠ n by omega)).trans hs
        refine y_ial (i := n) (len := 1) (r := (0, 0, 0, 0)) (by decide +kernel) O82.2.1 (tu373 O82.2.1) at373 (by omega) hv86 ?_
        refine y_ic (c := 1) (len := 1) (r := (0, 0, 0, 0)) (by decide +kernel) (by decide) (fun y87 hy87 => ?_)
        refine y_add (len := 1) (r := (0, 0, 0, 0)) (by decide +kernel) (by omega) (by omega) (fun y88 hy88 => ?_)
        refine y_ias (i := n) (len := 1) (r := (0, 0, 0, 0)) (by decide +kernel) O82.2.1 (tu373 O82.2.1) at373 rfl (by omega) (by omega) (sr1 (by omega)) (by omega) (by omega) (fun h89 hg89 hl89 hs89 ho89 => ?_)
        refine y_goto (off := (-35)) (pc' := 150) (len := 3) (r := (0, 0, 0, 0)) (by decide +kernel) (by decide +kernel) ?_
        exact ih τ82 h89 ⟨aup_trans O0.1 O82.1, hg89, fun k T j hk (hC : k ≠ 68 ∧ k ≠ 69 ∧ ((k ≠ 373 ∧ k ≠ 374 ∧ k ≠ 375 ∧ k ≠ 376) ∨ j ≠ n)) => (((ho89 k j (by omega)).trans (O82.2.2 k T j (O0.1 _ _ hk) (show (k ≠ 374 ∧ k ≠ 375) ∨ j ≠ n by omega)))).trans (O0.2.2 k T j hk hC)⟩ (s + 1) y88 hs89 (by omega) (by omega) (by omega) (by omega)
theorem st_t {τ0 : List Nat} {h0 : zh} {n t : Nat} (hC : ∀ (mk : Nat) (c' : aK), c' ∈ actb mk → c'.2.2.1 ≤ 8 → cOK aJ mk c') (hn9 : n < 300) {xk : Int32} (hxk : xk.toInt = (n : Int)) {l3 l4 : Option zv} {τ : List Nat} {h : zh} (O0 : oF (fun k j => k ≠ 68 ∧ k ≠ 69 ∧ ((k ≠ 373 ∧ k ≠ 374 ∧ k ≠ 375 ∧ k ≠ 376) ∨ j ≠ n)) τ0 h0 τ h) : qX 10 233 88 [some (.inl (some 52)), some (zi xk), some (.inl (some (71 + n))), l3, l4] [] h t (rV (spR τ0 n h0) t) := by
  have hg := O0.2.1
  refine y_same (i := .aload_n 0) (len := 1) (r := (0, 0, 0, 0)) (pc' := 89) (ls' := [some (.inl (some 52)), some (zi xk), some (.inl (some ((71 + n)))), l3, l4]) (st' := [.inl (some 52)]) (by decide +kernel) (fun k q => by cases q) rfl ?_
  refine y_get (j := 55) (len := 3) (r := (12, 21, 2, 1349)) (by decide +kernel) hg (t52 hg) at52 rfl rfl (g_r52 (f := 21) (T2 := 376) hg rfl (by decide)).1 ?_
  refine y_same (i := .iload_n 1) (len := 1) (r := (0, 0, 0, 0)) (pc' := 93) (ls' := [some (.inl (some 52)), some (zi xk), some (.inl (some ((71 + n)))), l3, l4]) (st' := [zi xk, .inl (some 376)]) (by decide +kernel) (fun k q => by cases q) rfl ?_
  obtain ⟨v90, hv91, lv90, uv90⟩ := g_int (i := n) hg (tu376 hg) at376 (show n < 300 by omega) (sr1 (by omega))
  refine y_ial (i := n) (len := 1) (r := (0, 0, 0, 0)) (by decide +kernel) hg (tu376 hg) at376 (by omega) hv91 ?_
  refine y_ic (c := (-1)) (len := 1) (r := (0, 0, 0, 0)) (by decide +kernel) (by decide) (fun y92 hy92 => ?_)
  rcases Decidable.em (v90.toInt = y92.toInt) with q93 | q93
  ·
    refine y_cT (c := .eq) (off := 13) (pc' := 108) (len := 3) (r := (0, 0, 0, 0)) (by decide +kernel) (acmpT (c := .eq) (by show _ = _; omega)) (by decide +kernel) ?_
    refine y_same (i := .aload_n 2) (len := 1) (r := (0, 0, 0, 0)) (pc' := 109) (ls' := [some (.inl (some 52)), some (zi xk), some (.inl (some ((71 + n)))), l3, l4]) (st' := [.inl (some ((71 + n)))]) (by decide +kernel) (fun k q => by cases q) rfl ?_
    refine y_ic (c := 1) (len := 1) (r := (0, 0, 0, 0)) (by decide +kernel) (by decide) (fun y94 hy94 => ?_)
    obtain ⟨v95, hv96, lv95, uv95⟩ := g_int (i := 1) hg (tuR hg (by omega)) at1012 (show 1 < 200 by omega) (srA (by omega))
    refine y_ial (i := 1) (len := 1) (r := (0, 0, 0, 0)) (by decide +kernel) hg (tuR hg (by omega)) at1012 (by omega) hv96 ?_
    rcases Decidable.em (v95.toInt ≠ 0) with q97 | q97
    ·
      refine y_iT (c := .ne) (off := 32) (pc' := 143) (len := 3) (r := (0, 0, 0, 0)) (by decide +kernel) (acmpT (c := .ne) (by show ¬ (_ = _); omega)) (by decide +kernel) ?_
      refine y_same (i := .aload_n 0) (len := 1) (r := (0, 0, 0, 0)) (pc' := 144) (ls' := [some (.inl (some 52)), some (zi xk), some (.inl (some ((71 + n)))), l3, l4]) (st' := [.inl (some 52)]) (by decide +kernel) (fun k q => by cases q) rfl ?_
      refine y_get (j := 46) (len := 3) (r := (12, 18, 2, 1346)) (by decide +kernel) hg (t52 hg) at52 rfl rfl (g_r52 (f := 18) (T2 := 373) hg rfl (by decide)).1 ?_
      refine y_same (i := .iload_n 1) (len := 1) (r := (0, 0, 0, 0)) (pc' := 148) (ls' := [some (.inl (some 52)), some (zi xk), some (.inl (some ((71 + n)))), l3, l4]) (st' := [zi xk, .inl (some 373)]) (by decide +kernel) (fun k q => by cases q) rfl ?_
      refine y_ic (c := 3) (len := 1) (r := (0, 0, 0, 0)) (by decide +kernel) (by decide) (fun y98 hy98 => ?_)
      refine y_ias (i := n) (len := 1) (r := (0, 0, 0, 0)) (by decide +kernel) hg (tu373 hg) at373 rfl (by omega) (by omega) (sr1 (by omega)) (by omega) (by omega) (fun h99 hg99 hl99 hs99 ho99 => ?_)
      exact st_f hC hn9 hxk 5 τ h99 ⟨aup_trans O0.1 (aup_refl _), hg99, fun k T j hk (hC : k ≠ 68 ∧ k ≠ 69 ∧ ((k ≠ 373 ∧ k ≠ 374 ∧ k ≠ 375 ∧ k ≠ 376) ∨ j ≠ n)) => ((ho99 k j (by omega))).trans (O0.2.2 k T j hk hC)⟩ 3 y98 hs99 (by omega) (by omega) (by omega) (by omega)
    ·
      refine y_iF (c := .ne) (off := 32) (len := 3) (r := (0, 0, 0, 0)) (by decide +kernel) (acmpF (c := .ne) (by show _ = _; omega)) ?_
      refine y_same (i := .aload_n 2) (len := 1) (r := (0, 0, 0, 0)) (pc' := 115) (ls' := [some (.inl (some 52)), some (zi xk), some (.inl (some ((71 + n)))), l3, l4]) (st' := [.inl (some ((71 + n)))]) (by decide +kernel) (fun k q => by cases q) rfl ?_
      refine y_ic (c := 2) (len := 1) (r := (0, 0, 0, 0)) (by decide +kernel) (by decide) (fun y100 hy100 => ?_)
      obtain ⟨v101, hv102, lv101, uv101⟩ := g_int (i := 2) hg (tuR hg (by omega)) at1012 (show 2 < 200 by omega) (srA (by omega))
      refine y_ial (i := 2) (len := 1) (r := (0, 0, 0, 0)) (by decide +kernel) hg (tuR hg (by omega)) at1012 (by omega) hv102 ?_
      rcases Decidable.em (v101.toInt ≠ 0) with q103 | q103
      ·
        refine y_iT (c := .ne) (off := 26) (pc' := 143) (len := 3) (r := (0, 0, 0, 0)) (by decide +kernel) (acmpT (c := .ne) (by show ¬ (_ = _); omega)) (by decide +kernel) ?_
        refine y_same (i := .aload_n 0) (len := 1) (r := (0, 0, 0, 0)) (pc' := 144) (ls' := [some (.inl (some 52)), some (zi xk), some (.inl (some ((71 + n)))), l3, l4]) (st' := [.inl (some 52)]) (by decide +kernel) (fun k q => by cases q) rfl ?_
        refine y_get (j := 46) (len := 3) (r := (12, 18, 2, 1346)) (by decide +kernel) hg (t52 hg) at52 rfl rfl (g_r52 (f := 18) (T2 := 373) hg rfl (by decide)).1 ?_
        refine y_same (i := .iload_n 1) (len := 1) (r := (0, 0, 0, 0)) (pc' := 148) (ls' := [some (.inl (some 52)), some (zi xk), some (.inl (some ((71 + n)))), l3, l4]) (st' := [zi xk, .inl (some 373)]) (by decide +kernel) (fun k q => by cases q) rfl ?_
        refine y_ic (c := 3) (len := 1) (r := (0, 0, 0, 0)) (by decide +kernel) (by decide) (fun y104 hy104 => ?_)
        refine y_ias (i := n) (len := 1) (r := (0, 0, 0, 0)) (by decide +kernel) hg (tu373 hg) at373 rfl (by omega) (by omega) (sr1 (by omega)) (by omega) (by omega) (fun h105 hg105 hl105 hs105 ho105 => ?_)
        exact st_f hC hn9 hxk 5 τ h105 ⟨aup_trans O0.1 (aup_refl _), hg105, fun k T j hk (hC : k ≠ 68 ∧ k ≠ 69 ∧ ((k ≠ 373 ∧ k ≠ 374 ∧ k ≠ 375 ∧ k ≠ 376) ∨ j ≠ n)) => ((ho105 k j (by omega))).trans (O0.2.2 k T j hk hC)⟩ 3 y104 hs105 (by omega) (by omega) (by omega) (by omega)
      ·
        refine y_iF (c := .ne) (off := 26) (len := 3) (r := (0, 0, 0, 0)) (by decide +kernel) (acmpF (c := .ne) (by show _ = _; omega)) ?_
        refine y_same (i := .aload_n 0) (len := 1) (r := (0, 0, 0, 0)) (pc' := 121) (ls' := [some (.inl (some 52)), some (zi xk), some (.inl (some ((71 + n)))), l3, l4]) (st' := [.inl (some 52)]) (by decide +kernel) (fun k q => by cases q) rfl ?_
        obtain ⟨v106, hv107, lv106, uv106⟩ := g_int (i := 32) (lo := 0) (hi := 1) hg (t52 hg) at52 (by decide) rfl
        refine y_get (j := 363) (len := 3) (r := (12, 32, 1, 1360)) (by decide +kernel) hg (t52 hg) at52 rfl rfl hv107 ?_
        rcases Decidable.em (v106.toInt ≠ 0) with q108 | q108
        ·
          refine y_iT (c := .ne) (off := 9) (pc' := 133) (len := 3) (r := (0, 0, 0, 0)) (by decide +kernel) (acmpT (c := .ne) (by show ¬ (_ = _); omega)) (by decide +kernel) ?_
          refine y_same (i := .aload_n 0) (len := 1) (r := (0, 0, 0, 0)) (pc' := 134) (ls' := [some (.inl (some 52)), some (zi xk), some (.inl (some ((71 + n)))), l3, l4]) (st' := [.inl (some 52)]) (by decide +kernel) (fun k q => by cases q) rfl ?_
          refine y_get (j := 46) (len := 3) (r := (12, 18, 2, 1346)) (by decide +kernel) hg (t52 hg) at52 rfl rfl (g_r52 (f := 18) (T2 := 373) hg rfl (by decide)).1 ?_
          refine y_same (i := .iload_n 1) (len := 1) (r := (0, 0, 0, 0)) (pc' := 138) (ls' := [some (.inl (some 52)), some (zi xk), some (.inl (some ((71 + n)))), l3, l4]) (st' := [zi xk, .inl (some 373)]) (by decide +kernel) (fun k q => by cases q) rfl ?_
          refine y_ic (c := 2) (len := 1) (r := (0, 0, 0, 0)) (by decide +kernel) (by decide) (fun y109 hy109 => ?_)
          refine y_ias (i := n) (len := 1) (r := (0, 0, 0, 0)) (by decide +kernel) hg (tu373 hg) at373 rfl (by omega) (by omega) (sr1 (by omega)) (by omega) (by omega) (fun h110 hg110 hl110 hs110 ho110 => ?_)
          refine y_goto (off := 75) (pc' := 215) (len := 3) (r := (0, 0, 0, 0)) (by decide +kernel) (by decide +kernel) ?_
          refine y_rV (len := 1) (r := (0, 0, 0, 0)) (nL := 5) (n9 := 2) (hs := []) (by decide +kernel) rfl ?_
          exact ⟨_, ⟨aup_trans O0.1 (aup_refl _), hg110, fun k T j hk (hC : k ≠ 68 ∧ k ≠ 69 ∧ ((k ≠ 373 ∧ k ≠ 374 ∧ k ≠ 375 ∧ k ≠ 376) ∨ j ≠ n)) => ((ho110 k j (by omega))).trans (O0.2.2 k T j hk hC)⟩, y109, hs110, fun _ _ => by omega, fun _ _ => by omega⟩
        ·
          refine y_iF (c := .ne) (off := 9) (len := 3) (r := (0, 0, 0, 0)) (by decide +kernel) (acmpF (c := .ne) (by show _ = _; omega)) ?_
          refine y_same (i := .aload_n 2) (len := 1) (r := (0, 0, 0, 0)) (pc' := 128) (ls' := [some (.inl (some 52)), some (zi xk), some (.inl (some ((71 + n)))), l3, l4]) (st' := [.inl (some ((71 + n)))]) (by decide +kernel) (fun k q => by cases q) rfl ?_
          refine y_ic (c := 0) (len := 1) (r := (0, 0, 0, 0)) (by decide +kernel) (by decide) (fun y111 hy111 => ?_)
          obtain ⟨v112, hv113, lv112, uv112⟩ := g_int (i := 0) hg (tuR hg (by omega)) at1012 (show 0 < 200 by omega) (srA (by omega))
          refine y_ial (i := 0) (len := 1) (r := (0, 0, 0, 0)) (by decide +kernel) hg (tuR hg (by omega)) at1012 (by omega) hv113 ?_
          rcases Decidable.em (v112.toInt ≠ 0) with q114 | q114
          ·
            refine y_iT (c := .ne) (off := 13) (pc' := 143) (len := 3) (r := (0, 0, 0, 0)) (by decide +kernel) (acmpT (c := .ne) (by show ¬ (_ = _); omega)) (by decide +kernel) ?_
            refine y_same (i := .aload_n 0) (len := 1) (r := (0, 0, 0, 0)) (pc' := 144) (ls' := [some (.inl (some 52)), some (zi xk), some (.inl (some ((71 + n)))), l3, l4]) (st' := [.inl (some 52)]) (by decide +kernel) (fun k q => by cases q) rfl ?_
            refine y_get (j := 46) (len := 3) (r := (12, 18, 2, 1346)) (by decide +kernel) hg (t52 hg) at52 rfl rfl (g_r52 (f := 18) (T2 := 373) hg rfl (by decide)).1 ?_
            refine y_same (i := .iload_n 1) (len := 1) (r := (0, 0, 0, 0)) (pc' := 148) (ls' := [some (.inl (some 52)), some (zi xk), some (.inl (some ((71 + n)))), l3, l4]) (st' := [zi xk, .inl (some 373)]) (by decide +kernel) (fun k q => by cases q) rfl ?_
            refine y_ic (c := 3) (len := 1) (r := (0, 0, 0, 0)) (by decide +kernel) (by decide) (fun y115 hy115 => ?_)
            refine y_ias (i := n) (len := 1) (r := (0, 0, 0, 0)) (by decide +kernel) hg (tu373 hg) at373 rfl (by omega) (by omega) (sr1 (by omega)) (by omega) (by omega) (fun h116 hg116 hl116 hs116 ho116 => ?_)
            exact st_f hC hn9 hxk 5 τ h116 ⟨aup_trans O0.1 (aup_refl _), hg116, fun k T j hk (hC : k ≠ 68 ∧ k ≠ 69 ∧ ((k ≠ 373 ∧ k ≠ 374 ∧ k ≠ 375 ∧ k ≠ 376) ∨ j ≠ n)) => ((ho116 k j (by omega))).trans (O0.2.2 k T j hk hC)⟩ 3 y115 hs116 (by omega) (by omega) (by omega) (by omega)
          ·
            refine y_iF (c := .ne) (off := 13) (len := 3) (r := (0, 0, 0, 0)) (by decide +kernel) (acmpF (c := .ne) (by show _ = _; omega)) ?_
            refine y_same (i := .aload_n 0) (len := 1) (r := (0, 0, 0, 0)) (pc' := 134) (ls' := [some (.inl (some 52)), some (zi xk), some (.inl (some ((71 + n)))), l3, l4]) (st' := [.inl (some 52)]) (by decide +kernel) (fun k q => by cases q) rfl ?_
            refine y_get (j := 46) (len := 3) (r := (12, 18, 2, 1346)) (by decide +kernel) hg (t52 hg) at52 rfl rfl (g_r52 (f := 18) (T2 := 373) hg rfl (by decide)).1 ?_
            refine y_same (i := .iload_n 1) (len := 1) (r := (0, 0, 0, 0)) (pc' := 138) (ls' := [some (.inl (some 52)), some (zi xk), some (.inl (some ((71 + n)))), l3, l4]) (st' := [zi xk, .inl (some 373)]) (by decide +kernel) (fun k q => by cases q) rfl ?_
            refine y_ic (c := 2) (len := 1) (r := (0, 0, 0, 0)) (by decide +kernel) (by decide) (fun y117 hy117 => ?_)
            refine y_ias (i := n) (len := 1) (r := (0, 0, 0, 0)) (by decide +kernel) hg (tu373 hg) at373 rfl (by omega) (by omega) (sr1 (by omega)) (by omega) (by omega) (fun h118 hg118 hl118 hs118 ho118 => ?_)
            refine y_goto (off := 75) (pc' := 215) (len := 3) (r := (0, 0, 0, 0)) (by decide +kernel) (by decide +kernel) ?_
            refine y_rV (len := 1) (r := (0, 0, 0, 0)) (nL := 5) (n9 := 2) (hs := []) (by decide +kernel) rfl ?_
            exact ⟨_, ⟨aup_trans O0.1 (aup_refl _), hg118, fun k T j hk (hC : k ≠ 68 ∧ k ≠ 69 ∧ ((k ≠ 373 ∧ k ≠ 374 ∧ k ≠ 375 ∧ k ≠ 376) ∨ j ≠ n)) => ((ho118 k j (by omega))).trans (O0.2.2 k T j hk hC)⟩, y117, hs118, fun _ _ => by omega, fun _ _ => by omega⟩
  ·
    refine y_cF (c := .eq) (off := 13) (len := 3) (r := (0, 0, 0, 0)) (by decide +kernel) (acmpF (c := .eq) (by show ¬ (_ = _); omega)) ?_
    refine y_same (i := .aload_n 0) (len := 1) (r := (0, 0, 0, 0)) (pc' := 99) (ls' := [some (.inl (some 52)), some (zi xk), some (.inl (some ((71 + n)))), l3, l4]) (st' := [.inl (some 52)]) (by decide +kernel) (fun k q => by cases q) rfl ?_
    refine y_get (j := 46) (len := 3) (r := (12, 18, 2, 1346)) (by decide +kernel) hg (t52 hg) at52 rfl rfl (g_r52 (f := 18) (T2 := 373) hg rfl (by decide)).1 ?_
    refine y_same (i := .iload_n 1) (len := 1) (r := (0, 0, 0, 0)) (pc' := 103) (ls' := [some (.inl (some 52)), some (zi xk), some (.inl (some ((71 + n)))), l3, l4]) (st' := [zi xk, .inl (some 373)]) (by decide +kernel) (fun k q => by cases q) rfl ?_
    refine y_ic (c := 1) (len := 1) (r := (0, 0, 0, 0)) (by decide +kernel) (by decide) (fun y119 hy119 => ?_)
    refine y_ias (i := n) (len := 1) (r := (0, 0, 0, 0)) (by decide +kernel) hg (tu373 hg) at373 rfl (by omega) (by omega) (sr1 (by omega)) (by omega) (by omega) (fun h120 hg120 hl120 hs120 ho120 => ?_)
    refine y_goto (off := 110) (pc' := 215) (len := 3) (r := (0, 0, 0, 0)) (by decide +kernel) (by decide +kernel) ?_
    refine y_rV (len := 1) (r := (0, 0, 0, 0)) (nL := 5) (n9 := 2) (hs := []) (by decide +kernel) rfl ?_
    exact ⟨_, ⟨aup_trans O0.1 (aup_refl _), hg120, fun k T j hk (hC : k ≠ 68 ∧ k ≠ 69 ∧ ((k ≠ 373 ∧ k ≠ 374 ∧ k ≠ 375 ∧ k ≠ 376) ∨ j ≠ n)) => ((ho120 k j (by omega))).trans (O0.2.2 k T j hk hC)⟩, y119, hs120, fun _ _ => by omega, fun _ _ => by omega⟩
theorem st_c {τ0 : List Nat} {h0 : zh} {n t : Nat} (hC : ∀ (mk : Nat) (c' : aK), c' ∈ actb mk → c'.2.2.1 ≤ 8 → cOK aJ mk c') (hn9 : n < 300) {xk : Int32} (hxk : xk.toInt = (n : Int)) (hg0 : hG τ0 h0) (hpar : ∀ j, j ≤ n → ∃ x : Int32, hsl h0 371 j = some (zi x) ∧ x.toInt < (j : Int)) : ∀ (m : Nat) (τ : List Nat) (h : zh), oF (fun k j => k ≠ 68 ∧ k ≠ 69 ∧ ((k ≠ 373 ∧ k ≠ 374 ∧ k ≠ 375 ∧ k ≠ 376) ∨ j ≠ n)) τ0 h0 τ h → ∀ (a : Nat) (xg xa : Int32), xa.toInt = (a : Int) - 1 → a ≤ n + 1 → a ≤ m → qX 10 233 17 [some (.inl (some 52)), some (zi xk), some (.inl (some (71 + n))), some (zi xg), some (zi xa)] [] h t (rV (spR τ0 n h0) t) := by
  intro m
  induction m with
  | zero =>
    intro τ h O0 a xg xa hxa ha hm
    have hg := O0.2.1
    refine y_same (i := .iload 4) (len := 2) (r := (0, 0, 0, 0)) (pc' := 19) (ls' := [some (.inl (some 52)), some (zi xk), some (.inl (some ((71 + n)))), some (zi xg), some (zi xa)]) (st' := [zi xa]) (by decide +kernel) (fun k q => by cases q) rfl ?_
    refine y_ic (c := (-1)) (len := 1) (r := (0, 0, 0, 0)) (by decide +kernel) (by decide) (fun y121 hy121 => ?_)
    refine y_cT (c := .eq) (off := 68) (pc' := 88) (len := 3) (r := (0, 0, 0, 0)) (by decide +kernel) (acmpT (c := .eq) (by show _ = _; omega)) (by decide +kernel) ?_
    exact st_t hC hn9 hxk O0
  | succ m ih =>
    intro τ h O0 a xg xa hxa ha hm
    have hg := O0.2.1
    rcases (show a = 0 ∨ 1 ≤ a by omega) with q0 | q0
    ·
      refine y_same (i := .iload 4) (len := 2) (r := (0, 0, 0, 0)) (pc' := 19) (ls' := [some (.inl (some 52)), some (zi xk), some (.inl (some ((71 + n)))), some (zi xg), some (zi xa)]) (st' := [zi xa]) (by decide +kernel) (fun k q => by cases q) rfl ?_
      refine y_ic (c := (-1)) (len := 1) (r := (0, 0, 0, 0)) (by decide +kernel) (by decide) (fun y122 hy122 => ?_)
      refine y_cT (c := .eq) (off := 68) (pc' := 88) (len := 3) (r := (0, 0, 0, 0)) (by decide +kernel) (acmpT (c := .eq) (by show _ = _; omega)) (by decide +kernel) ?_
      exact st_t hC hn9 hxk O0
    · obtain ⟨xp, hp0, lp⟩ := hpar (a - 1) (by omega)
      have hp := (O0.2.2 371 371 (a - 1) (tu371 hg0) (show (371 : Nat) ≠ 68 ∧ (371 : Nat) ≠ 69 ∧ (((371 : Nat) ≠ 373 ∧ (371 : Nat) ≠ 374 ∧ (371 : Nat) ≠ 375 ∧ (371 : Nat) ≠ 376) ∨ a - 1 ≠ n) by omega)).trans hp0
      obtain ⟨xp', hp', lxp, uxp⟩ := g_int (i := (a - 1)) hg (tu371 hg) at371 (show (a - 1) < 300 by omega) (sr1 (by omega))
      rw [hp] at hp'
      cases hp'
      refine y_same (i := .iload 4) (len := 2) (r := (0, 0, 0, 0)) (pc' := 19) (ls' := [some (.inl (some 52)), some (zi xk), some (.inl (some ((71 + n)))), some (zi xg), some (zi xa)]) (st' := [zi xa]) (by decide +kernel) (fun k q => by cases q) rfl ?_
      refine y_ic (c := (-1)) (len := 1) (r := (0, 0, 0, 0)) (by decide +kernel) (by decide) (fun y123 hy123 => ?_)
      refine y_cF (c := .eq) (off := 68) (len := 3) (r := (0, 0, 0, 0)) (by decide +kernel) (acmpF (c := .eq) (by show ¬ (_ = _); omega)) ?_
      refine y_same (i := .aload_n 0) (len := 1) (r := (0, 0, 0, 0)) (pc' := 24) (ls' := [some (.inl (some 52)), some (zi xk), some (.inl (some ((71 + n)))), some (zi xg), some (zi xa)]) (st' := [.inl (some 52)]) (by decide +kernel) (fun k q => by cases q) rfl ?_
      obtain ⟨v124, hv125, lv124, uv124⟩ := g_int (i := 32) (lo := 0) (hi := 1) hg (t52 hg) at52 (by decide) rfl
      refine y_get (j := 363) (len := 3) (r := (12, 32, 1, 1360)) (by decide +kernel) hg (t52 hg) at52 rfl rfl hv125 ?_
      rcases Decidable.em (v124.toInt ≠ 0) with q126 | q126
      ·
        refine y_iT (c := .ne) (off := 61) (pc' := 88) (len := 3) (r := (0, 0, 0, 0)) (by decide +kernel) (acmpT (c := .ne) (by show ¬ (_ = _); omega)) (by decide +kernel) ?_
        exact st_t hC hn9 hxk O0
      ·
        refine y_iF (c := .ne) (off := 61) (len := 3) (r := (0, 0, 0, 0)) (by decide +kernel) (acmpF (c := .ne) (by show _ = _; omega)) ?_
        refine y_same (i := .aload_n 0) (len := 1) (r := (0, 0, 0, 0)) (pc' := 31) (ls' := [some (.inl (some 52)), some (zi xk), some (.inl (some ((71 + n)))), some (zi xg), some (zi xa)]) (st' := [.inl (some 52)]) (by decide +kernel) (fun k q => by cases q) rfl ?_
        refine y_get (j := 55) (len := 3) (r := (12, 21, 2, 1349)) (by decide +kernel) hg (t52 hg) at52 rfl rfl (g_r52 (f := 21) (T2 := 376) hg rfl (by decide)).1 ?_
        refine y_same (i := .iload_n 1) (len := 1) (r := (0, 0, 0, 0)) (pc' := 35) (ls' := [some (.inl (some 52)), some (zi xk), some (.inl (some ((71 + n)))), some (zi xg), some (zi xa)]) (st' := [zi xk, .inl (some 376)]) (by decide +kernel) (fun k q => by cases q) rfl ?_
        obtain ⟨v127, hv128, lv127, uv127⟩ := g_int (i := n) hg (tu376 hg) at376 (show n < 300 by omega) (sr1 (by omega))
        refine y_ial (i := n) (len := 1) (r := (0, 0, 0, 0)) (by decide +kernel) hg (tu376 hg) at376 (by omega) hv128 ?_
        refine y_ic (c := (-1)) (len := 1) (r := (0, 0, 0, 0)) (by decide +kernel) (by decide) (fun y129 hy129 => ?_)
        rcases Decidable.em (v127.toInt ≠ y129.toInt) with q130 | q130
        ·
          refine y_cT (c := .ne) (off := 51) (pc' := 88) (len := 3) (r := (0, 0, 0, 0)) (by decide +kernel) (acmpT (c := .ne) (by show ¬ (_ = _); omega)) (by decide +kernel) ?_
          exact st_t hC hn9 hxk O0
        ·
          refine y_cF (c := .ne) (off := 51) (len := 3) (r := (0, 0, 0, 0)) (by decide +kernel) (acmpF (c := .ne) (by show _ = _; omega)) ?_
          refine y_same (i := .iload_n 3) (len := 1) (r := (0, 0, 0, 0)) (pc' := 41) (ls' := [some (.inl (some 52)), some (zi xk), some (.inl (some ((71 + n)))), some (zi xg), some (zi xa)]) (st' := [zi xg]) (by decide +kernel) (fun k q => by cases q) rfl ?_
          refine y_same (i := .aload_n 0) (len := 1) (r := (0, 0, 0, 0)) (pc' := 42) (ls' := [some (.inl (some 52)), some (zi xk), some (.inl (some ((71 + n)))), some (zi xg), some (zi xa)]) (st' := [.inl (some 52), zi xg]) (by decide +kernel) (fun k q => by cases q) rfl ?_
          refine y_same (i := .iload 4) (len := 2) (r := (0, 0, 0, 0)) (pc' := 44) (ls' := [some (.inl (some 52)), some (zi xk), some (.inl (some ((71 + n)))), some (zi xg), some (zi xa)]) (st' := [zi xa, .inl (some 52), zi xg]) (by decide +kernel) (fun k q => by cases q) rfl ?_
          refine y_cI (i := .invokevirtual 366) (len := 3) (r := (0, 232, 12, 1734)) (nL := 2) (k := 2) (n := 2) (hs := []) (args := [.inl (some 52), zi xa]) (rest := [zi xg]) (l0 := [some (.inl (some 52)), some (zi xa)]) (by decide +kernel) (Or.inr (Or.inl ⟨_, rfl⟩)) rfl rfl rfl rfl (Nat.le_of_ble_eq_true rfl) (z52 hg) rfl (use_I (τ := τ) 0 1 (hC 232 ac286 List.mem_cons_self (by decide)) rfl hg (show aqsM _ _ [.inl (some 52), zi xa] from ⟨aqR (t52 hg), aqI (by omega) (by omega), trivial⟩) rfl (by decide +kernel) (by decide)) (fun y131 h131 hRy131 => ?_)
          obtain ⟨ly131, uy131, τ131, hu131, hg131, hF131⟩ := hRy131
          have O131 : oF (fun _ _ => True) τ h τ131 h131 := ⟨hu131, hg131, fun k T j hk _ => hF131 k T j hk rfl⟩
          refine y_bp (i := .ior) (f := fun x y => x ||| y) (len := 1) (r := (0, 0, 0, 0)) (by decide +kernel) rfl rfl (fun y132 hy132 => ?_)
          have hy132 : y132 = xg ||| y131 := hy132
          refine y_same (i := .istore_n 3) (len := 1) (r := (0, 0, 0, 0)) (pc' := 49) (ls' := [some (.inl (some 52)), some (zi xk), some (.inl (some ((71 + n)))), some (zi y132), some (zi xa)]) (st' := []) (by decide +kernel) (fun k q => by cases q) rfl ?_
          refine y_same (i := .iload_n 3) (len := 1) (r := (0, 0, 0, 0)) (pc' := 50) (ls' := [some (.inl (some 52)), some (zi xk), some (.inl (some ((71 + n)))), some (zi y132), some (zi xa)]) (st' := [zi y132]) (by decide +kernel) (fun k q => by cases q) rfl ?_
          rcases Decidable.em (y132.toInt = 0) with q133 | q133
          ·
            refine y_iT (c := .eq) (off := 26) (pc' := 76) (len := 3) (r := (0, 0, 0, 0)) (by decide +kernel) (acmpT (c := .eq) (by show _ = _; omega)) (by decide +kernel) ?_
            refine y_same (i := .aload_n 0) (len := 1) (r := (0, 0, 0, 0)) (pc' := 77) (ls' := [some (.inl (some 52)), some (zi xk), some (.inl (some ((71 + n)))), some (zi y132), some (zi xa)]) (st' := [.inl (some 52)]) (by decide +kernel) (fun k q => by cases q) rfl ?_
            refine y_get (j := 40) (len := 3) (r := (12, 16, 2, 1344)) (by decide +kernel) O131.2.1 (t52 O131.2.1) at52 rfl rfl (g_r52 (f := 16) (T2 := 371) O131.2.1 rfl (by decide)).1 ?_
            refine y_same (i := .iload 4) (len := 2) (r := (0, 0, 0, 0)) (pc' := 82) (ls' := [some (.inl (some 52)), some (zi xk), some (.inl (some ((71 + n)))), some (zi y132), some (zi xa)]) (st' := [zi xa, .inl (some 371)]) (by decide +kernel) (fun k q => by cases q) rfl ?_
            have hv134 := (O131.2.2 371 371 (a - 1) (tu371 hg) (trivial)).trans hp
            refine y_ial (i := (a - 1)) (len := 1) (r := (0, 0, 0, 0)) (by decide +kernel) O131.2.1 (tu371 O131.2.1) at371 (by omega) hv134 ?_
            refine y_same (i := .istore 4) (len := 2) (r := (0, 0, 0, 0)) (pc' := 85) (ls' := [some (.inl (some 52)), some (zi xk), some (.inl (some ((71 + n)))), some (zi y132), some (zi xp)]) (st' := []) (by decide +kernel) (fun k q => by cases q) rfl ?_
            refine y_goto (off := (-68)) (pc' := 17) (len := 3) (r := (0, 0, 0, 0)) (by decide +kernel) (by decide +kernel) ?_
            exact ih τ131 h131 ⟨aup_trans O0.1 O131.1, O131.2.1, fun k T j hk (hC : k ≠ 68 ∧ k ≠ 69 ∧ ((k ≠ 373 ∧ k ≠ 374 ∧ k ≠ 375 ∧ k ≠ 376) ∨ j ≠ n)) => ((O131.2.2 k T j (O0.1 _ _ hk) (trivial))).trans (O0.2.2 k T j hk hC)⟩ ((xp.toInt + 1).toNat) y132 xp (by omega) (by omega) (by omega)
          ·
            refine y_iF (c := .eq) (off := 26) (len := 3) (r := (0, 0, 0, 0)) (by decide +kernel) (acmpF (c := .eq) (by show ¬ (_ = _); omega)) ?_
            refine y_same (i := .aload_n 0) (len := 1) (r := (0, 0, 0, 0)) (pc' := 54) (ls' := [some (.inl (some 52)), some (zi xk), some (.inl (some ((71 + n)))), some (zi y132), some (zi xa)]) (st' := [.inl (some 52)]) (by decide +kernel) (fun k q => by cases q) rfl ?_
            refine y_same (i := .aload_n 0) (len := 1) (r := (0, 0, 0, 0)) (pc' := 55) (ls' := [some (.inl (some 52)), some (zi xk), some (.inl (some ((71 + n)))), some (zi y132), some (zi xa)]) (st' := [.inl (some 52), .inl (some 52)]) (by decide +kernel) (fun k q => by cases q) rfl ?_
            refine y_get (j := 37) (len := 3) (r := (12, 15, 2, 1343)) (by decide +kernel) O131.2.1 (t52 O131.2.1) at52 rfl rfl (g_r52 (f := 15) (T2 := 70) O131.2.1 rfl (by decide)).1 ?_
            refine y_same (i := .iload 4) (len := 2) (r := (0, 0, 0, 0)) (pc' := 60) (ls' := [some (.inl (some 52)), some (zi xk), some (.inl (some ((71 + n)))), some (zi y132), some (zi xa)]) (st' := [zi xa, .inl (some 70), .inl (some 52)]) (by decide +kernel) (fun k q => by cases q) rfl ?_
            refine y_aal (i := (a - 1)) (len := 1) (r := (0, 0, 0, 0)) (by decide +kernel) O131.2.1 (tu70 O131.2.1) at70 rfl (by omega) (O131.2.1.2.2 (a - 1) (by omega)) ?_
            refine y_same (i := .aload_n 2) (len := 1) (r := (0, 0, 0, 0)) (pc' := 62) (ls' := [some (.inl (some 52)), some (zi xk), some (.inl (some ((71 + n)))), some (zi y132), some (zi xa)]) (st' := [.inl (some ((71 + n))), .inl (some ((71 + (a - 1)))), .inl (some 52)]) (by decide +kernel) (fun k q => by cases q) rfl ?_
            refine y_cI (i := .invokevirtual 369) (len := 3) (r := (0, 224, 12, 1738)) (nL := 6) (k := 2) (n := 3) (hs := []) (args := [.inl (some 52), .inl (some ((71 + (a - 1)))), .inl (some ((71 + n)))]) (rest := []) (l0 := [some (.inl (some 52)), some (.inl (some ((71 + (a - 1))))), some (.inl (some ((71 + n)))), none, none, none]) (by decide +kernel) (Or.inr (Or.inl ⟨_, rfl⟩)) rfl rfl rfl rfl (Nat.le_of_ble_eq_true rfl) (z52 O131.2.1) rfl (use_I (τ := τ131) 0 1 (hC 224 ac272 List.mem_cons_self (by decide)) rfl O131.2.1 (show aqsM _ _ [.inl (some 52), .inl (some ((71 + (a - 1)))), .inl (some ((71 + n)))] from ⟨aqR (t52 O131.2.1), aqR (tuR O131.2.1 (by omega)), aqR (tuR O131.2.1 (by omega)), trivial⟩) rfl (by decide +kernel) (by decide)) (fun y135 h135 hRy135 => ?_)
            obtain ⟨ly135, uy135, τ135, hu135, hg135, hF135⟩ := hRy135
            have O135 : oF (fun k j => k ≠ 68 ∧ k ≠ 69) τ131 h131 τ135 h135 := ⟨hu135, hg135, fun k T j hk (hC : k ≠ 68 ∧ k ≠ 69) => hF135 k T j hk (awc1 (uq O131.2.1 hk (by decide) hC.1) (awc1 (uq O131.2.1 hk (by decide) hC.2) rfl))⟩
            rcases Decidable.em (y135.toInt = 0) with q136 | q136
            ·
              refine y_iT (c := .eq) (off := 11) (pc' := 76) (len := 3) (r := (0, 0, 0, 0)) (by decide +kernel) (acmpT (c := .eq) (by show _ = _; omega)) (by decide +kernel) ?_
              refine y_same (i := .aload_n 0) (len := 1) (r := (0, 0, 0, 0)) (pc' := 77) (ls' := [some (.inl (some 52)), some (zi xk), some (.inl (some ((71 + n)))), some (zi y132), some (zi xa)]) (st' := [.inl (some 52)]) (by decide +kernel) (fun k q => by cases q) rfl ?_
              refine y_get (j := 40) (len := 3) (r := (12, 16, 2, 1344)) (by decide +kernel) O135.2.1 (t52 O135.2.1) at52 rfl rfl (g_r52 (f := 16) (T2 := 371) O135.2.1 rfl (by decide)).1 ?_
              refine y_same (i := .iload 4) (len := 2) (r := (0, 0, 0, 0)) (pc' := 82) (ls' := [some (.inl (some 52)), some (zi xk), some (.inl (some ((71 + n)))), some (zi y132), some (zi xa)]) (st' := [zi xa, .inl (some 371)]) (by decide +kernel) (fun k q => by cases q) rfl ?_
              have hv137 := (O131.2.2 371 371 (a - 1) (tu371 hg) (trivial)).trans hp
              have hv138 := (O135.2.2 371 371 (a - 1) (tu371 O131.2.1) (show 371 ≠ 68 ∧ 371 ≠ 69 by omega)).trans hv137
              refine y_ial (i := (a - 1)) (len := 1) (r := (0, 0, 0, 0)) (by decide +kernel) O135.2.1 (tu371 O135.2.1) at371 (by omega) hv138 ?_
              refine y_same (i := .istore 4) (len := 2) (r := (0, 0, 0, 0)) (pc' := 85) (ls' := [some (.inl (some 52)), some (zi xk), some (.inl (some ((71 + n)))), some (zi y132), some (zi xp)]) (st' := []) (by decide +kernel) (fun k q => by cases q) rfl ?_
              refine y_goto (off := (-68)) (pc' := 17) (len := 3) (r := (0, 0, 0, 0)) (by decide +kernel) (by decide +kernel) ?_
              exact ih τ135 h135 ⟨aup_trans O0.1 (aup_trans O131.1 O135.1), O135.2.1, fun k T j hk (hC : k ≠ 68 ∧ k ≠ 69 ∧ ((k ≠ 373 ∧ k ≠ 374 ∧ k ≠ 375 ∧ k ≠ 376) ∨ j ≠ n)) => (((O135.2.2 k T j (O131.1 _ _ (O0.1 _ _ hk)) (show k ≠ 68 ∧ k ≠ 69 by omega)).trans (O131.2.2 k T j (O0.1 _ _ hk) (trivial)))).trans (O0.2.2 k T j hk hC)⟩ ((xp.toInt + 1).toNat) y132 xp (by omega) (by omega) (by omega)
            ·
              refine y_iF (c := .eq) (off := 11) (len := 3) (r := (0, 0, 0, 0)) (by decide +kernel) (acmpF (c := .eq) (by show ¬ (_ = _); omega)) ?_
              refine y_same (i := .aload_n 0) (len := 1) (r := (0, 0, 0, 0)) (pc' := 69) (ls' := [some (.inl (some 52)), some (zi xk), some (.inl (some ((71 + n)))), some (zi y132), some (zi xa)]) (st' := [.inl (some 52)]) (by decide +kernel) (fun k q => by cases q) rfl ?_
              refine y_get (j := 55) (len := 3) (r := (12, 21, 2, 1349)) (by decide +kernel) O135.2.1 (t52 O135.2.1) at52 rfl rfl (g_r52 (f := 21) (T2 := 376) O135.2.1 rfl (by decide)).1 ?_
              refine y_same (i := .iload_n 1) (len := 1) (r := (0, 0, 0, 0)) (pc' := 73) (ls' := [some (.inl (some 52)), some (zi xk), some (.inl (some ((71 + n)))), some (zi y132), some (zi xa)]) (st' := [zi xk, .inl (some 376)]) (by decide +kernel) (fun k q => by cases q) rfl ?_
              refine y_same (i := .iload 4) (len := 2) (r := (0, 0, 0, 0)) (pc' := 75) (ls' := [some (.inl (some 52)), some (zi xk), some (.inl (some ((71 + n)))), some (zi y132), some (zi xa)]) (st' := [zi xa, zi xk, .inl (some 376)]) (by decide +kernel) (fun k q => by cases q) rfl ?_
              refine y_ias (i := n) (len := 1) (r := (0, 0, 0, 0)) (by decide +kernel) O135.2.1 (tu376 O135.2.1) at376 rfl (by omega) (by omega) (sr1 (by omega)) (by omega) (by omega) (fun h139 hg139 hl139 hs139 ho139 => ?_)
              refine y_same (i := .aload_n 0) (len := 1) (r := (0, 0, 0, 0)) (pc' := 77) (ls' := [some (.inl (some 52)), some (zi xk), some (.inl (some ((71 + n)))), some (zi y132), some (zi xa)]) (st' := [.inl (some 52)]) (by decide +kernel) (fun k q => by cases q) rfl ?_
              refine y_get (j := 40) (len := 3) (r := (12, 16, 2, 1344)) (by decide +kernel) hg139 (t52 hg139) at52 rfl rfl (g_r52 (f := 16) (T2 := 371) hg139 rfl (by decide)).1 ?_
              refine y_same (i := .iload 4) (len := 2) (r := (0, 0, 0, 0)) (pc' := 82) (ls' := [some (.inl (some 52)), some (zi xk), some (.inl (some ((71 + n)))), some (zi y132), some (zi xa)]) (st' := [zi xa, .inl (some 371)]) (by decide +kernel) (fun k q => by cases q) rfl ?_
              have hv140 := (O131.2.2 371 371 (a - 1) (tu371 hg) (trivial)).trans hp
              have hv141 := (O135.2.2 371 371 (a - 1) (tu371 O131.2.1) (show 371 ≠ 68 ∧ 371 ≠ 69 by omega)).trans hv140
              have hv142 := (ho139 371 (a - 1) (Or.inl (by omega))).trans hv141
              refine y_ial (i := (a - 1)) (len := 1) (r := (0, 0, 0, 0)) (by decide +kernel) hg139 (tu371 hg139) at371 (by omega) hv142 ?_
              refine y_same (i := .istore 4) (len := 2) (r := (0, 0, 0, 0)) (pc' := 85) (ls' := [some (.inl (some 52)), some (zi xk), some (.inl (some ((71 + n)))), some (zi y132), some (zi xp)]) (st' := []) (by decide +kernel) (fun k q => by cases q) rfl ?_
              refine y_goto (off := (-68)) (pc' := 17) (len := 3) (r := (0, 0, 0, 0)) (by decide +kernel) (by decide +kernel) ?_
              exact ih τ135 h139 ⟨aup_trans O0.1 (aup_trans O131.1 O135.1), hg139, fun k T j hk (hC : k ≠ 68 ∧ k ≠ 69 ∧ ((k ≠ 373 ∧ k ≠ 374 ∧ k ≠ 375 ∧ k ≠ 376) ∨ j ≠ n)) => (((ho139 k j (by omega)).trans ((O135.2.2 k T j (O131.1 _ _ (O0.1 _ _ hk)) (show k ≠ 68 ∧ k ≠ 69 by omega)).trans (O131.2.2 k T j (O0.1 _ _ hk) (trivial))))).trans (O0.2.2 k T j hk hC)⟩ ((xp.toInt + 1).toNat) y132 xp (by omega) (by omega) (by omega)
theorem e_steps {τ : List Nat} {h : zh} {n t : Nat} (hC : ∀ (mk : Nat) (c' : aK), c' ∈ actb mk → c'.2.2.1 ≤ 8 → cOK aJ mk c') {xk : Int32} (hg : hG τ h) (hn9 : n < 300) (hxk : xk.toInt = (n : Int)) (hpar : ∀ j, j ≤ n → ∃ x : Int32, hsl h 371 j = some (zi x) ∧ x.toInt < (j : Int)) : qV 11 233 [some (.inl (some 52)), some (zi xk), none, none, none] h t (spR τ n h) := by
  refine qV_of ?_
  obtain ⟨xp, hp, lp⟩ := hpar n (Nat.le_refl n)
  obtain ⟨xp', hp', lxp, uxp⟩ := g_int (i := n) hg (tu371 hg) at371 (show n < 300 by omega) (sr1 (by omega))
  rw [hp] at hp'
  cases hp'
  refine y_same (i := .aload_n 0) (len := 1) (r := (0, 0, 0, 0)) (pc' := 1) (ls' := [some (.inl (some 52)), some (zi xk), none, none, none]) (st' := [.inl (some 52)]) (by decide +kernel) (fun k q => by cases q) rfl ?_
  refine y_get (j := 37) (len := 3) (r := (12, 15, 2, 1343)) (by decide +kernel) hg (t52 hg) at52 rfl rfl (g_r52 (f := 15) (T2 := 70) hg rfl (by decide)).1 ?_
  refine y_same (i := .iload_n 1) (len := 1) (r := (0, 0, 0, 0)) (pc' := 5) (ls' := [some (.inl (some 52)), some (zi xk), none, none, none]) (st' := [zi xk, .inl (some 70)]) (by decide +kernel) (fun k q => by cases q) rfl ?_
  refine y_aal (i := n) (len := 1) (r := (0, 0, 0, 0)) (by decide +kernel) hg (tu70 hg) at70 rfl (by omega) (hg.2.2 n (by omega)) ?_
  refine y_same (i := .astore_n 2) (len := 1) (r := (0, 0, 0, 0)) (pc' := 7) (ls' := [some (.inl (some 52)), some (zi xk), some (.inl (some ((71 + n)))), none, none]) (st' := []) (by decide +kernel) (fun k q => by cases q) rfl ?_
  refine y_ic (c := 0) (len := 1) (r := (0, 0, 0, 0)) (by decide +kernel) (by decide) (fun y143 hy143 => ?_)
  refine y_same (i := .istore_n 3) (len := 1) (r := (0, 0, 0, 0)) (pc' := 9) (ls' := [some (.inl (some 52)), some (zi xk), some (.inl (some ((71 + n)))), some (zi y143), none]) (st' := []) (by decide +kernel) (fun k q => by cases q) rfl ?_
  refine y_same (i := .aload_n 0) (len := 1) (r := (0, 0, 0, 0)) (pc' := 10) (ls' := [some (.inl (some 52)), some (zi xk), some (.inl (some ((71 + n)))), some (zi y143), none]) (st' := [.inl (some 52)]) (by decide +kernel) (fun k q => by cases q) rfl ?_
  refine y_get (j := 40) (len := 3) (r := (12, 16, 2, 1344)) (by decide +kernel) hg (t52 hg) at52 rfl rfl (g_r52 (f := 16) (T2 := 371) hg rfl (by decide)).1 ?_
  refine y_same (i := .iload_n 1) (len := 1) (r := (0, 0, 0, 0)) (pc' := 14) (ls' := [some (.inl (some 52)), some (zi xk), some (.inl (some ((71 + n)))), some (zi y143), none]) (st' := [zi xk, .inl (some 371)]) (by decide +kernel) (fun k q => by cases q) rfl ?_
  refine y_ial (i := n) (len := 1) (r := (0, 0, 0, 0)) (by decide +kernel) hg (tu371 hg) at371 (by omega) hp ?_
  refine y_same (i := .istore 4) (len := 2) (r := (0, 0, 0, 0)) (pc' := 17) (ls' := [some (.inl (some 52)), some (zi xk), some (.inl (some ((71 + n)))), some (zi y143), some (zi xp)]) (st' := []) (by decide +kernel) (fun k q => by cases q) rfl ?_
  exact st_c hC hn9 hxk hg hpar (n + 1) τ h (oF_refl hg) ((xp.toInt + 1).toNat) y143 xp (by omega) (by omega) (by omega)
