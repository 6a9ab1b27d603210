/-! READY: one thing is done, or nothing can be -/
/-- a part that has something -/
def nN (h : zh) (R k : Nat) : Prop := ∀ a b c : Int32, hsl h R (24 + 4 * k) = some (zi a) → hsl h R (24 + 4 * k + 1) = some (zi b) → hsl h R (24 + 4 * k + 2) = some (zi c) → (a.toInt = 2 → b.toInt ≠ c.toInt) ∧ (a.toInt = 3 → b.toInt ≠ 0)
theorem nN_of {h : zh} {R k : Nat} {a b c : Int32} (ha : hsl h R (24 + 4 * k) = some (zi a)) (hb : hsl h R (24 + 4 * k + 1) = some (zi b)) (hc : hsl h R (24 + 4 * k + 2) = some (zi c)) (f : (a.toInt = 2 → b.toInt ≠ c.toInt) ∧ (a.toInt = 3 → b.toInt ≠ 0)) : nN h R k := fun a' b' c' e1 e2 e3 => by
  rw [ha] at e1
  rw [hb] at e2
  rw [hc] at e3
  cases e1
  cases e2
  cases e3
  exact f
theorem nN_up {h h1 : zh} {R k : Nat} (hn : nN h R k) (e : ∀ j, hsl h1 R j = hsl h R j) : nN h1 R k := fun a b c e1 e2 e3 => hn a b c ((e _).symm.trans e1) ((e _).symm.trans e2) ((e _).symm.trans e3)
theorem nN_add {h : zh} {R k : Nat} (hn : ∀ k', k' < k → nN h R k') (hk : nN h R k) : ∀ k', k' < k + 1 → nN h R k' := fun k' h9 => by
  rcases (show k' < k ∨ k' = k by omega) with q | q
  · exact hn k' q
  · rw [q]
    exact hk
theorem rl_1 {τ0 τ : List Nat} {h0 : zh} {R t : Nat} (hC : ∀ (mk : Nat) (c' : aK), c' ∈ actb mk → c'.2.2.1 ≤ 8 → cOK aJ mk c') (hR0 : τ0[R]? = some 1012) {h : zh} (S0 : smS τ0 h0 τ h) {xm : Int32} {m : Nat} (hxm : xm.toInt = (m : Int)) (hm9 : m ≤ 12) (hm : hsl h R 0 = some (zi xm)) (kk : (∀ k, k < m → nN h R k) → ∀ xk : Int32, qX 9 215 36 [some (.inl (some R)), some (zi xk), none] [] h t (rI (rdR τ0 R h0) t)) : ∀ (n k : Nat) (xk : Int32), xk.toInt = (k : Int) → k ≤ m → m ≤ k + n → (∀ k', k' < k → nN h R k') → qX 9 215 2 [some (.inl (some R)), some (zi xk), none] [] h t (rI (rdR τ0 R h0) t) := by
  have hg := S0.2.1
  have hR := S0.1 _ _ hR0
  intro n
  induction n with
  | zero =>
    intro k xk hxk hkm hn hN
    obtain ⟨v171, hv172, lv171, uv171⟩ := g_int (i := (24 + 4 * k)) hg hR at1012 (show (24 + 4 * k) < 200 by omega) (srC (by omega) (by omega))
    obtain ⟨v173, hv174, lv173, uv173⟩ := g_int (i := ((24 + 4 * k) + 1)) hg hR at1012 (show ((24 + 4 * k) + 1) < 200 by omega) (srC (by omega) (by omega))
    obtain ⟨v175, hv176, lv175, uv175⟩ := g_int (i := ((24 + 4 * k) + 2)) hg hR at1012 (show ((24 + 4 * k) + 2) < 200 by omega) (srC (by omega) (by omega))
    refine y_same (i := .iload_n 1) (len := 1) (r := (0, 0, 0, 0)) (pc' := 3) (ls' := [some (.inl (some R)), some (zi xk), none]) (st' := [zi xk]) (by decide +kernel) (fun k q => by cases q) rfl ?_
    refine y_same (i := .aload_n 0) (len := 1) (r := (0, 0, 0, 0)) (pc' := 4) (ls' := [some (.inl (some R)), some (zi xk), none]) (st' := [.inl (some R), zi xk]) (by decide +kernel) (fun k q => by cases q) rfl ?_
    refine y_ic (c := 0) (len := 1) (r := (0, 0, 0, 0)) (by decide +kernel) (by decide) (fun y177 hy177 => ?_)
    refine y_ial (i := 0) (len := 1) (r := (0, 0, 0, 0)) (by decide +kernel) hg hR at1012 (by omega) hm ?_
    refine y_cT (c := .ge) (off := 30) (pc' := 36) (len := 3) (r := (0, 0, 0, 0)) (by decide +kernel) (acmpT (c := .ge) (by show _ ≤ _; omega)) (by decide +kernel) ?_
    exact kk (fun k' h9 => hN k' (by omega)) xk
  | succ n ih =>
    intro k xk hxk hkm hn hN
    obtain ⟨v178, hv179, lv178, uv178⟩ := g_int (i := (24 + 4 * k)) hg hR at1012 (show (24 + 4 * k) < 200 by omega) (srC (by omega) (by omega))
    obtain ⟨v180, hv181, lv180, uv180⟩ := g_int (i := ((24 + 4 * k) + 1)) hg hR at1012 (show ((24 + 4 * k) + 1) < 200 by omega) (srC (by omega) (by omega))
    obtain ⟨v182, hv183, lv182, uv182⟩ := g_int (i := ((24 + 4 * k) + 2)) hg hR at1012 (show ((24 + 4 * k) + 2) < 200 by omega) (srC (by omega) (by omega))
    refine y_same (i := .iload_n 1) (len := 1) (r := (0, 0, 0, 0)) (pc' := 3) (ls' := [some (.inl (some R)), some (zi xk), none]) (st' := [zi xk]) (by decide +kernel) (fun k q => by cases q) rfl ?_
    refine y_same (i := .aload_n 0) (len := 1) (r := (0, 0, 0, 0)) (pc' := 4) (ls' := [some (.inl (some R)), some (zi xk), none]) (st' := [.inl (some R), zi xk]) (by decide +kernel) (fun k q => by cases q) rfl ?_
    refine y_ic (c := 0) (len := 1) (r := (0, 0, 0, 0)) (by decide +kernel) (by decide) (fun y184 hy184 => ?_)
    refine y_ial (i := 0) (len := 1) (r := (0, 0, 0, 0)) (by decide +kernel) hg hR at1012 (by omega) hm ?_
    rcases Decidable.em (xk.toInt ≥ xm.toInt) with q185 | q185
    ·
      refine y_cT (c := .ge) (off := 30) (pc' := 36) (len := 3) (r := (0, 0, 0, 0)) (by decide +kernel) (acmpT (c := .ge) (by show _ ≤ _; omega)) (by decide +kernel) ?_
      exact kk (fun k' h9 => hN k' (by omega)) xk
    ·
      refine y_cF (c := .ge) (off := 30) (len := 3) (r := (0, 0, 0, 0)) (by decide +kernel) (acmpF (c := .ge) (by show _ < _; omega)) ?_
      refine y_same (i := .aload_n 0) (len := 1) (r := (0, 0, 0, 0)) (pc' := 10) (ls' := [some (.inl (some R)), some (zi xk), none]) (st' := [.inl (some R)]) (by decide +kernel) (fun k q => by cases q) rfl ?_
      refine y_same (i := .iload_n 1) (len := 1) (r := (0, 0, 0, 0)) (pc' := 11) (ls' := [some (.inl (some R)), some (zi xk), none]) (st' := [zi xk, .inl (some R)]) (by decide +kernel) (fun k q => by cases q) rfl ?_
      refine y_cI (i := .invokestatic 249) (len := 3) (r := (1, 197, 12, 1644)) (nL := 1) (k := 1) (n := 1) (hs := []) (args := [zi xk]) (rest := [.inl (some R)]) (l0 := [some (zi xk)]) (by decide +kernel) (Or.inl ⟨_, rfl⟩) rfl rfl rfl rfl (Nat.le_of_ble_eq_true rfl) rfl rfl (e_leftAt (by omega) (by omega)) (fun y186 qy186 hRy186 => ?_)
      obtain ⟨rfl, hy186⟩ := hRy186
      refine y_cI (i := .invokestatic 280) (len := 3) (r := (1, 214, 12, 1721)) (nL := 2) (k := 2) (n := 2) (hs := []) (args := [.inl (some R), zi y186]) (rest := []) (l0 := [some (.inl (some R)), some (zi y186)]) (by decide +kernel) (Or.inl ⟨_, rfl⟩) rfl rfl rfl rfl (Nat.le_of_ble_eq_true rfl) rfl rfl (e_isNothing (p := (24 + 4 * k)) hg hR (by omega) (by omega) hv179 hv181 hv183) (fun y187 qy187 hRy187 => ?_)
      obtain ⟨rfl, hy187a, hy187b, hy187c⟩ := hRy187
      rcases Decidable.em (y187.toInt ≠ 0) with q188 | q188
      ·
        refine y_iT (c := .ne) (off := 6) (pc' := 23) (len := 3) (r := (0, 0, 0, 0)) (by decide +kernel) (acmpT (c := .ne) (by show ¬ (_ = _); omega)) (by decide +kernel) ?_
        refine y_same (i := .aload_n 0) (len := 1) (r := (0, 0, 0, 0)) (pc' := 24) (ls' := [some (.inl (some R)), some (zi xk), none]) (st' := [.inl (some R)]) (by decide +kernel) (fun k q => by cases q) rfl ?_
        refine y_same (i := .iload_n 1) (len := 1) (r := (0, 0, 0, 0)) (pc' := 25) (ls' := [some (.inl (some R)), some (zi xk), none]) (st' := [zi xk, .inl (some R)]) (by decide +kernel) (fun k q => by cases q) rfl ?_
        refine y_cV (i := .invokestatic 284) (len := 3) (r := (1, 208, 12, 1682)) (nL := 2) (k := 0) (n := 2) (hs := []) (args := [.inl (some R), zi xk]) (rest := []) (l0 := [some (.inl (some R)), some (zi xk)]) (by decide +kernel) (Or.inl ⟨_, rfl⟩) rfl rfl rfl rfl (Nat.le_of_ble_eq_true rfl) rfl rfl (e_goesLeft (k := k) (a := m) hg hR hxk (by omega) hm (by omega) (by omega) (by omega)) (fun h189 hR189 => ?_)
        obtain ⟨hg189, hl189, ho189, y189, hy189, e189⟩ := hR189
        refine y_ic (c := 1) (len := 1) (r := (0, 0, 0, 0)) (by decide +kernel) (by decide) (fun y190 hy190 => ?_)
        refine y_rI (len := 1) (r := (0, 0, 0, 0)) (nL := 3) (k := 2) (n9 := 1) (hs := []) (by decide +kernel) rfl (zfit_b (by omega) (by omega)).2 ?_
        exact rd_of S0 hR0 (by omega) hg189 (fun k j hk => ho189 k j (Or.inl hk)) (fall_goes (c := 0) (by omega) ho189 hm (by omega) hy189 e189)
      ·
        refine y_iF (c := .ne) (off := 6) (len := 3) (r := (0, 0, 0, 0)) (by decide +kernel) (acmpF (c := .ne) (by show _ = _; omega)) ?_
        refine y_goto (off := 10) (pc' := 30) (len := 3) (r := (0, 0, 0, 0)) (by decide +kernel) (by decide +kernel) ?_
        refine y_inc (j := 1) (a := xk) (c := 1) (ls' := fun v => [some (.inl (some R)), some v, none]) (len := 3) (r := (0, 0, 0, 0)) (by decide +kernel) rfl (fun _ => rfl) (by decide) (by omega) (by omega) (fun y191 hy191 => ?_)
        show qX 9 215 33 [some (.inl (some R)), some (zi y191), none] [] h t _
        refine y_goto (off := (-31)) (pc' := 2) (len := 3) (r := (0, 0, 0, 0)) (by decide +kernel) (by decide +kernel) ?_
        exact ih (k + 1) y191 (by omega) (by omega) (by omega) (nN_add hN (nN_of hv179 hv181 hv183 (hy187c (by omega))))
theorem rl_2 {τ0 τ : List Nat} {h0 : zh} {R t : Nat} (hC : ∀ (mk : Nat) (c' : aK), c' ∈ actb mk → c'.2.2.1 ≤ 8 → cOK aJ mk c') (hR0 : τ0[R]? = some 1012) {h : zh} (S0 : smS τ0 h0 τ h) {xm : Int32} {m : Nat} (hxm : xm.toInt = (m : Int)) (hm9 : m ≤ 12) (hm : hsl h R 0 = some (zi xm)) (hN : ∀ k, k < m → nN h R k) (kk : ∀ xk : Int32, qX 9 215 90 [some (.inl (some R)), some (zi xk), none] [] h t (rI (rdR τ0 R h0) t)) : ∀ (n k : Nat) (xk : Int32), xk.toInt = (k : Int) → k ≤ m → m ≤ k + n → qX 9 215 38 [some (.inl (some R)), some (zi xk), none] [] h t (rI (rdR τ0 R h0) t) := by
  have hg := S0.2.1
  have hR := S0.1 _ _ hR0
  intro n
  induction n with
  | zero =>
    intro k xk hxk hkm hn
    obtain ⟨v192, hv193, lv192, uv192⟩ := g_int (i := (24 + 4 * k)) hg hR at1012 (show (24 + 4 * k) < 200 by omega) (srC (by omega) (by omega))
    obtain ⟨v194, hv195, lv194, uv194⟩ := g_int (i := ((24 + 4 * k) + 1)) hg hR at1012 (show ((24 + 4 * k) + 1) < 200 by omega) (srC (by omega) (by omega))
    obtain ⟨v196, hv197, lv196, uv196⟩ := g_int (i := ((24 + 4 * k) + 2)) hg hR at1012 (show ((24 + 4 * k) + 2) < 200 by omega) (srC (by omega) (by omega))
    refine y_same (i := .iload_n 1) (len := 1) (r := (0, 0, 0, 0)) (pc' := 39) (ls' := [some (.inl (some R)), some (zi xk), none]) (st' := [zi xk]) (by decide +kernel) (fun k q => by cases q) rfl ?_
    refine y_same (i := .aload_n 0) (len := 1) (r := (0, 0, 0, 0)) (pc' := 40) (ls' := [some (.inl (some R)), some (zi xk), none]) (st' := [.inl (some R), zi xk]) (by decide +kernel) (fun k q => by cases q) rfl ?_
    refine y_ic (c := 0) (len := 1) (r := (0, 0, 0, 0)) (by decide +kernel) (by decide) (fun y198 hy198 => ?_)
    refine y_ial (i := 0) (len := 1) (r := (0, 0, 0, 0)) (by decide +kernel) hg hR at1012 (by omega) hm ?_
    refine y_cT (c := .ge) (off := 48) (pc' := 90) (len := 3) (r := (0, 0, 0, 0)) (by decide +kernel) (acmpT (c := .ge) (by show _ ≤ _; omega)) (by decide +kernel) ?_
    exact kk xk
  | succ n ih =>
    intro k xk hxk hkm hn
    obtain ⟨v199, hv200, lv199, uv199⟩ := g_int (i := (24 + 4 * k)) hg hR at1012 (show (24 + 4 * k) < 200 by omega) (srC (by omega) (by omega))
    obtain ⟨v201, hv202, lv201, uv201⟩ := g_int (i := ((24 + 4 * k) + 1)) hg hR at1012 (show ((24 + 4 * k) + 1) < 200 by omega) (srC (by omega) (by omega))
    obtain ⟨v203, hv204, lv203, uv203⟩ := g_int (i := ((24 + 4 * k) + 2)) hg hR at1012 (show ((24 + 4 * k) + 2) < 200 by omega) (srC (by omega) (by omega))
    refine y_same (i := .iload_n 1) (len := 1) (r := (0, 0, 0, 0)) (pc' := 39) (ls' := [some (.inl (some R)), some (zi xk), none]) (st' := [zi xk]) (by decide +kernel) (fun k q => by cases q) rfl ?_
    refine y_same (i := .aload_n 0) (len := 1) (r := (0, 0, 0, 0)) (pc' := 40) (ls' := [some (.inl (some R)), some (zi xk), none]) (st' := [.inl (some R), zi xk]) (by decide +kernel) (fun k q => by cases q) rfl ?_
    refine y_ic (c := 0) (len := 1) (r := (0, 0, 0, 0)) (by decide +kernel) (by decide) (fun y205 hy205 => ?_)
    refine y_ial (i := 0) (len := 1) (r := (0, 0, 0, 0)) (by decide +kernel) hg hR at1012 (by omega) hm ?_
    rcases Decidable.em (xk.toInt ≥ xm.toInt) with q206 | q206
    ·
      refine y_cT (c := .ge) (off := 48) (pc' := 90) (len := 3) (r := (0, 0, 0, 0)) (by decide +kernel) (acmpT (c := .ge) (by show _ ≤ _; omega)) (by decide +kernel) ?_
      exact kk xk
    ·
      refine y_cF (c := .ge) (off := 48) (len := 3) (r := (0, 0, 0, 0)) (by decide +kernel) (acmpF (c := .ge) (by show _ < _; omega)) ?_
      refine y_same (i := .aload_n 0) (len := 1) (r := (0, 0, 0, 0)) (pc' := 46) (ls' := [some (.inl (some R)), some (zi xk), none]) (st' := [.inl (some R)]) (by decide +kernel) (fun k q => by cases q) rfl ?_
      refine y_same (i := .iload_n 1) (len := 1) (r := (0, 0, 0, 0)) (pc' := 47) (ls' := [some (.inl (some R)), some (zi xk), none]) (st' := [zi xk, .inl (some R)]) (by decide +kernel) (fun k q => by cases q) rfl ?_
      refine y_cI (i := .invokestatic 249) (len := 3) (r := (1, 197, 12, 1644)) (nL := 1) (k := 1) (n := 1) (hs := []) (args := [zi xk]) (rest := [.inl (some R)]) (l0 := [some (zi xk)]) (by decide +kernel) (Or.inl ⟨_, rfl⟩) rfl rfl rfl rfl (Nat.le_of_ble_eq_true rfl) rfl rfl (e_leftAt (by omega) (by omega)) (fun y207 qy207 hRy207 => ?_)
      obtain ⟨rfl, hy207⟩ := hRy207
      refine y_ial (i := (24 + 4 * k)) (len := 1) (r := (0, 0, 0, 0)) (by decide +kernel) hg hR at1012 (by omega) hv200 ?_
      refine y_ic (c := 2) (len := 1) (r := (0, 0, 0, 0)) (by decide +kernel) (by decide) (fun y208 hy208 => ?_)
      rcases Decidable.em (v199.toInt ≠ y208.toInt) with q209 | q209
      ·
        refine y_cT (c := .ne) (off := 32) (pc' := 84) (len := 3) (r := (0, 0, 0, 0)) (by decide +kernel) (acmpT (c := .ne) (by show ¬ (_ = _); omega)) (by decide +kernel) ?_
        refine y_inc (j := 1) (a := xk) (c := 1) (ls' := fun v => [some (.inl (some R)), some v, none]) (len := 3) (r := (0, 0, 0, 0)) (by decide +kernel) rfl (fun _ => rfl) (by decide) (by omega) (by omega) (fun y210 hy210 => ?_)
        show qX 9 215 87 [some (.inl (some R)), some (zi y210), none] [] h t _
        refine y_goto (off := (-49)) (pc' := 38) (len := 3) (r := (0, 0, 0, 0)) (by decide +kernel) (by decide +kernel) ?_
        exact ih (k + 1) y210 (by omega) (by omega) (by omega)
      ·
        refine y_cF (c := .ne) (off := 32) (len := 3) (r := (0, 0, 0, 0)) (by decide +kernel) (acmpF (c := .ne) (by show _ = _; omega)) ?_
        refine y_same (i := .aload_n 0) (len := 1) (r := (0, 0, 0, 0)) (pc' := 56) (ls' := [some (.inl (some R)), some (zi xk), none]) (st' := [.inl (some R)]) (by decide +kernel) (fun k q => by cases q) rfl ?_
        refine y_same (i := .iload_n 1) (len := 1) (r := (0, 0, 0, 0)) (pc' := 57) (ls' := [some (.inl (some R)), some (zi xk), none]) (st' := [zi xk, .inl (some R)]) (by decide +kernel) (fun k q => by cases q) rfl ?_
        refine y_cI (i := .invokestatic 249) (len := 3) (r := (1, 197, 12, 1644)) (nL := 1) (k := 1) (n := 1) (hs := []) (args := [zi xk]) (rest := [.inl (some R)]) (l0 := [some (zi xk)]) (by decide +kernel) (Or.inl ⟨_, rfl⟩) rfl rfl rfl rfl (Nat.le_of_ble_eq_true rfl) rfl rfl (e_leftAt (by omega) (by omega)) (fun y211 qy211 hRy211 => ?_)
        obtain ⟨rfl, hy211⟩ := hRy211
        refine y_ic (c := 1) (len := 1) (r := (0, 0, 0, 0)) (by decide +kernel) (by decide) (fun y212 hy212 => ?_)
        refine y_add (len := 1) (r := (0, 0, 0, 0)) (by decide +kernel) (by omega) (by omega) (fun y213 hy213 => ?_)
        refine y_ial (i := ((24 + 4 * k) + 1)) (len := 1) (r := (0, 0, 0, 0)) (by decide +kernel) hg hR at1012 (by omega) hv202 ?_
        rcases Decidable.em (v201.toInt = 0) with q214 | q214
        ·
          refine y_iT (c := .eq) (off := 6) (pc' := 69) (len := 3) (r := (0, 0, 0, 0)) (by decide +kernel) (acmpT (c := .eq) (by show _ = _; omega)) (by decide +kernel) ?_
          refine y_same (i := .aload_n 0) (len := 1) (r := (0, 0, 0, 0)) (pc' := 70) (ls' := [some (.inl (some R)), some (zi xk), none]) (st' := [.inl (some R)]) (by decide +kernel) (fun k q => by cases q) rfl ?_
          refine y_same (i := .aload_n 0) (len := 1) (r := (0, 0, 0, 0)) (pc' := 71) (ls' := [some (.inl (some R)), some (zi xk), none]) (st' := [.inl (some R), .inl (some R)]) (by decide +kernel) (fun k q => by cases q) rfl ?_
          refine y_same (i := .iload_n 1) (len := 1) (r := (0, 0, 0, 0)) (pc' := 72) (ls' := [some (.inl (some R)), some (zi xk), none]) (st' := [zi xk, .inl (some R), .inl (some R)]) (by decide +kernel) (fun k q => by cases q) rfl ?_
          refine y_cI (i := .invokestatic 249) (len := 3) (r := (1, 197, 12, 1644)) (nL := 1) (k := 1) (n := 1) (hs := []) (args := [zi xk]) (rest := [.inl (some R), .inl (some R)]) (l0 := [some (zi xk)]) (by decide +kernel) (Or.inl ⟨_, rfl⟩) rfl rfl rfl rfl (Nat.le_of_ble_eq_true rfl) rfl rfl (e_leftAt (by omega) (by omega)) (fun y215 qy215 hRy215 => ?_)
          obtain ⟨rfl, hy215⟩ := hRy215
          refine y_ic (c := 2) (len := 1) (r := (0, 0, 0, 0)) (by decide +kernel) (by decide) (fun y216 hy216 => ?_)
          refine y_add (len := 1) (r := (0, 0, 0, 0)) (by decide +kernel) (by omega) (by omega) (fun y217 hy217 => ?_)
          refine y_ial (i := ((24 + 4 * k) + 2)) (len := 1) (r := (0, 0, 0, 0)) (by decide +kernel) hg hR at1012 (by omega) hv204 ?_
          refine y_ic (c := 0) (len := 1) (r := (0, 0, 0, 0)) (by decide +kernel) (by decide) (fun y218 hy218 => ?_)
          have nk := hN k (by omega) _ _ _ hv200 hv202 hv204
          refine y_cV (i := .invokestatic 288) (len := 3) (r := (1, 206, 12, 1660)) (nL := 7) (k := 0) (n := 3) (hs := []) (args := [.inl (some R), zi v203, zi y218]) (rest := []) (l0 := [some (.inl (some R)), some (zi v203), some (zi y218), none, none, none, none]) (by decide +kernel) (Or.inl ⟨_, rfl⟩) rfl rfl rfl rfl (Nat.le_of_ble_eq_true rfl) rfl rfl (e_makes hg hR (by omega) (by omega) (by omega) (by omega) (by omega) hm) (fun h219 hR219 => ?_)
          obtain ⟨hg219, hl219, ho219, hle219, hst219⟩ := hR219
          refine y_ic (c := 1) (len := 1) (r := (0, 0, 0, 0)) (by decide +kernel) (by decide) (fun y220 hy220 => ?_)
          refine y_rI (len := 1) (r := (0, 0, 0, 0)) (nL := 3) (k := 2) (n9 := 1) (hs := []) (by decide +kernel) rfl (zfit_b (by omega) (by omega)).2 ?_
          exact rd_of S0 hR0 (by omega) hg219 (fun k j hk => ho219 k j (Or.inl hk)) (fall_makes (k := k) (w := 2) ho219 hle219 (by omega) (by omega) (hst219 k 2 _ (by omega) (by omega) (by omega) hv204 (by omega) (by omega) (by omega)))
        ·
          refine y_iF (c := .eq) (off := 6) (len := 3) (r := (0, 0, 0, 0)) (by decide +kernel) (acmpF (c := .eq) (by show ¬ (_ = _); omega)) ?_
          refine y_goto (off := 18) (pc' := 84) (len := 3) (r := (0, 0, 0, 0)) (by decide +kernel) (by decide +kernel) ?_
          refine y_inc (j := 1) (a := xk) (c := 1) (ls' := fun v => [some (.inl (some R)), some v, none]) (len := 3) (r := (0, 0, 0, 0)) (by decide +kernel) rfl (fun _ => rfl) (by decide) (by omega) (by omega) (fun y221 hy221 => ?_)
          show qX 9 215 87 [some (.inl (some R)), some (zi y221), none] [] h t _
          refine y_goto (off := (-49)) (pc' := 38) (len := 3) (r := (0, 0, 0, 0)) (by decide +kernel) (by decide +kernel) ?_
          exact ih (k + 1) y221 (by omega) (by omega) (by omega)
theorem rl_3 {τ0 : List Nat} {h0 : zh} {R t : Nat} (hC : ∀ (mk : Nat) (c' : aK), c' ∈ actb mk → c'.2.2.1 ≤ 8 → cOK aJ mk c') (hR0 : τ0[R]? = some 1012) {xm : Int32} {m : Nat} (hxm : xm.toInt = (m : Int)) (hm9 : m ≤ 12) (kk : ∀ (τ : List Nat) (h : zh) (xk : Int32), smS τ0 h0 τ h → hsl h R 0 = some (zi xm) → (∀ k, k < m → nN h R k) → qX 9 215 157 [some (.inl (some R)), some (zi xk), none] [] h t (rI (rdR τ0 R h0) t)) : ∀ (n : Nat) (τ : List Nat) (h : zh), smS τ0 h0 τ h → ∀ (k : Nat) (xk : Int32), xk.toInt = (k : Int) → k ≤ m → m ≤ k + n → hsl h R 0 = some (zi xm) → (∀ k, k < m → nN h R k) → qX 9 215 92 [some (.inl (some R)), some (zi xk), none] [] h t (rI (rdR τ0 R h0) t) := by
  intro n
  induction n with
  | zero =>
    intro τ h S0 k xk hxk hkm hn hm hN
    have hg := S0.2.1
    have hR := S0.1 _ _ hR0
    obtain ⟨v222, hv223, lv222, uv222⟩ := g_int (i := (24 + 4 * k)) hg hR at1012 (show (24 + 4 * k) < 200 by omega) (srC (by omega) (by omega))
    obtain ⟨v224, hv225, lv224, uv224⟩ := g_int (i := ((24 + 4 * k) + 1)) hg hR at1012 (show ((24 + 4 * k) + 1) < 200 by omega) (srC (by omega) (by omega))
    obtain ⟨v226, hv227, lv226, uv226⟩ := g_int (i := ((24 + 4 * k) + 2)) hg hR at1012 (show ((24 + 4 * k) + 2) < 200 by omega) (srC (by omega) (by omega))
    refine y_same (i := .iload_n 1) (len := 1) (r := (0, 0, 0, 0)) (pc' := 93) (ls' := [some (.inl (some R)), some (zi xk), none]) (st' := [zi xk]) (by decide +kernel) (fun k q => by cases q) rfl ?_
    refine y_same (i := .aload_n 0) (len := 1) (r := (0, 0, 0, 0)) (pc' := 94) (ls' := [some (.inl (some R)), some (zi xk), none]) (st' := [.inl (some R), zi xk]) (by decide +kernel) (fun k q => by cases q) rfl ?_
    refine y_ic (c := 0) (len := 1) (r := (0, 0, 0, 0)) (by decide +kernel) (by decide) (fun y228 hy228 => ?_)
    refine y_ial (i := 0) (len := 1) (r := (0, 0, 0, 0)) (by decide +kernel) hg hR at1012 (by omega) hm ?_
    refine y_cT (c := .ge) (off := 61) (pc' := 157) (len := 3) (r := (0, 0, 0, 0)) (by decide +kernel) (acmpT (c := .ge) (by show _ ≤ _; omega)) (by decide +kernel) ?_
    exact kk τ h xk S0 hm hN
  | succ n ih =>
    intro τ h S0 k xk hxk hkm hn hm hN
    have hg := S0.2.1
    have hR := S0.1 _ _ hR0
    obtain ⟨v229, hv230, lv229, uv229⟩ := g_int (i := (24 + 4 * k)) hg hR at1012 (show (24 + 4 * k) < 200 by omega) (srC (by omega) (by omega))
    obtain ⟨v231, hv232, lv231, uv231⟩ := g_int (i := ((24 + 4 * k) + 1)) hg hR at1012 (show ((24 + 4 * k) + 1) < 200 by omega) (srC (by omega) (by omega))
    obtain ⟨v233, hv234, lv233, uv233⟩ := g_int (i := ((24 + 4 * k) + 2)) hg hR at1012 (show ((24 + 4 * k) + 2) < 200 by omega) (srC (by omega) (by omega))
    refine y_same (i := .iload_n 1) (len := 1) (r := (0, 0, 0, 0)) (pc' := 93) (ls' := [some (.inl (some R)), some (zi xk), none]) (st' := [zi xk]) (by decide +kernel) (fun k q => by cases q) rfl ?_
    refine y_same (i := .aload_n 0) (len := 1) (r := (0, 0, 0, 0)) (pc' := 94) (ls' := [some (.inl (some R)), some (zi xk), none]) (st' := [.inl (some R), zi xk]) (by decide +kernel) (fun k q => by cases q) rfl ?_
    refine y_ic (c := 0) (len := 1) (r := (0, 0, 0, 0)) (by decide +kernel) (by decide) (fun y235 hy235 => ?_)
    refine y_ial (i := 0) (len := 1) (r := (0, 0, 0, 0)) (by decide +kernel) hg hR at1012 (by omega) hm ?_
    rcases Decidable.em (xk.toInt ≥ xm.toInt) with q236 | q236
    ·
      refine y_cT (c := .ge) (off := 61) (pc' := 157) (len := 3) (r := (0, 0, 0, 0)) (by decide +kernel) (acmpT (c := .ge) (by show _ ≤ _; omega)) (by decide +kernel) ?_
      exact kk τ h xk S0 hm hN
    ·
      refine y_cF (c := .ge) (off := 61) (len := 3) (r := (0, 0, 0, 0)) (by decide +kernel) (acmpF (c := .ge) (by show _ < _; omega)) ?_
      refine y_same (i := .aload_n 0) (len := 1) (r := (0, 0, 0, 0)) (pc' := 100) (ls' := [some (.inl (some R)), some (zi xk), none]) (st' := [.inl (some R)]) (by decide +kernel) (fun k q => by cases q) rfl ?_
      refine y_same (i := .iload_n 1) (len := 1) (r := (0, 0, 0, 0)) (pc' := 101) (ls' := [some (.inl (some R)), some (zi xk), none]) (st' := [zi xk, .inl (some R)]) (by decide +kernel) (fun k q => by cases q) rfl ?_
      refine y_cI (i := .invokestatic 249) (len := 3) (r := (1, 197, 12, 1644)) (nL := 1) (k := 1) (n := 1) (hs := []) (args := [zi xk]) (rest := [.inl (some R)]) (l0 := [some (zi xk)]) (by decide +kernel) (Or.inl ⟨_, rfl⟩) rfl rfl rfl rfl (Nat.le_of_ble_eq_true rfl) rfl rfl (e_leftAt (by omega) (by omega)) (fun y237 qy237 hRy237 => ?_)
      obtain ⟨rfl, hy237⟩ := hRy237
      refine y_ial (i := (24 + 4 * k)) (len := 1) (r := (0, 0, 0, 0)) (by decide +kernel) hg hR at1012 (by omega) hv230 ?_
      refine y_ic (c := 2) (len := 1) (r := (0, 0, 0, 0)) (by decide +kernel) (by decide) (fun y238 hy238 => ?_)
      rcases Decidable.em (v229.toInt ≠ y238.toInt) with q239 | q239
      ·
        refine y_cT (c := .ne) (off := 45) (pc' := 151) (len := 3) (r := (0, 0, 0, 0)) (by decide +kernel) (acmpT (c := .ne) (by show ¬ (_ = _); omega)) (by decide +kernel) ?_
        refine y_inc (j := 1) (a := xk) (c := 1) (ls' := fun v => [some (.inl (some R)), some v, none]) (len := 3) (r := (0, 0, 0, 0)) (by decide +kernel) rfl (fun _ => rfl) (by decide) (by omega) (by omega) (fun y240 hy240 => ?_)
        show qX 9 215 154 [some (.inl (some R)), some (zi y240), none] [] h t _
        refine y_goto (off := (-62)) (pc' := 92) (len := 3) (r := (0, 0, 0, 0)) (by decide +kernel) (by decide +kernel) ?_
        exact ih τ h S0 (k + 1) y240 (by omega) (by omega) (by omega) hm hN
      ·
        refine y_cF (c := .ne) (off := 45) (len := 3) (r := (0, 0, 0, 0)) (by decide +kernel) (acmpF (c := .ne) (by show _ = _; omega)) ?_
        refine y_same (i := .aload_n 0) (len := 1) (r := (0, 0, 0, 0)) (pc' := 110) (ls' := [some (.inl (some R)), some (zi xk), none]) (st' := [.inl (some R)]) (by decide +kernel) (fun k q => by cases q) rfl ?_
        refine y_same (i := .aload_n 0) (len := 1) (r := (0, 0, 0, 0)) (pc' := 111) (ls' := [some (.inl (some R)), some (zi xk), none]) (st' := [.inl (some R), .inl (some R)]) (by decide +kernel) (fun k q => by cases q) rfl ?_
        refine y_same (i := .iload_n 1) (len := 1) (r := (0, 0, 0, 0)) (pc' := 112) (ls' := [some (.inl (some R)), some (zi xk), none]) (st' := [zi xk, .inl (some R), .inl (some R)]) (by decide +kernel) (fun k q => by cases q) rfl ?_
        refine y_cI (i := .invokestatic 249) (len := 3) (r := (1, 197, 12, 1644)) (nL := 1) (k := 1) (n := 1) (hs := []) (args := [zi xk]) (rest := [.inl (some R), .inl (some R)]) (l0 := [some (zi xk)]) (by decide +kernel) (Or.inl ⟨_, rfl⟩) rfl rfl rfl rfl (Nat.le_of_ble_eq_true rfl) rfl rfl (e_leftAt (by omega) (by omega)) (fun y241 qy241 hRy241 => ?_)
        obtain ⟨rfl, hy241⟩ := hRy241
        refine y_ic (c := 1) (len := 1) (r := (0, 0, 0, 0)) (by decide +kernel) (by decide) (fun y242 hy242 => ?_)
        refine y_add (len := 1) (r := (0, 0, 0, 0)) (by decide +kernel) (by omega) (by omega) (fun y243 hy243 => ?_)
        refine y_ial (i := ((24 + 4 * k) + 1)) (len := 1) (r := (0, 0, 0, 0)) (by decide +kernel) hg hR at1012 (by omega) hv232 ?_
        refine y_ic (c := 0) (len := 1) (r := (0, 0, 0, 0)) (by decide +kernel) (by decide) (fun y244 hy244 => ?_)
        refine y_cI (i := .invokestatic 276) (len := 3) (r := (1, 211, 12, 1712)) (nL := 4) (k := 1) (n := 3) (hs := []) (args := [.inl (some R), zi v231, zi y244]) (rest := []) (l0 := [some (.inl (some R)), some (zi v231), some (zi y244), none]) (by decide +kernel) (Or.inl ⟨_, rfl⟩) rfl rfl rfl rfl (Nat.le_of_ble_eq_true rfl) rfl rfl (use_I (τ := τ) (-1) 11 (hC 211 ac263 List.mem_cons_self (by decide)) rfl hg (show aqsM _ _ [.inl (some R), zi v231, zi y244] from ⟨aqR hR, aqI (by omega) (by omega), aqI (by omega) (by omega), trivial⟩) rfl (by decide +kernel) (by decide)) (fun y245 h245 hRy245 => ?_)
        obtain ⟨ly245, uy245, τ245, hu245, hg245, hF245⟩ := hRy245
        have S245 := smS_of hu245 hg245 hF245
        have hR245 := hu245 _ _ hR
        refine y_ic (c := (-1)) (len := 1) (r := (0, 0, 0, 0)) (by decide +kernel) (by decide) (fun y246 hy246 => ?_)
        rcases Decidable.em (y245.toInt ≠ y246.toInt) with q247 | q247
        ·
          refine y_cT (c := .ne) (off := 6) (pc' := 129) (len := 3) (r := (0, 0, 0, 0)) (by decide +kernel) (acmpT (c := .ne) (by show ¬ (_ = _); omega)) (by decide +kernel) ?_
          refine y_same (i := .aload_n 0) (len := 1) (r := (0, 0, 0, 0)) (pc' := 130) (ls' := [some (.inl (some R)), some (zi xk), none]) (st' := [.inl (some R)]) (by decide +kernel) (fun k q => by cases q) rfl ?_
          refine y_same (i := .aload_n 0) (len := 1) (r := (0, 0, 0, 0)) (pc' := 131) (ls' := [some (.inl (some R)), some (zi xk), none]) (st' := [.inl (some R), .inl (some R)]) (by decide +kernel) (fun k q => by cases q) rfl ?_
          refine y_same (i := .iload_n 1) (len := 1) (r := (0, 0, 0, 0)) (pc' := 132) (ls' := [some (.inl (some R)), some (zi xk), none]) (st' := [zi xk, .inl (some R), .inl (some R)]) (by decide +kernel) (fun k q => by cases q) rfl ?_
          refine y_cI (i := .invokestatic 249) (len := 3) (r := (1, 197, 12, 1644)) (nL := 1) (k := 1) (n := 1) (hs := []) (args := [zi xk]) (rest := [.inl (some R), .inl (some R)]) (l0 := [some (zi xk)]) (by decide +kernel) (Or.inl ⟨_, rfl⟩) rfl rfl rfl rfl (Nat.le_of_ble_eq_true rfl) rfl rfl (e_leftAt (by omega) (by omega)) (fun y248 qy248 hRy248 => ?_)
          obtain ⟨rfl, hy248⟩ := hRy248
          refine y_ic (c := 1) (len := 1) (r := (0, 0, 0, 0)) (by decide +kernel) (by decide) (fun y249 hy249 => ?_)
          refine y_add (len := 1) (r := (0, 0, 0, 0)) (by decide +kernel) (by omega) (by omega) (fun y250 hy250 => ?_)
          have hv251 := (S245.2.2 R 1012 ((24 + 4 * k) + 1) hR).trans hv232
          refine y_ial (i := ((24 + 4 * k) + 1)) (len := 1) (r := (0, 0, 0, 0)) (by decide +kernel) hg245 hR245 at1012 (by omega) hv251 ?_
          refine y_same (i := .aload_n 0) (len := 1) (r := (0, 0, 0, 0)) (pc' := 139) (ls' := [some (.inl (some R)), some (zi xk), none]) (st' := [.inl (some R), zi v231, .inl (some R)]) (by decide +kernel) (fun k q => by cases q) rfl ?_
          refine y_same (i := .iload_n 1) (len := 1) (r := (0, 0, 0, 0)) (pc' := 140) (ls' := [some (.inl (some R)), some (zi xk), none]) (st' := [zi xk, .inl (some R), zi v231, .inl (some R)]) (by decide +kernel) (fun k q => by cases q) rfl ?_
          refine y_cI (i := .invokestatic 249) (len := 3) (r := (1, 197, 12, 1644)) (nL := 1) (k := 1) (n := 1) (hs := []) (args := [zi xk]) (rest := [.inl (some R), zi v231, .inl (some R)]) (l0 := [some (zi xk)]) (by decide +kernel) (Or.inl ⟨_, rfl⟩) rfl rfl rfl rfl (Nat.le_of_ble_eq_true rfl) rfl rfl (e_leftAt (by omega) (by omega)) (fun y252 qy252 hRy252 => ?_)
          obtain ⟨rfl, hy252⟩ := hRy252
          refine y_ic (c := 2) (len := 1) (r := (0, 0, 0, 0)) (by decide +kernel) (by decide) (fun y253 hy253 => ?_)
          refine y_add (len := 1) (r := (0, 0, 0, 0)) (by decide +kernel) (by omega) (by omega) (fun y254 hy254 => ?_)
          have hv255 := (S245.2.2 R 1012 ((24 + 4 * k) + 2) hR).trans hv234
          refine y_ial (i := ((24 + 4 * k) + 2)) (len := 1) (r := (0, 0, 0, 0)) (by decide +kernel) hg245 hR245 at1012 (by omega) hv255 ?_
          have nk := hN k (by omega) _ _ _ hv230 hv232 hv234
          have hv257 := (S245.2.2 R 1012 0 hR).trans hm
          refine y_cV (i := .invokestatic 288) (len := 3) (r := (1, 206, 12, 1660)) (nL := 7) (k := 0) (n := 3) (hs := []) (args := [.inl (some R), zi v231, zi v233]) (rest := []) (l0 := [some (.inl (some R)), some (zi v231), some (zi v233), none, none, none, none]) (by decide +kernel) (Or.inl ⟨_, rfl⟩) rfl rfl rfl rfl (Nat.le_of_ble_eq_true rfl) rfl rfl (e_makes hg245 hR245 (by omega) (by omega) (by omega) (by omega) (by omega) hv257) (fun h256 hR256 => ?_)
          obtain ⟨hg256, hl256, ho256, hle256, hst256⟩ := hR256
          refine y_ic (c := 1) (len := 1) (r := (0, 0, 0, 0)) (by decide +kernel) (by decide) (fun y258 hy258 => ?_)
          refine y_rI (len := 1) (r := (0, 0, 0, 0)) (nL := 3) (k := 2) (n9 := 1) (hs := []) (by decide +kernel) rfl (zfit_b (by omega) (by omega)).2 ?_
          rcases Int.lt_or_le v231.toInt v233.toInt with q9 | q9
          · exact rd_of (smS_trans S0 S245) hR0 (by omega) hg256 (fun k j hk => ho256 k j (Or.inl hk)) (fall_makes (k := k) (w := 2) ho256 hle256 (by omega) (by omega) (hst256 k 2 _ (by omega) (by omega) (by omega) hv255 (by omega) (by omega) (by omega)))
          · exact rd_of (smS_trans S0 S245) hR0 (by omega) hg256 (fun k j hk => ho256 k j (Or.inl hk)) (fall_makes (k := k) (w := 1) ho256 hle256 (by omega) (by omega) (hst256 k 1 _ (by omega) (by omega) (by omega) hv251 (by omega) (by omega) (by omega)))
        ·
          refine y_cF (c := .ne) (off := 6) (len := 3) (r := (0, 0, 0, 0)) (by decide +kernel) (acmpF (c := .ne) (by show _ = _; omega)) ?_
          refine y_goto (off := 25) (pc' := 151) (len := 3) (r := (0, 0, 0, 0)) (by decide +kernel) (by decide +kernel) ?_
          refine y_inc (j := 1) (a := xk) (c := 1) (ls' := fun v => [some (.inl (some R)), some v, none]) (len := 3) (r := (0, 0, 0, 0)) (by decide +kernel) rfl (fun _ => rfl) (by decide) (by omega) (by omega) (fun y259 hy259 => ?_)
          show qX 9 215 154 [some (.inl (some R)), some (zi y259), none] [] h245 t _
          refine y_goto (off := (-62)) (pc' := 92) (len := 3) (r := (0, 0, 0, 0)) (by decide +kernel) (by decide +kernel) ?_
          have hv260 := (S245.2.2 R 1012 0 hR).trans hm
          exact ih τ245 h245 (smS_trans S0 S245) (k + 1) y259 (by omega) (by omega) (by omega) hv260 (fun k' h9 => nN_up (hN k' h9) (fun j => S245.2.2 R 1012 j hR))
theorem rl_4i {τ0 τ : List Nat} {h0 : zh} {R t : Nat} (hC : ∀ (mk : Nat) (c' : aK), c' ∈ actb mk → c'.2.2.1 ≤ 8 → cOK aJ mk c') (hR0 : τ0[R]? = some 1012) {h : zh} (S0 : smS τ0 h0 τ h) {xm : Int32} {m : Nat} (hxm : xm.toInt = (m : Int)) (hm9 : m ≤ 12) (hm : hsl h R 0 = some (zi xm)) (hN : ∀ k, k < m → nN h R k) {k : Nat} {xk : Int32} (hxk : xk.toInt = (k : Int)) (hkm : k < m) (kk : ∀ xi : Int32, qX 9 215 236 [some (.inl (some R)), some (zi xk), some (zi xi)] [] h t (rI (rdR τ0 R h0) t)) : ∀ (n i : Nat) (xi : Int32), xi.toInt = (i : Int) → i ≤ k → k ≤ i + n → qX 9 215 168 [some (.inl (some R)), some (zi xk), some (zi xi)] [] h t (rI (rdR τ0 R h0) t) := by
  have hg := S0.2.1
  have hR := S0.1 _ _ hR0
  intro n
  induction n with
  | zero =>
    intro i xi hxi hik hn
    obtain ⟨v261, hv262, lv261, uv261⟩ := g_int (i := (24 + 4 * k)) hg hR at1012 (show (24 + 4 * k) < 200 by omega) (srC (by omega) (by omega))
    obtain ⟨v263, hv264, lv263, uv263⟩ := g_int (i := ((24 + 4 * k) + 1)) hg hR at1012 (show ((24 + 4 * k) + 1) < 200 by omega) (srC (by omega) (by omega))
    obtain ⟨v265, hv266, lv265, uv265⟩ := g_int (i := ((24 + 4 * k) + 2)) hg hR at1012 (show ((24 + 4 * k) + 2) < 200 by omega) (srC (by omega) (by omega))
    refine y_same (i := .iload_n 2) (len := 1) (r := (0, 0, 0, 0)) (pc' := 169) (ls' := [some (.inl (some R)), some (zi xk), some (zi xi)]) (st' := [zi xi]) (by decide +kernel) (fun k q => by cases q) rfl ?_
    refine y_same (i := .iload_n 1) (len := 1) (r := (0, 0, 0, 0)) (pc' := 170) (ls' := [some (.inl (some R)), some (zi xk), some (zi xi)]) (st' := [zi xk, zi xi]) (by decide +kernel) (fun k q => by cases q) rfl ?_
    refine y_cT (c := .ge) (off := 66) (pc' := 236) (len := 3) (r := (0, 0, 0, 0)) (by decide +kernel) (acmpT (c := .ge) (by show _ ≤ _; omega)) (by decide +kernel) ?_
    exact kk xi
  | succ n ih =>
    intro i xi hxi hik hn
    obtain ⟨v267, hv268, lv267, uv267⟩ := g_int (i := (24 + 4 * k)) hg hR at1012 (show (24 + 4 * k) < 200 by omega) (srC (by omega) (by omega))
    obtain ⟨v269, hv270, lv269, uv269⟩ := g_int (i := ((24 + 4 * k) + 1)) hg hR at1012 (show ((24 + 4 * k) + 1) < 200 by omega) (srC (by omega) (by omega))
    obtain ⟨v271, hv272, lv271, uv271⟩ := g_int (i := ((24 + 4 * k) + 2)) hg hR at1012 (show ((24 + 4 * k) + 2) < 200 by omega) (srC (by omega) (by omega))
    refine y_same (i := .iload_n 2) (len := 1) (r := (0, 0, 0, 0)) (pc' := 169) (ls' := [some (.inl (some R)), some (zi xk), some (zi xi)]) (st' := [zi xi]) (by decide +kernel) (fun k q => by cases q) rfl ?_
    refine y_same (i := .iload_n 1) (len := 1) (r := (0, 0, 0, 0)) (pc' := 170) (ls' := [some (.inl (some R)), some (zi xk), some (zi xi)]) (st' := [zi xk, zi xi]) (by decide +kernel) (fun k q => by cases q) rfl ?_
    rcases Decidable.em (xi.toInt ≥ xk.toInt) with q273 | q273
    ·
      refine y_cT (c := .ge) (off := 66) (pc' := 236) (len := 3) (r := (0, 0, 0, 0)) (by decide +kernel) (acmpT (c := .ge) (by show _ ≤ _; omega)) (by decide +kernel) ?_
      exact kk xi
    ·
      refine y_cF (c := .ge) (off := 66) (len := 3) (r := (0, 0, 0, 0)) (by decide +kernel) (acmpF (c := .ge) (by show _ < _; omega)) ?_
      refine y_same (i := .aload_n 0) (len := 1) (r := (0, 0, 0, 0)) (pc' := 174) (ls' := [some (.inl (some R)), some (zi xk), some (zi xi)]) (st' := [.inl (some R)]) (by decide +kernel) (fun k q => by cases q) rfl ?_
      refine y_same (i := .iload_n 1) (len := 1) (r := (0, 0, 0, 0)) (pc' := 175) (ls' := [some (.inl (some R)), some (zi xk), some (zi xi)]) (st' := [zi xk, .inl (some R)]) (by decide +kernel) (fun k q => by cases q) rfl ?_
      refine y_cI (i := .invokestatic 249) (len := 3) (r := (1, 197, 12, 1644)) (nL := 1) (k := 1) (n := 1) (hs := []) (args := [zi xk]) (rest := [.inl (some R)]) (l0 := [some (zi xk)]) (by decide +kernel) (Or.inl ⟨_, rfl⟩) rfl rfl rfl rfl (Nat.le_of_ble_eq_true rfl) rfl rfl (e_leftAt (by omega) (by omega)) (fun y274 qy274 hRy274 => ?_)
      obtain ⟨rfl, hy274⟩ := hRy274
      refine y_ial (i := (24 + 4 * k)) (len := 1) (r := (0, 0, 0, 0)) (by decide +kernel) hg hR at1012 (by omega) hv268 ?_
      refine y_ic (c := 3) (len := 1) (r := (0, 0, 0, 0)) (by decide +kernel) (by decide) (fun y275 hy275 => ?_)
      rcases Decidable.em (v267.toInt ≠ y275.toInt) with q276 | q276
      ·
        refine y_cT (c := .ne) (off := 50) (pc' := 230) (len := 3) (r := (0, 0, 0, 0)) (by decide +kernel) (acmpT (c := .ne) (by show ¬ (_ = _); omega)) (by decide +kernel) ?_
        refine y_inc (j := 2) (a := xi) (c := 1) (ls' := fun v => [some (.inl (some R)), some (zi xk), some v]) (len := 3) (r := (0, 0, 0, 0)) (by decide +kernel) rfl (fun _ => rfl) (by decide) (by omega) (by omega) (fun y277 hy277 => ?_)
        show qX 9 215 233 [some (.inl (some R)), some (zi xk), some (zi y277)] [] h t _
        refine y_goto (off := (-65)) (pc' := 168) (len := 3) (r := (0, 0, 0, 0)) (by decide +kernel) (by decide +kernel) ?_
        exact ih (i + 1) y277 (by omega) (by omega) (by omega)
      ·
        refine y_cF (c := .ne) (off := 50) (len := 3) (r := (0, 0, 0, 0)) (by decide +kernel) (acmpF (c := .ne) (by show _ = _; omega)) ?_
        refine y_same (i := .aload_n 0) (len := 1) (r := (0, 0, 0, 0)) (pc' := 184) (ls' := [some (.inl (some R)), some (zi xk), some (zi xi)]) (st' := [.inl (some R)]) (by decide +kernel) (fun k q => by cases q) rfl ?_
        refine y_same (i := .iload_n 2) (len := 1) (r := (0, 0, 0, 0)) (pc' := 185) (ls' := [some (.inl (some R)), some (zi xk), some (zi xi)]) (st' := [zi xi, .inl (some R)]) (by decide +kernel) (fun k q => by cases q) rfl ?_
        refine y_cI (i := .invokestatic 249) (len := 3) (r := (1, 197, 12, 1644)) (nL := 1) (k := 1) (n := 1) (hs := []) (args := [zi xi]) (rest := [.inl (some R)]) (l0 := [some (zi xi)]) (by decide +kernel) (Or.inl ⟨_, rfl⟩) rfl rfl rfl rfl (Nat.le_of_ble_eq_true rfl) rfl rfl (e_leftAt (by omega) (by omega)) (fun y278 qy278 hRy278 => ?_)
        obtain ⟨rfl, hy278⟩ := hRy278
        obtain ⟨v279, hv280, lv279, uv279⟩ := g_int (i := (24 + 4 * i)) hg hR at1012 (show (24 + 4 * i) < 200 by omega) (srC (by omega) (by omega))
        refine y_ial (i := (24 + 4 * i)) (len := 1) (r := (0, 0, 0, 0)) (by decide +kernel) hg hR at1012 (by omega) hv280 ?_
        refine y_ic (c := 3) (len := 1) (r := (0, 0, 0, 0)) (by decide +kernel) (by decide) (fun y281 hy281 => ?_)
        rcases Decidable.em (v279.toInt ≠ y281.toInt) with q282 | q282
        ·
          refine y_cT (c := .ne) (off := 40) (pc' := 230) (len := 3) (r := (0, 0, 0, 0)) (by decide +kernel) (acmpT (c := .ne) (by show ¬ (_ = _); omega)) (by decide +kernel) ?_
          refine y_inc (j := 2) (a := xi) (c := 1) (ls' := fun v => [some (.inl (some R)), some (zi xk), some v]) (len := 3) (r := (0, 0, 0, 0)) (by decide +kernel) rfl (fun _ => rfl) (by decide) (by omega) (by omega) (fun y283 hy283 => ?_)
          show qX 9 215 233 [some (.inl (some R)), some (zi xk), some (zi y283)] [] h t _
          refine y_goto (off := (-65)) (pc' := 168) (len := 3) (r := (0, 0, 0, 0)) (by decide +kernel) (by decide +kernel) ?_
          exact ih (i + 1) y283 (by omega) (by omega) (by omega)
        ·
          refine y_cF (c := .ne) (off := 40) (len := 3) (r := (0, 0, 0, 0)) (by decide +kernel) (acmpF (c := .ne) (by show _ = _; omega)) ?_
          refine y_same (i := .aload_n 0) (len := 1) (r := (0, 0, 0, 0)) (pc' := 194) (ls' := [some (.inl (some R)), some (zi xk), some (zi xi)]) (st' := [.inl (some R)]) (by decide +kernel) (fun k q => by cases q) rfl ?_
          refine y_same (i := .iload_n 1) (len := 1) (r := (0, 0, 0, 0)) (pc' := 195) (ls' := [some (.inl (some R)), some (zi xk), some (zi xi)]) (st' := [zi xk, .inl (some R)]) (by decide +kernel) (fun k q => by cases q) rfl ?_
          refine y_cI (i := .invokestatic 249) (len := 3) (r := (1, 197, 12, 1644)) (nL := 1) (k := 1) (n := 1) (hs := []) (args := [zi xk]) (rest := [.inl (some R)]) (l0 := [some (zi xk)]) (by decide +kernel) (Or.inl ⟨_, rfl⟩) rfl rfl rfl rfl (Nat.le_of_ble_eq_true rfl) rfl rfl (e_leftAt (by omega) (by omega)) (fun y284 qy284 hRy284 => ?_)
          obtain ⟨rfl, hy284⟩ := hRy284
          refine y_ic (c := 1) (len := 1) (r := (0, 0, 0, 0)) (by decide +kernel) (by decide) (fun y285 hy285 => ?_)
          refine y_add (len := 1) (r := (0, 0, 0, 0)) (by decide +kernel) (by omega) (by omega) (fun y286 hy286 => ?_)
          refine y_ial (i := ((24 + 4 * k) + 1)) (len := 1) (r := (0, 0, 0, 0)) (by decide +kernel) hg hR at1012 (by omega) hv270 ?_
          refine y_same (i := .aload_n 0) (len := 1) (r := (0, 0, 0, 0)) (pc' := 202) (ls' := [some (.inl (some R)), some (zi xk), some (zi xi)]) (st' := [.inl (some R), zi v269]) (by decide +kernel) (fun k q => by cases q) rfl ?_
          refine y_same (i := .iload_n 2) (len := 1) (r := (0, 0, 0, 0)) (pc' := 203) (ls' := [some (.inl (some R)), some (zi xk), some (zi xi)]) (st' := [zi xi, .inl (some R), zi v269]) (by decide +kernel) (fun k q => by cases q) rfl ?_
          refine y_cI (i := .invokestatic 249) (len := 3) (r := (1, 197, 12, 1644)) (nL := 1) (k := 1) (n := 1) (hs := []) (args := [zi xi]) (rest := [.inl (some R), zi v269]) (l0 := [some (zi xi)]) (by decide +kernel) (Or.inl ⟨_, rfl⟩) rfl rfl rfl rfl (Nat.le_of_ble_eq_true rfl) rfl rfl (e_leftAt (by omega) (by omega)) (fun y287 qy287 hRy287 => ?_)
          obtain ⟨rfl, hy287⟩ := hRy287
          refine y_ic (c := 1) (len := 1) (r := (0, 0, 0, 0)) (by decide +kernel) (by decide) (fun y288 hy288 => ?_)
          refine y_add (len := 1) (r := (0, 0, 0, 0)) (by decide +kernel) (by omega) (by omega) (fun y289 hy289 => ?_)
          obtain ⟨v290, hv291, lv290, uv290⟩ := g_int (i := ((24 + 4 * i) + 1)) hg hR at1012 (show ((24 + 4 * i) + 1) < 200 by omega) (srC (by omega) (by omega))
          refine y_ial (i := ((24 + 4 * i) + 1)) (len := 1) (r := (0, 0, 0, 0)) (by decide +kernel) hg hR at1012 (by omega) hv291 ?_
          rcases Decidable.em (v269.toInt = v290.toInt) with q292 | q292
          ·
            refine y_cT (c := .eq) (off := 6) (pc' := 215) (len := 3) (r := (0, 0, 0, 0)) (by decide +kernel) (acmpT (c := .eq) (by show _ = _; omega)) (by decide +kernel) ?_
            refine y_same (i := .aload_n 0) (len := 1) (r := (0, 0, 0, 0)) (pc' := 216) (ls' := [some (.inl (some R)), some (zi xk), some (zi xi)]) (st' := [.inl (some R)]) (by decide +kernel) (fun k q => by cases q) rfl ?_
            refine y_same (i := .aload_n 0) (len := 1) (r := (0, 0, 0, 0)) (pc' := 217) (ls' := [some (.inl (some R)), some (zi xk), some (zi xi)]) (st' := [.inl (some R), .inl (some R)]) (by decide +kernel) (fun k q => by cases q) rfl ?_
            refine y_same (i := .iload_n 1) (len := 1) (r := (0, 0, 0, 0)) (pc' := 218) (ls' := [some (.inl (some R)), some (zi xk), some (zi xi)]) (st' := [zi xk, .inl (some R), .inl (some R)]) (by decide +kernel) (fun k q => by cases q) rfl ?_
            refine y_cI (i := .invokestatic 249) (len := 3) (r := (1, 197, 12, 1644)) (nL := 1) (k := 1) (n := 1) (hs := []) (args := [zi xk]) (rest := [.inl (some R), .inl (some R)]) (l0 := [some (zi xk)]) (by decide +kernel) (Or.inl ⟨_, rfl⟩) rfl rfl rfl rfl (Nat.le_of_ble_eq_true rfl) rfl rfl (e_leftAt (by omega) (by omega)) (fun y293 qy293 hRy293 => ?_)
            obtain ⟨rfl, hy293⟩ := hRy293
            refine y_ic (c := 1) (len := 1) (r := (0, 0, 0, 0)) (by decide +kernel) (by decide) (fun y294 hy294 => ?_)
            refine y_add (len := 1) (r := (0, 0, 0, 0)) (by decide +kernel) (by omega) (by omega) (fun y295 hy295 => ?_)
            refine y_ial (i := ((24 + 4 * k) + 1)) (len := 1) (r := (0, 0, 0, 0)) (by decide +kernel) hg hR at1012 (by omega) hv270 ?_
            refine y_ic (c := 0) (len := 1) (r := (0, 0, 0, 0)) (by decide +kernel) (by decide) (fun y296 hy296 => ?_)
            have nk := hN k (by omega) _ _ _ hv268 hv270 hv272
            refine y_cV (i := .invokestatic 288) (len := 3) (r := (1, 206, 12, 1660)) (nL := 7) (k := 0) (n := 3) (hs := []) (args := [.inl (some R), zi v269, zi y296]) (rest := []) (l0 := [some (.inl (some R)), some (zi v269), some (zi y296), none, none, none, none]) (by decide +kernel) (Or.inl ⟨_, rfl⟩) rfl rfl rfl rfl (Nat.le_of_ble_eq_true rfl) rfl rfl (e_makes hg hR (by omega) (by omega) (by omega) (by omega) (by omega) hm) (fun h297 hR297 => ?_)
            obtain ⟨hg297, hl297, ho297, hle297, hst297⟩ := hR297
            refine y_ic (c := 1) (len := 1) (r := (0, 0, 0, 0)) (by decide +kernel) (by decide) (fun y298 hy298 => ?_)
            refine y_rI (len := 1) (r := (0, 0, 0, 0)) (nL := 3) (k := 2) (n9 := 1) (hs := []) (by decide +kernel) rfl (zfit_b (by omega) (by omega)).2 ?_
            exact rd_of S0 hR0 (by omega) hg297 (fun k j hk => ho297 k j (Or.inl hk)) (fall_makes (k := k) (w := 1) ho297 hle297 (by omega) (by omega) (hst297 k 1 _ (by omega) (by omega) (by omega) hv270 (by omega) (by omega) (by omega)))
          ·
            refine y_cF (c := .eq) (off := 6) (len := 3) (r := (0, 0, 0, 0)) (by decide +kernel) (acmpF (c := .eq) (by show ¬ (_ = _); omega)) ?_
            refine y_goto (off := 18) (pc' := 230) (len := 3) (r := (0, 0, 0, 0)) (by decide +kernel) (by decide +kernel) ?_
            refine y_inc (j := 2) (a := xi) (c := 1) (ls' := fun v => [some (.inl (some R)), some (zi xk), some v]) (len := 3) (r := (0, 0, 0, 0)) (by decide +kernel) rfl (fun _ => rfl) (by decide) (by omega) (by omega) (fun y299 hy299 => ?_)
            show qX 9 215 233 [some (.inl (some R)), some (zi xk), some (zi y299)] [] h t _
            refine y_goto (off := (-65)) (pc' := 168) (len := 3) (r := (0, 0, 0, 0)) (by decide +kernel) (by decide +kernel) ?_
            exact ih (i + 1) y299 (by omega) (by omega) (by omega)
theorem rl_4 {τ0 τ : List Nat} {h0 : zh} {R t : Nat} (hC : ∀ (mk : Nat) (c' : aK), c' ∈ actb mk → c'.2.2.1 ≤ 8 → cOK aJ mk c') (hR0 : τ0[R]? = some 1012) {h : zh} (S0 : smS τ0 h0 τ h) {xm : Int32} {m : Nat} (hxm : xm.toInt = (m : Int)) (hm9 : m ≤ 12) (hm : hsl h R 0 = some (zi xm)) (hN : ∀ k, k < m → nN h R k) : ∀ (n k : Nat) (xk : Int32) (l2 : Option zv), xk.toInt = (k : Int) → k ≤ m → m ≤ k + n → qX 9 215 159 [some (.inl (some R)), some (zi xk), l2] [] h t (rI (rdR τ0 R h0) t) := by
  have hg := S0.2.1
  have hR := S0.1 _ _ hR0
  intro n
  induction n with
  | zero =>
    intro k xk l2 hxk hkm hn
    refine y_same (i := .iload_n 1) (len := 1) (r := (0, 0, 0, 0)) (pc' := 160) (ls' := [some (.inl (some R)), some (zi xk), l2]) (st' := [zi xk]) (by decide +kernel) (fun k q => by cases q) rfl ?_
    refine y_same (i := .aload_n 0) (len := 1) (r := (0, 0, 0, 0)) (pc' := 161) (ls' := [some (.inl (some R)), some (zi xk), l2]) (st' := [.inl (some R), zi xk]) (by decide +kernel) (fun k q => by cases q) rfl ?_
    refine y_ic (c := 0) (len := 1) (r := (0, 0, 0, 0)) (by decide +kernel) (by decide) (fun y300 hy300 => ?_)
    refine y_ial (i := 0) (len := 1) (r := (0, 0, 0, 0)) (by decide +kernel) hg hR at1012 (by omega) hm ?_
    refine y_cT (c := .ge) (off := 79) (pc' := 242) (len := 3) (r := (0, 0, 0, 0)) (by decide +kernel) (acmpT (c := .ge) (by show _ ≤ _; omega)) (by decide +kernel) ?_
    refine y_same (i := .aload_n 0) (len := 1) (r := (0, 0, 0, 0)) (pc' := 243) (ls' := [some (.inl (some R)), some (zi xk), l2]) (st' := [.inl (some R)]) (by decide +kernel) (fun k q => by cases q) rfl ?_
    refine y_cI (i := .invokestatic 291) (len := 3) (r := (1, 216, 12, 1724)) (nL := 4) (k := 2) (n := 1) (hs := []) (args := [.inl (some R)]) (rest := []) (l0 := [some (.inl (some R)), none, none, none]) (by decide +kernel) (Or.inl ⟨_, rfl⟩) rfl rfl rfl rfl (Nat.le_of_ble_eq_true rfl) rfl rfl (e_readiesRight hC hg hR) (fun y301 h301 hRy301 => ?_)
    have B301 := hRy301.1
    have D301 := hRy301.2.1
    refine y_rI (len := 1) (r := (0, 0, 0, 0)) (nL := 3) (k := 2) (n9 := 1) (hs := []) (by decide +kernel) rfl (zfit_b (by omega) (by omega)).2 ?_
    exact rd_up S0 hR0 hRy301
  | succ n ih =>
    intro k xk l2 hxk hkm hn
    refine y_same (i := .iload_n 1) (len := 1) (r := (0, 0, 0, 0)) (pc' := 160) (ls' := [some (.inl (some R)), some (zi xk), l2]) (st' := [zi xk]) (by decide +kernel) (fun k q => by cases q) rfl ?_
    refine y_same (i := .aload_n 0) (len := 1) (r := (0, 0, 0, 0)) (pc' := 161) (ls' := [some (.inl (some R)), some (zi xk), l2]) (st' := [.inl (some R), zi xk]) (by decide +kernel) (fun k q => by cases q) rfl ?_
    refine y_ic (c := 0) (len := 1) (r := (0, 0, 0, 0)) (by decide +kernel) (by decide) (fun y302 hy302 => ?_)
    refine y_ial (i := 0) (len := 1) (r := (0, 0, 0, 0)) (by decide +kernel) hg hR at1012 (by omega) hm ?_
    rcases Decidable.em (xk.toInt ≥ xm.toInt) with q303 | q303
    ·
      refine y_cT (c := .ge) (off := 79) (pc' := 242) (len := 3) (r := (0, 0, 0, 0)) (by decide +kernel) (acmpT (c := .ge) (by show _ ≤ _; omega)) (by decide +kernel) ?_
      refine y_same (i := .aload_n 0) (len := 1) (r := (0, 0, 0, 0)) (pc' := 243) (ls' := [some (.inl (some R)), some (zi xk), l2]) (st' := [.inl (some R)]) (by decide +kernel) (fun k q => by cases q) rfl ?_
      refine y_cI (i := .invokestatic 291) (len := 3) (r := (1, 216, 12, 1724)) (nL := 4) (k := 2) (n := 1) (hs := []) (args := [.inl (some R)]) (rest := []) (l0 := [some (.inl (some R)), none, none, none]) (by decide +kernel) (Or.inl ⟨_, rfl⟩) rfl rfl rfl rfl (Nat.le_of_ble_eq_true rfl) rfl rfl (e_readiesRight hC hg hR) (fun y304 h304 hRy304 => ?_)
      have B304 := hRy304.1
      have D304 := hRy304.2.1
      refine y_rI (len := 1) (r := (0, 0, 0, 0)) (nL := 3) (k := 2) (n9 := 1) (hs := []) (by decide +kernel) rfl (zfit_b (by omega) (by omega)).2 ?_
      exact rd_up S0 hR0 hRy304
    ·
      refine y_cF (c := .ge) (off := 79) (len := 3) (r := (0, 0, 0, 0)) (by decide +kernel) (acmpF (c := .ge) (by show _ < _; omega)) ?_
      refine y_ic (c := 0) (len := 1) (r := (0, 0, 0, 0)) (by decide +kernel) (by decide) (fun y305 hy305 => ?_)
      refine y_same (i := .istore_n 2) (len := 1) (r := (0, 0, 0, 0)) (pc' := 168) (ls' := [some (.inl (some R)), some (zi xk), some (zi y305)]) (st' := []) (by decide +kernel) (fun k q => by cases q) rfl ?_
      refine rl_4i hC hR0 S0 hxm hm9 hm hN hxk (by omega) (fun xi => ?_) 12 0 y305 (by omega) (by omega) (by omega)
      refine y_inc (j := 1) (a := xk) (c := 1) (ls' := fun v => [some (.inl (some R)), some v, some (zi xi)]) (len := 3) (r := (0, 0, 0, 0)) (by decide +kernel) rfl (fun _ => rfl) (by decide) (by omega) (by omega) (fun y306 hy306 => ?_)
      show qX 9 215 239 [some (.inl (some R)), some (zi y306), some (zi xi)] [] h t _
      refine y_goto (off := (-80)) (pc' := 159) (len := 3) (r := (0, 0, 0, 0)) (by decide +kernel) (by decide +kernel) ?_
      exact ih (k + 1) y306 _ (by omega) (by omega) (by omega)
theorem e_readies {τ : List Nat} {h : zh} {R t : Nat} (hC : ∀ (mk : Nat) (c' : aK), c' ∈ actb mk → c'.2.2.1 ≤ 8 → cOK aJ mk c') (hg : hG τ h) (hR : τ[R]? = some 1012) : qI 10 215 [some (.inl (some R)), none, none] h t (rdR τ R h) := by
  refine qI_of ?_
  refine y_ic (c := 0) (len := 1) (r := (0, 0, 0, 0)) (by decide +kernel) (by decide) (fun y307 hy307 => ?_)
  refine y_same (i := .istore_n 1) (len := 1) (r := (0, 0, 0, 0)) (pc' := 2) (ls' := [some (.inl (some R)), some (zi y307), none]) (st' := []) (by decide +kernel) (fun k q => by cases q) rfl ?_
  obtain ⟨xm, hm, l1, u1⟩ := g_int (i := 0) hg hR at1012 (by decide) (srA (by decide))
  refine rl_1 (m := xm.toInt.toNat) hC hR (smS_refl hg) (by omega) (by omega) hm (fun hN xk1 => ?_) 12 0 y307 (by omega) (by omega) (by omega) (fun k' h9 => by omega)
  refine y_ic (c := 0) (len := 1) (r := (0, 0, 0, 0)) (by decide +kernel) (by decide) (fun y308 hy308 => ?_)
  refine y_same (i := .istore_n 1) (len := 1) (r := (0, 0, 0, 0)) (pc' := 38) (ls' := [some (.inl (some R)), some (zi y308), none]) (st' := []) (by decide +kernel) (fun k q => by cases q) rfl ?_
  refine rl_2 (m := xm.toInt.toNat) hC hR (smS_refl hg) (by omega) (by omega) hm hN (fun xk2 => ?_) 12 0 y308 (by omega) (by omega) (by omega)
  refine y_ic (c := 0) (len := 1) (r := (0, 0, 0, 0)) (by decide +kernel) (by decide) (fun y309 hy309 => ?_)
  refine y_same (i := .istore_n 1) (len := 1) (r := (0, 0, 0, 0)) (pc' := 92) (ls' := [some (.inl (some R)), some (zi y309), none]) (st' := []) (by decide +kernel) (fun k q => by cases q) rfl ?_
  refine rl_3 (m := xm.toInt.toNat) hC hR (by omega) (by omega) (fun τb hb xk3 Sb hmb hNb => ?_) 12 τ h (smS_refl hg) 0 y309 (by omega) (by omega) (by omega) hm hN
  refine y_ic (c := 0) (len := 1) (r := (0, 0, 0, 0)) (by decide +kernel) (by decide) (fun y310 hy310 => ?_)
  refine y_same (i := .istore_n 1) (len := 1) (r := (0, 0, 0, 0)) (pc' := 159) (ls' := [some (.inl (some R)), some (zi y310), none]) (st' := []) (by decide +kernel) (fun k q => by cases q) rfl ?_
  exact rl_4 (m := xm.toInt.toNat) hC hR Sb (by omega) (by omega) hmb hNb 12 0 y310 _ (by omega) (by omega) (by omega)
