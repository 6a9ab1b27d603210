/-! a sequent of the reference: known, void, gone, made -/
theorem dC_up2 {h h1 : zh} {A o : Nat} {D : dfT} (c : dC h A o D) (e : ∀ j, j < 21 → hsl h1 A (o + j) = hsl h A (o + j)) : dC h1 A o D := fun x hx => by
  obtain ⟨v, e1, e2⟩ := c x hx
  exact ⟨v, (e x hx).trans e1, e2⟩
theorem er_len {α : Type} {l : List α} {k : Nat} (h : k < l.length) : (l.eraseIdx k).length = l.length - 1 := by
  rw [List.length_eraseIdx, if_pos h]
theorem er_it {h h1 : zh} {A base m k j : Nat} {l : List it4} {x : it4} (hl : l.length = m + 1) (hj : (l.eraseIdx k)[j]? = some x) (d : ∀ (j : Nat) (i : it4), l[j]? = some i → qdM h A (base + 4 * j) i) (c1 : ∀ j, base + 4 * k ≤ j → j < base + 4 * m → hsl h1 A j = hsl h A (j + 4)) (F : ∀ j, (24 ≤ base → base ≤ j) ∧ j < base + 4 * k → hsl h1 A j = hsl h A j) : qdM h1 A (base + 4 * j) x := by
  rw [List.getElem?_eraseIdx] at hj
  split at hj
  · rename_i q
    exact qdM_up (d j x hj) (fun w hw => F _ ⟨fun _ => by omega, by omega⟩)
  · rename_i q
    have hj9 := (List.getElem?_eq_some_iff.mp hj).1
    refine qdM_up (d (j + 1) x hj) (fun w hw => ?_)
    rw [show base + 4 * (j + 1) + w = base + 4 * j + w + 4 by omega]
    exact c1 _ (by omega) (by omega)
theorem ca_lm {d t A : Nat} {τ : List Nat} {h : zh} {s : sqT} (Q : QM τ h A s) {x : Int} {f : Nat} {xx xf : Int32} (exx : xx.toInt = x) (exf : xf.toInt = (f : Int)) : ∀ (n : Nat) (i : Nat) (xi : Int32), (xi.toInt = (i : Int)) → (f ≤ i) → (i ≤ max f s.1.length) → (∀ (j : Nat) (q : it4), f ≤ j → j < i → s.1[j]? = some q → q.1 ≤ 1 → q.2.1 ≠ x) → (max f s.1.length < i + n) → qX (d + 1) 211 2 [some (.inl (some A)), some (zi xx), some (zi xf), some (zi xi)] [] h t (rI (fun y h1 => h = h1 ∧ ((∃ (k : Nat) (q : it4), y.toInt = (k : Int) ∧ f ≤ k ∧ s.1[k]? = some q ∧ q.1 ≤ 1 ∧ q.2.1 = x) ∨ (y.toInt = -1 ∧ ∀ (j : Nat) (q : it4), f ≤ j →  s.1[j]? = some q → q.1 ≤ 1 → q.2.1 ≠ x))) t) := by
  intro n
  induction n with
  | zero =>
    intro i xi hxi hf hi c1 hn
    exfalso
    omega
  | succ n ih =>
    intro i xi hxi hf hi c1 hn
    obtain ⟨T, c0, tA, aT, hc0, pT⟩ := Q.2.1
    refine y_same (i := .iload_n 3) (len := 1) (r := (0, 0, 0, 0)) (pc' := 3) (ls' := [some (.inl (some A)), some (zi xx), some (zi xf), some (zi xi)]) (st' := [zi xi]) (by decide +kernel) (fun k q => by cases q) rfl ?_
    refine y_same (i := .aload_n 0) (len := 1) (r := (0, 0, 0, 0)) (pc' := 4) (ls' := [some (.inl (some A)), some (zi xx), some (zi xf), some (zi xi)]) (st' := [.inl (some A), zi xi]) (by decide +kernel) (fun k q => by cases q) rfl ?_
    refine y_ic (c := 0) (len := 1) (r := (0, 0, 0, 0)) (by decide +kernel) (by decide) (fun y2068 hy2068 => ?_)
    obtain ⟨z2069, hz2069, ez2069⟩ := Q.2.2.1.1
    have ez2069 : z2069.toInt = ((s.1.length : Nat) : Int) := ez2069
    have mz2069 := qm_lenL Q
    have mz2069 : s.1.length ≤ 14 := mz2069
    refine y_ial (i := 0) (len := 1) (r := (0, 0, 0, 0)) (by decide +kernel) Q.1 tA aT (by omega) hz2069 ?_
    rcases Decidable.em (xi.toInt ≥ z2069.toInt) with q2070 | q2070
    ·
      refine y_cT (c := .ge) (off := 35) (pc' := 41) (len := 3) (r := (0, 0, 0, 0)) (by decide +kernel) (acmpT (c := .ge) (by show _ ≤ _; omega)) (by decide +kernel) ?_
      refine y_ic (c := (-1)) (len := 1) (r := (0, 0, 0, 0)) (by decide +kernel) (by decide) (fun y2071 hy2071 => ?_)
      refine y_rI (len := 1) (r := (0, 0, 0, 0)) (nL := 4) (k := 1) (n9 := 3) (hs := []) (by decide +kernel) rfl rfl ?_
      exact ⟨rfl, Or.inr ⟨by omega, fun j q h1 h3 h4 => c1 j q h1 (by have := (List.getElem?_eq_some_iff.mp h3).1; omega) h3 h4⟩⟩
    ·
      refine y_cF (c := .ge) (off := 35) (len := 3) (r := (0, 0, 0, 0)) (by decide +kernel) (acmpF (c := .ge) (by show _ < _; omega)) ?_
      refine y_same (i := .aload_n 0) (len := 1) (r := (0, 0, 0, 0)) (pc' := 10) (ls' := [some (.inl (some A)), some (zi xx), some (zi xf), some (zi xi)]) (st' := [.inl (some A)]) (by decide +kernel) (fun k q => by cases q) rfl ?_
      refine y_same (i := .iload_n 3) (len := 1) (r := (0, 0, 0, 0)) (pc' := 11) (ls' := [some (.inl (some A)), some (zi xx), some (zi xf), some (zi xi)]) (st' := [zi xi, .inl (some A)]) (by decide +kernel) (fun k q => by cases q) rfl ?_
      refine y_cI (i := .invokestatic 249) (len := 3) (r := (1, 197, 12, 1644)) (nL := 1) (k := 1) (n := 1) (hs := []) (args := [zi xi]) (rest := [.inl (some A)]) (l0 := [some (zi xi)]) (by decide +kernel) (Or.inl ⟨_, rfl⟩) rfl rfl rfl rfl (Nat.le_of_ble_eq_true rfl) rfl rfl (qI_le (by omega) (e_leftAt (d := 0) (by omega) (by omega))) (fun y2072 qy2072 hRy2072 => ?_)
      obtain ⟨rfl, hy2072⟩ := hRy2072
      obtain ⟨i2073, ki2073⟩ : ∃ i9, s.1[i]? = some i9 := ⟨_, List.getElem?_eq_getElem (by omega)⟩
      have oi2073 := okQ_L Q.2.2.2 ki2073
      have pi2073 := oi2073.1
      unfold okV at pi2073
      obtain ⟨ai2073, bi2073, ci2073, di2073, ⟨hai2073, hbi2073, hci2073, hdi2073⟩, eai2073, ebi2073, eci2073, edi2073⟩ := qm_itL Q ki2073
      refine y_ial (i := (24 + 4 * i)) (len := 1) (r := (0, 0, 0, 0)) (by decide +kernel) Q.1 tA aT (by omega) hai2073 ?_
      refine y_cI (i := .invokestatic 273) (len := 3) (r := (1, 204, 12, 1715)) (nL := 1) (k := 2) (n := 1) (hs := []) (args := [zi ai2073]) (rest := []) (l0 := [some (zi ai2073)]) (by decide +kernel) (Or.inl ⟨_, rfl⟩) rfl rfl rfl rfl (Nat.le_of_ble_eq_true rfl) rfl rfl (qI_le (by omega) (m_isc (d := 0))) (fun y2074 qy2074 hRy2074 => ?_)
      obtain ⟨rfl, hDy2074⟩ := hRy2074
      rcases hDy2074 with ⟨vy2074, ty2074⟩ | ⟨vy2074, ty2074⟩
      ·
        refine y_iF (c := .eq) (off := 17) (len := 3) (r := (0, 0, 0, 0)) (by decide +kernel) (acmpF (c := .eq) (by show ¬ (_ = _); omega)) ?_
        refine y_same (i := .aload_n 0) (len := 1) (r := (0, 0, 0, 0)) (pc' := 22) (ls' := [some (.inl (some A)), some (zi xx), some (zi xf), some (zi xi)]) (st' := [.inl (some A)]) (by decide +kernel) (fun k q => by cases q) rfl ?_
        refine y_same (i := .iload_n 3) (len := 1) (r := (0, 0, 0, 0)) (pc' := 23) (ls' := [some (.inl (some A)), some (zi xx), some (zi xf), some (zi xi)]) (st' := [zi xi, .inl (some A)]) (by decide +kernel) (fun k q => by cases q) rfl ?_
        refine y_cI (i := .invokestatic 249) (len := 3) (r := (1, 197, 12, 1644)) (nL := 1) (k := 1) (n := 1) (hs := []) (args := [zi xi]) (rest := [.inl (some A)]) (l0 := [some (zi xi)]) (by decide +kernel) (Or.inl ⟨_, rfl⟩) rfl rfl rfl rfl (Nat.le_of_ble_eq_true rfl) rfl rfl (qI_le (by omega) (e_leftAt (d := 0) (by omega) (by omega))) (fun y2075 qy2075 hRy2075 => ?_)
        obtain ⟨rfl, hy2075⟩ := hRy2075
        refine y_ic (c := 1) (len := 1) (r := (0, 0, 0, 0)) (by decide +kernel) (by decide) (fun y2076 hy2076 => ?_)
        refine y_add (len := 1) (r := (0, 0, 0, 0)) (by decide +kernel) (by omega) (by omega) (fun y2077 hy2077 => ?_)
        refine y_ial (i := ((24 + 4 * i) + 1)) (len := 1) (r := (0, 0, 0, 0)) (by decide +kernel) Q.1 tA aT (by omega) hbi2073 ?_
        refine y_same (i := .iload_n 1) (len := 1) (r := (0, 0, 0, 0)) (pc' := 30) (ls' := [some (.inl (some A)), some (zi xx), some (zi xf), some (zi xi)]) (st' := [zi xx, zi bi2073]) (by decide +kernel) (fun k q => by cases q) rfl ?_
        rcases Decidable.em (bi2073.toInt ≠ xx.toInt) with q2078 | q2078
        ·
          refine y_cT (c := .ne) (off := 5) (pc' := 35) (len := 3) (r := (0, 0, 0, 0)) (by decide +kernel) (acmpT (c := .ne) (by show ¬ (_ = _); omega)) (by decide +kernel) ?_
          refine y_inc (j := 3) (a := xi) (c := 1) (ls' := fun v => [some (.inl (some A)), some (zi xx), some (zi xf), some v]) (len := 3) (r := (0, 0, 0, 0)) (by decide +kernel) rfl (fun _ => rfl) (by decide) (by omega) (by omega) (fun y2079 hy2079 => ?_)
          show qX (d + 1) 211 38 [some (.inl (some A)), some (zi xx), some (zi xf), some (zi y2079)] [] h t _
          refine y_goto (off := (-36)) (pc' := 2) (len := 3) (r := (0, 0, 0, 0)) (by decide +kernel) (by decide +kernel) ?_
          refine ih (i + 1) y2079 (by omega) (by omega) (by omega) (fun j q h1 h2 h3 h4 => ?_) (by omega)
          rcases Nat.lt_or_ge j i with q9 | q9
          · exact c1 j q h1 q9 h3 h4
          · obtain rfl : j = i := by omega
            cases ki2073.symm.trans h3
            omega
        ·
          refine y_cF (c := .ne) (off := 5) (len := 3) (r := (0, 0, 0, 0)) (by decide +kernel) (acmpF (c := .ne) (by show _ = _; omega)) ?_
          refine y_same (i := .iload_n 3) (len := 1) (r := (0, 0, 0, 0)) (pc' := 34) (ls' := [some (.inl (some A)), some (zi xx), some (zi xf), some (zi xi)]) (st' := [zi xi]) (by decide +kernel) (fun k q => by cases q) rfl ?_
          refine y_rI (len := 1) (r := (0, 0, 0, 0)) (nL := 4) (k := 1) (n9 := 3) (hs := []) (by decide +kernel) rfl rfl ?_
          exact ⟨rfl, Or.inl ⟨i, i2073, by omega, by omega, ki2073, by omega, by omega⟩⟩
      ·
        refine y_iT (c := .eq) (off := 17) (pc' := 35) (len := 3) (r := (0, 0, 0, 0)) (by decide +kernel) (acmpT (c := .eq) (by show _ = _; omega)) (by decide +kernel) ?_
        refine y_inc (j := 3) (a := xi) (c := 1) (ls' := fun v => [some (.inl (some A)), some (zi xx), some (zi xf), some v]) (len := 3) (r := (0, 0, 0, 0)) (by decide +kernel) rfl (fun _ => rfl) (by decide) (by omega) (by omega) (fun y2080 hy2080 => ?_)
        show qX (d + 1) 211 38 [some (.inl (some A)), some (zi xx), some (zi xf), some (zi y2080)] [] h t _
        refine y_goto (off := (-36)) (pc' := 2) (len := 3) (r := (0, 0, 0, 0)) (by decide +kernel) (by decide +kernel) ?_
        refine ih (i + 1) y2080 (by omega) (by omega) (by omega) (fun j q h1 h2 h3 h4 => ?_) (by omega)
        rcases Nat.lt_or_ge j i with q9 | q9
        · exact c1 j q h1 q9 h3 h4
        · obtain rfl : j = i := by omega
          cases ki2073.symm.trans h3
          omega
theorem m_cat {d t A : Nat} {τ : List Nat} {h : zh} {s : sqT} (Q : QM τ h A s) {x : Int} {f : Nat} {xx xf : Int32} (exx : xx.toInt = x) (exf : xf.toInt = (f : Int)) : qI (d + 2) 211 [some (.inl (some A)), some (zi xx), some (zi xf), none] h t (fun y h1 => h = h1 ∧ ((∃ (k : Nat) (q : it4), y.toInt = (k : Int) ∧ f ≤ k ∧ s.1[k]? = some q ∧ q.1 ≤ 1 ∧ q.2.1 = x) ∨ (y.toInt = -1 ∧ ∀ (j : Nat) (q : it4), f ≤ j →  s.1[j]? = some q → q.1 ≤ 1 → q.2.1 ≠ x))) := by
  refine qI_of ?_
  refine y_same (i := .iload_n 2) (len := 1) (r := (0, 0, 0, 0)) (pc' := 1) (ls' := [some (.inl (some A)), some (zi xx), some (zi xf), none]) (st' := [zi xf]) (by decide +kernel) (fun k q => by cases q) rfl ?_
  refine y_same (i := .istore_n 3) (len := 1) (r := (0, 0, 0, 0)) (pc' := 2) (ls' := [some (.inl (some A)), some (zi xx), some (zi xf), some (zi xf)]) (st' := []) (by decide +kernel) (fun k q => by cases q) rfl ?_
  exact ca_lm Q exx exf (max f s.1.length + 1) f xf (by omega) (by omega) (by omega) (fun j _ h1 h2 => absurd h2 (by omega)) (by omega)
theorem m_knN {d t A : Nat} {τ : List Nat} {h : zh} {s : sqT} (Q : QM τ h A s) {x y : Nat} {xx xy : Int32} (exx : xx.toInt = (x : Int)) (hx : x ≤ 20) (exy : xy.toInt = (y : Int)) (hy : y ≤ 20) : qI (d + 3) 212 [some (.inl (some A)), some (zi xx), some (zi xy), none, none] h t (fun z h1 => h = h1 ∧ ((z.toInt = 1 ∧ kn s.1 s.2.2.2 x y) ∨ (z.toInt = 0 ∧ ¬ kn s.1 s.2.2.2 x y))) := by
  obtain ⟨T, c0, tA, aT, hc0, pT⟩ := Q.2.1
  refine qI_of ?_
  refine y_same (i := .aload_n 0) (len := 1) (r := (0, 0, 0, 0)) (pc' := 1) (ls' := [some (.inl (some A)), some (zi xx), some (zi xy), none, none]) (st' := [.inl (some A)]) (by decide +kernel) (fun k q => by cases q) rfl ?_
  refine y_same (i := .iload_n 1) (len := 1) (r := (0, 0, 0, 0)) (pc' := 2) (ls' := [some (.inl (some A)), some (zi xx), some (zi xy), none, none]) (st' := [zi xx, .inl (some A)]) (by decide +kernel) (fun k q => by cases q) rfl ?_
  refine y_same (i := .iload_n 2) (len := 1) (r := (0, 0, 0, 0)) (pc' := 3) (ls' := [some (.inl (some A)), some (zi xx), some (zi xy), none, none]) (st' := [zi xy, zi xx, .inl (some A)]) (by decide +kernel) (fun k q => by cases q) rfl ?_
  refine y_cI (i := .invokestatic 245) (len := 3) (r := (1, 200, 12, 1666)) (nL := 3) (k := 2) (n := 3) (hs := []) (args := [.inl (some A), zi xx, zi xy]) (rest := []) (l0 := [some (.inl (some A)), some (zi xx), some (zi xy)]) (by decide +kernel) (Or.inl ⟨_, rfl⟩) rfl rfl rfl rfl (Nat.le_of_ble_eq_true rfl) rfl rfl (qI_le (by omega) (m_dif (d := 0) (x := x) (y := y) Q (by omega) (by omega) (by omega) (by omega))) (fun y2081 qy2081 hRy2081 => ?_)
  obtain ⟨rfl, hDy2081⟩ := hRy2081
  rcases hDy2081 with ⟨vy2081, ty2081⟩ | ⟨vy2081, ty2081⟩
  ·
    refine y_iF (c := .eq) (off := 5) (len := 3) (r := (0, 0, 0, 0)) (by decide +kernel) (acmpF (c := .eq) (by show ¬ (_ = _); omega)) ?_
    refine y_ic (c := 1) (len := 1) (r := (0, 0, 0, 0)) (by decide +kernel) (by decide) (fun y2082 hy2082 => ?_)
    refine y_rI (len := 1) (r := (0, 0, 0, 0)) (nL := 5) (k := 2) (n9 := 3) (hs := []) (by decide +kernel) rfl (zfit_b (by omega) (by omega)).2 ?_
    exact ⟨rfl, Or.inl ⟨by omega, Or.inl ty2081⟩⟩
  ·
    refine y_iT (c := .eq) (off := 5) (pc' := 11) (len := 3) (r := (0, 0, 0, 0)) (by decide +kernel) (acmpT (c := .eq) (by show _ = _; omega)) (by decide +kernel) ?_
    refine y_same (i := .iload_n 1) (len := 1) (r := (0, 0, 0, 0)) (pc' := 12) (ls' := [some (.inl (some A)), some (zi xx), some (zi xy), none, none]) (st' := [zi xx]) (by decide +kernel) (fun k q => by cases q) rfl ?_
    refine y_same (i := .iload_n 2) (len := 1) (r := (0, 0, 0, 0)) (pc' := 13) (ls' := [some (.inl (some A)), some (zi xx), some (zi xy), none, none]) (st' := [zi xy, zi xx]) (by decide +kernel) (fun k q => by cases q) rfl ?_
    rcases Decidable.em (xx.toInt ≠ xy.toInt) with q2083 | q2083
    ·
      refine y_cT (c := .ne) (off := 5) (pc' := 18) (len := 3) (r := (0, 0, 0, 0)) (by decide +kernel) (acmpT (c := .ne) (by show ¬ (_ = _); omega)) (by decide +kernel) ?_
      refine y_same (i := .aload_n 0) (len := 1) (r := (0, 0, 0, 0)) (pc' := 19) (ls' := [some (.inl (some A)), some (zi xx), some (zi xy), none, none]) (st' := [.inl (some A)]) (by decide +kernel) (fun k q => by cases q) rfl ?_
      refine y_same (i := .iload_n 1) (len := 1) (r := (0, 0, 0, 0)) (pc' := 20) (ls' := [some (.inl (some A)), some (zi xx), some (zi xy), none, none]) (st' := [zi xx, .inl (some A)]) (by decide +kernel) (fun k q => by cases q) rfl ?_
      refine y_ic (c := 0) (len := 1) (r := (0, 0, 0, 0)) (by decide +kernel) (by decide) (fun y2084 hy2084 => ?_)
      refine y_cI (i := .invokestatic 276) (len := 3) (r := (1, 211, 12, 1712)) (nL := 4) (k := 1) (n := 3) (hs := []) (args := [.inl (some A), zi xx, zi y2084]) (rest := []) (l0 := [some (.inl (some A)), some (zi xx), some (zi y2084), none]) (by decide +kernel) (Or.inl ⟨_, rfl⟩) rfl rfl rfl rfl (Nat.le_of_ble_eq_true rfl) rfl rfl (qI_le (by omega) (m_cat (d := 0) (x := (x : Int)) (f := 0) Q (by omega) (by omega))) (fun y2085 qy2085 hRy2085 => ?_)
      obtain ⟨rfl, hDy2085⟩ := hRy2085
      rcases hDy2085 with ⟨ky2085, qy2085, vy2085, fy2085, gy2085, cy2085, xy2085⟩ | ⟨vy2085, ny2085⟩
      ·
        refine y_ic (c := (-1)) (len := 1) (r := (0, 0, 0, 0)) (by decide +kernel) (by decide) (fun y2086 hy2086 => ?_)
        refine y_cF (c := .eq) (off := 7) (len := 3) (r := (0, 0, 0, 0)) (by decide +kernel) (acmpF (c := .eq) (by show ¬ (_ = _); omega)) ?_
        refine y_ic (c := 1) (len := 1) (r := (0, 0, 0, 0)) (by decide +kernel) (by decide) (fun y2087 hy2087 => ?_)
        refine y_goto (off := 4) (pc' := 33) (len := 3) (r := (0, 0, 0, 0)) (by decide +kernel) (by decide +kernel) ?_
        refine y_same (i := .istore_n 3) (len := 1) (r := (0, 0, 0, 0)) (pc' := 34) (ls' := [some (.inl (some A)), some (zi xx), some (zi xy), some (zi y2087), none]) (st' := []) (by decide +kernel) (fun k q => by cases q) rfl ?_
        refine y_same (i := .aload_n 0) (len := 1) (r := (0, 0, 0, 0)) (pc' := 35) (ls' := [some (.inl (some A)), some (zi xx), some (zi xy), some (zi y2087), none]) (st' := [.inl (some A)]) (by decide +kernel) (fun k q => by cases q) rfl ?_
        refine y_same (i := .iload_n 2) (len := 1) (r := (0, 0, 0, 0)) (pc' := 36) (ls' := [some (.inl (some A)), some (zi xx), some (zi xy), some (zi y2087), none]) (st' := [zi xy, .inl (some A)]) (by decide +kernel) (fun k q => by cases q) rfl ?_
        refine y_ic (c := 0) (len := 1) (r := (0, 0, 0, 0)) (by decide +kernel) (by decide) (fun y2088 hy2088 => ?_)
        refine y_cI (i := .invokestatic 276) (len := 3) (r := (1, 211, 12, 1712)) (nL := 4) (k := 1) (n := 3) (hs := []) (args := [.inl (some A), zi xy, zi y2088]) (rest := []) (l0 := [some (.inl (some A)), some (zi xy), some (zi y2088), none]) (by decide +kernel) (Or.inl ⟨_, rfl⟩) rfl rfl rfl rfl (Nat.le_of_ble_eq_true rfl) rfl rfl (qI_le (by omega) (m_cat (d := 0) (x := (y : Int)) (f := 0) Q (by omega) (by omega))) (fun y2089 qy2089 hRy2089 => ?_)
        obtain ⟨rfl, hDy2089⟩ := hRy2089
        rcases hDy2089 with ⟨ky2089, qy2089, vy2089, fy2089, gy2089, cy2089, xy2089⟩ | ⟨vy2089, ny2089⟩
        ·
          refine y_ic (c := (-1)) (len := 1) (r := (0, 0, 0, 0)) (by decide +kernel) (by decide) (fun y2090 hy2090 => ?_)
          refine y_cF (c := .eq) (off := 7) (len := 3) (r := (0, 0, 0, 0)) (by decide +kernel) (acmpF (c := .eq) (by show ¬ (_ = _); omega)) ?_
          refine y_ic (c := 1) (len := 1) (r := (0, 0, 0, 0)) (by decide +kernel) (by decide) (fun y2091 hy2091 => ?_)
          refine y_goto (off := 4) (pc' := 49) (len := 3) (r := (0, 0, 0, 0)) (by decide +kernel) (by decide +kernel) ?_
          refine y_same (i := .istore 4) (len := 2) (r := (0, 0, 0, 0)) (pc' := 51) (ls' := [some (.inl (some A)), some (zi xx), some (zi xy), some (zi y2087), some (zi y2091)]) (st' := []) (by decide +kernel) (fun k q => by cases q) rfl ?_
          refine y_same (i := .iload_n 1) (len := 1) (r := (0, 0, 0, 0)) (pc' := 52) (ls' := [some (.inl (some A)), some (zi xx), some (zi xy), some (zi y2087), some (zi y2091)]) (st' := [zi xx]) (by decide +kernel) (fun k q => by cases q) rfl ?_
          rcases Decidable.em (xx.toInt = 0) with q2092 | q2092
          ·
            refine y_iT (c := .eq) (off := 7) (pc' := 59) (len := 3) (r := (0, 0, 0, 0)) (by decide +kernel) (acmpT (c := .eq) (by show _ = _; omega)) (by decide +kernel) ?_
            refine y_same (i := .iload_n 2) (len := 1) (r := (0, 0, 0, 0)) (pc' := 60) (ls' := [some (.inl (some A)), some (zi xx), some (zi xy), some (zi y2087), some (zi y2091)]) (st' := [zi xy]) (by decide +kernel) (fun k q => by cases q) rfl ?_
            rcases Decidable.em (xy.toInt = 0) with q2093 | q2093
            ·
              refine y_iT (c := .eq) (off := 8) (pc' := 68) (len := 3) (r := (0, 0, 0, 0)) (by decide +kernel) (acmpT (c := .eq) (by show _ = _; omega)) (by decide +kernel) ?_
              refine y_same (i := .iload_n 3) (len := 1) (r := (0, 0, 0, 0)) (pc' := 69) (ls' := [some (.inl (some A)), some (zi xx), some (zi xy), some (zi y2087), some (zi y2091)]) (st' := [zi y2087]) (by decide +kernel) (fun k q => by cases q) rfl ?_
              refine y_iT (c := .ne) (off := 8) (pc' := 77) (len := 3) (r := (0, 0, 0, 0)) (by decide +kernel) (acmpT (c := .ne) (by show ¬ (_ = _); omega)) (by decide +kernel) ?_
              refine y_ic (c := 1) (len := 1) (r := (0, 0, 0, 0)) (by decide +kernel) (by decide) (fun y2094 hy2094 => ?_)
              refine y_goto (off := 4) (pc' := 82) (len := 3) (r := (0, 0, 0, 0)) (by decide +kernel) (by decide +kernel) ?_
              refine y_rI (len := 1) (r := (0, 0, 0, 0)) (nL := 5) (k := 2) (n9 := 3) (hs := []) (by decide +kernel) rfl (zfit_b (by omega) (by omega)).2 ?_
              exact ⟨rfl, Or.inl ⟨by omega, Or.inr ⟨by omega, (Or.inr ⟨qy2085, List.mem_of_getElem? gy2085, cy2085, xy2085⟩), (Or.inr ⟨qy2089, List.mem_of_getElem? gy2089, cy2089, xy2089⟩)⟩⟩⟩
            ·
              refine y_iF (c := .eq) (off := 8) (len := 3) (r := (0, 0, 0, 0)) (by decide +kernel) (acmpF (c := .eq) (by show ¬ (_ = _); omega)) ?_
              refine y_same (i := .iload 4) (len := 2) (r := (0, 0, 0, 0)) (pc' := 65) (ls' := [some (.inl (some A)), some (zi xx), some (zi xy), some (zi y2087), some (zi y2091)]) (st' := [zi y2091]) (by decide +kernel) (fun k q => by cases q) rfl ?_
              refine y_iF (c := .eq) (off := 16) (len := 3) (r := (0, 0, 0, 0)) (by decide +kernel) (acmpF (c := .eq) (by show ¬ (_ = _); omega)) ?_
              refine y_same (i := .iload_n 3) (len := 1) (r := (0, 0, 0, 0)) (pc' := 69) (ls' := [some (.inl (some A)), some (zi xx), some (zi xy), some (zi y2087), some (zi y2091)]) (st' := [zi y2087]) (by decide +kernel) (fun k q => by cases q) rfl ?_
              refine y_iT (c := .ne) (off := 8) (pc' := 77) (len := 3) (r := (0, 0, 0, 0)) (by decide +kernel) (acmpT (c := .ne) (by show ¬ (_ = _); omega)) (by decide +kernel) ?_
              refine y_ic (c := 1) (len := 1) (r := (0, 0, 0, 0)) (by decide +kernel) (by decide) (fun y2095 hy2095 => ?_)
              refine y_goto (off := 4) (pc' := 82) (len := 3) (r := (0, 0, 0, 0)) (by decide +kernel) (by decide +kernel) ?_
              refine y_rI (len := 1) (r := (0, 0, 0, 0)) (nL := 5) (k := 2) (n9 := 3) (hs := []) (by decide +kernel) rfl (zfit_b (by omega) (by omega)).2 ?_
              exact ⟨rfl, Or.inl ⟨by omega, Or.inr ⟨by omega, (Or.inr ⟨qy2085, List.mem_of_getElem? gy2085, cy2085, xy2085⟩), (Or.inr ⟨qy2089, List.mem_of_getElem? gy2089, cy2089, xy2089⟩)⟩⟩⟩
          ·
            refine y_iF (c := .eq) (off := 7) (len := 3) (r := (0, 0, 0, 0)) (by decide +kernel) (acmpF (c := .eq) (by show ¬ (_ = _); omega)) ?_
            refine y_same (i := .iload_n 3) (len := 1) (r := (0, 0, 0, 0)) (pc' := 56) (ls' := [some (.inl (some A)), some (zi xx), some (zi xy), some (zi y2087), some (zi y2091)]) (st' := [zi y2087]) (by decide +kernel) (fun k q => by cases q) rfl ?_
            refine y_iF (c := .eq) (off := 25) (len := 3) (r := (0, 0, 0, 0)) (by decide +kernel) (acmpF (c := .eq) (by show ¬ (_ = _); omega)) ?_
            refine y_same (i := .iload_n 2) (len := 1) (r := (0, 0, 0, 0)) (pc' := 60) (ls' := [some (.inl (some A)), some (zi xx), some (zi xy), some (zi y2087), some (zi y2091)]) (st' := [zi xy]) (by decide +kernel) (fun k q => by cases q) rfl ?_
            rcases Decidable.em (xy.toInt = 0) with q2096 | q2096
            ·
              refine y_iT (c := .eq) (off := 8) (pc' := 68) (len := 3) (r := (0, 0, 0, 0)) (by decide +kernel) (acmpT (c := .eq) (by show _ = _; omega)) (by decide +kernel) ?_
              refine y_same (i := .iload_n 3) (len := 1) (r := (0, 0, 0, 0)) (pc' := 69) (ls' := [some (.inl (some A)), some (zi xx), some (zi xy), some (zi y2087), some (zi y2091)]) (st' := [zi y2087]) (by decide +kernel) (fun k q => by cases q) rfl ?_
              refine y_iT (c := .ne) (off := 8) (pc' := 77) (len := 3) (r := (0, 0, 0, 0)) (by decide +kernel) (acmpT (c := .ne) (by show ¬ (_ = _); omega)) (by decide +kernel) ?_
              refine y_ic (c := 1) (len := 1) (r := (0, 0, 0, 0)) (by decide +kernel) (by decide) (fun y2097 hy2097 => ?_)
              refine y_goto (off := 4) (pc' := 82) (len := 3) (r := (0, 0, 0, 0)) (by decide +kernel) (by decide +kernel) ?_
              refine y_rI (len := 1) (r := (0, 0, 0, 0)) (nL := 5) (k := 2) (n9 := 3) (hs := []) (by decide +kernel) rfl (zfit_b (by omega) (by omega)).2 ?_
              exact ⟨rfl, Or.inl ⟨by omega, Or.inr ⟨by omega, (Or.inr ⟨qy2085, List.mem_of_getElem? gy2085, cy2085, xy2085⟩), (Or.inr ⟨qy2089, List.mem_of_getElem? gy2089, cy2089, xy2089⟩)⟩⟩⟩
            ·
              refine y_iF (c := .eq) (off := 8) (len := 3) (r := (0, 0, 0, 0)) (by decide +kernel) (acmpF (c := .eq) (by show ¬ (_ = _); omega)) ?_
              refine y_same (i := .iload 4) (len := 2) (r := (0, 0, 0, 0)) (pc' := 65) (ls' := [some (.inl (some A)), some (zi xx), some (zi xy), some (zi y2087), some (zi y2091)]) (st' := [zi y2091]) (by decide +kernel) (fun k q => by cases q) rfl ?_
              refine y_iF (c := .eq) (off := 16) (len := 3) (r := (0, 0, 0, 0)) (by decide +kernel) (acmpF (c := .eq) (by show ¬ (_ = _); omega)) ?_
              refine y_same (i := .iload_n 3) (len := 1) (r := (0, 0, 0, 0)) (pc' := 69) (ls' := [some (.inl (some A)), some (zi xx), some (zi xy), some (zi y2087), some (zi y2091)]) (st' := [zi y2087]) (by decide +kernel) (fun k q => by cases q) rfl ?_
              refine y_iT (c := .ne) (off := 8) (pc' := 77) (len := 3) (r := (0, 0, 0, 0)) (by decide +kernel) (acmpT (c := .ne) (by show ¬ (_ = _); omega)) (by decide +kernel) ?_
              refine y_ic (c := 1) (len := 1) (r := (0, 0, 0, 0)) (by decide +kernel) (by decide) (fun y2098 hy2098 => ?_)
              refine y_goto (off := 4) (pc' := 82) (len := 3) (r := (0, 0, 0, 0)) (by decide +kernel) (by decide +kernel) ?_
              refine y_rI (len := 1) (r := (0, 0, 0, 0)) (nL := 5) (k := 2) (n9 := 3) (hs := []) (by decide +kernel) rfl (zfit_b (by omega) (by omega)).2 ?_
              exact ⟨rfl, Or.inl ⟨by omega, Or.inr ⟨by omega, (Or.inr ⟨qy2085, List.mem_of_getElem? gy2085, cy2085, xy2085⟩), (Or.inr ⟨qy2089, List.mem_of_getElem? gy2089, cy2089, xy2089⟩)⟩⟩⟩
        ·
          refine y_ic (c := (-1)) (len := 1) (r := (0, 0, 0, 0)) (by decide +kernel) (by decide) (fun y2099 hy2099 => ?_)
          refine y_cT (c := .eq) (off := 7) (pc' := 48) (len := 3) (r := (0, 0, 0, 0)) (by decide +kernel) (acmpT (c := .eq) (by show _ = _; omega)) (by decide +kernel) ?_
          refine y_ic (c := 0) (len := 1) (r := (0, 0, 0, 0)) (by decide +kernel) (by decide) (fun y2100 hy2100 => ?_)
          refine y_same (i := .istore 4) (len := 2) (r := (0, 0, 0, 0)) (pc' := 51) (ls' := [some (.inl (some A)), some (zi xx), some (zi xy), some (zi y2087), some (zi y2100)]) (st' := []) (by decide +kernel) (fun k q => by cases q) rfl ?_
          refine y_same (i := .iload_n 1) (len := 1) (r := (0, 0, 0, 0)) (pc' := 52) (ls' := [some (.inl (some A)), some (zi xx), some (zi xy), some (zi y2087), some (zi y2100)]) (st' := [zi xx]) (by decide +kernel) (fun k q => by cases q) rfl ?_
          rcases Decidable.em (xx.toInt = 0) with q2101 | q2101
          ·
            refine y_iT (c := .eq) (off := 7) (pc' := 59) (len := 3) (r := (0, 0, 0, 0)) (by decide +kernel) (acmpT (c := .eq) (by show _ = _; omega)) (by decide +kernel) ?_
            refine y_same (i := .iload_n 2) (len := 1) (r := (0, 0, 0, 0)) (pc' := 60) (ls' := [some (.inl (some A)), some (zi xx), some (zi xy), some (zi y2087), some (zi y2100)]) (st' := [zi xy]) (by decide +kernel) (fun k q => by cases q) rfl ?_
            rcases Decidable.em (xy.toInt = 0) with q2102 | q2102
            ·
              refine y_iT (c := .eq) (off := 8) (pc' := 68) (len := 3) (r := (0, 0, 0, 0)) (by decide +kernel) (acmpT (c := .eq) (by show _ = _; omega)) (by decide +kernel) ?_
              refine y_same (i := .iload_n 3) (len := 1) (r := (0, 0, 0, 0)) (pc' := 69) (ls' := [some (.inl (some A)), some (zi xx), some (zi xy), some (zi y2087), some (zi y2100)]) (st' := [zi y2087]) (by decide +kernel) (fun k q => by cases q) rfl ?_
              refine y_iT (c := .ne) (off := 8) (pc' := 77) (len := 3) (r := (0, 0, 0, 0)) (by decide +kernel) (acmpT (c := .ne) (by show ¬ (_ = _); omega)) (by decide +kernel) ?_
              refine y_ic (c := 1) (len := 1) (r := (0, 0, 0, 0)) (by decide +kernel) (by decide) (fun y2103 hy2103 => ?_)
              refine y_goto (off := 4) (pc' := 82) (len := 3) (r := (0, 0, 0, 0)) (by decide +kernel) (by decide +kernel) ?_
              refine y_rI (len := 1) (r := (0, 0, 0, 0)) (nL := 5) (k := 2) (n9 := 3) (hs := []) (by decide +kernel) rfl (zfit_b (by omega) (by omega)).2 ?_
              exact ⟨rfl, Or.inl ⟨by omega, Or.inr ⟨by omega, (Or.inr ⟨qy2085, List.mem_of_getElem? gy2085, cy2085, xy2085⟩), (Or.inl (by omega))⟩⟩⟩
            ·
              refine y_iF (c := .eq) (off := 8) (len := 3) (r := (0, 0, 0, 0)) (by decide +kernel) (acmpF (c := .eq) (by show ¬ (_ = _); omega)) ?_
              refine y_same (i := .iload 4) (len := 2) (r := (0, 0, 0, 0)) (pc' := 65) (ls' := [some (.inl (some A)), some (zi xx), some (zi xy), some (zi y2087), some (zi y2100)]) (st' := [zi y2100]) (by decide +kernel) (fun k q => by cases q) rfl ?_
              refine y_iT (c := .eq) (off := 16) (pc' := 81) (len := 3) (r := (0, 0, 0, 0)) (by decide +kernel) (acmpT (c := .eq) (by show _ = _; omega)) (by decide +kernel) ?_
              refine y_ic (c := 0) (len := 1) (r := (0, 0, 0, 0)) (by decide +kernel) (by decide) (fun y2104 hy2104 => ?_)
              refine y_rI (len := 1) (r := (0, 0, 0, 0)) (nL := 5) (k := 2) (n9 := 3) (hs := []) (by decide +kernel) rfl (zfit_b (by omega) (by omega)).2 ?_
              refine ⟨rfl, Or.inr ⟨by omega, fun q9 => q9.elim ty2081 (fun q8 => ?_)⟩⟩
              obtain ⟨q7, q6, q5⟩ := q8
              have zy2089 := q5.elim (fun e => e) (fun ⟨q, m, k1, k2⟩ => by obtain ⟨j9, hj9⟩ := List.getElem?_of_mem m; exact (ny2089 j9 q (Nat.zero_le _) hj9 k1 k2).elim)
              omega
          ·
            refine y_iF (c := .eq) (off := 7) (len := 3) (r := (0, 0, 0, 0)) (by decide +kernel) (acmpF (c := .eq) (by show ¬ (_ = _); omega)) ?_
            refine y_same (i := .iload_n 3) (len := 1) (r := (0, 0, 0, 0)) (pc' := 56) (ls' := [some (.inl (some A)), some (zi xx), some (zi xy), some (zi y2087), some (zi y2100)]) (st' := [zi y2087]) (by decide +kernel) (fun k q => by cases q) rfl ?_
            refine y_iF (c := .eq) (off := 25) (len := 3) (r := (0, 0, 0, 0)) (by decide +kernel) (acmpF (c := .eq) (by show ¬ (_ = _); omega)) ?_
            refine y_same (i := .iload_n 2) (len := 1) (r := (0, 0, 0, 0)) (pc' := 60) (ls' := [some (.inl (some A)), some (zi xx), some (zi xy), some (zi y2087), some (zi y2100)]) (st' := [zi xy]) (by decide +kernel) (fun k q => by cases q) rfl ?_
            rcases Decidable.em (xy.toInt = 0) with q2105 | q2105
            ·
              refine y_iT (c := .eq) (off := 8) (pc' := 68) (len := 3) (r := (0, 0, 0, 0)) (by decide +kernel) (acmpT (c := .eq) (by show _ = _; omega)) (by decide +kernel) ?_
              refine y_same (i := .iload_n 3) (len := 1) (r := (0, 0, 0, 0)) (pc' := 69) (ls' := [some (.inl (some A)), some (zi xx), some (zi xy), some (zi y2087), some (zi y2100)]) (st' := [zi y2087]) (by decide +kernel) (fun k q => by cases q) rfl ?_
              refine y_iT (c := .ne) (off := 8) (pc' := 77) (len := 3) (r := (0, 0, 0, 0)) (by decide +kernel) (acmpT (c := .ne) (by show ¬ (_ = _); omega)) (by decide +kernel) ?_
              refine y_ic (c := 1) (len := 1) (r := (0, 0, 0, 0)) (by decide +kernel) (by decide) (fun y2106 hy2106 => ?_)
              refine y_goto (off := 4) (pc' := 82) (len := 3) (r := (0, 0, 0, 0)) (by decide +kernel) (by decide +kernel) ?_
              refine y_rI (len := 1) (r := (0, 0, 0, 0)) (nL := 5) (k := 2) (n9 := 3) (hs := []) (by decide +kernel) rfl (zfit_b (by omega) (by omega)).2 ?_
              exact ⟨rfl, Or.inl ⟨by omega, Or.inr ⟨by omega, (Or.inr ⟨qy2085, List.mem_of_getElem? gy2085, cy2085, xy2085⟩), (Or.inl (by omega))⟩⟩⟩
            ·
              refine y_iF (c := .eq) (off := 8) (len := 3) (r := (0, 0, 0, 0)) (by decide +kernel) (acmpF (c := .eq) (by show ¬ (_ = _); omega)) ?_
              refine y_same (i := .iload 4) (len := 2) (r := (0, 0, 0, 0)) (pc' := 65) (ls' := [some (.inl (some A)), some (zi xx), some (zi xy), some (zi y2087), some (zi y2100)]) (st' := [zi y2100]) (by decide +kernel) (fun k q => by cases q) rfl ?_
              refine y_iT (c := .eq) (off := 16) (pc' := 81) (len := 3) (r := (0, 0, 0, 0)) (by decide +kernel) (acmpT (c := .eq) (by show _ = _; omega)) (by decide +kernel) ?_
              refine y_ic (c := 0) (len := 1) (r := (0, 0, 0, 0)) (by decide +kernel) (by decide) (fun y2107 hy2107 => ?_)
              refine y_rI (len := 1) (r := (0, 0, 0, 0)) (nL := 5) (k := 2) (n9 := 3) (hs := []) (by decide +kernel) rfl (zfit_b (by omega) (by omega)).2 ?_
              refine ⟨rfl, Or.inr ⟨by omega, fun q9 => q9.elim ty2081 (fun q8 => ?_)⟩⟩
              obtain ⟨q7, q6, q5⟩ := q8
              have zy2089 := q5.elim (fun e => e) (fun ⟨q, m, k1, k2⟩ => by obtain ⟨j9, hj9⟩ := List.getElem?_of_mem m; exact (ny2089 j9 q (Nat.zero_le _) hj9 k1 k2).elim)
              omega
      ·
        refine y_ic (c := (-1)) (len := 1) (r := (0, 0, 0, 0)) (by decide +kernel) (by decide) (fun y2108 hy2108 => ?_)
        refine y_cT (c := .eq) (off := 7) (pc' := 32) (len := 3) (r := (0, 0, 0, 0)) (by decide +kernel) (acmpT (c := .eq) (by show _ = _; omega)) (by decide +kernel) ?_
        refine y_ic (c := 0) (len := 1) (r := (0, 0, 0, 0)) (by decide +kernel) (by decide) (fun y2109 hy2109 => ?_)
        refine y_same (i := .istore_n 3) (len := 1) (r := (0, 0, 0, 0)) (pc' := 34) (ls' := [some (.inl (some A)), some (zi xx), some (zi xy), some (zi y2109), none]) (st' := []) (by decide +kernel) (fun k q => by cases q) rfl ?_
        refine y_same (i := .aload_n 0) (len := 1) (r := (0, 0, 0, 0)) (pc' := 35) (ls' := [some (.inl (some A)), some (zi xx), some (zi xy), some (zi y2109), none]) (st' := [.inl (some A)]) (by decide +kernel) (fun k q => by cases q) rfl ?_
        refine y_same (i := .iload_n 2) (len := 1) (r := (0, 0, 0, 0)) (pc' := 36) (ls' := [some (.inl (some A)), some (zi xx), some (zi xy), some (zi y2109), none]) (st' := [zi xy, .inl (some A)]) (by decide +kernel) (fun k q => by cases q) rfl ?_
        refine y_ic (c := 0) (len := 1) (r := (0, 0, 0, 0)) (by decide +kernel) (by decide) (fun y2110 hy2110 => ?_)
        refine y_cI (i := .invokestatic 276) (len := 3) (r := (1, 211, 12, 1712)) (nL := 4) (k := 1) (n := 3) (hs := []) (args := [.inl (some A), zi xy, zi y2110]) (rest := []) (l0 := [some (.inl (some A)), some (zi xy), some (zi y2110), none]) (by decide +kernel) (Or.inl ⟨_, rfl⟩) rfl rfl rfl rfl (Nat.le_of_ble_eq_true rfl) rfl rfl (qI_le (by omega) (m_cat (d := 0) (x := (y : Int)) (f := 0) Q (by omega) (by omega))) (fun y2111 qy2111 hRy2111 => ?_)
        obtain ⟨rfl, hDy2111⟩ := hRy2111
        rcases hDy2111 with ⟨ky2111, qy2111, vy2111, fy2111, gy2111, cy2111, xy2111⟩ | ⟨vy2111, ny2111⟩
        ·
          refine y_ic (c := (-1)) (len := 1) (r := (0, 0, 0, 0)) (by decide +kernel) (by decide) (fun y2112 hy2112 => ?_)
          refine y_cF (c := .eq) (off := 7) (len := 3) (r := (0, 0, 0, 0)) (by decide +kernel) (acmpF (c := .eq) (by show ¬ (_ = _); omega)) ?_
          refine y_ic (c := 1) (len := 1) (r := (0, 0, 0, 0)) (by decide +kernel) (by decide) (fun y2113 hy2113 => ?_)
          refine y_goto (off := 4) (pc' := 49) (len := 3) (r := (0, 0, 0, 0)) (by decide +kernel) (by decide +kernel) ?_
          refine y_same (i := .istore 4) (len := 2) (r := (0, 0, 0, 0)) (pc' := 51) (ls' := [some (.inl (some A)), some (zi xx), some (zi xy), some (zi y2109), some (zi y2113)]) (st' := []) (by decide +kernel) (fun k q => by cases q) rfl ?_
          refine y_same (i := .iload_n 1) (len := 1) (r := (0, 0, 0, 0)) (pc' := 52) (ls' := [some (.inl (some A)), some (zi xx), some (zi xy), some (zi y2109), some (zi y2113)]) (st' := [zi xx]) (by decide +kernel) (fun k q => by cases q) rfl ?_
          rcases Decidable.em (xx.toInt = 0) with q2114 | q2114
          ·
            refine y_iT (c := .eq) (off := 7) (pc' := 59) (len := 3) (r := (0, 0, 0, 0)) (by decide +kernel) (acmpT (c := .eq) (by show _ = _; omega)) (by decide +kernel) ?_
            refine y_same (i := .iload_n 2) (len := 1) (r := (0, 0, 0, 0)) (pc' := 60) (ls' := [some (.inl (some A)), some (zi xx), some (zi xy), some (zi y2109), some (zi y2113)]) (st' := [zi xy]) (by decide +kernel) (fun k q => by cases q) rfl ?_
            rcases Decidable.em (xy.toInt = 0) with q2115 | q2115
            ·
              refine y_iT (c := .eq) (off := 8) (pc' := 68) (len := 3) (r := (0, 0, 0, 0)) (by decide +kernel) (acmpT (c := .eq) (by show _ = _; omega)) (by decide +kernel) ?_
              refine y_same (i := .iload_n 3) (len := 1) (r := (0, 0, 0, 0)) (pc' := 69) (ls' := [some (.inl (some A)), some (zi xx), some (zi xy), some (zi y2109), some (zi y2113)]) (st' := [zi y2109]) (by decide +kernel) (fun k q => by cases q) rfl ?_
              refine y_iF (c := .ne) (off := 8) (len := 3) (r := (0, 0, 0, 0)) (by decide +kernel) (acmpF (c := .ne) (by show _ = _; omega)) ?_
              refine y_same (i := .iload 4) (len := 2) (r := (0, 0, 0, 0)) (pc' := 74) (ls' := [some (.inl (some A)), some (zi xx), some (zi xy), some (zi y2109), some (zi y2113)]) (st' := [zi y2113]) (by decide +kernel) (fun k q => by cases q) rfl ?_
              refine y_iF (c := .eq) (off := 7) (len := 3) (r := (0, 0, 0, 0)) (by decide +kernel) (acmpF (c := .eq) (by show ¬ (_ = _); omega)) ?_
              refine y_ic (c := 1) (len := 1) (r := (0, 0, 0, 0)) (by decide +kernel) (by decide) (fun y2116 hy2116 => ?_)
              refine y_goto (off := 4) (pc' := 82) (len := 3) (r := (0, 0, 0, 0)) (by decide +kernel) (by decide +kernel) ?_
              refine y_rI (len := 1) (r := (0, 0, 0, 0)) (nL := 5) (k := 2) (n9 := 3) (hs := []) (by decide +kernel) rfl (zfit_b (by omega) (by omega)).2 ?_
              exact ⟨rfl, Or.inl ⟨by omega, Or.inr ⟨by omega, (Or.inl (by omega)), (Or.inr ⟨qy2111, List.mem_of_getElem? gy2111, cy2111, xy2111⟩)⟩⟩⟩
            ·
              refine y_iF (c := .eq) (off := 8) (len := 3) (r := (0, 0, 0, 0)) (by decide +kernel) (acmpF (c := .eq) (by show ¬ (_ = _); omega)) ?_
              refine y_same (i := .iload 4) (len := 2) (r := (0, 0, 0, 0)) (pc' := 65) (ls' := [some (.inl (some A)), some (zi xx), some (zi xy), some (zi y2109), some (zi y2113)]) (st' := [zi y2113]) (by decide +kernel) (fun k q => by cases q) rfl ?_
              refine y_iF (c := .eq) (off := 16) (len := 3) (r := (0, 0, 0, 0)) (by decide +kernel) (acmpF (c := .eq) (by show ¬ (_ = _); omega)) ?_
              refine y_same (i := .iload_n 3) (len := 1) (r := (0, 0, 0, 0)) (pc' := 69) (ls' := [some (.inl (some A)), some (zi xx), some (zi xy), some (zi y2109), some (zi y2113)]) (st' := [zi y2109]) (by decide +kernel) (fun k q => by cases q) rfl ?_
              refine y_iF (c := .ne) (off := 8) (len := 3) (r := (0, 0, 0, 0)) (by decide +kernel) (acmpF (c := .ne) (by show _ = _; omega)) ?_
              refine y_same (i := .iload 4) (len := 2) (r := (0, 0, 0, 0)) (pc' := 74) (ls' := [some (.inl (some A)), some (zi xx), some (zi xy), some (zi y2109), some (zi y2113)]) (st' := [zi y2113]) (by decide +kernel) (fun k q => by cases q) rfl ?_
              refine y_iF (c := .eq) (off := 7) (len := 3) (r := (0, 0, 0, 0)) (by decide +kernel) (acmpF (c := .eq) (by show ¬ (_ = _); omega)) ?_
              refine y_ic (c := 1) (len := 1) (r := (0, 0, 0, 0)) (by decide +kernel) (by decide) (fun y2117 hy2117 => ?_)
              refine y_goto (off := 4) (pc' := 82) (len := 3) (r := (0, 0, 0, 0)) (by decide +kernel) (by decide +kernel) ?_
              refine y_rI (len := 1) (r := (0, 0, 0, 0)) (nL := 5) (k := 2) (n9 := 3) (hs := []) (by decide +kernel) rfl (zfit_b (by omega) (by omega)).2 ?_
              exact ⟨rfl, Or.inl ⟨by omega, Or.inr ⟨by omega, (Or.inl (by omega)), (Or.inr ⟨qy2111, List.mem_of_getElem? gy2111, cy2111, xy2111⟩)⟩⟩⟩
          ·
            refine y_iF (c := .eq) (off := 7) (len := 3) (r := (0, 0, 0, 0)) (by decide +kernel) (acmpF (c := .eq) (by show ¬ (_ = _); omega)) ?_
            refine y_same (i := .iload_n 3) (len := 1) (r := (0, 0, 0, 0)) (pc' := 56) (ls' := [some (.inl (some A)), some (zi xx), some (zi xy), some (zi y2109), some (zi y2113)]) (st' := [zi y2109]) (by decide +kernel) (fun k q => by cases q) rfl ?_
            refine y_iT (c := .eq) (off := 25) (pc' := 81) (len := 3) (r := (0, 0, 0, 0)) (by decide +kernel) (acmpT (c := .eq) (by show _ = _; omega)) (by decide +kernel) ?_
            refine y_ic (c := 0) (len := 1) (r := (0, 0, 0, 0)) (by decide +kernel) (by decide) (fun y2118 hy2118 => ?_)
            refine y_rI (len := 1) (r := (0, 0, 0, 0)) (nL := 5) (k := 2) (n9 := 3) (hs := []) (by decide +kernel) rfl (zfit_b (by omega) (by omega)).2 ?_
            refine ⟨rfl, Or.inr ⟨by omega, fun q9 => q9.elim ty2081 (fun q8 => ?_)⟩⟩
            obtain ⟨q7, q6, q5⟩ := q8
            have zy2085 := q6.elim (fun e => e) (fun ⟨q, m, k1, k2⟩ => by obtain ⟨j9, hj9⟩ := List.getElem?_of_mem m; exact (ny2085 j9 q (Nat.zero_le _) hj9 k1 k2).elim)
            omega
        ·
          refine y_ic (c := (-1)) (len := 1) (r := (0, 0, 0, 0)) (by decide +kernel) (by decide) (fun y2119 hy2119 => ?_)
          refine y_cT (c := .eq) (off := 7) (pc' := 48) (len := 3) (r := (0, 0, 0, 0)) (by decide +kernel) (acmpT (c := .eq) (by show _ = _; omega)) (by decide +kernel) ?_
          refine y_ic (c := 0) (len := 1) (r := (0, 0, 0, 0)) (by decide +kernel) (by decide) (fun y2120 hy2120 => ?_)
          refine y_same (i := .istore 4) (len := 2) (r := (0, 0, 0, 0)) (pc' := 51) (ls' := [some (.inl (some A)), some (zi xx), some (zi xy), some (zi y2109), some (zi y2120)]) (st' := []) (by decide +kernel) (fun k q => by cases q) rfl ?_
          refine y_same (i := .iload_n 1) (len := 1) (r := (0, 0, 0, 0)) (pc' := 52) (ls' := [some (.inl (some A)), some (zi xx), some (zi xy), some (zi y2109), some (zi y2120)]) (st' := [zi xx]) (by decide +kernel) (fun k q => by cases q) rfl ?_
          rcases Decidable.em (xx.toInt = 0) with q2121 | q2121
          ·
            refine y_iT (c := .eq) (off := 7) (pc' := 59) (len := 3) (r := (0, 0, 0, 0)) (by decide +kernel) (acmpT (c := .eq) (by show _ = _; omega)) (by decide +kernel) ?_
            refine y_same (i := .iload_n 2) (len := 1) (r := (0, 0, 0, 0)) (pc' := 60) (ls' := [some (.inl (some A)), some (zi xx), some (zi xy), some (zi y2109), some (zi y2120)]) (st' := [zi xy]) (by decide +kernel) (fun k q => by cases q) rfl ?_
            rcases Decidable.em (xy.toInt = 0) with q2122 | q2122
            ·
              refine y_iT (c := .eq) (off := 8) (pc' := 68) (len := 3) (r := (0, 0, 0, 0)) (by decide +kernel) (acmpT (c := .eq) (by show _ = _; omega)) (by decide +kernel) ?_
              refine y_same (i := .iload_n 3) (len := 1) (r := (0, 0, 0, 0)) (pc' := 69) (ls' := [some (.inl (some A)), some (zi xx), some (zi xy), some (zi y2109), some (zi y2120)]) (st' := [zi y2109]) (by decide +kernel) (fun k q => by cases q) rfl ?_
              refine y_iF (c := .ne) (off := 8) (len := 3) (r := (0, 0, 0, 0)) (by decide +kernel) (acmpF (c := .ne) (by show _ = _; omega)) ?_
              refine y_same (i := .iload 4) (len := 2) (r := (0, 0, 0, 0)) (pc' := 74) (ls' := [some (.inl (some A)), some (zi xx), some (zi xy), some (zi y2109), some (zi y2120)]) (st' := [zi y2120]) (by decide +kernel) (fun k q => by cases q) rfl ?_
              refine y_iT (c := .eq) (off := 7) (pc' := 81) (len := 3) (r := (0, 0, 0, 0)) (by decide +kernel) (acmpT (c := .eq) (by show _ = _; omega)) (by decide +kernel) ?_
              refine y_ic (c := 0) (len := 1) (r := (0, 0, 0, 0)) (by decide +kernel) (by decide) (fun y2123 hy2123 => ?_)
              refine y_rI (len := 1) (r := (0, 0, 0, 0)) (nL := 5) (k := 2) (n9 := 3) (hs := []) (by decide +kernel) rfl (zfit_b (by omega) (by omega)).2 ?_
              refine ⟨rfl, Or.inr ⟨by omega, fun q9 => q9.elim ty2081 (fun q8 => ?_)⟩⟩
              obtain ⟨q7, q6, q5⟩ := q8
              have zy2085 := q6.elim (fun e => e) (fun ⟨q, m, k1, k2⟩ => by obtain ⟨j9, hj9⟩ := List.getElem?_of_mem m; exact (ny2085 j9 q (Nat.zero_le _) hj9 k1 k2).elim)
              have zy2111 := q5.elim (fun e => e) (fun ⟨q, m, k1, k2⟩ => by obtain ⟨j9, hj9⟩ := List.getElem?_of_mem m; exact (ny2111 j9 q (Nat.zero_le _) hj9 k1 k2).elim)
              omega
            ·
              refine y_iF (c := .eq) (off := 8) (len := 3) (r := (0, 0, 0, 0)) (by decide +kernel) (acmpF (c := .eq) (by show ¬ (_ = _); omega)) ?_
              refine y_same (i := .iload 4) (len := 2) (r := (0, 0, 0, 0)) (pc' := 65) (ls' := [some (.inl (some A)), some (zi xx), some (zi xy), some (zi y2109), some (zi y2120)]) (st' := [zi y2120]) (by decide +kernel) (fun k q => by cases q) rfl ?_
              refine y_iT (c := .eq) (off := 16) (pc' := 81) (len := 3) (r := (0, 0, 0, 0)) (by decide +kernel) (acmpT (c := .eq) (by show _ = _; omega)) (by decide +kernel) ?_
              refine y_ic (c := 0) (len := 1) (r := (0, 0, 0, 0)) (by decide +kernel) (by decide) (fun y2124 hy2124 => ?_)
              refine y_rI (len := 1) (r := (0, 0, 0, 0)) (nL := 5) (k := 2) (n9 := 3) (hs := []) (by decide +kernel) rfl (zfit_b (by omega) (by omega)).2 ?_
              refine ⟨rfl, Or.inr ⟨by omega, fun q9 => q9.elim ty2081 (fun q8 => ?_)⟩⟩
              obtain ⟨q7, q6, q5⟩ := q8
              have zy2085 := q6.elim (fun e => e) (fun ⟨q, m, k1, k2⟩ => by obtain ⟨j9, hj9⟩ := List.getElem?_of_mem m; exact (ny2085 j9 q (Nat.zero_le _) hj9 k1 k2).elim)
              have zy2111 := q5.elim (fun e => e) (fun ⟨q, m, k1, k2⟩ => by obtain ⟨j9, hj9⟩ := List.getElem?_of_mem m; exact (ny2111 j9 q (Nat.zero_le _) hj9 k1 k2).elim)
              omega
          ·
            refine y_iF (c := .eq) (off := 7) (len := 3) (r := (0, 0, 0, 0)) (by decide +kernel) (acmpF (c := .eq) (by show ¬ (_ = _); omega)) ?_
            refine y_same (i := .iload_n 3) (len := 1) (r := (0, 0, 0, 0)) (pc' := 56) (ls' := [some (.inl (some A)), some (zi xx), some (zi xy), some (zi y2109), some (zi y2120)]) (st' := [zi y2109]) (by decide +kernel) (fun k q => by cases q) rfl ?_
            refine y_iT (c := .eq) (off := 25) (pc' := 81) (len := 3) (r := (0, 0, 0, 0)) (by decide +kernel) (acmpT (c := .eq) (by show _ = _; omega)) (by decide +kernel) ?_
            refine y_ic (c := 0) (len := 1) (r := (0, 0, 0, 0)) (by decide +kernel) (by decide) (fun y2125 hy2125 => ?_)
            refine y_rI (len := 1) (r := (0, 0, 0, 0)) (nL := 5) (k := 2) (n9 := 3) (hs := []) (by decide +kernel) rfl (zfit_b (by omega) (by omega)).2 ?_
            refine ⟨rfl, Or.inr ⟨by omega, fun q9 => q9.elim ty2081 (fun q8 => ?_)⟩⟩
            obtain ⟨q7, q6, q5⟩ := q8
            have zy2085 := q6.elim (fun e => e) (fun ⟨q, m, k1, k2⟩ => by obtain ⟨j9, hj9⟩ := List.getElem?_of_mem m; exact (ny2085 j9 q (Nat.zero_le _) hj9 k1 k2).elim)
            have zy2111 := q5.elim (fun e => e) (fun ⟨q, m, k1, k2⟩ => by obtain ⟨j9, hj9⟩ := List.getElem?_of_mem m; exact (ny2111 j9 q (Nat.zero_le _) hj9 k1 k2).elim)
            omega
    ·
      refine y_cF (c := .ne) (off := 5) (len := 3) (r := (0, 0, 0, 0)) (by decide +kernel) (acmpF (c := .ne) (by show _ = _; omega)) ?_
      refine y_ic (c := 0) (len := 1) (r := (0, 0, 0, 0)) (by decide +kernel) (by decide) (fun y2126 hy2126 => ?_)
      refine y_rI (len := 1) (r := (0, 0, 0, 0)) (nL := 5) (k := 2) (n9 := 3) (hs := []) (by decide +kernel) rfl (zfit_b (by omega) (by omega)).2 ?_
      exact ⟨rfl, Or.inr ⟨by omega, fun q9 => q9.elim ty2081 (fun q8 => q8.1 (by omega))⟩⟩
theorem m_kn {d t A : Nat} {τ : List Nat} {h : zh} {s : sqT} (Q : QM τ h A s) {x y : Int} {xx xy : Int32} (exx : xx.toInt = x) (hx : 0 ≤ x ∧ x ≤ 20) (exy : xy.toInt = y) (hy : 0 ≤ y ∧ y ≤ 20) : qI (d + 3) 212 [some (.inl (some A)), some (zi xx), some (zi xy), none, none] h t (fun z h1 => h = h1 ∧ ((z.toInt = 1 ∧ kn s.1 s.2.2.2 x y) ∨ (z.toInt = 0 ∧ ¬ kn s.1 s.2.2.2 x y))) := by
  obtain ⟨m, rfl⟩ := Int.eq_ofNat_of_zero_le hx.1
  obtain ⟨n, rfl⟩ := Int.eq_ofNat_of_zero_le hy.1
  exact m_knN Q exx (by omega) exy (by omega)
theorem vd_nM {s : sqT} (ok : okQ s) (hD : ∀ a, ¬ s.2.2.2 a a) (h0 : ∀ p ∈ s.1, p.1 ≤ 1 → p.2.1 ≠ 0) (c : ∀ (j : Nat) (q : it4),  s.1[j]? = some q → (q.1 ≤ 1 → ∀ (i : Nat) (p : it4), j < i → s.1[i]? = some p → p.1 ≤ 1 → p.2.1 ≠ q.2.1) ∧ (q.1 = 3 → ∀ p ∈ s.1, p.1 ≤ 1 → p.2.1 ≠ q.2.1)) : ¬ vd_ s := by
  refine vd_no hD (fun j q hj h1 => ⟨h0 q (List.mem_of_getElem? hj) h1, fun i p hn hi h2 e => ?_⟩)
  have op := (ok.1 p (List.mem_of_getElem? hi)).1.1
  by_cases q3 : p.1 = 3
  · exact (c i p hi).2 q3 q (List.mem_of_getElem? hj) h1 e.symm
  · rcases Nat.lt_or_ge i j with l | l
    · exact (c i p hi).1 (by omega) j q l hj h1 e.symm
    · exact (c j q hj).1 h1 i p (by omega) hi (by omega) e
theorem vdm_l {d t A : Nat} {τ : List Nat} {h : zh} {s : sqT} (Q : QM τ h A s) (hD : ∀ a, ¬ s.2.2.2 a a) (h0 : ∀ p ∈ s.1, p.1 ≤ 1 → p.2.1 ≠ 0) : ∀ (n : Nat) (i : Nat) (xi : Int32) (l2 : Option zv), (xi.toInt = (i : Int)) → (i ≤ s.1.length) → (∀ (j : Nat) (q : it4), j < i → s.1[j]? = some q → (q.1 ≤ 1 → ∀ (i : Nat) (p : it4), j < i → s.1[i]? = some p → p.1 ≤ 1 → p.2.1 ≠ q.2.1) ∧ (q.1 = 3 → ∀ p ∈ s.1, p.1 ≤ 1 → p.2.1 ≠ q.2.1)) → (s.1.length < i + n) → qX (d + 2) 213 39 [some (.inl (some A)), some (zi xi), l2] [] h t (rI (fun y h1 => h = h1 ∧ ((y.toInt = 1 ∧ vd_ s) ∨ (y.toInt = 0 ∧ ¬ vd_ s))) t) := by
  intro n
  induction n with
  | zero =>
    intro i xi l2 hxi hi c1 hn
    exfalso
    omega
  | succ n ih =>
    intro i xi l2 hxi hi c1 hn
    obtain ⟨T, c0, tA, aT, hc0, pT⟩ := Q.2.1
    refine y_same (i := .iload_n 1) (len := 1) (r := (0, 0, 0, 0)) (pc' := 40) (ls' := [some (.inl (some A)), some (zi xi), l2]) (st' := [zi xi]) (by decide +kernel) (fun k q => by cases q) rfl ?_
    refine y_same (i := .aload_n 0) (len := 1) (r := (0, 0, 0, 0)) (pc' := 41) (ls' := [some (.inl (some A)), some (zi xi), l2]) (st' := [.inl (some A), zi xi]) (by decide +kernel) (fun k q => by cases q) rfl ?_
    refine y_ic (c := 0) (len := 1) (r := (0, 0, 0, 0)) (by decide +kernel) (by decide) (fun y2127 hy2127 => ?_)
    obtain ⟨z2128, hz2128, ez2128⟩ := Q.2.2.1.1
    have ez2128 : z2128.toInt = ((s.1.length : Nat) : Int) := ez2128
    have mz2128 := qm_lenL Q
    have mz2128 : s.1.length ≤ 14 := mz2128
    refine y_ial (i := 0) (len := 1) (r := (0, 0, 0, 0)) (by decide +kernel) Q.1 tA aT (by omega) hz2128 ?_
    rcases Decidable.em (xi.toInt ≥ z2128.toInt) with q2129 | q2129
    ·
      refine y_cT (c := .ge) (off := 66) (pc' := 109) (len := 3) (r := (0, 0, 0, 0)) (by decide +kernel) (acmpT (c := .ge) (by show _ ≤ _; omega)) (by decide +kernel) ?_
      refine y_ic (c := 0) (len := 1) (r := (0, 0, 0, 0)) (by decide +kernel) (by decide) (fun y2130 hy2130 => ?_)
      refine y_rI (len := 1) (r := (0, 0, 0, 0)) (nL := 3) (k := 2) (n9 := 1) (hs := []) (by decide +kernel) rfl (zfit_b (by omega) (by omega)).2 ?_
      exact ⟨rfl, Or.inr ⟨by omega, vd_nM Q.2.2.2 hD h0 (fun j q h2 => c1 j q (by have := (List.getElem?_eq_some_iff.mp h2).1; omega) h2)⟩⟩
    ·
      refine y_cF (c := .ge) (off := 66) (len := 3) (r := (0, 0, 0, 0)) (by decide +kernel) (acmpF (c := .ge) (by show _ < _; omega)) ?_
      refine y_same (i := .aload_n 0) (len := 1) (r := (0, 0, 0, 0)) (pc' := 47) (ls' := [some (.inl (some A)), some (zi xi), l2]) (st' := [.inl (some A)]) (by decide +kernel) (fun k q => by cases q) rfl ?_
      refine y_same (i := .iload_n 1) (len := 1) (r := (0, 0, 0, 0)) (pc' := 48) (ls' := [some (.inl (some A)), some (zi xi), l2]) (st' := [zi xi, .inl (some A)]) (by decide +kernel) (fun k q => by cases q) rfl ?_
      refine y_cI (i := .invokestatic 249) (len := 3) (r := (1, 197, 12, 1644)) (nL := 1) (k := 1) (n := 1) (hs := []) (args := [zi xi]) (rest := [.inl (some A)]) (l0 := [some (zi xi)]) (by decide +kernel) (Or.inl ⟨_, rfl⟩) rfl rfl rfl rfl (Nat.le_of_ble_eq_true rfl) rfl rfl (qI_le (by omega) (e_leftAt (d := 0) (by omega) (by omega))) (fun y2131 qy2131 hRy2131 => ?_)
      obtain ⟨rfl, hy2131⟩ := hRy2131
      refine y_ic (c := 1) (len := 1) (r := (0, 0, 0, 0)) (by decide +kernel) (by decide) (fun y2132 hy2132 => ?_)
      refine y_add (len := 1) (r := (0, 0, 0, 0)) (by decide +kernel) (by omega) (by omega) (fun y2133 hy2133 => ?_)
      obtain ⟨i2134, ki2134⟩ : ∃ i9, s.1[i]? = some i9 := ⟨_, List.getElem?_eq_getElem (by omega)⟩
      have oi2134 := okQ_L Q.2.2.2 ki2134
      have pi2134 := oi2134.1
      unfold okV at pi2134
      obtain ⟨ai2134, bi2134, ci2134, di2134, ⟨hai2134, hbi2134, hci2134, hdi2134⟩, eai2134, ebi2134, eci2134, edi2134⟩ := qm_itL Q ki2134
      refine y_ial (i := ((24 + 4 * i) + 1)) (len := 1) (r := (0, 0, 0, 0)) (by decide +kernel) Q.1 tA aT (by omega) hbi2134 ?_
      refine y_same (i := .istore_n 2) (len := 1) (r := (0, 0, 0, 0)) (pc' := 55) (ls' := [some (.inl (some A)), some (zi xi), some (zi bi2134)]) (st' := []) (by decide +kernel) (fun k q => by cases q) rfl ?_
      refine y_same (i := .aload_n 0) (len := 1) (r := (0, 0, 0, 0)) (pc' := 56) (ls' := [some (.inl (some A)), some (zi xi), some (zi bi2134)]) (st' := [.inl (some A)]) (by decide +kernel) (fun k q => by cases q) rfl ?_
      refine y_same (i := .iload_n 1) (len := 1) (r := (0, 0, 0, 0)) (pc' := 57) (ls' := [some (.inl (some A)), some (zi xi), some (zi bi2134)]) (st' := [zi xi, .inl (some A)]) (by decide +kernel) (fun k q => by cases q) rfl ?_
      refine y_cI (i := .invokestatic 249) (len := 3) (r := (1, 197, 12, 1644)) (nL := 1) (k := 1) (n := 1) (hs := []) (args := [zi xi]) (rest := [.inl (some A)]) (l0 := [some (zi xi)]) (by decide +kernel) (Or.inl ⟨_, rfl⟩) rfl rfl rfl rfl (Nat.le_of_ble_eq_true rfl) rfl rfl (qI_le (by omega) (e_leftAt (d := 0) (by omega) (by omega))) (fun y2135 qy2135 hRy2135 => ?_)
      obtain ⟨rfl, hy2135⟩ := hRy2135
      refine y_ial (i := (24 + 4 * i)) (len := 1) (r := (0, 0, 0, 0)) (by decide +kernel) Q.1 tA aT (by omega) hai2134 ?_
      refine y_cI (i := .invokestatic 273) (len := 3) (r := (1, 204, 12, 1715)) (nL := 1) (k := 2) (n := 1) (hs := []) (args := [zi ai2134]) (rest := []) (l0 := [some (zi ai2134)]) (by decide +kernel) (Or.inl ⟨_, rfl⟩) rfl rfl rfl rfl (Nat.le_of_ble_eq_true rfl) rfl rfl (qI_le (by omega) (m_isc (d := 0))) (fun y2136 qy2136 hRy2136 => ?_)
      obtain ⟨rfl, hDy2136⟩ := hRy2136
      rcases hDy2136 with ⟨vy2136, ty2136⟩ | ⟨vy2136, ty2136⟩
      ·
        refine y_iF (c := .eq) (off := 17) (len := 3) (r := (0, 0, 0, 0)) (by decide +kernel) (acmpF (c := .eq) (by show ¬ (_ = _); omega)) ?_
        refine y_same (i := .aload_n 0) (len := 1) (r := (0, 0, 0, 0)) (pc' := 68) (ls' := [some (.inl (some A)), some (zi xi), some (zi bi2134)]) (st' := [.inl (some A)]) (by decide +kernel) (fun k q => by cases q) rfl ?_
        refine y_same (i := .iload_n 2) (len := 1) (r := (0, 0, 0, 0)) (pc' := 69) (ls' := [some (.inl (some A)), some (zi xi), some (zi bi2134)]) (st' := [zi bi2134, .inl (some A)]) (by decide +kernel) (fun k q => by cases q) rfl ?_
        refine y_same (i := .iload_n 1) (len := 1) (r := (0, 0, 0, 0)) (pc' := 70) (ls' := [some (.inl (some A)), some (zi xi), some (zi bi2134)]) (st' := [zi xi, zi bi2134, .inl (some A)]) (by decide +kernel) (fun k q => by cases q) rfl ?_
        refine y_ic (c := 1) (len := 1) (r := (0, 0, 0, 0)) (by decide +kernel) (by decide) (fun y2137 hy2137 => ?_)
        refine y_add (len := 1) (r := (0, 0, 0, 0)) (by decide +kernel) (by omega) (by omega) (fun y2138 hy2138 => ?_)
        refine y_cI (i := .invokestatic 276) (len := 3) (r := (1, 211, 12, 1712)) (nL := 4) (k := 1) (n := 3) (hs := []) (args := [.inl (some A), zi bi2134, zi y2138]) (rest := []) (l0 := [some (.inl (some A)), some (zi bi2134), some (zi y2138), none]) (by decide +kernel) (Or.inl ⟨_, rfl⟩) rfl rfl rfl rfl (Nat.le_of_ble_eq_true rfl) rfl rfl (qI_le (by omega) (m_cat (d := 0) (x := i2134.2.1) (f := (i + 1)) Q (by omega) (by omega))) (fun y2139 qy2139 hRy2139 => ?_)
        obtain ⟨rfl, hDy2139⟩ := hRy2139
        rcases hDy2139 with ⟨ky2139, qy2139, vy2139, fy2139, gy2139, cy2139, xy2139⟩ | ⟨vy2139, ny2139⟩
        ·
          refine y_ic (c := (-1)) (len := 1) (r := (0, 0, 0, 0)) (by decide +kernel) (by decide) (fun y2140 hy2140 => ?_)
          refine y_cF (c := .eq) (off := 5) (len := 3) (r := (0, 0, 0, 0)) (by decide +kernel) (acmpF (c := .eq) (by show ¬ (_ = _); omega)) ?_
          refine y_ic (c := 1) (len := 1) (r := (0, 0, 0, 0)) (by decide +kernel) (by decide) (fun y2141 hy2141 => ?_)
          refine y_rI (len := 1) (r := (0, 0, 0, 0)) (nL := 3) (k := 2) (n9 := 1) (hs := []) (by decide +kernel) rfl (zfit_b (by omega) (by omega)).2 ?_
          exact ⟨rfl, Or.inl ⟨by omega, vd_cl Q.2.2.2 gy2139 ki2134 (by omega) cy2139 (by omega) xy2139.symm⟩⟩
        ·
          refine y_ic (c := (-1)) (len := 1) (r := (0, 0, 0, 0)) (by decide +kernel) (by decide) (fun y2142 hy2142 => ?_)
          refine y_cT (c := .eq) (off := 5) (pc' := 81) (len := 3) (r := (0, 0, 0, 0)) (by decide +kernel) (acmpT (c := .eq) (by show _ = _; omega)) (by decide +kernel) ?_
          refine y_same (i := .aload_n 0) (len := 1) (r := (0, 0, 0, 0)) (pc' := 82) (ls' := [some (.inl (some A)), some (zi xi), some (zi bi2134)]) (st' := [.inl (some A)]) (by decide +kernel) (fun k q => by cases q) rfl ?_
          refine y_same (i := .iload_n 1) (len := 1) (r := (0, 0, 0, 0)) (pc' := 83) (ls' := [some (.inl (some A)), some (zi xi), some (zi bi2134)]) (st' := [zi xi, .inl (some A)]) (by decide +kernel) (fun k q => by cases q) rfl ?_
          refine y_cI (i := .invokestatic 249) (len := 3) (r := (1, 197, 12, 1644)) (nL := 1) (k := 1) (n := 1) (hs := []) (args := [zi xi]) (rest := [.inl (some A)]) (l0 := [some (zi xi)]) (by decide +kernel) (Or.inl ⟨_, rfl⟩) rfl rfl rfl rfl (Nat.le_of_ble_eq_true rfl) rfl rfl (qI_le (by omega) (e_leftAt (d := 0) (by omega) (by omega))) (fun y2143 qy2143 hRy2143 => ?_)
          obtain ⟨rfl, hy2143⟩ := hRy2143
          refine y_ial (i := (24 + 4 * i)) (len := 1) (r := (0, 0, 0, 0)) (by decide +kernel) Q.1 tA aT (by omega) hai2134 ?_
          refine y_ic (c := 3) (len := 1) (r := (0, 0, 0, 0)) (by decide +kernel) (by decide) (fun y2144 hy2144 => ?_)
          rcases Decidable.em (ai2134.toInt ≠ y2144.toInt) with q2145 | q2145
          ·
            refine y_cT (c := .ne) (off := 15) (pc' := 103) (len := 3) (r := (0, 0, 0, 0)) (by decide +kernel) (acmpT (c := .ne) (by show ¬ (_ = _); omega)) (by decide +kernel) ?_
            refine y_inc (j := 1) (a := xi) (c := 1) (ls' := fun v => [some (.inl (some A)), some v, some (zi bi2134)]) (len := 3) (r := (0, 0, 0, 0)) (by decide +kernel) rfl (fun _ => rfl) (by decide) (by omega) (by omega) (fun y2146 hy2146 => ?_)
            show qX (d + 2) 213 106 [some (.inl (some A)), some (zi y2146), some (zi bi2134)] [] h t _
            refine y_goto (off := (-67)) (pc' := 39) (len := 3) (r := (0, 0, 0, 0)) (by decide +kernel) (by decide +kernel) ?_
            refine ih (i + 1) y2146 (some (zi bi2134)) (by omega) (by omega) (fun j q hj h2 => ?_) (by omega)
            rcases Nat.lt_or_ge j i with q9 | q9
            · exact c1 j q q9 h2
            · obtain rfl : j = i := by omega
              cases ki2134.symm.trans h2
              exact ⟨fun _ i9 p h3 h4 h5 => ny2139 i9 p (by omega) h4 h5, fun q8 => by omega⟩
          ·
            refine y_cF (c := .ne) (off := 15) (len := 3) (r := (0, 0, 0, 0)) (by decide +kernel) (acmpF (c := .ne) (by show _ = _; omega)) ?_
            refine y_same (i := .aload_n 0) (len := 1) (r := (0, 0, 0, 0)) (pc' := 92) (ls' := [some (.inl (some A)), some (zi xi), some (zi bi2134)]) (st' := [.inl (some A)]) (by decide +kernel) (fun k q => by cases q) rfl ?_
            refine y_same (i := .iload_n 2) (len := 1) (r := (0, 0, 0, 0)) (pc' := 93) (ls' := [some (.inl (some A)), some (zi xi), some (zi bi2134)]) (st' := [zi bi2134, .inl (some A)]) (by decide +kernel) (fun k q => by cases q) rfl ?_
            refine y_ic (c := 0) (len := 1) (r := (0, 0, 0, 0)) (by decide +kernel) (by decide) (fun y2147 hy2147 => ?_)
            refine y_cI (i := .invokestatic 276) (len := 3) (r := (1, 211, 12, 1712)) (nL := 4) (k := 1) (n := 3) (hs := []) (args := [.inl (some A), zi bi2134, zi y2147]) (rest := []) (l0 := [some (.inl (some A)), some (zi bi2134), some (zi y2147), none]) (by decide +kernel) (Or.inl ⟨_, rfl⟩) rfl rfl rfl rfl (Nat.le_of_ble_eq_true rfl) rfl rfl (qI_le (by omega) (m_cat (d := 0) (x := i2134.2.1) (f := 0) Q (by omega) (by omega))) (fun y2148 qy2148 hRy2148 => ?_)
            obtain ⟨rfl, hDy2148⟩ := hRy2148
            rcases hDy2148 with ⟨ky2148, qy2148, vy2148, fy2148, gy2148, cy2148, xy2148⟩ | ⟨vy2148, ny2148⟩
            ·
              refine y_ic (c := (-1)) (len := 1) (r := (0, 0, 0, 0)) (by decide +kernel) (by decide) (fun y2149 hy2149 => ?_)
              refine y_cF (c := .eq) (off := 5) (len := 3) (r := (0, 0, 0, 0)) (by decide +kernel) (acmpF (c := .eq) (by show ¬ (_ = _); omega)) ?_
              refine y_ic (c := 1) (len := 1) (r := (0, 0, 0, 0)) (by decide +kernel) (by decide) (fun y2150 hy2150 => ?_)
              refine y_rI (len := 1) (r := (0, 0, 0, 0)) (nL := 3) (k := 2) (n9 := 1) (hs := []) (by decide +kernel) rfl (zfit_b (by omega) (by omega)).2 ?_
              exact ⟨rfl, Or.inl ⟨by omega, vd_cl Q.2.2.2 gy2148 ki2134 (fun e9 => by subst e9; cases ki2134.symm.trans gy2148; omega) cy2148 (by omega) xy2148.symm⟩⟩
            ·
              refine y_ic (c := (-1)) (len := 1) (r := (0, 0, 0, 0)) (by decide +kernel) (by decide) (fun y2151 hy2151 => ?_)
              refine y_cT (c := .eq) (off := 5) (pc' := 103) (len := 3) (r := (0, 0, 0, 0)) (by decide +kernel) (acmpT (c := .eq) (by show _ = _; omega)) (by decide +kernel) ?_
              refine y_inc (j := 1) (a := xi) (c := 1) (ls' := fun v => [some (.inl (some A)), some v, some (zi bi2134)]) (len := 3) (r := (0, 0, 0, 0)) (by decide +kernel) rfl (fun _ => rfl) (by decide) (by omega) (by omega) (fun y2152 hy2152 => ?_)
              show qX (d + 2) 213 106 [some (.inl (some A)), some (zi y2152), some (zi bi2134)] [] h t _
              refine y_goto (off := (-67)) (pc' := 39) (len := 3) (r := (0, 0, 0, 0)) (by decide +kernel) (by decide +kernel) ?_
              refine ih (i + 1) y2152 (some (zi bi2134)) (by omega) (by omega) (fun j q hj h2 => ?_) (by omega)
              rcases Nat.lt_or_ge j i with q9 | q9
              · exact c1 j q q9 h2
              · obtain rfl : j = i := by omega
                cases ki2134.symm.trans h2
                exact ⟨fun _ i9 p h3 h4 h5 => ny2139 i9 p (by omega) h4 h5, fun _ p m h5 => by obtain ⟨j9, hj9⟩ := List.getElem?_of_mem m; exact ny2148 j9 p (Nat.zero_le _) hj9 h5⟩
      ·
        refine y_iT (c := .eq) (off := 17) (pc' := 81) (len := 3) (r := (0, 0, 0, 0)) (by decide +kernel) (acmpT (c := .eq) (by show _ = _; omega)) (by decide +kernel) ?_
        refine y_same (i := .aload_n 0) (len := 1) (r := (0, 0, 0, 0)) (pc' := 82) (ls' := [some (.inl (some A)), some (zi xi), some (zi bi2134)]) (st' := [.inl (some A)]) (by decide +kernel) (fun k q => by cases q) rfl ?_
        refine y_same (i := .iload_n 1) (len := 1) (r := (0, 0, 0, 0)) (pc' := 83) (ls' := [some (.inl (some A)), some (zi xi), some (zi bi2134)]) (st' := [zi xi, .inl (some A)]) (by decide +kernel) (fun k q => by cases q) rfl ?_
        refine y_cI (i := .invokestatic 249) (len := 3) (r := (1, 197, 12, 1644)) (nL := 1) (k := 1) (n := 1) (hs := []) (args := [zi xi]) (rest := [.inl (some A)]) (l0 := [some (zi xi)]) (by decide +kernel) (Or.inl ⟨_, rfl⟩) rfl rfl rfl rfl (Nat.le_of_ble_eq_true rfl) rfl rfl (qI_le (by omega) (e_leftAt (d := 0) (by omega) (by omega))) (fun y2153 qy2153 hRy2153 => ?_)
        obtain ⟨rfl, hy2153⟩ := hRy2153
        refine y_ial (i := (24 + 4 * i)) (len := 1) (r := (0, 0, 0, 0)) (by decide +kernel) Q.1 tA aT (by omega) hai2134 ?_
        refine y_ic (c := 3) (len := 1) (r := (0, 0, 0, 0)) (by decide +kernel) (by decide) (fun y2154 hy2154 => ?_)
        rcases Decidable.em (ai2134.toInt ≠ y2154.toInt) with q2155 | q2155
        ·
          refine y_cT (c := .ne) (off := 15) (pc' := 103) (len := 3) (r := (0, 0, 0, 0)) (by decide +kernel) (acmpT (c := .ne) (by show ¬ (_ = _); omega)) (by decide +kernel) ?_
          refine y_inc (j := 1) (a := xi) (c := 1) (ls' := fun v => [some (.inl (some A)), some v, some (zi bi2134)]) (len := 3) (r := (0, 0, 0, 0)) (by decide +kernel) rfl (fun _ => rfl) (by decide) (by omega) (by omega) (fun y2156 hy2156 => ?_)
          show qX (d + 2) 213 106 [some (.inl (some A)), some (zi y2156), some (zi bi2134)] [] h t _
          refine y_goto (off := (-67)) (pc' := 39) (len := 3) (r := (0, 0, 0, 0)) (by decide +kernel) (by decide +kernel) ?_
          refine ih (i + 1) y2156 (some (zi bi2134)) (by omega) (by omega) (fun j q hj h2 => ?_) (by omega)
          rcases Nat.lt_or_ge j i with q9 | q9
          · exact c1 j q q9 h2
          · obtain rfl : j = i := by omega
            cases ki2134.symm.trans h2
            exact ⟨fun q8 => by omega, fun q8 => by omega⟩
        ·
          refine y_cF (c := .ne) (off := 15) (len := 3) (r := (0, 0, 0, 0)) (by decide +kernel) (acmpF (c := .ne) (by show _ = _; omega)) ?_
          refine y_same (i := .aload_n 0) (len := 1) (r := (0, 0, 0, 0)) (pc' := 92) (ls' := [some (.inl (some A)), some (zi xi), some (zi bi2134)]) (st' := [.inl (some A)]) (by decide +kernel) (fun k q => by cases q) rfl ?_
          refine y_same (i := .iload_n 2) (len := 1) (r := (0, 0, 0, 0)) (pc' := 93) (ls' := [some (.inl (some A)), some (zi xi), some (zi bi2134)]) (st' := [zi bi2134, .inl (some A)]) (by decide +kernel) (fun k q => by cases q) rfl ?_
          refine y_ic (c := 0) (len := 1) (r := (0, 0, 0, 0)) (by decide +kernel) (by decide) (fun y2157 hy2157 => ?_)
          refine y_cI (i := .invokestatic 276) (len := 3) (r := (1, 211, 12, 1712)) (nL := 4) (k := 1) (n := 3) (hs := []) (args := [.inl (some A), zi bi2134, zi y2157]) (rest := []) (l0 := [some (.inl (some A)), some (zi bi2134), some (zi y2157), none]) (by decide +kernel) (Or.inl ⟨_, rfl⟩) rfl rfl rfl rfl (Nat.le_of_ble_eq_true rfl) rfl rfl (qI_le (by omega) (m_cat (d := 0) (x := i2134.2.1) (f := 0) Q (by omega) (by omega))) (fun y2158 qy2158 hRy2158 => ?_)
          obtain ⟨rfl, hDy2158⟩ := hRy2158
          rcases hDy2158 with ⟨ky2158, qy2158, vy2158, fy2158, gy2158, cy2158, xy2158⟩ | ⟨vy2158, ny2158⟩
          ·
            refine y_ic (c := (-1)) (len := 1) (r := (0, 0, 0, 0)) (by decide +kernel) (by decide) (fun y2159 hy2159 => ?_)
            refine y_cF (c := .eq) (off := 5) (len := 3) (r := (0, 0, 0, 0)) (by decide +kernel) (acmpF (c := .eq) (by show ¬ (_ = _); omega)) ?_
            refine y_ic (c := 1) (len := 1) (r := (0, 0, 0, 0)) (by decide +kernel) (by decide) (fun y2160 hy2160 => ?_)
            refine y_rI (len := 1) (r := (0, 0, 0, 0)) (nL := 3) (k := 2) (n9 := 1) (hs := []) (by decide +kernel) rfl (zfit_b (by omega) (by omega)).2 ?_
            exact ⟨rfl, Or.inl ⟨by omega, vd_cl Q.2.2.2 gy2158 ki2134 (fun e9 => by subst e9; cases ki2134.symm.trans gy2158; omega) cy2158 (by omega) xy2158.symm⟩⟩
          ·
            refine y_ic (c := (-1)) (len := 1) (r := (0, 0, 0, 0)) (by decide +kernel) (by decide) (fun y2161 hy2161 => ?_)
            refine y_cT (c := .eq) (off := 5) (pc' := 103) (len := 3) (r := (0, 0, 0, 0)) (by decide +kernel) (acmpT (c := .eq) (by show _ = _; omega)) (by decide +kernel) ?_
            refine y_inc (j := 1) (a := xi) (c := 1) (ls' := fun v => [some (.inl (some A)), some v, some (zi bi2134)]) (len := 3) (r := (0, 0, 0, 0)) (by decide +kernel) rfl (fun _ => rfl) (by decide) (by omega) (by omega) (fun y2162 hy2162 => ?_)
            show qX (d + 2) 213 106 [some (.inl (some A)), some (zi y2162), some (zi bi2134)] [] h t _
            refine y_goto (off := (-67)) (pc' := 39) (len := 3) (r := (0, 0, 0, 0)) (by decide +kernel) (by decide +kernel) ?_
            refine ih (i + 1) y2162 (some (zi bi2134)) (by omega) (by omega) (fun j q hj h2 => ?_) (by omega)
            rcases Nat.lt_or_ge j i with q9 | q9
            · exact c1 j q q9 h2
            · obtain rfl : j = i := by omega
              cases ki2134.symm.trans h2
              exact ⟨fun q8 => by omega, fun _ p m h5 => by obtain ⟨j9, hj9⟩ := List.getElem?_of_mem m; exact ny2158 j9 p (Nat.zero_le _) hj9 h5⟩
theorem vdm_o {d t A : Nat} {τ : List Nat} {h : zh} {s : sqT} (Q : QM τ h A s) : ∀ (n : Nat) (i : Nat) (xi : Int32) (l2 : Option zv), (xi.toInt = (i : Int)) → (i ≤ 21) → (∀ j : Nat, j < i → ¬ s.2.2.2 (j : Int) (j : Int)) → (21 < i + n) → qX (d + 2) 213 2 [some (.inl (some A)), some (zi xi), l2] [] h t (rI (fun y h1 => h = h1 ∧ ((y.toInt = 1 ∧ vd_ s) ∨ (y.toInt = 0 ∧ ¬ vd_ s))) t) := by
  intro n
  induction n with
  | zero =>
    intro i xi l2 hxi hi c1 hn
    exfalso
    omega
  | succ n ih =>
    intro i xi l2 hxi hi c1 hn
    obtain ⟨T, c0, tA, aT, hc0, pT⟩ := Q.2.1
    refine y_same (i := .iload_n 1) (len := 1) (r := (0, 0, 0, 0)) (pc' := 3) (ls' := [some (.inl (some A)), some (zi xi), l2]) (st' := [zi xi]) (by decide +kernel) (fun k q => by cases q) rfl ?_
    refine y_bi (c := 21) (len := 2) (r := (0, 0, 0, 0)) (by decide +kernel) (by decide) (fun y2163 hy2163 => ?_)
    rcases Decidable.em (xi.toInt ≥ y2163.toInt) with q2164 | q2164
    ·
      refine y_cT (c := .ge) (off := 20) (pc' := 25) (len := 3) (r := (0, 0, 0, 0)) (by decide +kernel) (acmpT (c := .ge) (by show _ ≤ _; omega)) (by decide +kernel) ?_
      refine y_same (i := .aload_n 0) (len := 1) (r := (0, 0, 0, 0)) (pc' := 26) (ls' := [some (.inl (some A)), some (zi xi), l2]) (st' := [.inl (some A)]) (by decide +kernel) (fun k q => by cases q) rfl ?_
      refine y_ic (c := 0) (len := 1) (r := (0, 0, 0, 0)) (by decide +kernel) (by decide) (fun y2165 hy2165 => ?_)
      refine y_ic (c := 0) (len := 1) (r := (0, 0, 0, 0)) (by decide +kernel) (by decide) (fun y2166 hy2166 => ?_)
      refine y_cI (i := .invokestatic 276) (len := 3) (r := (1, 211, 12, 1712)) (nL := 4) (k := 1) (n := 3) (hs := []) (args := [.inl (some A), zi y2165, zi y2166]) (rest := []) (l0 := [some (.inl (some A)), some (zi y2165), some (zi y2166), none]) (by decide +kernel) (Or.inl ⟨_, rfl⟩) rfl rfl rfl rfl (Nat.le_of_ble_eq_true rfl) rfl rfl (qI_le (by omega) (m_cat (d := 0) (x := 0) (f := 0) Q (by omega) (by omega))) (fun y2167 qy2167 hRy2167 => ?_)
      obtain ⟨rfl, hDy2167⟩ := hRy2167
      rcases hDy2167 with ⟨ky2167, qy2167, vy2167, fy2167, gy2167, cy2167, xy2167⟩ | ⟨vy2167, ny2167⟩
      ·
        refine y_ic (c := (-1)) (len := 1) (r := (0, 0, 0, 0)) (by decide +kernel) (by decide) (fun y2168 hy2168 => ?_)
        refine y_cF (c := .eq) (off := 5) (len := 3) (r := (0, 0, 0, 0)) (by decide +kernel) (acmpF (c := .eq) (by show ¬ (_ = _); omega)) ?_
        refine y_ic (c := 1) (len := 1) (r := (0, 0, 0, 0)) (by decide +kernel) (by decide) (fun y2169 hy2169 => ?_)
        refine y_rI (len := 1) (r := (0, 0, 0, 0)) (nL := 3) (k := 2) (n9 := 1) (hs := []) (by decide +kernel) rfl (zfit_b (by omega) (by omega)).2 ?_
        exact ⟨rfl, Or.inl ⟨by omega, vd_c0 gy2167 cy2167 xy2167⟩⟩
      ·
        refine y_ic (c := (-1)) (len := 1) (r := (0, 0, 0, 0)) (by decide +kernel) (by decide) (fun y2170 hy2170 => ?_)
        refine y_cT (c := .eq) (off := 5) (pc' := 37) (len := 3) (r := (0, 0, 0, 0)) (by decide +kernel) (acmpT (c := .eq) (by show _ = _; omega)) (by decide +kernel) ?_
        refine y_ic (c := 0) (len := 1) (r := (0, 0, 0, 0)) (by decide +kernel) (by decide) (fun y2171 hy2171 => ?_)
        refine y_same (i := .istore_n 1) (len := 1) (r := (0, 0, 0, 0)) (pc' := 39) (ls' := [some (.inl (some A)), some (zi y2171), l2]) (st' := []) (by decide +kernel) (fun k q => by cases q) rfl ?_
        have hD : ∀ a, ¬ s.2.2.2 a a := fun a ha => by
          obtain ⟨b1, -⟩ := Q.2.2.2.2.2.2.1 a a ha
          have e9 : ((a.toNat : Nat) : Int) = a := by omega
          rw [← e9] at ha
          exact c1 a.toNat (by omega) ha
        exact vdm_l Q hD (fun p m h1 => by obtain ⟨j9, hj9⟩ := List.getElem?_of_mem m; exact ny2167 j9 p (Nat.zero_le _) hj9 h1) (s.1.length + 1) 0 y2171 l2 (by omega) (by omega) (fun j _ hj => absurd hj (Nat.not_lt_zero j)) (by omega)
    ·
      refine y_cF (c := .ge) (off := 20) (len := 3) (r := (0, 0, 0, 0)) (by decide +kernel) (acmpF (c := .ge) (by show _ < _; omega)) ?_
      refine y_same (i := .aload_n 0) (len := 1) (r := (0, 0, 0, 0)) (pc' := 9) (ls' := [some (.inl (some A)), some (zi xi), l2]) (st' := [.inl (some A)]) (by decide +kernel) (fun k q => by cases q) rfl ?_
      refine y_same (i := .iload_n 1) (len := 1) (r := (0, 0, 0, 0)) (pc' := 10) (ls' := [some (.inl (some A)), some (zi xi), l2]) (st' := [zi xi, .inl (some A)]) (by decide +kernel) (fun k q => by cases q) rfl ?_
      refine y_same (i := .iload_n 1) (len := 1) (r := (0, 0, 0, 0)) (pc' := 11) (ls' := [some (.inl (some A)), some (zi xi), l2]) (st' := [zi xi, zi xi, .inl (some A)]) (by decide +kernel) (fun k q => by cases q) rfl ?_
      refine y_cI (i := .invokestatic 245) (len := 3) (r := (1, 200, 12, 1666)) (nL := 3) (k := 2) (n := 3) (hs := []) (args := [.inl (some A), zi xi, zi xi]) (rest := []) (l0 := [some (.inl (some A)), some (zi xi), some (zi xi)]) (by decide +kernel) (Or.inl ⟨_, rfl⟩) rfl rfl rfl rfl (Nat.le_of_ble_eq_true rfl) rfl rfl (qI_le (by omega) (m_dif (d := 0) (x := i) (y := i) Q (by omega) (by omega) (by omega) (by omega))) (fun y2172 qy2172 hRy2172 => ?_)
      obtain ⟨rfl, hDy2172⟩ := hRy2172
      rcases hDy2172 with ⟨vy2172, ty2172⟩ | ⟨vy2172, ty2172⟩
      ·
        refine y_iF (c := .eq) (off := 5) (len := 3) (r := (0, 0, 0, 0)) (by decide +kernel) (acmpF (c := .eq) (by show ¬ (_ = _); omega)) ?_
        refine y_ic (c := 1) (len := 1) (r := (0, 0, 0, 0)) (by decide +kernel) (by decide) (fun y2173 hy2173 => ?_)
        refine y_rI (len := 1) (r := (0, 0, 0, 0)) (nL := 3) (k := 2) (n9 := 1) (hs := []) (by decide +kernel) rfl (zfit_b (by omega) (by omega)).2 ?_
        exact ⟨rfl, Or.inl ⟨by omega, Or.inl ⟨(i : Int), (i : Int), ty2172, rfl⟩⟩⟩
      ·
        refine y_iT (c := .eq) (off := 5) (pc' := 19) (len := 3) (r := (0, 0, 0, 0)) (by decide +kernel) (acmpT (c := .eq) (by show _ = _; omega)) (by decide +kernel) ?_
        refine y_inc (j := 1) (a := xi) (c := 1) (ls' := fun v => [some (.inl (some A)), some v, l2]) (len := 3) (r := (0, 0, 0, 0)) (by decide +kernel) rfl (fun _ => rfl) (by decide) (by omega) (by omega) (fun y2174 hy2174 => ?_)
        show qX (d + 2) 213 22 [some (.inl (some A)), some (zi y2174), l2] [] h t _
        refine y_goto (off := (-20)) (pc' := 2) (len := 3) (r := (0, 0, 0, 0)) (by decide +kernel) (by decide +kernel) ?_
        refine ih (i + 1) y2174 l2 (by omega) (by omega) (fun j hj => ?_) (by omega)
        rcases Nat.lt_or_ge j i with q9 | q9
        · exact c1 j q9
        · obtain rfl : j = i := by omega
          exact ty2172
theorem m_vd {d t A : Nat} {τ : List Nat} {h : zh} {s : sqT} (Q : QM τ h A s) : qI (d + 3) 213 [some (.inl (some A)), none, none] h t (fun y h1 => h = h1 ∧ ((y.toInt = 1 ∧ vd_ s) ∨ (y.toInt = 0 ∧ ¬ vd_ s))) := by
  refine qI_of ?_
  refine y_ic (c := 0) (len := 1) (r := (0, 0, 0, 0)) (by decide +kernel) (by decide) (fun y2175 hy2175 => ?_)
  refine y_same (i := .istore_n 1) (len := 1) (r := (0, 0, 0, 0)) (pc' := 2) (ls' := [some (.inl (some A)), some (zi y2175), none]) (st' := []) (by decide +kernel) (fun k q => by cases q) rfl ?_
  exact vdm_o Q 22 0 y2175 none (by omega) (by omega) (fun j hj => absurd hj (Nat.not_lt_zero j)) (by omega)
theorem ok0 : okV (0, 0, 0, 0) := ⟨⟨by decide, by decide⟩, ⟨by decide, by decide⟩, ⟨by decide, by decide⟩, by decide, by decide⟩
theorem gom_l {d t A c f k m : Nat} {τ : List Nat} {h0 : zh} {xc xf xk xm : Int32} (rt : rwT τ A) {T : Nat} {c0 : Int} (tA : τ[A]? = some T) (aT : atyp T = some (.inl (0, 200, wRs c0))) (hc0 : 12 ≤ c0 ∧ c0 ≤ 14) (pT : aprot T = false) (exc : xc.toInt = (c : Int)) (hc : c < 3) (exf : xf.toInt = (f : Int)) (hf : 24 ≤ f ∧ f + 56 ≤ 200) (em : xm.toInt = (m : Int)) (hm13 : m ≤ 13) (hkm : k ≤ m) : ∀ (n : Nat) (h : zh) (i : Nat) (xi : Int32), (hG τ h) → (hsl h A c = some (zi xm)) → (∀ j, f + 4 * k ≤ j → j < i → hsl h A j = hsl h0 A (j + 4)) → (∀ j, i ≤ j → hsl h A j = hsl h0 A j) → (∀ k9 j, (k9 ≠ A ∨ j < f + 4 * k) → hsl h k9 j = hsl h0 k9 j) → (xi.toInt = (i : Int)) → (f + 4 * k ≤ i) → (i ≤ f + 4 * m) → (f + 4 * m < i + n) → qX (d + 1) 207 14 [some (.inl (some A)), some (zi xc), some (zi xf), some (zi xk), some (zi xi)] [] h t (rV (fun h1 => hG τ h1 ∧ (∀ j, f + 4 * k ≤ j → j < f + 4 * m → hsl h1 A j = hsl h0 A (j + 4)) ∧ ∀ k9 j, (k9 ≠ A ∨ j < f + 4 * k ∨ f + 4 * (m + 1) ≤ j) → hsl h1 k9 j = hsl h0 k9 j) t) := by
  intro n
  induction n with
  | zero =>
    intro h i xi hg hm c1 c2 c3 hxi h1 hi hn
    exfalso
    omega
  | succ n ih =>
    intro h i xi hg hm c1 c2 c3 hxi h1 hi hn
    skip
    refine y_same (i := .iload 4) (len := 2) (r := (0, 0, 0, 0)) (pc' := 16) (ls' := [some (.inl (some A)), some (zi xc), some (zi xf), some (zi xk), some (zi xi)]) (st' := [zi xi]) (by decide +kernel) (fun k q => by cases q) rfl ?_
    refine y_same (i := .iload_n 2) (len := 1) (r := (0, 0, 0, 0)) (pc' := 17) (ls' := [some (.inl (some A)), some (zi xc), some (zi xf), some (zi xk), some (zi xi)]) (st' := [zi xf, zi xi]) (by decide +kernel) (fun k q => by cases q) rfl ?_
    refine y_ic (c := 4) (len := 1) (r := (0, 0, 0, 0)) (by decide +kernel) (by decide) (fun y2176 hy2176 => ?_)
    refine y_same (i := .aload_n 0) (len := 1) (r := (0, 0, 0, 0)) (pc' := 19) (ls' := [some (.inl (some A)), some (zi xc), some (zi xf), some (zi xk), some (zi xi)]) (st' := [.inl (some A), zi y2176, zi xf, zi xi]) (by decide +kernel) (fun k q => by cases q) rfl ?_
    refine y_same (i := .iload_n 1) (len := 1) (r := (0, 0, 0, 0)) (pc' := 20) (ls' := [some (.inl (some A)), some (zi xc), some (zi xf), some (zi xk), some (zi xi)]) (st' := [zi xc, .inl (some A), zi y2176, zi xf, zi xi]) (by decide +kernel) (fun k q => by cases q) rfl ?_
    refine y_ial (i := c) (len := 1) (r := (0, 0, 0, 0)) (by decide +kernel) hg tA aT (by omega) hm ?_
    refine y_mul (c := 4) (len := 1) (r := (0, 0, 0, 0)) (by decide +kernel) (by omega) (by omega) (by omega) (fun y2177 hy2177 => ?_)
    refine y_add (len := 1) (r := (0, 0, 0, 0)) (by decide +kernel) (by omega) (by omega) (fun y2178 hy2178 => ?_)
    rcases Decidable.em (xi.toInt ≥ y2178.toInt) with q2179 | q2179
    ·
      refine y_cT (c := .ge) (off := 19) (pc' := 42) (len := 3) (r := (0, 0, 0, 0)) (by decide +kernel) (acmpT (c := .ge) (by show _ ≤ _; omega)) (by decide +kernel) ?_
      refine y_same (i := .aload_n 0) (len := 1) (r := (0, 0, 0, 0)) (pc' := 43) (ls' := [some (.inl (some A)), some (zi xc), some (zi xf), some (zi xk), some (zi xi)]) (st' := [.inl (some A)]) (by decide +kernel) (fun k q => by cases q) rfl ?_
      refine y_same (i := .iload_n 2) (len := 1) (r := (0, 0, 0, 0)) (pc' := 44) (ls' := [some (.inl (some A)), some (zi xc), some (zi xf), some (zi xk), some (zi xi)]) (st' := [zi xf, .inl (some A)]) (by decide +kernel) (fun k q => by cases q) rfl ?_
      refine y_ic (c := 4) (len := 1) (r := (0, 0, 0, 0)) (by decide +kernel) (by decide) (fun y2180 hy2180 => ?_)
      refine y_same (i := .aload_n 0) (len := 1) (r := (0, 0, 0, 0)) (pc' := 46) (ls' := [some (.inl (some A)), some (zi xc), some (zi xf), some (zi xk), some (zi xi)]) (st' := [.inl (some A), zi y2180, zi xf, .inl (some A)]) (by decide +kernel) (fun k q => by cases q) rfl ?_
      refine y_same (i := .iload_n 1) (len := 1) (r := (0, 0, 0, 0)) (pc' := 47) (ls' := [some (.inl (some A)), some (zi xc), some (zi xf), some (zi xk), some (zi xi)]) (st' := [zi xc, .inl (some A), zi y2180, zi xf, .inl (some A)]) (by decide +kernel) (fun k q => by cases q) rfl ?_
      refine y_ial (i := c) (len := 1) (r := (0, 0, 0, 0)) (by decide +kernel) hg tA aT (by omega) hm ?_
      refine y_mul (c := 4) (len := 1) (r := (0, 0, 0, 0)) (by decide +kernel) (by omega) (by omega) (by omega) (fun y2181 hy2181 => ?_)
      refine y_add (len := 1) (r := (0, 0, 0, 0)) (by decide +kernel) (by omega) (by omega) (fun y2182 hy2182 => ?_)
      refine y_ic (c := 0) (len := 1) (r := (0, 0, 0, 0)) (by decide +kernel) (by decide) (fun y2183 hy2183 => ?_)
      refine y_ic (c := 0) (len := 1) (r := (0, 0, 0, 0)) (by decide +kernel) (by decide) (fun y2184 hy2184 => ?_)
      refine y_ic (c := 0) (len := 1) (r := (0, 0, 0, 0)) (by decide +kernel) (by decide) (fun y2185 hy2185 => ?_)
      refine y_ic (c := 0) (len := 1) (r := (0, 0, 0, 0)) (by decide +kernel) (by decide) (fun y2186 hy2186 => ?_)
      refine y_cV (i := .invokestatic 151) (len := 3) (r := (1, 179, 12, 1549)) (nL := 6) (k := 0) (n := 6) (hs := []) (args := [.inl (some A), zi y2182, zi y2183, zi y2184, zi y2185, zi y2186]) (rest := []) (l0 := [some (.inl (some A)), some (zi y2182), some (zi y2183), some (zi y2184), some (zi y2185), some (zi y2186)]) (by decide +kernel) (Or.inl ⟨_, rfl⟩) rfl rfl rfl rfl (Nat.le_of_ble_eq_true rfl) rfl rfl (qV_le (by omega) (m_fur (d := 0) (p := (f + (4 * m))) (i := (0, 0, 0, 0)) hg rt (by omega) (by omega) (by omega) ok0 (by omega) (by omega) (by omega) (by omega))) (fun h2187 hR2187 => ?_)
      obtain ⟨hg2187, qd2187, F2187⟩ := hR2187
      refine y_rV (len := 1) (r := (0, 0, 0, 0)) (nL := 5) (n9 := 4) (hs := []) (by decide +kernel) rfl ?_
      refine ⟨hg2187, fun j h1 h2 => ((F2187 A j (by omega))).trans (c1 j h1 (by omega)), fun k j hC => ?_⟩
      have e9 : hsl h2187 k j = hsl h k j := (F2187 k j (by omega))
      refine e9.trans ?_
      rcases Decidable.em (k = A ∧ f + 4 * (m + 1) ≤ j) with q9 | q9
      · obtain ⟨rfl, q9⟩ := q9
        exact c2 j (by omega)
      · exact c3 k j (by omega)
    ·
      refine y_cF (c := .ge) (off := 19) (len := 3) (r := (0, 0, 0, 0)) (by decide +kernel) (acmpF (c := .ge) (by show _ < _; omega)) ?_
      refine y_same (i := .aload_n 0) (len := 1) (r := (0, 0, 0, 0)) (pc' := 27) (ls' := [some (.inl (some A)), some (zi xc), some (zi xf), some (zi xk), some (zi xi)]) (st' := [.inl (some A)]) (by decide +kernel) (fun k q => by cases q) rfl ?_
      refine y_same (i := .iload 4) (len := 2) (r := (0, 0, 0, 0)) (pc' := 29) (ls' := [some (.inl (some A)), some (zi xc), some (zi xf), some (zi xk), some (zi xi)]) (st' := [zi xi, .inl (some A)]) (by decide +kernel) (fun k q => by cases q) rfl ?_
      refine y_same (i := .aload_n 0) (len := 1) (r := (0, 0, 0, 0)) (pc' := 30) (ls' := [some (.inl (some A)), some (zi xc), some (zi xf), some (zi xk), some (zi xi)]) (st' := [.inl (some A), zi xi, .inl (some A)]) (by decide +kernel) (fun k q => by cases q) rfl ?_
      refine y_same (i := .iload 4) (len := 2) (r := (0, 0, 0, 0)) (pc' := 32) (ls' := [some (.inl (some A)), some (zi xc), some (zi xf), some (zi xk), some (zi xi)]) (st' := [zi xi, .inl (some A), zi xi, .inl (some A)]) (by decide +kernel) (fun k q => by cases q) rfl ?_
      refine y_ic (c := 4) (len := 1) (r := (0, 0, 0, 0)) (by decide +kernel) (by decide) (fun y2188 hy2188 => ?_)
      refine y_add (len := 1) (r := (0, 0, 0, 0)) (by decide +kernel) (by omega) (by omega) (fun y2189 hy2189 => ?_)
      obtain ⟨v2190, hv2191, lv2190, uv2190⟩ := g_int (i := (i + 4)) hg tA aT (show (i + 4) < 200 by omega) (srC (by omega) (by omega))
      refine y_ial (i := (i + 4)) (len := 1) (r := (0, 0, 0, 0)) (by decide +kernel) hg tA aT (by omega) hv2191 ?_
      refine y_ias (i := i) (len := 1) (r := (0, 0, 0, 0)) (by decide +kernel) hg tA aT pT (by omega) (by omega) (srC (by omega) (by omega)) (by omega) (by omega) (fun h2192 hg2192 hl2192 hs2192 ho2192 => ?_)
      refine y_inc (j := 4) (a := xi) (c := 1) (ls' := fun v => [some (.inl (some A)), some (zi xc), some (zi xf), some (zi xk), some v]) (len := 3) (r := (0, 0, 0, 0)) (by decide +kernel) rfl (fun _ => rfl) (by decide) (by omega) (by omega) (fun y2193 hy2193 => ?_)
      show qX (d + 1) 207 39 [some (.inl (some A)), some (zi xc), some (zi xf), some (zi xk), some (zi y2193)] [] h2192 t _
      refine y_goto (off := (-25)) (pc' := 14) (len := 3) (r := (0, 0, 0, 0)) (by decide +kernel) (by decide +kernel) ?_
      refine ih h2192 (i + 1) y2193 hg2192 ((ho2192 A c (by omega)).trans hm) (fun j h1 h2 => ?_) (fun j hj => (ho2192 A j (by omega)).trans (c2 j (by omega))) (fun k j hk => (ho2192 k j (by omega)).trans (c3 k j (by omega))) (by omega) (by omega) (by omega) (by omega)
      rcases Nat.lt_or_ge j i with q9 | q9
      · exact (ho2192 A j (by omega)).trans (c1 j h1 q9)
      · obtain rfl : j = i := by omega
        exact hs2192.trans ((c2 (j + 4) (by omega)).symm.trans hv2191).symm
theorem m_go {d t A c f k m : Nat} {τ : List Nat} {h : zh} {xc xf xk : Int32} (hg : hG τ h) (rt : rwT τ A) (exc : xc.toInt = (c : Int)) (hc : c < 3) (exf : xf.toInt = (f : Int)) (hf : 24 ≤ f ∧ f + 56 ≤ 200) (exk : xk.toInt = (k : Int)) (hkm : k ≤ m) (hn0 : ci_ h A c (m + 1)) : qV (d + 2) 207 [some (.inl (some A)), some (zi xc), some (zi xf), some (zi xk), none] h t (fun h1 => hG τ h1 ∧ ci_ h1 A c m ∧ (∀ j, f + 4 * k ≤ j → j < f + 4 * m → hsl h1 A j = hsl h A (j + 4)) ∧ ∀ k9 j, (k9 ≠ A ∨ (j < f + 4 * k ∧ j ≠ c) ∨ f + 4 * (m + 1) ≤ j) → hsl h1 k9 j = hsl h k9 j) := by
  have hm14 := qm_cnt hg rt hc hn0
  obtain ⟨xn, hn, en⟩ := hn0
  obtain ⟨T, c0, tA, aT, hc0, pT⟩ := id rt
  obtain ⟨x9, e9, l9, u9⟩ := g_int (i := c) (lo := 0) (hi := c0) hg tA aT (show c < 200 by omega) (srA hc)
  have e8 := hn.symm.trans e9
  cases e8
  refine qV_of ?_
  refine y_same (i := .aload_n 0) (len := 1) (r := (0, 0, 0, 0)) (pc' := 1) (ls' := [some (.inl (some A)), some (zi xc), some (zi xf), some (zi xk), none]) (st' := [.inl (some A)]) (by decide +kernel) (fun k q => by cases q) rfl ?_
  refine y_same (i := .iload_n 1) (len := 1) (r := (0, 0, 0, 0)) (pc' := 2) (ls' := [some (.inl (some A)), some (zi xc), some (zi xf), some (zi xk), none]) (st' := [zi xc, .inl (some A)]) (by decide +kernel) (fun k q => by cases q) rfl ?_
  refine y_same (i := .dup2) (len := 1) (r := (0, 0, 0, 0)) (pc' := 3) (ls' := [some (.inl (some A)), some (zi xc), some (zi xf), some (zi xk), none]) (st' := [zi xc, .inl (some A), zi xc, .inl (some A)]) (by decide +kernel) (fun k q => by cases q) rfl ?_
  refine y_ial (i := c) (len := 1) (r := (0, 0, 0, 0)) (by decide +kernel) hg tA aT (by omega) hn ?_
  refine y_ic (c := 1) (len := 1) (r := (0, 0, 0, 0)) (by decide +kernel) (by decide) (fun y2194 hy2194 => ?_)
  refine y_sub (len := 1) (r := (0, 0, 0, 0)) (by decide +kernel) (by omega) (by omega) (fun y2195 hy2195 => ?_)
  refine y_ias (i := c) (len := 1) (r := (0, 0, 0, 0)) (by decide +kernel) hg tA aT pT (by omega) (by omega) (srA (by omega)) (by omega) (by omega) (fun h2196 hg2196 hl2196 hs2196 ho2196 => ?_)
  refine y_same (i := .iload_n 2) (len := 1) (r := (0, 0, 0, 0)) (pc' := 8) (ls' := [some (.inl (some A)), some (zi xc), some (zi xf), some (zi xk), none]) (st' := [zi xf]) (by decide +kernel) (fun k q => by cases q) rfl ?_
  refine y_ic (c := 4) (len := 1) (r := (0, 0, 0, 0)) (by decide +kernel) (by decide) (fun y2197 hy2197 => ?_)
  refine y_same (i := .iload_n 3) (len := 1) (r := (0, 0, 0, 0)) (pc' := 10) (ls' := [some (.inl (some A)), some (zi xc), some (zi xf), some (zi xk), none]) (st' := [zi xk, zi y2197, zi xf]) (by decide +kernel) (fun k q => by cases q) rfl ?_
  refine y_mul (c := 4) (len := 1) (r := (0, 0, 0, 0)) (by decide +kernel) (by omega) (by omega) (by omega) (fun y2198 hy2198 => ?_)
  refine y_add (len := 1) (r := (0, 0, 0, 0)) (by decide +kernel) (by omega) (by omega) (fun y2199 hy2199 => ?_)
  refine y_same (i := .istore 4) (len := 2) (r := (0, 0, 0, 0)) (pc' := 14) (ls' := [some (.inl (some A)), some (zi xc), some (zi xf), some (zi xk), some (zi y2199)]) (st' := []) (by decide +kernel) (fun k q => by cases q) rfl ?_
  refine qX_V (gom_l (h0 := h2196) (m := m) rt tA aT hc0 pT exc hc exf hf (by omega) (by omega) hkm (f + 4 * m + 1) h2196 (f + 4 * k) y2199 hg2196 hs2196 (fun j h1 h2 => absurd h2 (by omega)) (fun j _ => rfl) (fun k j _ => rfl) (by omega) (by omega) (by omega) (by omega)) (fun h1 hR => ?_)
  obtain ⟨g1, c1, c2⟩ := hR
  exact ⟨g1, ⟨_, (c2 A c (by omega)).trans hs2196, by omega⟩, fun j h1 h2 => (c1 j h1 h2).trans (ho2196 A (j + 4) (by omega)), fun k j hC => (c2 k j (by omega)).trans (ho2196 k j (by omega))⟩
theorem m_goL {d t A : Nat} {τ : List Nat} {h : zh} {s : sqT} (Q : QM τ h A s) {k : Nat} {xc xf xk : Int32} (exc : xc.toInt = 0) (exf : xf.toInt = 24) (exk : xk.toInt = (k : Int)) (hk : k < s.1.length) : qV (d + 2) 207 [some (.inl (some A)), some (zi xc), some (zi xf), some (zi xk), none] h t (fun h1 => QM τ h1 A (s.1.eraseIdx k, s.2.1, s.2.2.1, s.2.2.2) ∧ FM A h h1) := by
  obtain ⟨m, hl⟩ : ∃ m, s.1.length = m + 1 := ⟨s.1.length - 1, by omega⟩
  have ll := qm_lenL Q
  have hn0 : ci_ h A 0 (m + 1) := by rw [← hl]; exact Q.2.2.1.1
  refine qV_mono (m_go (c := 0) (f := 24) (m := m) Q.1 Q.2.1 (by omega) (by decide) (by omega) (by decide) exk (by omega) hn0) (fun h1 hR => ?_)
  obtain ⟨g1, cN, c1, F⟩ := hR
  obtain ⟨a, b, c, d, f, g, i⟩ := Q.2.2.1
  exact ⟨⟨g1, Q.2.1, ⟨by rw [er_len hk, hl, Nat.add_sub_cancel]; exact cN, ci_up b (F _ _ (by omega)), ci_up c (F _ _ (by omega)), fun j x hj => er_it (base := 24) (m := m) hl hj (fun j9 x9 h9 => d j9 x9 h9) c1 (fun j9 h9 => F A j9 (by omega)), fun j x hj => qdM_up (f j x hj) (fun w hw => F A _ (by have q9 : j < s.2.1.length := (List.getElem?_eq_some_iff.mp hj).1; have := qm_lenR Q; omega)), fun j x hj => qdM_up (g j x hj) (fun w hw => F A _ (by have q9 : j < s.2.2.1.length := (List.getElem?_eq_some_iff.mp hj).1; have := qm_lenC Q; omega)), dC_up2 i (fun j hj => F A _ (by omega))⟩, okQ_erL Q.2.2.2⟩, fun k j hC => F k j (Or.inl hC)⟩
theorem m_goR {d t A : Nat} {τ : List Nat} {h : zh} {s : sqT} (Q : QM τ h A s) {k : Nat} {xc xf xk : Int32} (exc : xc.toInt = 1) (exf : xf.toInt = 80) (exk : xk.toInt = (k : Int)) (hk : k < s.2.1.length) : qV (d + 2) 207 [some (.inl (some A)), some (zi xc), some (zi xf), some (zi xk), none] h t (fun h1 => QM τ h1 A (s.1, s.2.1.eraseIdx k, s.2.2.1, s.2.2.2) ∧ FM A h h1) := by
  obtain ⟨m, hl⟩ : ∃ m, s.2.1.length = m + 1 := ⟨s.2.1.length - 1, by omega⟩
  have ll := qm_lenR Q
  have hn0 : ci_ h A 1 (m + 1) := by rw [← hl]; exact Q.2.2.1.2.1
  refine qV_mono (m_go (c := 1) (f := 80) (m := m) Q.1 Q.2.1 (by omega) (by decide) (by omega) (by decide) exk (by omega) hn0) (fun h1 hR => ?_)
  obtain ⟨g1, cN, c1, F⟩ := hR
  obtain ⟨a, b, c, d, f, g, i⟩ := Q.2.2.1
  exact ⟨⟨g1, Q.2.1, ⟨ci_up a (F _ _ (by omega)), by rw [er_len hk, hl, Nat.add_sub_cancel]; exact cN, ci_up c (F _ _ (by omega)), fun j x hj => qdM_up (d j x hj) (fun w hw => F A _ (by have q9 : j < s.1.length := (List.getElem?_eq_some_iff.mp hj).1; have := qm_lenL Q; omega)), fun j x hj => er_it (base := 80) (m := m) hl hj (fun j9 x9 h9 => f j9 x9 h9) c1 (fun j9 h9 => F A j9 (by omega)), fun j x hj => qdM_up (g j x hj) (fun w hw => F A _ (by have q9 : j < s.2.2.1.length := (List.getElem?_eq_some_iff.mp hj).1; have := qm_lenC Q; omega)), dC_up2 i (fun j hj => F A _ (by omega))⟩, okQ_erR Q.2.2.2⟩, fun k j hC => F k j (Or.inl hC)⟩
theorem m_goC {d t A : Nat} {τ : List Nat} {h : zh} {s : sqT} (Q : QM τ h A s) {k : Nat} {xc xf xk : Int32} (exc : xc.toInt = 2) (exf : xf.toInt = 136) (exk : xk.toInt = (k : Int)) (hk : k < s.2.2.1.length) : qV (d + 2) 207 [some (.inl (some A)), some (zi xc), some (zi xf), some (zi xk), none] h t (fun h1 => QM τ h1 A (s.1, s.2.1, s.2.2.1.eraseIdx k, s.2.2.2) ∧ FM A h h1) := by
  obtain ⟨m, hl⟩ : ∃ m, s.2.2.1.length = m + 1 := ⟨s.2.2.1.length - 1, by omega⟩
  have ll := qm_lenC Q
  have hn0 : ci_ h A 2 (m + 1) := by rw [← hl]; exact Q.2.2.1.2.2.1
  refine qV_mono (m_go (c := 2) (f := 136) (m := m) Q.1 Q.2.1 (by omega) (by decide) (by omega) (by decide) exk (by omega) hn0) (fun h1 hR => ?_)
  obtain ⟨g1, cN, c1, F⟩ := hR
  obtain ⟨a, b, c, d, f, g, i⟩ := Q.2.2.1
  exact ⟨⟨g1, Q.2.1, ⟨ci_up a (F _ _ (by omega)), ci_up b (F _ _ (by omega)), by rw [er_len hk, hl, Nat.add_sub_cancel]; exact cN, fun j x hj => qdM_up (d j x hj) (fun w hw => F A _ (by have q9 : j < s.1.length := (List.getElem?_eq_some_iff.mp hj).1; have := qm_lenL Q; omega)), fun j x hj => qdM_up (f j x hj) (fun w hw => F A _ (by have q9 : j < s.2.1.length := (List.getElem?_eq_some_iff.mp hj).1; have := qm_lenR Q; omega)), fun j x hj => er_it (base := 136) (m := m) hl hj (fun j9 x9 h9 => g j9 x9 h9) c1 (fun j9 h9 => F A j9 (by omega)), dC_up2 i (fun j hj => F A _ (by omega))⟩, okQ_erC Q.2.2.2⟩, fun k j hC => F k j (Or.inl hC)⟩
theorem m_goL1 {d t A : Nat} {τ : List Nat} {h : zh} {s : sqT} (Q : QM τ h A s) {k : Nat} {xk : Int32} (exk : xk.toInt = (k : Int)) (hk : k < s.1.length) : qV (d + 3) 208 [some (.inl (some A)), some (zi xk)] h t (fun h1 => QM τ h1 A (s.1.eraseIdx k, s.2.1, s.2.2.1, s.2.2.2) ∧ FM A h h1) := by
  obtain ⟨T, c0, tA, aT, hc0, pT⟩ := Q.2.1
  refine qV_of ?_
  refine y_same (i := .aload_n 0) (len := 1) (r := (0, 0, 0, 0)) (pc' := 1) (ls' := [some (.inl (some A)), some (zi xk)]) (st' := [.inl (some A)]) (by decide +kernel) (fun k q => by cases q) rfl ?_
  refine y_ic (c := 0) (len := 1) (r := (0, 0, 0, 0)) (by decide +kernel) (by decide) (fun y2200 hy2200 => ?_)
  refine y_bi (c := 24) (len := 2) (r := (0, 0, 0, 0)) (by decide +kernel) (by decide) (fun y2201 hy2201 => ?_)
  refine y_same (i := .iload_n 1) (len := 1) (r := (0, 0, 0, 0)) (pc' := 5) (ls' := [some (.inl (some A)), some (zi xk)]) (st' := [zi xk, zi y2201, zi y2200, .inl (some A)]) (by decide +kernel) (fun k q => by cases q) rfl ?_
  refine y_cV (i := .invokestatic 269) (len := 3) (r := (1, 207, 12, 1657)) (nL := 5) (k := 0) (n := 4) (hs := []) (args := [.inl (some A), zi y2200, zi y2201, zi xk]) (rest := []) (l0 := [some (.inl (some A)), some (zi y2200), some (zi y2201), some (zi xk), none]) (by decide +kernel) (Or.inl ⟨_, rfl⟩) rfl rfl rfl rfl (Nat.le_of_ble_eq_true rfl) rfl rfl (qV_le (by omega) (m_goL (d := 0) (k := k) Q (by omega) (by omega) (by omega) hk)) (fun h2202 hR2202 => ?_)
  refine y_rV (len := 1) (r := (0, 0, 0, 0)) (nL := 2) (n9 := 2) (hs := []) (by decide +kernel) rfl ?_
  exact hR2202
theorem m_goR1 {d t A : Nat} {τ : List Nat} {h : zh} {s : sqT} (Q : QM τ h A s) {k : Nat} {xk : Int32} (exk : xk.toInt = (k : Int)) (hk : k < s.2.1.length) : qV (d + 3) 209 [some (.inl (some A)), some (zi xk)] h t (fun h1 => QM τ h1 A (s.1, s.2.1.eraseIdx k, s.2.2.1, s.2.2.2) ∧ FM A h h1) := by
  obtain ⟨T, c0, tA, aT, hc0, pT⟩ := Q.2.1
  refine qV_of ?_
  refine y_same (i := .aload_n 0) (len := 1) (r := (0, 0, 0, 0)) (pc' := 1) (ls' := [some (.inl (some A)), some (zi xk)]) (st' := [.inl (some A)]) (by decide +kernel) (fun k q => by cases q) rfl ?_
  refine y_ic (c := 1) (len := 1) (r := (0, 0, 0, 0)) (by decide +kernel) (by decide) (fun y2203 hy2203 => ?_)
  refine y_bi (c := 80) (len := 2) (r := (0, 0, 0, 0)) (by decide +kernel) (by decide) (fun y2204 hy2204 => ?_)
  refine y_same (i := .iload_n 1) (len := 1) (r := (0, 0, 0, 0)) (pc' := 5) (ls' := [some (.inl (some A)), some (zi xk)]) (st' := [zi xk, zi y2204, zi y2203, .inl (some A)]) (by decide +kernel) (fun k q => by cases q) rfl ?_
  refine y_cV (i := .invokestatic 269) (len := 3) (r := (1, 207, 12, 1657)) (nL := 5) (k := 0) (n := 4) (hs := []) (args := [.inl (some A), zi y2203, zi y2204, zi xk]) (rest := []) (l0 := [some (.inl (some A)), some (zi y2203), some (zi y2204), some (zi xk), none]) (by decide +kernel) (Or.inl ⟨_, rfl⟩) rfl rfl rfl rfl (Nat.le_of_ble_eq_true rfl) rfl rfl (qV_le (by omega) (m_goR (d := 0) (k := k) Q (by omega) (by omega) (by omega) hk)) (fun h2205 hR2205 => ?_)
  refine y_rV (len := 1) (r := (0, 0, 0, 0)) (nL := 2) (n9 := 2) (hs := []) (by decide +kernel) rfl ?_
  exact hR2205
