theorem c_has5 {d t RA : Nat} {τ : List Nat} {h : zh} {xl xk : Int32} (hg : hG τ h) (tRA : τ[RA]? = some 1002) (hl : hsl h RA 1 = some (zi xl)) : qI (d + 1) 63 [some (.inl (some RA)), some (zi xk)] h t (fun y h1 => h = h1 ∧ ((y.toInt = 1 ∧ 0 ≤ xk.toInt ∧ xk.toInt < xl.toInt) ∨ (y.toInt = 0 ∧ ¬ (0 ≤ xk.toInt ∧ xk.toInt < xl.toInt)))) := by
  refine qI_of ?_
  refine y_same (i := .iload_n 1) (len := 1) (r := (0, 0, 0, 0)) (pc' := 1) (ls' := [some (.inl (some RA)), some (zi xk)]) (st' := [zi xk]) (by decide +kernel) (fun k q => by cases q) rfl ?_
  rcases Decidable.em (xk.toInt < 0) with q2056 | q2056
  ·
    refine y_iT (c := .lt) (off := 15) (pc' := 16) (len := 3) (r := (0, 0, 0, 0)) (by decide +kernel) (acmpT (c := .lt) (by show _ < _; omega)) (by decide +kernel) ?_
    refine y_ic (c := 0) (len := 1) (r := (0, 0, 0, 0)) (by decide +kernel) (by decide) (fun y2057 hy2057 => ?_)
    refine y_rI (len := 1) (r := (0, 0, 0, 0)) (nL := 2) (k := 2) (n9 := 2) (hs := []) (by decide +kernel) rfl (zfit_b (by omega) (by omega)).2 ?_
    exact ⟨rfl, by omega⟩
  ·
    refine y_iF (c := .lt) (off := 15) (len := 3) (r := (0, 0, 0, 0)) (by decide +kernel) (acmpF (c := .lt) (by show _ ≤ _; omega)) ?_
    refine y_same (i := .iload_n 1) (len := 1) (r := (0, 0, 0, 0)) (pc' := 5) (ls' := [some (.inl (some RA)), some (zi xk)]) (st' := [zi xk]) (by decide +kernel) (fun k q => by cases q) rfl ?_
    refine y_same (i := .aload_n 0) (len := 1) (r := (0, 0, 0, 0)) (pc' := 6) (ls' := [some (.inl (some RA)), some (zi xk)]) (st' := [.inl (some RA), zi xk]) (by decide +kernel) (fun k q => by cases q) rfl ?_
    refine y_get (j := 9) (len := 3) (r := (6, 1, 0, 164)) (by decide +kernel) hg tRA aw1002 rfl rfl hl ?_
    rcases Decidable.em (xk.toInt ≥ xl.toInt) with q2058 | q2058
    ·
      refine y_cT (c := .ge) (off := 7) (pc' := 16) (len := 3) (r := (0, 0, 0, 0)) (by decide +kernel) (acmpT (c := .ge) (by show _ ≤ _; omega)) (by decide +kernel) ?_
      refine y_ic (c := 0) (len := 1) (r := (0, 0, 0, 0)) (by decide +kernel) (by decide) (fun y2059 hy2059 => ?_)
      refine y_rI (len := 1) (r := (0, 0, 0, 0)) (nL := 2) (k := 2) (n9 := 2) (hs := []) (by decide +kernel) rfl (zfit_b (by omega) (by omega)).2 ?_
      exact ⟨rfl, by omega⟩
    ·
      refine y_cF (c := .ge) (off := 7) (len := 3) (r := (0, 0, 0, 0)) (by decide +kernel) (acmpF (c := .ge) (by show _ < _; omega)) ?_
      refine y_ic (c := 1) (len := 1) (r := (0, 0, 0, 0)) (by decide +kernel) (by decide) (fun y2060 hy2060 => ?_)
      refine y_goto (off := 4) (pc' := 17) (len := 3) (r := (0, 0, 0, 0)) (by decide +kernel) (by decide +kernel) ?_
      refine y_rI (len := 1) (r := (0, 0, 0, 0)) (nL := 2) (k := 2) (n9 := 2) (hs := []) (by decide +kernel) rfl (zfit_b (by omega) (by omega)).2 ?_
      exact ⟨rfl, by omega⟩
theorem c_has6 {d t RA : Nat} {τ : List Nat} {h : zh} {xl xk : Int32} (hg : hG τ h) (tRA : τ[RA]? = some 1003) (hl : hsl h RA 1 = some (zi xl)) : qI (d + 1) 63 [some (.inl (some RA)), some (zi xk)] h t (fun y h1 => h = h1 ∧ ((y.toInt = 1 ∧ 0 ≤ xk.toInt ∧ xk.toInt < xl.toInt) ∨ (y.toInt = 0 ∧ ¬ (0 ≤ xk.toInt ∧ xk.toInt < xl.toInt)))) := by
  refine qI_of ?_
  refine y_same (i := .iload_n 1) (len := 1) (r := (0, 0, 0, 0)) (pc' := 1) (ls' := [some (.inl (some RA)), some (zi xk)]) (st' := [zi xk]) (by decide +kernel) (fun k q => by cases q) rfl ?_
  rcases Decidable.em (xk.toInt < 0) with q2061 | q2061
  ·
    refine y_iT (c := .lt) (off := 15) (pc' := 16) (len := 3) (r := (0, 0, 0, 0)) (by decide +kernel) (acmpT (c := .lt) (by show _ < _; omega)) (by decide +kernel) ?_
    refine y_ic (c := 0) (len := 1) (r := (0, 0, 0, 0)) (by decide +kernel) (by decide) (fun y2062 hy2062 => ?_)
    refine y_rI (len := 1) (r := (0, 0, 0, 0)) (nL := 2) (k := 2) (n9 := 2) (hs := []) (by decide +kernel) rfl (zfit_b (by omega) (by omega)).2 ?_
    exact ⟨rfl, by omega⟩
  ·
    refine y_iF (c := .lt) (off := 15) (len := 3) (r := (0, 0, 0, 0)) (by decide +kernel) (acmpF (c := .lt) (by show _ ≤ _; omega)) ?_
    refine y_same (i := .iload_n 1) (len := 1) (r := (0, 0, 0, 0)) (pc' := 5) (ls' := [some (.inl (some RA)), some (zi xk)]) (st' := [zi xk]) (by decide +kernel) (fun k q => by cases q) rfl ?_
    refine y_same (i := .aload_n 0) (len := 1) (r := (0, 0, 0, 0)) (pc' := 6) (ls' := [some (.inl (some RA)), some (zi xk)]) (st' := [.inl (some RA), zi xk]) (by decide +kernel) (fun k q => by cases q) rfl ?_
    refine y_get (j := 9) (len := 3) (r := (6, 1, 0, 164)) (by decide +kernel) hg tRA aw1003 rfl rfl hl ?_
    rcases Decidable.em (xk.toInt ≥ xl.toInt) with q2063 | q2063
    ·
      refine y_cT (c := .ge) (off := 7) (pc' := 16) (len := 3) (r := (0, 0, 0, 0)) (by decide +kernel) (acmpT (c := .ge) (by show _ ≤ _; omega)) (by decide +kernel) ?_
      refine y_ic (c := 0) (len := 1) (r := (0, 0, 0, 0)) (by decide +kernel) (by decide) (fun y2064 hy2064 => ?_)
      refine y_rI (len := 1) (r := (0, 0, 0, 0)) (nL := 2) (k := 2) (n9 := 2) (hs := []) (by decide +kernel) rfl (zfit_b (by omega) (by omega)).2 ?_
      exact ⟨rfl, by omega⟩
    ·
      refine y_cF (c := .ge) (off := 7) (len := 3) (r := (0, 0, 0, 0)) (by decide +kernel) (acmpF (c := .ge) (by show _ < _; omega)) ?_
      refine y_ic (c := 1) (len := 1) (r := (0, 0, 0, 0)) (by decide +kernel) (by decide) (fun y2065 hy2065 => ?_)
      refine y_goto (off := 4) (pc' := 17) (len := 3) (r := (0, 0, 0, 0)) (by decide +kernel) (by decide +kernel) ?_
      refine y_rI (len := 1) (r := (0, 0, 0, 0)) (nL := 2) (k := 2) (n9 := 2) (hs := []) (by decide +kernel) rfl (zfit_b (by omega) (by omega)).2 ?_
      exact ⟨rfl, by omega⟩
theorem c_isSide {d t : Nat} {h : zh} {x : Int32} : qI (d + 1) 156 [some (zi x)] h t (fun y h1 => h = h1 ∧ ((y.toInt = 1 ∧ (x.toInt = 0 ∨ x.toInt = 1)) ∨ (y.toInt = 0 ∧ ¬ (x.toInt = 0 ∨ x.toInt = 1)))) := by
  refine qI_of ?_
  refine y_same (i := .iload_n 0) (len := 1) (r := (0, 0, 0, 0)) (pc' := 1) (ls' := [some (zi x)]) (st' := [zi x]) (by decide +kernel) (fun k q => by cases q) rfl ?_
  rcases Decidable.em (x.toInt = 0) with q2066 | q2066
  ·
    refine y_iT (c := .eq) (off := 8) (pc' := 9) (len := 3) (r := (0, 0, 0, 0)) (by decide +kernel) (acmpT (c := .eq) (by show _ = _; omega)) (by decide +kernel) ?_
    refine y_ic (c := 1) (len := 1) (r := (0, 0, 0, 0)) (by decide +kernel) (by decide) (fun y2067 hy2067 => ?_)
    refine y_goto (off := 4) (pc' := 14) (len := 3) (r := (0, 0, 0, 0)) (by decide +kernel) (by decide +kernel) ?_
    refine y_rI (len := 1) (r := (0, 0, 0, 0)) (nL := 1) (k := 2) (n9 := 1) (hs := []) (by decide +kernel) rfl (zfit_b (by omega) (by omega)).2 ?_
    exact ⟨rfl, by omega⟩
  ·
    refine y_iF (c := .eq) (off := 8) (len := 3) (r := (0, 0, 0, 0)) (by decide +kernel) (acmpF (c := .eq) (by show ¬ (_ = _); omega)) ?_
    refine y_same (i := .iload_n 0) (len := 1) (r := (0, 0, 0, 0)) (pc' := 5) (ls' := [some (zi x)]) (st' := [zi x]) (by decide +kernel) (fun k q => by cases q) rfl ?_
    refine y_ic (c := 1) (len := 1) (r := (0, 0, 0, 0)) (by decide +kernel) (by decide) (fun y2068 hy2068 => ?_)
    rcases Decidable.em (x.toInt ≠ y2068.toInt) with q2069 | q2069
    ·
      refine y_cT (c := .ne) (off := 7) (pc' := 13) (len := 3) (r := (0, 0, 0, 0)) (by decide +kernel) (acmpT (c := .ne) (by show ¬ (_ = _); omega)) (by decide +kernel) ?_
      refine y_ic (c := 0) (len := 1) (r := (0, 0, 0, 0)) (by decide +kernel) (by decide) (fun y2070 hy2070 => ?_)
      refine y_rI (len := 1) (r := (0, 0, 0, 0)) (nL := 1) (k := 2) (n9 := 1) (hs := []) (by decide +kernel) rfl (zfit_b (by omega) (by omega)).2 ?_
      exact ⟨rfl, by omega⟩
    ·
      refine y_cF (c := .ne) (off := 7) (len := 3) (r := (0, 0, 0, 0)) (by decide +kernel) (acmpF (c := .ne) (by show _ = _; omega)) ?_
      refine y_ic (c := 1) (len := 1) (r := (0, 0, 0, 0)) (by decide +kernel) (by decide) (fun y2071 hy2071 => ?_)
      refine y_goto (off := 4) (pc' := 14) (len := 3) (r := (0, 0, 0, 0)) (by decide +kernel) (by decide +kernel) ?_
      refine y_rI (len := 1) (r := (0, 0, 0, 0)) (nL := 1) (k := 2) (n9 := 1) (hs := []) (by decide +kernel) rfl (zfit_b (by omega) (by omega)).2 ?_
      exact ⟨rfl, by omega⟩
theorem c_side0 {d t u v : Nat} {τ : List Nat} {h : zh} {x : Int32} (hg : hG τ h) (hx : x.toInt = 0) (r0 : rfs h 2 0 (2 + u)) (r1 : rfs h 2 1 (2 + v)) : qA (d + 1) 108 [some (.inl (some 2)), some (zi x)] h t (2 + u) (fun h1 => h = h1) := by
  refine qA_of ?_
  refine y_same (i := .iload_n 1) (len := 1) (r := (0, 0, 0, 0)) (pc' := 1) (ls' := [some (.inl (some 2)), some (zi x)]) (st' := [zi x]) (by decide +kernel) (fun k q => by cases q) rfl ?_
  refine y_iF (c := .ne) (off := 10) (len := 3) (r := (0, 0, 0, 0)) (by decide +kernel) (acmpF (c := .ne) (by show _ = _; omega)) ?_
  refine y_same (i := .aload_n 0) (len := 1) (r := (0, 0, 0, 0)) (pc' := 5) (ls' := [some (.inl (some 2)), some (zi x)]) (st' := [.inl (some 2)]) (by decide +kernel) (fun k q => by cases q) rfl ?_
  refine y_get (j := 10) (len := 3) (r := (9, 0, 2, 197)) (by decide +kernel) hg (tv2 hg) aw1000 rfl rfl r0 ?_
  refine y_goto (off := 7) (pc' := 15) (len := 3) (r := (0, 0, 0, 0)) (by decide +kernel) (by decide +kernel) ?_
  refine y_rA (len := 1) (r := (0, 0, 0, 0)) (nL := 2) (n9 := 2) (hs := []) (by decide +kernel) rfl ?_
  exact rfl
theorem c_side1 {d t u v : Nat} {τ : List Nat} {h : zh} {x : Int32} (hg : hG τ h) (hx : x.toInt = 1) (r0 : rfs h 2 0 (2 + u)) (r1 : rfs h 2 1 (2 + v)) : qA (d + 1) 108 [some (.inl (some 2)), some (zi x)] h t (2 + v) (fun h1 => h = h1) := by
  refine qA_of ?_
  refine y_same (i := .iload_n 1) (len := 1) (r := (0, 0, 0, 0)) (pc' := 1) (ls' := [some (.inl (some 2)), some (zi x)]) (st' := [zi x]) (by decide +kernel) (fun k q => by cases q) rfl ?_
  refine y_iT (c := .ne) (off := 10) (pc' := 11) (len := 3) (r := (0, 0, 0, 0)) (by decide +kernel) (acmpT (c := .ne) (by show ¬ (_ = _); omega)) (by decide +kernel) ?_
  refine y_same (i := .aload_n 0) (len := 1) (r := (0, 0, 0, 0)) (pc' := 12) (ls' := [some (.inl (some 2)), some (zi x)]) (st' := [.inl (some 2)]) (by decide +kernel) (fun k q => by cases q) rfl ?_
  refine y_get (j := 16) (len := 3) (r := (9, 1, 2, 202)) (by decide +kernel) hg (tv2 hg) aw1000 rfl rfl r1 ?_
  refine y_rA (len := 1) (r := (0, 0, 0, 0)) (nL := 2) (n9 := 2) (hs := []) (by decide +kernel) rfl ?_
  exact rfl
theorem rm5_l {d t m k RA IA : Nat} {τ : List Nat} {h0 : zh} {xm xk : Int32} (tRA : τ[RA]? = some 1002) (tIA : τ[IA]? = some 1005) (n3 : RA ≠ IA) (em : xm.toInt = (m : Int)) (hm5 : m < 5) (exk : xk.toInt = (k : Int)) (hkm : k ≤ m) : ∀ (n : Nat) (h : zh) (j : Nat) (xj : Int32), hG τ h → hsl h RA 1 = some (zi xm) → hsl h RA 0 = some (.inl (some IA)) → (∀ i, (i < k ∨ j ≤ i) → hsl h IA i = hsl h0 IA i) → (∀ i, k ≤ i → i < j → hsl h IA i = hsl h0 IA (i + 1)) → (∀ k j, k ≠ IA → hsl h k j = hsl h0 k j) → xj.toInt = (j : Int) → k ≤ j → j ≤ m → m ≤ j + n → qX d 70 25 [some (.inl (some RA)), some (zi xk), some (zi xj)] [] h t (rV (fun h1 => hG τ h1 ∧ (∀ i, i < k → hsl h1 IA i = hsl h0 IA i) ∧ (∀ i, k ≤ i → i < m → hsl h1 IA i = hsl h0 IA (i + 1)) ∧ ∀ k j, k ≠ IA → hsl h1 k j = hsl h0 k j) t) := by
  intro n
  induction n with
  | zero =>
    intro h j xj hg hm pA c1 c2 c3 hxj hj1 hj hn
    refine y_same (i := .iload_n 2) (len := 1) (r := (0, 0, 0, 0)) (pc' := 26) (ls' := [some (.inl (some RA)), some (zi xk), some (zi xj)]) (st' := [zi xj]) (by decide +kernel) (fun k q => by cases q) rfl ?_
    refine y_same (i := .aload_n 0) (len := 1) (r := (0, 0, 0, 0)) (pc' := 27) (ls' := [some (.inl (some RA)), some (zi xk), some (zi xj)]) (st' := [.inl (some RA), zi xj]) (by decide +kernel) (fun k q => by cases q) rfl ?_
    refine y_get (j := 9) (len := 3) (r := (6, 1, 0, 164)) (by decide +kernel) hg tRA aw1002 rfl rfl hm ?_
    refine y_cT (c := .ge) (off := 23) (pc' := 53) (len := 3) (r := (0, 0, 0, 0)) (by decide +kernel) (acmpT (c := .ge) (by show _ ≤ _; omega)) (by decide +kernel) ?_
    refine y_rV (len := 1) (r := (0, 0, 0, 0)) (nL := 3) (n9 := 2) (hs := []) (by decide +kernel) rfl ?_
    exact ⟨hg, fun i hi => c1 i (by omega), fun i h1 h2 => c2 i h1 (by omega), c3⟩
  | succ n ih =>
    intro h j xj hg hm pA c1 c2 c3 hxj hj1 hj hn
    rcases Nat.lt_or_ge j m with q | q
    ·
      refine y_same (i := .iload_n 2) (len := 1) (r := (0, 0, 0, 0)) (pc' := 26) (ls' := [some (.inl (some RA)), some (zi xk), some (zi xj)]) (st' := [zi xj]) (by decide +kernel) (fun k q => by cases q) rfl ?_
      refine y_same (i := .aload_n 0) (len := 1) (r := (0, 0, 0, 0)) (pc' := 27) (ls' := [some (.inl (some RA)), some (zi xk), some (zi xj)]) (st' := [.inl (some RA), zi xj]) (by decide +kernel) (fun k q => by cases q) rfl ?_
      refine y_get (j := 9) (len := 3) (r := (6, 1, 0, 164)) (by decide +kernel) hg tRA aw1002 rfl rfl hm ?_
      refine y_cF (c := .ge) (off := 23) (len := 3) (r := (0, 0, 0, 0)) (by decide +kernel) (acmpF (c := .ge) (by show _ < _; omega)) ?_
      refine y_same (i := .aload_n 0) (len := 1) (r := (0, 0, 0, 0)) (pc' := 34) (ls' := [some (.inl (some RA)), some (zi xk), some (zi xj)]) (st' := [.inl (some RA)]) (by decide +kernel) (fun k q => by cases q) rfl ?_
      refine y_get (j := 15) (len := 3) (r := (6, 0, 2, 163)) (by decide +kernel) hg tRA aw1002 rfl rfl pA ?_
      refine y_same (i := .iload_n 2) (len := 1) (r := (0, 0, 0, 0)) (pc' := 38) (ls' := [some (.inl (some RA)), some (zi xk), some (zi xj)]) (st' := [zi xj, .inl (some IA)]) (by decide +kernel) (fun k q => by cases q) rfl ?_
      refine y_same (i := .aload_n 0) (len := 1) (r := (0, 0, 0, 0)) (pc' := 39) (ls' := [some (.inl (some RA)), some (zi xk), some (zi xj)]) (st' := [.inl (some RA), zi xj, .inl (some IA)]) (by decide +kernel) (fun k q => by cases q) rfl ?_
      refine y_get (j := 15) (len := 3) (r := (6, 0, 2, 163)) (by decide +kernel) hg tRA aw1002 rfl rfl pA ?_
      refine y_same (i := .iload_n 2) (len := 1) (r := (0, 0, 0, 0)) (pc' := 43) (ls' := [some (.inl (some RA)), some (zi xk), some (zi xj)]) (st' := [zi xj, .inl (some IA), zi xj, .inl (some IA)]) (by decide +kernel) (fun k q => by cases q) rfl ?_
      refine y_ic (c := 1) (len := 1) (r := (0, 0, 0, 0)) (by decide +kernel) (by decide) (fun y2072 hy2072 => ?_)
      refine y_add (len := 1) (r := (0, 0, 0, 0)) (by decide +kernel) (by omega) (by omega) (fun y2073 hy2073 => ?_)
      obtain ⟨v2074, hv2075, lv2074, uv2074⟩ := g_int (i := (j + 1)) hg tIA aw1005 (show (j + 1) < 5 by omega) (sr1 (by omega))
      refine y_ial (i := (j + 1)) (len := 1) (r := (0, 0, 0, 0)) (by decide +kernel) hg tIA aw1005 (by omega) hv2075 ?_
      refine y_ias (i := j) (len := 1) (r := (0, 0, 0, 0)) (by decide +kernel) hg tIA aw1005 rfl (by omega) (by omega) (sr1 (by omega)) (qin_full _).1 (qin_full _).2 (fun h2076 hg2076 hl2076 hs2076 ho2076 => ?_)
      refine y_inc (j := 2) (a := xj) (c := 1) (ls' := fun v => [some (.inl (some RA)), some (zi xk), some v]) (len := 3) (r := (0, 0, 0, 0)) (by decide +kernel) rfl (fun _ => rfl) (by decide) (by omega) (by omega) (fun y2077 hy2077 => ?_)
      show qX d 70 50 [some (.inl (some RA)), some (zi xk), some (zi y2077)] [] h2076 t _
      refine y_goto (off := (-25)) (pc' := 25) (len := 3) (r := (0, 0, 0, 0)) (by decide +kernel) (by decide +kernel) ?_
      refine ih h2076 (j + 1) y2077 hg2076 ((ho2076 RA 1 (Or.inl (by omega))).trans hm) ((ho2076 RA 0 (Or.inl (by omega))).trans pA) (fun i hi => (ho2076 IA i (Or.inr (by omega))).trans (c1 i (by omega))) (fun i h1 h2 => ?_) (fun k j hk => (ho2076 k j (Or.inl hk)).trans (c3 k j hk)) (by omega) (by omega) (by omega) (by omega)
      rcases Nat.lt_or_ge i j with q9 | q9
      · exact (ho2076 IA i (Or.inr (by omega))).trans (c2 i h1 q9)
      · have e9 : i = j := by omega
        subst e9
        exact hs2076.trans ((c1 (i + 1) (by omega)).symm.trans hv2075).symm
    ·
      refine y_same (i := .iload_n 2) (len := 1) (r := (0, 0, 0, 0)) (pc' := 26) (ls' := [some (.inl (some RA)), some (zi xk), some (zi xj)]) (st' := [zi xj]) (by decide +kernel) (fun k q => by cases q) rfl ?_
      refine y_same (i := .aload_n 0) (len := 1) (r := (0, 0, 0, 0)) (pc' := 27) (ls' := [some (.inl (some RA)), some (zi xk), some (zi xj)]) (st' := [.inl (some RA), zi xj]) (by decide +kernel) (fun k q => by cases q) rfl ?_
      refine y_get (j := 9) (len := 3) (r := (6, 1, 0, 164)) (by decide +kernel) hg tRA aw1002 rfl rfl hm ?_
      refine y_cT (c := .ge) (off := 23) (pc' := 53) (len := 3) (r := (0, 0, 0, 0)) (by decide +kernel) (acmpT (c := .ge) (by show _ ≤ _; omega)) (by decide +kernel) ?_
      refine y_rV (len := 1) (r := (0, 0, 0, 0)) (nL := 3) (n9 := 2) (hs := []) (by decide +kernel) rfl ?_
      exact ⟨hg, fun i hi => c1 i (by omega), fun i h1 h2 => c2 i h1 (by omega), c3⟩
theorem e_rm5 {d t k RA IA : Nat} {τ : List Nat} {h : zh} {l : List it4} {xk : Int32} (hg : hG τ h) (tRA : τ[RA]? = some 1002) (tIA : τ[IA]? = some 1005) (n3 : RA ≠ IA) (pA : hsl h RA 0 = some (.inl (some IA))) (r : rwC h RA IA l) (exk : xk.toInt = (k : Int)) (hkl : k < l.length) : qV (d + 1) 70 [some (.inl (some RA)), some (zi xk), none] h t (fun h1 => hG τ h1 ∧ rwC h1 RA IA (l.eraseIdx k) ∧ ∀ k j, (k ≠ IA ∧ (k ≠ RA ∨ j ≠ 1)) → hsl h1 k j = hsl h k j) := by
  obtain ⟨⟨xl, hl, el⟩, it⟩ := r
  obtain ⟨x9, e9, l9, u9⟩ := g_int (i := 1) (lo := 0) (hi := 5) hg tRA aw1002 (by decide) rfl
  have e8 := hl.symm.trans e9
  cases e8
  refine qV_of ?_
  refine y_same (i := .iload_n 1) (len := 1) (r := (0, 0, 0, 0)) (pc' := 1) (ls' := [some (.inl (some RA)), some (zi xk), none]) (st' := [zi xk]) (by decide +kernel) (fun k q => by cases q) rfl ?_
  refine y_iF (c := .lt) (off := 11) (len := 3) (r := (0, 0, 0, 0)) (by decide +kernel) (acmpF (c := .lt) (by show _ ≤ _; omega)) ?_
  refine y_same (i := .iload_n 1) (len := 1) (r := (0, 0, 0, 0)) (pc' := 5) (ls' := [some (.inl (some RA)), some (zi xk), none]) (st' := [zi xk]) (by decide +kernel) (fun k q => by cases q) rfl ?_
  refine y_same (i := .aload_n 0) (len := 1) (r := (0, 0, 0, 0)) (pc' := 6) (ls' := [some (.inl (some RA)), some (zi xk), none]) (st' := [.inl (some RA), zi xk]) (by decide +kernel) (fun k q => by cases q) rfl ?_
  refine y_get (j := 9) (len := 3) (r := (6, 1, 0, 164)) (by decide +kernel) hg tRA aw1002 rfl rfl hl ?_
  refine y_cT (c := .lt) (off := 4) (pc' := 13) (len := 3) (r := (0, 0, 0, 0)) (by decide +kernel) (acmpT (c := .lt) (by show _ < _; omega)) (by decide +kernel) ?_
  refine y_same (i := .aload_n 0) (len := 1) (r := (0, 0, 0, 0)) (pc' := 14) (ls' := [some (.inl (some RA)), some (zi xk), none]) (st' := [.inl (some RA)]) (by decide +kernel) (fun k q => by cases q) rfl ?_
  refine y_same (i := .dup) (len := 1) (r := (0, 0, 0, 0)) (pc' := 15) (ls' := [some (.inl (some RA)), some (zi xk), none]) (st' := [.inl (some RA), .inl (some RA)]) (by decide +kernel) (fun k q => by cases q) rfl ?_
  refine y_get (j := 9) (len := 3) (r := (6, 1, 0, 164)) (by decide +kernel) hg tRA aw1002 rfl rfl hl ?_
  refine y_ic (c := 1) (len := 1) (r := (0, 0, 0, 0)) (by decide +kernel) (by decide) (fun y2078 hy2078 => ?_)
  refine y_sub (len := 1) (r := (0, 0, 0, 0)) (by decide +kernel) (by omega) (by omega) (fun y2079 hy2079 => ?_)
  refine y_put (j := 9) (lo := 0) (hi := 5) (len := 3) (r := (6, 1, 0, 164)) (by decide +kernel) hg tRA aw1002 rfl rfl (by decide) rfl (by omega) (by omega) rfl (fun h2080 hg2080 hl2080 hs2080 ho2080 => ?_)
  have ho2080 : hO RA 1 h h2080 := ho2080
  have hs2080 : hsl h2080 RA 1 = some (zi y2079) := hs2080
  refine y_same (i := .iload_n 1) (len := 1) (r := (0, 0, 0, 0)) (pc' := 24) (ls' := [some (.inl (some RA)), some (zi xk), none]) (st' := [zi xk]) (by decide +kernel) (fun k q => by cases q) rfl ?_
  refine y_same (i := .istore_n 2) (len := 1) (r := (0, 0, 0, 0)) (pc' := 25) (ls' := [some (.inl (some RA)), some (zi xk), some (zi xk)]) (st' := []) (by decide +kernel) (fun k q => by cases q) rfl ?_
  refine qX_V (rm5_l (m := l.length - 1) (k := k) (h0 := h2080) tRA tIA n3 (by omega) (by omega) exk (by omega) 5 h2080 k xk hg2080 hs2080 ((ho2080 RA 0 (Or.inr (by omega))).trans pA) (fun i hi => rfl) (fun i h1 h2 => absurd h2 (by omega)) (fun k j _ => rfl) (by omega) (by omega) (by omega) (by omega)) (fun h1 hR => ?_)
  obtain ⟨g1, c1, c2, c3⟩ := hR
  refine ⟨g1, ⟨⟨y2079, (c3 RA 1 n3).trans hs2080, by rw [List.length_eraseIdx_of_lt hkl]; omega⟩, fun j i hj => ?_⟩, fun k j hk => (c3 k j hk.1).trans (ho2080 k j hk.2)⟩
  have hj9 := (List.getElem?_eq_some_iff.mp hj).1
  rw [List.length_eraseIdx_of_lt hkl] at hj9
  rw [List.getElem?_eraseIdx] at hj
  split at hj
  · obtain ⟨x, a, b⟩ := it j i hj
    exact ⟨x, (c1 j (by omega)).trans ((ho2080 IA j (Or.inl (by omega))).trans a), b⟩
  · obtain ⟨x, a, b⟩ := it (j + 1) i hj
    exact ⟨x, (c2 j (by omega) (by omega)).trans ((ho2080 IA (j + 1) (Or.inl (by omega))).trans a), b⟩
theorem rm6_l {d t m k RA IA : Nat} {τ : List Nat} {h0 : zh} {xm xk : Int32} (tRA : τ[RA]? = some 1003) (tIA : τ[IA]? = some 1006) (n3 : RA ≠ IA) (em : xm.toInt = (m : Int)) (hm5 : m < 6) (exk : xk.toInt = (k : Int)) (hkm : k ≤ m) : ∀ (n : Nat) (h : zh) (j : Nat) (xj : Int32), hG τ h → hsl h RA 1 = some (zi xm) → hsl h RA 0 = some (.inl (some IA)) → (∀ i, (i < k ∨ j ≤ i) → hsl h IA i = hsl h0 IA i) → (∀ i, k ≤ i → i < j → hsl h IA i = hsl h0 IA (i + 1)) → (∀ k j, k ≠ IA → hsl h k j = hsl h0 k j) → xj.toInt = (j : Int) → k ≤ j → j ≤ m → m ≤ j + n → qX d 70 25 [some (.inl (some RA)), some (zi xk), some (zi xj)] [] h t (rV (fun h1 => hG τ h1 ∧ (∀ i, i < k → hsl h1 IA i = hsl h0 IA i) ∧ (∀ i, k ≤ i → i < m → hsl h1 IA i = hsl h0 IA (i + 1)) ∧ ∀ k j, k ≠ IA → hsl h1 k j = hsl h0 k j) t) := by
  intro n
  induction n with
  | zero =>
    intro h j xj hg hm pA c1 c2 c3 hxj hj1 hj hn
    refine y_same (i := .iload_n 2) (len := 1) (r := (0, 0, 0, 0)) (pc' := 26) (ls' := [some (.inl (some RA)), some (zi xk), some (zi xj)]) (st' := [zi xj]) (by decide +kernel) (fun k q => by cases q) rfl ?_
    refine y_same (i := .aload_n 0) (len := 1) (r := (0, 0, 0, 0)) (pc' := 27) (ls' := [some (.inl (some RA)), some (zi xk), some (zi xj)]) (st' := [.inl (some RA), zi xj]) (by decide +kernel) (fun k q => by cases q) rfl ?_
    refine y_get (j := 9) (len := 3) (r := (6, 1, 0, 164)) (by decide +kernel) hg tRA aw1003 rfl rfl hm ?_
    refine y_cT (c := .ge) (off := 23) (pc' := 53) (len := 3) (r := (0, 0, 0, 0)) (by decide +kernel) (acmpT (c := .ge) (by show _ ≤ _; omega)) (by decide +kernel) ?_
    refine y_rV (len := 1) (r := (0, 0, 0, 0)) (nL := 3) (n9 := 2) (hs := []) (by decide +kernel) rfl ?_
    exact ⟨hg, fun i hi => c1 i (by omega), fun i h1 h2 => c2 i h1 (by omega), c3⟩
  | succ n ih =>
    intro h j xj hg hm pA c1 c2 c3 hxj hj1 hj hn
    rcases Nat.lt_or_ge j m with q | q
    ·
      refine y_same (i := .iload_n 2) (len := 1) (r := (0, 0, 0, 0)) (pc' := 26) (ls' := [some (.inl (some RA)), some (zi xk), some (zi xj)]) (st' := [zi xj]) (by decide +kernel) (fun k q => by cases q) rfl ?_
      refine y_same (i := .aload_n 0) (len := 1) (r := (0, 0, 0, 0)) (pc' := 27) (ls' := [some (.inl (some RA)), some (zi xk), some (zi xj)]) (st' := [.inl (some RA), zi xj]) (by decide +kernel) (fun k q => by cases q) rfl ?_
      refine y_get (j := 9) (len := 3) (r := (6, 1, 0, 164)) (by decide +kernel) hg tRA aw1003 rfl rfl hm ?_
      refine y_cF (c := .ge) (off := 23) (len := 3) (r := (0, 0, 0, 0)) (by decide +kernel) (acmpF (c := .ge) (by show _ < _; omega)) ?_
      refine y_same (i := .aload_n 0) (len := 1) (r := (0, 0, 0, 0)) (pc' := 34) (ls' := [some (.inl (some RA)), some (zi xk), some (zi xj)]) (st' := [.inl (some RA)]) (by decide +kernel) (fun k q => by cases q) rfl ?_
      refine y_get (j := 15) (len := 3) (r := (6, 0, 2, 163)) (by decide +kernel) hg tRA aw1003 rfl rfl pA ?_
      refine y_same (i := .iload_n 2) (len := 1) (r := (0, 0, 0, 0)) (pc' := 38) (ls' := [some (.inl (some RA)), some (zi xk), some (zi xj)]) (st' := [zi xj, .inl (some IA)]) (by decide +kernel) (fun k q => by cases q) rfl ?_
      refine y_same (i := .aload_n 0) (len := 1) (r := (0, 0, 0, 0)) (pc' := 39) (ls' := [some (.inl (some RA)), some (zi xk), some (zi xj)]) (st' := [.inl (some RA), zi xj, .inl (some IA)]) (by decide +kernel) (fun k q => by cases q) rfl ?_
      refine y_get (j := 15) (len := 3) (r := (6, 0, 2, 163)) (by decide +kernel) hg tRA aw1003 rfl rfl pA ?_
      refine y_same (i := .iload_n 2) (len := 1) (r := (0, 0, 0, 0)) (pc' := 43) (ls' := [some (.inl (some RA)), some (zi xk), some (zi xj)]) (st' := [zi xj, .inl (some IA), zi xj, .inl (some IA)]) (by decide +kernel) (fun k q => by cases q) rfl ?_
      refine y_ic (c := 1) (len := 1) (r := (0, 0, 0, 0)) (by decide +kernel) (by decide) (fun y2081 hy2081 => ?_)
      refine y_add (len := 1) (r := (0, 0, 0, 0)) (by decide +kernel) (by omega) (by omega) (fun y2082 hy2082 => ?_)
      obtain ⟨v2083, hv2084, lv2083, uv2083⟩ := g_int (i := (j + 1)) hg tIA aw1006 (show (j + 1) < 6 by omega) (sr1 (by omega))
      refine y_ial (i := (j + 1)) (len := 1) (r := (0, 0, 0, 0)) (by decide +kernel) hg tIA aw1006 (by omega) hv2084 ?_
      refine y_ias (i := j) (len := 1) (r := (0, 0, 0, 0)) (by decide +kernel) hg tIA aw1006 rfl (by omega) (by omega) (sr1 (by omega)) (qin_full _).1 (qin_full _).2 (fun h2085 hg2085 hl2085 hs2085 ho2085 => ?_)
      refine y_inc (j := 2) (a := xj) (c := 1) (ls' := fun v => [some (.inl (some RA)), some (zi xk), some v]) (len := 3) (r := (0, 0, 0, 0)) (by decide +kernel) rfl (fun _ => rfl) (by decide) (by omega) (by omega) (fun y2086 hy2086 => ?_)
      show qX d 70 50 [some (.inl (some RA)), some (zi xk), some (zi y2086)] [] h2085 t _
      refine y_goto (off := (-25)) (pc' := 25) (len := 3) (r := (0, 0, 0, 0)) (by decide +kernel) (by decide +kernel) ?_
      refine ih h2085 (j + 1) y2086 hg2085 ((ho2085 RA 1 (Or.inl (by omega))).trans hm) ((ho2085 RA 0 (Or.inl (by omega))).trans pA) (fun i hi => (ho2085 IA i (Or.inr (by omega))).trans (c1 i (by omega))) (fun i h1 h2 => ?_) (fun k j hk => (ho2085 k j (Or.inl hk)).trans (c3 k j hk)) (by omega) (by omega) (by omega) (by omega)
      rcases Nat.lt_or_ge i j with q9 | q9
      · exact (ho2085 IA i (Or.inr (by omega))).trans (c2 i h1 q9)
      · have e9 : i = j := by omega
        subst e9
        exact hs2085.trans ((c1 (i + 1) (by omega)).symm.trans hv2084).symm
    ·
      refine y_same (i := .iload_n 2) (len := 1) (r := (0, 0, 0, 0)) (pc' := 26) (ls' := [some (.inl (some RA)), some (zi xk), some (zi xj)]) (st' := [zi xj]) (by decide +kernel) (fun k q => by cases q) rfl ?_
      refine y_same (i := .aload_n 0) (len := 1) (r := (0, 0, 0, 0)) (pc' := 27) (ls' := [some (.inl (some RA)), some (zi xk), some (zi xj)]) (st' := [.inl (some RA), zi xj]) (by decide +kernel) (fun k q => by cases q) rfl ?_
      refine y_get (j := 9) (len := 3) (r := (6, 1, 0, 164)) (by decide +kernel) hg tRA aw1003 rfl rfl hm ?_
      refine y_cT (c := .ge) (off := 23) (pc' := 53) (len := 3) (r := (0, 0, 0, 0)) (by decide +kernel) (acmpT (c := .ge) (by show _ ≤ _; omega)) (by decide +kernel) ?_
      refine y_rV (len := 1) (r := (0, 0, 0, 0)) (nL := 3) (n9 := 2) (hs := []) (by decide +kernel) rfl ?_
      exact ⟨hg, fun i hi => c1 i (by omega), fun i h1 h2 => c2 i h1 (by omega), c3⟩
theorem e_rm6 {d t k RA IA : Nat} {τ : List Nat} {h : zh} {l : List it4} {xk : Int32} (hg : hG τ h) (tRA : τ[RA]? = some 1003) (tIA : τ[IA]? = some 1006) (n3 : RA ≠ IA) (pA : hsl h RA 0 = some (.inl (some IA))) (r : rwC h RA IA l) (exk : xk.toInt = (k : Int)) (hkl : k < l.length) : qV (d + 1) 70 [some (.inl (some RA)), some (zi xk), none] h t (fun h1 => hG τ h1 ∧ rwC h1 RA IA (l.eraseIdx k) ∧ ∀ k j, (k ≠ IA ∧ (k ≠ RA ∨ j ≠ 1)) → hsl h1 k j = hsl h k j) := by
  obtain ⟨⟨xl, hl, el⟩, it⟩ := r
  obtain ⟨x9, e9, l9, u9⟩ := g_int (i := 1) (lo := 0) (hi := 6) hg tRA aw1003 (by decide) rfl
  have e8 := hl.symm.trans e9
  cases e8
  refine qV_of ?_
  refine y_same (i := .iload_n 1) (len := 1) (r := (0, 0, 0, 0)) (pc' := 1) (ls' := [some (.inl (some RA)), some (zi xk), none]) (st' := [zi xk]) (by decide +kernel) (fun k q => by cases q) rfl ?_
  refine y_iF (c := .lt) (off := 11) (len := 3) (r := (0, 0, 0, 0)) (by decide +kernel) (acmpF (c := .lt) (by show _ ≤ _; omega)) ?_
  refine y_same (i := .iload_n 1) (len := 1) (r := (0, 0, 0, 0)) (pc' := 5) (ls' := [some (.inl (some RA)), some (zi xk), none]) (st' := [zi xk]) (by decide +kernel) (fun k q => by cases q) rfl ?_
  refine y_same (i := .aload_n 0) (len := 1) (r := (0, 0, 0, 0)) (pc' := 6) (ls' := [some (.inl (some RA)), some (zi xk), none]) (st' := [.inl (some RA), zi xk]) (by decide +kernel) (fun k q => by cases q) rfl ?_
  refine y_get (j := 9) (len := 3) (r := (6, 1, 0, 164)) (by decide +kernel) hg tRA aw1003 rfl rfl hl ?_
  refine y_cT (c := .lt) (off := 4) (pc' := 13) (len := 3) (r := (0, 0, 0, 0)) (by decide +kernel) (acmpT (c := .lt) (by show _ < _; omega)) (by decide +kernel) ?_
  refine y_same (i := .aload_n 0) (len := 1) (r := (0, 0, 0, 0)) (pc' := 14) (ls' := [some (.inl (some RA)), some (zi xk), none]) (st' := [.inl (some RA)]) (by decide +kernel) (fun k q => by cases q) rfl ?_
  refine y_same (i := .dup) (len := 1) (r := (0, 0, 0, 0)) (pc' := 15) (ls' := [some (.inl (some RA)), some (zi xk), none]) (st' := [.inl (some RA), .inl (some RA)]) (by decide +kernel) (fun k q => by cases q) rfl ?_
  refine y_get (j := 9) (len := 3) (r := (6, 1, 0, 164)) (by decide +kernel) hg tRA aw1003 rfl rfl hl ?_
  refine y_ic (c := 1) (len := 1) (r := (0, 0, 0, 0)) (by decide +kernel) (by decide) (fun y2087 hy2087 => ?_)
  refine y_sub (len := 1) (r := (0, 0, 0, 0)) (by decide +kernel) (by omega) (by omega) (fun y2088 hy2088 => ?_)
  refine y_put (j := 9) (lo := 0) (hi := 6) (len := 3) (r := (6, 1, 0, 164)) (by decide +kernel) hg tRA aw1003 rfl rfl (by decide) rfl (by omega) (by omega) rfl (fun h2089 hg2089 hl2089 hs2089 ho2089 => ?_)
  have ho2089 : hO RA 1 h h2089 := ho2089
  have hs2089 : hsl h2089 RA 1 = some (zi y2088) := hs2089
  refine y_same (i := .iload_n 1) (len := 1) (r := (0, 0, 0, 0)) (pc' := 24) (ls' := [some (.inl (some RA)), some (zi xk), none]) (st' := [zi xk]) (by decide +kernel) (fun k q => by cases q) rfl ?_
  refine y_same (i := .istore_n 2) (len := 1) (r := (0, 0, 0, 0)) (pc' := 25) (ls' := [some (.inl (some RA)), some (zi xk), some (zi xk)]) (st' := []) (by decide +kernel) (fun k q => by cases q) rfl ?_
  refine qX_V (rm6_l (m := l.length - 1) (k := k) (h0 := h2089) tRA tIA n3 (by omega) (by omega) exk (by omega) 6 h2089 k xk hg2089 hs2089 ((ho2089 RA 0 (Or.inr (by omega))).trans pA) (fun i hi => rfl) (fun i h1 h2 => absurd h2 (by omega)) (fun k j _ => rfl) (by omega) (by omega) (by omega) (by omega)) (fun h1 hR => ?_)
  obtain ⟨g1, c1, c2, c3⟩ := hR
  refine ⟨g1, ⟨⟨y2088, (c3 RA 1 n3).trans hs2089, by rw [List.length_eraseIdx_of_lt hkl]; omega⟩, fun j i hj => ?_⟩, fun k j hk => (c3 k j hk.1).trans (ho2089 k j hk.2)⟩
  have hj9 := (List.getElem?_eq_some_iff.mp hj).1
  rw [List.length_eraseIdx_of_lt hkl] at hj9
  rw [List.getElem?_eraseIdx] at hj
  split at hj
  · obtain ⟨x, a, b⟩ := it j i hj
    exact ⟨x, (c1 j (by omega)).trans ((ho2089 IA j (Or.inl (by omega))).trans a), b⟩
  · obtain ⟨x, a, b⟩ := it (j + 1) i hj
    exact ⟨x, (c2 j (by omega) (by omega)).trans ((ho2089 IA (j + 1) (Or.inl (by omega))).trans a), b⟩
theorem c_drop0 {t k : Nat} {τ : List Nat} {h : zh} {cur : bsT} {hs : List bsT} {x xk : Int32} (hg : hG τ h) (rc : RC h cur hs) (r5 : hsl h 0 5 = some (.inl (some 2))) (hx : x.toInt = 0) (exk : xk.toInt = (k : Int)) (hk : k < cur.1.1.length) : qI 21 136 [some (.inl (some 0)), some (zi x), some (zi xk), none] h t (fun y h1 => ∃ τ1, hG τ1 h1 ∧ RC h1 ((cur.1.1.eraseIdx k, cur.1.2), (cur.2.1, cur.2.2)) (psh hs cur) ∧ frC h h1 ∧ y.toInt = ((cur.1.1.length - 1 : Nat) : Int)) := by
  refine qI_of ?_
  obtain ⟨-, ⟨uz, vz, huz, l2z, b2z⟩, -⟩ := id rc
  have uuz : (uz = 1 ∧ vz = 6) ∨ (uz = 6 ∧ vz = 1) := huz
  have tyz := ty_u (tyB_of hg huz (tv2 hg) b2z.1 b2z.2.1 l2z) huz
  have laz := lay_u l2z huz
  obtain ⟨⟨⟨xp0z, hp0z, ep0z⟩, ip0z⟩, ⟨xc0z, hc0z, ec0z⟩, ic0z⟩ := b2z.2.2.1
  obtain ⟨⟨⟨xp1z, hp1z, ep1z⟩, ip1z⟩, ⟨xc1z, hc1z, ec1z⟩, ic1z⟩ := b2z.2.2.2
  refine y_same (i := .aload_n 0) (len := 1) (r := (0, 0, 0, 0)) (pc' := 1) (ls' := [some (.inl (some 0)), some (zi x), some (zi xk), none]) (st' := [.inl (some 0)]) (by decide +kernel) (fun k q => by cases q) rfl ?_
  refine y_same (i := .iload_n 1) (len := 1) (r := (0, 0, 0, 0)) (pc' := 2) (ls' := [some (.inl (some 0)), some (zi x), some (zi xk), none]) (st' := [zi x, .inl (some 0)]) (by decide +kernel) (fun k q => by cases q) rfl ?_
  refine y_cI (i := .invokestatic 101) (len := 3) (r := (1, 156, 11, 1068)) (nL := 1) (k := 2) (n := 1) (hs := []) (args := [zi x]) (rest := [.inl (some 0)]) (l0 := [some (zi x)]) (by decide +kernel) (Or.inl ⟨_, rfl⟩) rfl rfl rfl rfl (Nat.le_of_ble_eq_true rfl) rfl rfl (qI_le (by decide) (c_isSide (d := 0))) (fun y2090 qy2090 hRy2090 => ?_)
  obtain ⟨rfl, hDy2090⟩ := hRy2090
  have ey2090 : y2090.toInt = 1 := by omega
  refine y_iF (c := .eq) (off := 25) (len := 3) (r := (0, 0, 0, 0)) (by decide +kernel) (acmpF (c := .eq) (by show ¬ (_ = _); omega)) ?_
  refine y_same (i := .aload_n 0) (len := 1) (r := (0, 0, 0, 0)) (pc' := 9) (ls' := [some (.inl (some 0)), some (zi x), some (zi xk), none]) (st' := [.inl (some 0), .inl (some 0)]) (by decide +kernel) (fun k q => by cases q) rfl ?_
  refine y_get (j := 29) (len := 3) (r := (11, 5, 2, 404)) (by decide +kernel) hg (tv0 hg) aw0 rfl rfl r5 ?_
  refine y_same (i := .iload_n 1) (len := 1) (r := (0, 0, 0, 0)) (pc' := 13) (ls' := [some (.inl (some 0)), some (zi x), some (zi xk), none]) (st' := [zi x, .inl (some 2), .inl (some 0)]) (by decide +kernel) (fun k q => by cases q) rfl ?_
  refine y_cA (i := .invokevirtual 105) (len := 3) (r := (0, 108, 9, 1071)) (nL := 2) (k := 3) (n := 2) (hs := []) (args := [.inl (some 2), zi x]) (rest := [.inl (some 0)]) (l0 := [some (.inl (some 2)), some (zi x)]) (by decide +kernel) (Or.inr (Or.inl ⟨_, rfl⟩)) rfl rfl rfl rfl (Nat.le_of_ble_eq_true rfl) (zO hg (tv2 hg) aw1000 rfl) rfl (qA_le (by decide) (c_side0 (d := 0) (u := uz) (v := vz) hg (by omega) b2z.1 b2z.2.1)) (fun q2091 hR2091 => ?_)
  obtain rfl := hR2091
  refine y_get (j := 109) (len := 3) (r := (8, 0, 2, 20182)) (by decide +kernel) hg tyz.1.1 aw1001 rfl rfl laz.1.1 ?_
  refine y_same (i := .iload_n 2) (len := 1) (r := (0, 0, 0, 0)) (pc' := 20) (ls' := [some (.inl (some 0)), some (zi x), some (zi xk), none]) (st' := [zi xk, .inl (some ((2 + uz + 1))), .inl (some 0)]) (by decide +kernel) (fun k q => by cases q) rfl ?_
  refine y_cI (i := .invokevirtual 115) (len := 3) (r := (0, 63, 6, 1075)) (nL := 2) (k := 2) (n := 2) (hs := []) (args := [.inl (some ((2 + uz + 1))), zi xk]) (rest := [.inl (some 0)]) (l0 := [some (.inl (some ((2 + uz + 1)))), some (zi xk)]) (by decide +kernel) (Or.inr (Or.inl ⟨_, rfl⟩)) rfl rfl rfl rfl (Nat.le_of_ble_eq_true rfl) (zO hg tyz.1.2.1 aw1002 rfl) rfl (qI_le (by decide) (c_has5 (d := 0) hg tyz.1.2.1 hp0z)) (fun y2092 qy2092 hRy2092 => ?_)
  obtain ⟨rfl, hDy2092⟩ := hRy2092
  have ey2092 : y2092.toInt = 1 := by omega
  refine y_iF (c := .eq) (off := 7) (len := 3) (r := (0, 0, 0, 0)) (by decide +kernel) (acmpF (c := .eq) (by show ¬ (_ = _); omega)) ?_
  refine y_ic (c := 1) (len := 1) (r := (0, 0, 0, 0)) (by decide +kernel) (by decide) (fun y2093 hy2093 => ?_)
  refine y_goto (off := 4) (pc' := 31) (len := 3) (r := (0, 0, 0, 0)) (by decide +kernel) (by decide +kernel) ?_
  refine y_cV (i := .invokevirtual 120) (len := 3) (r := (0, 152, 11, 1079)) (nL := 2) (k := 0) (n := 2) (hs := []) (args := [.inl (some 0), zi y2093]) (rest := []) (l0 := [some (.inl (some 0)), some (zi y2093)]) (by decide +kernel) (Or.inr (Or.inl ⟨_, rfl⟩)) rfl rfl rfl rfl (Nat.le_of_ble_eq_true rfl) (zO hg (tv0 hg) aw0 rfl) rfl (qV_le (by decide) (c_there (d := 0) (by omega))) (fun q2094 hR2094 => ?_)
  obtain rfl := hR2094
  refine y_same (i := .aload_n 0) (len := 1) (r := (0, 0, 0, 0)) (pc' := 35) (ls' := [some (.inl (some 0)), some (zi x), some (zi xk), none]) (st' := [.inl (some 0)]) (by decide +kernel) (fun k q => by cases q) rfl ?_
  refine y_get (j := 36) (len := 3) (r := (11, 6, 2, 405)) (by decide +kernel) hg (tv0 hg) aw0 rfl rfl (g_rU (f := 6) (T2 := 13) hg (tv0 hg) aw0 rfl (by decide)) ?_
  refine y_same (i := .aload_n 0) (len := 1) (r := (0, 0, 0, 0)) (pc' := 39) (ls' := [some (.inl (some 0)), some (zi x), some (zi xk), none]) (st' := [.inl (some 0), .inl (some 13)]) (by decide +kernel) (fun k q => by cases q) rfl ?_
  refine y_get (j := 29) (len := 3) (r := (11, 5, 2, 404)) (by decide +kernel) hg (tv0 hg) aw0 rfl rfl r5 ?_
  refine y_cV (i := .invokevirtual 83) (len := 3) (r := (0, 24, 2, 449)) (nL := 2) (k := 0) (n := 2) (hs := []) (args := [.inl (some 13), .inl (some 2)]) (rest := []) (l0 := [some (.inl (some 13)), some (.inl (some 2))]) (by decide +kernel) (Or.inr (Or.inl ⟨_, rfl⟩)) rfl rfl rfl rfl (Nat.le_of_ble_eq_true rfl) (zO hg (tv13 hg) aw13 rfl) rfl (qV_le (by decide) (e_keep hg rc)) (fun h2095 hR2095 => ?_)
  obtain ⟨τ2095, au2095, hg2095, rc2095, F2095⟩ := hR2095
  obtain ⟨-, ⟨u2095, v2095, hu2095, l22095, b22095⟩, -⟩ := id rc2095
  have uu2095 : (u2095 = 1 ∧ v2095 = 6) ∨ (u2095 = 6 ∧ v2095 = 1) := hu2095
  have ty2095 := ty_u (tyB_of hg2095 hu2095 (tv2 hg2095) b22095.1 b22095.2.1 l22095) hu2095
  have la2095 := lay_u l22095 hu2095
  obtain ⟨⟨⟨xp02095, hp02095, ep02095⟩, ip02095⟩, ⟨xc02095, hc02095, ec02095⟩, ic02095⟩ := b22095.2.2.1
  obtain ⟨⟨⟨xp12095, hp12095, ep12095⟩, ip12095⟩, ⟨xc12095, hc12095, ec12095⟩, ic12095⟩ := b22095.2.2.2
  refine y_same (i := .aload_n 0) (len := 1) (r := (0, 0, 0, 0)) (pc' := 46) (ls' := [some (.inl (some 0)), some (zi x), some (zi xk), none]) (st' := [.inl (some 0)]) (by decide +kernel) (fun k q => by cases q) rfl ?_
  have hv2096 := (F2095 0 5 (by omega)).trans r5
  refine y_get (j := 29) (len := 3) (r := (11, 5, 2, 404)) (by decide +kernel) hg2095 (tv0 hg2095) aw0 rfl rfl hv2096 ?_
  refine y_same (i := .iload_n 1) (len := 1) (r := (0, 0, 0, 0)) (pc' := 50) (ls' := [some (.inl (some 0)), some (zi x), some (zi xk), none]) (st' := [zi x, .inl (some 2)]) (by decide +kernel) (fun k q => by cases q) rfl ?_
  refine y_cA (i := .invokevirtual 105) (len := 3) (r := (0, 108, 9, 1071)) (nL := 2) (k := 3) (n := 2) (hs := []) (args := [.inl (some 2), zi x]) (rest := []) (l0 := [some (.inl (some 2)), some (zi x)]) (by decide +kernel) (Or.inr (Or.inl ⟨_, rfl⟩)) rfl rfl rfl rfl (Nat.le_of_ble_eq_true rfl) (zO hg2095 (tv2 hg2095) aw1000 rfl) rfl (qA_le (by decide) (c_side0 (d := 0) (u := u2095) (v := v2095) hg2095 (by omega) b22095.1 b22095.2.1)) (fun q2097 hR2097 => ?_)
  obtain rfl := hR2097
  refine y_get (j := 109) (len := 3) (r := (8, 0, 2, 20182)) (by decide +kernel) hg2095 ty2095.1.1 aw1001 rfl rfl la2095.1.1 ?_
  refine y_same (i := .astore_n 3) (len := 1) (r := (0, 0, 0, 0)) (pc' := 57) (ls' := [some (.inl (some 0)), some (zi x), some (zi xk), some (.inl (some ((2 + u2095 + 1))))]) (st' := []) (by decide +kernel) (fun k q => by cases q) rfl ?_
  refine y_same (i := .aload_n 3) (len := 1) (r := (0, 0, 0, 0)) (pc' := 58) (ls' := [some (.inl (some 0)), some (zi x), some (zi xk), some (.inl (some ((2 + u2095 + 1))))]) (st' := [.inl (some ((2 + u2095 + 1)))]) (by decide +kernel) (fun k q => by cases q) rfl ?_
  refine y_same (i := .iload_n 2) (len := 1) (r := (0, 0, 0, 0)) (pc' := 59) (ls' := [some (.inl (some 0)), some (zi x), some (zi xk), some (.inl (some ((2 + u2095 + 1))))]) (st' := [zi xk, .inl (some ((2 + u2095 + 1)))]) (by decide +kernel) (fun k q => by cases q) rfl ?_
  refine y_cV (i := .invokevirtual 123) (len := 3) (r := (0, 70, 6, 1099)) (nL := 3) (k := 0) (n := 2) (hs := []) (args := [.inl (some ((2 + u2095 + 1))), zi xk]) (rest := []) (l0 := [some (.inl (some ((2 + u2095 + 1)))), some (zi xk), none]) (by decide +kernel) (Or.inr (Or.inl ⟨_, rfl⟩)) rfl rfl rfl rfl (Nat.le_of_ble_eq_true rfl) (zO hg2095 ty2095.1.2.1 aw1002 rfl) rfl (qV_le (by decide) (e_rm5 (d := 0) (RA := (2 + u2095 + 1)) (IA := (2 + u2095 + 2)) hg2095 ty2095.1.2.1 ty2095.1.2.2.1 (by omega) la2095.1.2.2.1 b22095.2.2.1.1 exk (by omega))) (fun h2098 hR2098 => ?_)
  obtain ⟨hg2098, r2098, F2098⟩ := hR2098
  have rc2098 : RC h2098 ((cur.1.1.eraseIdx k, cur.1.2), (cur.2.1, cur.2.2)) (psh hs cur) := RC_set rc2095 ⟨u2095, v2095, hu2095, ⟨laS_up l22095.1 (fun k j h1 => F2098 k j (by omega)), laS_up l22095.2 (fun k j h1 => F2098 k j (by omega))⟩, rfs_up b22095.1 (F2098 _ _ (by omega)), rfs_up b22095.2.1 (F2098 _ _ (by omega)), ⟨r2098, rwC_up b22095.2.2.1.2 (F2098 _ _ (by omega)) (fun j => F2098 _ _ (by omega))⟩, sdC_up b22095.2.2.2 (fun k j h1 h2 => F2098 k j (by omega))⟩ (fun k j h1 => F2098 k j (by omega))
  obtain ⟨xz, hz, ez⟩ := r2098.1
  rw [List.length_eraseIdx_of_lt (by omega)] at ez
  refine y_same (i := .aload_n 0) (len := 1) (r := (0, 0, 0, 0)) (pc' := 63) (ls' := [some (.inl (some 0)), some (zi x), some (zi xk), some (.inl (some ((2 + u2095 + 1))))]) (st' := [.inl (some 0)]) (by decide +kernel) (fun k q => by cases q) rfl ?_
  refine y_cV (i := .invokevirtual 91) (len := 3) (r := (0, 154, 11, 474)) (nL := 1) (k := 0) (n := 1) (hs := []) (args := [.inl (some 0)]) (rest := []) (l0 := [some (.inl (some 0))]) (by decide +kernel) (Or.inr (Or.inl ⟨_, rfl⟩)) rfl rfl rfl rfl (Nat.le_of_ble_eq_true rfl) (zO hg2098 (tv0 hg2098) aw0 rfl) rfl (qV_le (by decide) (c_forg (d := 0) hg2098)) (fun h2099 hR2099 => ?_)
  obtain ⟨hg2099, F2099⟩ := hR2099
  refine y_same (i := .aload_n 3) (len := 1) (r := (0, 0, 0, 0)) (pc' := 67) (ls' := [some (.inl (some 0)), some (zi x), some (zi xk), some (.inl (some ((2 + u2095 + 1))))]) (st' := [.inl (some ((2 + u2095 + 1)))]) (by decide +kernel) (fun k q => by cases q) rfl ?_
  have hv2100 := (F2099 (2 + u2095 + 1) 1 (by omega)).trans hz
  refine y_get (j := 126) (len := 3) (r := (6, 1, 0, 20168)) (by decide +kernel) hg2099 ty2095.1.2.1 aw1002 rfl rfl hv2100 ?_
  refine y_rI (len := 1) (r := (0, 0, 0, 0)) (nL := 4) (k := 1) (n9 := 3) (hs := []) (by decide +kernel) rfl rfl ?_
  exact ⟨_, hg2099, (RC_up rc2098 (fun k j h1 => (F2099 k j (by omega)))), fun k j hC => ((F2099 k j (by omega)).trans ((F2098 k j (by omega)).trans (F2095 k j (by omega)))), by omega⟩
theorem c_dropT0 {t : Nat} {τ : List Nat} {h : zh} {cur : bsT} {hs : List bsT} {x xk : Int32} (hg : hG τ h) (rc : RC h cur hs) (r5 : hsl h 0 5 = some (.inl (some 2))) (hx : x.toInt = 0) (hk : ¬ (0 ≤ xk.toInt ∧ xk.toInt < (cur.1.1.length : Int))) : qT 21 136 [some (.inl (some 0)), some (zi x), some (zi xk), none] h t 0 (fun h1 => hG τ h1 ∧ ∀ k j, (k ≠ 0 ∨ j ≠ 3) → hsl h1 k j = hsl h k j) := by
  refine qT_of ?_
  obtain ⟨-, ⟨uz, vz, huz, l2z, b2z⟩, -⟩ := id rc
  have uuz : (uz = 1 ∧ vz = 6) ∨ (uz = 6 ∧ vz = 1) := huz
  have tyz := ty_u (tyB_of hg huz (tv2 hg) b2z.1 b2z.2.1 l2z) huz
  have laz := lay_u l2z huz
  obtain ⟨⟨⟨xp0z, hp0z, ep0z⟩, ip0z⟩, ⟨xc0z, hc0z, ec0z⟩, ic0z⟩ := b2z.2.2.1
  obtain ⟨⟨⟨xp1z, hp1z, ep1z⟩, ip1z⟩, ⟨xc1z, hc1z, ec1z⟩, ic1z⟩ := b2z.2.2.2
  refine y_same (i := .aload_n 0) (len := 1) (r := (0, 0, 0, 0)) (pc' := 1) (ls' := [some (.inl (some 0)), some (zi x), some (zi xk), none]) (st' := [.inl (some 0)]) (by decide +kernel) (fun k q => by cases q) rfl ?_
  refine y_same (i := .iload_n 1) (len := 1) (r := (0, 0, 0, 0)) (pc' := 2) (ls' := [some (.inl (some 0)), some (zi x), some (zi xk), none]) (st' := [zi x, .inl (some 0)]) (by decide +kernel) (fun k q => by cases q) rfl ?_
  refine y_cI (i := .invokestatic 101) (len := 3) (r := (1, 156, 11, 1068)) (nL := 1) (k := 2) (n := 1) (hs := []) (args := [zi x]) (rest := [.inl (some 0)]) (l0 := [some (zi x)]) (by decide +kernel) (Or.inl ⟨_, rfl⟩) rfl rfl rfl rfl (Nat.le_of_ble_eq_true rfl) rfl rfl (qI_le (by decide) (c_isSide (d := 0))) (fun y2101 qy2101 hRy2101 => ?_)
  obtain ⟨rfl, hDy2101⟩ := hRy2101
  have ey2101 : y2101.toInt = 1 := by omega
  refine y_iF (c := .eq) (off := 25) (len := 3) (r := (0, 0, 0, 0)) (by decide +kernel) (acmpF (c := .eq) (by show ¬ (_ = _); omega)) ?_
  refine y_same (i := .aload_n 0) (len := 1) (r := (0, 0, 0, 0)) (pc' := 9) (ls' := [some (.inl (some 0)), some (zi x), some (zi xk), none]) (st' := [.inl (some 0), .inl (some 0)]) (by decide +kernel) (fun k q => by cases q) rfl ?_
  refine y_get (j := 29) (len := 3) (r := (11, 5, 2, 404)) (by decide +kernel) hg (tv0 hg) aw0 rfl rfl r5 ?_
  refine y_same (i := .iload_n 1) (len := 1) (r := (0, 0, 0, 0)) (pc' := 13) (ls' := [some (.inl (some 0)), some (zi x), some (zi xk), none]) (st' := [zi x, .inl (some 2), .inl (some 0)]) (by decide +kernel) (fun k q => by cases q) rfl ?_
  refine y_cA (i := .invokevirtual 105) (len := 3) (r := (0, 108, 9, 1071)) (nL := 2) (k := 3) (n := 2) (hs := []) (args := [.inl (some 2), zi x]) (rest := [.inl (some 0)]) (l0 := [some (.inl (some 2)), some (zi x)]) (by decide +kernel) (Or.inr (Or.inl ⟨_, rfl⟩)) rfl rfl rfl rfl (Nat.le_of_ble_eq_true rfl) (zO hg (tv2 hg) aw1000 rfl) rfl (qA_le (by decide) (c_side0 (d := 0) (u := uz) (v := vz) hg (by omega) b2z.1 b2z.2.1)) (fun q2102 hR2102 => ?_)
  obtain rfl := hR2102
  refine y_get (j := 109) (len := 3) (r := (8, 0, 2, 20182)) (by decide +kernel) hg tyz.1.1 aw1001 rfl rfl laz.1.1 ?_
  refine y_same (i := .iload_n 2) (len := 1) (r := (0, 0, 0, 0)) (pc' := 20) (ls' := [some (.inl (some 0)), some (zi x), some (zi xk), none]) (st' := [zi xk, .inl (some ((2 + uz + 1))), .inl (some 0)]) (by decide +kernel) (fun k q => by cases q) rfl ?_
  refine y_cI (i := .invokevirtual 115) (len := 3) (r := (0, 63, 6, 1075)) (nL := 2) (k := 2) (n := 2) (hs := []) (args := [.inl (some ((2 + uz + 1))), zi xk]) (rest := [.inl (some 0)]) (l0 := [some (.inl (some ((2 + uz + 1)))), some (zi xk)]) (by decide +kernel) (Or.inr (Or.inl ⟨_, rfl⟩)) rfl rfl rfl rfl (Nat.le_of_ble_eq_true rfl) (zO hg tyz.1.2.1 aw1002 rfl) rfl (qI_le (by decide) (c_has5 (d := 0) hg tyz.1.2.1 hp0z)) (fun y2103 qy2103 hRy2103 => ?_)
  obtain ⟨rfl, hDy2103⟩ := hRy2103
  have ey2103 : y2103.toInt = 0 := by omega
  refine y_iT (c := .eq) (off := 7) (pc' := 30) (len := 3) (r := (0, 0, 0, 0)) (by decide +kernel) (acmpT (c := .eq) (by show _ = _; omega)) (by decide +kernel) ?_
  refine y_ic (c := 0) (len := 1) (r := (0, 0, 0, 0)) (by decide +kernel) (by decide) (fun y2104 hy2104 => ?_)
  refine y_cX (i := .invokevirtual 120) (len := 3) (r := (0, 152, 11, 1079)) (nL := 2) (k := 0) (n := 2) (hs := []) (args := [.inl (some 0), zi y2104]) (rest := []) (l0 := [some (.inl (some 0)), some (zi y2104)]) (by decide +kernel) (Or.inr (Or.inl ⟨_, rfl⟩)) rfl rfl rfl rfl (Nat.le_of_ble_eq_true rfl) (zO hg (tv0 hg) aw0 rfl) rfl rfl (mL := 4) (mk := 1) (m9 := 3) (ms := []) rfl rfl (qT_le (by decide) (c_thereT (d := 0) hg (by omega))) (fun h2105 hR2105 => ?_)
  obtain ⟨hg2105, F2105⟩ := hR2105
  exact ⟨_, rfl, hg2105, fun k j hC => (F2105 k j (by omega))⟩
theorem c_drop1 {t k : Nat} {τ : List Nat} {h : zh} {cur : bsT} {hs : List bsT} {x xk : Int32} (hg : hG τ h) (rc : RC h cur hs) (r5 : hsl h 0 5 = some (.inl (some 2))) (hx : x.toInt = 1) (exk : xk.toInt = (k : Int)) (hk : k < cur.2.1.length) : qI 21 136 [some (.inl (some 0)), some (zi x), some (zi xk), none] h t (fun y h1 => ∃ τ1, hG τ1 h1 ∧ RC h1 ((cur.1.1, cur.1.2), (cur.2.1.eraseIdx k, cur.2.2)) (psh hs cur) ∧ frC h h1 ∧ y.toInt = ((cur.2.1.length - 1 : Nat) : Int)) := by
  refine qI_of ?_
  obtain ⟨-, ⟨uz, vz, huz, l2z, b2z⟩, -⟩ := id rc
  have uuz : (uz = 1 ∧ vz = 6) ∨ (uz = 6 ∧ vz = 1) := huz
  have tyz := ty_u (tyB_of hg huz (tv2 hg) b2z.1 b2z.2.1 l2z) huz
  have laz := lay_u l2z huz
  obtain ⟨⟨⟨xp0z, hp0z, ep0z⟩, ip0z⟩, ⟨xc0z, hc0z, ec0z⟩, ic0z⟩ := b2z.2.2.1
  obtain ⟨⟨⟨xp1z, hp1z, ep1z⟩, ip1z⟩, ⟨xc1z, hc1z, ec1z⟩, ic1z⟩ := b2z.2.2.2
  refine y_same (i := .aload_n 0) (len := 1) (r := (0, 0, 0, 0)) (pc' := 1) (ls' := [some (.inl (some 0)), some (zi x), some (zi xk), none]) (st' := [.inl (some 0)]) (by decide +kernel) (fun k q => by cases q) rfl ?_
  refine y_same (i := .iload_n 1) (len := 1) (r := (0, 0, 0, 0)) (pc' := 2) (ls' := [some (.inl (some 0)), some (zi x), some (zi xk), none]) (st' := [zi x, .inl (some 0)]) (by decide +kernel) (fun k q => by cases q) rfl ?_
  refine y_cI (i := .invokestatic 101) (len := 3) (r := (1, 156, 11, 1068)) (nL := 1) (k := 2) (n := 1) (hs := []) (args := [zi x]) (rest := [.inl (some 0)]) (l0 := [some (zi x)]) (by decide +kernel) (Or.inl ⟨_, rfl⟩) rfl rfl rfl rfl (Nat.le_of_ble_eq_true rfl) rfl rfl (qI_le (by decide) (c_isSide (d := 0))) (fun y2106 qy2106 hRy2106 => ?_)
  obtain ⟨rfl, hDy2106⟩ := hRy2106
  have ey2106 : y2106.toInt = 1 := by omega
  refine y_iF (c := .eq) (off := 25) (len := 3) (r := (0, 0, 0, 0)) (by decide +kernel) (acmpF (c := .eq) (by show ¬ (_ = _); omega)) ?_
  refine y_same (i := .aload_n 0) (len := 1) (r := (0, 0, 0, 0)) (pc' := 9) (ls' := [some (.inl (some 0)), some (zi x), some (zi xk), none]) (st' := [.inl (some 0), .inl (some 0)]) (by decide +kernel) (fun k q => by cases q) rfl ?_
  refine y_get (j := 29) (len := 3) (r := (11, 5, 2, 404)) (by decide +kernel) hg (tv0 hg) aw0 rfl rfl r5 ?_
  refine y_same (i := .iload_n 1) (len := 1) (r := (0, 0, 0, 0)) (pc' := 13) (ls' := [some (.inl (some 0)), some (zi x), some (zi xk), none]) (st' := [zi x, .inl (some 2), .inl (some 0)]) (by decide +kernel) (fun k q => by cases q) rfl ?_
  refine y_cA (i := .invokevirtual 105) (len := 3) (r := (0, 108, 9, 1071)) (nL := 2) (k := 3) (n := 2) (hs := []) (args := [.inl (some 2), zi x]) (rest := [.inl (some 0)]) (l0 := [some (.inl (some 2)), some (zi x)]) (by decide +kernel) (Or.inr (Or.inl ⟨_, rfl⟩)) rfl rfl rfl rfl (Nat.le_of_ble_eq_true rfl) (zO hg (tv2 hg) aw1000 rfl) rfl (qA_le (by decide) (c_side1 (d := 0) (u := uz) (v := vz) hg (by omega) b2z.1 b2z.2.1)) (fun q2107 hR2107 => ?_)
  obtain rfl := hR2107
  refine y_get (j := 109) (len := 3) (r := (8, 0, 2, 20182)) (by decide +kernel) hg tyz.2.1 aw1001 rfl rfl laz.2.1 ?_
  refine y_same (i := .iload_n 2) (len := 1) (r := (0, 0, 0, 0)) (pc' := 20) (ls' := [some (.inl (some 0)), some (zi x), some (zi xk), none]) (st' := [zi xk, .inl (some ((2 + vz + 1))), .inl (some 0)]) (by decide +kernel) (fun k q => by cases q) rfl ?_
  refine y_cI (i := .invokevirtual 115) (len := 3) (r := (0, 63, 6, 1075)) (nL := 2) (k := 2) (n := 2) (hs := []) (args := [.inl (some ((2 + vz + 1))), zi xk]) (rest := [.inl (some 0)]) (l0 := [some (.inl (some ((2 + vz + 1)))), some (zi xk)]) (by decide +kernel) (Or.inr (Or.inl ⟨_, rfl⟩)) rfl rfl rfl rfl (Nat.le_of_ble_eq_true rfl) (zO hg tyz.2.2.1 aw1002 rfl) rfl (qI_le (by decide) (c_has5 (d := 0) hg tyz.2.2.1 hp1z)) (fun y2108 qy2108 hRy2108 => ?_)
  obtain ⟨rfl, hDy2108⟩ := hRy2108
  have ey2108 : y2108.toInt = 1 := by omega
  refine y_iF (c := .eq) (off := 7) (len := 3) (r := (0, 0, 0, 0)) (by decide +kernel) (acmpF (c := .eq) (by show ¬ (_ = _); omega)) ?_
  refine y_ic (c := 1) (len := 1) (r := (0, 0, 0, 0)) (by decide +kernel) (by decide) (fun y2109 hy2109 => ?_)
  refine y_goto (off := 4) (pc' := 31) (len := 3) (r := (0, 0, 0, 0)) (by decide +kernel) (by decide +kernel) ?_
  refine y_cV (i := .invokevirtual 120) (len := 3) (r := (0, 152, 11, 1079)) (nL := 2) (k := 0) (n := 2) (hs := []) (args := [.inl (some 0), zi y2109]) (rest := []) (l0 := [some (.inl (some 0)), some (zi y2109)]) (by decide +kernel) (Or.inr (Or.inl ⟨_, rfl⟩)) rfl rfl rfl rfl (Nat.le_of_ble_eq_true rfl) (zO hg (tv0 hg) aw0 rfl) rfl (qV_le (by decide) (c_there (d := 0) (by omega))) (fun q2110 hR2110 => ?_)
  obtain rfl := hR2110
  refine y_same (i := .aload_n 0) (len := 1) (r := (0, 0, 0, 0)) (pc' := 35) (ls' := [some (.inl (some 0)), some (zi x), some (zi xk), none]) (st' := [.inl (some 0)]) (by decide +kernel) (fun k q => by cases q) rfl ?_
  refine y_get (j := 36) (len := 3) (r := (11, 6, 2, 405)) (by decide +kernel) hg (tv0 hg) aw0 rfl rfl (g_rU (f := 6) (T2 := 13) hg (tv0 hg) aw0 rfl (by decide)) ?_
  refine y_same (i := .aload_n 0) (len := 1) (r := (0, 0, 0, 0)) (pc' := 39) (ls' := [some (.inl (some 0)), some (zi x), some (zi xk), none]) (st' := [.inl (some 0), .inl (some 13)]) (by decide +kernel) (fun k q => by cases q) rfl ?_
  refine y_get (j := 29) (len := 3) (r := (11, 5, 2, 404)) (by decide +kernel) hg (tv0 hg) aw0 rfl rfl r5 ?_
  refine y_cV (i := .invokevirtual 83) (len := 3) (r := (0, 24, 2, 449)) (nL := 2) (k := 0) (n := 2) (hs := []) (args := [.inl (some 13), .inl (some 2)]) (rest := []) (l0 := [some (.inl (some 13)), some (.inl (some 2))]) (by decide +kernel) (Or.inr (Or.inl ⟨_, rfl⟩)) rfl rfl rfl rfl (Nat.le_of_ble_eq_true rfl) (zO hg (tv13 hg) aw13 rfl) rfl (qV_le (by decide) (e_keep hg rc)) (fun h2111 hR2111 => ?_)
  obtain ⟨τ2111, au2111, hg2111, rc2111, F2111⟩ := hR2111
  obtain ⟨-, ⟨u2111, v2111, hu2111, l22111, b22111⟩, -⟩ := id rc2111
  have uu2111 : (u2111 = 1 ∧ v2111 = 6) ∨ (u2111 = 6 ∧ v2111 = 1) := hu2111
  have ty2111 := ty_u (tyB_of hg2111 hu2111 (tv2 hg2111) b22111.1 b22111.2.1 l22111) hu2111
  have la2111 := lay_u l22111 hu2111
  obtain ⟨⟨⟨xp02111, hp02111, ep02111⟩, ip02111⟩, ⟨xc02111, hc02111, ec02111⟩, ic02111⟩ := b22111.2.2.1
  obtain ⟨⟨⟨xp12111, hp12111, ep12111⟩, ip12111⟩, ⟨xc12111, hc12111, ec12111⟩, ic12111⟩ := b22111.2.2.2
  refine y_same (i := .aload_n 0) (len := 1) (r := (0, 0, 0, 0)) (pc' := 46) (ls' := [some (.inl (some 0)), some (zi x), some (zi xk), none]) (st' := [.inl (some 0)]) (by decide +kernel) (fun k q => by cases q) rfl ?_
  have hv2112 := (F2111 0 5 (by omega)).trans r5
  refine y_get (j := 29) (len := 3) (r := (11, 5, 2, 404)) (by decide +kernel) hg2111 (tv0 hg2111) aw0 rfl rfl hv2112 ?_
  refine y_same (i := .iload_n 1) (len := 1) (r := (0, 0, 0, 0)) (pc' := 50) (ls' := [some (.inl (some 0)), some (zi x), some (zi xk), none]) (st' := [zi x, .inl (some 2)]) (by decide +kernel) (fun k q => by cases q) rfl ?_
  refine y_cA (i := .invokevirtual 105) (len := 3) (r := (0, 108, 9, 1071)) (nL := 2) (k := 3) (n := 2) (hs := []) (args := [.inl (some 2), zi x]) (rest := []) (l0 := [some (.inl (some 2)), some (zi x)]) (by decide +kernel) (Or.inr (Or.inl ⟨_, rfl⟩)) rfl rfl rfl rfl (Nat.le_of_ble_eq_true rfl) (zO hg2111 (tv2 hg2111) aw1000 rfl) rfl (qA_le (by decide) (c_side1 (d := 0) (u := u2111) (v := v2111) hg2111 (by omega) b22111.1 b22111.2.1)) (fun q2113 hR2113 => ?_)
  obtain rfl := hR2113
  refine y_get (j := 109) (len := 3) (r := (8, 0, 2, 20182)) (by decide +kernel) hg2111 ty2111.2.1 aw1001 rfl rfl la2111.2.1 ?_
  refine y_same (i := .astore_n 3) (len := 1) (r := (0, 0, 0, 0)) (pc' := 57) (ls' := [some (.inl (some 0)), some (zi x), some (zi xk), some (.inl (some ((2 + v2111 + 1))))]) (st' := []) (by decide +kernel) (fun k q => by cases q) rfl ?_
  refine y_same (i := .aload_n 3) (len := 1) (r := (0, 0, 0, 0)) (pc' := 58) (ls' := [some (.inl (some 0)), some (zi x), some (zi xk), some (.inl (some ((2 + v2111 + 1))))]) (st' := [.inl (some ((2 + v2111 + 1)))]) (by decide +kernel) (fun k q => by cases q) rfl ?_
  refine y_same (i := .iload_n 2) (len := 1) (r := (0, 0, 0, 0)) (pc' := 59) (ls' := [some (.inl (some 0)), some (zi x), some (zi xk), some (.inl (some ((2 + v2111 + 1))))]) (st' := [zi xk, .inl (some ((2 + v2111 + 1)))]) (by decide +kernel) (fun k q => by cases q) rfl ?_
  refine y_cV (i := .invokevirtual 123) (len := 3) (r := (0, 70, 6, 1099)) (nL := 3) (k := 0) (n := 2) (hs := []) (args := [.inl (some ((2 + v2111 + 1))), zi xk]) (rest := []) (l0 := [some (.inl (some ((2 + v2111 + 1)))), some (zi xk), none]) (by decide +kernel) (Or.inr (Or.inl ⟨_, rfl⟩)) rfl rfl rfl rfl (Nat.le_of_ble_eq_true rfl) (zO hg2111 ty2111.2.2.1 aw1002 rfl) rfl (qV_le (by decide) (e_rm5 (d := 0) (RA := (2 + v2111 + 1)) (IA := (2 + v2111 + 2)) hg2111 ty2111.2.2.1 ty2111.2.2.2.1 (by omega) la2111.2.2.2.1 b22111.2.2.2.1 exk (by omega))) (fun h2114 hR2114 => ?_)
  obtain ⟨hg2114, r2114, F2114⟩ := hR2114
  have rc2114 : RC h2114 ((cur.1.1, cur.1.2), (cur.2.1.eraseIdx k, cur.2.2)) (psh hs cur) := RC_set rc2111 ⟨u2111, v2111, hu2111, ⟨laS_up l22111.1 (fun k j h1 => F2114 k j (by omega)), laS_up l22111.2 (fun k j h1 => F2114 k j (by omega))⟩, rfs_up b22111.1 (F2114 _ _ (by omega)), rfs_up b22111.2.1 (F2114 _ _ (by omega)), sdC_up b22111.2.2.1 (fun k j h1 h2 => F2114 k j (by omega)), ⟨r2114, rwC_up b22111.2.2.2.2 (F2114 _ _ (by omega)) (fun j => F2114 _ _ (by omega))⟩⟩ (fun k j h1 => F2114 k j (by omega))
  obtain ⟨xz, hz, ez⟩ := r2114.1
  rw [List.length_eraseIdx_of_lt (by omega)] at ez
  refine y_same (i := .aload_n 0) (len := 1) (r := (0, 0, 0, 0)) (pc' := 63) (ls' := [some (.inl (some 0)), some (zi x), some (zi xk), some (.inl (some ((2 + v2111 + 1))))]) (st' := [.inl (some 0)]) (by decide +kernel) (fun k q => by cases q) rfl ?_
  refine y_cV (i := .invokevirtual 91) (len := 3) (r := (0, 154, 11, 474)) (nL := 1) (k := 0) (n := 1) (hs := []) (args := [.inl (some 0)]) (rest := []) (l0 := [some (.inl (some 0))]) (by decide +kernel) (Or.inr (Or.inl ⟨_, rfl⟩)) rfl rfl rfl rfl (Nat.le_of_ble_eq_true rfl) (zO hg2114 (tv0 hg2114) aw0 rfl) rfl (qV_le (by decide) (c_forg (d := 0) hg2114)) (fun h2115 hR2115 => ?_)
  obtain ⟨hg2115, F2115⟩ := hR2115
  refine y_same (i := .aload_n 3) (len := 1) (r := (0, 0, 0, 0)) (pc' := 67) (ls' := [some (.inl (some 0)), some (zi x), some (zi xk), some (.inl (some ((2 + v2111 + 1))))]) (st' := [.inl (some ((2 + v2111 + 1)))]) (by decide +kernel) (fun k q => by cases q) rfl ?_
  have hv2116 := (F2115 (2 + v2111 + 1) 1 (by omega)).trans hz
  refine y_get (j := 126) (len := 3) (r := (6, 1, 0, 20168)) (by decide +kernel) hg2115 ty2111.2.2.1 aw1002 rfl rfl hv2116 ?_
  refine y_rI (len := 1) (r := (0, 0, 0, 0)) (nL := 4) (k := 1) (n9 := 3) (hs := []) (by decide +kernel) rfl rfl ?_
  exact ⟨_, hg2115, (RC_up rc2114 (fun k j h1 => (F2115 k j (by omega)))), fun k j hC => ((F2115 k j (by omega)).trans ((F2114 k j (by omega)).trans (F2111 k j (by omega)))), by omega⟩
theorem c_dropT1 {t : Nat} {τ : List Nat} {h : zh} {cur : bsT} {hs : List bsT} {x xk : Int32} (hg : hG τ h) (rc : RC h cur hs) (r5 : hsl h 0 5 = some (.inl (some 2))) (hx : x.toInt = 1) (hk : ¬ (0 ≤ xk.toInt ∧ xk.toInt < (cur.2.1.length : Int))) : qT 21 136 [some (.inl (some 0)), some (zi x), some (zi xk), none] h t 0 (fun h1 => hG τ h1 ∧ ∀ k j, (k ≠ 0 ∨ j ≠ 3) → hsl h1 k j = hsl h k j) := by
  refine qT_of ?_
  obtain ⟨-, ⟨uz, vz, huz, l2z, b2z⟩, -⟩ := id rc
  have uuz : (uz = 1 ∧ vz = 6) ∨ (uz = 6 ∧ vz = 1) := huz
  have tyz := ty_u (tyB_of hg huz (tv2 hg) b2z.1 b2z.2.1 l2z) huz
  have laz := lay_u l2z huz
  obtain ⟨⟨⟨xp0z, hp0z, ep0z⟩, ip0z⟩, ⟨xc0z, hc0z, ec0z⟩, ic0z⟩ := b2z.2.2.1
  obtain ⟨⟨⟨xp1z, hp1z, ep1z⟩, ip1z⟩, ⟨xc1z, hc1z, ec1z⟩, ic1z⟩ := b2z.2.2.2
  refine y_same (i := .aload_n 0) (len := 1) (r := (0, 0, 0, 0)) (pc' := 1) (ls' := [some (.inl (some 0)), some (zi x), some (zi xk), none]) (st' := [.inl (some 0)]) (by decide +kernel) (fun k q => by cases q) rfl ?_
  refine y_same (i := .iload_n 1) (len := 1) (r := (0, 0, 0, 0)) (pc' := 2) (ls' := [some (.inl (some 0)), some (zi x), some (zi xk), none]) (st' := [zi x, .inl (some 0)]) (by decide +kernel) (fun k q => by cases q) rfl ?_
  refine y_cI (i := .invokestatic 101) (len := 3) (r := (1, 156, 11, 1068)) (nL := 1) (k := 2) (n := 1) (hs := []) (args := [zi x]) (rest := [.inl (some 0)]) (l0 := [some (zi x)]) (by decide +kernel) (Or.inl ⟨_, rfl⟩) rfl rfl rfl rfl (Nat.le_of_ble_eq_true rfl) rfl rfl (qI_le (by decide) (c_isSide (d := 0))) (fun y2117 qy2117 hRy2117 => ?_)
  obtain ⟨rfl, hDy2117⟩ := hRy2117
  have ey2117 : y2117.toInt = 1 := by omega
  refine y_iF (c := .eq) (off := 25) (len := 3) (r := (0, 0, 0, 0)) (by decide +kernel) (acmpF (c := .eq) (by show ¬ (_ = _); omega)) ?_
  refine y_same (i := .aload_n 0) (len := 1) (r := (0, 0, 0, 0)) (pc' := 9) (ls' := [some (.inl (some 0)), some (zi x), some (zi xk), none]) (st' := [.inl (some 0), .inl (some 0)]) (by decide +kernel) (fun k q => by cases q) rfl ?_
  refine y_get (j := 29) (len := 3) (r := (11, 5, 2, 404)) (by decide +kernel) hg (tv0 hg) aw0 rfl rfl r5 ?_
  refine y_same (i := .iload_n 1) (len := 1) (r := (0, 0, 0, 0)) (pc' := 13) (ls' := [some (.inl (some 0)), some (zi x), some (zi xk), none]) (st' := [zi x, .inl (some 2), .inl (some 0)]) (by decide +kernel) (fun k q => by cases q) rfl ?_
  refine y_cA (i := .invokevirtual 105) (len := 3) (r := (0, 108, 9, 1071)) (nL := 2) (k := 3) (n := 2) (hs := []) (args := [.inl (some 2), zi x]) (rest := [.inl (some 0)]) (l0 := [some (.inl (some 2)), some (zi x)]) (by decide +kernel) (Or.inr (Or.inl ⟨_, rfl⟩)) rfl rfl rfl rfl (Nat.le_of_ble_eq_true rfl) (zO hg (tv2 hg) aw1000 rfl) rfl (qA_le (by decide) (c_side1 (d := 0) (u := uz) (v := vz) hg (by omega) b2z.1 b2z.2.1)) (fun q2118 hR2118 => ?_)
  obtain rfl := hR2118
  refine y_get (j := 109) (len := 3) (r := (8, 0, 2, 20182)) (by decide +kernel) hg tyz.2.1 aw1001 rfl rfl laz.2.1 ?_
  refine y_same (i := .iload_n 2) (len := 1) (r := (0, 0, 0, 0)) (pc' := 20) (ls' := [some (.inl (some 0)), some (zi x), some (zi xk), none]) (st' := [zi xk, .inl (some ((2 + vz + 1))), .inl (some 0)]) (by decide +kernel) (fun k q => by cases q) rfl ?_
  refine y_cI (i := .invokevirtual 115) (len := 3) (r := (0, 63, 6, 1075)) (nL := 2) (k := 2) (n := 2) (hs := []) (args := [.inl (some ((2 + vz + 1))), zi xk]) (rest := [.inl (some 0)]) (l0 := [some (.inl (some ((2 + vz + 1)))), some (zi xk)]) (by decide +kernel) (Or.inr (Or.inl ⟨_, rfl⟩)) rfl rfl rfl rfl (Nat.le_of_ble_eq_true rfl) (zO hg tyz.2.2.1 aw1002 rfl) rfl (qI_le (by decide) (c_has5 (d := 0) hg tyz.2.2.1 hp1z)) (fun y2119 qy2119 hRy2119 => ?_)
  obtain ⟨rfl, hDy2119⟩ := hRy2119
  have ey2119 : y2119.toInt = 0 := by omega
  refine y_iT (c := .eq) (off := 7) (pc' := 30) (len := 3) (r := (0, 0, 0, 0)) (by decide +kernel) (acmpT (c := .eq) (by show _ = _; omega)) (by decide +kernel) ?_
  refine y_ic (c := 0) (len := 1) (r := (0, 0, 0, 0)) (by decide +kernel) (by decide) (fun y2120 hy2120 => ?_)
  refine y_cX (i := .invokevirtual 120) (len := 3) (r := (0, 152, 11, 1079)) (nL := 2) (k := 0) (n := 2) (hs := []) (args := [.inl (some 0), zi y2120]) (rest := []) (l0 := [some (.inl (some 0)), some (zi y2120)]) (by decide +kernel) (Or.inr (Or.inl ⟨_, rfl⟩)) rfl rfl rfl rfl (Nat.le_of_ble_eq_true rfl) (zO hg (tv0 hg) aw0 rfl) rfl rfl (mL := 4) (mk := 1) (m9 := 3) (ms := []) rfl rfl (qT_le (by decide) (c_thereT (d := 0) hg (by omega))) (fun h2121 hR2121 => ?_)
  obtain ⟨hg2121, F2121⟩ := hR2121
  exact ⟨_, rfl, hg2121, fun k j hC => (F2121 k j (by omega))⟩
theorem c_dropT {t : Nat} {τ : List Nat} {h : zh} {x xk : Int32} (hg : hG τ h) (hx : ¬ (x.toInt = 0 ∨ x.toInt = 1)) : qT 21 136 [some (.inl (some 0)), some (zi x), some (zi xk), none] h t 0 (fun h1 => hG τ h1 ∧ ∀ k j, (k ≠ 0 ∨ j ≠ 3) → hsl h1 k j = hsl h k j) := by
  refine qT_of ?_
  refine y_same (i := .aload_n 0) (len := 1) (r := (0, 0, 0, 0)) (pc' := 1) (ls' := [some (.inl (some 0)), some (zi x), some (zi xk), none]) (st' := [.inl (some 0)]) (by decide +kernel) (fun k q => by cases q) rfl ?_
  refine y_same (i := .iload_n 1) (len := 1) (r := (0, 0, 0, 0)) (pc' := 2) (ls' := [some (.inl (some 0)), some (zi x), some (zi xk), none]) (st' := [zi x, .inl (some 0)]) (by decide +kernel) (fun k q => by cases q) rfl ?_
  refine y_cI (i := .invokestatic 101) (len := 3) (r := (1, 156, 11, 1068)) (nL := 1) (k := 2) (n := 1) (hs := []) (args := [zi x]) (rest := [.inl (some 0)]) (l0 := [some (zi x)]) (by decide +kernel) (Or.inl ⟨_, rfl⟩) rfl rfl rfl rfl (Nat.le_of_ble_eq_true rfl) rfl rfl (qI_le (by decide) (c_isSide (d := 0))) (fun y2122 qy2122 hRy2122 => ?_)
  obtain ⟨rfl, hDy2122⟩ := hRy2122
  have ey2122 : y2122.toInt = 0 := by omega
  refine y_iT (c := .eq) (off := 25) (pc' := 30) (len := 3) (r := (0, 0, 0, 0)) (by decide +kernel) (acmpT (c := .eq) (by show _ = _; omega)) (by decide +kernel) ?_
  refine y_ic (c := 0) (len := 1) (r := (0, 0, 0, 0)) (by decide +kernel) (by decide) (fun y2123 hy2123 => ?_)
  refine y_cX (i := .invokevirtual 120) (len := 3) (r := (0, 152, 11, 1079)) (nL := 2) (k := 0) (n := 2) (hs := []) (args := [.inl (some 0), zi y2123]) (rest := []) (l0 := [some (.inl (some 0)), some (zi y2123)]) (by decide +kernel) (Or.inr (Or.inl ⟨_, rfl⟩)) rfl rfl rfl rfl (Nat.le_of_ble_eq_true rfl) (zO hg (tv0 hg) aw0 rfl) rfl rfl (mL := 4) (mk := 1) (m9 := 3) (ms := []) rfl rfl (qT_le (by decide) (c_thereT (d := 0) hg (by omega))) (fun h2124 hR2124 => ?_)
  obtain ⟨hg2124, F2124⟩ := hR2124
  exact ⟨_, rfl, hg2124, fun k j hC => (F2124 k j (by omega))⟩
theorem c_dropX {t : Nat} {τ : List Nat} {h : zh} {cur : bsT} {hs : List bsT} {x xk : Int32} (hg : hG τ h) (rc : RC h cur hs) (r5 : hsl h 0 5 = some (.inl (some 2))) (hb : ¬ ((x.toInt = 0 ∧ 0 ≤ xk.toInt ∧ xk.toInt < (cur.1.1.length : Int)) ∨ (x.toInt = 1 ∧ 0 ≤ xk.toInt ∧ xk.toInt < (cur.2.1.length : Int)))) : qT 21 136 [some (.inl (some 0)), some (zi x), some (zi xk), none] h t 0 (fun h1 => hG τ h1 ∧ ∀ k j, (k ≠ 0 ∨ j ≠ 3) → hsl h1 k j = hsl h k j) := by
  rcases Decidable.em (x.toInt = 0) with q | q
  · exact c_dropT0 hg rc r5 q (by omega)
  · rcases Decidable.em (x.toInt = 1) with q1 | q1
    · exact c_dropT1 hg rc r5 q1 (by omega)
    · exact c_dropT hg (by omega)
theorem c_ldropX {t : Nat} {τ : List Nat} {h : zh} {cur : bsT} {hs : List bsT} {x xk : Int32} (hg : hG τ h) (rc : RC h cur hs) (r5 : hsl h 0 5 = some (.inl (some 2))) (hb : ¬ ((x.toInt = 0 ∧ 0 ≤ xk.toInt ∧ xk.toInt < (cur.1.1.length : Int)) ∨ (x.toInt = 1 ∧ 0 ≤ xk.toInt ∧ xk.toInt < (cur.2.1.length : Int)))) : ∃ (y : Int32) (h1 : zh), qE 60 277 [some (.inl (some 0)), some (zi x), some (zi xk), some (.inl (some 388)), none] h t (.inl (some (zi y)), h1, t + 1) ∧ y.toInt = 1 ∧ hG τ h1 ∧ ∀ k j, (k ≠ 0 ∨ j ≠ 3) → hsl h1 k j = hsl h k j := by
  have key : qX 31 277 0 [some (.inl (some 0)), some (zi x), some (zi xk), some (.inl (some 388)), none] [] h t (rI (fun y h1 => y.toInt = 1 ∧ hG τ h1 ∧ ∀ k j, (k ≠ 0 ∨ j ≠ 3) → hsl h1 k j = hsl h k j) (t + 1)) := by
    refine y_same (i := .aload_n 3) (len := 1) (r := (0, 0, 0, 0)) (pc' := 1) (ls' := [some (.inl (some 0)), some (zi x), some (zi xk), some (.inl (some 388)), none]) (st' := [.inl (some 388)]) (by decide +kernel) (fun k q => by cases q) rfl ?_
    refine y_ic (c := 0) (len := 1) (r := (0, 0, 0, 0)) (by decide +kernel) (by decide) (fun y2125 hy2125 => ?_)
    refine y_same (i := .aload_n 0) (len := 1) (r := (0, 0, 0, 0)) (pc' := 3) (ls' := [some (.inl (some 0)), some (zi x), some (zi xk), some (.inl (some 388)), none]) (st' := [.inl (some 0), zi y2125, .inl (some 388)]) (by decide +kernel) (fun k q => by cases q) rfl ?_
    refine y_same (i := .iload_n 1) (len := 1) (r := (0, 0, 0, 0)) (pc' := 4) (ls' := [some (.inl (some 0)), some (zi x), some (zi xk), some (.inl (some 388)), none]) (st' := [zi x, .inl (some 0), zi y2125, .inl (some 388)]) (by decide +kernel) (fun k q => by cases q) rfl ?_
    refine y_same (i := .iload_n 2) (len := 1) (r := (0, 0, 0, 0)) (pc' := 5) (ls' := [some (.inl (some 0)), some (zi x), some (zi xk), some (.inl (some 388)), none]) (st' := [zi xk, zi x, .inl (some 0), zi y2125, .inl (some 388)]) (by decide +kernel) (fun k q => by cases q) rfl ?_
    refine y_cC (i := .invokevirtual 15) (len := 3) (r := (0, 136, 11, 1064)) (nL := 4) (k := 1) (n := 3) (hs := []) (args := [.inl (some 0), zi x, zi xk]) (rest := [zi y2125, .inl (some 388)]) (l0 := [some (.inl (some 0)), some (zi x), some (zi xk), none]) (by decide +kernel) (Or.inr (Or.inl ⟨_, rfl⟩)) rfl rfl rfl rfl (Nat.le_of_ble_eq_true rfl) (zO hg (tv0 hg) aw0 rfl) rfl rfl (mL := 5) (mk := 1) (m9 := 4) (ms := [(0, 10, 13, 0)]) rfl rfl (qT_le (by decide) (c_dropX hg rc r5 hb)) (fun h2126 hR2126 => ?_)
    obtain ⟨hg2126, F2126⟩ := hR2126
    refine y_same (i := .astore 4) (len := 2) (r := (0, 0, 0, 0)) (pc' := 15) (ls' := [some (.inl (some 0)), some (zi x), some (zi xk), some (.inl (some 388)), some (.inl (some 1000001))]) (st' := []) (by decide +kernel) (fun k q => by cases q) rfl ?_
    refine y_ic (c := 1) (len := 1) (r := (0, 0, 0, 0)) (by decide +kernel) (by decide) (fun y2127 hy2127 => ?_)
    refine y_rI (len := 1) (r := (0, 0, 0, 0)) (nL := 5) (k := 1) (n9 := 4) (hs := [(0, 10, 13, 0)]) (by decide +kernel) rfl rfl ?_
    exact ⟨by omega, hg2126, fun k j hC => (F2126 k j (by omega))⟩
  obtain ⟨x, k, y, h1, rfl, hR⟩ := key
  exact ⟨y, h1, qE_le (by decide) (qE_of k), hR⟩
theorem c_ldrop0 {t k : Nat} {τ : List Nat} {h : zh} {cur : bsT} {hs : List bsT} {x xk : Int32} (hg : hG τ h) (rc : RC h cur hs) (r5 : hsl h 0 5 = some (.inl (some 2))) (hx : x.toInt = 0) (exk : xk.toInt = (k : Int)) (hk : k < cur.1.1.length) : qI 60 277 [some (.inl (some 0)), some (zi x), some (zi xk), some (.inl (some 388)), none] h t (fun y h1 => ∃ τ1, hG τ1 h1 ∧ RC h1 ((cur.1.1.eraseIdx k, cur.1.2), (cur.2.1, cur.2.2)) (psh hs cur) ∧ frC h h1 ∧ y.toInt = 0 ∧ ∃ z : Int32, ou_ h1 z ∧ z.toInt = ((cur.1.1.length - 1 : Nat) : Int)) := by
  refine qI_le (d := 32) (by decide) (qI_of ?_)
  refine y_same (i := .aload_n 3) (len := 1) (r := (0, 0, 0, 0)) (pc' := 1) (ls' := [some (.inl (some 0)), some (zi x), some (zi xk), some (.inl (some 388)), none]) (st' := [.inl (some 388)]) (by decide +kernel) (fun k q => by cases q) rfl ?_
  refine y_ic (c := 0) (len := 1) (r := (0, 0, 0, 0)) (by decide +kernel) (by decide) (fun y2128 hy2128 => ?_)
  refine y_same (i := .aload_n 0) (len := 1) (r := (0, 0, 0, 0)) (pc' := 3) (ls' := [some (.inl (some 0)), some (zi x), some (zi xk), some (.inl (some 388)), none]) (st' := [.inl (some 0), zi y2128, .inl (some 388)]) (by decide +kernel) (fun k q => by cases q) rfl ?_
  refine y_same (i := .iload_n 1) (len := 1) (r := (0, 0, 0, 0)) (pc' := 4) (ls' := [some (.inl (some 0)), some (zi x), some (zi xk), some (.inl (some 388)), none]) (st' := [zi x, .inl (some 0), zi y2128, .inl (some 388)]) (by decide +kernel) (fun k q => by cases q) rfl ?_
  refine y_same (i := .iload_n 2) (len := 1) (r := (0, 0, 0, 0)) (pc' := 5) (ls' := [some (.inl (some 0)), some (zi x), some (zi xk), some (.inl (some 388)), none]) (st' := [zi xk, zi x, .inl (some 0), zi y2128, .inl (some 388)]) (by decide +kernel) (fun k q => by cases q) rfl ?_
  refine y_cI (i := .invokevirtual 15) (len := 3) (r := (0, 136, 11, 1064)) (nL := 4) (k := 1) (n := 3) (hs := []) (args := [.inl (some 0), zi x, zi xk]) (rest := [zi y2128, .inl (some 388)]) (l0 := [some (.inl (some 0)), some (zi x), some (zi xk), none]) (by decide +kernel) (Or.inr (Or.inl ⟨_, rfl⟩)) rfl rfl rfl rfl (Nat.le_of_ble_eq_true rfl) (zO hg (tv0 hg) aw0 rfl) rfl (qI_le (by decide) (c_drop0 hg rc r5 hx exk hk)) (fun y2129 h2129 hRy2129 => ?_)
  obtain ⟨τ2129, hg2129, rcn, frn, ey⟩ := hRy2129
  refine y_i2l2 (len := 1) (r := (0, 0, 0, 0)) (by decide +kernel) ?_
  refine y_las2 (i := 0) (len := 1) (r := (0, 0, 0, 0)) (by decide +kernel) hg2129 (t388 hg2129) aw388 rfl (by omega) (by omega) rfl (fun h2130 hg2130 hw2130 ho2130 => ?_)
  refine y_goto (off := 7) (pc' := 17) (len := 3) (r := (0, 0, 0, 0)) (by decide +kernel) (by decide +kernel) ?_
  refine y_ic (c := 0) (len := 1) (r := (0, 0, 0, 0)) (by decide +kernel) (by decide) (fun y2131 hy2131 => ?_)
  refine y_rI (len := 1) (r := (0, 0, 0, 0)) (nL := 5) (k := 1) (n9 := 4) (hs := [(0, 10, 13, 0)]) (by decide +kernel) rfl rfl ?_
  exact ⟨_, hg2130, RC_up rcn (fun k j hC => ho2130 k j (by omega)), fun k j hC => (ho2130 k j (by omega)).trans (frn k j hC), by omega, _, hw2130, ey⟩
theorem c_ldrop1 {t k : Nat} {τ : List Nat} {h : zh} {cur : bsT} {hs : List bsT} {x xk : Int32} (hg : hG τ h) (rc : RC h cur hs) (r5 : hsl h 0 5 = some (.inl (some 2))) (hx : x.toInt = 1) (exk : xk.toInt = (k : Int)) (hk : k < cur.2.1.length) : qI 60 277 [some (.inl (some 0)), some (zi x), some (zi xk), some (.inl (some 388)), none] h t (fun y h1 => ∃ τ1, hG τ1 h1 ∧ RC h1 ((cur.1.1, cur.1.2), (cur.2.1.eraseIdx k, cur.2.2)) (psh hs cur) ∧ frC h h1 ∧ y.toInt = 0 ∧ ∃ z : Int32, ou_ h1 z ∧ z.toInt = ((cur.2.1.length - 1 : Nat) : Int)) := by
  refine qI_le (d := 32) (by decide) (qI_of ?_)
  refine y_same (i := .aload_n 3) (len := 1) (r := (0, 0, 0, 0)) (pc' := 1) (ls' := [some (.inl (some 0)), some (zi x), some (zi xk), some (.inl (some 388)), none]) (st' := [.inl (some 388)]) (by decide +kernel) (fun k q => by cases q) rfl ?_
  refine y_ic (c := 0) (len := 1) (r := (0, 0, 0, 0)) (by decide +kernel) (by decide) (fun y2132 hy2132 => ?_)
  refine y_same (i := .aload_n 0) (len := 1) (r := (0, 0, 0, 0)) (pc' := 3) (ls' := [some (.inl (some 0)), some (zi x), some (zi xk), some (.inl (some 388)), none]) (st' := [.inl (some 0), zi y2132, .inl (some 388)]) (by decide +kernel) (fun k q => by cases q) rfl ?_
  refine y_same (i := .iload_n 1) (len := 1) (r := (0, 0, 0, 0)) (pc' := 4) (ls' := [some (.inl (some 0)), some (zi x), some (zi xk), some (.inl (some 388)), none]) (st' := [zi x, .inl (some 0), zi y2132, .inl (some 388)]) (by decide +kernel) (fun k q => by cases q) rfl ?_
  refine y_same (i := .iload_n 2) (len := 1) (r := (0, 0, 0, 0)) (pc' := 5) (ls' := [some (.inl (some 0)), some (zi x), some (zi xk), some (.inl (some 388)), none]) (st' := [zi xk, zi x, .inl (some 0), zi y2132, .inl (some 388)]) (by decide +kernel) (fun k q => by cases q) rfl ?_
  refine y_cI (i := .invokevirtual 15) (len := 3) (r := (0, 136, 11, 1064)) (nL := 4) (k := 1) (n := 3) (hs := []) (args := [.inl (some 0), zi x, zi xk]) (rest := [zi y2132, .inl (some 388)]) (l0 := [some (.inl (some 0)), some (zi x), some (zi xk), none]) (by decide +kernel) (Or.inr (Or.inl ⟨_, rfl⟩)) rfl rfl rfl rfl (Nat.le_of_ble_eq_true rfl) (zO hg (tv0 hg) aw0 rfl) rfl (qI_le (by decide) (c_drop1 hg rc r5 hx exk hk)) (fun y2133 h2133 hRy2133 => ?_)
  obtain ⟨τ2133, hg2133, rcn, frn, ey⟩ := hRy2133
  refine y_i2l2 (len := 1) (r := (0, 0, 0, 0)) (by decide +kernel) ?_
  refine y_las2 (i := 0) (len := 1) (r := (0, 0, 0, 0)) (by decide +kernel) hg2133 (t388 hg2133) aw388 rfl (by omega) (by omega) rfl (fun h2134 hg2134 hw2134 ho2134 => ?_)
  refine y_goto (off := 7) (pc' := 17) (len := 3) (r := (0, 0, 0, 0)) (by decide +kernel) (by decide +kernel) ?_
  refine y_ic (c := 0) (len := 1) (r := (0, 0, 0, 0)) (by decide +kernel) (by decide) (fun y2135 hy2135 => ?_)
  refine y_rI (len := 1) (r := (0, 0, 0, 0)) (nL := 5) (k := 1) (n9 := 4) (hs := [(0, 10, 13, 0)]) (by decide +kernel) rfl rfl ?_
  exact ⟨_, hg2134, RC_up rcn (fun k j hC => ho2134 k j (by omega)), fun k j hC => (ho2134 k j (by omega)).trans (frn k j hC), by omega, _, hw2134, ey⟩
theorem c_forget0 {t k : Nat} {τ : List Nat} {h : zh} {cur : bsT} {hs : List bsT} {x xk : Int32} (hg : hG τ h) (rc : RC h cur hs) (r5 : hsl h 0 5 = some (.inl (some 2))) (hx : x.toInt = 0) (exk : xk.toInt = (k : Int)) (hk : k < cur.1.2.length) : qI 21 137 [some (.inl (some 0)), some (zi x), some (zi xk), none] h t (fun y h1 => ∃ τ1, hG τ1 h1 ∧ RC h1 ((cur.1.1, cur.1.2.eraseIdx k), (cur.2.1, cur.2.2)) (psh hs cur) ∧ frC h h1 ∧ y.toInt = ((cur.1.2.length - 1 : Nat) : Int)) := by
  refine qI_of ?_
  obtain ⟨-, ⟨uz, vz, huz, l2z, b2z⟩, -⟩ := id rc
  have uuz : (uz = 1 ∧ vz = 6) ∨ (uz = 6 ∧ vz = 1) := huz
  have tyz := ty_u (tyB_of hg huz (tv2 hg) b2z.1 b2z.2.1 l2z) huz
  have laz := lay_u l2z huz
  obtain ⟨⟨⟨xp0z, hp0z, ep0z⟩, ip0z⟩, ⟨xc0z, hc0z, ec0z⟩, ic0z⟩ := b2z.2.2.1
  obtain ⟨⟨⟨xp1z, hp1z, ep1z⟩, ip1z⟩, ⟨xc1z, hc1z, ec1z⟩, ic1z⟩ := b2z.2.2.2
  refine y_same (i := .aload_n 0) (len := 1) (r := (0, 0, 0, 0)) (pc' := 1) (ls' := [some (.inl (some 0)), some (zi x), some (zi xk), none]) (st' := [.inl (some 0)]) (by decide +kernel) (fun k q => by cases q) rfl ?_
  refine y_same (i := .iload_n 1) (len := 1) (r := (0, 0, 0, 0)) (pc' := 2) (ls' := [some (.inl (some 0)), some (zi x), some (zi xk), none]) (st' := [zi x, .inl (some 0)]) (by decide +kernel) (fun k q => by cases q) rfl ?_
  refine y_cI (i := .invokestatic 101) (len := 3) (r := (1, 156, 11, 1068)) (nL := 1) (k := 2) (n := 1) (hs := []) (args := [zi x]) (rest := [.inl (some 0)]) (l0 := [some (zi x)]) (by decide +kernel) (Or.inl ⟨_, rfl⟩) rfl rfl rfl rfl (Nat.le_of_ble_eq_true rfl) rfl rfl (qI_le (by decide) (c_isSide (d := 0))) (fun y2136 qy2136 hRy2136 => ?_)
  obtain ⟨rfl, hDy2136⟩ := hRy2136
  have ey2136 : y2136.toInt = 1 := by omega
  refine y_iF (c := .eq) (off := 25) (len := 3) (r := (0, 0, 0, 0)) (by decide +kernel) (acmpF (c := .eq) (by show ¬ (_ = _); omega)) ?_
  refine y_same (i := .aload_n 0) (len := 1) (r := (0, 0, 0, 0)) (pc' := 9) (ls' := [some (.inl (some 0)), some (zi x), some (zi xk), none]) (st' := [.inl (some 0), .inl (some 0)]) (by decide +kernel) (fun k q => by cases q) rfl ?_
  refine y_get (j := 29) (len := 3) (r := (11, 5, 2, 404)) (by decide +kernel) hg (tv0 hg) aw0 rfl rfl r5 ?_
  refine y_same (i := .iload_n 1) (len := 1) (r := (0, 0, 0, 0)) (pc' := 13) (ls' := [some (.inl (some 0)), some (zi x), some (zi xk), none]) (st' := [zi x, .inl (some 2), .inl (some 0)]) (by decide +kernel) (fun k q => by cases q) rfl ?_
  refine y_cA (i := .invokevirtual 105) (len := 3) (r := (0, 108, 9, 1071)) (nL := 2) (k := 3) (n := 2) (hs := []) (args := [.inl (some 2), zi x]) (rest := [.inl (some 0)]) (l0 := [some (.inl (some 2)), some (zi x)]) (by decide +kernel) (Or.inr (Or.inl ⟨_, rfl⟩)) rfl rfl rfl rfl (Nat.le_of_ble_eq_true rfl) (zO hg (tv2 hg) aw1000 rfl) rfl (qA_le (by decide) (c_side0 (d := 0) (u := uz) (v := vz) hg (by omega) b2z.1 b2z.2.1)) (fun q2137 hR2137 => ?_)
  obtain rfl := hR2137
  refine y_get (j := 129) (len := 3) (r := (8, 1, 2, 20188)) (by decide +kernel) hg tyz.1.1 aw1001 rfl rfl laz.1.2.1 ?_
  refine y_same (i := .iload_n 2) (len := 1) (r := (0, 0, 0, 0)) (pc' := 20) (ls' := [some (.inl (some 0)), some (zi x), some (zi xk), none]) (st' := [zi xk, .inl (some ((2 + uz + 3))), .inl (some 0)]) (by decide +kernel) (fun k q => by cases q) rfl ?_
  refine y_cI (i := .invokevirtual 115) (len := 3) (r := (0, 63, 6, 1075)) (nL := 2) (k := 2) (n := 2) (hs := []) (args := [.inl (some ((2 + uz + 3))), zi xk]) (rest := [.inl (some 0)]) (l0 := [some (.inl (some ((2 + uz + 3)))), some (zi xk)]) (by decide +kernel) (Or.inr (Or.inl ⟨_, rfl⟩)) rfl rfl rfl rfl (Nat.le_of_ble_eq_true rfl) (zO hg tyz.1.2.2.2.1 aw1003 rfl) rfl (qI_le (by decide) (c_has6 (d := 0) hg tyz.1.2.2.2.1 hc0z)) (fun y2138 qy2138 hRy2138 => ?_)
  obtain ⟨rfl, hDy2138⟩ := hRy2138
  have ey2138 : y2138.toInt = 1 := by omega
  refine y_iF (c := .eq) (off := 7) (len := 3) (r := (0, 0, 0, 0)) (by decide +kernel) (acmpF (c := .eq) (by show ¬ (_ = _); omega)) ?_
  refine y_ic (c := 1) (len := 1) (r := (0, 0, 0, 0)) (by decide +kernel) (by decide) (fun y2139 hy2139 => ?_)
  refine y_goto (off := 4) (pc' := 31) (len := 3) (r := (0, 0, 0, 0)) (by decide +kernel) (by decide +kernel) ?_
  refine y_cV (i := .invokevirtual 120) (len := 3) (r := (0, 152, 11, 1079)) (nL := 2) (k := 0) (n := 2) (hs := []) (args := [.inl (some 0), zi y2139]) (rest := []) (l0 := [some (.inl (some 0)), some (zi y2139)]) (by decide +kernel) (Or.inr (Or.inl ⟨_, rfl⟩)) rfl rfl rfl rfl (Nat.le_of_ble_eq_true rfl) (zO hg (tv0 hg) aw0 rfl) rfl (qV_le (by decide) (c_there (d := 0) (by omega))) (fun q2140 hR2140 => ?_)
  obtain rfl := hR2140
  refine y_same (i := .aload_n 0) (len := 1) (r := (0, 0, 0, 0)) (pc' := 35) (ls' := [some (.inl (some 0)), some (zi x), some (zi xk), none]) (st' := [.inl (some 0)]) (by decide +kernel) (fun k q => by cases q) rfl ?_
  refine y_get (j := 36) (len := 3) (r := (11, 6, 2, 405)) (by decide +kernel) hg (tv0 hg) aw0 rfl rfl (g_rU (f := 6) (T2 := 13) hg (tv0 hg) aw0 rfl (by decide)) ?_
  refine y_same (i := .aload_n 0) (len := 1) (r := (0, 0, 0, 0)) (pc' := 39) (ls' := [some (.inl (some 0)), some (zi x), some (zi xk), none]) (st' := [.inl (some 0), .inl (some 13)]) (by decide +kernel) (fun k q => by cases q) rfl ?_
  refine y_get (j := 29) (len := 3) (r := (11, 5, 2, 404)) (by decide +kernel) hg (tv0 hg) aw0 rfl rfl r5 ?_
  refine y_cV (i := .invokevirtual 83) (len := 3) (r := (0, 24, 2, 449)) (nL := 2) (k := 0) (n := 2) (hs := []) (args := [.inl (some 13), .inl (some 2)]) (rest := []) (l0 := [some (.inl (some 13)), some (.inl (some 2))]) (by decide +kernel) (Or.inr (Or.inl ⟨_, rfl⟩)) rfl rfl rfl rfl (Nat.le_of_ble_eq_true rfl) (zO hg (tv13 hg) aw13 rfl) rfl (qV_le (by decide) (e_keep hg rc)) (fun h2141 hR2141 => ?_)
  obtain ⟨τ2141, au2141, hg2141, rc2141, F2141⟩ := hR2141
  obtain ⟨-, ⟨u2141, v2141, hu2141, l22141, b22141⟩, -⟩ := id rc2141
  have uu2141 : (u2141 = 1 ∧ v2141 = 6) ∨ (u2141 = 6 ∧ v2141 = 1) := hu2141
  have ty2141 := ty_u (tyB_of hg2141 hu2141 (tv2 hg2141) b22141.1 b22141.2.1 l22141) hu2141
  have la2141 := lay_u l22141 hu2141
  obtain ⟨⟨⟨xp02141, hp02141, ep02141⟩, ip02141⟩, ⟨xc02141, hc02141, ec02141⟩, ic02141⟩ := b22141.2.2.1
  obtain ⟨⟨⟨xp12141, hp12141, ep12141⟩, ip12141⟩, ⟨xc12141, hc12141, ec12141⟩, ic12141⟩ := b22141.2.2.2
  refine y_same (i := .aload_n 0) (len := 1) (r := (0, 0, 0, 0)) (pc' := 46) (ls' := [some (.inl (some 0)), some (zi x), some (zi xk), none]) (st' := [.inl (some 0)]) (by decide +kernel) (fun k q => by cases q) rfl ?_
  have hv2142 := (F2141 0 5 (by omega)).trans r5
  refine y_get (j := 29) (len := 3) (r := (11, 5, 2, 404)) (by decide +kernel) hg2141 (tv0 hg2141) aw0 rfl rfl hv2142 ?_
  refine y_same (i := .iload_n 1) (len := 1) (r := (0, 0, 0, 0)) (pc' := 50) (ls' := [some (.inl (some 0)), some (zi x), some (zi xk), none]) (st' := [zi x, .inl (some 2)]) (by decide +kernel) (fun k q => by cases q) rfl ?_
  refine y_cA (i := .invokevirtual 105) (len := 3) (r := (0, 108, 9, 1071)) (nL := 2) (k := 3) (n := 2) (hs := []) (args := [.inl (some 2), zi x]) (rest := []) (l0 := [some (.inl (some 2)), some (zi x)]) (by decide +kernel) (Or.inr (Or.inl ⟨_, rfl⟩)) rfl rfl rfl rfl (Nat.le_of_ble_eq_true rfl) (zO hg2141 (tv2 hg2141) aw1000 rfl) rfl (qA_le (by decide) (c_side0 (d := 0) (u := u2141) (v := v2141) hg2141 (by omega) b22141.1 b22141.2.1)) (fun q2143 hR2143 => ?_)
  obtain rfl := hR2143
  refine y_get (j := 129) (len := 3) (r := (8, 1, 2, 20188)) (by decide +kernel) hg2141 ty2141.1.1 aw1001 rfl rfl la2141.1.2.1 ?_
  refine y_same (i := .astore_n 3) (len := 1) (r := (0, 0, 0, 0)) (pc' := 57) (ls' := [some (.inl (some 0)), some (zi x), some (zi xk), some (.inl (some ((2 + u2141 + 3))))]) (st' := []) (by decide +kernel) (fun k q => by cases q) rfl ?_
  refine y_same (i := .aload_n 3) (len := 1) (r := (0, 0, 0, 0)) (pc' := 58) (ls' := [some (.inl (some 0)), some (zi x), some (zi xk), some (.inl (some ((2 + u2141 + 3))))]) (st' := [.inl (some ((2 + u2141 + 3)))]) (by decide +kernel) (fun k q => by cases q) rfl ?_
  refine y_same (i := .iload_n 2) (len := 1) (r := (0, 0, 0, 0)) (pc' := 59) (ls' := [some (.inl (some 0)), some (zi x), some (zi xk), some (.inl (some ((2 + u2141 + 3))))]) (st' := [zi xk, .inl (some ((2 + u2141 + 3)))]) (by decide +kernel) (fun k q => by cases q) rfl ?_
  refine y_cV (i := .invokevirtual 123) (len := 3) (r := (0, 70, 6, 1099)) (nL := 3) (k := 0) (n := 2) (hs := []) (args := [.inl (some ((2 + u2141 + 3))), zi xk]) (rest := []) (l0 := [some (.inl (some ((2 + u2141 + 3)))), some (zi xk), none]) (by decide +kernel) (Or.inr (Or.inl ⟨_, rfl⟩)) rfl rfl rfl rfl (Nat.le_of_ble_eq_true rfl) (zO hg2141 ty2141.1.2.2.2.1 aw1003 rfl) rfl (qV_le (by decide) (e_rm6 (d := 0) (RA := (2 + u2141 + 3)) (IA := (2 + u2141 + 4)) hg2141 ty2141.1.2.2.2.1 ty2141.1.2.2.2.2 (by omega) la2141.1.2.2.2 b22141.2.2.1.2 exk (by omega))) (fun h2144 hR2144 => ?_)
  obtain ⟨hg2144, r2144, F2144⟩ := hR2144
  have rc2144 : RC h2144 ((cur.1.1, cur.1.2.eraseIdx k), (cur.2.1, cur.2.2)) (psh hs cur) := RC_set rc2141 ⟨u2141, v2141, hu2141, ⟨laS_up l22141.1 (fun k j h1 => F2144 k j (by omega)), laS_up l22141.2 (fun k j h1 => F2144 k j (by omega))⟩, rfs_up b22141.1 (F2144 _ _ (by omega)), rfs_up b22141.2.1 (F2144 _ _ (by omega)), ⟨rwC_up b22141.2.2.1.1 (F2144 _ _ (by omega)) (fun j => F2144 _ _ (by omega)), r2144⟩, sdC_up b22141.2.2.2 (fun k j h1 h2 => F2144 k j (by omega))⟩ (fun k j h1 => F2144 k j (by omega))
  obtain ⟨xz, hz, ez⟩ := r2144.1
  rw [List.length_eraseIdx_of_lt (by omega)] at ez
  refine y_same (i := .aload_n 0) (len := 1) (r := (0, 0, 0, 0)) (pc' := 63) (ls' := [some (.inl (some 0)), some (zi x), some (zi xk), some (.inl (some ((2 + u2141 + 3))))]) (st' := [.inl (some 0)]) (by decide +kernel) (fun k q => by cases q) rfl ?_
  refine y_cV (i := .invokevirtual 91) (len := 3) (r := (0, 154, 11, 474)) (nL := 1) (k := 0) (n := 1) (hs := []) (args := [.inl (some 0)]) (rest := []) (l0 := [some (.inl (some 0))]) (by decide +kernel) (Or.inr (Or.inl ⟨_, rfl⟩)) rfl rfl rfl rfl (Nat.le_of_ble_eq_true rfl) (zO hg2144 (tv0 hg2144) aw0 rfl) rfl (qV_le (by decide) (c_forg (d := 0) hg2144)) (fun h2145 hR2145 => ?_)
  obtain ⟨hg2145, F2145⟩ := hR2145
  refine y_same (i := .aload_n 3) (len := 1) (r := (0, 0, 0, 0)) (pc' := 67) (ls' := [some (.inl (some 0)), some (zi x), some (zi xk), some (.inl (some ((2 + u2141 + 3))))]) (st' := [.inl (some ((2 + u2141 + 3)))]) (by decide +kernel) (fun k q => by cases q) rfl ?_
  have hv2146 := (F2145 (2 + u2141 + 3) 1 (by omega)).trans hz
  refine y_get (j := 126) (len := 3) (r := (6, 1, 0, 20168)) (by decide +kernel) hg2145 ty2141.1.2.2.2.1 aw1003 rfl rfl hv2146 ?_
  refine y_rI (len := 1) (r := (0, 0, 0, 0)) (nL := 4) (k := 1) (n9 := 3) (hs := []) (by decide +kernel) rfl rfl ?_
  exact ⟨_, hg2145, (RC_up rc2144 (fun k j h1 => (F2145 k j (by omega)))), fun k j hC => ((F2145 k j (by omega)).trans ((F2144 k j (by omega)).trans (F2141 k j (by omega)))), by omega⟩
theorem c_forgetT0 {t : Nat} {τ : List Nat} {h : zh} {cur : bsT} {hs : List bsT} {x xk : Int32} (hg : hG τ h) (rc : RC h cur hs) (r5 : hsl h 0 5 = some (.inl (some 2))) (hx : x.toInt = 0) (hk : ¬ (0 ≤ xk.toInt ∧ xk.toInt < (cur.1.2.length : Int))) : qT 21 137 [some (.inl (some 0)), some (zi x), some (zi xk), none] h t 0 (fun h1 => hG τ h1 ∧ ∀ k j, (k ≠ 0 ∨ j ≠ 3) → hsl h1 k j = hsl h k j) := by
  refine qT_of ?_
  obtain ⟨-, ⟨uz, vz, huz, l2z, b2z⟩, -⟩ := id rc
  have uuz : (uz = 1 ∧ vz = 6) ∨ (uz = 6 ∧ vz = 1) := huz
  have tyz := ty_u (tyB_of hg huz (tv2 hg) b2z.1 b2z.2.1 l2z) huz
  have laz := lay_u l2z huz
  obtain ⟨⟨⟨xp0z, hp0z, ep0z⟩, ip0z⟩, ⟨xc0z, hc0z, ec0z⟩, ic0z⟩ := b2z.2.2.1
  obtain ⟨⟨⟨xp1z, hp1z, ep1z⟩, ip1z⟩, ⟨xc1z, hc1z, ec1z⟩, ic1z⟩ := b2z.2.2.2
  refine y_same (i := .aload_n 0) (len := 1) (r := (0, 0, 0, 0)) (pc' := 1) (ls' := [some (.inl (some 0)), some (zi x), some (zi xk), none]) (st' := [.inl (some 0)]) (by decide +kernel) (fun k q => by cases q) rfl ?_
  refine y_same (i := .iload_n 1) (len := 1) (r := (0, 0, 0, 0)) (pc' := 2) (ls' := [some (.inl (some 0)), some (zi x), some (zi xk), none]) (st' := [zi x, .inl (some 0)]) (by decide +kernel) (fun k q => by cases q) rfl ?_
  refine y_cI (i := .invokestatic 101) (len := 3) (r := (1, 156, 11, 1068)) (nL := 1) (k := 2) (n := 1) (hs := []) (args := [zi x]) (rest := [.inl (some 0)]) (l0 := [some (zi x)]) (by decide +kernel) (Or.inl ⟨_, rfl⟩) rfl rfl rfl rfl (Nat.le_of_ble_eq_true rfl) rfl rfl (qI_le (by decide) (c_isSide (d := 0))) (fun y2147 qy2147 hRy2147 => ?_)
  obtain ⟨rfl, hDy2147⟩ := hRy2147
  have ey2147 : y2147.toInt = 1 := by omega
  refine y_iF (c := .eq) (off := 25) (len := 3) (r := (0, 0, 0, 0)) (by decide +kernel) (acmpF (c := .eq) (by show ¬ (_ = _); omega)) ?_
  refine y_same (i := .aload_n 0) (len := 1) (r := (0, 0, 0, 0)) (pc' := 9) (ls' := [some (.inl (some 0)), some (zi x), some (zi xk), none]) (st' := [.inl (some 0), .inl (some 0)]) (by decide +kernel) (fun k q => by cases q) rfl ?_
  refine y_get (j := 29) (len := 3) (r := (11, 5, 2, 404)) (by decide +kernel) hg (tv0 hg) aw0 rfl rfl r5 ?_
  refine y_same (i := .iload_n 1) (len := 1) (r := (0, 0, 0, 0)) (pc' := 13) (ls' := [some (.inl (some 0)), some (zi x), some (zi xk), none]) (st' := [zi x, .inl (some 2), .inl (some 0)]) (by decide +kernel) (fun k q => by cases q) rfl ?_
  refine y_cA (i := .invokevirtual 105) (len := 3) (r := (0, 108, 9, 1071)) (nL := 2) (k := 3) (n := 2) (hs := []) (args := [.inl (some 2), zi x]) (rest := [.inl (some 0)]) (l0 := [some (.inl (some 2)), some (zi x)]) (by decide +kernel) (Or.inr (Or.inl ⟨_, rfl⟩)) rfl rfl rfl rfl (Nat.le_of_ble_eq_true rfl) (zO hg (tv2 hg) aw1000 rfl) rfl (qA_le (by decide) (c_side0 (d := 0) (u := uz) (v := vz) hg (by omega) b2z.1 b2z.2.1)) (fun q2148 hR2148 => ?_)
  obtain rfl := hR2148
  refine y_get (j := 129) (len := 3) (r := (8, 1, 2, 20188)) (by decide +kernel) hg tyz.1.1 aw1001 rfl rfl laz.1.2.1 ?_
  refine y_same (i := .iload_n 2) (len := 1) (r := (0, 0, 0, 0)) (pc' := 20) (ls' := [some (.inl (some 0)), some (zi x), some (zi xk), none]) (st' := [zi xk, .inl (some ((2 + uz + 3))), .inl (some 0)]) (by decide +kernel) (fun k q => by cases q) rfl ?_
  refine y_cI (i := .invokevirtual 115) (len := 3) (r := (0, 63, 6, 1075)) (nL := 2) (k := 2) (n := 2) (hs := []) (args := [.inl (some ((2 + uz + 3))), zi xk]) (rest := [.inl (some 0)]) (l0 := [some (.inl (some ((2 + uz + 3)))), some (zi xk)]) (by decide +kernel) (Or.inr (Or.inl ⟨_, rfl⟩)) rfl rfl rfl rfl (Nat.le_of_ble_eq_true rfl) (zO hg tyz.1.2.2.2.1 aw1003 rfl) rfl (qI_le (by decide) (c_has6 (d := 0) hg tyz.1.2.2.2.1 hc0z)) (fun y2149 qy2149 hRy2149 => ?_)
  obtain ⟨rfl, hDy2149⟩ := hRy2149
  have ey2149 : y2149.toInt = 0 := by omega
  refine y_iT (c := .eq) (off := 7) (pc' := 30) (len := 3) (r := (0, 0, 0, 0)) (by decide +kernel) (acmpT (c := .eq) (by show _ = _; omega)) (by decide +kernel) ?_
  refine y_ic (c := 0) (len := 1) (r := (0, 0, 0, 0)) (by decide +kernel) (by decide) (fun y2150 hy2150 => ?_)
  refine y_cX (i := .invokevirtual 120) (len := 3) (r := (0, 152, 11, 1079)) (nL := 2) (k := 0) (n := 2) (hs := []) (args := [.inl (some 0), zi y2150]) (rest := []) (l0 := [some (.inl (some 0)), some (zi y2150)]) (by decide +kernel) (Or.inr (Or.inl ⟨_, rfl⟩)) rfl rfl rfl rfl (Nat.le_of_ble_eq_true rfl) (zO hg (tv0 hg) aw0 rfl) rfl rfl (mL := 4) (mk := 1) (m9 := 3) (ms := []) rfl rfl (qT_le (by decide) (c_thereT (d := 0) hg (by omega))) (fun h2151 hR2151 => ?_)
  obtain ⟨hg2151, F2151⟩ := hR2151
  exact ⟨_, rfl, hg2151, fun k j hC => (F2151 k j (by omega))⟩
theorem c_forget1 {t k : Nat} {τ : List Nat} {h : zh} {cur : bsT} {hs : List bsT} {x xk : Int32} (hg : hG τ h) (rc : RC h cur hs) (r5 : hsl h 0 5 = some (.inl (some 2))) (hx : x.toInt = 1) (exk : xk.toInt = (k : Int)) (hk : k < cur.2.2.length) : qI 21 137 [some (.inl (some 0)), some (zi x), some (zi xk), none] h t (fun y h1 => ∃ τ1, hG τ1 h1 ∧ RC h1 ((cur.1.1, cur.1.2), (cur.2.1, cur.2.2.eraseIdx k)) (psh hs cur) ∧ frC h h1 ∧ y.toInt = ((cur.2.2.length - 1 : Nat) : Int)) := by
  refine qI_of ?_
  obtain ⟨-, ⟨uz, vz, huz, l2z, b2z⟩, -⟩ := id rc
  have uuz : (uz = 1 ∧ vz = 6) ∨ (uz = 6 ∧ vz = 1) := huz
  have tyz := ty_u (tyB_of hg huz (tv2 hg) b2z.1 b2z.2.1 l2z) huz
  have laz := lay_u l2z huz
  obtain ⟨⟨⟨xp0z, hp0z, ep0z⟩, ip0z⟩, ⟨xc0z, hc0z, ec0z⟩, ic0z⟩ := b2z.2.2.1
  obtain ⟨⟨⟨xp1z, hp1z, ep1z⟩, ip1z⟩, ⟨xc1z, hc1z, ec1z⟩, ic1z⟩ := b2z.2.2.2
  refine y_same (i := .aload_n 0) (len := 1) (r := (0, 0, 0, 0)) (pc' := 1) (ls' := [some (.inl (some 0)), some (zi x), some (zi xk), none]) (st' := [.inl (some 0)]) (by decide +kernel) (fun k q => by cases q) rfl ?_
  refine y_same (i := .iload_n 1) (len := 1) (r := (0, 0, 0, 0)) (pc' := 2) (ls' := [some (.inl (some 0)), some (zi x), some (zi xk), none]) (st' := [zi x, .inl (some 0)]) (by decide +kernel) (fun k q => by cases q) rfl ?_
  refine y_cI (i := .invokestatic 101) (len := 3) (r := (1, 156, 11, 1068)) (nL := 1) (k := 2) (n := 1) (hs := []) (args := [zi x]) (rest := [.inl (some 0)]) (l0 := [some (zi x)]) (by decide +kernel) (Or.inl ⟨_, rfl⟩) rfl rfl rfl rfl (Nat.le_of_ble_eq_true rfl) rfl rfl (qI_le (by decide) (c_isSide (d := 0))) (fun y2152 qy2152 hRy2152 => ?_)
  obtain ⟨rfl, hDy2152⟩ := hRy2152
  have ey2152 : y2152.toInt = 1 := by omega
  refine y_iF (c := .eq) (off := 25) (len := 3) (r := (0, 0, 0, 0)) (by decide +kernel) (acmpF (c := .eq) (by show ¬ (_ = _); omega)) ?_
  refine y_same (i := .aload_n 0) (len := 1) (r := (0, 0, 0, 0)) (pc' := 9) (ls' := [some (.inl (some 0)), some (zi x), some (zi xk), none]) (st' := [.inl (some 0), .inl (some 0)]) (by decide +kernel) (fun k q => by cases q) rfl ?_
  refine y_get (j := 29) (len := 3) (r := (11, 5, 2, 404)) (by decide +kernel) hg (tv0 hg) aw0 rfl rfl r5 ?_
  refine y_same (i := .iload_n 1) (len := 1) (r := (0, 0, 0, 0)) (pc' := 13) (ls' := [some (.inl (some 0)), some (zi x), some (zi xk), none]) (st' := [zi x, .inl (some 2), .inl (some 0)]) (by decide +kernel) (fun k q => by cases q) rfl ?_
  refine y_cA (i := .invokevirtual 105) (len := 3) (r := (0, 108, 9, 1071)) (nL := 2) (k := 3) (n := 2) (hs := []) (args := [.inl (some 2), zi x]) (rest := [.inl (some 0)]) (l0 := [some (.inl (some 2)), some (zi x)]) (by decide +kernel) (Or.inr (Or.inl ⟨_, rfl⟩)) rfl rfl rfl rfl (Nat.le_of_ble_eq_true rfl) (zO hg (tv2 hg) aw1000 rfl) rfl (qA_le (by decide) (c_side1 (d := 0) (u := uz) (v := vz) hg (by omega) b2z.1 b2z.2.1)) (fun q2153 hR2153 => ?_)
  obtain rfl := hR2153
  refine y_get (j := 129) (len := 3) (r := (8, 1, 2, 20188)) (by decide +kernel) hg tyz.2.1 aw1001 rfl rfl laz.2.2.1 ?_
  refine y_same (i := .iload_n 2) (len := 1) (r := (0, 0, 0, 0)) (pc' := 20) (ls' := [some (.inl (some 0)), some (zi x), some (zi xk), none]) (st' := [zi xk, .inl (some ((2 + vz + 3))), .inl (some 0)]) (by decide +kernel) (fun k q => by cases q) rfl ?_
  refine y_cI (i := .invokevirtual 115) (len := 3) (r := (0, 63, 6, 1075)) (nL := 2) (k := 2) (n := 2) (hs := []) (args := [.inl (some ((2 + vz + 3))), zi xk]) (rest := [.inl (some 0)]) (l0 := [some (.inl (some ((2 + vz + 3)))), some (zi xk)]) (by decide +kernel) (Or.inr (Or.inl ⟨_, rfl⟩)) rfl rfl rfl rfl (Nat.le_of_ble_eq_true rfl) (zO hg tyz.2.2.2.2.1 aw1003 rfl) rfl (qI_le (by decide) (c_has6 (d := 0) hg tyz.2.2.2.2.1 hc1z)) (fun y2154 qy2154 hRy2154 => ?_)
  obtain ⟨rfl, hDy2154⟩ := hRy2154
  have ey2154 : y2154.toInt = 1 := by omega
  refine y_iF (c := .eq) (off := 7) (len := 3) (r := (0, 0, 0, 0)) (by decide +kernel) (acmpF (c := .eq) (by show ¬ (_ = _); omega)) ?_
  refine y_ic (c := 1) (len := 1) (r := (0, 0, 0, 0)) (by decide +kernel) (by decide) (fun y2155 hy2155 => ?_)
  refine y_goto (off := 4) (pc' := 31) (len := 3) (r := (0, 0, 0, 0)) (by decide +kernel) (by decide +kernel) ?_
  refine y_cV (i := .invokevirtual 120) (len := 3) (r := (0, 152, 11, 1079)) (nL := 2) (k := 0) (n := 2) (hs := []) (args := [.inl (some 0), zi y2155]) (rest := []) (l0 := [some (.inl (some 0)), some (zi y2155)]) (by decide +kernel) (Or.inr (Or.inl ⟨_, rfl⟩)) rfl rfl rfl rfl (Nat.le_of_ble_eq_true rfl) (zO hg (tv0 hg) aw0 rfl) rfl (qV_le (by decide) (c_there (d := 0) (by omega))) (fun q2156 hR2156 => ?_)
  obtain rfl := hR2156
  refine y_same (i := .aload_n 0) (len := 1) (r := (0, 0, 0, 0)) (pc' := 35) (ls' := [some (.inl (some 0)), some (zi x), some (zi xk), none]) (st' := [.inl (some 0)]) (by decide +kernel) (fun k q => by cases q) rfl ?_
  refine y_get (j := 36) (len := 3) (r := (11, 6, 2, 405)) (by decide +kernel) hg (tv0 hg) aw0 rfl rfl (g_rU (f := 6) (T2 := 13) hg (tv0 hg) aw0 rfl (by decide)) ?_
  refine y_same (i := .aload_n 0) (len := 1) (r := (0, 0, 0, 0)) (pc' := 39) (ls' := [some (.inl (some 0)), some (zi x), some (zi xk), none]) (st' := [.inl (some 0), .inl (some 13)]) (by decide +kernel) (fun k q => by cases q) rfl ?_
  refine y_get (j := 29) (len := 3) (r := (11, 5, 2, 404)) (by decide +kernel) hg (tv0 hg) aw0 rfl rfl r5 ?_
  refine y_cV (i := .invokevirtual 83) (len := 3) (r := (0, 24, 2, 449)) (nL := 2) (k := 0) (n := 2) (hs := []) (args := [.inl (some 13), .inl (some 2)]) (rest := []) (l0 := [some (.inl (some 13)), some (.inl (some 2))]) (by decide +kernel) (Or.inr (Or.inl ⟨_, rfl⟩)) rfl rfl rfl rfl (Nat.le_of_ble_eq_true rfl) (zO hg (tv13 hg) aw13 rfl) rfl (qV_le (by decide) (e_keep hg rc)) (fun h2157 hR2157 => ?_)
  obtain ⟨τ2157, au2157, hg2157, rc2157, F2157⟩ := hR2157
  obtain ⟨-, ⟨u2157, v2157, hu2157, l22157, b22157⟩, -⟩ := id rc2157
  have uu2157 : (u2157 = 1 ∧ v2157 = 6) ∨ (u2157 = 6 ∧ v2157 = 1) := hu2157
  have ty2157 := ty_u (tyB_of hg2157 hu2157 (tv2 hg2157) b22157.1 b22157.2.1 l22157) hu2157
  have la2157 := lay_u l22157 hu2157
  obtain ⟨⟨⟨xp02157, hp02157, ep02157⟩, ip02157⟩, ⟨xc02157, hc02157, ec02157⟩, ic02157⟩ := b22157.2.2.1
  obtain ⟨⟨⟨xp12157, hp12157, ep12157⟩, ip12157⟩, ⟨xc12157, hc12157, ec12157⟩, ic12157⟩ := b22157.2.2.2
  refine y_same (i := .aload_n 0) (len := 1) (r := (0, 0, 0, 0)) (pc' := 46) (ls' := [some (.inl (some 0)), some (zi x), some (zi xk), none]) (st' := [.inl (some 0)]) (by decide +kernel) (fun k q => by cases q) rfl ?_
  have hv2158 := (F2157 0 5 (by omega)).trans r5
  refine y_get (j := 29) (len := 3) (r := (11, 5, 2, 404)) (by decide +kernel) hg2157 (tv0 hg2157) aw0 rfl rfl hv2158 ?_
  refine y_same (i := .iload_n 1) (len := 1) (r := (0, 0, 0, 0)) (pc' := 50) (ls' := [some (.inl (some 0)), some (zi x), some (zi xk), none]) (st' := [zi x, .inl (some 2)]) (by decide +kernel) (fun k q => by cases q) rfl ?_
  refine y_cA (i := .invokevirtual 105) (len := 3) (r := (0, 108, 9, 1071)) (nL := 2) (k := 3) (n := 2) (hs := []) (args := [.inl (some 2), zi x]) (rest := []) (l0 := [some (.inl (some 2)), some (zi x)]) (by decide +kernel) (Or.inr (Or.inl ⟨_, rfl⟩)) rfl rfl rfl rfl (Nat.le_of_ble_eq_true rfl) (zO hg2157 (tv2 hg2157) aw1000 rfl) rfl (qA_le (by decide) (c_side1 (d := 0) (u := u2157) (v := v2157) hg2157 (by omega) b22157.1 b22157.2.1)) (fun q2159 hR2159 => ?_)
  obtain rfl := hR2159
  refine y_get (j := 129) (len := 3) (r := (8, 1, 2, 20188)) (by decide +kernel) hg2157 ty2157.2.1 aw1001 rfl rfl la2157.2.2.1 ?_
  refine y_same (i := .astore_n 3) (len := 1) (r := (0, 0, 0, 0)) (pc' := 57) (ls' := [some (.inl (some 0)), some (zi x), some (zi xk), some (.inl (some ((2 + v2157 + 3))))]) (st' := []) (by decide +kernel) (fun k q => by cases q) rfl ?_
  refine y_same (i := .aload_n 3) (len := 1) (r := (0, 0, 0, 0)) (pc' := 58) (ls' := [some (.inl (some 0)), some (zi x), some (zi xk), some (.inl (some ((2 + v2157 + 3))))]) (st' := [.inl (some ((2 + v2157 + 3)))]) (by decide +kernel) (fun k q => by cases q) rfl ?_
  refine y_same (i := .iload_n 2) (len := 1) (r := (0, 0, 0, 0)) (pc' := 59) (ls' := [some (.inl (some 0)), some (zi x), some (zi xk), some (.inl (some ((2 + v2157 + 3))))]) (st' := [zi xk, .inl (some ((2 + v2157 + 3)))]) (by decide +kernel) (fun k q => by cases q) rfl ?_
  refine y_cV (i := .invokevirtual 123) (len := 3) (r := (0, 70, 6, 1099)) (nL := 3) (k := 0) (n := 2) (hs := []) (args := [.inl (some ((2 + v2157 + 3))), zi xk]) (rest := []) (l0 := [some (.inl (some ((2 + v2157 + 3)))), some (zi xk), none]) (by decide +kernel) (Or.inr (Or.inl ⟨_, rfl⟩)) rfl rfl rfl rfl (Nat.le_of_ble_eq_true rfl) (zO hg2157 ty2157.2.2.2.2.1 aw1003 rfl) rfl (qV_le (by decide) (e_rm6 (d := 0) (RA := (2 + v2157 + 3)) (IA := (2 + v2157 + 4)) hg2157 ty2157.2.2.2.2.1 ty2157.2.2.2.2.2 (by omega) la2157.2.2.2.2 b22157.2.2.2.2 exk (by omega))) (fun h2160 hR2160 => ?_)
  obtain ⟨hg2160, r2160, F2160⟩ := hR2160
  have rc2160 : RC h2160 ((cur.1.1, cur.1.2), (cur.2.1, cur.2.2.eraseIdx k)) (psh hs cur) := RC_set rc2157 ⟨u2157, v2157, hu2157, ⟨laS_up l22157.1 (fun k j h1 => F2160 k j (by omega)), laS_up l22157.2 (fun k j h1 => F2160 k j (by omega))⟩, rfs_up b22157.1 (F2160 _ _ (by omega)), rfs_up b22157.2.1 (F2160 _ _ (by omega)), sdC_up b22157.2.2.1 (fun k j h1 h2 => F2160 k j (by omega)), ⟨rwC_up b22157.2.2.2.1 (F2160 _ _ (by omega)) (fun j => F2160 _ _ (by omega)), r2160⟩⟩ (fun k j h1 => F2160 k j (by omega))
  obtain ⟨xz, hz, ez⟩ := r2160.1
  rw [List.length_eraseIdx_of_lt (by omega)] at ez
  refine y_same (i := .aload_n 0) (len := 1) (r := (0, 0, 0, 0)) (pc' := 63) (ls' := [some (.inl (some 0)), some (zi x), some (zi xk), some (.inl (some ((2 + v2157 + 3))))]) (st' := [.inl (some 0)]) (by decide +kernel) (fun k q => by cases q) rfl ?_
  refine y_cV (i := .invokevirtual 91) (len := 3) (r := (0, 154, 11, 474)) (nL := 1) (k := 0) (n := 1) (hs := []) (args := [.inl (some 0)]) (rest := []) (l0 := [some (.inl (some 0))]) (by decide +kernel) (Or.inr (Or.inl ⟨_, rfl⟩)) rfl rfl rfl rfl (Nat.le_of_ble_eq_true rfl) (zO hg2160 (tv0 hg2160) aw0 rfl) rfl (qV_le (by decide) (c_forg (d := 0) hg2160)) (fun h2161 hR2161 => ?_)
  obtain ⟨hg2161, F2161⟩ := hR2161
  refine y_same (i := .aload_n 3) (len := 1) (r := (0, 0, 0, 0)) (pc' := 67) (ls' := [some (.inl (some 0)), some (zi x), some (zi xk), some (.inl (some ((2 + v2157 + 3))))]) (st' := [.inl (some ((2 + v2157 + 3)))]) (by decide +kernel) (fun k q => by cases q) rfl ?_
  have hv2162 := (F2161 (2 + v2157 + 3) 1 (by omega)).trans hz
  refine y_get (j := 126) (len := 3) (r := (6, 1, 0, 20168)) (by decide +kernel) hg2161 ty2157.2.2.2.2.1 aw1003 rfl rfl hv2162 ?_
  refine y_rI (len := 1) (r := (0, 0, 0, 0)) (nL := 4) (k := 1) (n9 := 3) (hs := []) (by decide +kernel) rfl rfl ?_
  exact ⟨_, hg2161, (RC_up rc2160 (fun k j h1 => (F2161 k j (by omega)))), fun k j hC => ((F2161 k j (by omega)).trans ((F2160 k j (by omega)).trans (F2157 k j (by omega)))), by omega⟩
theorem c_forgetT1 {t : Nat} {τ : List Nat} {h : zh} {cur : bsT} {hs : List bsT} {x xk : Int32} (hg : hG τ h) (rc : RC h cur hs) (r5 : hsl h 0 5 = some (.inl (some 2))) (hx : x.toInt = 1) (hk : ¬ (0 ≤ xk.toInt ∧ xk.toInt < (cur.2.2.length : Int))) : qT 21 137 [some (.inl (some 0)), some (zi x), some (zi xk), none] h t 0 (fun h1 => hG τ h1 ∧ ∀ k j, (k ≠ 0 ∨ j ≠ 3) → hsl h1 k j = hsl h k j) := by
  refine qT_of ?_
  obtain ⟨-, ⟨uz, vz, huz, l2z, b2z⟩, -⟩ := id rc
  have uuz : (uz = 1 ∧ vz = 6) ∨ (uz = 6 ∧ vz = 1) := huz
  have tyz := ty_u (tyB_of hg huz (tv2 hg) b2z.1 b2z.2.1 l2z) huz
  have laz := lay_u l2z huz
  obtain ⟨⟨⟨xp0z, hp0z, ep0z⟩, ip0z⟩, ⟨xc0z, hc0z, ec0z⟩, ic0z⟩ := b2z.2.2.1
  obtain ⟨⟨⟨xp1z, hp1z, ep1z⟩, ip1z⟩, ⟨xc1z, hc1z, ec1z⟩, ic1z⟩ := b2z.2.2.2
  refine y_same (i := .aload_n 0) (len := 1) (r := (0, 0, 0, 0)) (pc' := 1) (ls' := [some (.inl (some 0)), some (zi x), some (zi xk), none]) (st' := [.inl (some 0)]) (by decide +kernel) (fun k q => by cases q) rfl ?_
  refine y_same (i := .iload_n 1) (len := 1) (r := (0, 0, 0, 0)) (pc' := 2) (ls' := [some (.inl (some 0)), some (zi x), some (zi xk), none]) (st' := [zi x, .inl (some 0)]) (by decide +kernel) (fun k q => by cases q) rfl ?_
  refine y_cI (i := .invokestatic 101) (len := 3) (r := (1, 156, 11, 1068)) (nL := 1) (k := 2) (n := 1) (hs := []) (args := [zi x]) (rest := [.inl (some 0)]) (l0 := [some (zi x)]) (by decide +kernel) (Or.inl ⟨_, rfl⟩) rfl rfl rfl rfl (Nat.le_of_ble_eq_true rfl) rfl rfl (qI_le (by decide) (c_isSide (d := 0))) (fun y2163 qy2163 hRy2163 => ?_)
  obtain ⟨rfl, hDy2163⟩ := hRy2163
  have ey2163 : y2163.toInt = 1 := by omega
  refine y_iF (c := .eq) (off := 25) (len := 3) (r := (0, 0, 0, 0)) (by decide +kernel) (acmpF (c := .eq) (by show ¬ (_ = _); omega)) ?_
  refine y_same (i := .aload_n 0) (len := 1) (r := (0, 0, 0, 0)) (pc' := 9) (ls' := [some (.inl (some 0)), some (zi x), some (zi xk), none]) (st' := [.inl (some 0), .inl (some 0)]) (by decide +kernel) (fun k q => by cases q) rfl ?_
  refine y_get (j := 29) (len := 3) (r := (11, 5, 2, 404)) (by decide +kernel) hg (tv0 hg) aw0 rfl rfl r5 ?_
  refine y_same (i := .iload_n 1) (len := 1) (r := (0, 0, 0, 0)) (pc' := 13) (ls' := [some (.inl (some 0)), some (zi x), some (zi xk), none]) (st' := [zi x, .inl (some 2), .inl (some 0)]) (by decide +kernel) (fun k q => by cases q) rfl ?_
  refine y_cA (i := .invokevirtual 105) (len := 3) (r := (0, 108, 9, 1071)) (nL := 2) (k := 3) (n := 2) (hs := []) (args := [.inl (some 2), zi x]) (rest := [.inl (some 0)]) (l0 := [some (.inl (some 2)), some (zi x)]) (by decide +kernel) (Or.inr (Or.inl ⟨_, rfl⟩)) rfl rfl rfl rfl (Nat.le_of_ble_eq_true rfl) (zO hg (tv2 hg) aw1000 rfl) rfl (qA_le (by decide) (c_side1 (d := 0) (u := uz) (v := vz) hg (by omega) b2z.1 b2z.2.1)) (fun q2164 hR2164 => ?_)
  obtain rfl := hR2164
  refine y_get (j := 129) (len := 3) (r := (8, 1, 2, 20188)) (by decide +kernel) hg tyz.2.1 aw1001 rfl rfl laz.2.2.1 ?_
  refine y_same (i := .iload_n 2) (len := 1) (r := (0, 0, 0, 0)) (pc' := 20) (ls' := [some (.inl (some 0)), some (zi x), some (zi xk), none]) (st' := [zi xk, .inl (some ((2 + vz + 3))), .inl (some 0)]) (by decide +kernel) (fun k q => by cases q) rfl ?_
  refine y_cI (i := .invokevirtual 115) (len := 3) (r := (0, 63, 6, 1075)) (nL := 2) (k := 2) (n := 2) (hs := []) (args := [.inl (some ((2 + vz + 3))), zi xk]) (rest := [.inl (some 0)]) (l0 := [some (.inl (some ((2 + vz + 3)))), some (zi xk)]) (by decide +kernel) (Or.inr (Or.inl ⟨_, rfl⟩)) rfl rfl rfl rfl (Nat.le_of_ble_eq_true rfl) (zO hg tyz.2.2.2.2.1 aw1003 rfl) rfl (qI_le (by decide) (c_has6 (d := 0) hg tyz.2.2.2.2.1 hc1z)) (fun y2165 qy2165 hRy2165 => ?_)
  obtain ⟨rfl, hDy2165⟩ := hRy2165
  have ey2165 : y2165.toInt = 0 := by omega
  refine y_iT (c := .eq) (off := 7) (pc' := 30) (len := 3) (r := (0, 0, 0, 0)) (by decide +kernel) (acmpT (c := .eq) (by show _ = _; omega)) (by decide +kernel) ?_
  refine y_ic (c := 0) (len := 1) (r := (0, 0, 0, 0)) (by decide +kernel) (by decide) (fun y2166 hy2166 => ?_)
  refine y_cX (i := .invokevirtual 120) (len := 3) (r := (0, 152, 11, 1079)) (nL := 2) (k := 0) (n := 2) (hs := []) (args := [.inl (some 0), zi y2166]) (rest := []) (l0 := [some (.inl (some 0)), some (zi y2166)]) (by decide +kernel) (Or.inr (Or.inl ⟨_, rfl⟩)) rfl rfl rfl rfl (Nat.le_of_ble_eq_true rfl) (zO hg (tv0 hg) aw0 rfl) rfl rfl (mL := 4) (mk := 1) (m9 := 3) (ms := []) rfl rfl (qT_le (by decide) (c_thereT (d := 0) hg (by omega))) (fun h2167 hR2167 => ?_)
  obtain ⟨hg2167, F2167⟩ := hR2167
  exact ⟨_, rfl, hg2167, fun k j hC => (F2167 k j (by omega))⟩
theorem c_forgetT {t : Nat} {τ : List Nat} {h : zh} {x xk : Int32} (hg : hG τ h) (hx : ¬ (x.toInt = 0 ∨ x.toInt = 1)) : qT 21 137 [some (.inl (some 0)), some (zi x), some (zi xk), none] h t 0 (fun h1 => hG τ h1 ∧ ∀ k j, (k ≠ 0 ∨ j ≠ 3) → hsl h1 k j = hsl h k j) := by
  refine qT_of ?_
  refine y_same (i := .aload_n 0) (len := 1) (r := (0, 0, 0, 0)) (pc' := 1) (ls' := [some (.inl (some 0)), some (zi x), some (zi xk), none]) (st' := [.inl (some 0)]) (by decide +kernel) (fun k q => by cases q) rfl ?_
  refine y_same (i := .iload_n 1) (len := 1) (r := (0, 0, 0, 0)) (pc' := 2) (ls' := [some (.inl (some 0)), some (zi x), some (zi xk), none]) (st' := [zi x, .inl (some 0)]) (by decide +kernel) (fun k q => by cases q) rfl ?_
  refine y_cI (i := .invokestatic 101) (len := 3) (r := (1, 156, 11, 1068)) (nL := 1) (k := 2) (n := 1) (hs := []) (args := [zi x]) (rest := [.inl (some 0)]) (l0 := [some (zi x)]) (by decide +kernel) (Or.inl ⟨_, rfl⟩) rfl rfl rfl rfl (Nat.le_of_ble_eq_true rfl) rfl rfl (qI_le (by decide) (c_isSide (d := 0))) (fun y2168 qy2168 hRy2168 => ?_)
  obtain ⟨rfl, hDy2168⟩ := hRy2168
  have ey2168 : y2168.toInt = 0 := by omega
  refine y_iT (c := .eq) (off := 25) (pc' := 30) (len := 3) (r := (0, 0, 0, 0)) (by decide +kernel) (acmpT (c := .eq) (by show _ = _; omega)) (by decide +kernel) ?_
  refine y_ic (c := 0) (len := 1) (r := (0, 0, 0, 0)) (by decide +kernel) (by decide) (fun y2169 hy2169 => ?_)
  refine y_cX (i := .invokevirtual 120) (len := 3) (r := (0, 152, 11, 1079)) (nL := 2) (k := 0) (n := 2) (hs := []) (args := [.inl (some 0), zi y2169]) (rest := []) (l0 := [some (.inl (some 0)), some (zi y2169)]) (by decide +kernel) (Or.inr (Or.inl ⟨_, rfl⟩)) rfl rfl rfl rfl (Nat.le_of_ble_eq_true rfl) (zO hg (tv0 hg) aw0 rfl) rfl rfl (mL := 4) (mk := 1) (m9 := 3) (ms := []) rfl rfl (qT_le (by decide) (c_thereT (d := 0) hg (by omega))) (fun h2170 hR2170 => ?_)
  obtain ⟨hg2170, F2170⟩ := hR2170
  exact ⟨_, rfl, hg2170, fun k j hC => (F2170 k j (by omega))⟩
theorem c_forgetX {t : Nat} {τ : List Nat} {h : zh} {cur : bsT} {hs : List bsT} {x xk : Int32} (hg : hG τ h) (rc : RC h cur hs) (r5 : hsl h 0 5 = some (.inl (some 2))) (hb : ¬ ((x.toInt = 0 ∧ 0 ≤ xk.toInt ∧ xk.toInt < (cur.1.2.length : Int)) ∨ (x.toInt = 1 ∧ 0 ≤ xk.toInt ∧ xk.toInt < (cur.2.2.length : Int)))) : qT 21 137 [some (.inl (some 0)), some (zi x), some (zi xk), none] h t 0 (fun h1 => hG τ h1 ∧ ∀ k j, (k ≠ 0 ∨ j ≠ 3) → hsl h1 k j = hsl h k j) := by
  rcases Decidable.em (x.toInt = 0) with q | q
  · exact c_forgetT0 hg rc r5 q (by omega)
  · rcases Decidable.em (x.toInt = 1) with q1 | q1
    · exact c_forgetT1 hg rc r5 q1 (by omega)
    · exact c_forgetT hg (by omega)
theorem c_lforgetX {t : Nat} {τ : List Nat} {h : zh} {cur : bsT} {hs : List bsT} {x xk : Int32} (hg : hG τ h) (rc : RC h cur hs) (r5 : hsl h 0 5 = some (.inl (some 2))) (hb : ¬ ((x.toInt = 0 ∧ 0 ≤ xk.toInt ∧ xk.toInt < (cur.1.2.length : Int)) ∨ (x.toInt = 1 ∧ 0 ≤ xk.toInt ∧ xk.toInt < (cur.2.2.length : Int)))) : ∃ (y : Int32) (h1 : zh), qE 60 278 [some (.inl (some 0)), some (zi x), some (zi xk), some (.inl (some 388)), none] h t (.inl (some (zi y)), h1, t + 1) ∧ y.toInt = 1 ∧ hG τ h1 ∧ ∀ k j, (k ≠ 0 ∨ j ≠ 3) → hsl h1 k j = hsl h k j := by
  have key : qX 31 278 0 [some (.inl (some 0)), some (zi x), some (zi xk), some (.inl (some 388)), none] [] h t (rI (fun y h1 => y.toInt = 1 ∧ hG τ h1 ∧ ∀ k j, (k ≠ 0 ∨ j ≠ 3) → hsl h1 k j = hsl h k j) (t + 1)) := by
    refine y_same (i := .aload_n 3) (len := 1) (r := (0, 0, 0, 0)) (pc' := 1) (ls' := [some (.inl (some 0)), some (zi x), some (zi xk), some (.inl (some 388)), none]) (st' := [.inl (some 388)]) (by decide +kernel) (fun k q => by cases q) rfl ?_
    refine y_ic (c := 0) (len := 1) (r := (0, 0, 0, 0)) (by decide +kernel) (by decide) (fun y2171 hy2171 => ?_)
    refine y_same (i := .aload_n 0) (len := 1) (r := (0, 0, 0, 0)) (pc' := 3) (ls' := [some (.inl (some 0)), some (zi x), some (zi xk), some (.inl (some 388)), none]) (st' := [.inl (some 0), zi y2171, .inl (some 388)]) (by decide +kernel) (fun k q => by cases q) rfl ?_
    refine y_same (i := .iload_n 1) (len := 1) (r := (0, 0, 0, 0)) (pc' := 4) (ls' := [some (.inl (some 0)), some (zi x), some (zi xk), some (.inl (some 388)), none]) (st' := [zi x, .inl (some 0), zi y2171, .inl (some 388)]) (by decide +kernel) (fun k q => by cases q) rfl ?_
    refine y_same (i := .iload_n 2) (len := 1) (r := (0, 0, 0, 0)) (pc' := 5) (ls' := [some (.inl (some 0)), some (zi x), some (zi xk), some (.inl (some 388)), none]) (st' := [zi xk, zi x, .inl (some 0), zi y2171, .inl (some 388)]) (by decide +kernel) (fun k q => by cases q) rfl ?_
    refine y_cC (i := .invokevirtual 21) (len := 3) (r := (0, 137, 11, 1103)) (nL := 4) (k := 1) (n := 3) (hs := []) (args := [.inl (some 0), zi x, zi xk]) (rest := [zi y2171, .inl (some 388)]) (l0 := [some (.inl (some 0)), some (zi x), some (zi xk), none]) (by decide +kernel) (Or.inr (Or.inl ⟨_, rfl⟩)) rfl rfl rfl rfl (Nat.le_of_ble_eq_true rfl) (zO hg (tv0 hg) aw0 rfl) rfl rfl (mL := 5) (mk := 1) (m9 := 4) (ms := [(0, 10, 13, 0)]) rfl rfl (qT_le (by decide) (c_forgetX hg rc r5 hb)) (fun h2172 hR2172 => ?_)
    obtain ⟨hg2172, F2172⟩ := hR2172
    refine y_same (i := .astore 4) (len := 2) (r := (0, 0, 0, 0)) (pc' := 15) (ls' := [some (.inl (some 0)), some (zi x), some (zi xk), some (.inl (some 388)), some (.inl (some 1000001))]) (st' := []) (by decide +kernel) (fun k q => by cases q) rfl ?_
    refine y_ic (c := 1) (len := 1) (r := (0, 0, 0, 0)) (by decide +kernel) (by decide) (fun y2173 hy2173 => ?_)
    refine y_rI (len := 1) (r := (0, 0, 0, 0)) (nL := 5) (k := 1) (n9 := 4) (hs := [(0, 10, 13, 0)]) (by decide +kernel) rfl rfl ?_
    exact ⟨by omega, hg2172, fun k j hC => (F2172 k j (by omega))⟩
  obtain ⟨x, k, y, h1, rfl, hR⟩ := key
  exact ⟨y, h1, qE_le (by decide) (qE_of k), hR⟩
theorem c_lforget0 {t k : Nat} {τ : List Nat} {h : zh} {cur : bsT} {hs : List bsT} {x xk : Int32} (hg : hG τ h) (rc : RC h cur hs) (r5 : hsl h 0 5 = some (.inl (some 2))) (hx : x.toInt = 0) (exk : xk.toInt = (k : Int)) (hk : k < cur.1.2.length) : qI 60 278 [some (.inl (some 0)), some (zi x), some (zi xk), some (.inl (some 388)), none] h t (fun y h1 => ∃ τ1, hG τ1 h1 ∧ RC h1 ((cur.1.1, cur.1.2.eraseIdx k), (cur.2.1, cur.2.2)) (psh hs cur) ∧ frC h h1 ∧ y.toInt = 0 ∧ ∃ z : Int32, ou_ h1 z ∧ z.toInt = ((cur.1.2.length - 1 : Nat) : Int)) := by
  refine qI_le (d := 32) (by decide) (qI_of ?_)
  refine y_same (i := .aload_n 3) (len := 1) (r := (0, 0, 0, 0)) (pc' := 1) (ls' := [some (.inl (some 0)), some (zi x), some (zi xk), some (.inl (some 388)), none]) (st' := [.inl (some 388)]) (by decide +kernel) (fun k q => by cases q) rfl ?_
  refine y_ic (c := 0) (len := 1) (r := (0, 0, 0, 0)) (by decide +kernel) (by decide) (fun y2174 hy2174 => ?_)
  refine y_same (i := .aload_n 0) (len := 1) (r := (0, 0, 0, 0)) (pc' := 3) (ls' := [some (.inl (some 0)), some (zi x), some (zi xk), some (.inl (some 388)), none]) (st' := [.inl (some 0), zi y2174, .inl (some 388)]) (by decide +kernel) (fun k q => by cases q) rfl ?_
  refine y_same (i := .iload_n 1) (len := 1) (r := (0, 0, 0, 0)) (pc' := 4) (ls' := [some (.inl (some 0)), some (zi x), some (zi xk), some (.inl (some 388)), none]) (st' := [zi x, .inl (some 0), zi y2174, .inl (some 388)]) (by decide +kernel) (fun k q => by cases q) rfl ?_
  refine y_same (i := .iload_n 2) (len := 1) (r := (0, 0, 0, 0)) (pc' := 5) (ls' := [some (.inl (some 0)), some (zi x), some (zi xk), some (.inl (some 388)), none]) (st' := [zi xk, zi x, .inl (some 0), zi y2174, .inl (some 388)]) (by decide +kernel) (fun k q => by cases q) rfl ?_
  refine y_cI (i := .invokevirtual 21) (len := 3) (r := (0, 137, 11, 1103)) (nL := 4) (k := 1) (n := 3) (hs := []) (args := [.inl (some 0), zi x, zi xk]) (rest := [zi y2174, .inl (some 388)]) (l0 := [some (.inl (some 0)), some (zi x), some (zi xk), none]) (by decide +kernel) (Or.inr (Or.inl ⟨_, rfl⟩)) rfl rfl rfl rfl (Nat.le_of_ble_eq_true rfl) (zO hg (tv0 hg) aw0 rfl) rfl (qI_le (by decide) (c_forget0 hg rc r5 hx exk hk)) (fun y2175 h2175 hRy2175 => ?_)
  obtain ⟨τ2175, hg2175, rcn, frn, ey⟩ := hRy2175
  refine y_i2l2 (len := 1) (r := (0, 0, 0, 0)) (by decide +kernel) ?_
  refine y_las2 (i := 0) (len := 1) (r := (0, 0, 0, 0)) (by decide +kernel) hg2175 (t388 hg2175) aw388 rfl (by omega) (by omega) rfl (fun h2176 hg2176 hw2176 ho2176 => ?_)
  refine y_goto (off := 7) (pc' := 17) (len := 3) (r := (0, 0, 0, 0)) (by decide +kernel) (by decide +kernel) ?_
  refine y_ic (c := 0) (len := 1) (r := (0, 0, 0, 0)) (by decide +kernel) (by decide) (fun y2177 hy2177 => ?_)
  refine y_rI (len := 1) (r := (0, 0, 0, 0)) (nL := 5) (k := 1) (n9 := 4) (hs := [(0, 10, 13, 0)]) (by decide +kernel) rfl rfl ?_
  exact ⟨_, hg2176, RC_up rcn (fun k j hC => ho2176 k j (by omega)), fun k j hC => (ho2176 k j (by omega)).trans (frn k j hC), by omega, _, hw2176, ey⟩
theorem c_lforget1 {t k : Nat} {τ : List Nat} {h : zh} {cur : bsT} {hs : List bsT} {x xk : Int32} (hg : hG τ h) (rc : RC h cur hs) (r5 : hsl h 0 5 = some (.inl (some 2))) (hx : x.toInt = 1) (exk : xk.toInt = (k : Int)) (hk : k < cur.2.2.length) : qI 60 278 [some (.inl (some 0)), some (zi x), some (zi xk), some (.inl (some 388)), none] h t (fun y h1 => ∃ τ1, hG τ1 h1 ∧ RC h1 ((cur.1.1, cur.1.2), (cur.2.1, cur.2.2.eraseIdx k)) (psh hs cur) ∧ frC h h1 ∧ y.toInt = 0 ∧ ∃ z : Int32, ou_ h1 z ∧ z.toInt = ((cur.2.2.length - 1 : Nat) : Int)) := by
  refine qI_le (d := 32) (by decide) (qI_of ?_)
  refine y_same (i := .aload_n 3) (len := 1) (r := (0, 0, 0, 0)) (pc' := 1) (ls' := [some (.inl (some 0)), some (zi x), some (zi xk), some (.inl (some 388)), none]) (st' := [.inl (some 388)]) (by decide +kernel) (fun k q => by cases q) rfl ?_
  refine y_ic (c := 0) (len := 1) (r := (0, 0, 0, 0)) (by decide +kernel) (by decide) (fun y2178 hy2178 => ?_)
  refine y_same (i := .aload_n 0) (len := 1) (r := (0, 0, 0, 0)) (pc' := 3) (ls' := [some (.inl (some 0)), some (zi x), some (zi xk), some (.inl (some 388)), none]) (st' := [.inl (some 0), zi y2178, .inl (some 388)]) (by decide +kernel) (fun k q => by cases q) rfl ?_
  refine y_same (i := .iload_n 1) (len := 1) (r := (0, 0, 0, 0)) (pc' := 4) (ls' := [some (.inl (some 0)), some (zi x), some (zi xk), some (.inl (some 388)), none]) (st' := [zi x, .inl (some 0), zi y2178, .inl (some 388)]) (by decide +kernel) (fun k q => by cases q) rfl ?_
  refine y_same (i := .iload_n 2) (len := 1) (r := (0, 0, 0, 0)) (pc' := 5) (ls' := [some (.inl (some 0)), some (zi x), some (zi xk), some (.inl (some 388)), none]) (st' := [zi xk, zi x, .inl (some 0), zi y2178, .inl (some 388)]) (by decide +kernel) (fun k q => by cases q) rfl ?_
  refine y_cI (i := .invokevirtual 21) (len := 3) (r := (0, 137, 11, 1103)) (nL := 4) (k := 1) (n := 3) (hs := []) (args := [.inl (some 0), zi x, zi xk]) (rest := [zi y2178, .inl (some 388)]) (l0 := [some (.inl (some 0)), some (zi x), some (zi xk), none]) (by decide +kernel) (Or.inr (Or.inl ⟨_, rfl⟩)) rfl rfl rfl rfl (Nat.le_of_ble_eq_true rfl) (zO hg (tv0 hg) aw0 rfl) rfl (qI_le (by decide) (c_forget1 hg rc r5 hx exk hk)) (fun y2179 h2179 hRy2179 => ?_)
  obtain ⟨τ2179, hg2179, rcn, frn, ey⟩ := hRy2179
  refine y_i2l2 (len := 1) (r := (0, 0, 0, 0)) (by decide +kernel) ?_
  refine y_las2 (i := 0) (len := 1) (r := (0, 0, 0, 0)) (by decide +kernel) hg2179 (t388 hg2179) aw388 rfl (by omega) (by omega) rfl (fun h2180 hg2180 hw2180 ho2180 => ?_)
  refine y_goto (off := 7) (pc' := 17) (len := 3) (r := (0, 0, 0, 0)) (by decide +kernel) (by decide +kernel) ?_
  refine y_ic (c := 0) (len := 1) (r := (0, 0, 0, 0)) (by decide +kernel) (by decide) (fun y2181 hy2181 => ?_)
  refine y_rI (len := 1) (r := (0, 0, 0, 0)) (nL := 5) (k := 1) (n9 := 4) (hs := [(0, 10, 13, 0)]) (by decide +kernel) rfl rfl ?_
  exact ⟨_, hg2180, RC_up rcn (fun k j hC => ho2180 k j (by omega)), fun k j hC => (ho2180 k j (by omega)).trans (frn k j hC), by omega, _, hw2180, ey⟩
