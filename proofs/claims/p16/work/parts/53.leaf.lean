/-! the small methods of a row, told exactly -/
theorem ofI {y w : Int32} {c : Int} (h1 : y.toInt = c) (h2 : w.toInt = c) : y = w := Int32.toInt_inj.mp (by omega)
theorem e_leftAt {d t : Nat} {h : zh} {x : Int32} (h1 : 0 ≤ x.toInt) (h2 : x.toInt ≤ 1000) : qI (d + 1) 197 [some (zi x)] h t (fun y h1 => h = h1 ∧ y.toInt = 24 + 4 * x.toInt) := by
  refine qI_of ?_
  refine y_bi (c := 24) (len := 2) (r := (0, 0, 0, 0)) (by decide +kernel) (by decide) (fun y1 hy1 => ?_)
  refine y_ic (c := 4) (len := 1) (r := (0, 0, 0, 0)) (by decide +kernel) (by decide) (fun y2 hy2 => ?_)
  refine y_same (i := .iload_n 0) (len := 1) (r := (0, 0, 0, 0)) (pc' := 4) (ls' := [some (zi x)]) (st' := [zi x, zi y2, zi y1]) (by decide +kernel) (fun k q => by cases q) rfl ?_
  refine y_mul (c := 4) (len := 1) (r := (0, 0, 0, 0)) (by decide +kernel) (by omega) (by omega) (by omega) (fun y3 hy3 => ?_)
  refine y_add (len := 1) (r := (0, 0, 0, 0)) (by decide +kernel) (by omega) (by omega) (fun y4 hy4 => ?_)
  refine y_rI (len := 1) (r := (0, 0, 0, 0)) (nL := 1) (k := 1) (n9 := 1) (hs := []) (by decide +kernel) rfl rfl ?_
  exact ⟨rfl, by omega⟩
theorem e_rightAt {d t : Nat} {h : zh} {x : Int32} (h1 : 0 ≤ x.toInt) (h2 : x.toInt ≤ 1000) : qI (d + 1) 198 [some (zi x)] h t (fun y h1 => h = h1 ∧ y.toInt = 80 + 4 * x.toInt) := by
  refine qI_of ?_
  refine y_bi (c := 80) (len := 2) (r := (0, 0, 0, 0)) (by decide +kernel) (by decide) (fun y5 hy5 => ?_)
  refine y_ic (c := 4) (len := 1) (r := (0, 0, 0, 0)) (by decide +kernel) (by decide) (fun y6 hy6 => ?_)
  refine y_same (i := .iload_n 0) (len := 1) (r := (0, 0, 0, 0)) (pc' := 4) (ls' := [some (zi x)]) (st' := [zi x, zi y6, zi y5]) (by decide +kernel) (fun k q => by cases q) rfl ?_
  refine y_mul (c := 4) (len := 1) (r := (0, 0, 0, 0)) (by decide +kernel) (by omega) (by omega) (by omega) (fun y7 hy7 => ?_)
  refine y_add (len := 1) (r := (0, 0, 0, 0)) (by decide +kernel) (by omega) (by omega) (fun y8 hy8 => ?_)
  refine y_rI (len := 1) (r := (0, 0, 0, 0)) (nL := 1) (k := 1) (n9 := 1) (hs := []) (by decide +kernel) rfl rfl ?_
  exact ⟨rfl, by omega⟩
theorem e_claimIn {d t : Nat} {h : zh} {x : Int32} (h1 : 0 ≤ x.toInt) (h2 : x.toInt ≤ 1000) : qI (d + 1) 199 [some (zi x)] h t (fun y h1 => h = h1 ∧ y.toInt = 136 + 4 * x.toInt) := by
  refine qI_of ?_
  refine y_si (c := 136) (len := 3) (r := (0, 0, 0, 0)) (by decide +kernel) (by decide) (fun y9 hy9 => ?_)
  refine y_ic (c := 4) (len := 1) (r := (0, 0, 0, 0)) (by decide +kernel) (by decide) (fun y10 hy10 => ?_)
  refine y_same (i := .iload_n 0) (len := 1) (r := (0, 0, 0, 0)) (pc' := 5) (ls' := [some (zi x)]) (st' := [zi x, zi y10, zi y9]) (by decide +kernel) (fun k q => by cases q) rfl ?_
  refine y_mul (c := 4) (len := 1) (r := (0, 0, 0, 0)) (by decide +kernel) (by omega) (by omega) (by omega) (fun y11 hy11 => ?_)
  refine y_add (len := 1) (r := (0, 0, 0, 0)) (by decide +kernel) (by omega) (by omega) (fun y12 hy12 => ?_)
  refine y_rI (len := 1) (r := (0, 0, 0, 0)) (nL := 1) (k := 1) (n9 := 1) (hs := []) (by decide +kernel) rfl rfl ?_
  exact ⟨rfl, by omega⟩
theorem e_less {d t : Nat} {h : zh} {x z : Int32} : qI (d + 1) 163 [some (zi x), some (zi z)] h t (fun y h1 => h = h1 ∧ (x.toInt < z.toInt → y.toInt = x.toInt) ∧ (z.toInt ≤ x.toInt → y.toInt = z.toInt)) := by
  refine qI_of ?_
  rcases Int.lt_or_le x.toInt z.toInt with hc | hc
  ·
    refine y_same (i := .iload_n 0) (len := 1) (r := (0, 0, 0, 0)) (pc' := 1) (ls' := [some (zi x), some (zi z)]) (st' := [zi x]) (by decide +kernel) (fun k q => by cases q) rfl ?_
    refine y_same (i := .iload_n 1) (len := 1) (r := (0, 0, 0, 0)) (pc' := 2) (ls' := [some (zi x), some (zi z)]) (st' := [zi z, zi x]) (by decide +kernel) (fun k q => by cases q) rfl ?_
    refine y_cF (c := .ge) (off := 7) (len := 3) (r := (0, 0, 0, 0)) (by decide +kernel) (acmpF (c := .ge) (by show _ < _; omega)) ?_
    refine y_same (i := .iload_n 0) (len := 1) (r := (0, 0, 0, 0)) (pc' := 6) (ls' := [some (zi x), some (zi z)]) (st' := [zi x]) (by decide +kernel) (fun k q => by cases q) rfl ?_
    refine y_goto (off := 4) (pc' := 10) (len := 3) (r := (0, 0, 0, 0)) (by decide +kernel) (by decide +kernel) ?_
    refine y_rI (len := 1) (r := (0, 0, 0, 0)) (nL := 2) (k := 1) (n9 := 2) (hs := []) (by decide +kernel) rfl rfl ?_
    exact ⟨rfl, by omega, by omega⟩
  ·
    refine y_same (i := .iload_n 0) (len := 1) (r := (0, 0, 0, 0)) (pc' := 1) (ls' := [some (zi x), some (zi z)]) (st' := [zi x]) (by decide +kernel) (fun k q => by cases q) rfl ?_
    refine y_same (i := .iload_n 1) (len := 1) (r := (0, 0, 0, 0)) (pc' := 2) (ls' := [some (zi x), some (zi z)]) (st' := [zi z, zi x]) (by decide +kernel) (fun k q => by cases q) rfl ?_
    refine y_cT (c := .ge) (off := 7) (pc' := 9) (len := 3) (r := (0, 0, 0, 0)) (by decide +kernel) (acmpT (c := .ge) (by show _ ≤ _; omega)) (by decide +kernel) ?_
    refine y_same (i := .iload_n 1) (len := 1) (r := (0, 0, 0, 0)) (pc' := 10) (ls' := [some (zi x), some (zi z)]) (st' := [zi z]) (by decide +kernel) (fun k q => by cases q) rfl ?_
    refine y_rI (len := 1) (r := (0, 0, 0, 0)) (nL := 2) (k := 1) (n9 := 2) (hs := []) (by decide +kernel) rfl rfl ?_
    exact ⟨rfl, by omega, by omega⟩
theorem e_more {d t : Nat} {h : zh} {x z : Int32} : qI (d + 1) 164 [some (zi x), some (zi z)] h t (fun y h1 => h = h1 ∧ (x.toInt < z.toInt → y.toInt = z.toInt) ∧ (z.toInt ≤ x.toInt → y.toInt = x.toInt)) := by
  refine qI_of ?_
  rcases Int.lt_or_le z.toInt x.toInt with hc | hc
  ·
    refine y_same (i := .iload_n 0) (len := 1) (r := (0, 0, 0, 0)) (pc' := 1) (ls' := [some (zi x), some (zi z)]) (st' := [zi x]) (by decide +kernel) (fun k q => by cases q) rfl ?_
    refine y_same (i := .iload_n 1) (len := 1) (r := (0, 0, 0, 0)) (pc' := 2) (ls' := [some (zi x), some (zi z)]) (st' := [zi z, zi x]) (by decide +kernel) (fun k q => by cases q) rfl ?_
    refine y_cF (c := .le) (off := 7) (len := 3) (r := (0, 0, 0, 0)) (by decide +kernel) (acmpF (c := .le) (by show _ < _; omega)) ?_
    refine y_same (i := .iload_n 0) (len := 1) (r := (0, 0, 0, 0)) (pc' := 6) (ls' := [some (zi x), some (zi z)]) (st' := [zi x]) (by decide +kernel) (fun k q => by cases q) rfl ?_
    refine y_goto (off := 4) (pc' := 10) (len := 3) (r := (0, 0, 0, 0)) (by decide +kernel) (by decide +kernel) ?_
    refine y_rI (len := 1) (r := (0, 0, 0, 0)) (nL := 2) (k := 1) (n9 := 2) (hs := []) (by decide +kernel) rfl rfl ?_
    exact ⟨rfl, by omega, by omega⟩
  ·
    refine y_same (i := .iload_n 0) (len := 1) (r := (0, 0, 0, 0)) (pc' := 1) (ls' := [some (zi x), some (zi z)]) (st' := [zi x]) (by decide +kernel) (fun k q => by cases q) rfl ?_
    refine y_same (i := .iload_n 1) (len := 1) (r := (0, 0, 0, 0)) (pc' := 2) (ls' := [some (zi x), some (zi z)]) (st' := [zi z, zi x]) (by decide +kernel) (fun k q => by cases q) rfl ?_
    refine y_cT (c := .le) (off := 7) (pc' := 9) (len := 3) (r := (0, 0, 0, 0)) (by decide +kernel) (acmpT (c := .le) (by show _ ≤ _; omega)) (by decide +kernel) ?_
    refine y_same (i := .iload_n 1) (len := 1) (r := (0, 0, 0, 0)) (pc' := 10) (ls' := [some (zi x), some (zi z)]) (st' := [zi z]) (by decide +kernel) (fun k q => by cases q) rfl ?_
    refine y_rI (len := 1) (r := (0, 0, 0, 0)) (nL := 2) (k := 1) (n9 := 2) (hs := []) (by decide +kernel) rfl rfl ?_
    exact ⟨rfl, by omega, by omega⟩
theorem e_becomes {d t : Nat} {h : zh} {x z w : Int32} : qI (d + 1) 205 [some (zi x), some (zi z), some (zi w)] h t (fun y h1 => h = h1 ∧ (x.toInt = z.toInt → y.toInt = w.toInt) ∧ (x.toInt ≠ z.toInt → y.toInt = x.toInt)) := by
  refine qI_of ?_
  rcases Decidable.em (x.toInt = z.toInt) with hc | hc
  ·
    refine y_same (i := .iload_n 0) (len := 1) (r := (0, 0, 0, 0)) (pc' := 1) (ls' := [some (zi x), some (zi z), some (zi w)]) (st' := [zi x]) (by decide +kernel) (fun k q => by cases q) rfl ?_
    refine y_same (i := .iload_n 1) (len := 1) (r := (0, 0, 0, 0)) (pc' := 2) (ls' := [some (zi x), some (zi z), some (zi w)]) (st' := [zi z, zi x]) (by decide +kernel) (fun k q => by cases q) rfl ?_
    refine y_cF (c := .ne) (off := 7) (len := 3) (r := (0, 0, 0, 0)) (by decide +kernel) (acmpF (c := .ne) (by show _ = _; omega)) ?_
    refine y_same (i := .iload_n 2) (len := 1) (r := (0, 0, 0, 0)) (pc' := 6) (ls' := [some (zi x), some (zi z), some (zi w)]) (st' := [zi w]) (by decide +kernel) (fun k q => by cases q) rfl ?_
    refine y_goto (off := 4) (pc' := 10) (len := 3) (r := (0, 0, 0, 0)) (by decide +kernel) (by decide +kernel) ?_
    refine y_rI (len := 1) (r := (0, 0, 0, 0)) (nL := 3) (k := 1) (n9 := 3) (hs := []) (by decide +kernel) rfl rfl ?_
    exact ⟨rfl, by omega, by omega⟩
  ·
    refine y_same (i := .iload_n 0) (len := 1) (r := (0, 0, 0, 0)) (pc' := 1) (ls' := [some (zi x), some (zi z), some (zi w)]) (st' := [zi x]) (by decide +kernel) (fun k q => by cases q) rfl ?_
    refine y_same (i := .iload_n 1) (len := 1) (r := (0, 0, 0, 0)) (pc' := 2) (ls' := [some (zi x), some (zi z), some (zi w)]) (st' := [zi z, zi x]) (by decide +kernel) (fun k q => by cases q) rfl ?_
    refine y_cT (c := .ne) (off := 7) (pc' := 9) (len := 3) (r := (0, 0, 0, 0)) (by decide +kernel) (acmpT (c := .ne) (by show ¬ (_ = _); omega)) (by decide +kernel) ?_
    refine y_same (i := .iload_n 0) (len := 1) (r := (0, 0, 0, 0)) (pc' := 10) (ls' := [some (zi x), some (zi z), some (zi w)]) (st' := [zi x]) (by decide +kernel) (fun k q => by cases q) rfl ?_
    refine y_rI (len := 1) (r := (0, 0, 0, 0)) (nL := 3) (k := 1) (n9 := 3) (hs := []) (by decide +kernel) rfl rfl ?_
    exact ⟨rfl, by omega, by omega⟩
theorem e_isNothing {d t p R : Nat} {τ : List Nat} {h : zh} {x a b c : Int32} (hg : hG τ h) (hR : τ[R]? = some 1012) (hx : x.toInt = (p : Int)) (hp : p < 190) (ha : hsl h R p = some (zi a)) (hb : hsl h R (p + 1) = some (zi b)) (hc : hsl h R (p + 2) = some (zi c)) : qI (d + 1) 214 [some (.inl (some R)), some (zi x)] h t (fun y h1 => h = h1 ∧ 0 ≤ y.toInt ∧ y.toInt ≤ 1 ∧ (y.toInt = 0 → (a.toInt = 2 → b.toInt ≠ c.toInt) ∧ (a.toInt = 3 → b.toInt ≠ 0))) := by
  refine qI_of ?_
  rcases Decidable.em (a.toInt = 2) with q1 | q1
  · rcases Decidable.em (b.toInt = c.toInt) with q2 | q2
    ·
      refine y_same (i := .aload_n 0) (len := 1) (r := (0, 0, 0, 0)) (pc' := 1) (ls' := [some (.inl (some R)), some (zi x)]) (st' := [.inl (some R)]) (by decide +kernel) (fun k q => by cases q) rfl ?_
      refine y_same (i := .iload_n 1) (len := 1) (r := (0, 0, 0, 0)) (pc' := 2) (ls' := [some (.inl (some R)), some (zi x)]) (st' := [zi x, .inl (some R)]) (by decide +kernel) (fun k q => by cases q) rfl ?_
      refine y_ial (i := p) (len := 1) (r := (0, 0, 0, 0)) (by decide +kernel) hg hR at1012 (by omega) ha ?_
      refine y_ic (c := 2) (len := 1) (r := (0, 0, 0, 0)) (by decide +kernel) (by decide) (fun y13 hy13 => ?_)
      refine y_cF (c := .ne) (off := 16) (len := 3) (r := (0, 0, 0, 0)) (by decide +kernel) (acmpF (c := .ne) (by show _ = _; omega)) ?_
      refine y_same (i := .aload_n 0) (len := 1) (r := (0, 0, 0, 0)) (pc' := 8) (ls' := [some (.inl (some R)), some (zi x)]) (st' := [.inl (some R)]) (by decide +kernel) (fun k q => by cases q) rfl ?_
      refine y_same (i := .iload_n 1) (len := 1) (r := (0, 0, 0, 0)) (pc' := 9) (ls' := [some (.inl (some R)), some (zi x)]) (st' := [zi x, .inl (some R)]) (by decide +kernel) (fun k q => by cases q) rfl ?_
      refine y_ic (c := 1) (len := 1) (r := (0, 0, 0, 0)) (by decide +kernel) (by decide) (fun y14 hy14 => ?_)
      refine y_add (len := 1) (r := (0, 0, 0, 0)) (by decide +kernel) (by omega) (by omega) (fun y15 hy15 => ?_)
      refine y_ial (i := (p + 1)) (len := 1) (r := (0, 0, 0, 0)) (by decide +kernel) hg hR at1012 (by omega) hb ?_
      refine y_same (i := .aload_n 0) (len := 1) (r := (0, 0, 0, 0)) (pc' := 13) (ls' := [some (.inl (some R)), some (zi x)]) (st' := [.inl (some R), zi b]) (by decide +kernel) (fun k q => by cases q) rfl ?_
      refine y_same (i := .iload_n 1) (len := 1) (r := (0, 0, 0, 0)) (pc' := 14) (ls' := [some (.inl (some R)), some (zi x)]) (st' := [zi x, .inl (some R), zi b]) (by decide +kernel) (fun k q => by cases q) rfl ?_
      refine y_ic (c := 2) (len := 1) (r := (0, 0, 0, 0)) (by decide +kernel) (by decide) (fun y16 hy16 => ?_)
      refine y_add (len := 1) (r := (0, 0, 0, 0)) (by decide +kernel) (by omega) (by omega) (fun y17 hy17 => ?_)
      refine y_ial (i := (p + 2)) (len := 1) (r := (0, 0, 0, 0)) (by decide +kernel) hg hR at1012 (by omega) hc ?_
      refine y_cT (c := .eq) (off := 18) (pc' := 35) (len := 3) (r := (0, 0, 0, 0)) (by decide +kernel) (acmpT (c := .eq) (by show _ = _; omega)) (by decide +kernel) ?_
      refine y_ic (c := 1) (len := 1) (r := (0, 0, 0, 0)) (by decide +kernel) (by decide) (fun y18 hy18 => ?_)
      refine y_goto (off := 4) (pc' := 40) (len := 3) (r := (0, 0, 0, 0)) (by decide +kernel) (by decide +kernel) ?_
      refine y_rI (len := 1) (r := (0, 0, 0, 0)) (nL := 2) (k := 2) (n9 := 2) (hs := []) (by decide +kernel) rfl (zfit_b (by omega) (by omega)).2 ?_
      exact ⟨rfl, by omega, by omega, fun h9 => by omega⟩
    ·
      refine y_same (i := .aload_n 0) (len := 1) (r := (0, 0, 0, 0)) (pc' := 1) (ls' := [some (.inl (some R)), some (zi x)]) (st' := [.inl (some R)]) (by decide +kernel) (fun k q => by cases q) rfl ?_
      refine y_same (i := .iload_n 1) (len := 1) (r := (0, 0, 0, 0)) (pc' := 2) (ls' := [some (.inl (some R)), some (zi x)]) (st' := [zi x, .inl (some R)]) (by decide +kernel) (fun k q => by cases q) rfl ?_
      refine y_ial (i := p) (len := 1) (r := (0, 0, 0, 0)) (by decide +kernel) hg hR at1012 (by omega) ha ?_
      refine y_ic (c := 2) (len := 1) (r := (0, 0, 0, 0)) (by decide +kernel) (by decide) (fun y19 hy19 => ?_)
      refine y_cF (c := .ne) (off := 16) (len := 3) (r := (0, 0, 0, 0)) (by decide +kernel) (acmpF (c := .ne) (by show _ = _; omega)) ?_
      refine y_same (i := .aload_n 0) (len := 1) (r := (0, 0, 0, 0)) (pc' := 8) (ls' := [some (.inl (some R)), some (zi x)]) (st' := [.inl (some R)]) (by decide +kernel) (fun k q => by cases q) rfl ?_
      refine y_same (i := .iload_n 1) (len := 1) (r := (0, 0, 0, 0)) (pc' := 9) (ls' := [some (.inl (some R)), some (zi x)]) (st' := [zi x, .inl (some R)]) (by decide +kernel) (fun k q => by cases q) rfl ?_
      refine y_ic (c := 1) (len := 1) (r := (0, 0, 0, 0)) (by decide +kernel) (by decide) (fun y20 hy20 => ?_)
      refine y_add (len := 1) (r := (0, 0, 0, 0)) (by decide +kernel) (by omega) (by omega) (fun y21 hy21 => ?_)
      refine y_ial (i := (p + 1)) (len := 1) (r := (0, 0, 0, 0)) (by decide +kernel) hg hR at1012 (by omega) hb ?_
      refine y_same (i := .aload_n 0) (len := 1) (r := (0, 0, 0, 0)) (pc' := 13) (ls' := [some (.inl (some R)), some (zi x)]) (st' := [.inl (some R), zi b]) (by decide +kernel) (fun k q => by cases q) rfl ?_
      refine y_same (i := .iload_n 1) (len := 1) (r := (0, 0, 0, 0)) (pc' := 14) (ls' := [some (.inl (some R)), some (zi x)]) (st' := [zi x, .inl (some R), zi b]) (by decide +kernel) (fun k q => by cases q) rfl ?_
      refine y_ic (c := 2) (len := 1) (r := (0, 0, 0, 0)) (by decide +kernel) (by decide) (fun y22 hy22 => ?_)
      refine y_add (len := 1) (r := (0, 0, 0, 0)) (by decide +kernel) (by omega) (by omega) (fun y23 hy23 => ?_)
      refine y_ial (i := (p + 2)) (len := 1) (r := (0, 0, 0, 0)) (by decide +kernel) hg hR at1012 (by omega) hc ?_
      refine y_cF (c := .eq) (off := 18) (len := 3) (r := (0, 0, 0, 0)) (by decide +kernel) (acmpF (c := .eq) (by show ¬ (_ = _); omega)) ?_
      refine y_same (i := .aload_n 0) (len := 1) (r := (0, 0, 0, 0)) (pc' := 21) (ls' := [some (.inl (some R)), some (zi x)]) (st' := [.inl (some R)]) (by decide +kernel) (fun k q => by cases q) rfl ?_
      refine y_same (i := .iload_n 1) (len := 1) (r := (0, 0, 0, 0)) (pc' := 22) (ls' := [some (.inl (some R)), some (zi x)]) (st' := [zi x, .inl (some R)]) (by decide +kernel) (fun k q => by cases q) rfl ?_
      refine y_ial (i := p) (len := 1) (r := (0, 0, 0, 0)) (by decide +kernel) hg hR at1012 (by omega) ha ?_
      refine y_ic (c := 3) (len := 1) (r := (0, 0, 0, 0)) (by decide +kernel) (by decide) (fun y24 hy24 => ?_)
      refine y_cT (c := .ne) (off := 15) (pc' := 39) (len := 3) (r := (0, 0, 0, 0)) (by decide +kernel) (acmpT (c := .ne) (by show ¬ (_ = _); omega)) (by decide +kernel) ?_
      refine y_ic (c := 0) (len := 1) (r := (0, 0, 0, 0)) (by decide +kernel) (by decide) (fun y25 hy25 => ?_)
      refine y_rI (len := 1) (r := (0, 0, 0, 0)) (nL := 2) (k := 2) (n9 := 2) (hs := []) (by decide +kernel) rfl (zfit_b (by omega) (by omega)).2 ?_
      exact ⟨rfl, by omega, by omega, fun h9 => ⟨fun _ => q2, fun h8 => by omega⟩⟩
  · rcases Decidable.em (a.toInt = 3) with q2 | q2
    · rcases Decidable.em (b.toInt = 0) with q3 | q3
      ·
        refine y_same (i := .aload_n 0) (len := 1) (r := (0, 0, 0, 0)) (pc' := 1) (ls' := [some (.inl (some R)), some (zi x)]) (st' := [.inl (some R)]) (by decide +kernel) (fun k q => by cases q) rfl ?_
        refine y_same (i := .iload_n 1) (len := 1) (r := (0, 0, 0, 0)) (pc' := 2) (ls' := [some (.inl (some R)), some (zi x)]) (st' := [zi x, .inl (some R)]) (by decide +kernel) (fun k q => by cases q) rfl ?_
        refine y_ial (i := p) (len := 1) (r := (0, 0, 0, 0)) (by decide +kernel) hg hR at1012 (by omega) ha ?_
        refine y_ic (c := 2) (len := 1) (r := (0, 0, 0, 0)) (by decide +kernel) (by decide) (fun y26 hy26 => ?_)
        refine y_cT (c := .ne) (off := 16) (pc' := 20) (len := 3) (r := (0, 0, 0, 0)) (by decide +kernel) (acmpT (c := .ne) (by show ¬ (_ = _); omega)) (by decide +kernel) ?_
        refine y_same (i := .aload_n 0) (len := 1) (r := (0, 0, 0, 0)) (pc' := 21) (ls' := [some (.inl (some R)), some (zi x)]) (st' := [.inl (some R)]) (by decide +kernel) (fun k q => by cases q) rfl ?_
        refine y_same (i := .iload_n 1) (len := 1) (r := (0, 0, 0, 0)) (pc' := 22) (ls' := [some (.inl (some R)), some (zi x)]) (st' := [zi x, .inl (some R)]) (by decide +kernel) (fun k q => by cases q) rfl ?_
        refine y_ial (i := p) (len := 1) (r := (0, 0, 0, 0)) (by decide +kernel) hg hR at1012 (by omega) ha ?_
        refine y_ic (c := 3) (len := 1) (r := (0, 0, 0, 0)) (by decide +kernel) (by decide) (fun y27 hy27 => ?_)
        refine y_cF (c := .ne) (off := 15) (len := 3) (r := (0, 0, 0, 0)) (by decide +kernel) (acmpF (c := .ne) (by show _ = _; omega)) ?_
        refine y_same (i := .aload_n 0) (len := 1) (r := (0, 0, 0, 0)) (pc' := 28) (ls' := [some (.inl (some R)), some (zi x)]) (st' := [.inl (some R)]) (by decide +kernel) (fun k q => by cases q) rfl ?_
        refine y_same (i := .iload_n 1) (len := 1) (r := (0, 0, 0, 0)) (pc' := 29) (ls' := [some (.inl (some R)), some (zi x)]) (st' := [zi x, .inl (some R)]) (by decide +kernel) (fun k q => by cases q) rfl ?_
        refine y_ic (c := 1) (len := 1) (r := (0, 0, 0, 0)) (by decide +kernel) (by decide) (fun y28 hy28 => ?_)
        refine y_add (len := 1) (r := (0, 0, 0, 0)) (by decide +kernel) (by omega) (by omega) (fun y29 hy29 => ?_)
        refine y_ial (i := (p + 1)) (len := 1) (r := (0, 0, 0, 0)) (by decide +kernel) hg hR at1012 (by omega) hb ?_
        refine y_iF (c := .ne) (off := 7) (len := 3) (r := (0, 0, 0, 0)) (by decide +kernel) (acmpF (c := .ne) (by show _ = _; omega)) ?_
        refine y_ic (c := 1) (len := 1) (r := (0, 0, 0, 0)) (by decide +kernel) (by decide) (fun y30 hy30 => ?_)
        refine y_goto (off := 4) (pc' := 40) (len := 3) (r := (0, 0, 0, 0)) (by decide +kernel) (by decide +kernel) ?_
        refine y_rI (len := 1) (r := (0, 0, 0, 0)) (nL := 2) (k := 2) (n9 := 2) (hs := []) (by decide +kernel) rfl (zfit_b (by omega) (by omega)).2 ?_
        exact ⟨rfl, by omega, by omega, fun h9 => by omega⟩
      ·
        refine y_same (i := .aload_n 0) (len := 1) (r := (0, 0, 0, 0)) (pc' := 1) (ls' := [some (.inl (some R)), some (zi x)]) (st' := [.inl (some R)]) (by decide +kernel) (fun k q => by cases q) rfl ?_
        refine y_same (i := .iload_n 1) (len := 1) (r := (0, 0, 0, 0)) (pc' := 2) (ls' := [some (.inl (some R)), some (zi x)]) (st' := [zi x, .inl (some R)]) (by decide +kernel) (fun k q => by cases q) rfl ?_
        refine y_ial (i := p) (len := 1) (r := (0, 0, 0, 0)) (by decide +kernel) hg hR at1012 (by omega) ha ?_
        refine y_ic (c := 2) (len := 1) (r := (0, 0, 0, 0)) (by decide +kernel) (by decide) (fun y31 hy31 => ?_)
        refine y_cT (c := .ne) (off := 16) (pc' := 20) (len := 3) (r := (0, 0, 0, 0)) (by decide +kernel) (acmpT (c := .ne) (by show ¬ (_ = _); omega)) (by decide +kernel) ?_
        refine y_same (i := .aload_n 0) (len := 1) (r := (0, 0, 0, 0)) (pc' := 21) (ls' := [some (.inl (some R)), some (zi x)]) (st' := [.inl (some R)]) (by decide +kernel) (fun k q => by cases q) rfl ?_
        refine y_same (i := .iload_n 1) (len := 1) (r := (0, 0, 0, 0)) (pc' := 22) (ls' := [some (.inl (some R)), some (zi x)]) (st' := [zi x, .inl (some R)]) (by decide +kernel) (fun k q => by cases q) rfl ?_
        refine y_ial (i := p) (len := 1) (r := (0, 0, 0, 0)) (by decide +kernel) hg hR at1012 (by omega) ha ?_
        refine y_ic (c := 3) (len := 1) (r := (0, 0, 0, 0)) (by decide +kernel) (by decide) (fun y32 hy32 => ?_)
        refine y_cF (c := .ne) (off := 15) (len := 3) (r := (0, 0, 0, 0)) (by decide +kernel) (acmpF (c := .ne) (by show _ = _; omega)) ?_
        refine y_same (i := .aload_n 0) (len := 1) (r := (0, 0, 0, 0)) (pc' := 28) (ls' := [some (.inl (some R)), some (zi x)]) (st' := [.inl (some R)]) (by decide +kernel) (fun k q => by cases q) rfl ?_
        refine y_same (i := .iload_n 1) (len := 1) (r := (0, 0, 0, 0)) (pc' := 29) (ls' := [some (.inl (some R)), some (zi x)]) (st' := [zi x, .inl (some R)]) (by decide +kernel) (fun k q => by cases q) rfl ?_
        refine y_ic (c := 1) (len := 1) (r := (0, 0, 0, 0)) (by decide +kernel) (by decide) (fun y33 hy33 => ?_)
        refine y_add (len := 1) (r := (0, 0, 0, 0)) (by decide +kernel) (by omega) (by omega) (fun y34 hy34 => ?_)
        refine y_ial (i := (p + 1)) (len := 1) (r := (0, 0, 0, 0)) (by decide +kernel) hg hR at1012 (by omega) hb ?_
        refine y_iT (c := .ne) (off := 7) (pc' := 39) (len := 3) (r := (0, 0, 0, 0)) (by decide +kernel) (acmpT (c := .ne) (by show ¬ (_ = _); omega)) (by decide +kernel) ?_
        refine y_ic (c := 0) (len := 1) (r := (0, 0, 0, 0)) (by decide +kernel) (by decide) (fun y35 hy35 => ?_)
        refine y_rI (len := 1) (r := (0, 0, 0, 0)) (nL := 2) (k := 2) (n9 := 2) (hs := []) (by decide +kernel) rfl (zfit_b (by omega) (by omega)).2 ?_
        exact ⟨rfl, by omega, by omega, fun h9 => ⟨fun h8 => by omega, fun _ => q3⟩⟩
    ·
      refine y_same (i := .aload_n 0) (len := 1) (r := (0, 0, 0, 0)) (pc' := 1) (ls' := [some (.inl (some R)), some (zi x)]) (st' := [.inl (some R)]) (by decide +kernel) (fun k q => by cases q) rfl ?_
      refine y_same (i := .iload_n 1) (len := 1) (r := (0, 0, 0, 0)) (pc' := 2) (ls' := [some (.inl (some R)), some (zi x)]) (st' := [zi x, .inl (some R)]) (by decide +kernel) (fun k q => by cases q) rfl ?_
      refine y_ial (i := p) (len := 1) (r := (0, 0, 0, 0)) (by decide +kernel) hg hR at1012 (by omega) ha ?_
      refine y_ic (c := 2) (len := 1) (r := (0, 0, 0, 0)) (by decide +kernel) (by decide) (fun y36 hy36 => ?_)
      refine y_cT (c := .ne) (off := 16) (pc' := 20) (len := 3) (r := (0, 0, 0, 0)) (by decide +kernel) (acmpT (c := .ne) (by show ¬ (_ = _); omega)) (by decide +kernel) ?_
      refine y_same (i := .aload_n 0) (len := 1) (r := (0, 0, 0, 0)) (pc' := 21) (ls' := [some (.inl (some R)), some (zi x)]) (st' := [.inl (some R)]) (by decide +kernel) (fun k q => by cases q) rfl ?_
      refine y_same (i := .iload_n 1) (len := 1) (r := (0, 0, 0, 0)) (pc' := 22) (ls' := [some (.inl (some R)), some (zi x)]) (st' := [zi x, .inl (some R)]) (by decide +kernel) (fun k q => by cases q) rfl ?_
      refine y_ial (i := p) (len := 1) (r := (0, 0, 0, 0)) (by decide +kernel) hg hR at1012 (by omega) ha ?_
      refine y_ic (c := 3) (len := 1) (r := (0, 0, 0, 0)) (by decide +kernel) (by decide) (fun y37 hy37 => ?_)
      refine y_cT (c := .ne) (off := 15) (pc' := 39) (len := 3) (r := (0, 0, 0, 0)) (by decide +kernel) (acmpT (c := .ne) (by show ¬ (_ = _); omega)) (by decide +kernel) ?_
      refine y_ic (c := 0) (len := 1) (r := (0, 0, 0, 0)) (by decide +kernel) (by decide) (fun y38 hy38 => ?_)
      refine y_rI (len := 1) (r := (0, 0, 0, 0)) (nL := 2) (k := 2) (n9 := 2) (hs := []) (by decide +kernel) rfl (zfit_b (by omega) (by omega)).2 ?_
      exact ⟨rfl, by omega, by omega, fun h9 => ⟨fun h8 => by omega, fun h8 => by omega⟩⟩
theorem e_differ {d t p R : Nat} {τ : List Nat} {h : zh} {x z a : Int32} (hg : hG τ h) (hR : τ[R]? = some 1012) (hx : x.toInt = (p : Int)) (hp : p < 21) (ha : hsl h R (3 + p) = some (zi a)) : qI (d + 1) 200 [some (.inl (some R)), some (zi x), some (zi z)] h t (fun y h1 => h = h1 ∧ 0 ≤ y.toInt ∧ y.toInt ≤ 1 ∧ (y.toInt ≠ 0 → ((a >>> (z &&& 31)) &&& 1).toInt = 1)) := by
  refine qI_of ?_
  refine y_same (i := .aload_n 0) (len := 1) (r := (0, 0, 0, 0)) (pc' := 1) (ls' := [some (.inl (some R)), some (zi x), some (zi z)]) (st' := [.inl (some R)]) (by decide +kernel) (fun k q => by cases q) rfl ?_
  refine y_ic (c := 3) (len := 1) (r := (0, 0, 0, 0)) (by decide +kernel) (by decide) (fun y39 hy39 => ?_)
  refine y_same (i := .iload_n 1) (len := 1) (r := (0, 0, 0, 0)) (pc' := 3) (ls' := [some (.inl (some R)), some (zi x), some (zi z)]) (st' := [zi x, zi y39, .inl (some R)]) (by decide +kernel) (fun k q => by cases q) rfl ?_
  refine y_add (len := 1) (r := (0, 0, 0, 0)) (by decide +kernel) (by omega) (by omega) (fun y40 hy40 => ?_)
  refine y_ial (i := (3 + p)) (len := 1) (r := (0, 0, 0, 0)) (by decide +kernel) hg hR at1012 (by omega) ha ?_
  refine y_same (i := .iload_n 2) (len := 1) (r := (0, 0, 0, 0)) (pc' := 6) (ls' := [some (.inl (some R)), some (zi x), some (zi z)]) (st' := [zi z, zi a]) (by decide +kernel) (fun k q => by cases q) rfl ?_
  refine y_bp (i := .ishr) (f := fun x y => x >>> (y &&& 31)) (len := 1) (r := (0, 0, 0, 0)) (by decide +kernel) rfl rfl (fun y41 hy41 => ?_)
  have hy41 : y41 = a >>> (z &&& 31) := hy41
  refine y_ic (c := 1) (len := 1) (r := (0, 0, 0, 0)) (by decide +kernel) (by decide) (fun y42 hy42 => ?_)
  refine y_bp (i := .iand) (f := fun x y => x &&& y) (len := 1) (r := (0, 0, 0, 0)) (by decide +kernel) rfl rfl (fun y43 hy43 => ?_)
  have hy43 : y43 = y41 &&& y42 := hy43
  refine y_ic (c := 1) (len := 1) (r := (0, 0, 0, 0)) (by decide +kernel) (by decide) (fun y44 hy44 => ?_)
  rcases Decidable.em (y43.toInt = y44.toInt) with q | q
  ·
    refine y_cF (c := .ne) (off := 7) (len := 3) (r := (0, 0, 0, 0)) (by decide +kernel) (acmpF (c := .ne) (by show _ = _; omega)) ?_
    refine y_ic (c := 1) (len := 1) (r := (0, 0, 0, 0)) (by decide +kernel) (by decide) (fun y45 hy45 => ?_)
    refine y_goto (off := 4) (pc' := 18) (len := 3) (r := (0, 0, 0, 0)) (by decide +kernel) (by decide +kernel) ?_
    refine y_rI (len := 1) (r := (0, 0, 0, 0)) (nL := 3) (k := 2) (n9 := 3) (hs := []) (by decide +kernel) rfl (zfit_b (by omega) (by omega)).2 ?_
    refine ⟨rfl, by omega, by omega, fun h9 => ?_⟩
    rw [← hy41, ← ofI (w := 1) hy42 rfl, ← hy43]
    omega
  ·
    refine y_cT (c := .ne) (off := 7) (pc' := 17) (len := 3) (r := (0, 0, 0, 0)) (by decide +kernel) (acmpT (c := .ne) (by show ¬ (_ = _); omega)) (by decide +kernel) ?_
    refine y_ic (c := 0) (len := 1) (r := (0, 0, 0, 0)) (by decide +kernel) (by decide) (fun y46 hy46 => ?_)
    refine y_rI (len := 1) (r := (0, 0, 0, 0)) (nL := 3) (k := 2) (n9 := 3) (hs := []) (by decide +kernel) rfl (zfit_b (by omega) (by omega)).2 ?_
    exact ⟨rfl, by omega, by omega, fun h9 => by omega⟩
theorem e_agrees {d t p q R : Nat} {τ : List Nat} {h : zh} {x z a : Int32} (hg : hG τ h) (hR : τ[R]? = some 1012) (hx : x.toInt = (p : Int)) (hp : p < 21) (hz : z.toInt = (q : Int)) (hq : q < 21) (ha : hsl h R (3 + p) = some (zi a)) : qV (d + 1) 202 [some (.inl (some R)), some (zi x), some (zi z)] h t (fun h1 => hG τ h1 ∧ h1.length = h.length ∧ (∀ k j, (k ≠ R ∨ (j ≠ 3 + p ∧ j ≠ 3 + q)) → hsl h1 k j = hsl h k j) ∧ (p ≠ q → hsl h1 R (3 + p) = some (zi (a &&& ((1 <<< (z &&& 31)) ^^^ -1))) ∧ ∃ b w : Int32, hsl h R (3 + q) = some (zi b) ∧ hsl h1 R (3 + q) = some (zi (b &&& w)))) := by
  refine qV_of ?_
  refine y_same (i := .aload_n 0) (len := 1) (r := (0, 0, 0, 0)) (pc' := 1) (ls' := [some (.inl (some R)), some (zi x), some (zi z)]) (st' := [.inl (some R)]) (by decide +kernel) (fun k q => by cases q) rfl ?_
  refine y_ic (c := 3) (len := 1) (r := (0, 0, 0, 0)) (by decide +kernel) (by decide) (fun y47 hy47 => ?_)
  refine y_same (i := .iload_n 1) (len := 1) (r := (0, 0, 0, 0)) (pc' := 3) (ls' := [some (.inl (some R)), some (zi x), some (zi z)]) (st' := [zi x, zi y47, .inl (some R)]) (by decide +kernel) (fun k q => by cases q) rfl ?_
  refine y_add (len := 1) (r := (0, 0, 0, 0)) (by decide +kernel) (by omega) (by omega) (fun y48 hy48 => ?_)
  refine y_same (i := .dup2) (len := 1) (r := (0, 0, 0, 0)) (pc' := 5) (ls' := [some (.inl (some R)), some (zi x), some (zi z)]) (st' := [zi y48, .inl (some R), zi y48, .inl (some R)]) (by decide +kernel) (fun k q => by cases q) rfl ?_
  refine y_ial (i := (3 + p)) (len := 1) (r := (0, 0, 0, 0)) (by decide +kernel) hg hR at1012 (by omega) ha ?_
  refine y_ic (c := 1) (len := 1) (r := (0, 0, 0, 0)) (by decide +kernel) (by decide) (fun y49 hy49 => ?_)
  refine y_same (i := .iload_n 2) (len := 1) (r := (0, 0, 0, 0)) (pc' := 8) (ls' := [some (.inl (some R)), some (zi x), some (zi z)]) (st' := [zi z, zi y49, zi a, zi y48, .inl (some R)]) (by decide +kernel) (fun k q => by cases q) rfl ?_
  refine y_bp (i := .ishl) (f := fun x y => x <<< (y &&& 31)) (len := 1) (r := (0, 0, 0, 0)) (by decide +kernel) rfl rfl (fun y50 hy50 => ?_)
  have hy50 : y50 = y49 <<< (z &&& 31) := hy50
  refine y_ic (c := (-1)) (len := 1) (r := (0, 0, 0, 0)) (by decide +kernel) (by decide) (fun y51 hy51 => ?_)
  refine y_bp (i := .ixor) (f := fun x y => x ^^^ y) (len := 1) (r := (0, 0, 0, 0)) (by decide +kernel) rfl rfl (fun y52 hy52 => ?_)
  have hy52 : y52 = y50 ^^^ y51 := hy52
  refine y_bp (i := .iand) (f := fun x y => x &&& y) (len := 1) (r := (0, 0, 0, 0)) (by decide +kernel) rfl rfl (fun y53 hy53 => ?_)
  have hy53 : y53 = a &&& y52 := hy53
  refine y_ias (i := (3 + p)) (len := 1) (r := (0, 0, 0, 0)) (by decide +kernel) hg hR at1012 rfl (by omega) (by omega) (srB (by omega) (by omega)) (qin_full _).1 (qin_full _).2 (fun h54 hg54 hl54 hs54 ho54 => ?_)
  refine y_same (i := .aload_n 0) (len := 1) (r := (0, 0, 0, 0)) (pc' := 14) (ls' := [some (.inl (some R)), some (zi x), some (zi z)]) (st' := [.inl (some R)]) (by decide +kernel) (fun k q => by cases q) rfl ?_
  refine y_ic (c := 3) (len := 1) (r := (0, 0, 0, 0)) (by decide +kernel) (by decide) (fun y55 hy55 => ?_)
  refine y_same (i := .iload_n 2) (len := 1) (r := (0, 0, 0, 0)) (pc' := 16) (ls' := [some (.inl (some R)), some (zi x), some (zi z)]) (st' := [zi z, zi y55, .inl (some R)]) (by decide +kernel) (fun k q => by cases q) rfl ?_
  refine y_add (len := 1) (r := (0, 0, 0, 0)) (by decide +kernel) (by omega) (by omega) (fun y56 hy56 => ?_)
  refine y_same (i := .dup2) (len := 1) (r := (0, 0, 0, 0)) (pc' := 18) (ls' := [some (.inl (some R)), some (zi x), some (zi z)]) (st' := [zi y56, .inl (some R), zi y56, .inl (some R)]) (by decide +kernel) (fun k q => by cases q) rfl ?_
  obtain ⟨v57, hv58, lv57, uv57⟩ := g_int (i := (3 + q)) hg54 hR at1012 (show (3 + q) < 200 by omega) (srB (by omega) (by omega))
  refine y_ial (i := (3 + q)) (len := 1) (r := (0, 0, 0, 0)) (by decide +kernel) hg54 hR at1012 (by omega) hv58 ?_
  refine y_ic (c := 1) (len := 1) (r := (0, 0, 0, 0)) (by decide +kernel) (by decide) (fun y59 hy59 => ?_)
  refine y_same (i := .iload_n 1) (len := 1) (r := (0, 0, 0, 0)) (pc' := 21) (ls' := [some (.inl (some R)), some (zi x), some (zi z)]) (st' := [zi x, zi y59, zi v57, zi y56, .inl (some R)]) (by decide +kernel) (fun k q => by cases q) rfl ?_
  refine y_bp (i := .ishl) (f := fun x y => x <<< (y &&& 31)) (len := 1) (r := (0, 0, 0, 0)) (by decide +kernel) rfl rfl (fun y60 hy60 => ?_)
  have hy60 : y60 = y59 <<< (x &&& 31) := hy60
  refine y_ic (c := (-1)) (len := 1) (r := (0, 0, 0, 0)) (by decide +kernel) (by decide) (fun y61 hy61 => ?_)
  refine y_bp (i := .ixor) (f := fun x y => x ^^^ y) (len := 1) (r := (0, 0, 0, 0)) (by decide +kernel) rfl rfl (fun y62 hy62 => ?_)
  have hy62 : y62 = y60 ^^^ y61 := hy62
  refine y_bp (i := .iand) (f := fun x y => x &&& y) (len := 1) (r := (0, 0, 0, 0)) (by decide +kernel) rfl rfl (fun y63 hy63 => ?_)
  have hy63 : y63 = v57 &&& y62 := hy63
  refine y_ias (i := (3 + q)) (len := 1) (r := (0, 0, 0, 0)) (by decide +kernel) hg54 hR at1012 rfl (by omega) (by omega) (srB (by omega) (by omega)) (qin_full _).1 (qin_full _).2 (fun h64 hg64 hl64 hs64 ho64 => ?_)
  refine y_rV (len := 1) (r := (0, 0, 0, 0)) (nL := 3) (n9 := 3) (hs := []) (by decide +kernel) rfl ?_
  refine ⟨hg64, by omega, fun k j hkj => (ho64 k j (by omega)).trans (ho54 k j (by omega)), fun hpq => ⟨?_, v57, y62, (ho54 R (3 + q) (Or.inr (by omega))).symm.trans hv58, by rw [hs64, hy63]⟩⟩
  rw [(ho64 R (3 + p) (Or.inr (by omega))).trans hs54, hy53, hy52, hy50, ofI (w := 1) hy49 rfl, ofI (w := -1) hy51 rfl]
theorem e_differs {d t p q R : Nat} {τ : List Nat} {h : zh} {x z a : Int32} (hg : hG τ h) (hR : τ[R]? = some 1012) (hx : x.toInt = (p : Int)) (hp : p < 21) (hz : z.toInt = (q : Int)) (hq : q < 21) (ha : hsl h R (3 + p) = some (zi a)) : qV (d + 1) 201 [some (.inl (some R)), some (zi x), some (zi z)] h t (fun h1 => hG τ h1 ∧ h1.length = h.length ∧ (∀ k j, (k ≠ R ∨ (j ≠ 3 + p ∧ j ≠ 3 + q)) → hsl h1 k j = hsl h k j)) := by
  refine qV_of ?_
  refine y_same (i := .aload_n 0) (len := 1) (r := (0, 0, 0, 0)) (pc' := 1) (ls' := [some (.inl (some R)), some (zi x), some (zi z)]) (st' := [.inl (some R)]) (by decide +kernel) (fun k q => by cases q) rfl ?_
  refine y_ic (c := 3) (len := 1) (r := (0, 0, 0, 0)) (by decide +kernel) (by decide) (fun y65 hy65 => ?_)
  refine y_same (i := .iload_n 1) (len := 1) (r := (0, 0, 0, 0)) (pc' := 3) (ls' := [some (.inl (some R)), some (zi x), some (zi z)]) (st' := [zi x, zi y65, .inl (some R)]) (by decide +kernel) (fun k q => by cases q) rfl ?_
  refine y_add (len := 1) (r := (0, 0, 0, 0)) (by decide +kernel) (by omega) (by omega) (fun y66 hy66 => ?_)
  refine y_same (i := .dup2) (len := 1) (r := (0, 0, 0, 0)) (pc' := 5) (ls' := [some (.inl (some R)), some (zi x), some (zi z)]) (st' := [zi y66, .inl (some R), zi y66, .inl (some R)]) (by decide +kernel) (fun k q => by cases q) rfl ?_
  refine y_ial (i := (3 + p)) (len := 1) (r := (0, 0, 0, 0)) (by decide +kernel) hg hR at1012 (by omega) ha ?_
  refine y_ic (c := 1) (len := 1) (r := (0, 0, 0, 0)) (by decide +kernel) (by decide) (fun y67 hy67 => ?_)
  refine y_same (i := .iload_n 2) (len := 1) (r := (0, 0, 0, 0)) (pc' := 8) (ls' := [some (.inl (some R)), some (zi x), some (zi z)]) (st' := [zi z, zi y67, zi a, zi y66, .inl (some R)]) (by decide +kernel) (fun k q => by cases q) rfl ?_
  refine y_bp (i := .ishl) (f := fun x y => x <<< (y &&& 31)) (len := 1) (r := (0, 0, 0, 0)) (by decide +kernel) rfl rfl (fun y68 hy68 => ?_)
  have hy68 : y68 = y67 <<< (z &&& 31) := hy68
  refine y_bp (i := .ior) (f := fun x y => x ||| y) (len := 1) (r := (0, 0, 0, 0)) (by decide +kernel) rfl rfl (fun y69 hy69 => ?_)
  have hy69 : y69 = a ||| y68 := hy69
  refine y_ias (i := (3 + p)) (len := 1) (r := (0, 0, 0, 0)) (by decide +kernel) hg hR at1012 rfl (by omega) (by omega) (srB (by omega) (by omega)) (qin_full _).1 (qin_full _).2 (fun h70 hg70 hl70 hs70 ho70 => ?_)
  refine y_same (i := .aload_n 0) (len := 1) (r := (0, 0, 0, 0)) (pc' := 12) (ls' := [some (.inl (some R)), some (zi x), some (zi z)]) (st' := [.inl (some R)]) (by decide +kernel) (fun k q => by cases q) rfl ?_
  refine y_ic (c := 3) (len := 1) (r := (0, 0, 0, 0)) (by decide +kernel) (by decide) (fun y71 hy71 => ?_)
  refine y_same (i := .iload_n 2) (len := 1) (r := (0, 0, 0, 0)) (pc' := 14) (ls' := [some (.inl (some R)), some (zi x), some (zi z)]) (st' := [zi z, zi y71, .inl (some R)]) (by decide +kernel) (fun k q => by cases q) rfl ?_
  refine y_add (len := 1) (r := (0, 0, 0, 0)) (by decide +kernel) (by omega) (by omega) (fun y72 hy72 => ?_)
  refine y_same (i := .dup2) (len := 1) (r := (0, 0, 0, 0)) (pc' := 16) (ls' := [some (.inl (some R)), some (zi x), some (zi z)]) (st' := [zi y72, .inl (some R), zi y72, .inl (some R)]) (by decide +kernel) (fun k q => by cases q) rfl ?_
  obtain ⟨v73, hv74, lv73, uv73⟩ := g_int (i := (3 + q)) hg70 hR at1012 (show (3 + q) < 200 by omega) (srB (by omega) (by omega))
  refine y_ial (i := (3 + q)) (len := 1) (r := (0, 0, 0, 0)) (by decide +kernel) hg70 hR at1012 (by omega) hv74 ?_
  refine y_ic (c := 1) (len := 1) (r := (0, 0, 0, 0)) (by decide +kernel) (by decide) (fun y75 hy75 => ?_)
  refine y_same (i := .iload_n 1) (len := 1) (r := (0, 0, 0, 0)) (pc' := 19) (ls' := [some (.inl (some R)), some (zi x), some (zi z)]) (st' := [zi x, zi y75, zi v73, zi y72, .inl (some R)]) (by decide +kernel) (fun k q => by cases q) rfl ?_
  refine y_bp (i := .ishl) (f := fun x y => x <<< (y &&& 31)) (len := 1) (r := (0, 0, 0, 0)) (by decide +kernel) rfl rfl (fun y76 hy76 => ?_)
  have hy76 : y76 = y75 <<< (x &&& 31) := hy76
  refine y_bp (i := .ior) (f := fun x y => x ||| y) (len := 1) (r := (0, 0, 0, 0)) (by decide +kernel) rfl rfl (fun y77 hy77 => ?_)
  have hy77 : y77 = v73 ||| y76 := hy77
  refine y_ias (i := (3 + q)) (len := 1) (r := (0, 0, 0, 0)) (by decide +kernel) hg70 hR at1012 rfl (by omega) (by omega) (srB (by omega) (by omega)) (qin_full _).1 (qin_full _).2 (fun h78 hg78 hl78 hs78 ho78 => ?_)
  refine y_rV (len := 1) (r := (0, 0, 0, 0)) (nL := 3) (n9 := 3) (hs := []) (by decide +kernel) rfl ?_
  refine ⟨hg78, by omega, fun k j hkj => (ho78 k j (by omega)).trans (ho70 k j (by omega))⟩
theorem e_four {d t p R : Nat} {τ : List Nat} {h : zh} {x a b c e : Int32} (hg : hG τ h) (hR : τ[R]? = some 1012) (hx : x.toInt = (p : Int)) (hp : 24 ≤ p) (hp2 : p < 197) (ha : 0 ≤ a.toInt ∧ a.toInt ≤ 20) (hb : 0 ≤ b.toInt ∧ b.toInt ≤ 20) (hc : 0 ≤ c.toInt ∧ c.toInt ≤ 20) (he : 0 ≤ e.toInt ∧ e.toInt ≤ 20) : qV (d + 1) 179 [some (.inl (some R)), some (zi x), some (zi a), some (zi b), some (zi c), some (zi e)] h t (fun h1 => hG τ h1 ∧ h1.length = h.length ∧ ∀ k j, (k ≠ R ∨ j < 24) → hsl h1 k j = hsl h k j) := by
  refine qV_of ?_
  refine y_same (i := .aload_n 0) (len := 1) (r := (0, 0, 0, 0)) (pc' := 1) (ls' := [some (.inl (some R)), some (zi x), some (zi a), some (zi b), some (zi c), some (zi e)]) (st' := [.inl (some R)]) (by decide +kernel) (fun k q => by cases q) rfl ?_
  refine y_same (i := .iload_n 1) (len := 1) (r := (0, 0, 0, 0)) (pc' := 2) (ls' := [some (.inl (some R)), some (zi x), some (zi a), some (zi b), some (zi c), some (zi e)]) (st' := [zi x, .inl (some R)]) (by decide +kernel) (fun k q => by cases q) rfl ?_
  refine y_same (i := .iload_n 2) (len := 1) (r := (0, 0, 0, 0)) (pc' := 3) (ls' := [some (.inl (some R)), some (zi x), some (zi a), some (zi b), some (zi c), some (zi e)]) (st' := [zi a, zi x, .inl (some R)]) (by decide +kernel) (fun k q => by cases q) rfl ?_
  refine y_ias (i := p) (len := 1) (r := (0, 0, 0, 0)) (by decide +kernel) hg hR at1012 rfl (by omega) (by omega) (srC (by omega) (by omega)) (by omega) (by omega) (fun h79 hg79 hl79 hs79 ho79 => ?_)
  refine y_same (i := .aload_n 0) (len := 1) (r := (0, 0, 0, 0)) (pc' := 5) (ls' := [some (.inl (some R)), some (zi x), some (zi a), some (zi b), some (zi c), some (zi e)]) (st' := [.inl (some R)]) (by decide +kernel) (fun k q => by cases q) rfl ?_
  refine y_same (i := .iload_n 1) (len := 1) (r := (0, 0, 0, 0)) (pc' := 6) (ls' := [some (.inl (some R)), some (zi x), some (zi a), some (zi b), some (zi c), some (zi e)]) (st' := [zi x, .inl (some R)]) (by decide +kernel) (fun k q => by cases q) rfl ?_
  refine y_ic (c := 1) (len := 1) (r := (0, 0, 0, 0)) (by decide +kernel) (by decide) (fun y80 hy80 => ?_)
  refine y_add (len := 1) (r := (0, 0, 0, 0)) (by decide +kernel) (by omega) (by omega) (fun y81 hy81 => ?_)
  refine y_same (i := .iload_n 3) (len := 1) (r := (0, 0, 0, 0)) (pc' := 9) (ls' := [some (.inl (some R)), some (zi x), some (zi a), some (zi b), some (zi c), some (zi e)]) (st' := [zi b, zi y81, .inl (some R)]) (by decide +kernel) (fun k q => by cases q) rfl ?_
  refine y_ias (i := (p + 1)) (len := 1) (r := (0, 0, 0, 0)) (by decide +kernel) hg79 hR at1012 rfl (by omega) (by omega) (srC (by omega) (by omega)) (by omega) (by omega) (fun h82 hg82 hl82 hs82 ho82 => ?_)
  refine y_same (i := .aload_n 0) (len := 1) (r := (0, 0, 0, 0)) (pc' := 11) (ls' := [some (.inl (some R)), some (zi x), some (zi a), some (zi b), some (zi c), some (zi e)]) (st' := [.inl (some R)]) (by decide +kernel) (fun k q => by cases q) rfl ?_
  refine y_same (i := .iload_n 1) (len := 1) (r := (0, 0, 0, 0)) (pc' := 12) (ls' := [some (.inl (some R)), some (zi x), some (zi a), some (zi b), some (zi c), some (zi e)]) (st' := [zi x, .inl (some R)]) (by decide +kernel) (fun k q => by cases q) rfl ?_
  refine y_ic (c := 2) (len := 1) (r := (0, 0, 0, 0)) (by decide +kernel) (by decide) (fun y83 hy83 => ?_)
  refine y_add (len := 1) (r := (0, 0, 0, 0)) (by decide +kernel) (by omega) (by omega) (fun y84 hy84 => ?_)
  refine y_same (i := .iload 4) (len := 2) (r := (0, 0, 0, 0)) (pc' := 16) (ls' := [some (.inl (some R)), some (zi x), some (zi a), some (zi b), some (zi c), some (zi e)]) (st' := [zi c, zi y84, .inl (some R)]) (by decide +kernel) (fun k q => by cases q) rfl ?_
  refine y_ias (i := (p + 2)) (len := 1) (r := (0, 0, 0, 0)) (by decide +kernel) hg82 hR at1012 rfl (by omega) (by omega) (srC (by omega) (by omega)) (by omega) (by omega) (fun h85 hg85 hl85 hs85 ho85 => ?_)
  refine y_same (i := .aload_n 0) (len := 1) (r := (0, 0, 0, 0)) (pc' := 18) (ls' := [some (.inl (some R)), some (zi x), some (zi a), some (zi b), some (zi c), some (zi e)]) (st' := [.inl (some R)]) (by decide +kernel) (fun k q => by cases q) rfl ?_
  refine y_same (i := .iload_n 1) (len := 1) (r := (0, 0, 0, 0)) (pc' := 19) (ls' := [some (.inl (some R)), some (zi x), some (zi a), some (zi b), some (zi c), some (zi e)]) (st' := [zi x, .inl (some R)]) (by decide +kernel) (fun k q => by cases q) rfl ?_
  refine y_ic (c := 3) (len := 1) (r := (0, 0, 0, 0)) (by decide +kernel) (by decide) (fun y86 hy86 => ?_)
  refine y_add (len := 1) (r := (0, 0, 0, 0)) (by decide +kernel) (by omega) (by omega) (fun y87 hy87 => ?_)
  refine y_same (i := .iload 5) (len := 2) (r := (0, 0, 0, 0)) (pc' := 23) (ls' := [some (.inl (some R)), some (zi x), some (zi a), some (zi b), some (zi c), some (zi e)]) (st' := [zi e, zi y87, .inl (some R)]) (by decide +kernel) (fun k q => by cases q) rfl ?_
  refine y_ias (i := (p + 3)) (len := 1) (r := (0, 0, 0, 0)) (by decide +kernel) hg85 hR at1012 rfl (by omega) (by omega) (srC (by omega) (by omega)) (by omega) (by omega) (fun h88 hg88 hl88 hs88 ho88 => ?_)
  refine y_rV (len := 1) (r := (0, 0, 0, 0)) (nL := 6) (n9 := 6) (hs := []) (by decide +kernel) rfl ?_
  exact ⟨hg88, by omega, fun k j hkj => (ho88 k j (by omega)).trans ((ho85 k j (by omega)).trans ((ho82 k j (by omega)).trans (ho79 k j (by omega))))⟩
