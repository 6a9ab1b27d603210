/-! THE MODEL'S READER, told exactly -/
def rdM (h : zh) (n a : Nat) (b : Nat → Int) : Prop := (∃ x : Int32, hsl h 52 3 = some (zi x) ∧ x.toInt = (n : Int)) ∧ (∃ x : Int32, hsl h 52 4 = some (zi x) ∧ x.toInt = (a : Int)) ∧ (∀ j, j < n → ∃ x : Int32, hsl h 54 j = some (zi x) ∧ x.toInt = b j) ∧ n ≤ 200
/-- what is wrong so far, and where -/
def ftM (h : zh) (r w : Int) : Prop := (∃ x : Int32, hsl h 52 6 = some (zi x) ∧ x.toInt = r) ∧ ∃ x : Int32, hsl h 52 7 = some (zi x) ∧ x.toInt = w
theorem ftM_up {h h1 : zh} {r w : Int} (f : ftM h r w) (e6 : hsl h1 52 6 = hsl h 52 6) (e7 : hsl h1 52 7 = hsl h 52 7) : ftM h1 r w := by
  obtain ⟨⟨x, a, b⟩, y, c, d⟩ := f
  exact ⟨⟨x, e6.trans a, b⟩, y, e7.trans c, d⟩
theorem rdM_up {h h1 : zh} {n a a' : Nat} {b : Nat → Int} (rd : rdM h n a b) (e3 : hsl h1 52 3 = hsl h 52 3) (e4 : ∀ j, hsl h1 54 j = hsl h 54 j) (e : ∃ x : Int32, hsl h1 52 4 = some (zi x) ∧ x.toInt = (a' : Int)) : rdM h1 n a' b := by
  obtain ⟨⟨xn, hn, en⟩, -, hb, hn2⟩ := rd
  refine ⟨⟨xn, e3.trans hn, en⟩, e, fun j hj => ?_, hn2⟩
  obtain ⟨x, q1, q2⟩ := hb j hj
  exact ⟨x, (e4 j).trans q1, q2⟩
theorem at56 : atyp 56 = some (.inl (0, 92, rs55)) := rfl
theorem sr56 {i : Nat} (hi : i < 92) (h1 : i ≠ 1) (h2 : i ≠ 47) : srng rs55 i = some (.inl (0, 5)) := by
  have e := rs55_ok i hi
  rw [if_neg (by omega)] at e
  exact e
theorem m_byte {d t n a k : Nat} {b : Nat → Int} {τ : List Nat} {h : zh} {xk : Int32} (hg : hG τ h) (rd : rdM h n a b) (hk : xk.toInt = (k : Int)) : qI (d + 1) 170 [some (.inl (some 52)), some (zi xk)] h t (fun y h1 => h = h1 ∧ y.toInt = bt b n k) := by
  obtain ⟨⟨xn, hn, en⟩, ⟨xa, ha, ea⟩, hb, hn2⟩ := id rd
  refine qI_of ?_
  refine y_same (i := .iload_n 1) (len := 1) (r := (0, 0, 0, 0)) (pc' := 1) (ls' := [some (.inl (some 52)), some (zi xk)]) (st' := [zi xk]) (by decide +kernel) (fun k q => by cases q) rfl ?_
  refine y_same (i := .aload_n 0) (len := 1) (r := (0, 0, 0, 0)) (pc' := 2) (ls' := [some (.inl (some 52)), some (zi xk)]) (st' := [.inl (some 52), zi xk]) (by decide +kernel) (fun k q => by cases q) rfl ?_
  refine y_get (j := 98) (len := 3) (r := (12, 3, 0, 1331)) (by decide +kernel) hg (t52 hg) at52 rfl rfl hn ?_
  rcases Decidable.em (xk.toInt < xn.toInt) with q1 | q1
  ·
    refine y_cT (c := .lt) (off := 7) (pc' := 12) (len := 3) (r := (0, 0, 0, 0)) (by decide +kernel) (acmpT (c := .lt) (by show _ < _; omega)) (by decide +kernel) ?_
    refine y_same (i := .aload_n 0) (len := 1) (r := (0, 0, 0, 0)) (pc' := 13) (ls' := [some (.inl (some 52)), some (zi xk)]) (st' := [.inl (some 52)]) (by decide +kernel) (fun k q => by cases q) rfl ?_
    refine y_get (j := 17) (len := 3) (r := (12, 8, 2, 1336)) (by decide +kernel) hg (t52 hg) at52 rfl rfl (g_r52 (f := 8) (T2 := 54) hg rfl (by decide)).1 ?_
    refine y_same (i := .iload_n 1) (len := 1) (r := (0, 0, 0, 0)) (pc' := 17) (ls' := [some (.inl (some 52)), some (zi xk)]) (st' := [zi xk, .inl (some 54)]) (by decide +kernel) (fun k q => by cases q) rfl ?_
    obtain ⟨v2, hv3, ev2⟩ := hb k (by omega)
    refine y_ial (i := k) (len := 1) (r := (0, 0, 0, 0)) (by decide +kernel) hg (tu54 hg) at54 (by omega) hv3 ?_
    refine y_rI (len := 1) (r := (0, 0, 0, 0)) (nL := 2) (k := 1) (n9 := 2) (hs := []) (by decide +kernel) rfl rfl ?_
    refine ⟨rfl, ?_⟩
    rw [bt_lt (by omega)]
    omega
  ·
    refine y_cF (c := .lt) (off := 7) (len := 3) (r := (0, 0, 0, 0)) (by decide +kernel) (acmpF (c := .lt) (by show _ ≤ _; omega)) ?_
    refine y_ic (c := (-1)) (len := 1) (r := (0, 0, 0, 0)) (by decide +kernel) (by decide) (fun y4 hy4 => ?_)
    refine y_goto (off := 9) (pc' := 18) (len := 3) (r := (0, 0, 0, 0)) (by decide +kernel) (by decide +kernel) ?_
    refine y_rI (len := 1) (r := (0, 0, 0, 0)) (nL := 2) (k := 1) (n9 := 2) (hs := []) (by decide +kernel) rfl rfl ?_
    refine ⟨rfl, ?_⟩
    rw [bt_ge (by omega)]
    omega
theorem hr_l {t n : Nat} {b : Nat → Int} : ∀ (f : Nat) (τ : List Nat) (h : zh), hG τ h → ∀ a : Nat, rdM h n a b → a ≤ n → n ≤ a + f → qX 2 171 0 [some (.inl (some 52))] [] h t (rI (fun y h1 => ∃ τ1, oF (fun k j => k ≠ 52 ∨ j ≠ 4) τ h τ1 h1 ∧ y.toInt = bt b n (sk b n a) ∧ rdM h1 n (sk b n a) b) t) := by
  intro f
  induction f with
  | zero =>
    intro τ h hg a rd han hf
    obtain ⟨⟨xn, hn, en⟩, ⟨xa, ha, ea⟩, hb, hn2⟩ := id rd
    refine y_same (i := .aload_n 0) (len := 1) (r := (0, 0, 0, 0)) (pc' := 1) (ls' := [some (.inl (some 52))]) (st' := [.inl (some 52)]) (by decide +kernel) (fun k q => by cases q) rfl ?_
    refine y_same (i := .aload_n 0) (len := 1) (r := (0, 0, 0, 0)) (pc' := 2) (ls' := [some (.inl (some 52))]) (st' := [.inl (some 52), .inl (some 52)]) (by decide +kernel) (fun k q => by cases q) rfl ?_
    refine y_get (j := 101) (len := 3) (r := (12, 4, 0, 1332)) (by decide +kernel) hg (t52 hg) at52 rfl rfl ha ?_
    refine y_cI (i := .invokevirtual 104) (len := 3) (r := (0, 170, 12, 1510)) (nL := 2) (k := 1) (n := 2) (hs := []) (args := [.inl (some 52), zi xa]) (rest := []) (l0 := [some (.inl (some 52)), some (zi xa)]) (by decide +kernel) (Or.inr (Or.inl ⟨_, rfl⟩)) rfl rfl rfl rfl (Nat.le_of_ble_eq_true rfl) (z52 hg) rfl (qI_le (by decide) (m_byte (d := 0) (k := a) hg rd (by omega))) (fun y5 qy5 hRy5 => ?_)
    obtain ⟨rfl, hy5⟩ := hRy5
    have B1 : a < n → bt b n a = b a := fun q => bt_lt q
    have B2 : n ≤ a → bt b n a = -1 := fun q => bt_ge q
    refine y_bi (c := 32) (len := 2) (r := (0, 0, 0, 0)) (by decide +kernel) (by decide) (fun y6 hy6 => ?_)
    refine y_cT (c := .ne) (off := 16) (pc' := 26) (len := 3) (r := (0, 0, 0, 0)) (by decide +kernel) (acmpT (c := .ne) (by show ¬ (_ = _); omega)) (by decide +kernel) ?_
    refine y_same (i := .aload_n 0) (len := 1) (r := (0, 0, 0, 0)) (pc' := 27) (ls' := [some (.inl (some 52))]) (st' := [.inl (some 52)]) (by decide +kernel) (fun k q => by cases q) rfl ?_
    refine y_same (i := .aload_n 0) (len := 1) (r := (0, 0, 0, 0)) (pc' := 28) (ls' := [some (.inl (some 52))]) (st' := [.inl (some 52), .inl (some 52)]) (by decide +kernel) (fun k q => by cases q) rfl ?_
    refine y_get (j := 101) (len := 3) (r := (12, 4, 0, 1332)) (by decide +kernel) hg (t52 hg) at52 rfl rfl ha ?_
    refine y_cI (i := .invokevirtual 104) (len := 3) (r := (0, 170, 12, 1510)) (nL := 2) (k := 1) (n := 2) (hs := []) (args := [.inl (some 52), zi xa]) (rest := []) (l0 := [some (.inl (some 52)), some (zi xa)]) (by decide +kernel) (Or.inr (Or.inl ⟨_, rfl⟩)) rfl rfl rfl rfl (Nat.le_of_ble_eq_true rfl) (z52 hg) rfl (qI_le (by decide) (m_byte (d := 0) (k := a) hg rd (by omega))) (fun y7 qy7 hRy7 => ?_)
    obtain ⟨rfl, hy7⟩ := hRy7
    refine y_rI (len := 1) (r := (0, 0, 0, 0)) (nL := 1) (k := 1) (n9 := 1) (hs := []) (by decide +kernel) rfl rfl ?_
    have es : sk b n a = a := sk_stop (by rcases Nat.lt_or_ge a n with g9 | g9 <;> omega)
    refine ⟨τ, oF_refl hg, ?_⟩
    rw [es]
    exact ⟨by omega, rd⟩
  | succ f ih =>
    intro τ h hg a rd han hf
    obtain ⟨⟨xn, hn, en⟩, ⟨xa, ha, ea⟩, hb, hn2⟩ := id rd
    refine y_same (i := .aload_n 0) (len := 1) (r := (0, 0, 0, 0)) (pc' := 1) (ls' := [some (.inl (some 52))]) (st' := [.inl (some 52)]) (by decide +kernel) (fun k q => by cases q) rfl ?_
    refine y_same (i := .aload_n 0) (len := 1) (r := (0, 0, 0, 0)) (pc' := 2) (ls' := [some (.inl (some 52))]) (st' := [.inl (some 52), .inl (some 52)]) (by decide +kernel) (fun k q => by cases q) rfl ?_
    refine y_get (j := 101) (len := 3) (r := (12, 4, 0, 1332)) (by decide +kernel) hg (t52 hg) at52 rfl rfl ha ?_
    refine y_cI (i := .invokevirtual 104) (len := 3) (r := (0, 170, 12, 1510)) (nL := 2) (k := 1) (n := 2) (hs := []) (args := [.inl (some 52), zi xa]) (rest := []) (l0 := [some (.inl (some 52)), some (zi xa)]) (by decide +kernel) (Or.inr (Or.inl ⟨_, rfl⟩)) rfl rfl rfl rfl (Nat.le_of_ble_eq_true rfl) (z52 hg) rfl (qI_le (by decide) (m_byte (d := 0) (k := a) hg rd (by omega))) (fun y8 qy8 hRy8 => ?_)
    obtain ⟨rfl, hy8⟩ := hRy8
    have B1 : a < n → bt b n a = b a := fun q => bt_lt q
    have B2 : n ≤ a → bt b n a = -1 := fun q => bt_ge q
    refine y_bi (c := 32) (len := 2) (r := (0, 0, 0, 0)) (by decide +kernel) (by decide) (fun y9 hy9 => ?_)
    rcases Decidable.em (y8.toInt ≠ y9.toInt) with q10 | q10
    ·
      refine y_cT (c := .ne) (off := 16) (pc' := 26) (len := 3) (r := (0, 0, 0, 0)) (by decide +kernel) (acmpT (c := .ne) (by show ¬ (_ = _); omega)) (by decide +kernel) ?_
      refine y_same (i := .aload_n 0) (len := 1) (r := (0, 0, 0, 0)) (pc' := 27) (ls' := [some (.inl (some 52))]) (st' := [.inl (some 52)]) (by decide +kernel) (fun k q => by cases q) rfl ?_
      refine y_same (i := .aload_n 0) (len := 1) (r := (0, 0, 0, 0)) (pc' := 28) (ls' := [some (.inl (some 52))]) (st' := [.inl (some 52), .inl (some 52)]) (by decide +kernel) (fun k q => by cases q) rfl ?_
      refine y_get (j := 101) (len := 3) (r := (12, 4, 0, 1332)) (by decide +kernel) hg (t52 hg) at52 rfl rfl ha ?_
      refine y_cI (i := .invokevirtual 104) (len := 3) (r := (0, 170, 12, 1510)) (nL := 2) (k := 1) (n := 2) (hs := []) (args := [.inl (some 52), zi xa]) (rest := []) (l0 := [some (.inl (some 52)), some (zi xa)]) (by decide +kernel) (Or.inr (Or.inl ⟨_, rfl⟩)) rfl rfl rfl rfl (Nat.le_of_ble_eq_true rfl) (z52 hg) rfl (qI_le (by decide) (m_byte (d := 0) (k := a) hg rd (by omega))) (fun y11 qy11 hRy11 => ?_)
      obtain ⟨rfl, hy11⟩ := hRy11
      refine y_rI (len := 1) (r := (0, 0, 0, 0)) (nL := 1) (k := 1) (n9 := 1) (hs := []) (by decide +kernel) rfl rfl ?_
      have es : sk b n a = a := sk_stop (by rcases Nat.lt_or_ge a n with g9 | g9 <;> omega)
      refine ⟨τ, oF_refl hg, ?_⟩
      rw [es]
      exact ⟨by omega, rd⟩
    ·
      refine y_cF (c := .ne) (off := 16) (len := 3) (r := (0, 0, 0, 0)) (by decide +kernel) (acmpF (c := .ne) (by show _ = _; omega)) ?_
      refine y_same (i := .aload_n 0) (len := 1) (r := (0, 0, 0, 0)) (pc' := 14) (ls' := [some (.inl (some 52))]) (st' := [.inl (some 52)]) (by decide +kernel) (fun k q => by cases q) rfl ?_
      refine y_same (i := .dup) (len := 1) (r := (0, 0, 0, 0)) (pc' := 15) (ls' := [some (.inl (some 52))]) (st' := [.inl (some 52), .inl (some 52)]) (by decide +kernel) (fun k q => by cases q) rfl ?_
      refine y_get (j := 101) (len := 3) (r := (12, 4, 0, 1332)) (by decide +kernel) hg (t52 hg) at52 rfl rfl ha ?_
      refine y_ic (c := 1) (len := 1) (r := (0, 0, 0, 0)) (by decide +kernel) (by decide) (fun y12 hy12 => ?_)
      refine y_add (len := 1) (r := (0, 0, 0, 0)) (by decide +kernel) (by omega) (by omega) (fun y13 hy13 => ?_)
      refine y_put (j := 101) (lo := 0) (hi := 200) (len := 3) (r := (12, 4, 0, 1332)) (by decide +kernel) hg (t52 hg) at52 rfl rfl (by decide) rfl (by omega) (by omega) rfl (fun h14 hg14 hl14 hs14 ho14 => ?_)
      have ho14 : hO 52 4 h h14 := ho14
      have hs14 : hsl h14 52 4 = some (zi y13) := hs14
      refine y_goto (off := (-23)) (pc' := 0) (len := 3) (r := (0, 0, 0, 0)) (by decide +kernel) (by decide +kernel) ?_
      have F : oF (fun k j => k ≠ 52 ∨ j ≠ 4) τ h τ h14 := ⟨(aup_refl _), hg14, fun k T j hk (hC : k ≠ 52 ∨ j ≠ 4) => (ho14 k j (by omega))⟩
      refine qX_I (ih τ h14 hg14 (a + 1) (rdM_up rd (ho14 52 3 (Or.inr (by omega))) (fun j => (ho14 54 j (Or.inl (by omega)))) ⟨_, hs14, by omega⟩) (by omega) (by omega)) (fun y h1 hR1 => ?_)
      obtain ⟨τ1, O1, y1, r1⟩ := hR1
      refine ⟨τ1, oF_trans F O1, ?_⟩
      rw [sk_hit (by omega) (by omega)]
      exact ⟨y1, r1⟩
theorem m_here {t n a : Nat} {b : Nat → Int} {τ : List Nat} {h : zh} (hg : hG τ h) (rd : rdM h n a b) (han : a ≤ n) : qI 3 171 [some (.inl (some 52))] h t (fun y h1 => ∃ τ1, oF (fun k j => k ≠ 52 ∨ j ≠ 4) τ h τ1 h1 ∧ y.toInt = bt b n (sk b n a) ∧ rdM h1 n (sk b n a) b) := qI_of (hr_l n τ h hg a rd han (by omega))
theorem m_fine {d t : Nat} {r w : Int} {τ : List Nat} {h : zh} (hg : hG τ h) (ft : ftM h r w) : qI (d + 1) 172 [some (.inl (some 52))] h t (fun y h1 => h = h1 ∧ (r = 0 → y.toInt = 1) ∧ (r ≠ 0 → y.toInt = 0)) := by
  obtain ⟨⟨xf, hf6, ef⟩, xw, hw7, ew7⟩ := id ft
  refine qI_of ?_
  refine y_same (i := .aload_n 0) (len := 1) (r := (0, 0, 0, 0)) (pc' := 1) (ls' := [some (.inl (some 52))]) (st' := [.inl (some 52)]) (by decide +kernel) (fun k q => by cases q) rfl ?_
  refine y_get (j := 108) (len := 3) (r := (12, 6, 0, 1334)) (by decide +kernel) hg (t52 hg) at52 rfl rfl hf6 ?_
  rcases Decidable.em (xf.toInt ≠ 0) with q15 | q15
  ·
    refine y_iT (c := .ne) (off := 7) (pc' := 11) (len := 3) (r := (0, 0, 0, 0)) (by decide +kernel) (acmpT (c := .ne) (by show ¬ (_ = _); omega)) (by decide +kernel) ?_
    refine y_ic (c := 0) (len := 1) (r := (0, 0, 0, 0)) (by decide +kernel) (by decide) (fun y16 hy16 => ?_)
    refine y_rI (len := 1) (r := (0, 0, 0, 0)) (nL := 1) (k := 2) (n9 := 1) (hs := []) (by decide +kernel) rfl (zfit_b (by omega) (by omega)).2 ?_
    exact ⟨rfl, by omega, by omega⟩
  ·
    refine y_iF (c := .ne) (off := 7) (len := 3) (r := (0, 0, 0, 0)) (by decide +kernel) (acmpF (c := .ne) (by show _ = _; omega)) ?_
    refine y_ic (c := 1) (len := 1) (r := (0, 0, 0, 0)) (by decide +kernel) (by decide) (fun y17 hy17 => ?_)
    refine y_goto (off := 4) (pc' := 12) (len := 3) (r := (0, 0, 0, 0)) (by decide +kernel) (by decide +kernel) ?_
    refine y_rI (len := 1) (r := (0, 0, 0, 0)) (nL := 1) (k := 2) (n9 := 1) (hs := []) (by decide +kernel) rfl (zfit_b (by omega) (by omega)).2 ?_
    exact ⟨rfl, by omega, by omega⟩
theorem m_small {d t : Nat} {h : zh} {x : Int32} : qI (d + 1) 174 [some (zi x)] h t (fun y h1 => h = h1 ∧ ((97 ≤ x.toInt ∧ x.toInt ≤ 122) → y.toInt = 1) ∧ (¬ (97 ≤ x.toInt ∧ x.toInt ≤ 122) → y.toInt = 0)) := by
  refine qI_of ?_
  refine y_same (i := .iload_n 0) (len := 1) (r := (0, 0, 0, 0)) (pc' := 1) (ls' := [some (zi x)]) (st' := [zi x]) (by decide +kernel) (fun k q => by cases q) rfl ?_
  refine y_bi (c := 97) (len := 2) (r := (0, 0, 0, 0)) (by decide +kernel) (by decide) (fun y18 hy18 => ?_)
  rcases Decidable.em (x.toInt < y18.toInt) with q19 | q19
  ·
    refine y_cT (c := .lt) (off := 13) (pc' := 16) (len := 3) (r := (0, 0, 0, 0)) (by decide +kernel) (acmpT (c := .lt) (by show _ < _; omega)) (by decide +kernel) ?_
    refine y_ic (c := 0) (len := 1) (r := (0, 0, 0, 0)) (by decide +kernel) (by decide) (fun y20 hy20 => ?_)
    refine y_rI (len := 1) (r := (0, 0, 0, 0)) (nL := 1) (k := 2) (n9 := 1) (hs := []) (by decide +kernel) rfl (zfit_b (by omega) (by omega)).2 ?_
    exact ⟨rfl, by omega, by omega⟩
  ·
    refine y_cF (c := .lt) (off := 13) (len := 3) (r := (0, 0, 0, 0)) (by decide +kernel) (acmpF (c := .lt) (by show _ ≤ _; omega)) ?_
    refine y_same (i := .iload_n 0) (len := 1) (r := (0, 0, 0, 0)) (pc' := 7) (ls' := [some (zi x)]) (st' := [zi x]) (by decide +kernel) (fun k q => by cases q) rfl ?_
    refine y_bi (c := 122) (len := 2) (r := (0, 0, 0, 0)) (by decide +kernel) (by decide) (fun y21 hy21 => ?_)
    rcases Decidable.em (x.toInt > y21.toInt) with q22 | q22
    ·
      refine y_cT (c := .gt) (off := 7) (pc' := 16) (len := 3) (r := (0, 0, 0, 0)) (by decide +kernel) (acmpT (c := .gt) (by show _ < _; omega)) (by decide +kernel) ?_
      refine y_ic (c := 0) (len := 1) (r := (0, 0, 0, 0)) (by decide +kernel) (by decide) (fun y23 hy23 => ?_)
      refine y_rI (len := 1) (r := (0, 0, 0, 0)) (nL := 1) (k := 2) (n9 := 1) (hs := []) (by decide +kernel) rfl (zfit_b (by omega) (by omega)).2 ?_
      exact ⟨rfl, by omega, by omega⟩
    ·
      refine y_cF (c := .gt) (off := 7) (len := 3) (r := (0, 0, 0, 0)) (by decide +kernel) (acmpF (c := .gt) (by show _ ≤ _; omega)) ?_
      refine y_ic (c := 1) (len := 1) (r := (0, 0, 0, 0)) (by decide +kernel) (by decide) (fun y24 hy24 => ?_)
      refine y_goto (off := 4) (pc' := 17) (len := 3) (r := (0, 0, 0, 0)) (by decide +kernel) (by decide +kernel) ?_
      refine y_rI (len := 1) (r := (0, 0, 0, 0)) (nL := 1) (k := 2) (n9 := 1) (hs := []) (by decide +kernel) rfl (zfit_b (by omega) (by omega)).2 ?_
      exact ⟨rfl, by omega, by omega⟩
theorem m_wrong {d t q : Nat} {r w : Int} {τ : List Nat} {h : zh} {xr xp : Int32} (hg : hG τ h) (ft : ftM h 0 w) (hr : xr.toInt = r) (hr1 : 1 ≤ r) (hr2 : r ≤ 2) (hp : xp.toInt = (q : Int)) : qV (d + 1) 173 [some (.inl (some 52)), some (zi xr), some (zi xp)] h t (fun h1 => ∃ τ1, oF (fun k j => k ≠ 52 ∨ (j ≠ 6 ∧ j ≠ 7)) τ h τ1 h1 ∧ ftM h1 r q) := by
  obtain ⟨⟨xf, hf6, ef⟩, xw, hw7, ew7⟩ := id ft
  refine qV_of ?_
  refine y_same (i := .aload_n 0) (len := 1) (r := (0, 0, 0, 0)) (pc' := 1) (ls' := [some (.inl (some 52)), some (zi xr), some (zi xp)]) (st' := [.inl (some 52)]) (by decide +kernel) (fun k q => by cases q) rfl ?_
  refine y_get (j := 108) (len := 3) (r := (12, 6, 0, 1334)) (by decide +kernel) hg (t52 hg) at52 rfl rfl hf6 ?_
  refine y_iF (c := .ne) (off := 13) (len := 3) (r := (0, 0, 0, 0)) (by decide +kernel) (acmpF (c := .ne) (by show _ = _; omega)) ?_
  refine y_same (i := .aload_n 0) (len := 1) (r := (0, 0, 0, 0)) (pc' := 8) (ls' := [some (.inl (some 52)), some (zi xr), some (zi xp)]) (st' := [.inl (some 52)]) (by decide +kernel) (fun k q => by cases q) rfl ?_
  refine y_same (i := .iload_n 1) (len := 1) (r := (0, 0, 0, 0)) (pc' := 9) (ls' := [some (.inl (some 52)), some (zi xr), some (zi xp)]) (st' := [zi xr, .inl (some 52)]) (by decide +kernel) (fun k q => by cases q) rfl ?_
  refine y_put (j := 108) (lo := 0) (hi := 2) (len := 3) (r := (12, 6, 0, 1334)) (by decide +kernel) hg (t52 hg) at52 rfl rfl (by decide) rfl (by omega) (by omega) rfl (fun h25 hg25 hl25 hs25 ho25 => ?_)
  have ho25 : hO 52 6 h h25 := ho25
  have hs25 : hsl h25 52 6 = some (zi xr) := hs25
  refine y_same (i := .aload_n 0) (len := 1) (r := (0, 0, 0, 0)) (pc' := 13) (ls' := [some (.inl (some 52)), some (zi xr), some (zi xp)]) (st' := [.inl (some 52)]) (by decide +kernel) (fun k q => by cases q) rfl ?_
  refine y_same (i := .iload_n 2) (len := 1) (r := (0, 0, 0, 0)) (pc' := 14) (ls' := [some (.inl (some 52)), some (zi xr), some (zi xp)]) (st' := [zi xp, .inl (some 52)]) (by decide +kernel) (fun k q => by cases q) rfl ?_
  refine y_put (j := 111) (lo := (-2147483648)) (hi := 2147483647) (len := 3) (r := (12, 7, 0, 1335)) (by decide +kernel) hg25 (t52 hg25) at52 rfl rfl (by decide) rfl (qin_full _).1 (qin_full _).2 rfl (fun h26 hg26 hl26 hs26 ho26 => ?_)
  have ho26 : hO 52 7 h25 h26 := ho26
  have hs26 : hsl h26 52 7 = some (zi xp) := hs26
  refine y_rV (len := 1) (r := (0, 0, 0, 0)) (nL := 3) (n9 := 3) (hs := []) (by decide +kernel) rfl ?_
  have hv27 := (ho26 52 6 (Or.inr (by omega))).trans hs25
  exact ⟨_, ⟨(aup_refl _), hg26, fun k T j hk (hC : k ≠ 52 ∨ (j ≠ 6 ∧ j ≠ 7)) => ((ho26 k j (by omega)).trans (ho25 k j (by omega)))⟩, ⟨_, hv27, by omega⟩, ⟨_, hs26, by omega⟩⟩
theorem m_pass11 {t n a : Nat} {b : Nat → Int} {τ : List Nat} {h : zh} (hg : hG τ h) (rd : rdM h n a b) (han : a ≤ n) (ft : ftM h 0 (-1)) : qI 8 175 [some (.inl (some 52)), some (.inl (some 2000011)), none] h t (fun y h1 => ∃ τ1, oF (fun k j => k ≠ 52 ∨ j ≠ 4) τ h τ1 h1 ∧ ((∃ a', wrd b n wEmp a = some a' ∧ a' ≤ n ∧ y.toInt = 1 ∧ rdM h1 n a' b) ∨ (wrd b n wEmp a = none ∧ y.toInt = 0 ∧ rdM h1 n (sk b n a) b))) := by
  obtain ⟨⟨xn, hn, en⟩, ⟨xa, ha, ea⟩, hb, hn2⟩ := id rd
  obtain ⟨⟨xf, hf6, ef⟩, xw, hw7, ew7⟩ := id ft
  refine qI_of ?_
  refine y_same (i := .aload_n 0) (len := 1) (r := (0, 0, 0, 0)) (pc' := 1) (ls' := [some (.inl (some 52)), some (.inl (some 2000011)), none]) (st' := [.inl (some 52)]) (by decide +kernel) (fun k q => by cases q) rfl ?_
  refine y_cI (i := .invokevirtual 114) (len := 3) (r := (0, 172, 12, 1502)) (nL := 1) (k := 2) (n := 1) (hs := []) (args := [.inl (some 52)]) (rest := []) (l0 := [some (.inl (some 52))]) (by decide +kernel) (Or.inr (Or.inl ⟨_, rfl⟩)) rfl rfl rfl rfl (Nat.le_of_ble_eq_true rfl) (z52 hg) rfl (qI_le (by decide) (m_fine (d := 0) hg ft)) (fun y28 qy28 hRy28 => ?_)
  obtain ⟨rfl, gy28, by28⟩ := hRy28
  have hy28 : y28.toInt = 1 := gy28 rfl
  refine y_iT (c := .ne) (off := 5) (pc' := 9) (len := 3) (r := (0, 0, 0, 0)) (by decide +kernel) (acmpT (c := .ne) (by show ¬ (_ = _); omega)) (by decide +kernel) ?_
  refine y_same (i := .aload_n 0) (len := 1) (r := (0, 0, 0, 0)) (pc' := 10) (ls' := [some (.inl (some 52)), some (.inl (some 2000011)), none]) (st' := [.inl (some 52)]) (by decide +kernel) (fun k q => by cases q) rfl ?_
  refine y_cI (i := .invokevirtual 118) (len := 3) (r := (0, 171, 12, 1506)) (nL := 1) (k := 1) (n := 1) (hs := []) (args := [.inl (some 52)]) (rest := []) (l0 := [some (.inl (some 52))]) (by decide +kernel) (Or.inr (Or.inl ⟨_, rfl⟩)) rfl rfl rfl rfl (Nat.le_of_ble_eq_true rfl) (z52 hg) rfl (qI_le (by decide) (m_here hg rd (by omega))) (fun y29 h29 hRy29 => ?_)
  obtain ⟨τ29, O29, hy29, rd29⟩ := hRy29
  have sl29 := sk_le (b := b) (n := n) (a := a) (by omega)
  obtain ⟨⟨xn29, hn29, en29⟩, ⟨xa29, ha29, ea29⟩, hb29, -⟩ := id rd29
  refine y_same (i := .pop) (len := 1) (r := (0, 0, 0, 0)) (pc' := 14) (ls' := [some (.inl (some 52)), some (.inl (some 2000011)), none]) (st' := []) (by decide +kernel) (fun k q => by cases q) rfl ?_
  refine y_ic (c := 0) (len := 1) (r := (0, 0, 0, 0)) (by decide +kernel) (by decide) (fun y30 hy30 => ?_)
  refine y_same (i := .istore_n 2) (len := 1) (r := (0, 0, 0, 0)) (pc' := 16) (ls' := [some (.inl (some 52)), some (.inl (some 2000011)), some (zi y30)]) (st' := []) (by decide +kernel) (fun k q => by cases q) rfl ?_
  refine y_same (i := .iload_n 2) (len := 1) (r := (0, 0, 0, 0)) (pc' := 17) (ls' := [some (.inl (some 52)), some (.inl (some 2000011)), some (zi y30)]) (st' := [zi y30]) (by decide +kernel) (fun k q => by cases q) rfl ?_
  refine y_same (i := .aload_n 1) (len := 1) (r := (0, 0, 0, 0)) (pc' := 18) (ls' := [some (.inl (some 52)), some (.inl (some 2000011)), some (zi y30)]) (st' := [.inl (some 2000011), zi y30]) (by decide +kernel) (fun k q => by cases q) rfl ?_
  refine y_cI (i := .invokevirtual 122) (len := 3) (r := (0, 268, 50, 1514)) (nL := 1) (k := 1) (n := 1) (hs := []) (args := [.inl (some 2000011)]) (rest := [zi y30]) (l0 := [some (.inl (some 2000011))]) (by decide +kernel) (Or.inr (Or.inl ⟨_, rfl⟩)) rfl rfl rfl rfl (Nat.le_of_ble_eq_true rfl) rfl rfl (qI_le (by decide) tln11) (fun y31 qy31 hRy31 => ?_)
  obtain ⟨rfl, hy31⟩ := hRy31
  refine y_cF (c := .ge) (off := 27) (len := 3) (r := (0, 0, 0, 0)) (by decide +kernel) (acmpF (c := .ge) (by show _ < _; omega)) ?_
  refine y_same (i := .aload_n 0) (len := 1) (r := (0, 0, 0, 0)) (pc' := 25) (ls' := [some (.inl (some 52)), some (.inl (some 2000011)), some (zi y30)]) (st' := [.inl (some 52)]) (by decide +kernel) (fun k q => by cases q) rfl ?_
  refine y_same (i := .aload_n 0) (len := 1) (r := (0, 0, 0, 0)) (pc' := 26) (ls' := [some (.inl (some 52)), some (.inl (some 2000011)), some (zi y30)]) (st' := [.inl (some 52), .inl (some 52)]) (by decide +kernel) (fun k q => by cases q) rfl ?_
  refine y_get (j := 101) (len := 3) (r := (12, 4, 0, 1332)) (by decide +kernel) O29.2.1 (t52 O29.2.1) at52 rfl rfl ha29 ?_
  refine y_same (i := .iload_n 2) (len := 1) (r := (0, 0, 0, 0)) (pc' := 30) (ls' := [some (.inl (some 52)), some (.inl (some 2000011)), some (zi y30)]) (st' := [zi y30, zi xa29, .inl (some 52)]) (by decide +kernel) (fun k q => by cases q) rfl ?_
  refine y_add (len := 1) (r := (0, 0, 0, 0)) (by decide +kernel) (by omega) (by omega) (fun y32 hy32 => ?_)
  refine y_cI (i := .invokevirtual 104) (len := 3) (r := (0, 170, 12, 1510)) (nL := 2) (k := 1) (n := 2) (hs := []) (args := [.inl (some 52), zi y32]) (rest := []) (l0 := [some (.inl (some 52)), some (zi y32)]) (by decide +kernel) (Or.inr (Or.inl ⟨_, rfl⟩)) rfl rfl rfl rfl (Nat.le_of_ble_eq_true rfl) (z52 O29.2.1) rfl (qI_le (by decide) (m_byte (d := 0) (k := (sk b n a)) O29.2.1 rd29 (by omega))) (fun y33 qy33 hRy33 => ?_)
  obtain ⟨rfl, hy33⟩ := hRy33
  refine y_same (i := .aload_n 1) (len := 1) (r := (0, 0, 0, 0)) (pc' := 35) (ls' := [some (.inl (some 52)), some (.inl (some 2000011)), some (zi y30)]) (st' := [.inl (some 2000011), zi y33]) (by decide +kernel) (fun k q => by cases q) rfl ?_
  refine y_same (i := .iload_n 2) (len := 1) (r := (0, 0, 0, 0)) (pc' := 36) (ls' := [some (.inl (some 52)), some (.inl (some 2000011)), some (zi y30)]) (st' := [zi y30, .inl (some 2000011), zi y33]) (by decide +kernel) (fun k q => by cases q) rfl ?_
  refine y_cI (i := .invokevirtual 127) (len := 3) (r := (0, 269, 50, 1515)) (nL := 2) (k := 5) (n := 2) (hs := []) (args := [.inl (some 2000011), zi y30]) (rest := [zi y33]) (l0 := [some (.inl (some 2000011)), some (zi y30)]) (by decide +kernel) (Or.inr (Or.inl ⟨_, rfl⟩)) rfl rfl rfl rfl (Nat.le_of_ble_eq_true rfl) rfl rfl (qI_le (by decide) (tch11_0 (by omega))) (fun y34 qy34 hRy34 => ?_)
  obtain ⟨rfl, hy34⟩ := hRy34
  rcases Decidable.em (y33.toInt ≠ y34.toInt) with q35 | q35
  ·
    refine y_cT (c := .ne) (off := 9) (pc' := 48) (len := 3) (r := (0, 0, 0, 0)) (by decide +kernel) (acmpT (c := .ne) (by show ¬ (_ = _); omega)) (by decide +kernel) ?_
    refine y_same (i := .iload_n 2) (len := 1) (r := (0, 0, 0, 0)) (pc' := 49) (ls' := [some (.inl (some 52)), some (.inl (some 2000011)), some (zi y30)]) (st' := [zi y30]) (by decide +kernel) (fun k q => by cases q) rfl ?_
    refine y_same (i := .aload_n 1) (len := 1) (r := (0, 0, 0, 0)) (pc' := 50) (ls' := [some (.inl (some 52)), some (.inl (some 2000011)), some (zi y30)]) (st' := [.inl (some 2000011), zi y30]) (by decide +kernel) (fun k q => by cases q) rfl ?_
    refine y_cI (i := .invokevirtual 122) (len := 3) (r := (0, 268, 50, 1514)) (nL := 1) (k := 1) (n := 1) (hs := []) (args := [.inl (some 2000011)]) (rest := [zi y30]) (l0 := [some (.inl (some 2000011))]) (by decide +kernel) (Or.inr (Or.inl ⟨_, rfl⟩)) rfl rfl rfl rfl (Nat.le_of_ble_eq_true rfl) rfl rfl (qI_le (by decide) tln11) (fun y36 qy36 hRy36 => ?_)
    obtain ⟨rfl, hy36⟩ := hRy36
    refine y_cT (c := .lt) (off := 30) (pc' := 83) (len := 3) (r := (0, 0, 0, 0)) (by decide +kernel) (acmpT (c := .lt) (by show _ < _; omega)) (by decide +kernel) ?_
    refine y_ic (c := 0) (len := 1) (r := (0, 0, 0, 0)) (by decide +kernel) (by decide) (fun y37 hy37 => ?_)
    refine y_rI (len := 1) (r := (0, 0, 0, 0)) (nL := 3) (k := 2) (n9 := 2) (hs := []) (by decide +kernel) rfl (zfit_b (by omega) (by omega)).2 ?_
    exact ⟨_, ⟨O29.1, O29.2.1, fun k T j hk (hC : k ≠ 52 ∨ j ≠ 4) => (O29.2.2 k T j hk (show k ≠ 52 ∨ j ≠ 4 by omega))⟩, Or.inr ⟨wrd_n1 (mt_n (by omega)), by omega, rd29⟩⟩
  ·
    refine y_cF (c := .ne) (off := 9) (len := 3) (r := (0, 0, 0, 0)) (by decide +kernel) (acmpF (c := .ne) (by show _ = _; omega)) ?_
    have m0 : bt b n (sk b n a) = 101 := by omega
    refine y_inc (j := 2) (a := y30) (c := 1) (ls' := fun v => [some (.inl (some 52)), some (.inl (some 2000011)), some v]) (len := 3) (r := (0, 0, 0, 0)) (by decide +kernel) rfl (fun _ => rfl) (by decide) (by omega) (by omega) (fun y38 hy38 => ?_)
    show qX 7 175 45 [some (.inl (some 52)), some (.inl (some 2000011)), some (zi y38)] [] h29 t _
    refine y_goto (off := (-29)) (pc' := 16) (len := 3) (r := (0, 0, 0, 0)) (by decide +kernel) (by decide +kernel) ?_
    refine y_same (i := .iload_n 2) (len := 1) (r := (0, 0, 0, 0)) (pc' := 17) (ls' := [some (.inl (some 52)), some (.inl (some 2000011)), some (zi y38)]) (st' := [zi y38]) (by decide +kernel) (fun k q => by cases q) rfl ?_
    refine y_same (i := .aload_n 1) (len := 1) (r := (0, 0, 0, 0)) (pc' := 18) (ls' := [some (.inl (some 52)), some (.inl (some 2000011)), some (zi y38)]) (st' := [.inl (some 2000011), zi y38]) (by decide +kernel) (fun k q => by cases q) rfl ?_
    refine y_cI (i := .invokevirtual 122) (len := 3) (r := (0, 268, 50, 1514)) (nL := 1) (k := 1) (n := 1) (hs := []) (args := [.inl (some 2000011)]) (rest := [zi y38]) (l0 := [some (.inl (some 2000011))]) (by decide +kernel) (Or.inr (Or.inl ⟨_, rfl⟩)) rfl rfl rfl rfl (Nat.le_of_ble_eq_true rfl) rfl rfl (qI_le (by decide) tln11) (fun y39 qy39 hRy39 => ?_)
    obtain ⟨rfl, hy39⟩ := hRy39
    refine y_cF (c := .ge) (off := 27) (len := 3) (r := (0, 0, 0, 0)) (by decide +kernel) (acmpF (c := .ge) (by show _ < _; omega)) ?_
    refine y_same (i := .aload_n 0) (len := 1) (r := (0, 0, 0, 0)) (pc' := 25) (ls' := [some (.inl (some 52)), some (.inl (some 2000011)), some (zi y38)]) (st' := [.inl (some 52)]) (by decide +kernel) (fun k q => by cases q) rfl ?_
    refine y_same (i := .aload_n 0) (len := 1) (r := (0, 0, 0, 0)) (pc' := 26) (ls' := [some (.inl (some 52)), some (.inl (some 2000011)), some (zi y38)]) (st' := [.inl (some 52), .inl (some 52)]) (by decide +kernel) (fun k q => by cases q) rfl ?_
    refine y_get (j := 101) (len := 3) (r := (12, 4, 0, 1332)) (by decide +kernel) O29.2.1 (t52 O29.2.1) at52 rfl rfl ha29 ?_
    refine y_same (i := .iload_n 2) (len := 1) (r := (0, 0, 0, 0)) (pc' := 30) (ls' := [some (.inl (some 52)), some (.inl (some 2000011)), some (zi y38)]) (st' := [zi y38, zi xa29, .inl (some 52)]) (by decide +kernel) (fun k q => by cases q) rfl ?_
    refine y_add (len := 1) (r := (0, 0, 0, 0)) (by decide +kernel) (by omega) (by omega) (fun y40 hy40 => ?_)
    refine y_cI (i := .invokevirtual 104) (len := 3) (r := (0, 170, 12, 1510)) (nL := 2) (k := 1) (n := 2) (hs := []) (args := [.inl (some 52), zi y40]) (rest := []) (l0 := [some (.inl (some 52)), some (zi y40)]) (by decide +kernel) (Or.inr (Or.inl ⟨_, rfl⟩)) rfl rfl rfl rfl (Nat.le_of_ble_eq_true rfl) (z52 O29.2.1) rfl (qI_le (by decide) (m_byte (d := 0) (k := (sk b n a + 1)) O29.2.1 rd29 (by omega))) (fun y41 qy41 hRy41 => ?_)
    obtain ⟨rfl, hy41⟩ := hRy41
    refine y_same (i := .aload_n 1) (len := 1) (r := (0, 0, 0, 0)) (pc' := 35) (ls' := [some (.inl (some 52)), some (.inl (some 2000011)), some (zi y38)]) (st' := [.inl (some 2000011), zi y41]) (by decide +kernel) (fun k q => by cases q) rfl ?_
    refine y_same (i := .iload_n 2) (len := 1) (r := (0, 0, 0, 0)) (pc' := 36) (ls' := [some (.inl (some 52)), some (.inl (some 2000011)), some (zi y38)]) (st' := [zi y38, .inl (some 2000011), zi y41]) (by decide +kernel) (fun k q => by cases q) rfl ?_
    refine y_cI (i := .invokevirtual 127) (len := 3) (r := (0, 269, 50, 1515)) (nL := 2) (k := 5) (n := 2) (hs := []) (args := [.inl (some 2000011), zi y38]) (rest := [zi y41]) (l0 := [some (.inl (some 2000011)), some (zi y38)]) (by decide +kernel) (Or.inr (Or.inl ⟨_, rfl⟩)) rfl rfl rfl rfl (Nat.le_of_ble_eq_true rfl) rfl rfl (qI_le (by decide) (tch11_1 (by omega))) (fun y42 qy42 hRy42 => ?_)
    obtain ⟨rfl, hy42⟩ := hRy42
    rcases Decidable.em (y41.toInt ≠ y42.toInt) with q43 | q43
    ·
      refine y_cT (c := .ne) (off := 9) (pc' := 48) (len := 3) (r := (0, 0, 0, 0)) (by decide +kernel) (acmpT (c := .ne) (by show ¬ (_ = _); omega)) (by decide +kernel) ?_
      refine y_same (i := .iload_n 2) (len := 1) (r := (0, 0, 0, 0)) (pc' := 49) (ls' := [some (.inl (some 52)), some (.inl (some 2000011)), some (zi y38)]) (st' := [zi y38]) (by decide +kernel) (fun k q => by cases q) rfl ?_
      refine y_same (i := .aload_n 1) (len := 1) (r := (0, 0, 0, 0)) (pc' := 50) (ls' := [some (.inl (some 52)), some (.inl (some 2000011)), some (zi y38)]) (st' := [.inl (some 2000011), zi y38]) (by decide +kernel) (fun k q => by cases q) rfl ?_
      refine y_cI (i := .invokevirtual 122) (len := 3) (r := (0, 268, 50, 1514)) (nL := 1) (k := 1) (n := 1) (hs := []) (args := [.inl (some 2000011)]) (rest := [zi y38]) (l0 := [some (.inl (some 2000011))]) (by decide +kernel) (Or.inr (Or.inl ⟨_, rfl⟩)) rfl rfl rfl rfl (Nat.le_of_ble_eq_true rfl) rfl rfl (qI_le (by decide) tln11) (fun y44 qy44 hRy44 => ?_)
      obtain ⟨rfl, hy44⟩ := hRy44
      refine y_cT (c := .lt) (off := 30) (pc' := 83) (len := 3) (r := (0, 0, 0, 0)) (by decide +kernel) (acmpT (c := .lt) (by show _ < _; omega)) (by decide +kernel) ?_
      refine y_ic (c := 0) (len := 1) (r := (0, 0, 0, 0)) (by decide +kernel) (by decide) (fun y45 hy45 => ?_)
      refine y_rI (len := 1) (r := (0, 0, 0, 0)) (nL := 3) (k := 2) (n9 := 2) (hs := []) (by decide +kernel) rfl (zfit_b (by omega) (by omega)).2 ?_
      exact ⟨_, ⟨O29.1, O29.2.1, fun k T j hk (hC : k ≠ 52 ∨ j ≠ 4) => (O29.2.2 k T j hk (show k ≠ 52 ∨ j ≠ 4 by omega))⟩, Or.inr ⟨wrd_n1 (mt_s (a' := sk b n a + 1) (by omega) (mt_n (by omega))), by omega, rd29⟩⟩
    ·
      refine y_cF (c := .ne) (off := 9) (len := 3) (r := (0, 0, 0, 0)) (by decide +kernel) (acmpF (c := .ne) (by show _ = _; omega)) ?_
      have m1 : bt b n (sk b n a + 1) = 109 := by omega
      refine y_inc (j := 2) (a := y38) (c := 1) (ls' := fun v => [some (.inl (some 52)), some (.inl (some 2000011)), some v]) (len := 3) (r := (0, 0, 0, 0)) (by decide +kernel) rfl (fun _ => rfl) (by decide) (by omega) (by omega) (fun y46 hy46 => ?_)
      show qX 7 175 45 [some (.inl (some 52)), some (.inl (some 2000011)), some (zi y46)] [] h29 t _
      refine y_goto (off := (-29)) (pc' := 16) (len := 3) (r := (0, 0, 0, 0)) (by decide +kernel) (by decide +kernel) ?_
      refine y_same (i := .iload_n 2) (len := 1) (r := (0, 0, 0, 0)) (pc' := 17) (ls' := [some (.inl (some 52)), some (.inl (some 2000011)), some (zi y46)]) (st' := [zi y46]) (by decide +kernel) (fun k q => by cases q) rfl ?_
      refine y_same (i := .aload_n 1) (len := 1) (r := (0, 0, 0, 0)) (pc' := 18) (ls' := [some (.inl (some 52)), some (.inl (some 2000011)), some (zi y46)]) (st' := [.inl (some 2000011), zi y46]) (by decide +kernel) (fun k q => by cases q) rfl ?_
      refine y_cI (i := .invokevirtual 122) (len := 3) (r := (0, 268, 50, 1514)) (nL := 1) (k := 1) (n := 1) (hs := []) (args := [.inl (some 2000011)]) (rest := [zi y46]) (l0 := [some (.inl (some 2000011))]) (by decide +kernel) (Or.inr (Or.inl ⟨_, rfl⟩)) rfl rfl rfl rfl (Nat.le_of_ble_eq_true rfl) rfl rfl (qI_le (by decide) tln11) (fun y47 qy47 hRy47 => ?_)
      obtain ⟨rfl, hy47⟩ := hRy47
      refine y_cF (c := .ge) (off := 27) (len := 3) (r := (0, 0, 0, 0)) (by decide +kernel) (acmpF (c := .ge) (by show _ < _; omega)) ?_
      refine y_same (i := .aload_n 0) (len := 1) (r := (0, 0, 0, 0)) (pc' := 25) (ls' := [some (.inl (some 52)), some (.inl (some 2000011)), some (zi y46)]) (st' := [.inl (some 52)]) (by decide +kernel) (fun k q => by cases q) rfl ?_
      refine y_same (i := .aload_n 0) (len := 1) (r := (0, 0, 0, 0)) (pc' := 26) (ls' := [some (.inl (some 52)), some (.inl (some 2000011)), some (zi y46)]) (st' := [.inl (some 52), .inl (some 52)]) (by decide +kernel) (fun k q => by cases q) rfl ?_
      refine y_get (j := 101) (len := 3) (r := (12, 4, 0, 1332)) (by decide +kernel) O29.2.1 (t52 O29.2.1) at52 rfl rfl ha29 ?_
      refine y_same (i := .iload_n 2) (len := 1) (r := (0, 0, 0, 0)) (pc' := 30) (ls' := [some (.inl (some 52)), some (.inl (some 2000011)), some (zi y46)]) (st' := [zi y46, zi xa29, .inl (some 52)]) (by decide +kernel) (fun k q => by cases q) rfl ?_
      refine y_add (len := 1) (r := (0, 0, 0, 0)) (by decide +kernel) (by omega) (by omega) (fun y48 hy48 => ?_)
      refine y_cI (i := .invokevirtual 104) (len := 3) (r := (0, 170, 12, 1510)) (nL := 2) (k := 1) (n := 2) (hs := []) (args := [.inl (some 52), zi y48]) (rest := []) (l0 := [some (.inl (some 52)), some (zi y48)]) (by decide +kernel) (Or.inr (Or.inl ⟨_, rfl⟩)) rfl rfl rfl rfl (Nat.le_of_ble_eq_true rfl) (z52 O29.2.1) rfl (qI_le (by decide) (m_byte (d := 0) (k := (sk b n a + 2)) O29.2.1 rd29 (by omega))) (fun y49 qy49 hRy49 => ?_)
      obtain ⟨rfl, hy49⟩ := hRy49
      refine y_same (i := .aload_n 1) (len := 1) (r := (0, 0, 0, 0)) (pc' := 35) (ls' := [some (.inl (some 52)), some (.inl (some 2000011)), some (zi y46)]) (st' := [.inl (some 2000011), zi y49]) (by decide +kernel) (fun k q => by cases q) rfl ?_
      refine y_same (i := .iload_n 2) (len := 1) (r := (0, 0, 0, 0)) (pc' := 36) (ls' := [some (.inl (some 52)), some (.inl (some 2000011)), some (zi y46)]) (st' := [zi y46, .inl (some 2000011), zi y49]) (by decide +kernel) (fun k q => by cases q) rfl ?_
      refine y_cI (i := .invokevirtual 127) (len := 3) (r := (0, 269, 50, 1515)) (nL := 2) (k := 5) (n := 2) (hs := []) (args := [.inl (some 2000011), zi y46]) (rest := [zi y49]) (l0 := [some (.inl (some 2000011)), some (zi y46)]) (by decide +kernel) (Or.inr (Or.inl ⟨_, rfl⟩)) rfl rfl rfl rfl (Nat.le_of_ble_eq_true rfl) rfl rfl (qI_le (by decide) (tch11_2 (by omega))) (fun y50 qy50 hRy50 => ?_)
      obtain ⟨rfl, hy50⟩ := hRy50
      rcases Decidable.em (y49.toInt ≠ y50.toInt) with q51 | q51
      ·
        refine y_cT (c := .ne) (off := 9) (pc' := 48) (len := 3) (r := (0, 0, 0, 0)) (by decide +kernel) (acmpT (c := .ne) (by show ¬ (_ = _); omega)) (by decide +kernel) ?_
        refine y_same (i := .iload_n 2) (len := 1) (r := (0, 0, 0, 0)) (pc' := 49) (ls' := [some (.inl (some 52)), some (.inl (some 2000011)), some (zi y46)]) (st' := [zi y46]) (by decide +kernel) (fun k q => by cases q) rfl ?_
        refine y_same (i := .aload_n 1) (len := 1) (r := (0, 0, 0, 0)) (pc' := 50) (ls' := [some (.inl (some 52)), some (.inl (some 2000011)), some (zi y46)]) (st' := [.inl (some 2000011), zi y46]) (by decide +kernel) (fun k q => by cases q) rfl ?_
        refine y_cI (i := .invokevirtual 122) (len := 3) (r := (0, 268, 50, 1514)) (nL := 1) (k := 1) (n := 1) (hs := []) (args := [.inl (some 2000011)]) (rest := [zi y46]) (l0 := [some (.inl (some 2000011))]) (by decide +kernel) (Or.inr (Or.inl ⟨_, rfl⟩)) rfl rfl rfl rfl (Nat.le_of_ble_eq_true rfl) rfl rfl (qI_le (by decide) tln11) (fun y52 qy52 hRy52 => ?_)
        obtain ⟨rfl, hy52⟩ := hRy52
        refine y_cT (c := .lt) (off := 30) (pc' := 83) (len := 3) (r := (0, 0, 0, 0)) (by decide +kernel) (acmpT (c := .lt) (by show _ < _; omega)) (by decide +kernel) ?_
        refine y_ic (c := 0) (len := 1) (r := (0, 0, 0, 0)) (by decide +kernel) (by decide) (fun y53 hy53 => ?_)
        refine y_rI (len := 1) (r := (0, 0, 0, 0)) (nL := 3) (k := 2) (n9 := 2) (hs := []) (by decide +kernel) rfl (zfit_b (by omega) (by omega)).2 ?_
        exact ⟨_, ⟨O29.1, O29.2.1, fun k T j hk (hC : k ≠ 52 ∨ j ≠ 4) => (O29.2.2 k T j hk (show k ≠ 52 ∨ j ≠ 4 by omega))⟩, Or.inr ⟨wrd_n1 (mt_s (a' := sk b n a + 1) (by omega) (mt_s (a' := sk b n a + 2) (by omega) (mt_n (by omega)))), by omega, rd29⟩⟩
      ·
        refine y_cF (c := .ne) (off := 9) (len := 3) (r := (0, 0, 0, 0)) (by decide +kernel) (acmpF (c := .ne) (by show _ = _; omega)) ?_
        have m2 : bt b n (sk b n a + 2) = 112 := by omega
        refine y_inc (j := 2) (a := y46) (c := 1) (ls' := fun v => [some (.inl (some 52)), some (.inl (some 2000011)), some v]) (len := 3) (r := (0, 0, 0, 0)) (by decide +kernel) rfl (fun _ => rfl) (by decide) (by omega) (by omega) (fun y54 hy54 => ?_)
        show qX 7 175 45 [some (.inl (some 52)), some (.inl (some 2000011)), some (zi y54)] [] h29 t _
        refine y_goto (off := (-29)) (pc' := 16) (len := 3) (r := (0, 0, 0, 0)) (by decide +kernel) (by decide +kernel) ?_
        refine y_same (i := .iload_n 2) (len := 1) (r := (0, 0, 0, 0)) (pc' := 17) (ls' := [some (.inl (some 52)), some (.inl (some 2000011)), some (zi y54)]) (st' := [zi y54]) (by decide +kernel) (fun k q => by cases q) rfl ?_
        refine y_same (i := .aload_n 1) (len := 1) (r := (0, 0, 0, 0)) (pc' := 18) (ls' := [some (.inl (some 52)), some (.inl (some 2000011)), some (zi y54)]) (st' := [.inl (some 2000011), zi y54]) (by decide +kernel) (fun k q => by cases q) rfl ?_
        refine y_cI (i := .invokevirtual 122) (len := 3) (r := (0, 268, 50, 1514)) (nL := 1) (k := 1) (n := 1) (hs := []) (args := [.inl (some 2000011)]) (rest := [zi y54]) (l0 := [some (.inl (some 2000011))]) (by decide +kernel) (Or.inr (Or.inl ⟨_, rfl⟩)) rfl rfl rfl rfl (Nat.le_of_ble_eq_true rfl) rfl rfl (qI_le (by decide) tln11) (fun y55 qy55 hRy55 => ?_)
        obtain ⟨rfl, hy55⟩ := hRy55
        refine y_cT (c := .ge) (off := 27) (pc' := 48) (len := 3) (r := (0, 0, 0, 0)) (by decide +kernel) (acmpT (c := .ge) (by show _ ≤ _; omega)) (by decide +kernel) ?_
        refine y_same (i := .iload_n 2) (len := 1) (r := (0, 0, 0, 0)) (pc' := 49) (ls' := [some (.inl (some 52)), some (.inl (some 2000011)), some (zi y54)]) (st' := [zi y54]) (by decide +kernel) (fun k q => by cases q) rfl ?_
        refine y_same (i := .aload_n 1) (len := 1) (r := (0, 0, 0, 0)) (pc' := 50) (ls' := [some (.inl (some 52)), some (.inl (some 2000011)), some (zi y54)]) (st' := [.inl (some 2000011), zi y54]) (by decide +kernel) (fun k q => by cases q) rfl ?_
        refine y_cI (i := .invokevirtual 122) (len := 3) (r := (0, 268, 50, 1514)) (nL := 1) (k := 1) (n := 1) (hs := []) (args := [.inl (some 2000011)]) (rest := [zi y54]) (l0 := [some (.inl (some 2000011))]) (by decide +kernel) (Or.inr (Or.inl ⟨_, rfl⟩)) rfl rfl rfl rfl (Nat.le_of_ble_eq_true rfl) rfl rfl (qI_le (by decide) tln11) (fun y56 qy56 hRy56 => ?_)
        obtain ⟨rfl, hy56⟩ := hRy56
        refine y_cF (c := .lt) (off := 30) (len := 3) (r := (0, 0, 0, 0)) (by decide +kernel) (acmpF (c := .lt) (by show _ ≤ _; omega)) ?_
        refine y_same (i := .aload_n 1) (len := 1) (r := (0, 0, 0, 0)) (pc' := 57) (ls' := [some (.inl (some 52)), some (.inl (some 2000011)), some (zi y54)]) (st' := [.inl (some 2000011)]) (by decide +kernel) (fun k q => by cases q) rfl ?_
        refine y_ic (c := 0) (len := 1) (r := (0, 0, 0, 0)) (by decide +kernel) (by decide) (fun y57 hy57 => ?_)
        refine y_cI (i := .invokevirtual 127) (len := 3) (r := (0, 269, 50, 1515)) (nL := 2) (k := 5) (n := 2) (hs := []) (args := [.inl (some 2000011), zi y57]) (rest := []) (l0 := [some (.inl (some 2000011)), some (zi y57)]) (by decide +kernel) (Or.inr (Or.inl ⟨_, rfl⟩)) rfl rfl rfl rfl (Nat.le_of_ble_eq_true rfl) rfl rfl (qI_le (by decide) (tch11_0 (by omega))) (fun y58 qy58 hRy58 => ?_)
        obtain ⟨rfl, hy58⟩ := hRy58
        refine y_cI (i := .invokestatic 131) (len := 3) (r := (1, 174, 12, 1516)) (nL := 1) (k := 2) (n := 1) (hs := []) (args := [zi y58]) (rest := []) (l0 := [some (zi y58)]) (by decide +kernel) (Or.inl ⟨_, rfl⟩) rfl rfl rfl rfl (Nat.le_of_ble_eq_true rfl) rfl rfl (qI_le (by decide) (m_small (d := 0))) (fun y59 qy59 hRy59 => ?_)
        obtain ⟨rfl, gy59, by59⟩ := hRy59
        refine y_iF (c := .eq) (off := 21) (len := 3) (r := (0, 0, 0, 0)) (by decide +kernel) (acmpF (c := .eq) (by show ¬ (_ = _); omega)) ?_
        refine y_same (i := .aload_n 0) (len := 1) (r := (0, 0, 0, 0)) (pc' := 68) (ls' := [some (.inl (some 52)), some (.inl (some 2000011)), some (zi y54)]) (st' := [.inl (some 52)]) (by decide +kernel) (fun k q => by cases q) rfl ?_
        refine y_same (i := .aload_n 0) (len := 1) (r := (0, 0, 0, 0)) (pc' := 69) (ls' := [some (.inl (some 52)), some (.inl (some 2000011)), some (zi y54)]) (st' := [.inl (some 52), .inl (some 52)]) (by decide +kernel) (fun k q => by cases q) rfl ?_
        refine y_get (j := 101) (len := 3) (r := (12, 4, 0, 1332)) (by decide +kernel) O29.2.1 (t52 O29.2.1) at52 rfl rfl ha29 ?_
        refine y_same (i := .iload_n 2) (len := 1) (r := (0, 0, 0, 0)) (pc' := 73) (ls' := [some (.inl (some 52)), some (.inl (some 2000011)), some (zi y54)]) (st' := [zi y54, zi xa29, .inl (some 52)]) (by decide +kernel) (fun k q => by cases q) rfl ?_
        refine y_add (len := 1) (r := (0, 0, 0, 0)) (by decide +kernel) (by omega) (by omega) (fun y60 hy60 => ?_)
        refine y_cI (i := .invokevirtual 104) (len := 3) (r := (0, 170, 12, 1510)) (nL := 2) (k := 1) (n := 2) (hs := []) (args := [.inl (some 52), zi y60]) (rest := []) (l0 := [some (.inl (some 52)), some (zi y60)]) (by decide +kernel) (Or.inr (Or.inl ⟨_, rfl⟩)) rfl rfl rfl rfl (Nat.le_of_ble_eq_true rfl) (z52 O29.2.1) rfl (qI_le (by decide) (m_byte (d := 0) (k := (sk b n a + 3)) O29.2.1 rd29 (by omega))) (fun y61 qy61 hRy61 => ?_)
        obtain ⟨rfl, hy61⟩ := hRy61
        refine y_cI (i := .invokestatic 131) (len := 3) (r := (1, 174, 12, 1516)) (nL := 1) (k := 2) (n := 1) (hs := []) (args := [zi y61]) (rest := []) (l0 := [some (zi y61)]) (by decide +kernel) (Or.inl ⟨_, rfl⟩) rfl rfl rfl rfl (Nat.le_of_ble_eq_true rfl) rfl rfl (qI_le (by decide) (m_small (d := 0))) (fun y62 qy62 hRy62 => ?_)
        obtain ⟨rfl, gy62, by62⟩ := hRy62
        rcases Decidable.em (y62.toInt = 0) with q63 | q63
        ·
          refine y_iT (c := .eq) (off := 5) (pc' := 85) (len := 3) (r := (0, 0, 0, 0)) (by decide +kernel) (acmpT (c := .eq) (by show _ = _; omega)) (by decide +kernel) ?_
          have ml0 := mt_le (w := wEmp) (mt_c (a' := sk b n a + 1) m0 (by omega) (mt_c (a' := sk b n a + 2) m1 (by omega) (mt_c (a' := sk b n a + 3) m2 (by omega) rfl))) (by omega) (by decide)
          simp only [wEmp, List.length_cons, List.length_nil] at ml0
          refine y_same (i := .aload_n 0) (len := 1) (r := (0, 0, 0, 0)) (pc' := 86) (ls' := [some (.inl (some 52)), some (.inl (some 2000011)), some (zi y54)]) (st' := [.inl (some 52)]) (by decide +kernel) (fun k q => by cases q) rfl ?_
          refine y_same (i := .dup) (len := 1) (r := (0, 0, 0, 0)) (pc' := 87) (ls' := [some (.inl (some 52)), some (.inl (some 2000011)), some (zi y54)]) (st' := [.inl (some 52), .inl (some 52)]) (by decide +kernel) (fun k q => by cases q) rfl ?_
          refine y_get (j := 101) (len := 3) (r := (12, 4, 0, 1332)) (by decide +kernel) O29.2.1 (t52 O29.2.1) at52 rfl rfl ha29 ?_
          refine y_same (i := .iload_n 2) (len := 1) (r := (0, 0, 0, 0)) (pc' := 91) (ls' := [some (.inl (some 52)), some (.inl (some 2000011)), some (zi y54)]) (st' := [zi y54, zi xa29, .inl (some 52)]) (by decide +kernel) (fun k q => by cases q) rfl ?_
          refine y_add (len := 1) (r := (0, 0, 0, 0)) (by decide +kernel) (by omega) (by omega) (fun y64 hy64 => ?_)
          refine y_put (j := 101) (lo := 0) (hi := 200) (len := 3) (r := (12, 4, 0, 1332)) (by decide +kernel) O29.2.1 (t52 O29.2.1) at52 rfl rfl (by decide) rfl (by omega) (by omega) rfl (fun h65 hg65 hl65 hs65 ho65 => ?_)
          have ho65 : hO 52 4 h29 h65 := ho65
          have hs65 : hsl h65 52 4 = some (zi y64) := hs65
          refine y_ic (c := 1) (len := 1) (r := (0, 0, 0, 0)) (by decide +kernel) (by decide) (fun y66 hy66 => ?_)
          refine y_rI (len := 1) (r := (0, 0, 0, 0)) (nL := 3) (k := 2) (n9 := 2) (hs := []) (by decide +kernel) rfl (zfit_b (by omega) (by omega)).2 ?_
          have ml := mt_le (w := wEmp) (mt_c (a' := sk b n a + 1) m0 (by omega) (mt_c (a' := sk b n a + 2) m1 (by omega) (mt_c (a' := sk b n a + 3) m2 (by omega) rfl))) (by omega) (by decide)
          simp only [wEmp, List.length_cons, List.length_nil] at ml
          exact ⟨_, ⟨O29.1, hg65, fun k T j hk (hC : k ≠ 52 ∨ j ≠ 4) => ((ho65 k j (by omega)).trans (O29.2.2 k T j hk (show k ≠ 52 ∨ j ≠ 4 by omega)))⟩, Or.inl ⟨sk b n a + 3, wrd_y (w := wEmp) (mt_c (a' := sk b n a + 1) m0 (by omega) (mt_c (a' := sk b n a + 2) m1 (by omega) (mt_c (a' := sk b n a + 3) m2 (by omega) rfl))) (show ¬ sml (bt b n (sk b n a + 3)) from fun q => by obtain ⟨q1, q2⟩ := q; omega), by omega, by omega, (rdM_up rd29 (ho65 52 3 (Or.inr (by omega))) (fun j => (ho65 54 j (Or.inl (by omega)))) ⟨_, hs65, by omega⟩)⟩⟩
        ·
          refine y_iF (c := .eq) (off := 5) (len := 3) (r := (0, 0, 0, 0)) (by decide +kernel) (acmpF (c := .eq) (by show ¬ (_ = _); omega)) ?_
          refine y_ic (c := 0) (len := 1) (r := (0, 0, 0, 0)) (by decide +kernel) (by decide) (fun y67 hy67 => ?_)
          refine y_rI (len := 1) (r := (0, 0, 0, 0)) (nL := 3) (k := 2) (n9 := 2) (hs := []) (by decide +kernel) rfl (zfit_b (by omega) (by omega)).2 ?_
          exact ⟨_, ⟨O29.1, O29.2.1, fun k T j hk (hC : k ≠ 52 ∨ j ≠ 4) => (O29.2.2 k T j hk (show k ≠ 52 ∨ j ≠ 4 by omega))⟩, Or.inr ⟨wrd_n2 (w := wEmp) (show sml (bt b n (sk b n a + 3)) from ⟨by omega, by omega⟩), by omega, rd29⟩⟩
theorem m_pass12 {t n a : Nat} {b : Nat → Int} {τ : List Nat} {h : zh} (hg : hG τ h) (rd : rdM h n a b) (han : a ≤ n) (ft : ftM h 0 (-1)) : qI 8 175 [some (.inl (some 52)), some (.inl (some 2000012)), none] h t (fun y h1 => ∃ τ1, oF (fun k j => k ≠ 52 ∨ j ≠ 4) τ h τ1 h1 ∧ ((∃ a', wrd b n wLs a = some a' ∧ a' ≤ n ∧ y.toInt = 1 ∧ rdM h1 n a' b) ∨ (wrd b n wLs a = none ∧ y.toInt = 0 ∧ rdM h1 n (sk b n a) b))) := by
  obtain ⟨⟨xn, hn, en⟩, ⟨xa, ha, ea⟩, hb, hn2⟩ := id rd
  obtain ⟨⟨xf, hf6, ef⟩, xw, hw7, ew7⟩ := id ft
  refine qI_of ?_
  refine y_same (i := .aload_n 0) (len := 1) (r := (0, 0, 0, 0)) (pc' := 1) (ls' := [some (.inl (some 52)), some (.inl (some 2000012)), none]) (st' := [.inl (some 52)]) (by decide +kernel) (fun k q => by cases q) rfl ?_
  refine y_cI (i := .invokevirtual 114) (len := 3) (r := (0, 172, 12, 1502)) (nL := 1) (k := 2) (n := 1) (hs := []) (args := [.inl (some 52)]) (rest := []) (l0 := [some (.inl (some 52))]) (by decide +kernel) (Or.inr (Or.inl ⟨_, rfl⟩)) rfl rfl rfl rfl (Nat.le_of_ble_eq_true rfl) (z52 hg) rfl (qI_le (by decide) (m_fine (d := 0) hg ft)) (fun y68 qy68 hRy68 => ?_)
  obtain ⟨rfl, gy68, by68⟩ := hRy68
  have hy68 : y68.toInt = 1 := gy68 rfl
  refine y_iT (c := .ne) (off := 5) (pc' := 9) (len := 3) (r := (0, 0, 0, 0)) (by decide +kernel) (acmpT (c := .ne) (by show ¬ (_ = _); omega)) (by decide +kernel) ?_
  refine y_same (i := .aload_n 0) (len := 1) (r := (0, 0, 0, 0)) (pc' := 10) (ls' := [some (.inl (some 52)), some (.inl (some 2000012)), none]) (st' := [.inl (some 52)]) (by decide +kernel) (fun k q => by cases q) rfl ?_
  refine y_cI (i := .invokevirtual 118) (len := 3) (r := (0, 171, 12, 1506)) (nL := 1) (k := 1) (n := 1) (hs := []) (args := [.inl (some 52)]) (rest := []) (l0 := [some (.inl (some 52))]) (by decide +kernel) (Or.inr (Or.inl ⟨_, rfl⟩)) rfl rfl rfl rfl (Nat.le_of_ble_eq_true rfl) (z52 hg) rfl (qI_le (by decide) (m_here hg rd (by omega))) (fun y69 h69 hRy69 => ?_)
  obtain ⟨τ69, O69, hy69, rd69⟩ := hRy69
  have sl69 := sk_le (b := b) (n := n) (a := a) (by omega)
  obtain ⟨⟨xn69, hn69, en69⟩, ⟨xa69, ha69, ea69⟩, hb69, -⟩ := id rd69
  refine y_same (i := .pop) (len := 1) (r := (0, 0, 0, 0)) (pc' := 14) (ls' := [some (.inl (some 52)), some (.inl (some 2000012)), none]) (st' := []) (by decide +kernel) (fun k q => by cases q) rfl ?_
  refine y_ic (c := 0) (len := 1) (r := (0, 0, 0, 0)) (by decide +kernel) (by decide) (fun y70 hy70 => ?_)
  refine y_same (i := .istore_n 2) (len := 1) (r := (0, 0, 0, 0)) (pc' := 16) (ls' := [some (.inl (some 52)), some (.inl (some 2000012)), some (zi y70)]) (st' := []) (by decide +kernel) (fun k q => by cases q) rfl ?_
  refine y_same (i := .iload_n 2) (len := 1) (r := (0, 0, 0, 0)) (pc' := 17) (ls' := [some (.inl (some 52)), some (.inl (some 2000012)), some (zi y70)]) (st' := [zi y70]) (by decide +kernel) (fun k q => by cases q) rfl ?_
  refine y_same (i := .aload_n 1) (len := 1) (r := (0, 0, 0, 0)) (pc' := 18) (ls' := [some (.inl (some 52)), some (.inl (some 2000012)), some (zi y70)]) (st' := [.inl (some 2000012), zi y70]) (by decide +kernel) (fun k q => by cases q) rfl ?_
  refine y_cI (i := .invokevirtual 122) (len := 3) (r := (0, 268, 50, 1514)) (nL := 1) (k := 1) (n := 1) (hs := []) (args := [.inl (some 2000012)]) (rest := [zi y70]) (l0 := [some (.inl (some 2000012))]) (by decide +kernel) (Or.inr (Or.inl ⟨_, rfl⟩)) rfl rfl rfl rfl (Nat.le_of_ble_eq_true rfl) rfl rfl (qI_le (by decide) tln12) (fun y71 qy71 hRy71 => ?_)
  obtain ⟨rfl, hy71⟩ := hRy71
  refine y_cF (c := .ge) (off := 27) (len := 3) (r := (0, 0, 0, 0)) (by decide +kernel) (acmpF (c := .ge) (by show _ < _; omega)) ?_
  refine y_same (i := .aload_n 0) (len := 1) (r := (0, 0, 0, 0)) (pc' := 25) (ls' := [some (.inl (some 52)), some (.inl (some 2000012)), some (zi y70)]) (st' := [.inl (some 52)]) (by decide +kernel) (fun k q => by cases q) rfl ?_
  refine y_same (i := .aload_n 0) (len := 1) (r := (0, 0, 0, 0)) (pc' := 26) (ls' := [some (.inl (some 52)), some (.inl (some 2000012)), some (zi y70)]) (st' := [.inl (some 52), .inl (some 52)]) (by decide +kernel) (fun k q => by cases q) rfl ?_
  refine y_get (j := 101) (len := 3) (r := (12, 4, 0, 1332)) (by decide +kernel) O69.2.1 (t52 O69.2.1) at52 rfl rfl ha69 ?_
  refine y_same (i := .iload_n 2) (len := 1) (r := (0, 0, 0, 0)) (pc' := 30) (ls' := [some (.inl (some 52)), some (.inl (some 2000012)), some (zi y70)]) (st' := [zi y70, zi xa69, .inl (some 52)]) (by decide +kernel) (fun k q => by cases q) rfl ?_
  refine y_add (len := 1) (r := (0, 0, 0, 0)) (by decide +kernel) (by omega) (by omega) (fun y72 hy72 => ?_)
  refine y_cI (i := .invokevirtual 104) (len := 3) (r := (0, 170, 12, 1510)) (nL := 2) (k := 1) (n := 2) (hs := []) (args := [.inl (some 52), zi y72]) (rest := []) (l0 := [some (.inl (some 52)), some (zi y72)]) (by decide +kernel) (Or.inr (Or.inl ⟨_, rfl⟩)) rfl rfl rfl rfl (Nat.le_of_ble_eq_true rfl) (z52 O69.2.1) rfl (qI_le (by decide) (m_byte (d := 0) (k := (sk b n a)) O69.2.1 rd69 (by omega))) (fun y73 qy73 hRy73 => ?_)
  obtain ⟨rfl, hy73⟩ := hRy73
  refine y_same (i := .aload_n 1) (len := 1) (r := (0, 0, 0, 0)) (pc' := 35) (ls' := [some (.inl (some 52)), some (.inl (some 2000012)), some (zi y70)]) (st' := [.inl (some 2000012), zi y73]) (by decide +kernel) (fun k q => by cases q) rfl ?_
  refine y_same (i := .iload_n 2) (len := 1) (r := (0, 0, 0, 0)) (pc' := 36) (ls' := [some (.inl (some 52)), some (.inl (some 2000012)), some (zi y70)]) (st' := [zi y70, .inl (some 2000012), zi y73]) (by decide +kernel) (fun k q => by cases q) rfl ?_
  refine y_cI (i := .invokevirtual 127) (len := 3) (r := (0, 269, 50, 1515)) (nL := 2) (k := 5) (n := 2) (hs := []) (args := [.inl (some 2000012), zi y70]) (rest := [zi y73]) (l0 := [some (.inl (some 2000012)), some (zi y70)]) (by decide +kernel) (Or.inr (Or.inl ⟨_, rfl⟩)) rfl rfl rfl rfl (Nat.le_of_ble_eq_true rfl) rfl rfl (qI_le (by decide) (tch12_0 (by omega))) (fun y74 qy74 hRy74 => ?_)
  obtain ⟨rfl, hy74⟩ := hRy74
  rcases Decidable.em (y73.toInt ≠ y74.toInt) with q75 | q75
  ·
    refine y_cT (c := .ne) (off := 9) (pc' := 48) (len := 3) (r := (0, 0, 0, 0)) (by decide +kernel) (acmpT (c := .ne) (by show ¬ (_ = _); omega)) (by decide +kernel) ?_
    refine y_same (i := .iload_n 2) (len := 1) (r := (0, 0, 0, 0)) (pc' := 49) (ls' := [some (.inl (some 52)), some (.inl (some 2000012)), some (zi y70)]) (st' := [zi y70]) (by decide +kernel) (fun k q => by cases q) rfl ?_
    refine y_same (i := .aload_n 1) (len := 1) (r := (0, 0, 0, 0)) (pc' := 50) (ls' := [some (.inl (some 52)), some (.inl (some 2000012)), some (zi y70)]) (st' := [.inl (some 2000012), zi y70]) (by decide +kernel) (fun k q => by cases q) rfl ?_
    refine y_cI (i := .invokevirtual 122) (len := 3) (r := (0, 268, 50, 1514)) (nL := 1) (k := 1) (n := 1) (hs := []) (args := [.inl (some 2000012)]) (rest := [zi y70]) (l0 := [some (.inl (some 2000012))]) (by decide +kernel) (Or.inr (Or.inl ⟨_, rfl⟩)) rfl rfl rfl rfl (Nat.le_of_ble_eq_true rfl) rfl rfl (qI_le (by decide) tln12) (fun y76 qy76 hRy76 => ?_)
    obtain ⟨rfl, hy76⟩ := hRy76
    refine y_cT (c := .lt) (off := 30) (pc' := 83) (len := 3) (r := (0, 0, 0, 0)) (by decide +kernel) (acmpT (c := .lt) (by show _ < _; omega)) (by decide +kernel) ?_
    refine y_ic (c := 0) (len := 1) (r := (0, 0, 0, 0)) (by decide +kernel) (by decide) (fun y77 hy77 => ?_)
    refine y_rI (len := 1) (r := (0, 0, 0, 0)) (nL := 3) (k := 2) (n9 := 2) (hs := []) (by decide +kernel) rfl (zfit_b (by omega) (by omega)).2 ?_
    exact ⟨_, ⟨O69.1, O69.2.1, fun k T j hk (hC : k ≠ 52 ∨ j ≠ 4) => (O69.2.2 k T j hk (show k ≠ 52 ∨ j ≠ 4 by omega))⟩, Or.inr ⟨wrd_n1 (mt_n (by omega)), by omega, rd69⟩⟩
  ·
    refine y_cF (c := .ne) (off := 9) (len := 3) (r := (0, 0, 0, 0)) (by decide +kernel) (acmpF (c := .ne) (by show _ = _; omega)) ?_
    have m0 : bt b n (sk b n a) = 108 := by omega
    refine y_inc (j := 2) (a := y70) (c := 1) (ls' := fun v => [some (.inl (some 52)), some (.inl (some 2000012)), some v]) (len := 3) (r := (0, 0, 0, 0)) (by decide +kernel) rfl (fun _ => rfl) (by decide) (by omega) (by omega) (fun y78 hy78 => ?_)
    show qX 7 175 45 [some (.inl (some 52)), some (.inl (some 2000012)), some (zi y78)] [] h69 t _
    refine y_goto (off := (-29)) (pc' := 16) (len := 3) (r := (0, 0, 0, 0)) (by decide +kernel) (by decide +kernel) ?_
    refine y_same (i := .iload_n 2) (len := 1) (r := (0, 0, 0, 0)) (pc' := 17) (ls' := [some (.inl (some 52)), some (.inl (some 2000012)), some (zi y78)]) (st' := [zi y78]) (by decide +kernel) (fun k q => by cases q) rfl ?_
    refine y_same (i := .aload_n 1) (len := 1) (r := (0, 0, 0, 0)) (pc' := 18) (ls' := [some (.inl (some 52)), some (.inl (some 2000012)), some (zi y78)]) (st' := [.inl (some 2000012), zi y78]) (by decide +kernel) (fun k q => by cases q) rfl ?_
    refine y_cI (i := .invokevirtual 122) (len := 3) (r := (0, 268, 50, 1514)) (nL := 1) (k := 1) (n := 1) (hs := []) (args := [.inl (some 2000012)]) (rest := [zi y78]) (l0 := [some (.inl (some 2000012))]) (by decide +kernel) (Or.inr (Or.inl ⟨_, rfl⟩)) rfl rfl rfl rfl (Nat.le_of_ble_eq_true rfl) rfl rfl (qI_le (by decide) tln12) (fun y79 qy79 hRy79 => ?_)
    obtain ⟨rfl, hy79⟩ := hRy79
    refine y_cF (c := .ge) (off := 27) (len := 3) (r := (0, 0, 0, 0)) (by decide +kernel) (acmpF (c := .ge) (by show _ < _; omega)) ?_
    refine y_same (i := .aload_n 0) (len := 1) (r := (0, 0, 0, 0)) (pc' := 25) (ls' := [some (.inl (some 52)), some (.inl (some 2000012)), some (zi y78)]) (st' := [.inl (some 52)]) (by decide +kernel) (fun k q => by cases q) rfl ?_
    refine y_same (i := .aload_n 0) (len := 1) (r := (0, 0, 0, 0)) (pc' := 26) (ls' := [some (.inl (some 52)), some (.inl (some 2000012)), some (zi y78)]) (st' := [.inl (some 52), .inl (some 52)]) (by decide +kernel) (fun k q => by cases q) rfl ?_
    refine y_get (j := 101) (len := 3) (r := (12, 4, 0, 1332)) (by decide +kernel) O69.2.1 (t52 O69.2.1) at52 rfl rfl ha69 ?_
    refine y_same (i := .iload_n 2) (len := 1) (r := (0, 0, 0, 0)) (pc' := 30) (ls' := [some (.inl (some 52)), some (.inl (some 2000012)), some (zi y78)]) (st' := [zi y78, zi xa69, .inl (some 52)]) (by decide +kernel) (fun k q => by cases q) rfl ?_
    refine y_add (len := 1) (r := (0, 0, 0, 0)) (by decide +kernel) (by omega) (by omega) (fun y80 hy80 => ?_)
    refine y_cI (i := .invokevirtual 104) (len := 3) (r := (0, 170, 12, 1510)) (nL := 2) (k := 1) (n := 2) (hs := []) (args := [.inl (some 52), zi y80]) (rest := []) (l0 := [some (.inl (some 52)), some (zi y80)]) (by decide +kernel) (Or.inr (Or.inl ⟨_, rfl⟩)) rfl rfl rfl rfl (Nat.le_of_ble_eq_true rfl) (z52 O69.2.1) rfl (qI_le (by decide) (m_byte (d := 0) (k := (sk b n a + 1)) O69.2.1 rd69 (by omega))) (fun y81 qy81 hRy81 => ?_)
    obtain ⟨rfl, hy81⟩ := hRy81
    refine y_same (i := .aload_n 1) (len := 1) (r := (0, 0, 0, 0)) (pc' := 35) (ls' := [some (.inl (some 52)), some (.inl (some 2000012)), some (zi y78)]) (st' := [.inl (some 2000012), zi y81]) (by decide +kernel) (fun k q => by cases q) rfl ?_
    refine y_same (i := .iload_n 2) (len := 1) (r := (0, 0, 0, 0)) (pc' := 36) (ls' := [some (.inl (some 52)), some (.inl (some 2000012)), some (zi y78)]) (st' := [zi y78, .inl (some 2000012), zi y81]) (by decide +kernel) (fun k q => by cases q) rfl ?_
    refine y_cI (i := .invokevirtual 127) (len := 3) (r := (0, 269, 50, 1515)) (nL := 2) (k := 5) (n := 2) (hs := []) (args := [.inl (some 2000012), zi y78]) (rest := [zi y81]) (l0 := [some (.inl (some 2000012)), some (zi y78)]) (by decide +kernel) (Or.inr (Or.inl ⟨_, rfl⟩)) rfl rfl rfl rfl (Nat.le_of_ble_eq_true rfl) rfl rfl (qI_le (by decide) (tch12_1 (by omega))) (fun y82 qy82 hRy82 => ?_)
    obtain ⟨rfl, hy82⟩ := hRy82
    rcases Decidable.em (y81.toInt ≠ y82.toInt) with q83 | q83
    ·
      refine y_cT (c := .ne) (off := 9) (pc' := 48) (len := 3) (r := (0, 0, 0, 0)) (by decide +kernel) (acmpT (c := .ne) (by show ¬ (_ = _); omega)) (by decide +kernel) ?_
      refine y_same (i := .iload_n 2) (len := 1) (r := (0, 0, 0, 0)) (pc' := 49) (ls' := [some (.inl (some 52)), some (.inl (some 2000012)), some (zi y78)]) (st' := [zi y78]) (by decide +kernel) (fun k q => by cases q) rfl ?_
      refine y_same (i := .aload_n 1) (len := 1) (r := (0, 0, 0, 0)) (pc' := 50) (ls' := [some (.inl (some 52)), some (.inl (some 2000012)), some (zi y78)]) (st' := [.inl (some 2000012), zi y78]) (by decide +kernel) (fun k q => by cases q) rfl ?_
      refine y_cI (i := .invokevirtual 122) (len := 3) (r := (0, 268, 50, 1514)) (nL := 1) (k := 1) (n := 1) (hs := []) (args := [.inl (some 2000012)]) (rest := [zi y78]) (l0 := [some (.inl (some 2000012))]) (by decide +kernel) (Or.inr (Or.inl ⟨_, rfl⟩)) rfl rfl rfl rfl (Nat.le_of_ble_eq_true rfl) rfl rfl (qI_le (by decide) tln12) (fun y84 qy84 hRy84 => ?_)
      obtain ⟨rfl, hy84⟩ := hRy84
      refine y_cT (c := .lt) (off := 30) (pc' := 83) (len := 3) (r := (0, 0, 0, 0)) (by decide +kernel) (acmpT (c := .lt) (by show _ < _; omega)) (by decide +kernel) ?_
      refine y_ic (c := 0) (len := 1) (r := (0, 0, 0, 0)) (by decide +kernel) (by decide) (fun y85 hy85 => ?_)
      refine y_rI (len := 1) (r := (0, 0, 0, 0)) (nL := 3) (k := 2) (n9 := 2) (hs := []) (by decide +kernel) rfl (zfit_b (by omega) (by omega)).2 ?_
      exact ⟨_, ⟨O69.1, O69.2.1, fun k T j hk (hC : k ≠ 52 ∨ j ≠ 4) => (O69.2.2 k T j hk (show k ≠ 52 ∨ j ≠ 4 by omega))⟩, Or.inr ⟨wrd_n1 (mt_s (a' := sk b n a + 1) (by omega) (mt_n (by omega))), by omega, rd69⟩⟩
    ·
      refine y_cF (c := .ne) (off := 9) (len := 3) (r := (0, 0, 0, 0)) (by decide +kernel) (acmpF (c := .ne) (by show _ = _; omega)) ?_
      have m1 : bt b n (sk b n a + 1) = 115 := by omega
      refine y_inc (j := 2) (a := y78) (c := 1) (ls' := fun v => [some (.inl (some 52)), some (.inl (some 2000012)), some v]) (len := 3) (r := (0, 0, 0, 0)) (by decide +kernel) rfl (fun _ => rfl) (by decide) (by omega) (by omega) (fun y86 hy86 => ?_)
      show qX 7 175 45 [some (.inl (some 52)), some (.inl (some 2000012)), some (zi y86)] [] h69 t _
      refine y_goto (off := (-29)) (pc' := 16) (len := 3) (r := (0, 0, 0, 0)) (by decide +kernel) (by decide +kernel) ?_
      refine y_same (i := .iload_n 2) (len := 1) (r := (0, 0, 0, 0)) (pc' := 17) (ls' := [some (.inl (some 52)), some (.inl (some 2000012)), some (zi y86)]) (st' := [zi y86]) (by decide +kernel) (fun k q => by cases q) rfl ?_
      refine y_same (i := .aload_n 1) (len := 1) (r := (0, 0, 0, 0)) (pc' := 18) (ls' := [some (.inl (some 52)), some (.inl (some 2000012)), some (zi y86)]) (st' := [.inl (some 2000012), zi y86]) (by decide +kernel) (fun k q => by cases q) rfl ?_
      refine y_cI (i := .invokevirtual 122) (len := 3) (r := (0, 268, 50, 1514)) (nL := 1) (k := 1) (n := 1) (hs := []) (args := [.inl (some 2000012)]) (rest := [zi y86]) (l0 := [some (.inl (some 2000012))]) (by decide +kernel) (Or.inr (Or.inl ⟨_, rfl⟩)) rfl rfl rfl rfl (Nat.le_of_ble_eq_true rfl) rfl rfl (qI_le (by decide) tln12) (fun y87 qy87 hRy87 => ?_)
      obtain ⟨rfl, hy87⟩ := hRy87
      refine y_cT (c := .ge) (off := 27) (pc' := 48) (len := 3) (r := (0, 0, 0, 0)) (by decide +kernel) (acmpT (c := .ge) (by show _ ≤ _; omega)) (by decide +kernel) ?_
      refine y_same (i := .iload_n 2) (len := 1) (r := (0, 0, 0, 0)) (pc' := 49) (ls' := [some (.inl (some 52)), some (.inl (some 2000012)), some (zi y86)]) (st' := [zi y86]) (by decide +kernel) (fun k q => by cases q) rfl ?_
      refine y_same (i := .aload_n 1) (len := 1) (r := (0, 0, 0, 0)) (pc' := 50) (ls' := [some (.inl (some 52)), some (.inl (some 2000012)), some (zi y86)]) (st' := [.inl (some 2000012), zi y86]) (by decide +kernel) (fun k q => by cases q) rfl ?_
      refine y_cI (i := .invokevirtual 122) (len := 3) (r := (0, 268, 50, 1514)) (nL := 1) (k := 1) (n := 1) (hs := []) (args := [.inl (some 2000012)]) (rest := [zi y86]) (l0 := [some (.inl (some 2000012))]) (by decide +kernel) (Or.inr (Or.inl ⟨_, rfl⟩)) rfl rfl rfl rfl (Nat.le_of_ble_eq_true rfl) rfl rfl (qI_le (by decide) tln12) (fun y88 qy88 hRy88 => ?_)
      obtain ⟨rfl, hy88⟩ := hRy88
      refine y_cF (c := .lt) (off := 30) (len := 3) (r := (0, 0, 0, 0)) (by decide +kernel) (acmpF (c := .lt) (by show _ ≤ _; omega)) ?_
      refine y_same (i := .aload_n 1) (len := 1) (r := (0, 0, 0, 0)) (pc' := 57) (ls' := [some (.inl (some 52)), some (.inl (some 2000012)), some (zi y86)]) (st' := [.inl (some 2000012)]) (by decide +kernel) (fun k q => by cases q) rfl ?_
      refine y_ic (c := 0) (len := 1) (r := (0, 0, 0, 0)) (by decide +kernel) (by decide) (fun y89 hy89 => ?_)
      refine y_cI (i := .invokevirtual 127) (len := 3) (r := (0, 269, 50, 1515)) (nL := 2) (k := 5) (n := 2) (hs := []) (args := [.inl (some 2000012), zi y89]) (rest := []) (l0 := [some (.inl (some 2000012)), some (zi y89)]) (by decide +kernel) (Or.inr (Or.inl ⟨_, rfl⟩)) rfl rfl rfl rfl (Nat.le_of_ble_eq_true rfl) rfl rfl (qI_le (by decide) (tch12_0 (by omega))) (fun y90 qy90 hRy90 => ?_)
      obtain ⟨rfl, hy90⟩ := hRy90
      refine y_cI (i := .invokestatic 131) (len := 3) (r := (1, 174, 12, 1516)) (nL := 1) (k := 2) (n := 1) (hs := []) (args := [zi y90]) (rest := []) (l0 := [some (zi y90)]) (by decide +kernel) (Or.inl ⟨_, rfl⟩) rfl rfl rfl rfl (Nat.le_of_ble_eq_true rfl) rfl rfl (qI_le (by decide) (m_small (d := 0))) (fun y91 qy91 hRy91 => ?_)
      obtain ⟨rfl, gy91, by91⟩ := hRy91
      refine y_iF (c := .eq) (off := 21) (len := 3) (r := (0, 0, 0, 0)) (by decide +kernel) (acmpF (c := .eq) (by show ¬ (_ = _); omega)) ?_
      refine y_same (i := .aload_n 0) (len := 1) (r := (0, 0, 0, 0)) (pc' := 68) (ls' := [some (.inl (some 52)), some (.inl (some 2000012)), some (zi y86)]) (st' := [.inl (some 52)]) (by decide +kernel) (fun k q => by cases q) rfl ?_
      refine y_same (i := .aload_n 0) (len := 1) (r := (0, 0, 0, 0)) (pc' := 69) (ls' := [some (.inl (some 52)), some (.inl (some 2000012)), some (zi y86)]) (st' := [.inl (some 52), .inl (some 52)]) (by decide +kernel) (fun k q => by cases q) rfl ?_
      refine y_get (j := 101) (len := 3) (r := (12, 4, 0, 1332)) (by decide +kernel) O69.2.1 (t52 O69.2.1) at52 rfl rfl ha69 ?_
      refine y_same (i := .iload_n 2) (len := 1) (r := (0, 0, 0, 0)) (pc' := 73) (ls' := [some (.inl (some 52)), some (.inl (some 2000012)), some (zi y86)]) (st' := [zi y86, zi xa69, .inl (some 52)]) (by decide +kernel) (fun k q => by cases q) rfl ?_
      refine y_add (len := 1) (r := (0, 0, 0, 0)) (by decide +kernel) (by omega) (by omega) (fun y92 hy92 => ?_)
      refine y_cI (i := .invokevirtual 104) (len := 3) (r := (0, 170, 12, 1510)) (nL := 2) (k := 1) (n := 2) (hs := []) (args := [.inl (some 52), zi y92]) (rest := []) (l0 := [some (.inl (some 52)), some (zi y92)]) (by decide +kernel) (Or.inr (Or.inl ⟨_, rfl⟩)) rfl rfl rfl rfl (Nat.le_of_ble_eq_true rfl) (z52 O69.2.1) rfl (qI_le (by decide) (m_byte (d := 0) (k := (sk b n a + 2)) O69.2.1 rd69 (by omega))) (fun y93 qy93 hRy93 => ?_)
      obtain ⟨rfl, hy93⟩ := hRy93
      refine y_cI (i := .invokestatic 131) (len := 3) (r := (1, 174, 12, 1516)) (nL := 1) (k := 2) (n := 1) (hs := []) (args := [zi y93]) (rest := []) (l0 := [some (zi y93)]) (by decide +kernel) (Or.inl ⟨_, rfl⟩) rfl rfl rfl rfl (Nat.le_of_ble_eq_true rfl) rfl rfl (qI_le (by decide) (m_small (d := 0))) (fun y94 qy94 hRy94 => ?_)
      obtain ⟨rfl, gy94, by94⟩ := hRy94
      rcases Decidable.em (y94.toInt = 0) with q95 | q95
      ·
        refine y_iT (c := .eq) (off := 5) (pc' := 85) (len := 3) (r := (0, 0, 0, 0)) (by decide +kernel) (acmpT (c := .eq) (by show _ = _; omega)) (by decide +kernel) ?_
        have ml0 := mt_le (w := wLs) (mt_c (a' := sk b n a + 1) m0 (by omega) (mt_c (a' := sk b n a + 2) m1 (by omega) rfl)) (by omega) (by decide)
        simp only [wLs, List.length_cons, List.length_nil] at ml0
        refine y_same (i := .aload_n 0) (len := 1) (r := (0, 0, 0, 0)) (pc' := 86) (ls' := [some (.inl (some 52)), some (.inl (some 2000012)), some (zi y86)]) (st' := [.inl (some 52)]) (by decide +kernel) (fun k q => by cases q) rfl ?_
        refine y_same (i := .dup) (len := 1) (r := (0, 0, 0, 0)) (pc' := 87) (ls' := [some (.inl (some 52)), some (.inl (some 2000012)), some (zi y86)]) (st' := [.inl (some 52), .inl (some 52)]) (by decide +kernel) (fun k q => by cases q) rfl ?_
        refine y_get (j := 101) (len := 3) (r := (12, 4, 0, 1332)) (by decide +kernel) O69.2.1 (t52 O69.2.1) at52 rfl rfl ha69 ?_
        refine y_same (i := .iload_n 2) (len := 1) (r := (0, 0, 0, 0)) (pc' := 91) (ls' := [some (.inl (some 52)), some (.inl (some 2000012)), some (zi y86)]) (st' := [zi y86, zi xa69, .inl (some 52)]) (by decide +kernel) (fun k q => by cases q) rfl ?_
        refine y_add (len := 1) (r := (0, 0, 0, 0)) (by decide +kernel) (by omega) (by omega) (fun y96 hy96 => ?_)
        refine y_put (j := 101) (lo := 0) (hi := 200) (len := 3) (r := (12, 4, 0, 1332)) (by decide +kernel) O69.2.1 (t52 O69.2.1) at52 rfl rfl (by decide) rfl (by omega) (by omega) rfl (fun h97 hg97 hl97 hs97 ho97 => ?_)
        have ho97 : hO 52 4 h69 h97 := ho97
        have hs97 : hsl h97 52 4 = some (zi y96) := hs97
        refine y_ic (c := 1) (len := 1) (r := (0, 0, 0, 0)) (by decide +kernel) (by decide) (fun y98 hy98 => ?_)
        refine y_rI (len := 1) (r := (0, 0, 0, 0)) (nL := 3) (k := 2) (n9 := 2) (hs := []) (by decide +kernel) rfl (zfit_b (by omega) (by omega)).2 ?_
        have ml := mt_le (w := wLs) (mt_c (a' := sk b n a + 1) m0 (by omega) (mt_c (a' := sk b n a + 2) m1 (by omega) rfl)) (by omega) (by decide)
        simp only [wLs, List.length_cons, List.length_nil] at ml
        exact ⟨_, ⟨O69.1, hg97, fun k T j hk (hC : k ≠ 52 ∨ j ≠ 4) => ((ho97 k j (by omega)).trans (O69.2.2 k T j hk (show k ≠ 52 ∨ j ≠ 4 by omega)))⟩, Or.inl ⟨sk b n a + 2, wrd_y (w := wLs) (mt_c (a' := sk b n a + 1) m0 (by omega) (mt_c (a' := sk b n a + 2) m1 (by omega) rfl)) (show ¬ sml (bt b n (sk b n a + 2)) from fun q => by obtain ⟨q1, q2⟩ := q; omega), by omega, by omega, (rdM_up rd69 (ho97 52 3 (Or.inr (by omega))) (fun j => (ho97 54 j (Or.inl (by omega)))) ⟨_, hs97, by omega⟩)⟩⟩
      ·
        refine y_iF (c := .eq) (off := 5) (len := 3) (r := (0, 0, 0, 0)) (by decide +kernel) (acmpF (c := .eq) (by show ¬ (_ = _); omega)) ?_
        refine y_ic (c := 0) (len := 1) (r := (0, 0, 0, 0)) (by decide +kernel) (by decide) (fun y99 hy99 => ?_)
        refine y_rI (len := 1) (r := (0, 0, 0, 0)) (nL := 3) (k := 2) (n9 := 2) (hs := []) (by decide +kernel) rfl (zfit_b (by omega) (by omega)).2 ?_
        exact ⟨_, ⟨O69.1, O69.2.1, fun k T j hk (hC : k ≠ 52 ∨ j ≠ 4) => (O69.2.2 k T j hk (show k ≠ 52 ∨ j ≠ 4 by omega))⟩, Or.inr ⟨wrd_n2 (w := wLs) (show sml (bt b n (sk b n a + 2)) from ⟨by omega, by omega⟩), by omega, rd69⟩⟩
theorem m_pass13 {t n a : Nat} {b : Nat → Int} {τ : List Nat} {h : zh} (hg : hG τ h) (rd : rdM h n a b) (han : a ≤ n) (ft : ftM h 0 (-1)) : qI 8 175 [some (.inl (some 52)), some (.inl (some 2000013)), none] h t (fun y h1 => ∃ τ1, oF (fun k j => k ≠ 52 ∨ j ≠ 4) τ h τ1 h1 ∧ ((∃ a', sgn b n [40] a = some a' ∧ a' ≤ n ∧ y.toInt = 1 ∧ rdM h1 n a' b) ∨ (sgn b n [40] a = none ∧ y.toInt = 0 ∧ rdM h1 n (sk b n a) b))) := by
  obtain ⟨⟨xn, hn, en⟩, ⟨xa, ha, ea⟩, hb, hn2⟩ := id rd
  obtain ⟨⟨xf, hf6, ef⟩, xw, hw7, ew7⟩ := id ft
  refine qI_of ?_
  refine y_same (i := .aload_n 0) (len := 1) (r := (0, 0, 0, 0)) (pc' := 1) (ls' := [some (.inl (some 52)), some (.inl (some 2000013)), none]) (st' := [.inl (some 52)]) (by decide +kernel) (fun k q => by cases q) rfl ?_
  refine y_cI (i := .invokevirtual 114) (len := 3) (r := (0, 172, 12, 1502)) (nL := 1) (k := 2) (n := 1) (hs := []) (args := [.inl (some 52)]) (rest := []) (l0 := [some (.inl (some 52))]) (by decide +kernel) (Or.inr (Or.inl ⟨_, rfl⟩)) rfl rfl rfl rfl (Nat.le_of_ble_eq_true rfl) (z52 hg) rfl (qI_le (by decide) (m_fine (d := 0) hg ft)) (fun y100 qy100 hRy100 => ?_)
  obtain ⟨rfl, gy100, by100⟩ := hRy100
  have hy100 : y100.toInt = 1 := gy100 rfl
  refine y_iT (c := .ne) (off := 5) (pc' := 9) (len := 3) (r := (0, 0, 0, 0)) (by decide +kernel) (acmpT (c := .ne) (by show ¬ (_ = _); omega)) (by decide +kernel) ?_
  refine y_same (i := .aload_n 0) (len := 1) (r := (0, 0, 0, 0)) (pc' := 10) (ls' := [some (.inl (some 52)), some (.inl (some 2000013)), none]) (st' := [.inl (some 52)]) (by decide +kernel) (fun k q => by cases q) rfl ?_
  refine y_cI (i := .invokevirtual 118) (len := 3) (r := (0, 171, 12, 1506)) (nL := 1) (k := 1) (n := 1) (hs := []) (args := [.inl (some 52)]) (rest := []) (l0 := [some (.inl (some 52))]) (by decide +kernel) (Or.inr (Or.inl ⟨_, rfl⟩)) rfl rfl rfl rfl (Nat.le_of_ble_eq_true rfl) (z52 hg) rfl (qI_le (by decide) (m_here hg rd (by omega))) (fun y101 h101 hRy101 => ?_)
  obtain ⟨τ101, O101, hy101, rd101⟩ := hRy101
  have sl101 := sk_le (b := b) (n := n) (a := a) (by omega)
  obtain ⟨⟨xn101, hn101, en101⟩, ⟨xa101, ha101, ea101⟩, hb101, -⟩ := id rd101
  refine y_same (i := .pop) (len := 1) (r := (0, 0, 0, 0)) (pc' := 14) (ls' := [some (.inl (some 52)), some (.inl (some 2000013)), none]) (st' := []) (by decide +kernel) (fun k q => by cases q) rfl ?_
  refine y_ic (c := 0) (len := 1) (r := (0, 0, 0, 0)) (by decide +kernel) (by decide) (fun y102 hy102 => ?_)
  refine y_same (i := .istore_n 2) (len := 1) (r := (0, 0, 0, 0)) (pc' := 16) (ls' := [some (.inl (some 52)), some (.inl (some 2000013)), some (zi y102)]) (st' := []) (by decide +kernel) (fun k q => by cases q) rfl ?_
  refine y_same (i := .iload_n 2) (len := 1) (r := (0, 0, 0, 0)) (pc' := 17) (ls' := [some (.inl (some 52)), some (.inl (some 2000013)), some (zi y102)]) (st' := [zi y102]) (by decide +kernel) (fun k q => by cases q) rfl ?_
  refine y_same (i := .aload_n 1) (len := 1) (r := (0, 0, 0, 0)) (pc' := 18) (ls' := [some (.inl (some 52)), some (.inl (some 2000013)), some (zi y102)]) (st' := [.inl (some 2000013), zi y102]) (by decide +kernel) (fun k q => by cases q) rfl ?_
  refine y_cI (i := .invokevirtual 122) (len := 3) (r := (0, 268, 50, 1514)) (nL := 1) (k := 1) (n := 1) (hs := []) (args := [.inl (some 2000013)]) (rest := [zi y102]) (l0 := [some (.inl (some 2000013))]) (by decide +kernel) (Or.inr (Or.inl ⟨_, rfl⟩)) rfl rfl rfl rfl (Nat.le_of_ble_eq_true rfl) rfl rfl (qI_le (by decide) tln13) (fun y103 qy103 hRy103 => ?_)
  obtain ⟨rfl, hy103⟩ := hRy103
  refine y_cF (c := .ge) (off := 27) (len := 3) (r := (0, 0, 0, 0)) (by decide +kernel) (acmpF (c := .ge) (by show _ < _; omega)) ?_
  refine y_same (i := .aload_n 0) (len := 1) (r := (0, 0, 0, 0)) (pc' := 25) (ls' := [some (.inl (some 52)), some (.inl (some 2000013)), some (zi y102)]) (st' := [.inl (some 52)]) (by decide +kernel) (fun k q => by cases q) rfl ?_
  refine y_same (i := .aload_n 0) (len := 1) (r := (0, 0, 0, 0)) (pc' := 26) (ls' := [some (.inl (some 52)), some (.inl (some 2000013)), some (zi y102)]) (st' := [.inl (some 52), .inl (some 52)]) (by decide +kernel) (fun k q => by cases q) rfl ?_
  refine y_get (j := 101) (len := 3) (r := (12, 4, 0, 1332)) (by decide +kernel) O101.2.1 (t52 O101.2.1) at52 rfl rfl ha101 ?_
  refine y_same (i := .iload_n 2) (len := 1) (r := (0, 0, 0, 0)) (pc' := 30) (ls' := [some (.inl (some 52)), some (.inl (some 2000013)), some (zi y102)]) (st' := [zi y102, zi xa101, .inl (some 52)]) (by decide +kernel) (fun k q => by cases q) rfl ?_
  refine y_add (len := 1) (r := (0, 0, 0, 0)) (by decide +kernel) (by omega) (by omega) (fun y104 hy104 => ?_)
  refine y_cI (i := .invokevirtual 104) (len := 3) (r := (0, 170, 12, 1510)) (nL := 2) (k := 1) (n := 2) (hs := []) (args := [.inl (some 52), zi y104]) (rest := []) (l0 := [some (.inl (some 52)), some (zi y104)]) (by decide +kernel) (Or.inr (Or.inl ⟨_, rfl⟩)) rfl rfl rfl rfl (Nat.le_of_ble_eq_true rfl) (z52 O101.2.1) rfl (qI_le (by decide) (m_byte (d := 0) (k := (sk b n a)) O101.2.1 rd101 (by omega))) (fun y105 qy105 hRy105 => ?_)
  obtain ⟨rfl, hy105⟩ := hRy105
  refine y_same (i := .aload_n 1) (len := 1) (r := (0, 0, 0, 0)) (pc' := 35) (ls' := [some (.inl (some 52)), some (.inl (some 2000013)), some (zi y102)]) (st' := [.inl (some 2000013), zi y105]) (by decide +kernel) (fun k q => by cases q) rfl ?_
  refine y_same (i := .iload_n 2) (len := 1) (r := (0, 0, 0, 0)) (pc' := 36) (ls' := [some (.inl (some 52)), some (.inl (some 2000013)), some (zi y102)]) (st' := [zi y102, .inl (some 2000013), zi y105]) (by decide +kernel) (fun k q => by cases q) rfl ?_
  refine y_cI (i := .invokevirtual 127) (len := 3) (r := (0, 269, 50, 1515)) (nL := 2) (k := 5) (n := 2) (hs := []) (args := [.inl (some 2000013), zi y102]) (rest := [zi y105]) (l0 := [some (.inl (some 2000013)), some (zi y102)]) (by decide +kernel) (Or.inr (Or.inl ⟨_, rfl⟩)) rfl rfl rfl rfl (Nat.le_of_ble_eq_true rfl) rfl rfl (qI_le (by decide) (tch13_0 (by omega))) (fun y106 qy106 hRy106 => ?_)
  obtain ⟨rfl, hy106⟩ := hRy106
  rcases Decidable.em (y105.toInt ≠ y106.toInt) with q107 | q107
  ·
    refine y_cT (c := .ne) (off := 9) (pc' := 48) (len := 3) (r := (0, 0, 0, 0)) (by decide +kernel) (acmpT (c := .ne) (by show ¬ (_ = _); omega)) (by decide +kernel) ?_
    refine y_same (i := .iload_n 2) (len := 1) (r := (0, 0, 0, 0)) (pc' := 49) (ls' := [some (.inl (some 52)), some (.inl (some 2000013)), some (zi y102)]) (st' := [zi y102]) (by decide +kernel) (fun k q => by cases q) rfl ?_
    refine y_same (i := .aload_n 1) (len := 1) (r := (0, 0, 0, 0)) (pc' := 50) (ls' := [some (.inl (some 52)), some (.inl (some 2000013)), some (zi y102)]) (st' := [.inl (some 2000013), zi y102]) (by decide +kernel) (fun k q => by cases q) rfl ?_
    refine y_cI (i := .invokevirtual 122) (len := 3) (r := (0, 268, 50, 1514)) (nL := 1) (k := 1) (n := 1) (hs := []) (args := [.inl (some 2000013)]) (rest := [zi y102]) (l0 := [some (.inl (some 2000013))]) (by decide +kernel) (Or.inr (Or.inl ⟨_, rfl⟩)) rfl rfl rfl rfl (Nat.le_of_ble_eq_true rfl) rfl rfl (qI_le (by decide) tln13) (fun y108 qy108 hRy108 => ?_)
    obtain ⟨rfl, hy108⟩ := hRy108
    refine y_cT (c := .lt) (off := 30) (pc' := 83) (len := 3) (r := (0, 0, 0, 0)) (by decide +kernel) (acmpT (c := .lt) (by show _ < _; omega)) (by decide +kernel) ?_
    refine y_ic (c := 0) (len := 1) (r := (0, 0, 0, 0)) (by decide +kernel) (by decide) (fun y109 hy109 => ?_)
    refine y_rI (len := 1) (r := (0, 0, 0, 0)) (nL := 3) (k := 2) (n9 := 2) (hs := []) (by decide +kernel) rfl (zfit_b (by omega) (by omega)).2 ?_
    exact ⟨_, ⟨O101.1, O101.2.1, fun k T j hk (hC : k ≠ 52 ∨ j ≠ 4) => (O101.2.2 k T j hk (show k ≠ 52 ∨ j ≠ 4 by omega))⟩, Or.inr ⟨sgn_n (mt_n (by omega)), by omega, rd101⟩⟩
  ·
    refine y_cF (c := .ne) (off := 9) (len := 3) (r := (0, 0, 0, 0)) (by decide +kernel) (acmpF (c := .ne) (by show _ = _; omega)) ?_
    have m0 : bt b n (sk b n a) = 40 := by omega
    refine y_inc (j := 2) (a := y102) (c := 1) (ls' := fun v => [some (.inl (some 52)), some (.inl (some 2000013)), some v]) (len := 3) (r := (0, 0, 0, 0)) (by decide +kernel) rfl (fun _ => rfl) (by decide) (by omega) (by omega) (fun y110 hy110 => ?_)
    show qX 7 175 45 [some (.inl (some 52)), some (.inl (some 2000013)), some (zi y110)] [] h101 t _
    refine y_goto (off := (-29)) (pc' := 16) (len := 3) (r := (0, 0, 0, 0)) (by decide +kernel) (by decide +kernel) ?_
    refine y_same (i := .iload_n 2) (len := 1) (r := (0, 0, 0, 0)) (pc' := 17) (ls' := [some (.inl (some 52)), some (.inl (some 2000013)), some (zi y110)]) (st' := [zi y110]) (by decide +kernel) (fun k q => by cases q) rfl ?_
    refine y_same (i := .aload_n 1) (len := 1) (r := (0, 0, 0, 0)) (pc' := 18) (ls' := [some (.inl (some 52)), some (.inl (some 2000013)), some (zi y110)]) (st' := [.inl (some 2000013), zi y110]) (by decide +kernel) (fun k q => by cases q) rfl ?_
    refine y_cI (i := .invokevirtual 122) (len := 3) (r := (0, 268, 50, 1514)) (nL := 1) (k := 1) (n := 1) (hs := []) (args := [.inl (some 2000013)]) (rest := [zi y110]) (l0 := [some (.inl (some 2000013))]) (by decide +kernel) (Or.inr (Or.inl ⟨_, rfl⟩)) rfl rfl rfl rfl (Nat.le_of_ble_eq_true rfl) rfl rfl (qI_le (by decide) tln13) (fun y111 qy111 hRy111 => ?_)
    obtain ⟨rfl, hy111⟩ := hRy111
    refine y_cT (c := .ge) (off := 27) (pc' := 48) (len := 3) (r := (0, 0, 0, 0)) (by decide +kernel) (acmpT (c := .ge) (by show _ ≤ _; omega)) (by decide +kernel) ?_
    refine y_same (i := .iload_n 2) (len := 1) (r := (0, 0, 0, 0)) (pc' := 49) (ls' := [some (.inl (some 52)), some (.inl (some 2000013)), some (zi y110)]) (st' := [zi y110]) (by decide +kernel) (fun k q => by cases q) rfl ?_
    refine y_same (i := .aload_n 1) (len := 1) (r := (0, 0, 0, 0)) (pc' := 50) (ls' := [some (.inl (some 52)), some (.inl (some 2000013)), some (zi y110)]) (st' := [.inl (some 2000013), zi y110]) (by decide +kernel) (fun k q => by cases q) rfl ?_
    refine y_cI (i := .invokevirtual 122) (len := 3) (r := (0, 268, 50, 1514)) (nL := 1) (k := 1) (n := 1) (hs := []) (args := [.inl (some 2000013)]) (rest := [zi y110]) (l0 := [some (.inl (some 2000013))]) (by decide +kernel) (Or.inr (Or.inl ⟨_, rfl⟩)) rfl rfl rfl rfl (Nat.le_of_ble_eq_true rfl) rfl rfl (qI_le (by decide) tln13) (fun y112 qy112 hRy112 => ?_)
    obtain ⟨rfl, hy112⟩ := hRy112
    refine y_cF (c := .lt) (off := 30) (len := 3) (r := (0, 0, 0, 0)) (by decide +kernel) (acmpF (c := .lt) (by show _ ≤ _; omega)) ?_
    refine y_same (i := .aload_n 1) (len := 1) (r := (0, 0, 0, 0)) (pc' := 57) (ls' := [some (.inl (some 52)), some (.inl (some 2000013)), some (zi y110)]) (st' := [.inl (some 2000013)]) (by decide +kernel) (fun k q => by cases q) rfl ?_
    refine y_ic (c := 0) (len := 1) (r := (0, 0, 0, 0)) (by decide +kernel) (by decide) (fun y113 hy113 => ?_)
    refine y_cI (i := .invokevirtual 127) (len := 3) (r := (0, 269, 50, 1515)) (nL := 2) (k := 5) (n := 2) (hs := []) (args := [.inl (some 2000013), zi y113]) (rest := []) (l0 := [some (.inl (some 2000013)), some (zi y113)]) (by decide +kernel) (Or.inr (Or.inl ⟨_, rfl⟩)) rfl rfl rfl rfl (Nat.le_of_ble_eq_true rfl) rfl rfl (qI_le (by decide) (tch13_0 (by omega))) (fun y114 qy114 hRy114 => ?_)
    obtain ⟨rfl, hy114⟩ := hRy114
    refine y_cI (i := .invokestatic 131) (len := 3) (r := (1, 174, 12, 1516)) (nL := 1) (k := 2) (n := 1) (hs := []) (args := [zi y114]) (rest := []) (l0 := [some (zi y114)]) (by decide +kernel) (Or.inl ⟨_, rfl⟩) rfl rfl rfl rfl (Nat.le_of_ble_eq_true rfl) rfl rfl (qI_le (by decide) (m_small (d := 0))) (fun y115 qy115 hRy115 => ?_)
    obtain ⟨rfl, gy115, by115⟩ := hRy115
    refine y_iT (c := .eq) (off := 21) (pc' := 85) (len := 3) (r := (0, 0, 0, 0)) (by decide +kernel) (acmpT (c := .eq) (by show _ = _; omega)) (by decide +kernel) ?_
    have ml0 := mt_le (w := [40]) (mt_c (a' := sk b n a + 1) m0 (by omega) rfl) (by omega) (by decide)
    simp only [List.length_cons, List.length_nil] at ml0
    refine y_same (i := .aload_n 0) (len := 1) (r := (0, 0, 0, 0)) (pc' := 86) (ls' := [some (.inl (some 52)), some (.inl (some 2000013)), some (zi y110)]) (st' := [.inl (some 52)]) (by decide +kernel) (fun k q => by cases q) rfl ?_
    refine y_same (i := .dup) (len := 1) (r := (0, 0, 0, 0)) (pc' := 87) (ls' := [some (.inl (some 52)), some (.inl (some 2000013)), some (zi y110)]) (st' := [.inl (some 52), .inl (some 52)]) (by decide +kernel) (fun k q => by cases q) rfl ?_
    refine y_get (j := 101) (len := 3) (r := (12, 4, 0, 1332)) (by decide +kernel) O101.2.1 (t52 O101.2.1) at52 rfl rfl ha101 ?_
    refine y_same (i := .iload_n 2) (len := 1) (r := (0, 0, 0, 0)) (pc' := 91) (ls' := [some (.inl (some 52)), some (.inl (some 2000013)), some (zi y110)]) (st' := [zi y110, zi xa101, .inl (some 52)]) (by decide +kernel) (fun k q => by cases q) rfl ?_
    refine y_add (len := 1) (r := (0, 0, 0, 0)) (by decide +kernel) (by omega) (by omega) (fun y116 hy116 => ?_)
    refine y_put (j := 101) (lo := 0) (hi := 200) (len := 3) (r := (12, 4, 0, 1332)) (by decide +kernel) O101.2.1 (t52 O101.2.1) at52 rfl rfl (by decide) rfl (by omega) (by omega) rfl (fun h117 hg117 hl117 hs117 ho117 => ?_)
    have ho117 : hO 52 4 h101 h117 := ho117
    have hs117 : hsl h117 52 4 = some (zi y116) := hs117
    refine y_ic (c := 1) (len := 1) (r := (0, 0, 0, 0)) (by decide +kernel) (by decide) (fun y118 hy118 => ?_)
    refine y_rI (len := 1) (r := (0, 0, 0, 0)) (nL := 3) (k := 2) (n9 := 2) (hs := []) (by decide +kernel) rfl (zfit_b (by omega) (by omega)).2 ?_
    have ml := mt_le (w := [40]) (mt_c (a' := sk b n a + 1) m0 (by omega) rfl) (by omega) (by decide)
    simp only [List.length_cons, List.length_nil] at ml
    exact ⟨_, ⟨O101.1, hg117, fun k T j hk (hC : k ≠ 52 ∨ j ≠ 4) => ((ho117 k j (by omega)).trans (O101.2.2 k T j hk (show k ≠ 52 ∨ j ≠ 4 by omega)))⟩, Or.inl ⟨sk b n a + 1, sgn_y (w := [40]) (mt_c (a' := sk b n a + 1) m0 (by omega) rfl), by omega, by omega, (rdM_up rd101 (ho117 52 3 (Or.inr (by omega))) (fun j => (ho117 54 j (Or.inl (by omega)))) ⟨_, hs117, by omega⟩)⟩⟩
theorem m_pass14 {t n a : Nat} {b : Nat → Int} {τ : List Nat} {h : zh} (hg : hG τ h) (rd : rdM h n a b) (han : a ≤ n) (ft : ftM h 0 (-1)) : qI 8 175 [some (.inl (some 52)), some (.inl (some 2000014)), none] h t (fun y h1 => ∃ τ1, oF (fun k j => k ≠ 52 ∨ j ≠ 4) τ h τ1 h1 ∧ ((∃ a', sgn b n [44] a = some a' ∧ a' ≤ n ∧ y.toInt = 1 ∧ rdM h1 n a' b) ∨ (sgn b n [44] a = none ∧ y.toInt = 0 ∧ rdM h1 n (sk b n a) b))) := by
  obtain ⟨⟨xn, hn, en⟩, ⟨xa, ha, ea⟩, hb, hn2⟩ := id rd
  obtain ⟨⟨xf, hf6, ef⟩, xw, hw7, ew7⟩ := id ft
  refine qI_of ?_
  refine y_same (i := .aload_n 0) (len := 1) (r := (0, 0, 0, 0)) (pc' := 1) (ls' := [some (.inl (some 52)), some (.inl (some 2000014)), none]) (st' := [.inl (some 52)]) (by decide +kernel) (fun k q => by cases q) rfl ?_
  refine y_cI (i := .invokevirtual 114) (len := 3) (r := (0, 172, 12, 1502)) (nL := 1) (k := 2) (n := 1) (hs := []) (args := [.inl (some 52)]) (rest := []) (l0 := [some (.inl (some 52))]) (by decide +kernel) (Or.inr (Or.inl ⟨_, rfl⟩)) rfl rfl rfl rfl (Nat.le_of_ble_eq_true rfl) (z52 hg) rfl (qI_le (by decide) (m_fine (d := 0) hg ft)) (fun y119 qy119 hRy119 => ?_)
  obtain ⟨rfl, gy119, by119⟩ := hRy119
  have hy119 : y119.toInt = 1 := gy119 rfl
  refine y_iT (c := .ne) (off := 5) (pc' := 9) (len := 3) (r := (0, 0, 0, 0)) (by decide +kernel) (acmpT (c := .ne) (by show ¬ (_ = _); omega)) (by decide +kernel) ?_
  refine y_same (i := .aload_n 0) (len := 1) (r := (0, 0, 0, 0)) (pc' := 10) (ls' := [some (.inl (some 52)), some (.inl (some 2000014)), none]) (st' := [.inl (some 52)]) (by decide +kernel) (fun k q => by cases q) rfl ?_
  refine y_cI (i := .invokevirtual 118) (len := 3) (r := (0, 171, 12, 1506)) (nL := 1) (k := 1) (n := 1) (hs := []) (args := [.inl (some 52)]) (rest := []) (l0 := [some (.inl (some 52))]) (by decide +kernel) (Or.inr (Or.inl ⟨_, rfl⟩)) rfl rfl rfl rfl (Nat.le_of_ble_eq_true rfl) (z52 hg) rfl (qI_le (by decide) (m_here hg rd (by omega))) (fun y120 h120 hRy120 => ?_)
  obtain ⟨τ120, O120, hy120, rd120⟩ := hRy120
  have sl120 := sk_le (b := b) (n := n) (a := a) (by omega)
  obtain ⟨⟨xn120, hn120, en120⟩, ⟨xa120, ha120, ea120⟩, hb120, -⟩ := id rd120
  refine y_same (i := .pop) (len := 1) (r := (0, 0, 0, 0)) (pc' := 14) (ls' := [some (.inl (some 52)), some (.inl (some 2000014)), none]) (st' := []) (by decide +kernel) (fun k q => by cases q) rfl ?_
  refine y_ic (c := 0) (len := 1) (r := (0, 0, 0, 0)) (by decide +kernel) (by decide) (fun y121 hy121 => ?_)
  refine y_same (i := .istore_n 2) (len := 1) (r := (0, 0, 0, 0)) (pc' := 16) (ls' := [some (.inl (some 52)), some (.inl (some 2000014)), some (zi y121)]) (st' := []) (by decide +kernel) (fun k q => by cases q) rfl ?_
  refine y_same (i := .iload_n 2) (len := 1) (r := (0, 0, 0, 0)) (pc' := 17) (ls' := [some (.inl (some 52)), some (.inl (some 2000014)), some (zi y121)]) (st' := [zi y121]) (by decide +kernel) (fun k q => by cases q) rfl ?_
  refine y_same (i := .aload_n 1) (len := 1) (r := (0, 0, 0, 0)) (pc' := 18) (ls' := [some (.inl (some 52)), some (.inl (some 2000014)), some (zi y121)]) (st' := [.inl (some 2000014), zi y121]) (by decide +kernel) (fun k q => by cases q) rfl ?_
  refine y_cI (i := .invokevirtual 122) (len := 3) (r := (0, 268, 50, 1514)) (nL := 1) (k := 1) (n := 1) (hs := []) (args := [.inl (some 2000014)]) (rest := [zi y121]) (l0 := [some (.inl (some 2000014))]) (by decide +kernel) (Or.inr (Or.inl ⟨_, rfl⟩)) rfl rfl rfl rfl (Nat.le_of_ble_eq_true rfl) rfl rfl (qI_le (by decide) tln14) (fun y122 qy122 hRy122 => ?_)
  obtain ⟨rfl, hy122⟩ := hRy122
  refine y_cF (c := .ge) (off := 27) (len := 3) (r := (0, 0, 0, 0)) (by decide +kernel) (acmpF (c := .ge) (by show _ < _; omega)) ?_
  refine y_same (i := .aload_n 0) (len := 1) (r := (0, 0, 0, 0)) (pc' := 25) (ls' := [some (.inl (some 52)), some (.inl (some 2000014)), some (zi y121)]) (st' := [.inl (some 52)]) (by decide +kernel) (fun k q => by cases q) rfl ?_
  refine y_same (i := .aload_n 0) (len := 1) (r := (0, 0, 0, 0)) (pc' := 26) (ls' := [some (.inl (some 52)), some (.inl (some 2000014)), some (zi y121)]) (st' := [.inl (some 52), .inl (some 52)]) (by decide +kernel) (fun k q => by cases q) rfl ?_
  refine y_get (j := 101) (len := 3) (r := (12, 4, 0, 1332)) (by decide +kernel) O120.2.1 (t52 O120.2.1) at52 rfl rfl ha120 ?_
  refine y_same (i := .iload_n 2) (len := 1) (r := (0, 0, 0, 0)) (pc' := 30) (ls' := [some (.inl (some 52)), some (.inl (some 2000014)), some (zi y121)]) (st' := [zi y121, zi xa120, .inl (some 52)]) (by decide +kernel) (fun k q => by cases q) rfl ?_
  refine y_add (len := 1) (r := (0, 0, 0, 0)) (by decide +kernel) (by omega) (by omega) (fun y123 hy123 => ?_)
  refine y_cI (i := .invokevirtual 104) (len := 3) (r := (0, 170, 12, 1510)) (nL := 2) (k := 1) (n := 2) (hs := []) (args := [.inl (some 52), zi y123]) (rest := []) (l0 := [some (.inl (some 52)), some (zi y123)]) (by decide +kernel) (Or.inr (Or.inl ⟨_, rfl⟩)) rfl rfl rfl rfl (Nat.le_of_ble_eq_true rfl) (z52 O120.2.1) rfl (qI_le (by decide) (m_byte (d := 0) (k := (sk b n a)) O120.2.1 rd120 (by omega))) (fun y124 qy124 hRy124 => ?_)
  obtain ⟨rfl, hy124⟩ := hRy124
  refine y_same (i := .aload_n 1) (len := 1) (r := (0, 0, 0, 0)) (pc' := 35) (ls' := [some (.inl (some 52)), some (.inl (some 2000014)), some (zi y121)]) (st' := [.inl (some 2000014), zi y124]) (by decide +kernel) (fun k q => by cases q) rfl ?_
  refine y_same (i := .iload_n 2) (len := 1) (r := (0, 0, 0, 0)) (pc' := 36) (ls' := [some (.inl (some 52)), some (.inl (some 2000014)), some (zi y121)]) (st' := [zi y121, .inl (some 2000014), zi y124]) (by decide +kernel) (fun k q => by cases q) rfl ?_
  refine y_cI (i := .invokevirtual 127) (len := 3) (r := (0, 269, 50, 1515)) (nL := 2) (k := 5) (n := 2) (hs := []) (args := [.inl (some 2000014), zi y121]) (rest := [zi y124]) (l0 := [some (.inl (some 2000014)), some (zi y121)]) (by decide +kernel) (Or.inr (Or.inl ⟨_, rfl⟩)) rfl rfl rfl rfl (Nat.le_of_ble_eq_true rfl) rfl rfl (qI_le (by decide) (tch14_0 (by omega))) (fun y125 qy125 hRy125 => ?_)
  obtain ⟨rfl, hy125⟩ := hRy125
  rcases Decidable.em (y124.toInt ≠ y125.toInt) with q126 | q126
  ·
    refine y_cT (c := .ne) (off := 9) (pc' := 48) (len := 3) (r := (0, 0, 0, 0)) (by decide +kernel) (acmpT (c := .ne) (by show ¬ (_ = _); omega)) (by decide +kernel) ?_
    refine y_same (i := .iload_n 2) (len := 1) (r := (0, 0, 0, 0)) (pc' := 49) (ls' := [some (.inl (some 52)), some (.inl (some 2000014)), some (zi y121)]) (st' := [zi y121]) (by decide +kernel) (fun k q => by cases q) rfl ?_
    refine y_same (i := .aload_n 1) (len := 1) (r := (0, 0, 0, 0)) (pc' := 50) (ls' := [some (.inl (some 52)), some (.inl (some 2000014)), some (zi y121)]) (st' := [.inl (some 2000014), zi y121]) (by decide +kernel) (fun k q => by cases q) rfl ?_
    refine y_cI (i := .invokevirtual 122) (len := 3) (r := (0, 268, 50, 1514)) (nL := 1) (k := 1) (n := 1) (hs := []) (args := [.inl (some 2000014)]) (rest := [zi y121]) (l0 := [some (.inl (some 2000014))]) (by decide +kernel) (Or.inr (Or.inl ⟨_, rfl⟩)) rfl rfl rfl rfl (Nat.le_of_ble_eq_true rfl) rfl rfl (qI_le (by decide) tln14) (fun y127 qy127 hRy127 => ?_)
    obtain ⟨rfl, hy127⟩ := hRy127
    refine y_cT (c := .lt) (off := 30) (pc' := 83) (len := 3) (r := (0, 0, 0, 0)) (by decide +kernel) (acmpT (c := .lt) (by show _ < _; omega)) (by decide +kernel) ?_
    refine y_ic (c := 0) (len := 1) (r := (0, 0, 0, 0)) (by decide +kernel) (by decide) (fun y128 hy128 => ?_)
    refine y_rI (len := 1) (r := (0, 0, 0, 0)) (nL := 3) (k := 2) (n9 := 2) (hs := []) (by decide +kernel) rfl (zfit_b (by omega) (by omega)).2 ?_
    exact ⟨_, ⟨O120.1, O120.2.1, fun k T j hk (hC : k ≠ 52 ∨ j ≠ 4) => (O120.2.2 k T j hk (show k ≠ 52 ∨ j ≠ 4 by omega))⟩, Or.inr ⟨sgn_n (mt_n (by omega)), by omega, rd120⟩⟩
  ·
    refine y_cF (c := .ne) (off := 9) (len := 3) (r := (0, 0, 0, 0)) (by decide +kernel) (acmpF (c := .ne) (by show _ = _; omega)) ?_
    have m0 : bt b n (sk b n a) = 44 := by omega
    refine y_inc (j := 2) (a := y121) (c := 1) (ls' := fun v => [some (.inl (some 52)), some (.inl (some 2000014)), some v]) (len := 3) (r := (0, 0, 0, 0)) (by decide +kernel) rfl (fun _ => rfl) (by decide) (by omega) (by omega) (fun y129 hy129 => ?_)
    show qX 7 175 45 [some (.inl (some 52)), some (.inl (some 2000014)), some (zi y129)] [] h120 t _
    refine y_goto (off := (-29)) (pc' := 16) (len := 3) (r := (0, 0, 0, 0)) (by decide +kernel) (by decide +kernel) ?_
    refine y_same (i := .iload_n 2) (len := 1) (r := (0, 0, 0, 0)) (pc' := 17) (ls' := [some (.inl (some 52)), some (.inl (some 2000014)), some (zi y129)]) (st' := [zi y129]) (by decide +kernel) (fun k q => by cases q) rfl ?_
    refine y_same (i := .aload_n 1) (len := 1) (r := (0, 0, 0, 0)) (pc' := 18) (ls' := [some (.inl (some 52)), some (.inl (some 2000014)), some (zi y129)]) (st' := [.inl (some 2000014), zi y129]) (by decide +kernel) (fun k q => by cases q) rfl ?_
    refine y_cI (i := .invokevirtual 122) (len := 3) (r := (0, 268, 50, 1514)) (nL := 1) (k := 1) (n := 1) (hs := []) (args := [.inl (some 2000014)]) (rest := [zi y129]) (l0 := [some (.inl (some 2000014))]) (by decide +kernel) (Or.inr (Or.inl ⟨_, rfl⟩)) rfl rfl rfl rfl (Nat.le_of_ble_eq_true rfl) rfl rfl (qI_le (by decide) tln14) (fun y130 qy130 hRy130 => ?_)
    obtain ⟨rfl, hy130⟩ := hRy130
    refine y_cT (c := .ge) (off := 27) (pc' := 48) (len := 3) (r := (0, 0, 0, 0)) (by decide +kernel) (acmpT (c := .ge) (by show _ ≤ _; omega)) (by decide +kernel) ?_
    refine y_same (i := .iload_n 2) (len := 1) (r := (0, 0, 0, 0)) (pc' := 49) (ls' := [some (.inl (some 52)), some (.inl (some 2000014)), some (zi y129)]) (st' := [zi y129]) (by decide +kernel) (fun k q => by cases q) rfl ?_
    refine y_same (i := .aload_n 1) (len := 1) (r := (0, 0, 0, 0)) (pc' := 50) (ls' := [some (.inl (some 52)), some (.inl (some 2000014)), some (zi y129)]) (st' := [.inl (some 2000014), zi y129]) (by decide +kernel) (fun k q => by cases q) rfl ?_
    refine y_cI (i := .invokevirtual 122) (len := 3) (r := (0, 268, 50, 1514)) (nL := 1) (k := 1) (n := 1) (hs := []) (args := [.inl (some 2000014)]) (rest := [zi y129]) (l0 := [some (.inl (some 2000014))]) (by decide +kernel) (Or.inr (Or.inl ⟨_, rfl⟩)) rfl rfl rfl rfl (Nat.le_of_ble_eq_true rfl) rfl rfl (qI_le (by decide) tln14) (fun y131 qy131 hRy131 => ?_)
    obtain ⟨rfl, hy131⟩ := hRy131
    refine y_cF (c := .lt) (off := 30) (len := 3) (r := (0, 0, 0, 0)) (by decide +kernel) (acmpF (c := .lt) (by show _ ≤ _; omega)) ?_
    refine y_same (i := .aload_n 1) (len := 1) (r := (0, 0, 0, 0)) (pc' := 57) (ls' := [some (.inl (some 52)), some (.inl (some 2000014)), some (zi y129)]) (st' := [.inl (some 2000014)]) (by decide +kernel) (fun k q => by cases q) rfl ?_
    refine y_ic (c := 0) (len := 1) (r := (0, 0, 0, 0)) (by decide +kernel) (by decide) (fun y132 hy132 => ?_)
    refine y_cI (i := .invokevirtual 127) (len := 3) (r := (0, 269, 50, 1515)) (nL := 2) (k := 5) (n := 2) (hs := []) (args := [.inl (some 2000014), zi y132]) (rest := []) (l0 := [some (.inl (some 2000014)), some (zi y132)]) (by decide +kernel) (Or.inr (Or.inl ⟨_, rfl⟩)) rfl rfl rfl rfl (Nat.le_of_ble_eq_true rfl) rfl rfl (qI_le (by decide) (tch14_0 (by omega))) (fun y133 qy133 hRy133 => ?_)
    obtain ⟨rfl, hy133⟩ := hRy133
    refine y_cI (i := .invokestatic 131) (len := 3) (r := (1, 174, 12, 1516)) (nL := 1) (k := 2) (n := 1) (hs := []) (args := [zi y133]) (rest := []) (l0 := [some (zi y133)]) (by decide +kernel) (Or.inl ⟨_, rfl⟩) rfl rfl rfl rfl (Nat.le_of_ble_eq_true rfl) rfl rfl (qI_le (by decide) (m_small (d := 0))) (fun y134 qy134 hRy134 => ?_)
    obtain ⟨rfl, gy134, by134⟩ := hRy134
    refine y_iT (c := .eq) (off := 21) (pc' := 85) (len := 3) (r := (0, 0, 0, 0)) (by decide +kernel) (acmpT (c := .eq) (by show _ = _; omega)) (by decide +kernel) ?_
    have ml0 := mt_le (w := [44]) (mt_c (a' := sk b n a + 1) m0 (by omega) rfl) (by omega) (by decide)
    simp only [List.length_cons, List.length_nil] at ml0
    refine y_same (i := .aload_n 0) (len := 1) (r := (0, 0, 0, 0)) (pc' := 86) (ls' := [some (.inl (some 52)), some (.inl (some 2000014)), some (zi y129)]) (st' := [.inl (some 52)]) (by decide +kernel) (fun k q => by cases q) rfl ?_
    refine y_same (i := .dup) (len := 1) (r := (0, 0, 0, 0)) (pc' := 87) (ls' := [some (.inl (some 52)), some (.inl (some 2000014)), some (zi y129)]) (st' := [.inl (some 52), .inl (some 52)]) (by decide +kernel) (fun k q => by cases q) rfl ?_
    refine y_get (j := 101) (len := 3) (r := (12, 4, 0, 1332)) (by decide +kernel) O120.2.1 (t52 O120.2.1) at52 rfl rfl ha120 ?_
    refine y_same (i := .iload_n 2) (len := 1) (r := (0, 0, 0, 0)) (pc' := 91) (ls' := [some (.inl (some 52)), some (.inl (some 2000014)), some (zi y129)]) (st' := [zi y129, zi xa120, .inl (some 52)]) (by decide +kernel) (fun k q => by cases q) rfl ?_
    refine y_add (len := 1) (r := (0, 0, 0, 0)) (by decide +kernel) (by omega) (by omega) (fun y135 hy135 => ?_)
    refine y_put (j := 101) (lo := 0) (hi := 200) (len := 3) (r := (12, 4, 0, 1332)) (by decide +kernel) O120.2.1 (t52 O120.2.1) at52 rfl rfl (by decide) rfl (by omega) (by omega) rfl (fun h136 hg136 hl136 hs136 ho136 => ?_)
    have ho136 : hO 52 4 h120 h136 := ho136
    have hs136 : hsl h136 52 4 = some (zi y135) := hs136
    refine y_ic (c := 1) (len := 1) (r := (0, 0, 0, 0)) (by decide +kernel) (by decide) (fun y137 hy137 => ?_)
    refine y_rI (len := 1) (r := (0, 0, 0, 0)) (nL := 3) (k := 2) (n9 := 2) (hs := []) (by decide +kernel) rfl (zfit_b (by omega) (by omega)).2 ?_
    have ml := mt_le (w := [44]) (mt_c (a' := sk b n a + 1) m0 (by omega) rfl) (by omega) (by decide)
    simp only [List.length_cons, List.length_nil] at ml
    exact ⟨_, ⟨O120.1, hg136, fun k T j hk (hC : k ≠ 52 ∨ j ≠ 4) => ((ho136 k j (by omega)).trans (O120.2.2 k T j hk (show k ≠ 52 ∨ j ≠ 4 by omega)))⟩, Or.inl ⟨sk b n a + 1, sgn_y (w := [44]) (mt_c (a' := sk b n a + 1) m0 (by omega) rfl), by omega, by omega, (rdM_up rd120 (ho136 52 3 (Or.inr (by omega))) (fun j => (ho136 54 j (Or.inl (by omega)))) ⟨_, hs136, by omega⟩)⟩⟩
theorem m_pass15 {t n a : Nat} {b : Nat → Int} {τ : List Nat} {h : zh} (hg : hG τ h) (rd : rdM h n a b) (han : a ≤ n) (ft : ftM h 0 (-1)) : qI 8 175 [some (.inl (some 52)), some (.inl (some 2000015)), none] h t (fun y h1 => ∃ τ1, oF (fun k j => k ≠ 52 ∨ j ≠ 4) τ h τ1 h1 ∧ ((∃ a', sgn b n [41] a = some a' ∧ a' ≤ n ∧ y.toInt = 1 ∧ rdM h1 n a' b) ∨ (sgn b n [41] a = none ∧ y.toInt = 0 ∧ rdM h1 n (sk b n a) b))) := by
  obtain ⟨⟨xn, hn, en⟩, ⟨xa, ha, ea⟩, hb, hn2⟩ := id rd
  obtain ⟨⟨xf, hf6, ef⟩, xw, hw7, ew7⟩ := id ft
  refine qI_of ?_
  refine y_same (i := .aload_n 0) (len := 1) (r := (0, 0, 0, 0)) (pc' := 1) (ls' := [some (.inl (some 52)), some (.inl (some 2000015)), none]) (st' := [.inl (some 52)]) (by decide +kernel) (fun k q => by cases q) rfl ?_
  refine y_cI (i := .invokevirtual 114) (len := 3) (r := (0, 172, 12, 1502)) (nL := 1) (k := 2) (n := 1) (hs := []) (args := [.inl (some 52)]) (rest := []) (l0 := [some (.inl (some 52))]) (by decide +kernel) (Or.inr (Or.inl ⟨_, rfl⟩)) rfl rfl rfl rfl (Nat.le_of_ble_eq_true rfl) (z52 hg) rfl (qI_le (by decide) (m_fine (d := 0) hg ft)) (fun y138 qy138 hRy138 => ?_)
  obtain ⟨rfl, gy138, by138⟩ := hRy138
  have hy138 : y138.toInt = 1 := gy138 rfl
  refine y_iT (c := .ne) (off := 5) (pc' := 9) (len := 3) (r := (0, 0, 0, 0)) (by decide +kernel) (acmpT (c := .ne) (by show ¬ (_ = _); omega)) (by decide +kernel) ?_
  refine y_same (i := .aload_n 0) (len := 1) (r := (0, 0, 0, 0)) (pc' := 10) (ls' := [some (.inl (some 52)), some (.inl (some 2000015)), none]) (st' := [.inl (some 52)]) (by decide +kernel) (fun k q => by cases q) rfl ?_
  refine y_cI (i := .invokevirtual 118) (len := 3) (r := (0, 171, 12, 1506)) (nL := 1) (k := 1) (n := 1) (hs := []) (args := [.inl (some 52)]) (rest := []) (l0 := [some (.inl (some 52))]) (by decide +kernel) (Or.inr (Or.inl ⟨_, rfl⟩)) rfl rfl rfl rfl (Nat.le_of_ble_eq_true rfl) (z52 hg) rfl (qI_le (by decide) (m_here hg rd (by omega))) (fun y139 h139 hRy139 => ?_)
  obtain ⟨τ139, O139, hy139, rd139⟩ := hRy139
  have sl139 := sk_le (b := b) (n := n) (a := a) (by omega)
  obtain ⟨⟨xn139, hn139, en139⟩, ⟨xa139, ha139, ea139⟩, hb139, -⟩ := id rd139
  refine y_same (i := .pop) (len := 1) (r := (0, 0, 0, 0)) (pc' := 14) (ls' := [some (.inl (some 52)), some (.inl (some 2000015)), none]) (st' := []) (by decide +kernel) (fun k q => by cases q) rfl ?_
  refine y_ic (c := 0) (len := 1) (r := (0, 0, 0, 0)) (by decide +kernel) (by decide) (fun y140 hy140 => ?_)
  refine y_same (i := .istore_n 2) (len := 1) (r := (0, 0, 0, 0)) (pc' := 16) (ls' := [some (.inl (some 52)), some (.inl (some 2000015)), some (zi y140)]) (st' := []) (by decide +kernel) (fun k q => by cases q) rfl ?_
  refine y_same (i := .iload_n 2) (len := 1) (r := (0, 0, 0, 0)) (pc' := 17) (ls' := [some (.inl (some 52)), some (.inl (some 2000015)), some (zi y140)]) (st' := [zi y140]) (by decide +kernel) (fun k q => by cases q) rfl ?_
  refine y_same (i := .aload_n 1) (len := 1) (r := (0, 0, 0, 0)) (pc' := 18) (ls' := [some (.inl (some 52)), some (.inl (some 2000015)), some (zi y140)]) (st' := [.inl (some 2000015), zi y140]) (by decide +kernel) (fun k q => by cases q) rfl ?_
  refine y_cI (i := .invokevirtual 122) (len := 3) (r := (0, 268, 50, 1514)) (nL := 1) (k := 1) (n := 1) (hs := []) (args := [.inl (some 2000015)]) (rest := [zi y140]) (l0 := [some (.inl (some 2000015))]) (by decide +kernel) (Or.inr (Or.inl ⟨_, rfl⟩)) rfl rfl rfl rfl (Nat.le_of_ble_eq_true rfl) rfl rfl (qI_le (by decide) tln15) (fun y141 qy141 hRy141 => ?_)
  obtain ⟨rfl, hy141⟩ := hRy141
  refine y_cF (c := .ge) (off := 27) (len := 3) (r := (0, 0, 0, 0)) (by decide +kernel) (acmpF (c := .ge) (by show _ < _; omega)) ?_
  refine y_same (i := .aload_n 0) (len := 1) (r := (0, 0, 0, 0)) (pc' := 25) (ls' := [some (.inl (some 52)), some (.inl (some 2000015)), some (zi y140)]) (st' := [.inl (some 52)]) (by decide +kernel) (fun k q => by cases q) rfl ?_
  refine y_same (i := .aload_n 0) (len := 1) (r := (0, 0, 0, 0)) (pc' := 26) (ls' := [some (.inl (some 52)), some (.inl (some 2000015)), some (zi y140)]) (st' := [.inl (some 52), .inl (some 52)]) (by decide +kernel) (fun k q => by cases q) rfl ?_
  refine y_get (j := 101) (len := 3) (r := (12, 4, 0, 1332)) (by decide +kernel) O139.2.1 (t52 O139.2.1) at52 rfl rfl ha139 ?_
  refine y_same (i := .iload_n 2) (len := 1) (r := (0, 0, 0, 0)) (pc' := 30) (ls' := [some (.inl (some 52)), some (.inl (some 2000015)), some (zi y140)]) (st' := [zi y140, zi xa139, .inl (some 52)]) (by decide +kernel) (fun k q => by cases q) rfl ?_
  refine y_add (len := 1) (r := (0, 0, 0, 0)) (by decide +kernel) (by omega) (by omega) (fun y142 hy142 => ?_)
  refine y_cI (i := .invokevirtual 104) (len := 3) (r := (0, 170, 12, 1510)) (nL := 2) (k := 1) (n := 2) (hs := []) (args := [.inl (some 52), zi y142]) (rest := []) (l0 := [some (.inl (some 52)), some (zi y142)]) (by decide +kernel) (Or.inr (Or.inl ⟨_, rfl⟩)) rfl rfl rfl rfl (Nat.le_of_ble_eq_true rfl) (z52 O139.2.1) rfl (qI_le (by decide) (m_byte (d := 0) (k := (sk b n a)) O139.2.1 rd139 (by omega))) (fun y143 qy143 hRy143 => ?_)
  obtain ⟨rfl, hy143⟩ := hRy143
  refine y_same (i := .aload_n 1) (len := 1) (r := (0, 0, 0, 0)) (pc' := 35) (ls' := [some (.inl (some 52)), some (.inl (some 2000015)), some (zi y140)]) (st' := [.inl (some 2000015), zi y143]) (by decide +kernel) (fun k q => by cases q) rfl ?_
  refine y_same (i := .iload_n 2) (len := 1) (r := (0, 0, 0, 0)) (pc' := 36) (ls' := [some (.inl (some 52)), some (.inl (some 2000015)), some (zi y140)]) (st' := [zi y140, .inl (some 2000015), zi y143]) (by decide +kernel) (fun k q => by cases q) rfl ?_
  refine y_cI (i := .invokevirtual 127) (len := 3) (r := (0, 269, 50, 1515)) (nL := 2) (k := 5) (n := 2) (hs := []) (args := [.inl (some 2000015), zi y140]) (rest := [zi y143]) (l0 := [some (.inl (some 2000015)), some (zi y140)]) (by decide +kernel) (Or.inr (Or.inl ⟨_, rfl⟩)) rfl rfl rfl rfl (Nat.le_of_ble_eq_true rfl) rfl rfl (qI_le (by decide) (tch15_0 (by omega))) (fun y144 qy144 hRy144 => ?_)
  obtain ⟨rfl, hy144⟩ := hRy144
  rcases Decidable.em (y143.toInt ≠ y144.toInt) with q145 | q145
  ·
    refine y_cT (c := .ne) (off := 9) (pc' := 48) (len := 3) (r := (0, 0, 0, 0)) (by decide +kernel) (acmpT (c := .ne) (by show ¬ (_ = _); omega)) (by decide +kernel) ?_
    refine y_same (i := .iload_n 2) (len := 1) (r := (0, 0, 0, 0)) (pc' := 49) (ls' := [some (.inl (some 52)), some (.inl (some 2000015)), some (zi y140)]) (st' := [zi y140]) (by decide +kernel) (fun k q => by cases q) rfl ?_
    refine y_same (i := .aload_n 1) (len := 1) (r := (0, 0, 0, 0)) (pc' := 50) (ls' := [some (.inl (some 52)), some (.inl (some 2000015)), some (zi y140)]) (st' := [.inl (some 2000015), zi y140]) (by decide +kernel) (fun k q => by cases q) rfl ?_
    refine y_cI (i := .invokevirtual 122) (len := 3) (r := (0, 268, 50, 1514)) (nL := 1) (k := 1) (n := 1) (hs := []) (args := [.inl (some 2000015)]) (rest := [zi y140]) (l0 := [some (.inl (some 2000015))]) (by decide +kernel) (Or.inr (Or.inl ⟨_, rfl⟩)) rfl rfl rfl rfl (Nat.le_of_ble_eq_true rfl) rfl rfl (qI_le (by decide) tln15) (fun y146 qy146 hRy146 => ?_)
    obtain ⟨rfl, hy146⟩ := hRy146
    refine y_cT (c := .lt) (off := 30) (pc' := 83) (len := 3) (r := (0, 0, 0, 0)) (by decide +kernel) (acmpT (c := .lt) (by show _ < _; omega)) (by decide +kernel) ?_
    refine y_ic (c := 0) (len := 1) (r := (0, 0, 0, 0)) (by decide +kernel) (by decide) (fun y147 hy147 => ?_)
    refine y_rI (len := 1) (r := (0, 0, 0, 0)) (nL := 3) (k := 2) (n9 := 2) (hs := []) (by decide +kernel) rfl (zfit_b (by omega) (by omega)).2 ?_
    exact ⟨_, ⟨O139.1, O139.2.1, fun k T j hk (hC : k ≠ 52 ∨ j ≠ 4) => (O139.2.2 k T j hk (show k ≠ 52 ∨ j ≠ 4 by omega))⟩, Or.inr ⟨sgn_n (mt_n (by omega)), by omega, rd139⟩⟩
  ·
    refine y_cF (c := .ne) (off := 9) (len := 3) (r := (0, 0, 0, 0)) (by decide +kernel) (acmpF (c := .ne) (by show _ = _; omega)) ?_
    have m0 : bt b n (sk b n a) = 41 := by omega
    refine y_inc (j := 2) (a := y140) (c := 1) (ls' := fun v => [some (.inl (some 52)), some (.inl (some 2000015)), some v]) (len := 3) (r := (0, 0, 0, 0)) (by decide +kernel) rfl (fun _ => rfl) (by decide) (by omega) (by omega) (fun y148 hy148 => ?_)
    show qX 7 175 45 [some (.inl (some 52)), some (.inl (some 2000015)), some (zi y148)] [] h139 t _
    refine y_goto (off := (-29)) (pc' := 16) (len := 3) (r := (0, 0, 0, 0)) (by decide +kernel) (by decide +kernel) ?_
    refine y_same (i := .iload_n 2) (len := 1) (r := (0, 0, 0, 0)) (pc' := 17) (ls' := [some (.inl (some 52)), some (.inl (some 2000015)), some (zi y148)]) (st' := [zi y148]) (by decide +kernel) (fun k q => by cases q) rfl ?_
    refine y_same (i := .aload_n 1) (len := 1) (r := (0, 0, 0, 0)) (pc' := 18) (ls' := [some (.inl (some 52)), some (.inl (some 2000015)), some (zi y148)]) (st' := [.inl (some 2000015), zi y148]) (by decide +kernel) (fun k q => by cases q) rfl ?_
    refine y_cI (i := .invokevirtual 122) (len := 3) (r := (0, 268, 50, 1514)) (nL := 1) (k := 1) (n := 1) (hs := []) (args := [.inl (some 2000015)]) (rest := [zi y148]) (l0 := [some (.inl (some 2000015))]) (by decide +kernel) (Or.inr (Or.inl ⟨_, rfl⟩)) rfl rfl rfl rfl (Nat.le_of_ble_eq_true rfl) rfl rfl (qI_le (by decide) tln15) (fun y149 qy149 hRy149 => ?_)
    obtain ⟨rfl, hy149⟩ := hRy149
    refine y_cT (c := .ge) (off := 27) (pc' := 48) (len := 3) (r := (0, 0, 0, 0)) (by decide +kernel) (acmpT (c := .ge) (by show _ ≤ _; omega)) (by decide +kernel) ?_
    refine y_same (i := .iload_n 2) (len := 1) (r := (0, 0, 0, 0)) (pc' := 49) (ls' := [some (.inl (some 52)), some (.inl (some 2000015)), some (zi y148)]) (st' := [zi y148]) (by decide +kernel) (fun k q => by cases q) rfl ?_
    refine y_same (i := .aload_n 1) (len := 1) (r := (0, 0, 0, 0)) (pc' := 50) (ls' := [some (.inl (some 52)), some (.inl (some 2000015)), some (zi y148)]) (st' := [.inl (some 2000015), zi y148]) (by decide +kernel) (fun k q => by cases q) rfl ?_
    refine y_cI (i := .invokevirtual 122) (len := 3) (r := (0, 268, 50, 1514)) (nL := 1) (k := 1) (n := 1) (hs := []) (args := [.inl (some 2000015)]) (rest := [zi y148]) (l0 := [some (.inl (some 2000015))]) (by decide +kernel) (Or.inr (Or.inl ⟨_, rfl⟩)) rfl rfl rfl rfl (Nat.le_of_ble_eq_true rfl) rfl rfl (qI_le (by decide) tln15) (fun y150 qy150 hRy150 => ?_)
    obtain ⟨rfl, hy150⟩ := hRy150
    refine y_cF (c := .lt) (off := 30) (len := 3) (r := (0, 0, 0, 0)) (by decide +kernel) (acmpF (c := .lt) (by show _ ≤ _; omega)) ?_
    refine y_same (i := .aload_n 1) (len := 1) (r := (0, 0, 0, 0)) (pc' := 57) (ls' := [some (.inl (some 52)), some (.inl (some 2000015)), some (zi y148)]) (st' := [.inl (some 2000015)]) (by decide +kernel) (fun k q => by cases q) rfl ?_
    refine y_ic (c := 0) (len := 1) (r := (0, 0, 0, 0)) (by decide +kernel) (by decide) (fun y151 hy151 => ?_)
    refine y_cI (i := .invokevirtual 127) (len := 3) (r := (0, 269, 50, 1515)) (nL := 2) (k := 5) (n := 2) (hs := []) (args := [.inl (some 2000015), zi y151]) (rest := []) (l0 := [some (.inl (some 2000015)), some (zi y151)]) (by decide +kernel) (Or.inr (Or.inl ⟨_, rfl⟩)) rfl rfl rfl rfl (Nat.le_of_ble_eq_true rfl) rfl rfl (qI_le (by decide) (tch15_0 (by omega))) (fun y152 qy152 hRy152 => ?_)
    obtain ⟨rfl, hy152⟩ := hRy152
    refine y_cI (i := .invokestatic 131) (len := 3) (r := (1, 174, 12, 1516)) (nL := 1) (k := 2) (n := 1) (hs := []) (args := [zi y152]) (rest := []) (l0 := [some (zi y152)]) (by decide +kernel) (Or.inl ⟨_, rfl⟩) rfl rfl rfl rfl (Nat.le_of_ble_eq_true rfl) rfl rfl (qI_le (by decide) (m_small (d := 0))) (fun y153 qy153 hRy153 => ?_)
    obtain ⟨rfl, gy153, by153⟩ := hRy153
    refine y_iT (c := .eq) (off := 21) (pc' := 85) (len := 3) (r := (0, 0, 0, 0)) (by decide +kernel) (acmpT (c := .eq) (by show _ = _; omega)) (by decide +kernel) ?_
    have ml0 := mt_le (w := [41]) (mt_c (a' := sk b n a + 1) m0 (by omega) rfl) (by omega) (by decide)
    simp only [List.length_cons, List.length_nil] at ml0
    refine y_same (i := .aload_n 0) (len := 1) (r := (0, 0, 0, 0)) (pc' := 86) (ls' := [some (.inl (some 52)), some (.inl (some 2000015)), some (zi y148)]) (st' := [.inl (some 52)]) (by decide +kernel) (fun k q => by cases q) rfl ?_
    refine y_same (i := .dup) (len := 1) (r := (0, 0, 0, 0)) (pc' := 87) (ls' := [some (.inl (some 52)), some (.inl (some 2000015)), some (zi y148)]) (st' := [.inl (some 52), .inl (some 52)]) (by decide +kernel) (fun k q => by cases q) rfl ?_
    refine y_get (j := 101) (len := 3) (r := (12, 4, 0, 1332)) (by decide +kernel) O139.2.1 (t52 O139.2.1) at52 rfl rfl ha139 ?_
    refine y_same (i := .iload_n 2) (len := 1) (r := (0, 0, 0, 0)) (pc' := 91) (ls' := [some (.inl (some 52)), some (.inl (some 2000015)), some (zi y148)]) (st' := [zi y148, zi xa139, .inl (some 52)]) (by decide +kernel) (fun k q => by cases q) rfl ?_
    refine y_add (len := 1) (r := (0, 0, 0, 0)) (by decide +kernel) (by omega) (by omega) (fun y154 hy154 => ?_)
    refine y_put (j := 101) (lo := 0) (hi := 200) (len := 3) (r := (12, 4, 0, 1332)) (by decide +kernel) O139.2.1 (t52 O139.2.1) at52 rfl rfl (by decide) rfl (by omega) (by omega) rfl (fun h155 hg155 hl155 hs155 ho155 => ?_)
    have ho155 : hO 52 4 h139 h155 := ho155
    have hs155 : hsl h155 52 4 = some (zi y154) := hs155
    refine y_ic (c := 1) (len := 1) (r := (0, 0, 0, 0)) (by decide +kernel) (by decide) (fun y156 hy156 => ?_)
    refine y_rI (len := 1) (r := (0, 0, 0, 0)) (nL := 3) (k := 2) (n9 := 2) (hs := []) (by decide +kernel) rfl (zfit_b (by omega) (by omega)).2 ?_
    have ml := mt_le (w := [41]) (mt_c (a' := sk b n a + 1) m0 (by omega) rfl) (by omega) (by decide)
    simp only [List.length_cons, List.length_nil] at ml
    exact ⟨_, ⟨O139.1, hg155, fun k T j hk (hC : k ≠ 52 ∨ j ≠ 4) => ((ho155 k j (by omega)).trans (O139.2.2 k T j hk (show k ≠ 52 ∨ j ≠ 4 by omega)))⟩, Or.inl ⟨sk b n a + 1, sgn_y (w := [41]) (mt_c (a' := sk b n a + 1) m0 (by omega) rfl), by omega, by omega, (rdM_up rd139 (ho155 52 3 (Or.inr (by omega))) (fun j => (ho155 54 j (Or.inl (by omega)))) ⟨_, hs155, by omega⟩)⟩⟩
theorem m_pass16 {t n a : Nat} {b : Nat → Int} {τ : List Nat} {h : zh} (hg : hG τ h) (rd : rdM h n a b) (han : a ≤ n) (ft : ftM h 0 (-1)) : qI 8 175 [some (.inl (some 52)), some (.inl (some 2000016)), none] h t (fun y h1 => ∃ τ1, oF (fun k j => k ≠ 52 ∨ j ≠ 4) τ h τ1 h1 ∧ ((∃ a', wrd b n wTree a = some a' ∧ a' ≤ n ∧ y.toInt = 1 ∧ rdM h1 n a' b) ∨ (wrd b n wTree a = none ∧ y.toInt = 0 ∧ rdM h1 n (sk b n a) b))) := by
  obtain ⟨⟨xn, hn, en⟩, ⟨xa, ha, ea⟩, hb, hn2⟩ := id rd
  obtain ⟨⟨xf, hf6, ef⟩, xw, hw7, ew7⟩ := id ft
  refine qI_of ?_
  refine y_same (i := .aload_n 0) (len := 1) (r := (0, 0, 0, 0)) (pc' := 1) (ls' := [some (.inl (some 52)), some (.inl (some 2000016)), none]) (st' := [.inl (some 52)]) (by decide +kernel) (fun k q => by cases q) rfl ?_
  refine y_cI (i := .invokevirtual 114) (len := 3) (r := (0, 172, 12, 1502)) (nL := 1) (k := 2) (n := 1) (hs := []) (args := [.inl (some 52)]) (rest := []) (l0 := [some (.inl (some 52))]) (by decide +kernel) (Or.inr (Or.inl ⟨_, rfl⟩)) rfl rfl rfl rfl (Nat.le_of_ble_eq_true rfl) (z52 hg) rfl (qI_le (by decide) (m_fine (d := 0) hg ft)) (fun y157 qy157 hRy157 => ?_)
  obtain ⟨rfl, gy157, by157⟩ := hRy157
  have hy157 : y157.toInt = 1 := gy157 rfl
  refine y_iT (c := .ne) (off := 5) (pc' := 9) (len := 3) (r := (0, 0, 0, 0)) (by decide +kernel) (acmpT (c := .ne) (by show ¬ (_ = _); omega)) (by decide +kernel) ?_
  refine y_same (i := .aload_n 0) (len := 1) (r := (0, 0, 0, 0)) (pc' := 10) (ls' := [some (.inl (some 52)), some (.inl (some 2000016)), none]) (st' := [.inl (some 52)]) (by decide +kernel) (fun k q => by cases q) rfl ?_
  refine y_cI (i := .invokevirtual 118) (len := 3) (r := (0, 171, 12, 1506)) (nL := 1) (k := 1) (n := 1) (hs := []) (args := [.inl (some 52)]) (rest := []) (l0 := [some (.inl (some 52))]) (by decide +kernel) (Or.inr (Or.inl ⟨_, rfl⟩)) rfl rfl rfl rfl (Nat.le_of_ble_eq_true rfl) (z52 hg) rfl (qI_le (by decide) (m_here hg rd (by omega))) (fun y158 h158 hRy158 => ?_)
  obtain ⟨τ158, O158, hy158, rd158⟩ := hRy158
  have sl158 := sk_le (b := b) (n := n) (a := a) (by omega)
  obtain ⟨⟨xn158, hn158, en158⟩, ⟨xa158, ha158, ea158⟩, hb158, -⟩ := id rd158
  refine y_same (i := .pop) (len := 1) (r := (0, 0, 0, 0)) (pc' := 14) (ls' := [some (.inl (some 52)), some (.inl (some 2000016)), none]) (st' := []) (by decide +kernel) (fun k q => by cases q) rfl ?_
  refine y_ic (c := 0) (len := 1) (r := (0, 0, 0, 0)) (by decide +kernel) (by decide) (fun y159 hy159 => ?_)
  refine y_same (i := .istore_n 2) (len := 1) (r := (0, 0, 0, 0)) (pc' := 16) (ls' := [some (.inl (some 52)), some (.inl (some 2000016)), some (zi y159)]) (st' := []) (by decide +kernel) (fun k q => by cases q) rfl ?_
  refine y_same (i := .iload_n 2) (len := 1) (r := (0, 0, 0, 0)) (pc' := 17) (ls' := [some (.inl (some 52)), some (.inl (some 2000016)), some (zi y159)]) (st' := [zi y159]) (by decide +kernel) (fun k q => by cases q) rfl ?_
  refine y_same (i := .aload_n 1) (len := 1) (r := (0, 0, 0, 0)) (pc' := 18) (ls' := [some (.inl (some 52)), some (.inl (some 2000016)), some (zi y159)]) (st' := [.inl (some 2000016), zi y159]) (by decide +kernel) (fun k q => by cases q) rfl ?_
  refine y_cI (i := .invokevirtual 122) (len := 3) (r := (0, 268, 50, 1514)) (nL := 1) (k := 1) (n := 1) (hs := []) (args := [.inl (some 2000016)]) (rest := [zi y159]) (l0 := [some (.inl (some 2000016))]) (by decide +kernel) (Or.inr (Or.inl ⟨_, rfl⟩)) rfl rfl rfl rfl (Nat.le_of_ble_eq_true rfl) rfl rfl (qI_le (by decide) tln16) (fun y160 qy160 hRy160 => ?_)
  obtain ⟨rfl, hy160⟩ := hRy160
  refine y_cF (c := .ge) (off := 27) (len := 3) (r := (0, 0, 0, 0)) (by decide +kernel) (acmpF (c := .ge) (by show _ < _; omega)) ?_
  refine y_same (i := .aload_n 0) (len := 1) (r := (0, 0, 0, 0)) (pc' := 25) (ls' := [some (.inl (some 52)), some (.inl (some 2000016)), some (zi y159)]) (st' := [.inl (some 52)]) (by decide +kernel) (fun k q => by cases q) rfl ?_
  refine y_same (i := .aload_n 0) (len := 1) (r := (0, 0, 0, 0)) (pc' := 26) (ls' := [some (.inl (some 52)), some (.inl (some 2000016)), some (zi y159)]) (st' := [.inl (some 52), .inl (some 52)]) (by decide +kernel) (fun k q => by cases q) rfl ?_
  refine y_get (j := 101) (len := 3) (r := (12, 4, 0, 1332)) (by decide +kernel) O158.2.1 (t52 O158.2.1) at52 rfl rfl ha158 ?_
  refine y_same (i := .iload_n 2) (len := 1) (r := (0, 0, 0, 0)) (pc' := 30) (ls' := [some (.inl (some 52)), some (.inl (some 2000016)), some (zi y159)]) (st' := [zi y159, zi xa158, .inl (some 52)]) (by decide +kernel) (fun k q => by cases q) rfl ?_
  refine y_add (len := 1) (r := (0, 0, 0, 0)) (by decide +kernel) (by omega) (by omega) (fun y161 hy161 => ?_)
  refine y_cI (i := .invokevirtual 104) (len := 3) (r := (0, 170, 12, 1510)) (nL := 2) (k := 1) (n := 2) (hs := []) (args := [.inl (some 52), zi y161]) (rest := []) (l0 := [some (.inl (some 52)), some (zi y161)]) (by decide +kernel) (Or.inr (Or.inl ⟨_, rfl⟩)) rfl rfl rfl rfl (Nat.le_of_ble_eq_true rfl) (z52 O158.2.1) rfl (qI_le (by decide) (m_byte (d := 0) (k := (sk b n a)) O158.2.1 rd158 (by omega))) (fun y162 qy162 hRy162 => ?_)
  obtain ⟨rfl, hy162⟩ := hRy162
  refine y_same (i := .aload_n 1) (len := 1) (r := (0, 0, 0, 0)) (pc' := 35) (ls' := [some (.inl (some 52)), some (.inl (some 2000016)), some (zi y159)]) (st' := [.inl (some 2000016), zi y162]) (by decide +kernel) (fun k q => by cases q) rfl ?_
  refine y_same (i := .iload_n 2) (len := 1) (r := (0, 0, 0, 0)) (pc' := 36) (ls' := [some (.inl (some 52)), some (.inl (some 2000016)), some (zi y159)]) (st' := [zi y159, .inl (some 2000016), zi y162]) (by decide +kernel) (fun k q => by cases q) rfl ?_
  refine y_cI (i := .invokevirtual 127) (len := 3) (r := (0, 269, 50, 1515)) (nL := 2) (k := 5) (n := 2) (hs := []) (args := [.inl (some 2000016), zi y159]) (rest := [zi y162]) (l0 := [some (.inl (some 2000016)), some (zi y159)]) (by decide +kernel) (Or.inr (Or.inl ⟨_, rfl⟩)) rfl rfl rfl rfl (Nat.le_of_ble_eq_true rfl) rfl rfl (qI_le (by decide) (tch16_0 (by omega))) (fun y163 qy163 hRy163 => ?_)
  obtain ⟨rfl, hy163⟩ := hRy163
  rcases Decidable.em (y162.toInt ≠ y163.toInt) with q164 | q164
  ·
    refine y_cT (c := .ne) (off := 9) (pc' := 48) (len := 3) (r := (0, 0, 0, 0)) (by decide +kernel) (acmpT (c := .ne) (by show ¬ (_ = _); omega)) (by decide +kernel) ?_
    refine y_same (i := .iload_n 2) (len := 1) (r := (0, 0, 0, 0)) (pc' := 49) (ls' := [some (.inl (some 52)), some (.inl (some 2000016)), some (zi y159)]) (st' := [zi y159]) (by decide +kernel) (fun k q => by cases q) rfl ?_
    refine y_same (i := .aload_n 1) (len := 1) (r := (0, 0, 0, 0)) (pc' := 50) (ls' := [some (.inl (some 52)), some (.inl (some 2000016)), some (zi y159)]) (st' := [.inl (some 2000016), zi y159]) (by decide +kernel) (fun k q => by cases q) rfl ?_
    refine y_cI (i := .invokevirtual 122) (len := 3) (r := (0, 268, 50, 1514)) (nL := 1) (k := 1) (n := 1) (hs := []) (args := [.inl (some 2000016)]) (rest := [zi y159]) (l0 := [some (.inl (some 2000016))]) (by decide +kernel) (Or.inr (Or.inl ⟨_, rfl⟩)) rfl rfl rfl rfl (Nat.le_of_ble_eq_true rfl) rfl rfl (qI_le (by decide) tln16) (fun y165 qy165 hRy165 => ?_)
    obtain ⟨rfl, hy165⟩ := hRy165
    refine y_cT (c := .lt) (off := 30) (pc' := 83) (len := 3) (r := (0, 0, 0, 0)) (by decide +kernel) (acmpT (c := .lt) (by show _ < _; omega)) (by decide +kernel) ?_
    refine y_ic (c := 0) (len := 1) (r := (0, 0, 0, 0)) (by decide +kernel) (by decide) (fun y166 hy166 => ?_)
    refine y_rI (len := 1) (r := (0, 0, 0, 0)) (nL := 3) (k := 2) (n9 := 2) (hs := []) (by decide +kernel) rfl (zfit_b (by omega) (by omega)).2 ?_
    exact ⟨_, ⟨O158.1, O158.2.1, fun k T j hk (hC : k ≠ 52 ∨ j ≠ 4) => (O158.2.2 k T j hk (show k ≠ 52 ∨ j ≠ 4 by omega))⟩, Or.inr ⟨wrd_n1 (mt_n (by omega)), by omega, rd158⟩⟩
  ·
    refine y_cF (c := .ne) (off := 9) (len := 3) (r := (0, 0, 0, 0)) (by decide +kernel) (acmpF (c := .ne) (by show _ = _; omega)) ?_
    have m0 : bt b n (sk b n a) = 116 := by omega
    refine y_inc (j := 2) (a := y159) (c := 1) (ls' := fun v => [some (.inl (some 52)), some (.inl (some 2000016)), some v]) (len := 3) (r := (0, 0, 0, 0)) (by decide +kernel) rfl (fun _ => rfl) (by decide) (by omega) (by omega) (fun y167 hy167 => ?_)
    show qX 7 175 45 [some (.inl (some 52)), some (.inl (some 2000016)), some (zi y167)] [] h158 t _
    refine y_goto (off := (-29)) (pc' := 16) (len := 3) (r := (0, 0, 0, 0)) (by decide +kernel) (by decide +kernel) ?_
    refine y_same (i := .iload_n 2) (len := 1) (r := (0, 0, 0, 0)) (pc' := 17) (ls' := [some (.inl (some 52)), some (.inl (some 2000016)), some (zi y167)]) (st' := [zi y167]) (by decide +kernel) (fun k q => by cases q) rfl ?_
    refine y_same (i := .aload_n 1) (len := 1) (r := (0, 0, 0, 0)) (pc' := 18) (ls' := [some (.inl (some 52)), some (.inl (some 2000016)), some (zi y167)]) (st' := [.inl (some 2000016), zi y167]) (by decide +kernel) (fun k q => by cases q) rfl ?_
    refine y_cI (i := .invokevirtual 122) (len := 3) (r := (0, 268, 50, 1514)) (nL := 1) (k := 1) (n := 1) (hs := []) (args := [.inl (some 2000016)]) (rest := [zi y167]) (l0 := [some (.inl (some 2000016))]) (by decide +kernel) (Or.inr (Or.inl ⟨_, rfl⟩)) rfl rfl rfl rfl (Nat.le_of_ble_eq_true rfl) rfl rfl (qI_le (by decide) tln16) (fun y168 qy168 hRy168 => ?_)
    obtain ⟨rfl, hy168⟩ := hRy168
    refine y_cF (c := .ge) (off := 27) (len := 3) (r := (0, 0, 0, 0)) (by decide +kernel) (acmpF (c := .ge) (by show _ < _; omega)) ?_
    refine y_same (i := .aload_n 0) (len := 1) (r := (0, 0, 0, 0)) (pc' := 25) (ls' := [some (.inl (some 52)), some (.inl (some 2000016)), some (zi y167)]) (st' := [.inl (some 52)]) (by decide +kernel) (fun k q => by cases q) rfl ?_
    refine y_same (i := .aload_n 0) (len := 1) (r := (0, 0, 0, 0)) (pc' := 26) (ls' := [some (.inl (some 52)), some (.inl (some 2000016)), some (zi y167)]) (st' := [.inl (some 52), .inl (some 52)]) (by decide +kernel) (fun k q => by cases q) rfl ?_
    refine y_get (j := 101) (len := 3) (r := (12, 4, 0, 1332)) (by decide +kernel) O158.2.1 (t52 O158.2.1) at52 rfl rfl ha158 ?_
    refine y_same (i := .iload_n 2) (len := 1) (r := (0, 0, 0, 0)) (pc' := 30) (ls' := [some (.inl (some 52)), some (.inl (some 2000016)), some (zi y167)]) (st' := [zi y167, zi xa158, .inl (some 52)]) (by decide +kernel) (fun k q => by cases q) rfl ?_
    refine y_add (len := 1) (r := (0, 0, 0, 0)) (by decide +kernel) (by omega) (by omega) (fun y169 hy169 => ?_)
    refine y_cI (i := .invokevirtual 104) (len := 3) (r := (0, 170, 12, 1510)) (nL := 2) (k := 1) (n := 2) (hs := []) (args := [.inl (some 52), zi y169]) (rest := []) (l0 := [some (.inl (some 52)), some (zi y169)]) (by decide +kernel) (Or.inr (Or.inl ⟨_, rfl⟩)) rfl rfl rfl rfl (Nat.le_of_ble_eq_true rfl) (z52 O158.2.1) rfl (qI_le (by decide) (m_byte (d := 0) (k := (sk b n a + 1)) O158.2.1 rd158 (by omega))) (fun y170 qy170 hRy170 => ?_)
    obtain ⟨rfl, hy170⟩ := hRy170
    refine y_same (i := .aload_n 1) (len := 1) (r := (0, 0, 0, 0)) (pc' := 35) (ls' := [some (.inl (some 52)), some (.inl (some 2000016)), some (zi y167)]) (st' := [.inl (some 2000016), zi y170]) (by decide +kernel) (fun k q => by cases q) rfl ?_
    refine y_same (i := .iload_n 2) (len := 1) (r := (0, 0, 0, 0)) (pc' := 36) (ls' := [some (.inl (some 52)), some (.inl (some 2000016)), some (zi y167)]) (st' := [zi y167, .inl (some 2000016), zi y170]) (by decide +kernel) (fun k q => by cases q) rfl ?_
    refine y_cI (i := .invokevirtual 127) (len := 3) (r := (0, 269, 50, 1515)) (nL := 2) (k := 5) (n := 2) (hs := []) (args := [.inl (some 2000016), zi y167]) (rest := [zi y170]) (l0 := [some (.inl (some 2000016)), some (zi y167)]) (by decide +kernel) (Or.inr (Or.inl ⟨_, rfl⟩)) rfl rfl rfl rfl (Nat.le_of_ble_eq_true rfl) rfl rfl (qI_le (by decide) (tch16_1 (by omega))) (fun y171 qy171 hRy171 => ?_)
    obtain ⟨rfl, hy171⟩ := hRy171
    rcases Decidable.em (y170.toInt ≠ y171.toInt) with q172 | q172
    ·
      refine y_cT (c := .ne) (off := 9) (pc' := 48) (len := 3) (r := (0, 0, 0, 0)) (by decide +kernel) (acmpT (c := .ne) (by show ¬ (_ = _); omega)) (by decide +kernel) ?_
      refine y_same (i := .iload_n 2) (len := 1) (r := (0, 0, 0, 0)) (pc' := 49) (ls' := [some (.inl (some 52)), some (.inl (some 2000016)), some (zi y167)]) (st' := [zi y167]) (by decide +kernel) (fun k q => by cases q) rfl ?_
      refine y_same (i := .aload_n 1) (len := 1) (r := (0, 0, 0, 0)) (pc' := 50) (ls' := [some (.inl (some 52)), some (.inl (some 2000016)), some (zi y167)]) (st' := [.inl (some 2000016), zi y167]) (by decide +kernel) (fun k q => by cases q) rfl ?_
      refine y_cI (i := .invokevirtual 122) (len := 3) (r := (0, 268, 50, 1514)) (nL := 1) (k := 1) (n := 1) (hs := []) (args := [.inl (some 2000016)]) (rest := [zi y167]) (l0 := [some (.inl (some 2000016))]) (by decide +kernel) (Or.inr (Or.inl ⟨_, rfl⟩)) rfl rfl rfl rfl (Nat.le_of_ble_eq_true rfl) rfl rfl (qI_le (by decide) tln16) (fun y173 qy173 hRy173 => ?_)
      obtain ⟨rfl, hy173⟩ := hRy173
      refine y_cT (c := .lt) (off := 30) (pc' := 83) (len := 3) (r := (0, 0, 0, 0)) (by decide +kernel) (acmpT (c := .lt) (by show _ < _; omega)) (by decide +kernel) ?_
      refine y_ic (c := 0) (len := 1) (r := (0, 0, 0, 0)) (by decide +kernel) (by decide) (fun y174 hy174 => ?_)
      refine y_rI (len := 1) (r := (0, 0, 0, 0)) (nL := 3) (k := 2) (n9 := 2) (hs := []) (by decide +kernel) rfl (zfit_b (by omega) (by omega)).2 ?_
      exact ⟨_, ⟨O158.1, O158.2.1, fun k T j hk (hC : k ≠ 52 ∨ j ≠ 4) => (O158.2.2 k T j hk (show k ≠ 52 ∨ j ≠ 4 by omega))⟩, Or.inr ⟨wrd_n1 (mt_s (a' := sk b n a + 1) (by omega) (mt_n (by omega))), by omega, rd158⟩⟩
    ·
      refine y_cF (c := .ne) (off := 9) (len := 3) (r := (0, 0, 0, 0)) (by decide +kernel) (acmpF (c := .ne) (by show _ = _; omega)) ?_
      have m1 : bt b n (sk b n a + 1) = 114 := by omega
      refine y_inc (j := 2) (a := y167) (c := 1) (ls' := fun v => [some (.inl (some 52)), some (.inl (some 2000016)), some v]) (len := 3) (r := (0, 0, 0, 0)) (by decide +kernel) rfl (fun _ => rfl) (by decide) (by omega) (by omega) (fun y175 hy175 => ?_)
      show qX 7 175 45 [some (.inl (some 52)), some (.inl (some 2000016)), some (zi y175)] [] h158 t _
      refine y_goto (off := (-29)) (pc' := 16) (len := 3) (r := (0, 0, 0, 0)) (by decide +kernel) (by decide +kernel) ?_
      refine y_same (i := .iload_n 2) (len := 1) (r := (0, 0, 0, 0)) (pc' := 17) (ls' := [some (.inl (some 52)), some (.inl (some 2000016)), some (zi y175)]) (st' := [zi y175]) (by decide +kernel) (fun k q => by cases q) rfl ?_
      refine y_same (i := .aload_n 1) (len := 1) (r := (0, 0, 0, 0)) (pc' := 18) (ls' := [some (.inl (some 52)), some (.inl (some 2000016)), some (zi y175)]) (st' := [.inl (some 2000016), zi y175]) (by decide +kernel) (fun k q => by cases q) rfl ?_
      refine y_cI (i := .invokevirtual 122) (len := 3) (r := (0, 268, 50, 1514)) (nL := 1) (k := 1) (n := 1) (hs := []) (args := [.inl (some 2000016)]) (rest := [zi y175]) (l0 := [some (.inl (some 2000016))]) (by decide +kernel) (Or.inr (Or.inl ⟨_, rfl⟩)) rfl rfl rfl rfl (Nat.le_of_ble_eq_true rfl) rfl rfl (qI_le (by decide) tln16) (fun y176 qy176 hRy176 => ?_)
      obtain ⟨rfl, hy176⟩ := hRy176
      refine y_cF (c := .ge) (off := 27) (len := 3) (r := (0, 0, 0, 0)) (by decide +kernel) (acmpF (c := .ge) (by show _ < _; omega)) ?_
      refine y_same (i := .aload_n 0) (len := 1) (r := (0, 0, 0, 0)) (pc' := 25) (ls' := [some (.inl (some 52)), some (.inl (some 2000016)), some (zi y175)]) (st' := [.inl (some 52)]) (by decide +kernel) (fun k q => by cases q) rfl ?_
      refine y_same (i := .aload_n 0) (len := 1) (r := (0, 0, 0, 0)) (pc' := 26) (ls' := [some (.inl (some 52)), some (.inl (some 2000016)), some (zi y175)]) (st' := [.inl (some 52), .inl (some 52)]) (by decide +kernel) (fun k q => by cases q) rfl ?_
      refine y_get (j := 101) (len := 3) (r := (12, 4, 0, 1332)) (by decide +kernel) O158.2.1 (t52 O158.2.1) at52 rfl rfl ha158 ?_
      refine y_same (i := .iload_n 2) (len := 1) (r := (0, 0, 0, 0)) (pc' := 30) (ls' := [some (.inl (some 52)), some (.inl (some 2000016)), some (zi y175)]) (st' := [zi y175, zi xa158, .inl (some 52)]) (by decide +kernel) (fun k q => by cases q) rfl ?_
      refine y_add (len := 1) (r := (0, 0, 0, 0)) (by decide +kernel) (by omega) (by omega) (fun y177 hy177 => ?_)
      refine y_cI (i := .invokevirtual 104) (len := 3) (r := (0, 170, 12, 1510)) (nL := 2) (k := 1) (n := 2) (hs := []) (args := [.inl (some 52), zi y177]) (rest := []) (l0 := [some (.inl (some 52)), some (zi y177)]) (by decide +kernel) (Or.inr (Or.inl ⟨_, rfl⟩)) rfl rfl rfl rfl (Nat.le_of_ble_eq_true rfl) (z52 O158.2.1) rfl (qI_le (by decide) (m_byte (d := 0) (k := (sk b n a + 2)) O158.2.1 rd158 (by omega))) (fun y178 qy178 hRy178 => ?_)
      obtain ⟨rfl, hy178⟩ := hRy178
      refine y_same (i := .aload_n 1) (len := 1) (r := (0, 0, 0, 0)) (pc' := 35) (ls' := [some (.inl (some 52)), some (.inl (some 2000016)), some (zi y175)]) (st' := [.inl (some 2000016), zi y178]) (by decide +kernel) (fun k q => by cases q) rfl ?_
      refine y_same (i := .iload_n 2) (len := 1) (r := (0, 0, 0, 0)) (pc' := 36) (ls' := [some (.inl (some 52)), some (.inl (some 2000016)), some (zi y175)]) (st' := [zi y175, .inl (some 2000016), zi y178]) (by decide +kernel) (fun k q => by cases q) rfl ?_
      refine y_cI (i := .invokevirtual 127) (len := 3) (r := (0, 269, 50, 1515)) (nL := 2) (k := 5) (n := 2) (hs := []) (args := [.inl (some 2000016), zi y175]) (rest := [zi y178]) (l0 := [some (.inl (some 2000016)), some (zi y175)]) (by decide +kernel) (Or.inr (Or.inl ⟨_, rfl⟩)) rfl rfl rfl rfl (Nat.le_of_ble_eq_true rfl) rfl rfl (qI_le (by decide) (tch16_2 (by omega))) (fun y179 qy179 hRy179 => ?_)
      obtain ⟨rfl, hy179⟩ := hRy179
      rcases Decidable.em (y178.toInt ≠ y179.toInt) with q180 | q180
      ·
        refine y_cT (c := .ne) (off := 9) (pc' := 48) (len := 3) (r := (0, 0, 0, 0)) (by decide +kernel) (acmpT (c := .ne) (by show ¬ (_ = _); omega)) (by decide +kernel) ?_
        refine y_same (i := .iload_n 2) (len := 1) (r := (0, 0, 0, 0)) (pc' := 49) (ls' := [some (.inl (some 52)), some (.inl (some 2000016)), some (zi y175)]) (st' := [zi y175]) (by decide +kernel) (fun k q => by cases q) rfl ?_
        refine y_same (i := .aload_n 1) (len := 1) (r := (0, 0, 0, 0)) (pc' := 50) (ls' := [some (.inl (some 52)), some (.inl (some 2000016)), some (zi y175)]) (st' := [.inl (some 2000016), zi y175]) (by decide +kernel) (fun k q => by cases q) rfl ?_
        refine y_cI (i := .invokevirtual 122) (len := 3) (r := (0, 268, 50, 1514)) (nL := 1) (k := 1) (n := 1) (hs := []) (args := [.inl (some 2000016)]) (rest := [zi y175]) (l0 := [some (.inl (some 2000016))]) (by decide +kernel) (Or.inr (Or.inl ⟨_, rfl⟩)) rfl rfl rfl rfl (Nat.le_of_ble_eq_true rfl) rfl rfl (qI_le (by decide) tln16) (fun y181 qy181 hRy181 => ?_)
        obtain ⟨rfl, hy181⟩ := hRy181
        refine y_cT (c := .lt) (off := 30) (pc' := 83) (len := 3) (r := (0, 0, 0, 0)) (by decide +kernel) (acmpT (c := .lt) (by show _ < _; omega)) (by decide +kernel) ?_
        refine y_ic (c := 0) (len := 1) (r := (0, 0, 0, 0)) (by decide +kernel) (by decide) (fun y182 hy182 => ?_)
        refine y_rI (len := 1) (r := (0, 0, 0, 0)) (nL := 3) (k := 2) (n9 := 2) (hs := []) (by decide +kernel) rfl (zfit_b (by omega) (by omega)).2 ?_
        exact ⟨_, ⟨O158.1, O158.2.1, fun k T j hk (hC : k ≠ 52 ∨ j ≠ 4) => (O158.2.2 k T j hk (show k ≠ 52 ∨ j ≠ 4 by omega))⟩, Or.inr ⟨wrd_n1 (mt_s (a' := sk b n a + 1) (by omega) (mt_s (a' := sk b n a + 2) (by omega) (mt_n (by omega)))), by omega, rd158⟩⟩
      ·
        refine y_cF (c := .ne) (off := 9) (len := 3) (r := (0, 0, 0, 0)) (by decide +kernel) (acmpF (c := .ne) (by show _ = _; omega)) ?_
        have m2 : bt b n (sk b n a + 2) = 101 := by omega
        refine y_inc (j := 2) (a := y175) (c := 1) (ls' := fun v => [some (.inl (some 52)), some (.inl (some 2000016)), some v]) (len := 3) (r := (0, 0, 0, 0)) (by decide +kernel) rfl (fun _ => rfl) (by decide) (by omega) (by omega) (fun y183 hy183 => ?_)
        show qX 7 175 45 [some (.inl (some 52)), some (.inl (some 2000016)), some (zi y183)] [] h158 t _
        refine y_goto (off := (-29)) (pc' := 16) (len := 3) (r := (0, 0, 0, 0)) (by decide +kernel) (by decide +kernel) ?_
        refine y_same (i := .iload_n 2) (len := 1) (r := (0, 0, 0, 0)) (pc' := 17) (ls' := [some (.inl (some 52)), some (.inl (some 2000016)), some (zi y183)]) (st' := [zi y183]) (by decide +kernel) (fun k q => by cases q) rfl ?_
        refine y_same (i := .aload_n 1) (len := 1) (r := (0, 0, 0, 0)) (pc' := 18) (ls' := [some (.inl (some 52)), some (.inl (some 2000016)), some (zi y183)]) (st' := [.inl (some 2000016), zi y183]) (by decide +kernel) (fun k q => by cases q) rfl ?_
        refine y_cI (i := .invokevirtual 122) (len := 3) (r := (0, 268, 50, 1514)) (nL := 1) (k := 1) (n := 1) (hs := []) (args := [.inl (some 2000016)]) (rest := [zi y183]) (l0 := [some (.inl (some 2000016))]) (by decide +kernel) (Or.inr (Or.inl ⟨_, rfl⟩)) rfl rfl rfl rfl (Nat.le_of_ble_eq_true rfl) rfl rfl (qI_le (by decide) tln16) (fun y184 qy184 hRy184 => ?_)
        obtain ⟨rfl, hy184⟩ := hRy184
        refine y_cF (c := .ge) (off := 27) (len := 3) (r := (0, 0, 0, 0)) (by decide +kernel) (acmpF (c := .ge) (by show _ < _; omega)) ?_
        refine y_same (i := .aload_n 0) (len := 1) (r := (0, 0, 0, 0)) (pc' := 25) (ls' := [some (.inl (some 52)), some (.inl (some 2000016)), some (zi y183)]) (st' := [.inl (some 52)]) (by decide +kernel) (fun k q => by cases q) rfl ?_
        refine y_same (i := .aload_n 0) (len := 1) (r := (0, 0, 0, 0)) (pc' := 26) (ls' := [some (.inl (some 52)), some (.inl (some 2000016)), some (zi y183)]) (st' := [.inl (some 52), .inl (some 52)]) (by decide +kernel) (fun k q => by cases q) rfl ?_
        refine y_get (j := 101) (len := 3) (r := (12, 4, 0, 1332)) (by decide +kernel) O158.2.1 (t52 O158.2.1) at52 rfl rfl ha158 ?_
        refine y_same (i := .iload_n 2) (len := 1) (r := (0, 0, 0, 0)) (pc' := 30) (ls' := [some (.inl (some 52)), some (.inl (some 2000016)), some (zi y183)]) (st' := [zi y183, zi xa158, .inl (some 52)]) (by decide +kernel) (fun k q => by cases q) rfl ?_
        refine y_add (len := 1) (r := (0, 0, 0, 0)) (by decide +kernel) (by omega) (by omega) (fun y185 hy185 => ?_)
        refine y_cI (i := .invokevirtual 104) (len := 3) (r := (0, 170, 12, 1510)) (nL := 2) (k := 1) (n := 2) (hs := []) (args := [.inl (some 52), zi y185]) (rest := []) (l0 := [some (.inl (some 52)), some (zi y185)]) (by decide +kernel) (Or.inr (Or.inl ⟨_, rfl⟩)) rfl rfl rfl rfl (Nat.le_of_ble_eq_true rfl) (z52 O158.2.1) rfl (qI_le (by decide) (m_byte (d := 0) (k := (sk b n a + 3)) O158.2.1 rd158 (by omega))) (fun y186 qy186 hRy186 => ?_)
        obtain ⟨rfl, hy186⟩ := hRy186
        refine y_same (i := .aload_n 1) (len := 1) (r := (0, 0, 0, 0)) (pc' := 35) (ls' := [some (.inl (some 52)), some (.inl (some 2000016)), some (zi y183)]) (st' := [.inl (some 2000016), zi y186]) (by decide +kernel) (fun k q => by cases q) rfl ?_
        refine y_same (i := .iload_n 2) (len := 1) (r := (0, 0, 0, 0)) (pc' := 36) (ls' := [some (.inl (some 52)), some (.inl (some 2000016)), some (zi y183)]) (st' := [zi y183, .inl (some 2000016), zi y186]) (by decide +kernel) (fun k q => by cases q) rfl ?_
        refine y_cI (i := .invokevirtual 127) (len := 3) (r := (0, 269, 50, 1515)) (nL := 2) (k := 5) (n := 2) (hs := []) (args := [.inl (some 2000016), zi y183]) (rest := [zi y186]) (l0 := [some (.inl (some 2000016)), some (zi y183)]) (by decide +kernel) (Or.inr (Or.inl ⟨_, rfl⟩)) rfl rfl rfl rfl (Nat.le_of_ble_eq_true rfl) rfl rfl (qI_le (by decide) (tch16_3 (by omega))) (fun y187 qy187 hRy187 => ?_)
        obtain ⟨rfl, hy187⟩ := hRy187
        rcases Decidable.em (y186.toInt ≠ y187.toInt) with q188 | q188
        ·
          refine y_cT (c := .ne) (off := 9) (pc' := 48) (len := 3) (r := (0, 0, 0, 0)) (by decide +kernel) (acmpT (c := .ne) (by show ¬ (_ = _); omega)) (by decide +kernel) ?_
          refine y_same (i := .iload_n 2) (len := 1) (r := (0, 0, 0, 0)) (pc' := 49) (ls' := [some (.inl (some 52)), some (.inl (some 2000016)), some (zi y183)]) (st' := [zi y183]) (by decide +kernel) (fun k q => by cases q) rfl ?_
          refine y_same (i := .aload_n 1) (len := 1) (r := (0, 0, 0, 0)) (pc' := 50) (ls' := [some (.inl (some 52)), some (.inl (some 2000016)), some (zi y183)]) (st' := [.inl (some 2000016), zi y183]) (by decide +kernel) (fun k q => by cases q) rfl ?_
          refine y_cI (i := .invokevirtual 122) (len := 3) (r := (0, 268, 50, 1514)) (nL := 1) (k := 1) (n := 1) (hs := []) (args := [.inl (some 2000016)]) (rest := [zi y183]) (l0 := [some (.inl (some 2000016))]) (by decide +kernel) (Or.inr (Or.inl ⟨_, rfl⟩)) rfl rfl rfl rfl (Nat.le_of_ble_eq_true rfl) rfl rfl (qI_le (by decide) tln16) (fun y189 qy189 hRy189 => ?_)
          obtain ⟨rfl, hy189⟩ := hRy189
          refine y_cT (c := .lt) (off := 30) (pc' := 83) (len := 3) (r := (0, 0, 0, 0)) (by decide +kernel) (acmpT (c := .lt) (by show _ < _; omega)) (by decide +kernel) ?_
          refine y_ic (c := 0) (len := 1) (r := (0, 0, 0, 0)) (by decide +kernel) (by decide) (fun y190 hy190 => ?_)
          refine y_rI (len := 1) (r := (0, 0, 0, 0)) (nL := 3) (k := 2) (n9 := 2) (hs := []) (by decide +kernel) rfl (zfit_b (by omega) (by omega)).2 ?_
          exact ⟨_, ⟨O158.1, O158.2.1, fun k T j hk (hC : k ≠ 52 ∨ j ≠ 4) => (O158.2.2 k T j hk (show k ≠ 52 ∨ j ≠ 4 by omega))⟩, Or.inr ⟨wrd_n1 (mt_s (a' := sk b n a + 1) (by omega) (mt_s (a' := sk b n a + 2) (by omega) (mt_s (a' := sk b n a + 3) (by omega) (mt_n (by omega))))), by omega, rd158⟩⟩
        ·
          refine y_cF (c := .ne) (off := 9) (len := 3) (r := (0, 0, 0, 0)) (by decide +kernel) (acmpF (c := .ne) (by show _ = _; omega)) ?_
          have m3 : bt b n (sk b n a + 3) = 101 := by omega
          refine y_inc (j := 2) (a := y183) (c := 1) (ls' := fun v => [some (.inl (some 52)), some (.inl (some 2000016)), some v]) (len := 3) (r := (0, 0, 0, 0)) (by decide +kernel) rfl (fun _ => rfl) (by decide) (by omega) (by omega) (fun y191 hy191 => ?_)
          show qX 7 175 45 [some (.inl (some 52)), some (.inl (some 2000016)), some (zi y191)] [] h158 t _
          refine y_goto (off := (-29)) (pc' := 16) (len := 3) (r := (0, 0, 0, 0)) (by decide +kernel) (by decide +kernel) ?_
          refine y_same (i := .iload_n 2) (len := 1) (r := (0, 0, 0, 0)) (pc' := 17) (ls' := [some (.inl (some 52)), some (.inl (some 2000016)), some (zi y191)]) (st' := [zi y191]) (by decide +kernel) (fun k q => by cases q) rfl ?_
          refine y_same (i := .aload_n 1) (len := 1) (r := (0, 0, 0, 0)) (pc' := 18) (ls' := [some (.inl (some 52)), some (.inl (some 2000016)), some (zi y191)]) (st' := [.inl (some 2000016), zi y191]) (by decide +kernel) (fun k q => by cases q) rfl ?_
          refine y_cI (i := .invokevirtual 122) (len := 3) (r := (0, 268, 50, 1514)) (nL := 1) (k := 1) (n := 1) (hs := []) (args := [.inl (some 2000016)]) (rest := [zi y191]) (l0 := [some (.inl (some 2000016))]) (by decide +kernel) (Or.inr (Or.inl ⟨_, rfl⟩)) rfl rfl rfl rfl (Nat.le_of_ble_eq_true rfl) rfl rfl (qI_le (by decide) tln16) (fun y192 qy192 hRy192 => ?_)
          obtain ⟨rfl, hy192⟩ := hRy192
          refine y_cT (c := .ge) (off := 27) (pc' := 48) (len := 3) (r := (0, 0, 0, 0)) (by decide +kernel) (acmpT (c := .ge) (by show _ ≤ _; omega)) (by decide +kernel) ?_
          refine y_same (i := .iload_n 2) (len := 1) (r := (0, 0, 0, 0)) (pc' := 49) (ls' := [some (.inl (some 52)), some (.inl (some 2000016)), some (zi y191)]) (st' := [zi y191]) (by decide +kernel) (fun k q => by cases q) rfl ?_
          refine y_same (i := .aload_n 1) (len := 1) (r := (0, 0, 0, 0)) (pc' := 50) (ls' := [some (.inl (some 52)), some (.inl (some 2000016)), some (zi y191)]) (st' := [.inl (some 2000016), zi y191]) (by decide +kernel) (fun k q => by cases q) rfl ?_
          refine y_cI (i := .invokevirtual 122) (len := 3) (r := (0, 268, 50, 1514)) (nL := 1) (k := 1) (n := 1) (hs := []) (args := [.inl (some 2000016)]) (rest := [zi y191]) (l0 := [some (.inl (some 2000016))]) (by decide +kernel) (Or.inr (Or.inl ⟨_, rfl⟩)) rfl rfl rfl rfl (Nat.le_of_ble_eq_true rfl) rfl rfl (qI_le (by decide) tln16) (fun y193 qy193 hRy193 => ?_)
          obtain ⟨rfl, hy193⟩ := hRy193
          refine y_cF (c := .lt) (off := 30) (len := 3) (r := (0, 0, 0, 0)) (by decide +kernel) (acmpF (c := .lt) (by show _ ≤ _; omega)) ?_
          refine y_same (i := .aload_n 1) (len := 1) (r := (0, 0, 0, 0)) (pc' := 57) (ls' := [some (.inl (some 52)), some (.inl (some 2000016)), some (zi y191)]) (st' := [.inl (some 2000016)]) (by decide +kernel) (fun k q => by cases q) rfl ?_
          refine y_ic (c := 0) (len := 1) (r := (0, 0, 0, 0)) (by decide +kernel) (by decide) (fun y194 hy194 => ?_)
          refine y_cI (i := .invokevirtual 127) (len := 3) (r := (0, 269, 50, 1515)) (nL := 2) (k := 5) (n := 2) (hs := []) (args := [.inl (some 2000016), zi y194]) (rest := []) (l0 := [some (.inl (some 2000016)), some (zi y194)]) (by decide +kernel) (Or.inr (Or.inl ⟨_, rfl⟩)) rfl rfl rfl rfl (Nat.le_of_ble_eq_true rfl) rfl rfl (qI_le (by decide) (tch16_0 (by omega))) (fun y195 qy195 hRy195 => ?_)
          obtain ⟨rfl, hy195⟩ := hRy195
          refine y_cI (i := .invokestatic 131) (len := 3) (r := (1, 174, 12, 1516)) (nL := 1) (k := 2) (n := 1) (hs := []) (args := [zi y195]) (rest := []) (l0 := [some (zi y195)]) (by decide +kernel) (Or.inl ⟨_, rfl⟩) rfl rfl rfl rfl (Nat.le_of_ble_eq_true rfl) rfl rfl (qI_le (by decide) (m_small (d := 0))) (fun y196 qy196 hRy196 => ?_)
          obtain ⟨rfl, gy196, by196⟩ := hRy196
          refine y_iF (c := .eq) (off := 21) (len := 3) (r := (0, 0, 0, 0)) (by decide +kernel) (acmpF (c := .eq) (by show ¬ (_ = _); omega)) ?_
          refine y_same (i := .aload_n 0) (len := 1) (r := (0, 0, 0, 0)) (pc' := 68) (ls' := [some (.inl (some 52)), some (.inl (some 2000016)), some (zi y191)]) (st' := [.inl (some 52)]) (by decide +kernel) (fun k q => by cases q) rfl ?_
          refine y_same (i := .aload_n 0) (len := 1) (r := (0, 0, 0, 0)) (pc' := 69) (ls' := [some (.inl (some 52)), some (.inl (some 2000016)), some (zi y191)]) (st' := [.inl (some 52), .inl (some 52)]) (by decide +kernel) (fun k q => by cases q) rfl ?_
          refine y_get (j := 101) (len := 3) (r := (12, 4, 0, 1332)) (by decide +kernel) O158.2.1 (t52 O158.2.1) at52 rfl rfl ha158 ?_
          refine y_same (i := .iload_n 2) (len := 1) (r := (0, 0, 0, 0)) (pc' := 73) (ls' := [some (.inl (some 52)), some (.inl (some 2000016)), some (zi y191)]) (st' := [zi y191, zi xa158, .inl (some 52)]) (by decide +kernel) (fun k q => by cases q) rfl ?_
          refine y_add (len := 1) (r := (0, 0, 0, 0)) (by decide +kernel) (by omega) (by omega) (fun y197 hy197 => ?_)
          refine y_cI (i := .invokevirtual 104) (len := 3) (r := (0, 170, 12, 1510)) (nL := 2) (k := 1) (n := 2) (hs := []) (args := [.inl (some 52), zi y197]) (rest := []) (l0 := [some (.inl (some 52)), some (zi y197)]) (by decide +kernel) (Or.inr (Or.inl ⟨_, rfl⟩)) rfl rfl rfl rfl (Nat.le_of_ble_eq_true rfl) (z52 O158.2.1) rfl (qI_le (by decide) (m_byte (d := 0) (k := (sk b n a + 4)) O158.2.1 rd158 (by omega))) (fun y198 qy198 hRy198 => ?_)
          obtain ⟨rfl, hy198⟩ := hRy198
          refine y_cI (i := .invokestatic 131) (len := 3) (r := (1, 174, 12, 1516)) (nL := 1) (k := 2) (n := 1) (hs := []) (args := [zi y198]) (rest := []) (l0 := [some (zi y198)]) (by decide +kernel) (Or.inl ⟨_, rfl⟩) rfl rfl rfl rfl (Nat.le_of_ble_eq_true rfl) rfl rfl (qI_le (by decide) (m_small (d := 0))) (fun y199 qy199 hRy199 => ?_)
          obtain ⟨rfl, gy199, by199⟩ := hRy199
          rcases Decidable.em (y199.toInt = 0) with q200 | q200
          ·
            refine y_iT (c := .eq) (off := 5) (pc' := 85) (len := 3) (r := (0, 0, 0, 0)) (by decide +kernel) (acmpT (c := .eq) (by show _ = _; omega)) (by decide +kernel) ?_
            have ml0 := mt_le (w := wTree) (mt_c (a' := sk b n a + 1) m0 (by omega) (mt_c (a' := sk b n a + 2) m1 (by omega) (mt_c (a' := sk b n a + 3) m2 (by omega) (mt_c (a' := sk b n a + 4) m3 (by omega) rfl)))) (by omega) (by decide)
            simp only [wTree, List.length_cons, List.length_nil] at ml0
            refine y_same (i := .aload_n 0) (len := 1) (r := (0, 0, 0, 0)) (pc' := 86) (ls' := [some (.inl (some 52)), some (.inl (some 2000016)), some (zi y191)]) (st' := [.inl (some 52)]) (by decide +kernel) (fun k q => by cases q) rfl ?_
            refine y_same (i := .dup) (len := 1) (r := (0, 0, 0, 0)) (pc' := 87) (ls' := [some (.inl (some 52)), some (.inl (some 2000016)), some (zi y191)]) (st' := [.inl (some 52), .inl (some 52)]) (by decide +kernel) (fun k q => by cases q) rfl ?_
            refine y_get (j := 101) (len := 3) (r := (12, 4, 0, 1332)) (by decide +kernel) O158.2.1 (t52 O158.2.1) at52 rfl rfl ha158 ?_
            refine y_same (i := .iload_n 2) (len := 1) (r := (0, 0, 0, 0)) (pc' := 91) (ls' := [some (.inl (some 52)), some (.inl (some 2000016)), some (zi y191)]) (st' := [zi y191, zi xa158, .inl (some 52)]) (by decide +kernel) (fun k q => by cases q) rfl ?_
            refine y_add (len := 1) (r := (0, 0, 0, 0)) (by decide +kernel) (by omega) (by omega) (fun y201 hy201 => ?_)
            refine y_put (j := 101) (lo := 0) (hi := 200) (len := 3) (r := (12, 4, 0, 1332)) (by decide +kernel) O158.2.1 (t52 O158.2.1) at52 rfl rfl (by decide) rfl (by omega) (by omega) rfl (fun h202 hg202 hl202 hs202 ho202 => ?_)
            have ho202 : hO 52 4 h158 h202 := ho202
            have hs202 : hsl h202 52 4 = some (zi y201) := hs202
            refine y_ic (c := 1) (len := 1) (r := (0, 0, 0, 0)) (by decide +kernel) (by decide) (fun y203 hy203 => ?_)
            refine y_rI (len := 1) (r := (0, 0, 0, 0)) (nL := 3) (k := 2) (n9 := 2) (hs := []) (by decide +kernel) rfl (zfit_b (by omega) (by omega)).2 ?_
            have ml := mt_le (w := wTree) (mt_c (a' := sk b n a + 1) m0 (by omega) (mt_c (a' := sk b n a + 2) m1 (by omega) (mt_c (a' := sk b n a + 3) m2 (by omega) (mt_c (a' := sk b n a + 4) m3 (by omega) rfl)))) (by omega) (by decide)
            simp only [wTree, List.length_cons, List.length_nil] at ml
            exact ⟨_, ⟨O158.1, hg202, fun k T j hk (hC : k ≠ 52 ∨ j ≠ 4) => ((ho202 k j (by omega)).trans (O158.2.2 k T j hk (show k ≠ 52 ∨ j ≠ 4 by omega)))⟩, Or.inl ⟨sk b n a + 4, wrd_y (w := wTree) (mt_c (a' := sk b n a + 1) m0 (by omega) (mt_c (a' := sk b n a + 2) m1 (by omega) (mt_c (a' := sk b n a + 3) m2 (by omega) (mt_c (a' := sk b n a + 4) m3 (by omega) rfl)))) (show ¬ sml (bt b n (sk b n a + 4)) from fun q => by obtain ⟨q1, q2⟩ := q; omega), by omega, by omega, (rdM_up rd158 (ho202 52 3 (Or.inr (by omega))) (fun j => (ho202 54 j (Or.inl (by omega)))) ⟨_, hs202, by omega⟩)⟩⟩
          ·
            refine y_iF (c := .eq) (off := 5) (len := 3) (r := (0, 0, 0, 0)) (by decide +kernel) (acmpF (c := .eq) (by show ¬ (_ = _); omega)) ?_
            refine y_ic (c := 0) (len := 1) (r := (0, 0, 0, 0)) (by decide +kernel) (by decide) (fun y204 hy204 => ?_)
            refine y_rI (len := 1) (r := (0, 0, 0, 0)) (nL := 3) (k := 2) (n9 := 2) (hs := []) (by decide +kernel) rfl (zfit_b (by omega) (by omega)).2 ?_
            exact ⟨_, ⟨O158.1, O158.2.1, fun k T j hk (hC : k ≠ 52 ∨ j ≠ 4) => (O158.2.2 k T j hk (show k ≠ 52 ∨ j ≠ 4 by omega))⟩, Or.inr ⟨wrd_n2 (w := wTree) (show sml (bt b n (sk b n a + 4)) from ⟨by omega, by omega⟩), by omega, rd158⟩⟩
theorem m_pass17 {t n a : Nat} {b : Nat → Int} {τ : List Nat} {h : zh} (hg : hG τ h) (rd : rdM h n a b) (han : a ≤ n) (ft : ftM h 0 (-1)) : qI 8 175 [some (.inl (some 52)), some (.inl (some 2000017)), none] h t (fun y h1 => ∃ τ1, oF (fun k j => k ≠ 52 ∨ j ≠ 4) τ h τ1 h1 ∧ ((∃ a', sgn b n [45, 62] a = some a' ∧ a' ≤ n ∧ y.toInt = 1 ∧ rdM h1 n a' b) ∨ (sgn b n [45, 62] a = none ∧ y.toInt = 0 ∧ rdM h1 n (sk b n a) b))) := by
  obtain ⟨⟨xn, hn, en⟩, ⟨xa, ha, ea⟩, hb, hn2⟩ := id rd
  obtain ⟨⟨xf, hf6, ef⟩, xw, hw7, ew7⟩ := id ft
  refine qI_of ?_
  refine y_same (i := .aload_n 0) (len := 1) (r := (0, 0, 0, 0)) (pc' := 1) (ls' := [some (.inl (some 52)), some (.inl (some 2000017)), none]) (st' := [.inl (some 52)]) (by decide +kernel) (fun k q => by cases q) rfl ?_
  refine y_cI (i := .invokevirtual 114) (len := 3) (r := (0, 172, 12, 1502)) (nL := 1) (k := 2) (n := 1) (hs := []) (args := [.inl (some 52)]) (rest := []) (l0 := [some (.inl (some 52))]) (by decide +kernel) (Or.inr (Or.inl ⟨_, rfl⟩)) rfl rfl rfl rfl (Nat.le_of_ble_eq_true rfl) (z52 hg) rfl (qI_le (by decide) (m_fine (d := 0) hg ft)) (fun y205 qy205 hRy205 => ?_)
  obtain ⟨rfl, gy205, by205⟩ := hRy205
  have hy205 : y205.toInt = 1 := gy205 rfl
  refine y_iT (c := .ne) (off := 5) (pc' := 9) (len := 3) (r := (0, 0, 0, 0)) (by decide +kernel) (acmpT (c := .ne) (by show ¬ (_ = _); omega)) (by decide +kernel) ?_
  refine y_same (i := .aload_n 0) (len := 1) (r := (0, 0, 0, 0)) (pc' := 10) (ls' := [some (.inl (some 52)), some (.inl (some 2000017)), none]) (st' := [.inl (some 52)]) (by decide +kernel) (fun k q => by cases q) rfl ?_
  refine y_cI (i := .invokevirtual 118) (len := 3) (r := (0, 171, 12, 1506)) (nL := 1) (k := 1) (n := 1) (hs := []) (args := [.inl (some 52)]) (rest := []) (l0 := [some (.inl (some 52))]) (by decide +kernel) (Or.inr (Or.inl ⟨_, rfl⟩)) rfl rfl rfl rfl (Nat.le_of_ble_eq_true rfl) (z52 hg) rfl (qI_le (by decide) (m_here hg rd (by omega))) (fun y206 h206 hRy206 => ?_)
  obtain ⟨τ206, O206, hy206, rd206⟩ := hRy206
  have sl206 := sk_le (b := b) (n := n) (a := a) (by omega)
  obtain ⟨⟨xn206, hn206, en206⟩, ⟨xa206, ha206, ea206⟩, hb206, -⟩ := id rd206
  refine y_same (i := .pop) (len := 1) (r := (0, 0, 0, 0)) (pc' := 14) (ls' := [some (.inl (some 52)), some (.inl (some 2000017)), none]) (st' := []) (by decide +kernel) (fun k q => by cases q) rfl ?_
  refine y_ic (c := 0) (len := 1) (r := (0, 0, 0, 0)) (by decide +kernel) (by decide) (fun y207 hy207 => ?_)
  refine y_same (i := .istore_n 2) (len := 1) (r := (0, 0, 0, 0)) (pc' := 16) (ls' := [some (.inl (some 52)), some (.inl (some 2000017)), some (zi y207)]) (st' := []) (by decide +kernel) (fun k q => by cases q) rfl ?_
  refine y_same (i := .iload_n 2) (len := 1) (r := (0, 0, 0, 0)) (pc' := 17) (ls' := [some (.inl (some 52)), some (.inl (some 2000017)), some (zi y207)]) (st' := [zi y207]) (by decide +kernel) (fun k q => by cases q) rfl ?_
  refine y_same (i := .aload_n 1) (len := 1) (r := (0, 0, 0, 0)) (pc' := 18) (ls' := [some (.inl (some 52)), some (.inl (some 2000017)), some (zi y207)]) (st' := [.inl (some 2000017), zi y207]) (by decide +kernel) (fun k q => by cases q) rfl ?_
  refine y_cI (i := .invokevirtual 122) (len := 3) (r := (0, 268, 50, 1514)) (nL := 1) (k := 1) (n := 1) (hs := []) (args := [.inl (some 2000017)]) (rest := [zi y207]) (l0 := [some (.inl (some 2000017))]) (by decide +kernel) (Or.inr (Or.inl ⟨_, rfl⟩)) rfl rfl rfl rfl (Nat.le_of_ble_eq_true rfl) rfl rfl (qI_le (by decide) tln17) (fun y208 qy208 hRy208 => ?_)
  obtain ⟨rfl, hy208⟩ := hRy208
  refine y_cF (c := .ge) (off := 27) (len := 3) (r := (0, 0, 0, 0)) (by decide +kernel) (acmpF (c := .ge) (by show _ < _; omega)) ?_
  refine y_same (i := .aload_n 0) (len := 1) (r := (0, 0, 0, 0)) (pc' := 25) (ls' := [some (.inl (some 52)), some (.inl (some 2000017)), some (zi y207)]) (st' := [.inl (some 52)]) (by decide +kernel) (fun k q => by cases q) rfl ?_
  refine y_same (i := .aload_n 0) (len := 1) (r := (0, 0, 0, 0)) (pc' := 26) (ls' := [some (.inl (some 52)), some (.inl (some 2000017)), some (zi y207)]) (st' := [.inl (some 52), .inl (some 52)]) (by decide +kernel) (fun k q => by cases q) rfl ?_
  refine y_get (j := 101) (len := 3) (r := (12, 4, 0, 1332)) (by decide +kernel) O206.2.1 (t52 O206.2.1) at52 rfl rfl ha206 ?_
  refine y_same (i := .iload_n 2) (len := 1) (r := (0, 0, 0, 0)) (pc' := 30) (ls' := [some (.inl (some 52)), some (.inl (some 2000017)), some (zi y207)]) (st' := [zi y207, zi xa206, .inl (some 52)]) (by decide +kernel) (fun k q => by cases q) rfl ?_
  refine y_add (len := 1) (r := (0, 0, 0, 0)) (by decide +kernel) (by omega) (by omega) (fun y209 hy209 => ?_)
  refine y_cI (i := .invokevirtual 104) (len := 3) (r := (0, 170, 12, 1510)) (nL := 2) (k := 1) (n := 2) (hs := []) (args := [.inl (some 52), zi y209]) (rest := []) (l0 := [some (.inl (some 52)), some (zi y209)]) (by decide +kernel) (Or.inr (Or.inl ⟨_, rfl⟩)) rfl rfl rfl rfl (Nat.le_of_ble_eq_true rfl) (z52 O206.2.1) rfl (qI_le (by decide) (m_byte (d := 0) (k := (sk b n a)) O206.2.1 rd206 (by omega))) (fun y210 qy210 hRy210 => ?_)
  obtain ⟨rfl, hy210⟩ := hRy210
  refine y_same (i := .aload_n 1) (len := 1) (r := (0, 0, 0, 0)) (pc' := 35) (ls' := [some (.inl (some 52)), some (.inl (some 2000017)), some (zi y207)]) (st' := [.inl (some 2000017), zi y210]) (by decide +kernel) (fun k q => by cases q) rfl ?_
  refine y_same (i := .iload_n 2) (len := 1) (r := (0, 0, 0, 0)) (pc' := 36) (ls' := [some (.inl (some 52)), some (.inl (some 2000017)), some (zi y207)]) (st' := [zi y207, .inl (some 2000017), zi y210]) (by decide +kernel) (fun k q => by cases q) rfl ?_
  refine y_cI (i := .invokevirtual 127) (len := 3) (r := (0, 269, 50, 1515)) (nL := 2) (k := 5) (n := 2) (hs := []) (args := [.inl (some 2000017), zi y207]) (rest := [zi y210]) (l0 := [some (.inl (some 2000017)), some (zi y207)]) (by decide +kernel) (Or.inr (Or.inl ⟨_, rfl⟩)) rfl rfl rfl rfl (Nat.le_of_ble_eq_true rfl) rfl rfl (qI_le (by decide) (tch17_0 (by omega))) (fun y211 qy211 hRy211 => ?_)
  obtain ⟨rfl, hy211⟩ := hRy211
  rcases Decidable.em (y210.toInt ≠ y211.toInt) with q212 | q212
  ·
    refine y_cT (c := .ne) (off := 9) (pc' := 48) (len := 3) (r := (0, 0, 0, 0)) (by decide +kernel) (acmpT (c := .ne) (by show ¬ (_ = _); omega)) (by decide +kernel) ?_
    refine y_same (i := .iload_n 2) (len := 1) (r := (0, 0, 0, 0)) (pc' := 49) (ls' := [some (.inl (some 52)), some (.inl (some 2000017)), some (zi y207)]) (st' := [zi y207]) (by decide +kernel) (fun k q => by cases q) rfl ?_
    refine y_same (i := .aload_n 1) (len := 1) (r := (0, 0, 0, 0)) (pc' := 50) (ls' := [some (.inl (some 52)), some (.inl (some 2000017)), some (zi y207)]) (st' := [.inl (some 2000017), zi y207]) (by decide +kernel) (fun k q => by cases q) rfl ?_
    refine y_cI (i := .invokevirtual 122) (len := 3) (r := (0, 268, 50, 1514)) (nL := 1) (k := 1) (n := 1) (hs := []) (args := [.inl (some 2000017)]) (rest := [zi y207]) (l0 := [some (.inl (some 2000017))]) (by decide +kernel) (Or.inr (Or.inl ⟨_, rfl⟩)) rfl rfl rfl rfl (Nat.le_of_ble_eq_true rfl) rfl rfl (qI_le (by decide) tln17) (fun y213 qy213 hRy213 => ?_)
    obtain ⟨rfl, hy213⟩ := hRy213
    refine y_cT (c := .lt) (off := 30) (pc' := 83) (len := 3) (r := (0, 0, 0, 0)) (by decide +kernel) (acmpT (c := .lt) (by show _ < _; omega)) (by decide +kernel) ?_
    refine y_ic (c := 0) (len := 1) (r := (0, 0, 0, 0)) (by decide +kernel) (by decide) (fun y214 hy214 => ?_)
    refine y_rI (len := 1) (r := (0, 0, 0, 0)) (nL := 3) (k := 2) (n9 := 2) (hs := []) (by decide +kernel) rfl (zfit_b (by omega) (by omega)).2 ?_
    exact ⟨_, ⟨O206.1, O206.2.1, fun k T j hk (hC : k ≠ 52 ∨ j ≠ 4) => (O206.2.2 k T j hk (show k ≠ 52 ∨ j ≠ 4 by omega))⟩, Or.inr ⟨sgn_n (mt_n (by omega)), by omega, rd206⟩⟩
  ·
    refine y_cF (c := .ne) (off := 9) (len := 3) (r := (0, 0, 0, 0)) (by decide +kernel) (acmpF (c := .ne) (by show _ = _; omega)) ?_
    have m0 : bt b n (sk b n a) = 45 := by omega
    refine y_inc (j := 2) (a := y207) (c := 1) (ls' := fun v => [some (.inl (some 52)), some (.inl (some 2000017)), some v]) (len := 3) (r := (0, 0, 0, 0)) (by decide +kernel) rfl (fun _ => rfl) (by decide) (by omega) (by omega) (fun y215 hy215 => ?_)
    show qX 7 175 45 [some (.inl (some 52)), some (.inl (some 2000017)), some (zi y215)] [] h206 t _
    refine y_goto (off := (-29)) (pc' := 16) (len := 3) (r := (0, 0, 0, 0)) (by decide +kernel) (by decide +kernel) ?_
    refine y_same (i := .iload_n 2) (len := 1) (r := (0, 0, 0, 0)) (pc' := 17) (ls' := [some (.inl (some 52)), some (.inl (some 2000017)), some (zi y215)]) (st' := [zi y215]) (by decide +kernel) (fun k q => by cases q) rfl ?_
    refine y_same (i := .aload_n 1) (len := 1) (r := (0, 0, 0, 0)) (pc' := 18) (ls' := [some (.inl (some 52)), some (.inl (some 2000017)), some (zi y215)]) (st' := [.inl (some 2000017), zi y215]) (by decide +kernel) (fun k q => by cases q) rfl ?_
    refine y_cI (i := .invokevirtual 122) (len := 3) (r := (0, 268, 50, 1514)) (nL := 1) (k := 1) (n := 1) (hs := []) (args := [.inl (some 2000017)]) (rest := [zi y215]) (l0 := [some (.inl (some 2000017))]) (by decide +kernel) (Or.inr (Or.inl ⟨_, rfl⟩)) rfl rfl rfl rfl (Nat.le_of_ble_eq_true rfl) rfl rfl (qI_le (by decide) tln17) (fun y216 qy216 hRy216 => ?_)
    obtain ⟨rfl, hy216⟩ := hRy216
    refine y_cF (c := .ge) (off := 27) (len := 3) (r := (0, 0, 0, 0)) (by decide +kernel) (acmpF (c := .ge) (by show _ < _; omega)) ?_
    refine y_same (i := .aload_n 0) (len := 1) (r := (0, 0, 0, 0)) (pc' := 25) (ls' := [some (.inl (some 52)), some (.inl (some 2000017)), some (zi y215)]) (st' := [.inl (some 52)]) (by decide +kernel) (fun k q => by cases q) rfl ?_
    refine y_same (i := .aload_n 0) (len := 1) (r := (0, 0, 0, 0)) (pc' := 26) (ls' := [some (.inl (some 52)), some (.inl (some 2000017)), some (zi y215)]) (st' := [.inl (some 52), .inl (some 52)]) (by decide +kernel) (fun k q => by cases q) rfl ?_
    refine y_get (j := 101) (len := 3) (r := (12, 4, 0, 1332)) (by decide +kernel) O206.2.1 (t52 O206.2.1) at52 rfl rfl ha206 ?_
    refine y_same (i := .iload_n 2) (len := 1) (r := (0, 0, 0, 0)) (pc' := 30) (ls' := [some (.inl (some 52)), some (.inl (some 2000017)), some (zi y215)]) (st' := [zi y215, zi xa206, .inl (some 52)]) (by decide +kernel) (fun k q => by cases q) rfl ?_
    refine y_add (len := 1) (r := (0, 0, 0, 0)) (by decide +kernel) (by omega) (by omega) (fun y217 hy217 => ?_)
    refine y_cI (i := .invokevirtual 104) (len := 3) (r := (0, 170, 12, 1510)) (nL := 2) (k := 1) (n := 2) (hs := []) (args := [.inl (some 52), zi y217]) (rest := []) (l0 := [some (.inl (some 52)), some (zi y217)]) (by decide +kernel) (Or.inr (Or.inl ⟨_, rfl⟩)) rfl rfl rfl rfl (Nat.le_of_ble_eq_true rfl) (z52 O206.2.1) rfl (qI_le (by decide) (m_byte (d := 0) (k := (sk b n a + 1)) O206.2.1 rd206 (by omega))) (fun y218 qy218 hRy218 => ?_)
    obtain ⟨rfl, hy218⟩ := hRy218
    refine y_same (i := .aload_n 1) (len := 1) (r := (0, 0, 0, 0)) (pc' := 35) (ls' := [some (.inl (some 52)), some (.inl (some 2000017)), some (zi y215)]) (st' := [.inl (some 2000017), zi y218]) (by decide +kernel) (fun k q => by cases q) rfl ?_
    refine y_same (i := .iload_n 2) (len := 1) (r := (0, 0, 0, 0)) (pc' := 36) (ls' := [some (.inl (some 52)), some (.inl (some 2000017)), some (zi y215)]) (st' := [zi y215, .inl (some 2000017), zi y218]) (by decide +kernel) (fun k q => by cases q) rfl ?_
    refine y_cI (i := .invokevirtual 127) (len := 3) (r := (0, 269, 50, 1515)) (nL := 2) (k := 5) (n := 2) (hs := []) (args := [.inl (some 2000017), zi y215]) (rest := [zi y218]) (l0 := [some (.inl (some 2000017)), some (zi y215)]) (by decide +kernel) (Or.inr (Or.inl ⟨_, rfl⟩)) rfl rfl rfl rfl (Nat.le_of_ble_eq_true rfl) rfl rfl (qI_le (by decide) (tch17_1 (by omega))) (fun y219 qy219 hRy219 => ?_)
    obtain ⟨rfl, hy219⟩ := hRy219
    rcases Decidable.em (y218.toInt ≠ y219.toInt) with q220 | q220
    ·
      refine y_cT (c := .ne) (off := 9) (pc' := 48) (len := 3) (r := (0, 0, 0, 0)) (by decide +kernel) (acmpT (c := .ne) (by show ¬ (_ = _); omega)) (by decide +kernel) ?_
      refine y_same (i := .iload_n 2) (len := 1) (r := (0, 0, 0, 0)) (pc' := 49) (ls' := [some (.inl (some 52)), some (.inl (some 2000017)), some (zi y215)]) (st' := [zi y215]) (by decide +kernel) (fun k q => by cases q) rfl ?_
      refine y_same (i := .aload_n 1) (len := 1) (r := (0, 0, 0, 0)) (pc' := 50) (ls' := [some (.inl (some 52)), some (.inl (some 2000017)), some (zi y215)]) (st' := [.inl (some 2000017), zi y215]) (by decide +kernel) (fun k q => by cases q) rfl ?_
      refine y_cI (i := .invokevirtual 122) (len := 3) (r := (0, 268, 50, 1514)) (nL := 1) (k := 1) (n := 1) (hs := []) (args := [.inl (some 2000017)]) (rest := [zi y215]) (l0 := [some (.inl (some 2000017))]) (by decide +kernel) (Or.inr (Or.inl ⟨_, rfl⟩)) rfl rfl rfl rfl (Nat.le_of_ble_eq_true rfl) rfl rfl (qI_le (by decide) tln17) (fun y221 qy221 hRy221 => ?_)
      obtain ⟨rfl, hy221⟩ := hRy221
      refine y_cT (c := .lt) (off := 30) (pc' := 83) (len := 3) (r := (0, 0, 0, 0)) (by decide +kernel) (acmpT (c := .lt) (by show _ < _; omega)) (by decide +kernel) ?_
      refine y_ic (c := 0) (len := 1) (r := (0, 0, 0, 0)) (by decide +kernel) (by decide) (fun y222 hy222 => ?_)
      refine y_rI (len := 1) (r := (0, 0, 0, 0)) (nL := 3) (k := 2) (n9 := 2) (hs := []) (by decide +kernel) rfl (zfit_b (by omega) (by omega)).2 ?_
      exact ⟨_, ⟨O206.1, O206.2.1, fun k T j hk (hC : k ≠ 52 ∨ j ≠ 4) => (O206.2.2 k T j hk (show k ≠ 52 ∨ j ≠ 4 by omega))⟩, Or.inr ⟨sgn_n (mt_s (a' := sk b n a + 1) (by omega) (mt_n (by omega))), by omega, rd206⟩⟩
    ·
      refine y_cF (c := .ne) (off := 9) (len := 3) (r := (0, 0, 0, 0)) (by decide +kernel) (acmpF (c := .ne) (by show _ = _; omega)) ?_
      have m1 : bt b n (sk b n a + 1) = 62 := by omega
      refine y_inc (j := 2) (a := y215) (c := 1) (ls' := fun v => [some (.inl (some 52)), some (.inl (some 2000017)), some v]) (len := 3) (r := (0, 0, 0, 0)) (by decide +kernel) rfl (fun _ => rfl) (by decide) (by omega) (by omega) (fun y223 hy223 => ?_)
      show qX 7 175 45 [some (.inl (some 52)), some (.inl (some 2000017)), some (zi y223)] [] h206 t _
      refine y_goto (off := (-29)) (pc' := 16) (len := 3) (r := (0, 0, 0, 0)) (by decide +kernel) (by decide +kernel) ?_
      refine y_same (i := .iload_n 2) (len := 1) (r := (0, 0, 0, 0)) (pc' := 17) (ls' := [some (.inl (some 52)), some (.inl (some 2000017)), some (zi y223)]) (st' := [zi y223]) (by decide +kernel) (fun k q => by cases q) rfl ?_
      refine y_same (i := .aload_n 1) (len := 1) (r := (0, 0, 0, 0)) (pc' := 18) (ls' := [some (.inl (some 52)), some (.inl (some 2000017)), some (zi y223)]) (st' := [.inl (some 2000017), zi y223]) (by decide +kernel) (fun k q => by cases q) rfl ?_
      refine y_cI (i := .invokevirtual 122) (len := 3) (r := (0, 268, 50, 1514)) (nL := 1) (k := 1) (n := 1) (hs := []) (args := [.inl (some 2000017)]) (rest := [zi y223]) (l0 := [some (.inl (some 2000017))]) (by decide +kernel) (Or.inr (Or.inl ⟨_, rfl⟩)) rfl rfl rfl rfl (Nat.le_of_ble_eq_true rfl) rfl rfl (qI_le (by decide) tln17) (fun y224 qy224 hRy224 => ?_)
      obtain ⟨rfl, hy224⟩ := hRy224
      refine y_cT (c := .ge) (off := 27) (pc' := 48) (len := 3) (r := (0, 0, 0, 0)) (by decide +kernel) (acmpT (c := .ge) (by show _ ≤ _; omega)) (by decide +kernel) ?_
      refine y_same (i := .iload_n 2) (len := 1) (r := (0, 0, 0, 0)) (pc' := 49) (ls' := [some (.inl (some 52)), some (.inl (some 2000017)), some (zi y223)]) (st' := [zi y223]) (by decide +kernel) (fun k q => by cases q) rfl ?_
      refine y_same (i := .aload_n 1) (len := 1) (r := (0, 0, 0, 0)) (pc' := 50) (ls' := [some (.inl (some 52)), some (.inl (some 2000017)), some (zi y223)]) (st' := [.inl (some 2000017), zi y223]) (by decide +kernel) (fun k q => by cases q) rfl ?_
      refine y_cI (i := .invokevirtual 122) (len := 3) (r := (0, 268, 50, 1514)) (nL := 1) (k := 1) (n := 1) (hs := []) (args := [.inl (some 2000017)]) (rest := [zi y223]) (l0 := [some (.inl (some 2000017))]) (by decide +kernel) (Or.inr (Or.inl ⟨_, rfl⟩)) rfl rfl rfl rfl (Nat.le_of_ble_eq_true rfl) rfl rfl (qI_le (by decide) tln17) (fun y225 qy225 hRy225 => ?_)
      obtain ⟨rfl, hy225⟩ := hRy225
      refine y_cF (c := .lt) (off := 30) (len := 3) (r := (0, 0, 0, 0)) (by decide +kernel) (acmpF (c := .lt) (by show _ ≤ _; omega)) ?_
      refine y_same (i := .aload_n 1) (len := 1) (r := (0, 0, 0, 0)) (pc' := 57) (ls' := [some (.inl (some 52)), some (.inl (some 2000017)), some (zi y223)]) (st' := [.inl (some 2000017)]) (by decide +kernel) (fun k q => by cases q) rfl ?_
      refine y_ic (c := 0) (len := 1) (r := (0, 0, 0, 0)) (by decide +kernel) (by decide) (fun y226 hy226 => ?_)
      refine y_cI (i := .invokevirtual 127) (len := 3) (r := (0, 269, 50, 1515)) (nL := 2) (k := 5) (n := 2) (hs := []) (args := [.inl (some 2000017), zi y226]) (rest := []) (l0 := [some (.inl (some 2000017)), some (zi y226)]) (by decide +kernel) (Or.inr (Or.inl ⟨_, rfl⟩)) rfl rfl rfl rfl (Nat.le_of_ble_eq_true rfl) rfl rfl (qI_le (by decide) (tch17_0 (by omega))) (fun y227 qy227 hRy227 => ?_)
      obtain ⟨rfl, hy227⟩ := hRy227
      refine y_cI (i := .invokestatic 131) (len := 3) (r := (1, 174, 12, 1516)) (nL := 1) (k := 2) (n := 1) (hs := []) (args := [zi y227]) (rest := []) (l0 := [some (zi y227)]) (by decide +kernel) (Or.inl ⟨_, rfl⟩) rfl rfl rfl rfl (Nat.le_of_ble_eq_true rfl) rfl rfl (qI_le (by decide) (m_small (d := 0))) (fun y228 qy228 hRy228 => ?_)
      obtain ⟨rfl, gy228, by228⟩ := hRy228
      refine y_iT (c := .eq) (off := 21) (pc' := 85) (len := 3) (r := (0, 0, 0, 0)) (by decide +kernel) (acmpT (c := .eq) (by show _ = _; omega)) (by decide +kernel) ?_
      have ml0 := mt_le (w := [45, 62]) (mt_c (a' := sk b n a + 1) m0 (by omega) (mt_c (a' := sk b n a + 2) m1 (by omega) rfl)) (by omega) (by decide)
      simp only [List.length_cons, List.length_nil] at ml0
      refine y_same (i := .aload_n 0) (len := 1) (r := (0, 0, 0, 0)) (pc' := 86) (ls' := [some (.inl (some 52)), some (.inl (some 2000017)), some (zi y223)]) (st' := [.inl (some 52)]) (by decide +kernel) (fun k q => by cases q) rfl ?_
      refine y_same (i := .dup) (len := 1) (r := (0, 0, 0, 0)) (pc' := 87) (ls' := [some (.inl (some 52)), some (.inl (some 2000017)), some (zi y223)]) (st' := [.inl (some 52), .inl (some 52)]) (by decide +kernel) (fun k q => by cases q) rfl ?_
      refine y_get (j := 101) (len := 3) (r := (12, 4, 0, 1332)) (by decide +kernel) O206.2.1 (t52 O206.2.1) at52 rfl rfl ha206 ?_
      refine y_same (i := .iload_n 2) (len := 1) (r := (0, 0, 0, 0)) (pc' := 91) (ls' := [some (.inl (some 52)), some (.inl (some 2000017)), some (zi y223)]) (st' := [zi y223, zi xa206, .inl (some 52)]) (by decide +kernel) (fun k q => by cases q) rfl ?_
      refine y_add (len := 1) (r := (0, 0, 0, 0)) (by decide +kernel) (by omega) (by omega) (fun y229 hy229 => ?_)
      refine y_put (j := 101) (lo := 0) (hi := 200) (len := 3) (r := (12, 4, 0, 1332)) (by decide +kernel) O206.2.1 (t52 O206.2.1) at52 rfl rfl (by decide) rfl (by omega) (by omega) rfl (fun h230 hg230 hl230 hs230 ho230 => ?_)
      have ho230 : hO 52 4 h206 h230 := ho230
      have hs230 : hsl h230 52 4 = some (zi y229) := hs230
      refine y_ic (c := 1) (len := 1) (r := (0, 0, 0, 0)) (by decide +kernel) (by decide) (fun y231 hy231 => ?_)
      refine y_rI (len := 1) (r := (0, 0, 0, 0)) (nL := 3) (k := 2) (n9 := 2) (hs := []) (by decide +kernel) rfl (zfit_b (by omega) (by omega)).2 ?_
      have ml := mt_le (w := [45, 62]) (mt_c (a' := sk b n a + 1) m0 (by omega) (mt_c (a' := sk b n a + 2) m1 (by omega) rfl)) (by omega) (by decide)
      simp only [List.length_cons, List.length_nil] at ml
      exact ⟨_, ⟨O206.1, hg230, fun k T j hk (hC : k ≠ 52 ∨ j ≠ 4) => ((ho230 k j (by omega)).trans (O206.2.2 k T j hk (show k ≠ 52 ∨ j ≠ 4 by omega)))⟩, Or.inl ⟨sk b n a + 2, sgn_y (w := [45, 62]) (mt_c (a' := sk b n a + 1) m0 (by omega) (mt_c (a' := sk b n a + 2) m1 (by omega) rfl)), by omega, by omega, (rdM_up rd206 (ho230 52 3 (Or.inr (by omega))) (fun j => (ho230 54 j (Or.inl (by omega)))) ⟨_, hs230, by omega⟩)⟩⟩
theorem m_pass18 {t n a : Nat} {b : Nat → Int} {τ : List Nat} {h : zh} (hg : hG τ h) (rd : rdM h n a b) (han : a ≤ n) (ft : ftM h 0 (-1)) : qI 8 175 [some (.inl (some 52)), some (.inl (some 2000018)), none] h t (fun y h1 => ∃ τ1, oF (fun k j => k ≠ 52 ∨ j ≠ 4) τ h τ1 h1 ∧ ((∃ a', sgn b n [61] a = some a' ∧ a' ≤ n ∧ y.toInt = 1 ∧ rdM h1 n a' b) ∨ (sgn b n [61] a = none ∧ y.toInt = 0 ∧ rdM h1 n (sk b n a) b))) := by
  obtain ⟨⟨xn, hn, en⟩, ⟨xa, ha, ea⟩, hb, hn2⟩ := id rd
  obtain ⟨⟨xf, hf6, ef⟩, xw, hw7, ew7⟩ := id ft
  refine qI_of ?_
  refine y_same (i := .aload_n 0) (len := 1) (r := (0, 0, 0, 0)) (pc' := 1) (ls' := [some (.inl (some 52)), some (.inl (some 2000018)), none]) (st' := [.inl (some 52)]) (by decide +kernel) (fun k q => by cases q) rfl ?_
  refine y_cI (i := .invokevirtual 114) (len := 3) (r := (0, 172, 12, 1502)) (nL := 1) (k := 2) (n := 1) (hs := []) (args := [.inl (some 52)]) (rest := []) (l0 := [some (.inl (some 52))]) (by decide +kernel) (Or.inr (Or.inl ⟨_, rfl⟩)) rfl rfl rfl rfl (Nat.le_of_ble_eq_true rfl) (z52 hg) rfl (qI_le (by decide) (m_fine (d := 0) hg ft)) (fun y232 qy232 hRy232 => ?_)
  obtain ⟨rfl, gy232, by232⟩ := hRy232
  have hy232 : y232.toInt = 1 := gy232 rfl
  refine y_iT (c := .ne) (off := 5) (pc' := 9) (len := 3) (r := (0, 0, 0, 0)) (by decide +kernel) (acmpT (c := .ne) (by show ¬ (_ = _); omega)) (by decide +kernel) ?_
  refine y_same (i := .aload_n 0) (len := 1) (r := (0, 0, 0, 0)) (pc' := 10) (ls' := [some (.inl (some 52)), some (.inl (some 2000018)), none]) (st' := [.inl (some 52)]) (by decide +kernel) (fun k q => by cases q) rfl ?_
  refine y_cI (i := .invokevirtual 118) (len := 3) (r := (0, 171, 12, 1506)) (nL := 1) (k := 1) (n := 1) (hs := []) (args := [.inl (some 52)]) (rest := []) (l0 := [some (.inl (some 52))]) (by decide +kernel) (Or.inr (Or.inl ⟨_, rfl⟩)) rfl rfl rfl rfl (Nat.le_of_ble_eq_true rfl) (z52 hg) rfl (qI_le (by decide) (m_here hg rd (by omega))) (fun y233 h233 hRy233 => ?_)
  obtain ⟨τ233, O233, hy233, rd233⟩ := hRy233
  have sl233 := sk_le (b := b) (n := n) (a := a) (by omega)
  obtain ⟨⟨xn233, hn233, en233⟩, ⟨xa233, ha233, ea233⟩, hb233, -⟩ := id rd233
  refine y_same (i := .pop) (len := 1) (r := (0, 0, 0, 0)) (pc' := 14) (ls' := [some (.inl (some 52)), some (.inl (some 2000018)), none]) (st' := []) (by decide +kernel) (fun k q => by cases q) rfl ?_
  refine y_ic (c := 0) (len := 1) (r := (0, 0, 0, 0)) (by decide +kernel) (by decide) (fun y234 hy234 => ?_)
  refine y_same (i := .istore_n 2) (len := 1) (r := (0, 0, 0, 0)) (pc' := 16) (ls' := [some (.inl (some 52)), some (.inl (some 2000018)), some (zi y234)]) (st' := []) (by decide +kernel) (fun k q => by cases q) rfl ?_
  refine y_same (i := .iload_n 2) (len := 1) (r := (0, 0, 0, 0)) (pc' := 17) (ls' := [some (.inl (some 52)), some (.inl (some 2000018)), some (zi y234)]) (st' := [zi y234]) (by decide +kernel) (fun k q => by cases q) rfl ?_
  refine y_same (i := .aload_n 1) (len := 1) (r := (0, 0, 0, 0)) (pc' := 18) (ls' := [some (.inl (some 52)), some (.inl (some 2000018)), some (zi y234)]) (st' := [.inl (some 2000018), zi y234]) (by decide +kernel) (fun k q => by cases q) rfl ?_
  refine y_cI (i := .invokevirtual 122) (len := 3) (r := (0, 268, 50, 1514)) (nL := 1) (k := 1) (n := 1) (hs := []) (args := [.inl (some 2000018)]) (rest := [zi y234]) (l0 := [some (.inl (some 2000018))]) (by decide +kernel) (Or.inr (Or.inl ⟨_, rfl⟩)) rfl rfl rfl rfl (Nat.le_of_ble_eq_true rfl) rfl rfl (qI_le (by decide) tln18) (fun y235 qy235 hRy235 => ?_)
  obtain ⟨rfl, hy235⟩ := hRy235
  refine y_cF (c := .ge) (off := 27) (len := 3) (r := (0, 0, 0, 0)) (by decide +kernel) (acmpF (c := .ge) (by show _ < _; omega)) ?_
  refine y_same (i := .aload_n 0) (len := 1) (r := (0, 0, 0, 0)) (pc' := 25) (ls' := [some (.inl (some 52)), some (.inl (some 2000018)), some (zi y234)]) (st' := [.inl (some 52)]) (by decide +kernel) (fun k q => by cases q) rfl ?_
  refine y_same (i := .aload_n 0) (len := 1) (r := (0, 0, 0, 0)) (pc' := 26) (ls' := [some (.inl (some 52)), some (.inl (some 2000018)), some (zi y234)]) (st' := [.inl (some 52), .inl (some 52)]) (by decide +kernel) (fun k q => by cases q) rfl ?_
  refine y_get (j := 101) (len := 3) (r := (12, 4, 0, 1332)) (by decide +kernel) O233.2.1 (t52 O233.2.1) at52 rfl rfl ha233 ?_
  refine y_same (i := .iload_n 2) (len := 1) (r := (0, 0, 0, 0)) (pc' := 30) (ls' := [some (.inl (some 52)), some (.inl (some 2000018)), some (zi y234)]) (st' := [zi y234, zi xa233, .inl (some 52)]) (by decide +kernel) (fun k q => by cases q) rfl ?_
  refine y_add (len := 1) (r := (0, 0, 0, 0)) (by decide +kernel) (by omega) (by omega) (fun y236 hy236 => ?_)
  refine y_cI (i := .invokevirtual 104) (len := 3) (r := (0, 170, 12, 1510)) (nL := 2) (k := 1) (n := 2) (hs := []) (args := [.inl (some 52), zi y236]) (rest := []) (l0 := [some (.inl (some 52)), some (zi y236)]) (by decide +kernel) (Or.inr (Or.inl ⟨_, rfl⟩)) rfl rfl rfl rfl (Nat.le_of_ble_eq_true rfl) (z52 O233.2.1) rfl (qI_le (by decide) (m_byte (d := 0) (k := (sk b n a)) O233.2.1 rd233 (by omega))) (fun y237 qy237 hRy237 => ?_)
  obtain ⟨rfl, hy237⟩ := hRy237
  refine y_same (i := .aload_n 1) (len := 1) (r := (0, 0, 0, 0)) (pc' := 35) (ls' := [some (.inl (some 52)), some (.inl (some 2000018)), some (zi y234)]) (st' := [.inl (some 2000018), zi y237]) (by decide +kernel) (fun k q => by cases q) rfl ?_
  refine y_same (i := .iload_n 2) (len := 1) (r := (0, 0, 0, 0)) (pc' := 36) (ls' := [some (.inl (some 52)), some (.inl (some 2000018)), some (zi y234)]) (st' := [zi y234, .inl (some 2000018), zi y237]) (by decide +kernel) (fun k q => by cases q) rfl ?_
  refine y_cI (i := .invokevirtual 127) (len := 3) (r := (0, 269, 50, 1515)) (nL := 2) (k := 5) (n := 2) (hs := []) (args := [.inl (some 2000018), zi y234]) (rest := [zi y237]) (l0 := [some (.inl (some 2000018)), some (zi y234)]) (by decide +kernel) (Or.inr (Or.inl ⟨_, rfl⟩)) rfl rfl rfl rfl (Nat.le_of_ble_eq_true rfl) rfl rfl (qI_le (by decide) (tch18_0 (by omega))) (fun y238 qy238 hRy238 => ?_)
  obtain ⟨rfl, hy238⟩ := hRy238
  rcases Decidable.em (y237.toInt ≠ y238.toInt) with q239 | q239
  ·
    refine y_cT (c := .ne) (off := 9) (pc' := 48) (len := 3) (r := (0, 0, 0, 0)) (by decide +kernel) (acmpT (c := .ne) (by show ¬ (_ = _); omega)) (by decide +kernel) ?_
    refine y_same (i := .iload_n 2) (len := 1) (r := (0, 0, 0, 0)) (pc' := 49) (ls' := [some (.inl (some 52)), some (.inl (some 2000018)), some (zi y234)]) (st' := [zi y234]) (by decide +kernel) (fun k q => by cases q) rfl ?_
    refine y_same (i := .aload_n 1) (len := 1) (r := (0, 0, 0, 0)) (pc' := 50) (ls' := [some (.inl (some 52)), some (.inl (some 2000018)), some (zi y234)]) (st' := [.inl (some 2000018), zi y234]) (by decide +kernel) (fun k q => by cases q) rfl ?_
    refine y_cI (i := .invokevirtual 122) (len := 3) (r := (0, 268, 50, 1514)) (nL := 1) (k := 1) (n := 1) (hs := []) (args := [.inl (some 2000018)]) (rest := [zi y234]) (l0 := [some (.inl (some 2000018))]) (by decide +kernel) (Or.inr (Or.inl ⟨_, rfl⟩)) rfl rfl rfl rfl (Nat.le_of_ble_eq_true rfl) rfl rfl (qI_le (by decide) tln18) (fun y240 qy240 hRy240 => ?_)
    obtain ⟨rfl, hy240⟩ := hRy240
    refine y_cT (c := .lt) (off := 30) (pc' := 83) (len := 3) (r := (0, 0, 0, 0)) (by decide +kernel) (acmpT (c := .lt) (by show _ < _; omega)) (by decide +kernel) ?_
    refine y_ic (c := 0) (len := 1) (r := (0, 0, 0, 0)) (by decide +kernel) (by decide) (fun y241 hy241 => ?_)
    refine y_rI (len := 1) (r := (0, 0, 0, 0)) (nL := 3) (k := 2) (n9 := 2) (hs := []) (by decide +kernel) rfl (zfit_b (by omega) (by omega)).2 ?_
    exact ⟨_, ⟨O233.1, O233.2.1, fun k T j hk (hC : k ≠ 52 ∨ j ≠ 4) => (O233.2.2 k T j hk (show k ≠ 52 ∨ j ≠ 4 by omega))⟩, Or.inr ⟨sgn_n (mt_n (by omega)), by omega, rd233⟩⟩
  ·
    refine y_cF (c := .ne) (off := 9) (len := 3) (r := (0, 0, 0, 0)) (by decide +kernel) (acmpF (c := .ne) (by show _ = _; omega)) ?_
    have m0 : bt b n (sk b n a) = 61 := by omega
    refine y_inc (j := 2) (a := y234) (c := 1) (ls' := fun v => [some (.inl (some 52)), some (.inl (some 2000018)), some v]) (len := 3) (r := (0, 0, 0, 0)) (by decide +kernel) rfl (fun _ => rfl) (by decide) (by omega) (by omega) (fun y242 hy242 => ?_)
    show qX 7 175 45 [some (.inl (some 52)), some (.inl (some 2000018)), some (zi y242)] [] h233 t _
    refine y_goto (off := (-29)) (pc' := 16) (len := 3) (r := (0, 0, 0, 0)) (by decide +kernel) (by decide +kernel) ?_
    refine y_same (i := .iload_n 2) (len := 1) (r := (0, 0, 0, 0)) (pc' := 17) (ls' := [some (.inl (some 52)), some (.inl (some 2000018)), some (zi y242)]) (st' := [zi y242]) (by decide +kernel) (fun k q => by cases q) rfl ?_
    refine y_same (i := .aload_n 1) (len := 1) (r := (0, 0, 0, 0)) (pc' := 18) (ls' := [some (.inl (some 52)), some (.inl (some 2000018)), some (zi y242)]) (st' := [.inl (some 2000018), zi y242]) (by decide +kernel) (fun k q => by cases q) rfl ?_
    refine y_cI (i := .invokevirtual 122) (len := 3) (r := (0, 268, 50, 1514)) (nL := 1) (k := 1) (n := 1) (hs := []) (args := [.inl (some 2000018)]) (rest := [zi y242]) (l0 := [some (.inl (some 2000018))]) (by decide +kernel) (Or.inr (Or.inl ⟨_, rfl⟩)) rfl rfl rfl rfl (Nat.le_of_ble_eq_true rfl) rfl rfl (qI_le (by decide) tln18) (fun y243 qy243 hRy243 => ?_)
    obtain ⟨rfl, hy243⟩ := hRy243
    refine y_cT (c := .ge) (off := 27) (pc' := 48) (len := 3) (r := (0, 0, 0, 0)) (by decide +kernel) (acmpT (c := .ge) (by show _ ≤ _; omega)) (by decide +kernel) ?_
    refine y_same (i := .iload_n 2) (len := 1) (r := (0, 0, 0, 0)) (pc' := 49) (ls' := [some (.inl (some 52)), some (.inl (some 2000018)), some (zi y242)]) (st' := [zi y242]) (by decide +kernel) (fun k q => by cases q) rfl ?_
    refine y_same (i := .aload_n 1) (len := 1) (r := (0, 0, 0, 0)) (pc' := 50) (ls' := [some (.inl (some 52)), some (.inl (some 2000018)), some (zi y242)]) (st' := [.inl (some 2000018), zi y242]) (by decide +kernel) (fun k q => by cases q) rfl ?_
    refine y_cI (i := .invokevirtual 122) (len := 3) (r := (0, 268, 50, 1514)) (nL := 1) (k := 1) (n := 1) (hs := []) (args := [.inl (some 2000018)]) (rest := [zi y242]) (l0 := [some (.inl (some 2000018))]) (by decide +kernel) (Or.inr (Or.inl ⟨_, rfl⟩)) rfl rfl rfl rfl (Nat.le_of_ble_eq_true rfl) rfl rfl (qI_le (by decide) tln18) (fun y244 qy244 hRy244 => ?_)
    obtain ⟨rfl, hy244⟩ := hRy244
    refine y_cF (c := .lt) (off := 30) (len := 3) (r := (0, 0, 0, 0)) (by decide +kernel) (acmpF (c := .lt) (by show _ ≤ _; omega)) ?_
    refine y_same (i := .aload_n 1) (len := 1) (r := (0, 0, 0, 0)) (pc' := 57) (ls' := [some (.inl (some 52)), some (.inl (some 2000018)), some (zi y242)]) (st' := [.inl (some 2000018)]) (by decide +kernel) (fun k q => by cases q) rfl ?_
    refine y_ic (c := 0) (len := 1) (r := (0, 0, 0, 0)) (by decide +kernel) (by decide) (fun y245 hy245 => ?_)
    refine y_cI (i := .invokevirtual 127) (len := 3) (r := (0, 269, 50, 1515)) (nL := 2) (k := 5) (n := 2) (hs := []) (args := [.inl (some 2000018), zi y245]) (rest := []) (l0 := [some (.inl (some 2000018)), some (zi y245)]) (by decide +kernel) (Or.inr (Or.inl ⟨_, rfl⟩)) rfl rfl rfl rfl (Nat.le_of_ble_eq_true rfl) rfl rfl (qI_le (by decide) (tch18_0 (by omega))) (fun y246 qy246 hRy246 => ?_)
    obtain ⟨rfl, hy246⟩ := hRy246
    refine y_cI (i := .invokestatic 131) (len := 3) (r := (1, 174, 12, 1516)) (nL := 1) (k := 2) (n := 1) (hs := []) (args := [zi y246]) (rest := []) (l0 := [some (zi y246)]) (by decide +kernel) (Or.inl ⟨_, rfl⟩) rfl rfl rfl rfl (Nat.le_of_ble_eq_true rfl) rfl rfl (qI_le (by decide) (m_small (d := 0))) (fun y247 qy247 hRy247 => ?_)
    obtain ⟨rfl, gy247, by247⟩ := hRy247
    refine y_iT (c := .eq) (off := 21) (pc' := 85) (len := 3) (r := (0, 0, 0, 0)) (by decide +kernel) (acmpT (c := .eq) (by show _ = _; omega)) (by decide +kernel) ?_
    have ml0 := mt_le (w := [61]) (mt_c (a' := sk b n a + 1) m0 (by omega) rfl) (by omega) (by decide)
    simp only [List.length_cons, List.length_nil] at ml0
    refine y_same (i := .aload_n 0) (len := 1) (r := (0, 0, 0, 0)) (pc' := 86) (ls' := [some (.inl (some 52)), some (.inl (some 2000018)), some (zi y242)]) (st' := [.inl (some 52)]) (by decide +kernel) (fun k q => by cases q) rfl ?_
    refine y_same (i := .dup) (len := 1) (r := (0, 0, 0, 0)) (pc' := 87) (ls' := [some (.inl (some 52)), some (.inl (some 2000018)), some (zi y242)]) (st' := [.inl (some 52), .inl (some 52)]) (by decide +kernel) (fun k q => by cases q) rfl ?_
    refine y_get (j := 101) (len := 3) (r := (12, 4, 0, 1332)) (by decide +kernel) O233.2.1 (t52 O233.2.1) at52 rfl rfl ha233 ?_
    refine y_same (i := .iload_n 2) (len := 1) (r := (0, 0, 0, 0)) (pc' := 91) (ls' := [some (.inl (some 52)), some (.inl (some 2000018)), some (zi y242)]) (st' := [zi y242, zi xa233, .inl (some 52)]) (by decide +kernel) (fun k q => by cases q) rfl ?_
    refine y_add (len := 1) (r := (0, 0, 0, 0)) (by decide +kernel) (by omega) (by omega) (fun y248 hy248 => ?_)
    refine y_put (j := 101) (lo := 0) (hi := 200) (len := 3) (r := (12, 4, 0, 1332)) (by decide +kernel) O233.2.1 (t52 O233.2.1) at52 rfl rfl (by decide) rfl (by omega) (by omega) rfl (fun h249 hg249 hl249 hs249 ho249 => ?_)
    have ho249 : hO 52 4 h233 h249 := ho249
    have hs249 : hsl h249 52 4 = some (zi y248) := hs249
    refine y_ic (c := 1) (len := 1) (r := (0, 0, 0, 0)) (by decide +kernel) (by decide) (fun y250 hy250 => ?_)
    refine y_rI (len := 1) (r := (0, 0, 0, 0)) (nL := 3) (k := 2) (n9 := 2) (hs := []) (by decide +kernel) rfl (zfit_b (by omega) (by omega)).2 ?_
    have ml := mt_le (w := [61]) (mt_c (a' := sk b n a + 1) m0 (by omega) rfl) (by omega) (by decide)
    simp only [List.length_cons, List.length_nil] at ml
    exact ⟨_, ⟨O233.1, hg249, fun k T j hk (hC : k ≠ 52 ∨ j ≠ 4) => ((ho249 k j (by omega)).trans (O233.2.2 k T j hk (show k ≠ 52 ∨ j ≠ 4 by omega)))⟩, Or.inl ⟨sk b n a + 1, sgn_y (w := [61]) (mt_c (a' := sk b n a + 1) m0 (by omega) rfl), by omega, by omega, (rdM_up rd233 (ho249 52 3 (Or.inr (by omega))) (fun j => (ho249 54 j (Or.inl (by omega)))) ⟨_, hs249, by omega⟩)⟩⟩
theorem m_pass19 {t n a : Nat} {b : Nat → Int} {τ : List Nat} {h : zh} (hg : hG τ h) (rd : rdM h n a b) (han : a ≤ n) (ft : ftM h 0 (-1)) : qI 8 175 [some (.inl (some 52)), some (.inl (some 2000019)), none] h t (fun y h1 => ∃ τ1, oF (fun k j => k ≠ 52 ∨ j ≠ 4) τ h τ1 h1 ∧ ((∃ a', sgn b n [33, 61] a = some a' ∧ a' ≤ n ∧ y.toInt = 1 ∧ rdM h1 n a' b) ∨ (sgn b n [33, 61] a = none ∧ y.toInt = 0 ∧ rdM h1 n (sk b n a) b))) := by
  obtain ⟨⟨xn, hn, en⟩, ⟨xa, ha, ea⟩, hb, hn2⟩ := id rd
  obtain ⟨⟨xf, hf6, ef⟩, xw, hw7, ew7⟩ := id ft
  refine qI_of ?_
  refine y_same (i := .aload_n 0) (len := 1) (r := (0, 0, 0, 0)) (pc' := 1) (ls' := [some (.inl (some 52)), some (.inl (some 2000019)), none]) (st' := [.inl (some 52)]) (by decide +kernel) (fun k q => by cases q) rfl ?_
  refine y_cI (i := .invokevirtual 114) (len := 3) (r := (0, 172, 12, 1502)) (nL := 1) (k := 2) (n := 1) (hs := []) (args := [.inl (some 52)]) (rest := []) (l0 := [some (.inl (some 52))]) (by decide +kernel) (Or.inr (Or.inl ⟨_, rfl⟩)) rfl rfl rfl rfl (Nat.le_of_ble_eq_true rfl) (z52 hg) rfl (qI_le (by decide) (m_fine (d := 0) hg ft)) (fun y251 qy251 hRy251 => ?_)
  obtain ⟨rfl, gy251, by251⟩ := hRy251
  have hy251 : y251.toInt = 1 := gy251 rfl
  refine y_iT (c := .ne) (off := 5) (pc' := 9) (len := 3) (r := (0, 0, 0, 0)) (by decide +kernel) (acmpT (c := .ne) (by show ¬ (_ = _); omega)) (by decide +kernel) ?_
  refine y_same (i := .aload_n 0) (len := 1) (r := (0, 0, 0, 0)) (pc' := 10) (ls' := [some (.inl (some 52)), some (.inl (some 2000019)), none]) (st' := [.inl (some 52)]) (by decide +kernel) (fun k q => by cases q) rfl ?_
  refine y_cI (i := .invokevirtual 118) (len := 3) (r := (0, 171, 12, 1506)) (nL := 1) (k := 1) (n := 1) (hs := []) (args := [.inl (some 52)]) (rest := []) (l0 := [some (.inl (some 52))]) (by decide +kernel) (Or.inr (Or.inl ⟨_, rfl⟩)) rfl rfl rfl rfl (Nat.le_of_ble_eq_true rfl) (z52 hg) rfl (qI_le (by decide) (m_here hg rd (by omega))) (fun y252 h252 hRy252 => ?_)
  obtain ⟨τ252, O252, hy252, rd252⟩ := hRy252
  have sl252 := sk_le (b := b) (n := n) (a := a) (by omega)
  obtain ⟨⟨xn252, hn252, en252⟩, ⟨xa252, ha252, ea252⟩, hb252, -⟩ := id rd252
  refine y_same (i := .pop) (len := 1) (r := (0, 0, 0, 0)) (pc' := 14) (ls' := [some (.inl (some 52)), some (.inl (some 2000019)), none]) (st' := []) (by decide +kernel) (fun k q => by cases q) rfl ?_
  refine y_ic (c := 0) (len := 1) (r := (0, 0, 0, 0)) (by decide +kernel) (by decide) (fun y253 hy253 => ?_)
  refine y_same (i := .istore_n 2) (len := 1) (r := (0, 0, 0, 0)) (pc' := 16) (ls' := [some (.inl (some 52)), some (.inl (some 2000019)), some (zi y253)]) (st' := []) (by decide +kernel) (fun k q => by cases q) rfl ?_
  refine y_same (i := .iload_n 2) (len := 1) (r := (0, 0, 0, 0)) (pc' := 17) (ls' := [some (.inl (some 52)), some (.inl (some 2000019)), some (zi y253)]) (st' := [zi y253]) (by decide +kernel) (fun k q => by cases q) rfl ?_
  refine y_same (i := .aload_n 1) (len := 1) (r := (0, 0, 0, 0)) (pc' := 18) (ls' := [some (.inl (some 52)), some (.inl (some 2000019)), some (zi y253)]) (st' := [.inl (some 2000019), zi y253]) (by decide +kernel) (fun k q => by cases q) rfl ?_
  refine y_cI (i := .invokevirtual 122) (len := 3) (r := (0, 268, 50, 1514)) (nL := 1) (k := 1) (n := 1) (hs := []) (args := [.inl (some 2000019)]) (rest := [zi y253]) (l0 := [some (.inl (some 2000019))]) (by decide +kernel) (Or.inr (Or.inl ⟨_, rfl⟩)) rfl rfl rfl rfl (Nat.le_of_ble_eq_true rfl) rfl rfl (qI_le (by decide) tln19) (fun y254 qy254 hRy254 => ?_)
  obtain ⟨rfl, hy254⟩ := hRy254
  refine y_cF (c := .ge) (off := 27) (len := 3) (r := (0, 0, 0, 0)) (by decide +kernel) (acmpF (c := .ge) (by show _ < _; omega)) ?_
  refine y_same (i := .aload_n 0) (len := 1) (r := (0, 0, 0, 0)) (pc' := 25) (ls' := [some (.inl (some 52)), some (.inl (some 2000019)), some (zi y253)]) (st' := [.inl (some 52)]) (by decide +kernel) (fun k q => by cases q) rfl ?_
  refine y_same (i := .aload_n 0) (len := 1) (r := (0, 0, 0, 0)) (pc' := 26) (ls' := [some (.inl (some 52)), some (.inl (some 2000019)), some (zi y253)]) (st' := [.inl (some 52), .inl (some 52)]) (by decide +kernel) (fun k q => by cases q) rfl ?_
  refine y_get (j := 101) (len := 3) (r := (12, 4, 0, 1332)) (by decide +kernel) O252.2.1 (t52 O252.2.1) at52 rfl rfl ha252 ?_
  refine y_same (i := .iload_n 2) (len := 1) (r := (0, 0, 0, 0)) (pc' := 30) (ls' := [some (.inl (some 52)), some (.inl (some 2000019)), some (zi y253)]) (st' := [zi y253, zi xa252, .inl (some 52)]) (by decide +kernel) (fun k q => by cases q) rfl ?_
  refine y_add (len := 1) (r := (0, 0, 0, 0)) (by decide +kernel) (by omega) (by omega) (fun y255 hy255 => ?_)
  refine y_cI (i := .invokevirtual 104) (len := 3) (r := (0, 170, 12, 1510)) (nL := 2) (k := 1) (n := 2) (hs := []) (args := [.inl (some 52), zi y255]) (rest := []) (l0 := [some (.inl (some 52)), some (zi y255)]) (by decide +kernel) (Or.inr (Or.inl ⟨_, rfl⟩)) rfl rfl rfl rfl (Nat.le_of_ble_eq_true rfl) (z52 O252.2.1) rfl (qI_le (by decide) (m_byte (d := 0) (k := (sk b n a)) O252.2.1 rd252 (by omega))) (fun y256 qy256 hRy256 => ?_)
  obtain ⟨rfl, hy256⟩ := hRy256
  refine y_same (i := .aload_n 1) (len := 1) (r := (0, 0, 0, 0)) (pc' := 35) (ls' := [some (.inl (some 52)), some (.inl (some 2000019)), some (zi y253)]) (st' := [.inl (some 2000019), zi y256]) (by decide +kernel) (fun k q => by cases q) rfl ?_
  refine y_same (i := .iload_n 2) (len := 1) (r := (0, 0, 0, 0)) (pc' := 36) (ls' := [some (.inl (some 52)), some (.inl (some 2000019)), some (zi y253)]) (st' := [zi y253, .inl (some 2000019), zi y256]) (by decide +kernel) (fun k q => by cases q) rfl ?_
  refine y_cI (i := .invokevirtual 127) (len := 3) (r := (0, 269, 50, 1515)) (nL := 2) (k := 5) (n := 2) (hs := []) (args := [.inl (some 2000019), zi y253]) (rest := [zi y256]) (l0 := [some (.inl (some 2000019)), some (zi y253)]) (by decide +kernel) (Or.inr (Or.inl ⟨_, rfl⟩)) rfl rfl rfl rfl (Nat.le_of_ble_eq_true rfl) rfl rfl (qI_le (by decide) (tch19_0 (by omega))) (fun y257 qy257 hRy257 => ?_)
  obtain ⟨rfl, hy257⟩ := hRy257
  rcases Decidable.em (y256.toInt ≠ y257.toInt) with q258 | q258
  ·
    refine y_cT (c := .ne) (off := 9) (pc' := 48) (len := 3) (r := (0, 0, 0, 0)) (by decide +kernel) (acmpT (c := .ne) (by show ¬ (_ = _); omega)) (by decide +kernel) ?_
    refine y_same (i := .iload_n 2) (len := 1) (r := (0, 0, 0, 0)) (pc' := 49) (ls' := [some (.inl (some 52)), some (.inl (some 2000019)), some (zi y253)]) (st' := [zi y253]) (by decide +kernel) (fun k q => by cases q) rfl ?_
    refine y_same (i := .aload_n 1) (len := 1) (r := (0, 0, 0, 0)) (pc' := 50) (ls' := [some (.inl (some 52)), some (.inl (some 2000019)), some (zi y253)]) (st' := [.inl (some 2000019), zi y253]) (by decide +kernel) (fun k q => by cases q) rfl ?_
    refine y_cI (i := .invokevirtual 122) (len := 3) (r := (0, 268, 50, 1514)) (nL := 1) (k := 1) (n := 1) (hs := []) (args := [.inl (some 2000019)]) (rest := [zi y253]) (l0 := [some (.inl (some 2000019))]) (by decide +kernel) (Or.inr (Or.inl ⟨_, rfl⟩)) rfl rfl rfl rfl (Nat.le_of_ble_eq_true rfl) rfl rfl (qI_le (by decide) tln19) (fun y259 qy259 hRy259 => ?_)
    obtain ⟨rfl, hy259⟩ := hRy259
    refine y_cT (c := .lt) (off := 30) (pc' := 83) (len := 3) (r := (0, 0, 0, 0)) (by decide +kernel) (acmpT (c := .lt) (by show _ < _; omega)) (by decide +kernel) ?_
    refine y_ic (c := 0) (len := 1) (r := (0, 0, 0, 0)) (by decide +kernel) (by decide) (fun y260 hy260 => ?_)
    refine y_rI (len := 1) (r := (0, 0, 0, 0)) (nL := 3) (k := 2) (n9 := 2) (hs := []) (by decide +kernel) rfl (zfit_b (by omega) (by omega)).2 ?_
    exact ⟨_, ⟨O252.1, O252.2.1, fun k T j hk (hC : k ≠ 52 ∨ j ≠ 4) => (O252.2.2 k T j hk (show k ≠ 52 ∨ j ≠ 4 by omega))⟩, Or.inr ⟨sgn_n (mt_n (by omega)), by omega, rd252⟩⟩
  ·
    refine y_cF (c := .ne) (off := 9) (len := 3) (r := (0, 0, 0, 0)) (by decide +kernel) (acmpF (c := .ne) (by show _ = _; omega)) ?_
    have m0 : bt b n (sk b n a) = 33 := by omega
    refine y_inc (j := 2) (a := y253) (c := 1) (ls' := fun v => [some (.inl (some 52)), some (.inl (some 2000019)), some v]) (len := 3) (r := (0, 0, 0, 0)) (by decide +kernel) rfl (fun _ => rfl) (by decide) (by omega) (by omega) (fun y261 hy261 => ?_)
    show qX 7 175 45 [some (.inl (some 52)), some (.inl (some 2000019)), some (zi y261)] [] h252 t _
    refine y_goto (off := (-29)) (pc' := 16) (len := 3) (r := (0, 0, 0, 0)) (by decide +kernel) (by decide +kernel) ?_
    refine y_same (i := .iload_n 2) (len := 1) (r := (0, 0, 0, 0)) (pc' := 17) (ls' := [some (.inl (some 52)), some (.inl (some 2000019)), some (zi y261)]) (st' := [zi y261]) (by decide +kernel) (fun k q => by cases q) rfl ?_
    refine y_same (i := .aload_n 1) (len := 1) (r := (0, 0, 0, 0)) (pc' := 18) (ls' := [some (.inl (some 52)), some (.inl (some 2000019)), some (zi y261)]) (st' := [.inl (some 2000019), zi y261]) (by decide +kernel) (fun k q => by cases q) rfl ?_
    refine y_cI (i := .invokevirtual 122) (len := 3) (r := (0, 268, 50, 1514)) (nL := 1) (k := 1) (n := 1) (hs := []) (args := [.inl (some 2000019)]) (rest := [zi y261]) (l0 := [some (.inl (some 2000019))]) (by decide +kernel) (Or.inr (Or.inl ⟨_, rfl⟩)) rfl rfl rfl rfl (Nat.le_of_ble_eq_true rfl) rfl rfl (qI_le (by decide) tln19) (fun y262 qy262 hRy262 => ?_)
    obtain ⟨rfl, hy262⟩ := hRy262
    refine y_cF (c := .ge) (off := 27) (len := 3) (r := (0, 0, 0, 0)) (by decide +kernel) (acmpF (c := .ge) (by show _ < _; omega)) ?_
    refine y_same (i := .aload_n 0) (len := 1) (r := (0, 0, 0, 0)) (pc' := 25) (ls' := [some (.inl (some 52)), some (.inl (some 2000019)), some (zi y261)]) (st' := [.inl (some 52)]) (by decide +kernel) (fun k q => by cases q) rfl ?_
    refine y_same (i := .aload_n 0) (len := 1) (r := (0, 0, 0, 0)) (pc' := 26) (ls' := [some (.inl (some 52)), some (.inl (some 2000019)), some (zi y261)]) (st' := [.inl (some 52), .inl (some 52)]) (by decide +kernel) (fun k q => by cases q) rfl ?_
    refine y_get (j := 101) (len := 3) (r := (12, 4, 0, 1332)) (by decide +kernel) O252.2.1 (t52 O252.2.1) at52 rfl rfl ha252 ?_
    refine y_same (i := .iload_n 2) (len := 1) (r := (0, 0, 0, 0)) (pc' := 30) (ls' := [some (.inl (some 52)), some (.inl (some 2000019)), some (zi y261)]) (st' := [zi y261, zi xa252, .inl (some 52)]) (by decide +kernel) (fun k q => by cases q) rfl ?_
    refine y_add (len := 1) (r := (0, 0, 0, 0)) (by decide +kernel) (by omega) (by omega) (fun y263 hy263 => ?_)
    refine y_cI (i := .invokevirtual 104) (len := 3) (r := (0, 170, 12, 1510)) (nL := 2) (k := 1) (n := 2) (hs := []) (args := [.inl (some 52), zi y263]) (rest := []) (l0 := [some (.inl (some 52)), some (zi y263)]) (by decide +kernel) (Or.inr (Or.inl ⟨_, rfl⟩)) rfl rfl rfl rfl (Nat.le_of_ble_eq_true rfl) (z52 O252.2.1) rfl (qI_le (by decide) (m_byte (d := 0) (k := (sk b n a + 1)) O252.2.1 rd252 (by omega))) (fun y264 qy264 hRy264 => ?_)
    obtain ⟨rfl, hy264⟩ := hRy264
    refine y_same (i := .aload_n 1) (len := 1) (r := (0, 0, 0, 0)) (pc' := 35) (ls' := [some (.inl (some 52)), some (.inl (some 2000019)), some (zi y261)]) (st' := [.inl (some 2000019), zi y264]) (by decide +kernel) (fun k q => by cases q) rfl ?_
    refine y_same (i := .iload_n 2) (len := 1) (r := (0, 0, 0, 0)) (pc' := 36) (ls' := [some (.inl (some 52)), some (.inl (some 2000019)), some (zi y261)]) (st' := [zi y261, .inl (some 2000019), zi y264]) (by decide +kernel) (fun k q => by cases q) rfl ?_
    refine y_cI (i := .invokevirtual 127) (len := 3) (r := (0, 269, 50, 1515)) (nL := 2) (k := 5) (n := 2) (hs := []) (args := [.inl (some 2000019), zi y261]) (rest := [zi y264]) (l0 := [some (.inl (some 2000019)), some (zi y261)]) (by decide +kernel) (Or.inr (Or.inl ⟨_, rfl⟩)) rfl rfl rfl rfl (Nat.le_of_ble_eq_true rfl) rfl rfl (qI_le (by decide) (tch19_1 (by omega))) (fun y265 qy265 hRy265 => ?_)
    obtain ⟨rfl, hy265⟩ := hRy265
    rcases Decidable.em (y264.toInt ≠ y265.toInt) with q266 | q266
    ·
      refine y_cT (c := .ne) (off := 9) (pc' := 48) (len := 3) (r := (0, 0, 0, 0)) (by decide +kernel) (acmpT (c := .ne) (by show ¬ (_ = _); omega)) (by decide +kernel) ?_
      refine y_same (i := .iload_n 2) (len := 1) (r := (0, 0, 0, 0)) (pc' := 49) (ls' := [some (.inl (some 52)), some (.inl (some 2000019)), some (zi y261)]) (st' := [zi y261]) (by decide +kernel) (fun k q => by cases q) rfl ?_
      refine y_same (i := .aload_n 1) (len := 1) (r := (0, 0, 0, 0)) (pc' := 50) (ls' := [some (.inl (some 52)), some (.inl (some 2000019)), some (zi y261)]) (st' := [.inl (some 2000019), zi y261]) (by decide +kernel) (fun k q => by cases q) rfl ?_
      refine y_cI (i := .invokevirtual 122) (len := 3) (r := (0, 268, 50, 1514)) (nL := 1) (k := 1) (n := 1) (hs := []) (args := [.inl (some 2000019)]) (rest := [zi y261]) (l0 := [some (.inl (some 2000019))]) (by decide +kernel) (Or.inr (Or.inl ⟨_, rfl⟩)) rfl rfl rfl rfl (Nat.le_of_ble_eq_true rfl) rfl rfl (qI_le (by decide) tln19) (fun y267 qy267 hRy267 => ?_)
      obtain ⟨rfl, hy267⟩ := hRy267
      refine y_cT (c := .lt) (off := 30) (pc' := 83) (len := 3) (r := (0, 0, 0, 0)) (by decide +kernel) (acmpT (c := .lt) (by show _ < _; omega)) (by decide +kernel) ?_
      refine y_ic (c := 0) (len := 1) (r := (0, 0, 0, 0)) (by decide +kernel) (by decide) (fun y268 hy268 => ?_)
      refine y_rI (len := 1) (r := (0, 0, 0, 0)) (nL := 3) (k := 2) (n9 := 2) (hs := []) (by decide +kernel) rfl (zfit_b (by omega) (by omega)).2 ?_
      exact ⟨_, ⟨O252.1, O252.2.1, fun k T j hk (hC : k ≠ 52 ∨ j ≠ 4) => (O252.2.2 k T j hk (show k ≠ 52 ∨ j ≠ 4 by omega))⟩, Or.inr ⟨sgn_n (mt_s (a' := sk b n a + 1) (by omega) (mt_n (by omega))), by omega, rd252⟩⟩
    ·
      refine y_cF (c := .ne) (off := 9) (len := 3) (r := (0, 0, 0, 0)) (by decide +kernel) (acmpF (c := .ne) (by show _ = _; omega)) ?_
      have m1 : bt b n (sk b n a + 1) = 61 := by omega
      refine y_inc (j := 2) (a := y261) (c := 1) (ls' := fun v => [some (.inl (some 52)), some (.inl (some 2000019)), some v]) (len := 3) (r := (0, 0, 0, 0)) (by decide +kernel) rfl (fun _ => rfl) (by decide) (by omega) (by omega) (fun y269 hy269 => ?_)
      show qX 7 175 45 [some (.inl (some 52)), some (.inl (some 2000019)), some (zi y269)] [] h252 t _
      refine y_goto (off := (-29)) (pc' := 16) (len := 3) (r := (0, 0, 0, 0)) (by decide +kernel) (by decide +kernel) ?_
      refine y_same (i := .iload_n 2) (len := 1) (r := (0, 0, 0, 0)) (pc' := 17) (ls' := [some (.inl (some 52)), some (.inl (some 2000019)), some (zi y269)]) (st' := [zi y269]) (by decide +kernel) (fun k q => by cases q) rfl ?_
      refine y_same (i := .aload_n 1) (len := 1) (r := (0, 0, 0, 0)) (pc' := 18) (ls' := [some (.inl (some 52)), some (.inl (some 2000019)), some (zi y269)]) (st' := [.inl (some 2000019), zi y269]) (by decide +kernel) (fun k q => by cases q) rfl ?_
      refine y_cI (i := .invokevirtual 122) (len := 3) (r := (0, 268, 50, 1514)) (nL := 1) (k := 1) (n := 1) (hs := []) (args := [.inl (some 2000019)]) (rest := [zi y269]) (l0 := [some (.inl (some 2000019))]) (by decide +kernel) (Or.inr (Or.inl ⟨_, rfl⟩)) rfl rfl rfl rfl (Nat.le_of_ble_eq_true rfl) rfl rfl (qI_le (by decide) tln19) (fun y270 qy270 hRy270 => ?_)
      obtain ⟨rfl, hy270⟩ := hRy270
      refine y_cT (c := .ge) (off := 27) (pc' := 48) (len := 3) (r := (0, 0, 0, 0)) (by decide +kernel) (acmpT (c := .ge) (by show _ ≤ _; omega)) (by decide +kernel) ?_
      refine y_same (i := .iload_n 2) (len := 1) (r := (0, 0, 0, 0)) (pc' := 49) (ls' := [some (.inl (some 52)), some (.inl (some 2000019)), some (zi y269)]) (st' := [zi y269]) (by decide +kernel) (fun k q => by cases q) rfl ?_
      refine y_same (i := .aload_n 1) (len := 1) (r := (0, 0, 0, 0)) (pc' := 50) (ls' := [some (.inl (some 52)), some (.inl (some 2000019)), some (zi y269)]) (st' := [.inl (some 2000019), zi y269]) (by decide +kernel) (fun k q => by cases q) rfl ?_
      refine y_cI (i := .invokevirtual 122) (len := 3) (r := (0, 268, 50, 1514)) (nL := 1) (k := 1) (n := 1) (hs := []) (args := [.inl (some 2000019)]) (rest := [zi y269]) (l0 := [some (.inl (some 2000019))]) (by decide +kernel) (Or.inr (Or.inl ⟨_, rfl⟩)) rfl rfl rfl rfl (Nat.le_of_ble_eq_true rfl) rfl rfl (qI_le (by decide) tln19) (fun y271 qy271 hRy271 => ?_)
      obtain ⟨rfl, hy271⟩ := hRy271
      refine y_cF (c := .lt) (off := 30) (len := 3) (r := (0, 0, 0, 0)) (by decide +kernel) (acmpF (c := .lt) (by show _ ≤ _; omega)) ?_
      refine y_same (i := .aload_n 1) (len := 1) (r := (0, 0, 0, 0)) (pc' := 57) (ls' := [some (.inl (some 52)), some (.inl (some 2000019)), some (zi y269)]) (st' := [.inl (some 2000019)]) (by decide +kernel) (fun k q => by cases q) rfl ?_
      refine y_ic (c := 0) (len := 1) (r := (0, 0, 0, 0)) (by decide +kernel) (by decide) (fun y272 hy272 => ?_)
      refine y_cI (i := .invokevirtual 127) (len := 3) (r := (0, 269, 50, 1515)) (nL := 2) (k := 5) (n := 2) (hs := []) (args := [.inl (some 2000019), zi y272]) (rest := []) (l0 := [some (.inl (some 2000019)), some (zi y272)]) (by decide +kernel) (Or.inr (Or.inl ⟨_, rfl⟩)) rfl rfl rfl rfl (Nat.le_of_ble_eq_true rfl) rfl rfl (qI_le (by decide) (tch19_0 (by omega))) (fun y273 qy273 hRy273 => ?_)
      obtain ⟨rfl, hy273⟩ := hRy273
      refine y_cI (i := .invokestatic 131) (len := 3) (r := (1, 174, 12, 1516)) (nL := 1) (k := 2) (n := 1) (hs := []) (args := [zi y273]) (rest := []) (l0 := [some (zi y273)]) (by decide +kernel) (Or.inl ⟨_, rfl⟩) rfl rfl rfl rfl (Nat.le_of_ble_eq_true rfl) rfl rfl (qI_le (by decide) (m_small (d := 0))) (fun y274 qy274 hRy274 => ?_)
      obtain ⟨rfl, gy274, by274⟩ := hRy274
      refine y_iT (c := .eq) (off := 21) (pc' := 85) (len := 3) (r := (0, 0, 0, 0)) (by decide +kernel) (acmpT (c := .eq) (by show _ = _; omega)) (by decide +kernel) ?_
      have ml0 := mt_le (w := [33, 61]) (mt_c (a' := sk b n a + 1) m0 (by omega) (mt_c (a' := sk b n a + 2) m1 (by omega) rfl)) (by omega) (by decide)
      simp only [List.length_cons, List.length_nil] at ml0
      refine y_same (i := .aload_n 0) (len := 1) (r := (0, 0, 0, 0)) (pc' := 86) (ls' := [some (.inl (some 52)), some (.inl (some 2000019)), some (zi y269)]) (st' := [.inl (some 52)]) (by decide +kernel) (fun k q => by cases q) rfl ?_
      refine y_same (i := .dup) (len := 1) (r := (0, 0, 0, 0)) (pc' := 87) (ls' := [some (.inl (some 52)), some (.inl (some 2000019)), some (zi y269)]) (st' := [.inl (some 52), .inl (some 52)]) (by decide +kernel) (fun k q => by cases q) rfl ?_
      refine y_get (j := 101) (len := 3) (r := (12, 4, 0, 1332)) (by decide +kernel) O252.2.1 (t52 O252.2.1) at52 rfl rfl ha252 ?_
      refine y_same (i := .iload_n 2) (len := 1) (r := (0, 0, 0, 0)) (pc' := 91) (ls' := [some (.inl (some 52)), some (.inl (some 2000019)), some (zi y269)]) (st' := [zi y269, zi xa252, .inl (some 52)]) (by decide +kernel) (fun k q => by cases q) rfl ?_
      refine y_add (len := 1) (r := (0, 0, 0, 0)) (by decide +kernel) (by omega) (by omega) (fun y275 hy275 => ?_)
      refine y_put (j := 101) (lo := 0) (hi := 200) (len := 3) (r := (12, 4, 0, 1332)) (by decide +kernel) O252.2.1 (t52 O252.2.1) at52 rfl rfl (by decide) rfl (by omega) (by omega) rfl (fun h276 hg276 hl276 hs276 ho276 => ?_)
      have ho276 : hO 52 4 h252 h276 := ho276
      have hs276 : hsl h276 52 4 = some (zi y275) := hs276
      refine y_ic (c := 1) (len := 1) (r := (0, 0, 0, 0)) (by decide +kernel) (by decide) (fun y277 hy277 => ?_)
      refine y_rI (len := 1) (r := (0, 0, 0, 0)) (nL := 3) (k := 2) (n9 := 2) (hs := []) (by decide +kernel) rfl (zfit_b (by omega) (by omega)).2 ?_
      have ml := mt_le (w := [33, 61]) (mt_c (a' := sk b n a + 1) m0 (by omega) (mt_c (a' := sk b n a + 2) m1 (by omega) rfl)) (by omega) (by decide)
      simp only [List.length_cons, List.length_nil] at ml
      exact ⟨_, ⟨O252.1, hg276, fun k T j hk (hC : k ≠ 52 ∨ j ≠ 4) => ((ho276 k j (by omega)).trans (O252.2.2 k T j hk (show k ≠ 52 ∨ j ≠ 4 by omega)))⟩, Or.inl ⟨sk b n a + 2, sgn_y (w := [33, 61]) (mt_c (a' := sk b n a + 1) m0 (by omega) (mt_c (a' := sk b n a + 2) m1 (by omega) rfl)), by omega, by omega, (rdM_up rd252 (ho276 52 3 (Or.inr (by omega))) (fun j => (ho276 54 j (Or.inl (by omega)))) ⟨_, hs276, by omega⟩)⟩⟩
theorem m_pass20 {t n a : Nat} {b : Nat → Int} {τ : List Nat} {h : zh} (hg : hG τ h) (rd : rdM h n a b) (han : a ≤ n) (ft : ftM h 0 (-1)) : qI 8 175 [some (.inl (some 52)), some (.inl (some 2000020)), none] h t (fun y h1 => ∃ τ1, oF (fun k j => k ≠ 52 ∨ j ≠ 4) τ h τ1 h1 ∧ ((∃ a', sgn b n [42] a = some a' ∧ a' ≤ n ∧ y.toInt = 1 ∧ rdM h1 n a' b) ∨ (sgn b n [42] a = none ∧ y.toInt = 0 ∧ rdM h1 n (sk b n a) b))) := by
  obtain ⟨⟨xn, hn, en⟩, ⟨xa, ha, ea⟩, hb, hn2⟩ := id rd
  obtain ⟨⟨xf, hf6, ef⟩, xw, hw7, ew7⟩ := id ft
  refine qI_of ?_
  refine y_same (i := .aload_n 0) (len := 1) (r := (0, 0, 0, 0)) (pc' := 1) (ls' := [some (.inl (some 52)), some (.inl (some 2000020)), none]) (st' := [.inl (some 52)]) (by decide +kernel) (fun k q => by cases q) rfl ?_
  refine y_cI (i := .invokevirtual 114) (len := 3) (r := (0, 172, 12, 1502)) (nL := 1) (k := 2) (n := 1) (hs := []) (args := [.inl (some 52)]) (rest := []) (l0 := [some (.inl (some 52))]) (by decide +kernel) (Or.inr (Or.inl ⟨_, rfl⟩)) rfl rfl rfl rfl (Nat.le_of_ble_eq_true rfl) (z52 hg) rfl (qI_le (by decide) (m_fine (d := 0) hg ft)) (fun y278 qy278 hRy278 => ?_)
  obtain ⟨rfl, gy278, by278⟩ := hRy278
  have hy278 : y278.toInt = 1 := gy278 rfl
  refine y_iT (c := .ne) (off := 5) (pc' := 9) (len := 3) (r := (0, 0, 0, 0)) (by decide +kernel) (acmpT (c := .ne) (by show ¬ (_ = _); omega)) (by decide +kernel) ?_
  refine y_same (i := .aload_n 0) (len := 1) (r := (0, 0, 0, 0)) (pc' := 10) (ls' := [some (.inl (some 52)), some (.inl (some 2000020)), none]) (st' := [.inl (some 52)]) (by decide +kernel) (fun k q => by cases q) rfl ?_
  refine y_cI (i := .invokevirtual 118) (len := 3) (r := (0, 171, 12, 1506)) (nL := 1) (k := 1) (n := 1) (hs := []) (args := [.inl (some 52)]) (rest := []) (l0 := [some (.inl (some 52))]) (by decide +kernel) (Or.inr (Or.inl ⟨_, rfl⟩)) rfl rfl rfl rfl (Nat.le_of_ble_eq_true rfl) (z52 hg) rfl (qI_le (by decide) (m_here hg rd (by omega))) (fun y279 h279 hRy279 => ?_)
  obtain ⟨τ279, O279, hy279, rd279⟩ := hRy279
  have sl279 := sk_le (b := b) (n := n) (a := a) (by omega)
  obtain ⟨⟨xn279, hn279, en279⟩, ⟨xa279, ha279, ea279⟩, hb279, -⟩ := id rd279
  refine y_same (i := .pop) (len := 1) (r := (0, 0, 0, 0)) (pc' := 14) (ls' := [some (.inl (some 52)), some (.inl (some 2000020)), none]) (st' := []) (by decide +kernel) (fun k q => by cases q) rfl ?_
  refine y_ic (c := 0) (len := 1) (r := (0, 0, 0, 0)) (by decide +kernel) (by decide) (fun y280 hy280 => ?_)
  refine y_same (i := .istore_n 2) (len := 1) (r := (0, 0, 0, 0)) (pc' := 16) (ls' := [some (.inl (some 52)), some (.inl (some 2000020)), some (zi y280)]) (st' := []) (by decide +kernel) (fun k q => by cases q) rfl ?_
  refine y_same (i := .iload_n 2) (len := 1) (r := (0, 0, 0, 0)) (pc' := 17) (ls' := [some (.inl (some 52)), some (.inl (some 2000020)), some (zi y280)]) (st' := [zi y280]) (by decide +kernel) (fun k q => by cases q) rfl ?_
  refine y_same (i := .aload_n 1) (len := 1) (r := (0, 0, 0, 0)) (pc' := 18) (ls' := [some (.inl (some 52)), some (.inl (some 2000020)), some (zi y280)]) (st' := [.inl (some 2000020), zi y280]) (by decide +kernel) (fun k q => by cases q) rfl ?_
  refine y_cI (i := .invokevirtual 122) (len := 3) (r := (0, 268, 50, 1514)) (nL := 1) (k := 1) (n := 1) (hs := []) (args := [.inl (some 2000020)]) (rest := [zi y280]) (l0 := [some (.inl (some 2000020))]) (by decide +kernel) (Or.inr (Or.inl ⟨_, rfl⟩)) rfl rfl rfl rfl (Nat.le_of_ble_eq_true rfl) rfl rfl (qI_le (by decide) tln20) (fun y281 qy281 hRy281 => ?_)
  obtain ⟨rfl, hy281⟩ := hRy281
  refine y_cF (c := .ge) (off := 27) (len := 3) (r := (0, 0, 0, 0)) (by decide +kernel) (acmpF (c := .ge) (by show _ < _; omega)) ?_
  refine y_same (i := .aload_n 0) (len := 1) (r := (0, 0, 0, 0)) (pc' := 25) (ls' := [some (.inl (some 52)), some (.inl (some 2000020)), some (zi y280)]) (st' := [.inl (some 52)]) (by decide +kernel) (fun k q => by cases q) rfl ?_
  refine y_same (i := .aload_n 0) (len := 1) (r := (0, 0, 0, 0)) (pc' := 26) (ls' := [some (.inl (some 52)), some (.inl (some 2000020)), some (zi y280)]) (st' := [.inl (some 52), .inl (some 52)]) (by decide +kernel) (fun k q => by cases q) rfl ?_
  refine y_get (j := 101) (len := 3) (r := (12, 4, 0, 1332)) (by decide +kernel) O279.2.1 (t52 O279.2.1) at52 rfl rfl ha279 ?_
  refine y_same (i := .iload_n 2) (len := 1) (r := (0, 0, 0, 0)) (pc' := 30) (ls' := [some (.inl (some 52)), some (.inl (some 2000020)), some (zi y280)]) (st' := [zi y280, zi xa279, .inl (some 52)]) (by decide +kernel) (fun k q => by cases q) rfl ?_
  refine y_add (len := 1) (r := (0, 0, 0, 0)) (by decide +kernel) (by omega) (by omega) (fun y282 hy282 => ?_)
  refine y_cI (i := .invokevirtual 104) (len := 3) (r := (0, 170, 12, 1510)) (nL := 2) (k := 1) (n := 2) (hs := []) (args := [.inl (some 52), zi y282]) (rest := []) (l0 := [some (.inl (some 52)), some (zi y282)]) (by decide +kernel) (Or.inr (Or.inl ⟨_, rfl⟩)) rfl rfl rfl rfl (Nat.le_of_ble_eq_true rfl) (z52 O279.2.1) rfl (qI_le (by decide) (m_byte (d := 0) (k := (sk b n a)) O279.2.1 rd279 (by omega))) (fun y283 qy283 hRy283 => ?_)
  obtain ⟨rfl, hy283⟩ := hRy283
  refine y_same (i := .aload_n 1) (len := 1) (r := (0, 0, 0, 0)) (pc' := 35) (ls' := [some (.inl (some 52)), some (.inl (some 2000020)), some (zi y280)]) (st' := [.inl (some 2000020), zi y283]) (by decide +kernel) (fun k q => by cases q) rfl ?_
  refine y_same (i := .iload_n 2) (len := 1) (r := (0, 0, 0, 0)) (pc' := 36) (ls' := [some (.inl (some 52)), some (.inl (some 2000020)), some (zi y280)]) (st' := [zi y280, .inl (some 2000020), zi y283]) (by decide +kernel) (fun k q => by cases q) rfl ?_
  refine y_cI (i := .invokevirtual 127) (len := 3) (r := (0, 269, 50, 1515)) (nL := 2) (k := 5) (n := 2) (hs := []) (args := [.inl (some 2000020), zi y280]) (rest := [zi y283]) (l0 := [some (.inl (some 2000020)), some (zi y280)]) (by decide +kernel) (Or.inr (Or.inl ⟨_, rfl⟩)) rfl rfl rfl rfl (Nat.le_of_ble_eq_true rfl) rfl rfl (qI_le (by decide) (tch20_0 (by omega))) (fun y284 qy284 hRy284 => ?_)
  obtain ⟨rfl, hy284⟩ := hRy284
  rcases Decidable.em (y283.toInt ≠ y284.toInt) with q285 | q285
  ·
    refine y_cT (c := .ne) (off := 9) (pc' := 48) (len := 3) (r := (0, 0, 0, 0)) (by decide +kernel) (acmpT (c := .ne) (by show ¬ (_ = _); omega)) (by decide +kernel) ?_
    refine y_same (i := .iload_n 2) (len := 1) (r := (0, 0, 0, 0)) (pc' := 49) (ls' := [some (.inl (some 52)), some (.inl (some 2000020)), some (zi y280)]) (st' := [zi y280]) (by decide +kernel) (fun k q => by cases q) rfl ?_
    refine y_same (i := .aload_n 1) (len := 1) (r := (0, 0, 0, 0)) (pc' := 50) (ls' := [some (.inl (some 52)), some (.inl (some 2000020)), some (zi y280)]) (st' := [.inl (some 2000020), zi y280]) (by decide +kernel) (fun k q => by cases q) rfl ?_
    refine y_cI (i := .invokevirtual 122) (len := 3) (r := (0, 268, 50, 1514)) (nL := 1) (k := 1) (n := 1) (hs := []) (args := [.inl (some 2000020)]) (rest := [zi y280]) (l0 := [some (.inl (some 2000020))]) (by decide +kernel) (Or.inr (Or.inl ⟨_, rfl⟩)) rfl rfl rfl rfl (Nat.le_of_ble_eq_true rfl) rfl rfl (qI_le (by decide) tln20) (fun y286 qy286 hRy286 => ?_)
    obtain ⟨rfl, hy286⟩ := hRy286
    refine y_cT (c := .lt) (off := 30) (pc' := 83) (len := 3) (r := (0, 0, 0, 0)) (by decide +kernel) (acmpT (c := .lt) (by show _ < _; omega)) (by decide +kernel) ?_
    refine y_ic (c := 0) (len := 1) (r := (0, 0, 0, 0)) (by decide +kernel) (by decide) (fun y287 hy287 => ?_)
    refine y_rI (len := 1) (r := (0, 0, 0, 0)) (nL := 3) (k := 2) (n9 := 2) (hs := []) (by decide +kernel) rfl (zfit_b (by omega) (by omega)).2 ?_
    exact ⟨_, ⟨O279.1, O279.2.1, fun k T j hk (hC : k ≠ 52 ∨ j ≠ 4) => (O279.2.2 k T j hk (show k ≠ 52 ∨ j ≠ 4 by omega))⟩, Or.inr ⟨sgn_n (mt_n (by omega)), by omega, rd279⟩⟩
  ·
    refine y_cF (c := .ne) (off := 9) (len := 3) (r := (0, 0, 0, 0)) (by decide +kernel) (acmpF (c := .ne) (by show _ = _; omega)) ?_
    have m0 : bt b n (sk b n a) = 42 := by omega
    refine y_inc (j := 2) (a := y280) (c := 1) (ls' := fun v => [some (.inl (some 52)), some (.inl (some 2000020)), some v]) (len := 3) (r := (0, 0, 0, 0)) (by decide +kernel) rfl (fun _ => rfl) (by decide) (by omega) (by omega) (fun y288 hy288 => ?_)
    show qX 7 175 45 [some (.inl (some 52)), some (.inl (some 2000020)), some (zi y288)] [] h279 t _
    refine y_goto (off := (-29)) (pc' := 16) (len := 3) (r := (0, 0, 0, 0)) (by decide +kernel) (by decide +kernel) ?_
    refine y_same (i := .iload_n 2) (len := 1) (r := (0, 0, 0, 0)) (pc' := 17) (ls' := [some (.inl (some 52)), some (.inl (some 2000020)), some (zi y288)]) (st' := [zi y288]) (by decide +kernel) (fun k q => by cases q) rfl ?_
    refine y_same (i := .aload_n 1) (len := 1) (r := (0, 0, 0, 0)) (pc' := 18) (ls' := [some (.inl (some 52)), some (.inl (some 2000020)), some (zi y288)]) (st' := [.inl (some 2000020), zi y288]) (by decide +kernel) (fun k q => by cases q) rfl ?_
    refine y_cI (i := .invokevirtual 122) (len := 3) (r := (0, 268, 50, 1514)) (nL := 1) (k := 1) (n := 1) (hs := []) (args := [.inl (some 2000020)]) (rest := [zi y288]) (l0 := [some (.inl (some 2000020))]) (by decide +kernel) (Or.inr (Or.inl ⟨_, rfl⟩)) rfl rfl rfl rfl (Nat.le_of_ble_eq_true rfl) rfl rfl (qI_le (by decide) tln20) (fun y289 qy289 hRy289 => ?_)
    obtain ⟨rfl, hy289⟩ := hRy289
    refine y_cT (c := .ge) (off := 27) (pc' := 48) (len := 3) (r := (0, 0, 0, 0)) (by decide +kernel) (acmpT (c := .ge) (by show _ ≤ _; omega)) (by decide +kernel) ?_
    refine y_same (i := .iload_n 2) (len := 1) (r := (0, 0, 0, 0)) (pc' := 49) (ls' := [some (.inl (some 52)), some (.inl (some 2000020)), some (zi y288)]) (st' := [zi y288]) (by decide +kernel) (fun k q => by cases q) rfl ?_
    refine y_same (i := .aload_n 1) (len := 1) (r := (0, 0, 0, 0)) (pc' := 50) (ls' := [some (.inl (some 52)), some (.inl (some 2000020)), some (zi y288)]) (st' := [.inl (some 2000020), zi y288]) (by decide +kernel) (fun k q => by cases q) rfl ?_
    refine y_cI (i := .invokevirtual 122) (len := 3) (r := (0, 268, 50, 1514)) (nL := 1) (k := 1) (n := 1) (hs := []) (args := [.inl (some 2000020)]) (rest := [zi y288]) (l0 := [some (.inl (some 2000020))]) (by decide +kernel) (Or.inr (Or.inl ⟨_, rfl⟩)) rfl rfl rfl rfl (Nat.le_of_ble_eq_true rfl) rfl rfl (qI_le (by decide) tln20) (fun y290 qy290 hRy290 => ?_)
    obtain ⟨rfl, hy290⟩ := hRy290
    refine y_cF (c := .lt) (off := 30) (len := 3) (r := (0, 0, 0, 0)) (by decide +kernel) (acmpF (c := .lt) (by show _ ≤ _; omega)) ?_
    refine y_same (i := .aload_n 1) (len := 1) (r := (0, 0, 0, 0)) (pc' := 57) (ls' := [some (.inl (some 52)), some (.inl (some 2000020)), some (zi y288)]) (st' := [.inl (some 2000020)]) (by decide +kernel) (fun k q => by cases q) rfl ?_
    refine y_ic (c := 0) (len := 1) (r := (0, 0, 0, 0)) (by decide +kernel) (by decide) (fun y291 hy291 => ?_)
    refine y_cI (i := .invokevirtual 127) (len := 3) (r := (0, 269, 50, 1515)) (nL := 2) (k := 5) (n := 2) (hs := []) (args := [.inl (some 2000020), zi y291]) (rest := []) (l0 := [some (.inl (some 2000020)), some (zi y291)]) (by decide +kernel) (Or.inr (Or.inl ⟨_, rfl⟩)) rfl rfl rfl rfl (Nat.le_of_ble_eq_true rfl) rfl rfl (qI_le (by decide) (tch20_0 (by omega))) (fun y292 qy292 hRy292 => ?_)
    obtain ⟨rfl, hy292⟩ := hRy292
    refine y_cI (i := .invokestatic 131) (len := 3) (r := (1, 174, 12, 1516)) (nL := 1) (k := 2) (n := 1) (hs := []) (args := [zi y292]) (rest := []) (l0 := [some (zi y292)]) (by decide +kernel) (Or.inl ⟨_, rfl⟩) rfl rfl rfl rfl (Nat.le_of_ble_eq_true rfl) rfl rfl (qI_le (by decide) (m_small (d := 0))) (fun y293 qy293 hRy293 => ?_)
    obtain ⟨rfl, gy293, by293⟩ := hRy293
    refine y_iT (c := .eq) (off := 21) (pc' := 85) (len := 3) (r := (0, 0, 0, 0)) (by decide +kernel) (acmpT (c := .eq) (by show _ = _; omega)) (by decide +kernel) ?_
    have ml0 := mt_le (w := [42]) (mt_c (a' := sk b n a + 1) m0 (by omega) rfl) (by omega) (by decide)
    simp only [List.length_cons, List.length_nil] at ml0
    refine y_same (i := .aload_n 0) (len := 1) (r := (0, 0, 0, 0)) (pc' := 86) (ls' := [some (.inl (some 52)), some (.inl (some 2000020)), some (zi y288)]) (st' := [.inl (some 52)]) (by decide +kernel) (fun k q => by cases q) rfl ?_
    refine y_same (i := .dup) (len := 1) (r := (0, 0, 0, 0)) (pc' := 87) (ls' := [some (.inl (some 52)), some (.inl (some 2000020)), some (zi y288)]) (st' := [.inl (some 52), .inl (some 52)]) (by decide +kernel) (fun k q => by cases q) rfl ?_
    refine y_get (j := 101) (len := 3) (r := (12, 4, 0, 1332)) (by decide +kernel) O279.2.1 (t52 O279.2.1) at52 rfl rfl ha279 ?_
    refine y_same (i := .iload_n 2) (len := 1) (r := (0, 0, 0, 0)) (pc' := 91) (ls' := [some (.inl (some 52)), some (.inl (some 2000020)), some (zi y288)]) (st' := [zi y288, zi xa279, .inl (some 52)]) (by decide +kernel) (fun k q => by cases q) rfl ?_
    refine y_add (len := 1) (r := (0, 0, 0, 0)) (by decide +kernel) (by omega) (by omega) (fun y294 hy294 => ?_)
    refine y_put (j := 101) (lo := 0) (hi := 200) (len := 3) (r := (12, 4, 0, 1332)) (by decide +kernel) O279.2.1 (t52 O279.2.1) at52 rfl rfl (by decide) rfl (by omega) (by omega) rfl (fun h295 hg295 hl295 hs295 ho295 => ?_)
    have ho295 : hO 52 4 h279 h295 := ho295
    have hs295 : hsl h295 52 4 = some (zi y294) := hs295
    refine y_ic (c := 1) (len := 1) (r := (0, 0, 0, 0)) (by decide +kernel) (by decide) (fun y296 hy296 => ?_)
    refine y_rI (len := 1) (r := (0, 0, 0, 0)) (nL := 3) (k := 2) (n9 := 2) (hs := []) (by decide +kernel) rfl (zfit_b (by omega) (by omega)).2 ?_
    have ml := mt_le (w := [42]) (mt_c (a' := sk b n a + 1) m0 (by omega) rfl) (by omega) (by decide)
    simp only [List.length_cons, List.length_nil] at ml
    exact ⟨_, ⟨O279.1, hg295, fun k T j hk (hC : k ≠ 52 ∨ j ≠ 4) => ((ho295 k j (by omega)).trans (O279.2.2 k T j hk (show k ≠ 52 ∨ j ≠ 4 by omega)))⟩, Or.inl ⟨sk b n a + 1, sgn_y (w := [42]) (mt_c (a' := sk b n a + 1) m0 (by omega) rfl), by omega, by omega, (rdM_up rd279 (ho295 52 3 (Or.inr (by omega))) (fun j => (ho295 54 j (Or.inl (by omega)))) ⟨_, hs295, by omega⟩)⟩⟩
theorem m_pass21 {t n a : Nat} {b : Nat → Int} {τ : List Nat} {h : zh} (hg : hG τ h) (rd : rdM h n a b) (han : a ≤ n) (ft : ftM h 0 (-1)) : qI 8 175 [some (.inl (some 52)), some (.inl (some 2000021)), none] h t (fun y h1 => ∃ τ1, oF (fun k j => k ≠ 52 ∨ j ≠ 4) τ h τ1 h1 ∧ ((∃ a', sgn b n [124, 45] a = some a' ∧ a' ≤ n ∧ y.toInt = 1 ∧ rdM h1 n a' b) ∨ (sgn b n [124, 45] a = none ∧ y.toInt = 0 ∧ rdM h1 n (sk b n a) b))) := by
  obtain ⟨⟨xn, hn, en⟩, ⟨xa, ha, ea⟩, hb, hn2⟩ := id rd
  obtain ⟨⟨xf, hf6, ef⟩, xw, hw7, ew7⟩ := id ft
  refine qI_of ?_
  refine y_same (i := .aload_n 0) (len := 1) (r := (0, 0, 0, 0)) (pc' := 1) (ls' := [some (.inl (some 52)), some (.inl (some 2000021)), none]) (st' := [.inl (some 52)]) (by decide +kernel) (fun k q => by cases q) rfl ?_
  refine y_cI (i := .invokevirtual 114) (len := 3) (r := (0, 172, 12, 1502)) (nL := 1) (k := 2) (n := 1) (hs := []) (args := [.inl (some 52)]) (rest := []) (l0 := [some (.inl (some 52))]) (by decide +kernel) (Or.inr (Or.inl ⟨_, rfl⟩)) rfl rfl rfl rfl (Nat.le_of_ble_eq_true rfl) (z52 hg) rfl (qI_le (by decide) (m_fine (d := 0) hg ft)) (fun y297 qy297 hRy297 => ?_)
  obtain ⟨rfl, gy297, by297⟩ := hRy297
  have hy297 : y297.toInt = 1 := gy297 rfl
  refine y_iT (c := .ne) (off := 5) (pc' := 9) (len := 3) (r := (0, 0, 0, 0)) (by decide +kernel) (acmpT (c := .ne) (by show ¬ (_ = _); omega)) (by decide +kernel) ?_
  refine y_same (i := .aload_n 0) (len := 1) (r := (0, 0, 0, 0)) (pc' := 10) (ls' := [some (.inl (some 52)), some (.inl (some 2000021)), none]) (st' := [.inl (some 52)]) (by decide +kernel) (fun k q => by cases q) rfl ?_
  refine y_cI (i := .invokevirtual 118) (len := 3) (r := (0, 171, 12, 1506)) (nL := 1) (k := 1) (n := 1) (hs := []) (args := [.inl (some 52)]) (rest := []) (l0 := [some (.inl (some 52))]) (by decide +kernel) (Or.inr (Or.inl ⟨_, rfl⟩)) rfl rfl rfl rfl (Nat.le_of_ble_eq_true rfl) (z52 hg) rfl (qI_le (by decide) (m_here hg rd (by omega))) (fun y298 h298 hRy298 => ?_)
  obtain ⟨τ298, O298, hy298, rd298⟩ := hRy298
  have sl298 := sk_le (b := b) (n := n) (a := a) (by omega)
  obtain ⟨⟨xn298, hn298, en298⟩, ⟨xa298, ha298, ea298⟩, hb298, -⟩ := id rd298
  refine y_same (i := .pop) (len := 1) (r := (0, 0, 0, 0)) (pc' := 14) (ls' := [some (.inl (some 52)), some (.inl (some 2000021)), none]) (st' := []) (by decide +kernel) (fun k q => by cases q) rfl ?_
  refine y_ic (c := 0) (len := 1) (r := (0, 0, 0, 0)) (by decide +kernel) (by decide) (fun y299 hy299 => ?_)
  refine y_same (i := .istore_n 2) (len := 1) (r := (0, 0, 0, 0)) (pc' := 16) (ls' := [some (.inl (some 52)), some (.inl (some 2000021)), some (zi y299)]) (st' := []) (by decide +kernel) (fun k q => by cases q) rfl ?_
  refine y_same (i := .iload_n 2) (len := 1) (r := (0, 0, 0, 0)) (pc' := 17) (ls' := [some (.inl (some 52)), some (.inl (some 2000021)), some (zi y299)]) (st' := [zi y299]) (by decide +kernel) (fun k q => by cases q) rfl ?_
  refine y_same (i := .aload_n 1) (len := 1) (r := (0, 0, 0, 0)) (pc' := 18) (ls' := [some (.inl (some 52)), some (.inl (some 2000021)), some (zi y299)]) (st' := [.inl (some 2000021), zi y299]) (by decide +kernel) (fun k q => by cases q) rfl ?_
  refine y_cI (i := .invokevirtual 122) (len := 3) (r := (0, 268, 50, 1514)) (nL := 1) (k := 1) (n := 1) (hs := []) (args := [.inl (some 2000021)]) (rest := [zi y299]) (l0 := [some (.inl (some 2000021))]) (by decide +kernel) (Or.inr (Or.inl ⟨_, rfl⟩)) rfl rfl rfl rfl (Nat.le_of_ble_eq_true rfl) rfl rfl (qI_le (by decide) tln21) (fun y300 qy300 hRy300 => ?_)
  obtain ⟨rfl, hy300⟩ := hRy300
  refine y_cF (c := .ge) (off := 27) (len := 3) (r := (0, 0, 0, 0)) (by decide +kernel) (acmpF (c := .ge) (by show _ < _; omega)) ?_
  refine y_same (i := .aload_n 0) (len := 1) (r := (0, 0, 0, 0)) (pc' := 25) (ls' := [some (.inl (some 52)), some (.inl (some 2000021)), some (zi y299)]) (st' := [.inl (some 52)]) (by decide +kernel) (fun k q => by cases q) rfl ?_
  refine y_same (i := .aload_n 0) (len := 1) (r := (0, 0, 0, 0)) (pc' := 26) (ls' := [some (.inl (some 52)), some (.inl (some 2000021)), some (zi y299)]) (st' := [.inl (some 52), .inl (some 52)]) (by decide +kernel) (fun k q => by cases q) rfl ?_
  refine y_get (j := 101) (len := 3) (r := (12, 4, 0, 1332)) (by decide +kernel) O298.2.1 (t52 O298.2.1) at52 rfl rfl ha298 ?_
  refine y_same (i := .iload_n 2) (len := 1) (r := (0, 0, 0, 0)) (pc' := 30) (ls' := [some (.inl (some 52)), some (.inl (some 2000021)), some (zi y299)]) (st' := [zi y299, zi xa298, .inl (some 52)]) (by decide +kernel) (fun k q => by cases q) rfl ?_
  refine y_add (len := 1) (r := (0, 0, 0, 0)) (by decide +kernel) (by omega) (by omega) (fun y301 hy301 => ?_)
  refine y_cI (i := .invokevirtual 104) (len := 3) (r := (0, 170, 12, 1510)) (nL := 2) (k := 1) (n := 2) (hs := []) (args := [.inl (some 52), zi y301]) (rest := []) (l0 := [some (.inl (some 52)), some (zi y301)]) (by decide +kernel) (Or.inr (Or.inl ⟨_, rfl⟩)) rfl rfl rfl rfl (Nat.le_of_ble_eq_true rfl) (z52 O298.2.1) rfl (qI_le (by decide) (m_byte (d := 0) (k := (sk b n a)) O298.2.1 rd298 (by omega))) (fun y302 qy302 hRy302 => ?_)
  obtain ⟨rfl, hy302⟩ := hRy302
  refine y_same (i := .aload_n 1) (len := 1) (r := (0, 0, 0, 0)) (pc' := 35) (ls' := [some (.inl (some 52)), some (.inl (some 2000021)), some (zi y299)]) (st' := [.inl (some 2000021), zi y302]) (by decide +kernel) (fun k q => by cases q) rfl ?_
  refine y_same (i := .iload_n 2) (len := 1) (r := (0, 0, 0, 0)) (pc' := 36) (ls' := [some (.inl (some 52)), some (.inl (some 2000021)), some (zi y299)]) (st' := [zi y299, .inl (some 2000021), zi y302]) (by decide +kernel) (fun k q => by cases q) rfl ?_
  refine y_cI (i := .invokevirtual 127) (len := 3) (r := (0, 269, 50, 1515)) (nL := 2) (k := 5) (n := 2) (hs := []) (args := [.inl (some 2000021), zi y299]) (rest := [zi y302]) (l0 := [some (.inl (some 2000021)), some (zi y299)]) (by decide +kernel) (Or.inr (Or.inl ⟨_, rfl⟩)) rfl rfl rfl rfl (Nat.le_of_ble_eq_true rfl) rfl rfl (qI_le (by decide) (tch21_0 (by omega))) (fun y303 qy303 hRy303 => ?_)
  obtain ⟨rfl, hy303⟩ := hRy303
  rcases Decidable.em (y302.toInt ≠ y303.toInt) with q304 | q304
  ·
    refine y_cT (c := .ne) (off := 9) (pc' := 48) (len := 3) (r := (0, 0, 0, 0)) (by decide +kernel) (acmpT (c := .ne) (by show ¬ (_ = _); omega)) (by decide +kernel) ?_
    refine y_same (i := .iload_n 2) (len := 1) (r := (0, 0, 0, 0)) (pc' := 49) (ls' := [some (.inl (some 52)), some (.inl (some 2000021)), some (zi y299)]) (st' := [zi y299]) (by decide +kernel) (fun k q => by cases q) rfl ?_
    refine y_same (i := .aload_n 1) (len := 1) (r := (0, 0, 0, 0)) (pc' := 50) (ls' := [some (.inl (some 52)), some (.inl (some 2000021)), some (zi y299)]) (st' := [.inl (some 2000021), zi y299]) (by decide +kernel) (fun k q => by cases q) rfl ?_
    refine y_cI (i := .invokevirtual 122) (len := 3) (r := (0, 268, 50, 1514)) (nL := 1) (k := 1) (n := 1) (hs := []) (args := [.inl (some 2000021)]) (rest := [zi y299]) (l0 := [some (.inl (some 2000021))]) (by decide +kernel) (Or.inr (Or.inl ⟨_, rfl⟩)) rfl rfl rfl rfl (Nat.le_of_ble_eq_true rfl) rfl rfl (qI_le (by decide) tln21) (fun y305 qy305 hRy305 => ?_)
    obtain ⟨rfl, hy305⟩ := hRy305
    refine y_cT (c := .lt) (off := 30) (pc' := 83) (len := 3) (r := (0, 0, 0, 0)) (by decide +kernel) (acmpT (c := .lt) (by show _ < _; omega)) (by decide +kernel) ?_
    refine y_ic (c := 0) (len := 1) (r := (0, 0, 0, 0)) (by decide +kernel) (by decide) (fun y306 hy306 => ?_)
    refine y_rI (len := 1) (r := (0, 0, 0, 0)) (nL := 3) (k := 2) (n9 := 2) (hs := []) (by decide +kernel) rfl (zfit_b (by omega) (by omega)).2 ?_
    exact ⟨_, ⟨O298.1, O298.2.1, fun k T j hk (hC : k ≠ 52 ∨ j ≠ 4) => (O298.2.2 k T j hk (show k ≠ 52 ∨ j ≠ 4 by omega))⟩, Or.inr ⟨sgn_n (mt_n (by omega)), by omega, rd298⟩⟩
  ·
    refine y_cF (c := .ne) (off := 9) (len := 3) (r := (0, 0, 0, 0)) (by decide +kernel) (acmpF (c := .ne) (by show _ = _; omega)) ?_
    have m0 : bt b n (sk b n a) = 124 := by omega
    refine y_inc (j := 2) (a := y299) (c := 1) (ls' := fun v => [some (.inl (some 52)), some (.inl (some 2000021)), some v]) (len := 3) (r := (0, 0, 0, 0)) (by decide +kernel) rfl (fun _ => rfl) (by decide) (by omega) (by omega) (fun y307 hy307 => ?_)
    show qX 7 175 45 [some (.inl (some 52)), some (.inl (some 2000021)), some (zi y307)] [] h298 t _
    refine y_goto (off := (-29)) (pc' := 16) (len := 3) (r := (0, 0, 0, 0)) (by decide +kernel) (by decide +kernel) ?_
    refine y_same (i := .iload_n 2) (len := 1) (r := (0, 0, 0, 0)) (pc' := 17) (ls' := [some (.inl (some 52)), some (.inl (some 2000021)), some (zi y307)]) (st' := [zi y307]) (by decide +kernel) (fun k q => by cases q) rfl ?_
    refine y_same (i := .aload_n 1) (len := 1) (r := (0, 0, 0, 0)) (pc' := 18) (ls' := [some (.inl (some 52)), some (.inl (some 2000021)), some (zi y307)]) (st' := [.inl (some 2000021), zi y307]) (by decide +kernel) (fun k q => by cases q) rfl ?_
    refine y_cI (i := .invokevirtual 122) (len := 3) (r := (0, 268, 50, 1514)) (nL := 1) (k := 1) (n := 1) (hs := []) (args := [.inl (some 2000021)]) (rest := [zi y307]) (l0 := [some (.inl (some 2000021))]) (by decide +kernel) (Or.inr (Or.inl ⟨_, rfl⟩)) rfl rfl rfl rfl (Nat.le_of_ble_eq_true rfl) rfl rfl (qI_le (by decide) tln21) (fun y308 qy308 hRy308 => ?_)
    obtain ⟨rfl, hy308⟩ := hRy308
    refine y_cF (c := .ge) (off := 27) (len := 3) (r := (0, 0, 0, 0)) (by decide +kernel) (acmpF (c := .ge) (by show _ < _; omega)) ?_
    refine y_same (i := .aload_n 0) (len := 1) (r := (0, 0, 0, 0)) (pc' := 25) (ls' := [some (.inl (some 52)), some (.inl (some 2000021)), some (zi y307)]) (st' := [.inl (some 52)]) (by decide +kernel) (fun k q => by cases q) rfl ?_
    refine y_same (i := .aload_n 0) (len := 1) (r := (0, 0, 0, 0)) (pc' := 26) (ls' := [some (.inl (some 52)), some (.inl (some 2000021)), some (zi y307)]) (st' := [.inl (some 52), .inl (some 52)]) (by decide +kernel) (fun k q => by cases q) rfl ?_
    refine y_get (j := 101) (len := 3) (r := (12, 4, 0, 1332)) (by decide +kernel) O298.2.1 (t52 O298.2.1) at52 rfl rfl ha298 ?_
    refine y_same (i := .iload_n 2) (len := 1) (r := (0, 0, 0, 0)) (pc' := 30) (ls' := [some (.inl (some 52)), some (.inl (some 2000021)), some (zi y307)]) (st' := [zi y307, zi xa298, .inl (some 52)]) (by decide +kernel) (fun k q => by cases q) rfl ?_
    refine y_add (len := 1) (r := (0, 0, 0, 0)) (by decide +kernel) (by omega) (by omega) (fun y309 hy309 => ?_)
    refine y_cI (i := .invokevirtual 104) (len := 3) (r := (0, 170, 12, 1510)) (nL := 2) (k := 1) (n := 2) (hs := []) (args := [.inl (some 52), zi y309]) (rest := []) (l0 := [some (.inl (some 52)), some (zi y309)]) (by decide +kernel) (Or.inr (Or.inl ⟨_, rfl⟩)) rfl rfl rfl rfl (Nat.le_of_ble_eq_true rfl) (z52 O298.2.1) rfl (qI_le (by decide) (m_byte (d := 0) (k := (sk b n a + 1)) O298.2.1 rd298 (by omega))) (fun y310 qy310 hRy310 => ?_)
    obtain ⟨rfl, hy310⟩ := hRy310
    refine y_same (i := .aload_n 1) (len := 1) (r := (0, 0, 0, 0)) (pc' := 35) (ls' := [some (.inl (some 52)), some (.inl (some 2000021)), some (zi y307)]) (st' := [.inl (some 2000021), zi y310]) (by decide +kernel) (fun k q => by cases q) rfl ?_
    refine y_same (i := .iload_n 2) (len := 1) (r := (0, 0, 0, 0)) (pc' := 36) (ls' := [some (.inl (some 52)), some (.inl (some 2000021)), some (zi y307)]) (st' := [zi y307, .inl (some 2000021), zi y310]) (by decide +kernel) (fun k q => by cases q) rfl ?_
    refine y_cI (i := .invokevirtual 127) (len := 3) (r := (0, 269, 50, 1515)) (nL := 2) (k := 5) (n := 2) (hs := []) (args := [.inl (some 2000021), zi y307]) (rest := [zi y310]) (l0 := [some (.inl (some 2000021)), some (zi y307)]) (by decide +kernel) (Or.inr (Or.inl ⟨_, rfl⟩)) rfl rfl rfl rfl (Nat.le_of_ble_eq_true rfl) rfl rfl (qI_le (by decide) (tch21_1 (by omega))) (fun y311 qy311 hRy311 => ?_)
    obtain ⟨rfl, hy311⟩ := hRy311
    rcases Decidable.em (y310.toInt ≠ y311.toInt) with q312 | q312
    ·
      refine y_cT (c := .ne) (off := 9) (pc' := 48) (len := 3) (r := (0, 0, 0, 0)) (by decide +kernel) (acmpT (c := .ne) (by show ¬ (_ = _); omega)) (by decide +kernel) ?_
      refine y_same (i := .iload_n 2) (len := 1) (r := (0, 0, 0, 0)) (pc' := 49) (ls' := [some (.inl (some 52)), some (.inl (some 2000021)), some (zi y307)]) (st' := [zi y307]) (by decide +kernel) (fun k q => by cases q) rfl ?_
      refine y_same (i := .aload_n 1) (len := 1) (r := (0, 0, 0, 0)) (pc' := 50) (ls' := [some (.inl (some 52)), some (.inl (some 2000021)), some (zi y307)]) (st' := [.inl (some 2000021), zi y307]) (by decide +kernel) (fun k q => by cases q) rfl ?_
      refine y_cI (i := .invokevirtual 122) (len := 3) (r := (0, 268, 50, 1514)) (nL := 1) (k := 1) (n := 1) (hs := []) (args := [.inl (some 2000021)]) (rest := [zi y307]) (l0 := [some (.inl (some 2000021))]) (by decide +kernel) (Or.inr (Or.inl ⟨_, rfl⟩)) rfl rfl rfl rfl (Nat.le_of_ble_eq_true rfl) rfl rfl (qI_le (by decide) tln21) (fun y313 qy313 hRy313 => ?_)
      obtain ⟨rfl, hy313⟩ := hRy313
      refine y_cT (c := .lt) (off := 30) (pc' := 83) (len := 3) (r := (0, 0, 0, 0)) (by decide +kernel) (acmpT (c := .lt) (by show _ < _; omega)) (by decide +kernel) ?_
      refine y_ic (c := 0) (len := 1) (r := (0, 0, 0, 0)) (by decide +kernel) (by decide) (fun y314 hy314 => ?_)
      refine y_rI (len := 1) (r := (0, 0, 0, 0)) (nL := 3) (k := 2) (n9 := 2) (hs := []) (by decide +kernel) rfl (zfit_b (by omega) (by omega)).2 ?_
      exact ⟨_, ⟨O298.1, O298.2.1, fun k T j hk (hC : k ≠ 52 ∨ j ≠ 4) => (O298.2.2 k T j hk (show k ≠ 52 ∨ j ≠ 4 by omega))⟩, Or.inr ⟨sgn_n (mt_s (a' := sk b n a + 1) (by omega) (mt_n (by omega))), by omega, rd298⟩⟩
    ·
      refine y_cF (c := .ne) (off := 9) (len := 3) (r := (0, 0, 0, 0)) (by decide +kernel) (acmpF (c := .ne) (by show _ = _; omega)) ?_
      have m1 : bt b n (sk b n a + 1) = 45 := by omega
      refine y_inc (j := 2) (a := y307) (c := 1) (ls' := fun v => [some (.inl (some 52)), some (.inl (some 2000021)), some v]) (len := 3) (r := (0, 0, 0, 0)) (by decide +kernel) rfl (fun _ => rfl) (by decide) (by omega) (by omega) (fun y315 hy315 => ?_)
      show qX 7 175 45 [some (.inl (some 52)), some (.inl (some 2000021)), some (zi y315)] [] h298 t _
      refine y_goto (off := (-29)) (pc' := 16) (len := 3) (r := (0, 0, 0, 0)) (by decide +kernel) (by decide +kernel) ?_
      refine y_same (i := .iload_n 2) (len := 1) (r := (0, 0, 0, 0)) (pc' := 17) (ls' := [some (.inl (some 52)), some (.inl (some 2000021)), some (zi y315)]) (st' := [zi y315]) (by decide +kernel) (fun k q => by cases q) rfl ?_
      refine y_same (i := .aload_n 1) (len := 1) (r := (0, 0, 0, 0)) (pc' := 18) (ls' := [some (.inl (some 52)), some (.inl (some 2000021)), some (zi y315)]) (st' := [.inl (some 2000021), zi y315]) (by decide +kernel) (fun k q => by cases q) rfl ?_
      refine y_cI (i := .invokevirtual 122) (len := 3) (r := (0, 268, 50, 1514)) (nL := 1) (k := 1) (n := 1) (hs := []) (args := [.inl (some 2000021)]) (rest := [zi y315]) (l0 := [some (.inl (some 2000021))]) (by decide +kernel) (Or.inr (Or.inl ⟨_, rfl⟩)) rfl rfl rfl rfl (Nat.le_of_ble_eq_true rfl) rfl rfl (qI_le (by decide) tln21) (fun y316 qy316 hRy316 => ?_)
      obtain ⟨rfl, hy316⟩ := hRy316
      refine y_cT (c := .ge) (off := 27) (pc' := 48) (len := 3) (r := (0, 0, 0, 0)) (by decide +kernel) (acmpT (c := .ge) (by show _ ≤ _; omega)) (by decide +kernel) ?_
      refine y_same (i := .iload_n 2) (len := 1) (r := (0, 0, 0, 0)) (pc' := 49) (ls' := [some (.inl (some 52)), some (.inl (some 2000021)), some (zi y315)]) (st' := [zi y315]) (by decide +kernel) (fun k q => by cases q) rfl ?_
      refine y_same (i := .aload_n 1) (len := 1) (r := (0, 0, 0, 0)) (pc' := 50) (ls' := [some (.inl (some 52)), some (.inl (some 2000021)), some (zi y315)]) (st' := [.inl (some 2000021), zi y315]) (by decide +kernel) (fun k q => by cases q) rfl ?_
      refine y_cI (i := .invokevirtual 122) (len := 3) (r := (0, 268, 50, 1514)) (nL := 1) (k := 1) (n := 1) (hs := []) (args := [.inl (some 2000021)]) (rest := [zi y315]) (l0 := [some (.inl (some 2000021))]) (by decide +kernel) (Or.inr (Or.inl ⟨_, rfl⟩)) rfl rfl rfl rfl (Nat.le_of_ble_eq_true rfl) rfl rfl (qI_le (by decide) tln21) (fun y317 qy317 hRy317 => ?_)
      obtain ⟨rfl, hy317⟩ := hRy317
      refine y_cF (c := .lt) (off := 30) (len := 3) (r := (0, 0, 0, 0)) (by decide +kernel) (acmpF (c := .lt) (by show _ ≤ _; omega)) ?_
      refine y_same (i := .aload_n 1) (len := 1) (r := (0, 0, 0, 0)) (pc' := 57) (ls' := [some (.inl (some 52)), some (.inl (some 2000021)), some (zi y315)]) (st' := [.inl (some 2000021)]) (by decide +kernel) (fun k q => by cases q) rfl ?_
      refine y_ic (c := 0) (len := 1) (r := (0, 0, 0, 0)) (by decide +kernel) (by decide) (fun y318 hy318 => ?_)
      refine y_cI (i := .invokevirtual 127) (len := 3) (r := (0, 269, 50, 1515)) (nL := 2) (k := 5) (n := 2) (hs := []) (args := [.inl (some 2000021), zi y318]) (rest := []) (l0 := [some (.inl (some 2000021)), some (zi y318)]) (by decide +kernel) (Or.inr (Or.inl ⟨_, rfl⟩)) rfl rfl rfl rfl (Nat.le_of_ble_eq_true rfl) rfl rfl (qI_le (by decide) (tch21_0 (by omega))) (fun y319 qy319 hRy319 => ?_)
      obtain ⟨rfl, hy319⟩ := hRy319
      refine y_cI (i := .invokestatic 131) (len := 3) (r := (1, 174, 12, 1516)) (nL := 1) (k := 2) (n := 1) (hs := []) (args := [zi y319]) (rest := []) (l0 := [some (zi y319)]) (by decide +kernel) (Or.inl ⟨_, rfl⟩) rfl rfl rfl rfl (Nat.le_of_ble_eq_true rfl) rfl rfl (qI_le (by decide) (m_small (d := 0))) (fun y320 qy320 hRy320 => ?_)
      obtain ⟨rfl, gy320, by320⟩ := hRy320
      refine y_iT (c := .eq) (off := 21) (pc' := 85) (len := 3) (r := (0, 0, 0, 0)) (by decide +kernel) (acmpT (c := .eq) (by show _ = _; omega)) (by decide +kernel) ?_
      have ml0 := mt_le (w := [124, 45]) (mt_c (a' := sk b n a + 1) m0 (by omega) (mt_c (a' := sk b n a + 2) m1 (by omega) rfl)) (by omega) (by decide)
      simp only [List.length_cons, List.length_nil] at ml0
      refine y_same (i := .aload_n 0) (len := 1) (r := (0, 0, 0, 0)) (pc' := 86) (ls' := [some (.inl (some 52)), some (.inl (some 2000021)), some (zi y315)]) (st' := [.inl (some 52)]) (by decide +kernel) (fun k q => by cases q) rfl ?_
      refine y_same (i := .dup) (len := 1) (r := (0, 0, 0, 0)) (pc' := 87) (ls' := [some (.inl (some 52)), some (.inl (some 2000021)), some (zi y315)]) (st' := [.inl (some 52), .inl (some 52)]) (by decide +kernel) (fun k q => by cases q) rfl ?_
      refine y_get (j := 101) (len := 3) (r := (12, 4, 0, 1332)) (by decide +kernel) O298.2.1 (t52 O298.2.1) at52 rfl rfl ha298 ?_
      refine y_same (i := .iload_n 2) (len := 1) (r := (0, 0, 0, 0)) (pc' := 91) (ls' := [some (.inl (some 52)), some (.inl (some 2000021)), some (zi y315)]) (st' := [zi y315, zi xa298, .inl (some 52)]) (by decide +kernel) (fun k q => by cases q) rfl ?_
      refine y_add (len := 1) (r := (0, 0, 0, 0)) (by decide +kernel) (by omega) (by omega) (fun y321 hy321 => ?_)
      refine y_put (j := 101) (lo := 0) (hi := 200) (len := 3) (r := (12, 4, 0, 1332)) (by decide +kernel) O298.2.1 (t52 O298.2.1) at52 rfl rfl (by decide) rfl (by omega) (by omega) rfl (fun h322 hg322 hl322 hs322 ho322 => ?_)
      have ho322 : hO 52 4 h298 h322 := ho322
      have hs322 : hsl h322 52 4 = some (zi y321) := hs322
      refine y_ic (c := 1) (len := 1) (r := (0, 0, 0, 0)) (by decide +kernel) (by decide) (fun y323 hy323 => ?_)
      refine y_rI (len := 1) (r := (0, 0, 0, 0)) (nL := 3) (k := 2) (n9 := 2) (hs := []) (by decide +kernel) rfl (zfit_b (by omega) (by omega)).2 ?_
      have ml := mt_le (w := [124, 45]) (mt_c (a' := sk b n a + 1) m0 (by omega) (mt_c (a' := sk b n a + 2) m1 (by omega) rfl)) (by omega) (by decide)
      simp only [List.length_cons, List.length_nil] at ml
      exact ⟨_, ⟨O298.1, hg322, fun k T j hk (hC : k ≠ 52 ∨ j ≠ 4) => ((ho322 k j (by omega)).trans (O298.2.2 k T j hk (show k ≠ 52 ∨ j ≠ 4 by omega)))⟩, Or.inl ⟨sk b n a + 2, sgn_y (w := [124, 45]) (mt_c (a' := sk b n a + 1) m0 (by omega) (mt_c (a' := sk b n a + 2) m1 (by omega) rfl)), by omega, by omega, (rdM_up rd298 (ho322 52 3 (Or.inr (by omega))) (fun j => (ho322 54 j (Or.inl (by omega)))) ⟨_, hs322, by omega⟩)⟩⟩
