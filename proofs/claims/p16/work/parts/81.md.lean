/-! the model's reader: what must be, variables, what comes -/
/-- an item in four numbers -/
def itM (h : zh) (A : Nat) (i : it4) : Prop := ∃ x0 x1 x2 x3 : Int32, hsl h 56 A = some (zi x0) ∧ hsl h 56 (A + 1) = some (zi x1) ∧ hsl h 56 (A + 2) = some (zi x2) ∧ hsl h 56 (A + 3) = some (zi x3) ∧ x0.toInt = i.1 ∧ x1.toInt = i.2.1 ∧ x2.toInt = i.2.2.1 ∧ x3.toInt = i.2.2.2
theorem itM_up {h h1 : zh} {A : Nat} {i : it4} (r : itM h A i) (e : ∀ j, A ≤ j → j < A + 4 → hsl h1 56 j = hsl h 56 j) : itM h1 A i := by
  obtain ⟨x0, x1, x2, x3, a0, a1, a2, a3, q⟩ := r
  exact ⟨x0, x1, x2, x3, (e _ (by omega) (by omega)).trans a0, (e _ (by omega) (by omega)).trans a1, (e _ (by omega) (by omega)).trans a2, (e _ (by omega) (by omega)).trans a3, q⟩
/-- a side's items -/
def rwM (h : zh) (C D E G : Nat) (ps cs : List it4) : Prop := ((∃ x : Int32, hsl h 56 C = some (zi x) ∧ x.toInt = (ps.length : Int)) ∧ ∀ (j : Nat) (i : it4), ps[j]? = some i → itM h (E + 4 * j) i) ∧ ((∃ x : Int32, hsl h 56 D = some (zi x) ∧ x.toInt = (cs.length : Int)) ∧ ∀ (j : Nat) (i : it4), cs[j]? = some i → itM h (G + 4 * j) i) ∧ ps.length ≤ 5 ∧ cs.length ≤ 6
theorem rwM_up {h h1 : zh} {C D E G : Nat} {ps cs : List it4} (r : rwM h C D E G ps cs) (e : ∀ j, hsl h1 56 j = hsl h 56 j) : rwM h1 C D E G ps cs := by
  obtain ⟨⟨⟨x, a, b⟩, c⟩, ⟨⟨y, f, g⟩, k⟩, q⟩ := r
  exact ⟨⟨⟨x, (e _).trans a, b⟩, fun j i hj => itM_up (c j i hj) (fun j _ _ => e j)⟩, ⟨⟨y, (e _).trans f, g⟩, fun j i hj => itM_up (k j i hj) (fun j _ _ => e j)⟩, q⟩
theorem itm_at {l : List it4} {i i' : it4} {j : Nat} (h : (l ++ [i])[j]? = some i') : (j < l.length ∧ l[j]? = some i') ∨ (j = l.length ∧ i' = i) := by
  rcases Nat.lt_or_ge j l.length with q | q
  · rw [List.getElem?_append_left q] at h
    exact Or.inl ⟨q, h⟩
  · rw [List.getElem?_append_right q] at h
    have hj0 : j - l.length = 0 := by
      have := (List.getElem?_eq_some_iff.mp h).1
      simp at this
      omega
    rw [hj0] at h
    cases h
    exact Or.inr ⟨by omega, rfl⟩
theorem itm_lt {l : List it4} {i : it4} {j : Nat} (h : l[j]? = some i) : j < l.length := (List.getElem?_eq_some_iff.mp h).1
theorem s_pass11 {t : Nat} {r w : Int} {τ : List Nat} {h : zh} (hg : hG τ h) (ft : ftM h r w) (hr : r ≠ 0) : qI 8 175 [some (.inl (some 52)), some (.inl (some 2000011)), none] h t (fun y h1 => h = h1 ∧ y.toInt = 0) := by
  refine qI_of ?_
  refine y_same (i := .aload_n 0) (len := 1) (r := (0, 0, 0, 0)) (pc' := 1) (ls' := [some (.inl (some 52)), some (.inl (some 2000011)), none]) (st' := [.inl (some 52)]) (by decide +kernel) (fun k q => by cases q) rfl ?_
  refine y_cI (i := .invokevirtual 114) (len := 3) (r := (0, 172, 12, 1502)) (nL := 1) (k := 2) (n := 1) (hs := []) (args := [.inl (some 52)]) (rest := []) (l0 := [some (.inl (some 52))]) (by decide +kernel) (Or.inr (Or.inl ⟨_, rfl⟩)) rfl rfl rfl rfl (Nat.le_of_ble_eq_true rfl) (z52 hg) rfl (qI_le (by decide) (m_fine (d := 0) hg ft)) (fun y324 qy324 hRy324 => ?_)
  obtain ⟨rfl, gy324, by324⟩ := hRy324
  have hy324 : y324.toInt = 0 := by324 (by omega)
  refine y_iF (c := .ne) (off := 5) (len := 3) (r := (0, 0, 0, 0)) (by decide +kernel) (acmpF (c := .ne) (by show _ = _; omega)) ?_
  refine y_ic (c := 0) (len := 1) (r := (0, 0, 0, 0)) (by decide +kernel) (by decide) (fun y325 hy325 => ?_)
  refine y_rI (len := 1) (r := (0, 0, 0, 0)) (nL := 3) (k := 2) (n9 := 2) (hs := []) (by decide +kernel) rfl (zfit_b (by omega) (by omega)).2 ?_
  exact ⟨rfl, by omega⟩
theorem s_pass12 {t : Nat} {r w : Int} {τ : List Nat} {h : zh} (hg : hG τ h) (ft : ftM h r w) (hr : r ≠ 0) : qI 8 175 [some (.inl (some 52)), some (.inl (some 2000012)), none] h t (fun y h1 => h = h1 ∧ y.toInt = 0) := by
  refine qI_of ?_
  refine y_same (i := .aload_n 0) (len := 1) (r := (0, 0, 0, 0)) (pc' := 1) (ls' := [some (.inl (some 52)), some (.inl (some 2000012)), none]) (st' := [.inl (some 52)]) (by decide +kernel) (fun k q => by cases q) rfl ?_
  refine y_cI (i := .invokevirtual 114) (len := 3) (r := (0, 172, 12, 1502)) (nL := 1) (k := 2) (n := 1) (hs := []) (args := [.inl (some 52)]) (rest := []) (l0 := [some (.inl (some 52))]) (by decide +kernel) (Or.inr (Or.inl ⟨_, rfl⟩)) rfl rfl rfl rfl (Nat.le_of_ble_eq_true rfl) (z52 hg) rfl (qI_le (by decide) (m_fine (d := 0) hg ft)) (fun y326 qy326 hRy326 => ?_)
  obtain ⟨rfl, gy326, by326⟩ := hRy326
  have hy326 : y326.toInt = 0 := by326 (by omega)
  refine y_iF (c := .ne) (off := 5) (len := 3) (r := (0, 0, 0, 0)) (by decide +kernel) (acmpF (c := .ne) (by show _ = _; omega)) ?_
  refine y_ic (c := 0) (len := 1) (r := (0, 0, 0, 0)) (by decide +kernel) (by decide) (fun y327 hy327 => ?_)
  refine y_rI (len := 1) (r := (0, 0, 0, 0)) (nL := 3) (k := 2) (n9 := 2) (hs := []) (by decide +kernel) rfl (zfit_b (by omega) (by omega)).2 ?_
  exact ⟨rfl, by omega⟩
theorem s_pass13 {t : Nat} {r w : Int} {τ : List Nat} {h : zh} (hg : hG τ h) (ft : ftM h r w) (hr : r ≠ 0) : qI 8 175 [some (.inl (some 52)), some (.inl (some 2000013)), none] h t (fun y h1 => h = h1 ∧ y.toInt = 0) := by
  refine qI_of ?_
  refine y_same (i := .aload_n 0) (len := 1) (r := (0, 0, 0, 0)) (pc' := 1) (ls' := [some (.inl (some 52)), some (.inl (some 2000013)), none]) (st' := [.inl (some 52)]) (by decide +kernel) (fun k q => by cases q) rfl ?_
  refine y_cI (i := .invokevirtual 114) (len := 3) (r := (0, 172, 12, 1502)) (nL := 1) (k := 2) (n := 1) (hs := []) (args := [.inl (some 52)]) (rest := []) (l0 := [some (.inl (some 52))]) (by decide +kernel) (Or.inr (Or.inl ⟨_, rfl⟩)) rfl rfl rfl rfl (Nat.le_of_ble_eq_true rfl) (z52 hg) rfl (qI_le (by decide) (m_fine (d := 0) hg ft)) (fun y328 qy328 hRy328 => ?_)
  obtain ⟨rfl, gy328, by328⟩ := hRy328
  have hy328 : y328.toInt = 0 := by328 (by omega)
  refine y_iF (c := .ne) (off := 5) (len := 3) (r := (0, 0, 0, 0)) (by decide +kernel) (acmpF (c := .ne) (by show _ = _; omega)) ?_
  refine y_ic (c := 0) (len := 1) (r := (0, 0, 0, 0)) (by decide +kernel) (by decide) (fun y329 hy329 => ?_)
  refine y_rI (len := 1) (r := (0, 0, 0, 0)) (nL := 3) (k := 2) (n9 := 2) (hs := []) (by decide +kernel) rfl (zfit_b (by omega) (by omega)).2 ?_
  exact ⟨rfl, by omega⟩
theorem s_pass14 {t : Nat} {r w : Int} {τ : List Nat} {h : zh} (hg : hG τ h) (ft : ftM h r w) (hr : r ≠ 0) : qI 8 175 [some (.inl (some 52)), some (.inl (some 2000014)), none] h t (fun y h1 => h = h1 ∧ y.toInt = 0) := by
  refine qI_of ?_
  refine y_same (i := .aload_n 0) (len := 1) (r := (0, 0, 0, 0)) (pc' := 1) (ls' := [some (.inl (some 52)), some (.inl (some 2000014)), none]) (st' := [.inl (some 52)]) (by decide +kernel) (fun k q => by cases q) rfl ?_
  refine y_cI (i := .invokevirtual 114) (len := 3) (r := (0, 172, 12, 1502)) (nL := 1) (k := 2) (n := 1) (hs := []) (args := [.inl (some 52)]) (rest := []) (l0 := [some (.inl (some 52))]) (by decide +kernel) (Or.inr (Or.inl ⟨_, rfl⟩)) rfl rfl rfl rfl (Nat.le_of_ble_eq_true rfl) (z52 hg) rfl (qI_le (by decide) (m_fine (d := 0) hg ft)) (fun y330 qy330 hRy330 => ?_)
  obtain ⟨rfl, gy330, by330⟩ := hRy330
  have hy330 : y330.toInt = 0 := by330 (by omega)
  refine y_iF (c := .ne) (off := 5) (len := 3) (r := (0, 0, 0, 0)) (by decide +kernel) (acmpF (c := .ne) (by show _ = _; omega)) ?_
  refine y_ic (c := 0) (len := 1) (r := (0, 0, 0, 0)) (by decide +kernel) (by decide) (fun y331 hy331 => ?_)
  refine y_rI (len := 1) (r := (0, 0, 0, 0)) (nL := 3) (k := 2) (n9 := 2) (hs := []) (by decide +kernel) rfl (zfit_b (by omega) (by omega)).2 ?_
  exact ⟨rfl, by omega⟩
theorem s_pass15 {t : Nat} {r w : Int} {τ : List Nat} {h : zh} (hg : hG τ h) (ft : ftM h r w) (hr : r ≠ 0) : qI 8 175 [some (.inl (some 52)), some (.inl (some 2000015)), none] h t (fun y h1 => h = h1 ∧ y.toInt = 0) := by
  refine qI_of ?_
  refine y_same (i := .aload_n 0) (len := 1) (r := (0, 0, 0, 0)) (pc' := 1) (ls' := [some (.inl (some 52)), some (.inl (some 2000015)), none]) (st' := [.inl (some 52)]) (by decide +kernel) (fun k q => by cases q) rfl ?_
  refine y_cI (i := .invokevirtual 114) (len := 3) (r := (0, 172, 12, 1502)) (nL := 1) (k := 2) (n := 1) (hs := []) (args := [.inl (some 52)]) (rest := []) (l0 := [some (.inl (some 52))]) (by decide +kernel) (Or.inr (Or.inl ⟨_, rfl⟩)) rfl rfl rfl rfl (Nat.le_of_ble_eq_true rfl) (z52 hg) rfl (qI_le (by decide) (m_fine (d := 0) hg ft)) (fun y332 qy332 hRy332 => ?_)
  obtain ⟨rfl, gy332, by332⟩ := hRy332
  have hy332 : y332.toInt = 0 := by332 (by omega)
  refine y_iF (c := .ne) (off := 5) (len := 3) (r := (0, 0, 0, 0)) (by decide +kernel) (acmpF (c := .ne) (by show _ = _; omega)) ?_
  refine y_ic (c := 0) (len := 1) (r := (0, 0, 0, 0)) (by decide +kernel) (by decide) (fun y333 hy333 => ?_)
  refine y_rI (len := 1) (r := (0, 0, 0, 0)) (nL := 3) (k := 2) (n9 := 2) (hs := []) (by decide +kernel) rfl (zfit_b (by omega) (by omega)).2 ?_
  exact ⟨rfl, by omega⟩
theorem s_pass16 {t : Nat} {r w : Int} {τ : List Nat} {h : zh} (hg : hG τ h) (ft : ftM h r w) (hr : r ≠ 0) : qI 8 175 [some (.inl (some 52)), some (.inl (some 2000016)), none] h t (fun y h1 => h = h1 ∧ y.toInt = 0) := by
  refine qI_of ?_
  refine y_same (i := .aload_n 0) (len := 1) (r := (0, 0, 0, 0)) (pc' := 1) (ls' := [some (.inl (some 52)), some (.inl (some 2000016)), none]) (st' := [.inl (some 52)]) (by decide +kernel) (fun k q => by cases q) rfl ?_
  refine y_cI (i := .invokevirtual 114) (len := 3) (r := (0, 172, 12, 1502)) (nL := 1) (k := 2) (n := 1) (hs := []) (args := [.inl (some 52)]) (rest := []) (l0 := [some (.inl (some 52))]) (by decide +kernel) (Or.inr (Or.inl ⟨_, rfl⟩)) rfl rfl rfl rfl (Nat.le_of_ble_eq_true rfl) (z52 hg) rfl (qI_le (by decide) (m_fine (d := 0) hg ft)) (fun y334 qy334 hRy334 => ?_)
  obtain ⟨rfl, gy334, by334⟩ := hRy334
  have hy334 : y334.toInt = 0 := by334 (by omega)
  refine y_iF (c := .ne) (off := 5) (len := 3) (r := (0, 0, 0, 0)) (by decide +kernel) (acmpF (c := .ne) (by show _ = _; omega)) ?_
  refine y_ic (c := 0) (len := 1) (r := (0, 0, 0, 0)) (by decide +kernel) (by decide) (fun y335 hy335 => ?_)
  refine y_rI (len := 1) (r := (0, 0, 0, 0)) (nL := 3) (k := 2) (n9 := 2) (hs := []) (by decide +kernel) rfl (zfit_b (by omega) (by omega)).2 ?_
  exact ⟨rfl, by omega⟩
theorem s_pass17 {t : Nat} {r w : Int} {τ : List Nat} {h : zh} (hg : hG τ h) (ft : ftM h r w) (hr : r ≠ 0) : qI 8 175 [some (.inl (some 52)), some (.inl (some 2000017)), none] h t (fun y h1 => h = h1 ∧ y.toInt = 0) := by
  refine qI_of ?_
  refine y_same (i := .aload_n 0) (len := 1) (r := (0, 0, 0, 0)) (pc' := 1) (ls' := [some (.inl (some 52)), some (.inl (some 2000017)), none]) (st' := [.inl (some 52)]) (by decide +kernel) (fun k q => by cases q) rfl ?_
  refine y_cI (i := .invokevirtual 114) (len := 3) (r := (0, 172, 12, 1502)) (nL := 1) (k := 2) (n := 1) (hs := []) (args := [.inl (some 52)]) (rest := []) (l0 := [some (.inl (some 52))]) (by decide +kernel) (Or.inr (Or.inl ⟨_, rfl⟩)) rfl rfl rfl rfl (Nat.le_of_ble_eq_true rfl) (z52 hg) rfl (qI_le (by decide) (m_fine (d := 0) hg ft)) (fun y336 qy336 hRy336 => ?_)
  obtain ⟨rfl, gy336, by336⟩ := hRy336
  have hy336 : y336.toInt = 0 := by336 (by omega)
  refine y_iF (c := .ne) (off := 5) (len := 3) (r := (0, 0, 0, 0)) (by decide +kernel) (acmpF (c := .ne) (by show _ = _; omega)) ?_
  refine y_ic (c := 0) (len := 1) (r := (0, 0, 0, 0)) (by decide +kernel) (by decide) (fun y337 hy337 => ?_)
  refine y_rI (len := 1) (r := (0, 0, 0, 0)) (nL := 3) (k := 2) (n9 := 2) (hs := []) (by decide +kernel) rfl (zfit_b (by omega) (by omega)).2 ?_
  exact ⟨rfl, by omega⟩
theorem s_pass18 {t : Nat} {r w : Int} {τ : List Nat} {h : zh} (hg : hG τ h) (ft : ftM h r w) (hr : r ≠ 0) : qI 8 175 [some (.inl (some 52)), some (.inl (some 2000018)), none] h t (fun y h1 => h = h1 ∧ y.toInt = 0) := by
  refine qI_of ?_
  refine y_same (i := .aload_n 0) (len := 1) (r := (0, 0, 0, 0)) (pc' := 1) (ls' := [some (.inl (some 52)), some (.inl (some 2000018)), none]) (st' := [.inl (some 52)]) (by decide +kernel) (fun k q => by cases q) rfl ?_
  refine y_cI (i := .invokevirtual 114) (len := 3) (r := (0, 172, 12, 1502)) (nL := 1) (k := 2) (n := 1) (hs := []) (args := [.inl (some 52)]) (rest := []) (l0 := [some (.inl (some 52))]) (by decide +kernel) (Or.inr (Or.inl ⟨_, rfl⟩)) rfl rfl rfl rfl (Nat.le_of_ble_eq_true rfl) (z52 hg) rfl (qI_le (by decide) (m_fine (d := 0) hg ft)) (fun y338 qy338 hRy338 => ?_)
  obtain ⟨rfl, gy338, by338⟩ := hRy338
  have hy338 : y338.toInt = 0 := by338 (by omega)
  refine y_iF (c := .ne) (off := 5) (len := 3) (r := (0, 0, 0, 0)) (by decide +kernel) (acmpF (c := .ne) (by show _ = _; omega)) ?_
  refine y_ic (c := 0) (len := 1) (r := (0, 0, 0, 0)) (by decide +kernel) (by decide) (fun y339 hy339 => ?_)
  refine y_rI (len := 1) (r := (0, 0, 0, 0)) (nL := 3) (k := 2) (n9 := 2) (hs := []) (by decide +kernel) rfl (zfit_b (by omega) (by omega)).2 ?_
  exact ⟨rfl, by omega⟩
theorem s_pass19 {t : Nat} {r w : Int} {τ : List Nat} {h : zh} (hg : hG τ h) (ft : ftM h r w) (hr : r ≠ 0) : qI 8 175 [some (.inl (some 52)), some (.inl (some 2000019)), none] h t (fun y h1 => h = h1 ∧ y.toInt = 0) := by
  refine qI_of ?_
  refine y_same (i := .aload_n 0) (len := 1) (r := (0, 0, 0, 0)) (pc' := 1) (ls' := [some (.inl (some 52)), some (.inl (some 2000019)), none]) (st' := [.inl (some 52)]) (by decide +kernel) (fun k q => by cases q) rfl ?_
  refine y_cI (i := .invokevirtual 114) (len := 3) (r := (0, 172, 12, 1502)) (nL := 1) (k := 2) (n := 1) (hs := []) (args := [.inl (some 52)]) (rest := []) (l0 := [some (.inl (some 52))]) (by decide +kernel) (Or.inr (Or.inl ⟨_, rfl⟩)) rfl rfl rfl rfl (Nat.le_of_ble_eq_true rfl) (z52 hg) rfl (qI_le (by decide) (m_fine (d := 0) hg ft)) (fun y340 qy340 hRy340 => ?_)
  obtain ⟨rfl, gy340, by340⟩ := hRy340
  have hy340 : y340.toInt = 0 := by340 (by omega)
  refine y_iF (c := .ne) (off := 5) (len := 3) (r := (0, 0, 0, 0)) (by decide +kernel) (acmpF (c := .ne) (by show _ = _; omega)) ?_
  refine y_ic (c := 0) (len := 1) (r := (0, 0, 0, 0)) (by decide +kernel) (by decide) (fun y341 hy341 => ?_)
  refine y_rI (len := 1) (r := (0, 0, 0, 0)) (nL := 3) (k := 2) (n9 := 2) (hs := []) (by decide +kernel) rfl (zfit_b (by omega) (by omega)).2 ?_
  exact ⟨rfl, by omega⟩
theorem s_pass20 {t : Nat} {r w : Int} {τ : List Nat} {h : zh} (hg : hG τ h) (ft : ftM h r w) (hr : r ≠ 0) : qI 8 175 [some (.inl (some 52)), some (.inl (some 2000020)), none] h t (fun y h1 => h = h1 ∧ y.toInt = 0) := by
  refine qI_of ?_
  refine y_same (i := .aload_n 0) (len := 1) (r := (0, 0, 0, 0)) (pc' := 1) (ls' := [some (.inl (some 52)), some (.inl (some 2000020)), none]) (st' := [.inl (some 52)]) (by decide +kernel) (fun k q => by cases q) rfl ?_
  refine y_cI (i := .invokevirtual 114) (len := 3) (r := (0, 172, 12, 1502)) (nL := 1) (k := 2) (n := 1) (hs := []) (args := [.inl (some 52)]) (rest := []) (l0 := [some (.inl (some 52))]) (by decide +kernel) (Or.inr (Or.inl ⟨_, rfl⟩)) rfl rfl rfl rfl (Nat.le_of_ble_eq_true rfl) (z52 hg) rfl (qI_le (by decide) (m_fine (d := 0) hg ft)) (fun y342 qy342 hRy342 => ?_)
  obtain ⟨rfl, gy342, by342⟩ := hRy342
  have hy342 : y342.toInt = 0 := by342 (by omega)
  refine y_iF (c := .ne) (off := 5) (len := 3) (r := (0, 0, 0, 0)) (by decide +kernel) (acmpF (c := .ne) (by show _ = _; omega)) ?_
  refine y_ic (c := 0) (len := 1) (r := (0, 0, 0, 0)) (by decide +kernel) (by decide) (fun y343 hy343 => ?_)
  refine y_rI (len := 1) (r := (0, 0, 0, 0)) (nL := 3) (k := 2) (n9 := 2) (hs := []) (by decide +kernel) rfl (zfit_b (by omega) (by omega)).2 ?_
  exact ⟨rfl, by omega⟩
theorem s_pass21 {t : Nat} {r w : Int} {τ : List Nat} {h : zh} (hg : hG τ h) (ft : ftM h r w) (hr : r ≠ 0) : qI 8 175 [some (.inl (some 52)), some (.inl (some 2000021)), none] h t (fun y h1 => h = h1 ∧ y.toInt = 0) := by
  refine qI_of ?_
  refine y_same (i := .aload_n 0) (len := 1) (r := (0, 0, 0, 0)) (pc' := 1) (ls' := [some (.inl (some 52)), some (.inl (some 2000021)), none]) (st' := [.inl (some 52)]) (by decide +kernel) (fun k q => by cases q) rfl ?_
  refine y_cI (i := .invokevirtual 114) (len := 3) (r := (0, 172, 12, 1502)) (nL := 1) (k := 2) (n := 1) (hs := []) (args := [.inl (some 52)]) (rest := []) (l0 := [some (.inl (some 52))]) (by decide +kernel) (Or.inr (Or.inl ⟨_, rfl⟩)) rfl rfl rfl rfl (Nat.le_of_ble_eq_true rfl) (z52 hg) rfl (qI_le (by decide) (m_fine (d := 0) hg ft)) (fun y344 qy344 hRy344 => ?_)
  obtain ⟨rfl, gy344, by344⟩ := hRy344
  have hy344 : y344.toInt = 0 := by344 (by omega)
  refine y_iF (c := .ne) (off := 5) (len := 3) (r := (0, 0, 0, 0)) (by decide +kernel) (acmpF (c := .ne) (by show _ = _; omega)) ?_
  refine y_ic (c := 0) (len := 1) (r := (0, 0, 0, 0)) (by decide +kernel) (by decide) (fun y345 hy345 => ?_)
  refine y_rI (len := 1) (r := (0, 0, 0, 0)) (nL := 3) (k := 2) (n9 := 2) (hs := []) (by decide +kernel) rfl (zfit_b (by omega) (by omega)).2 ?_
  exact ⟨rfl, by omega⟩
theorem m_must13 {t n a : Nat} {b : Nat → Int} {τ : List Nat} {h : zh} (hg : hG τ h) (rd : rdM h n a b) (han : a ≤ n) (ft : ftM h 0 (-1)) : qV 10 176 [some (.inl (some 52)), some (.inl (some 2000013))] h t (fun h1 => ∃ τ1, oF (fun k j => k ≠ 52 ∨ (j ≠ 4 ∧ j ≠ 6 ∧ j ≠ 7)) τ h τ1 h1 ∧ ((∃ a', ndd b n [40] a = .inr a' ∧ a' ≤ n ∧ rdM h1 n a' b ∧ ftM h1 0 (-1)) ∨ (ndd b n [40] a = .inl (1, sk b n a) ∧ rdM h1 n (sk b n a) b ∧ ftM h1 1 ((sk b n a : Nat) : Int)))) := by
  obtain ⟨⟨xn, hn, en⟩, ⟨xa, ha, ea⟩, hb, hn2⟩ := id rd
  obtain ⟨⟨xf, hf6, ef⟩, xw, hw7, ew7⟩ := id ft
  refine qV_of ?_
  refine y_same (i := .aload_n 0) (len := 1) (r := (0, 0, 0, 0)) (pc' := 1) (ls' := [some (.inl (some 52)), some (.inl (some 2000013))]) (st' := [.inl (some 52)]) (by decide +kernel) (fun k q => by cases q) rfl ?_
  refine y_cI (i := .invokevirtual 114) (len := 3) (r := (0, 172, 12, 1502)) (nL := 1) (k := 2) (n := 1) (hs := []) (args := [.inl (some 52)]) (rest := []) (l0 := [some (.inl (some 52))]) (by decide +kernel) (Or.inr (Or.inl ⟨_, rfl⟩)) rfl rfl rfl rfl (Nat.le_of_ble_eq_true rfl) (z52 hg) rfl (qI_le (by decide) (m_fine (d := 0) hg ft)) (fun y346 qy346 hRy346 => ?_)
  obtain ⟨rfl, gy346, by346⟩ := hRy346
  have hy346 : y346.toInt = 1 := gy346 rfl
  refine y_iF (c := .eq) (off := 20) (len := 3) (r := (0, 0, 0, 0)) (by decide +kernel) (acmpF (c := .eq) (by show ¬ (_ = _); omega)) ?_
  refine y_same (i := .aload_n 0) (len := 1) (r := (0, 0, 0, 0)) (pc' := 8) (ls' := [some (.inl (some 52)), some (.inl (some 2000013))]) (st' := [.inl (some 52)]) (by decide +kernel) (fun k q => by cases q) rfl ?_
  refine y_same (i := .aload_n 1) (len := 1) (r := (0, 0, 0, 0)) (pc' := 9) (ls' := [some (.inl (some 52)), some (.inl (some 2000013))]) (st' := [.inl (some 2000013), .inl (some 52)]) (by decide +kernel) (fun k q => by cases q) rfl ?_
  refine y_cI (i := .invokevirtual 135) (len := 3) (r := (0, 175, 12, 1498)) (nL := 3) (k := 2) (n := 2) (hs := []) (args := [.inl (some 52), .inl (some 2000013)]) (rest := []) (l0 := [some (.inl (some 52)), some (.inl (some 2000013)), none]) (by decide +kernel) (Or.inr (Or.inl ⟨_, rfl⟩)) rfl rfl rfl rfl (Nat.le_of_ble_eq_true rfl) (z52 hg) rfl (qI_le (by decide) (m_pass13 hg rd (by omega) ft)) (fun y347 h347 hRy347 => ?_)
  obtain ⟨τ347, O347, hD347⟩ := hRy347
  rcases hD347 with ⟨a347, e347, le347, hy347, r347⟩ | ⟨e347, hy347, r347⟩
  ·
    obtain ⟨⟨xn347y, hn347y, en347y⟩, ⟨xa347y, ha347y, ea347y⟩, hb347y, -⟩ := id r347
    refine y_iT (c := .ne) (off := 12) (pc' := 24) (len := 3) (r := (0, 0, 0, 0)) (by decide +kernel) (acmpT (c := .ne) (by show ¬ (_ = _); omega)) (by decide +kernel) ?_
    refine y_rV (len := 1) (r := (0, 0, 0, 0)) (nL := 2) (n9 := 2) (hs := []) (by decide +kernel) rfl ?_
    exact ⟨_, ⟨O347.1, O347.2.1, fun k T j hk (hC : k ≠ 52 ∨ (j ≠ 4 ∧ j ≠ 6 ∧ j ≠ 7)) => (O347.2.2 k T j hk (show k ≠ 52 ∨ j ≠ 4 by omega))⟩, Or.inl ⟨_, (by unfold ndd; rw [e347]), by omega, r347, (ftM_up ft (O347.2.2 52 52 6 (t52 hg) (show 52 ≠ 52 ∨ 6 ≠ 4 by omega)) (O347.2.2 52 52 7 (t52 hg) (show 52 ≠ 52 ∨ 7 ≠ 4 by omega)))⟩⟩
  ·
    have sl347 := sk_le (b := b) (n := n) (a := a) (by omega)
    obtain ⟨⟨xn347n, hn347n, en347n⟩, ⟨xa347n, ha347n, ea347n⟩, hb347n, -⟩ := id r347
    refine y_iF (c := .ne) (off := 12) (len := 3) (r := (0, 0, 0, 0)) (by decide +kernel) (acmpF (c := .ne) (by show _ = _; omega)) ?_
    refine y_same (i := .aload_n 0) (len := 1) (r := (0, 0, 0, 0)) (pc' := 16) (ls' := [some (.inl (some 52)), some (.inl (some 2000013))]) (st' := [.inl (some 52)]) (by decide +kernel) (fun k q => by cases q) rfl ?_
    refine y_ic (c := 1) (len := 1) (r := (0, 0, 0, 0)) (by decide +kernel) (by decide) (fun y348 hy348 => ?_)
    refine y_same (i := .aload_n 0) (len := 1) (r := (0, 0, 0, 0)) (pc' := 18) (ls' := [some (.inl (some 52)), some (.inl (some 2000013))]) (st' := [.inl (some 52), zi y348, .inl (some 52)]) (by decide +kernel) (fun k q => by cases q) rfl ?_
    refine y_get (j := 101) (len := 3) (r := (12, 4, 0, 1332)) (by decide +kernel) O347.2.1 (t52 O347.2.1) at52 rfl rfl ha347n ?_
    refine y_cV (i := .invokevirtual 139) (len := 3) (r := (0, 173, 12, 1529)) (nL := 3) (k := 0) (n := 3) (hs := []) (args := [.inl (some 52), zi y348, zi xa347n]) (rest := []) (l0 := [some (.inl (some 52)), some (zi y348), some (zi xa347n)]) (by decide +kernel) (Or.inr (Or.inl ⟨_, rfl⟩)) rfl rfl rfl rfl (Nat.le_of_ble_eq_true rfl) (z52 O347.2.1) rfl (qV_le (by decide) (m_wrong (d := 0) (r := 1) (q := (sk b n a)) O347.2.1 (ftM_up ft (O347.2.2 52 52 6 (t52 hg) (show 52 ≠ 52 ∨ 6 ≠ 4 by omega)) (O347.2.2 52 52 7 (t52 hg) (show 52 ≠ 52 ∨ 7 ≠ 4 by omega))) (by omega) (by omega) (by omega) (by omega))) (fun h349 hR349 => ?_)
    obtain ⟨τ349, O349, ft349⟩ := hR349
    obtain ⟨⟨xf349, hf349, ef349⟩, xw349, hw349, ew349⟩ := id ft349
    refine y_rV (len := 1) (r := (0, 0, 0, 0)) (nL := 2) (n9 := 2) (hs := []) (by decide +kernel) rfl ?_
    have hv350 := (O349.2.2 52 52 4 (t52 O347.2.1) (show 52 ≠ 52 ∨ (4 ≠ 6 ∧ 4 ≠ 7) by omega)).trans ha347n
    exact ⟨_, ⟨(aup_trans O347.1 O349.1), O349.2.1, fun k T j hk (hC : k ≠ 52 ∨ (j ≠ 4 ∧ j ≠ 6 ∧ j ≠ 7)) => ((O349.2.2 k T j (O347.1 _ _ hk) (show k ≠ 52 ∨ (j ≠ 6 ∧ j ≠ 7) by omega)).trans (O347.2.2 k T j hk (show k ≠ 52 ∨ j ≠ 4 by omega)))⟩, Or.inr ⟨(by unfold ndd; rw [e347]), (rdM_up r347 (O349.2.2 52 52 3 (t52 O347.2.1) (show 52 ≠ 52 ∨ (3 ≠ 6 ∧ 3 ≠ 7) by omega)) (fun j => (O349.2.2 54 54 j (tu54 O347.2.1) (show 54 ≠ 52 ∨ (j ≠ 6 ∧ j ≠ 7) by omega))) ⟨_, hv350, by omega⟩), ft349⟩⟩
theorem s_must13 {t : Nat} {r w : Int} {τ : List Nat} {h : zh} (hg : hG τ h) (ft : ftM h r w) (hr : r ≠ 0) : qV 10 176 [some (.inl (some 52)), some (.inl (some 2000013))] h t (fun h1 => h = h1) := by
  refine qV_of ?_
  refine y_same (i := .aload_n 0) (len := 1) (r := (0, 0, 0, 0)) (pc' := 1) (ls' := [some (.inl (some 52)), some (.inl (some 2000013))]) (st' := [.inl (some 52)]) (by decide +kernel) (fun k q => by cases q) rfl ?_
  refine y_cI (i := .invokevirtual 114) (len := 3) (r := (0, 172, 12, 1502)) (nL := 1) (k := 2) (n := 1) (hs := []) (args := [.inl (some 52)]) (rest := []) (l0 := [some (.inl (some 52))]) (by decide +kernel) (Or.inr (Or.inl ⟨_, rfl⟩)) rfl rfl rfl rfl (Nat.le_of_ble_eq_true rfl) (z52 hg) rfl (qI_le (by decide) (m_fine (d := 0) hg ft)) (fun y351 qy351 hRy351 => ?_)
  obtain ⟨rfl, gy351, by351⟩ := hRy351
  have hy351 : y351.toInt = 0 := by351 (by omega)
  refine y_iT (c := .eq) (off := 20) (pc' := 24) (len := 3) (r := (0, 0, 0, 0)) (by decide +kernel) (acmpT (c := .eq) (by show _ = _; omega)) (by decide +kernel) ?_
  refine y_rV (len := 1) (r := (0, 0, 0, 0)) (nL := 2) (n9 := 2) (hs := []) (by decide +kernel) rfl ?_
  exact rfl
theorem m_must14 {t n a : Nat} {b : Nat → Int} {τ : List Nat} {h : zh} (hg : hG τ h) (rd : rdM h n a b) (han : a ≤ n) (ft : ftM h 0 (-1)) : qV 10 176 [some (.inl (some 52)), some (.inl (some 2000014))] h t (fun h1 => ∃ τ1, oF (fun k j => k ≠ 52 ∨ (j ≠ 4 ∧ j ≠ 6 ∧ j ≠ 7)) τ h τ1 h1 ∧ ((∃ a', ndd b n [44] a = .inr a' ∧ a' ≤ n ∧ rdM h1 n a' b ∧ ftM h1 0 (-1)) ∨ (ndd b n [44] a = .inl (1, sk b n a) ∧ rdM h1 n (sk b n a) b ∧ ftM h1 1 ((sk b n a : Nat) : Int)))) := by
  obtain ⟨⟨xn, hn, en⟩, ⟨xa, ha, ea⟩, hb, hn2⟩ := id rd
  obtain ⟨⟨xf, hf6, ef⟩, xw, hw7, ew7⟩ := id ft
  refine qV_of ?_
  refine y_same (i := .aload_n 0) (len := 1) (r := (0, 0, 0, 0)) (pc' := 1) (ls' := [some (.inl (some 52)), some (.inl (some 2000014))]) (st' := [.inl (some 52)]) (by decide +kernel) (fun k q => by cases q) rfl ?_
  refine y_cI (i := .invokevirtual 114) (len := 3) (r := (0, 172, 12, 1502)) (nL := 1) (k := 2) (n := 1) (hs := []) (args := [.inl (some 52)]) (rest := []) (l0 := [some (.inl (some 52))]) (by decide +kernel) (Or.inr (Or.inl ⟨_, rfl⟩)) rfl rfl rfl rfl (Nat.le_of_ble_eq_true rfl) (z52 hg) rfl (qI_le (by decide) (m_fine (d := 0) hg ft)) (fun y352 qy352 hRy352 => ?_)
  obtain ⟨rfl, gy352, by352⟩ := hRy352
  have hy352 : y352.toInt = 1 := gy352 rfl
  refine y_iF (c := .eq) (off := 20) (len := 3) (r := (0, 0, 0, 0)) (by decide +kernel) (acmpF (c := .eq) (by show ¬ (_ = _); omega)) ?_
  refine y_same (i := .aload_n 0) (len := 1) (r := (0, 0, 0, 0)) (pc' := 8) (ls' := [some (.inl (some 52)), some (.inl (some 2000014))]) (st' := [.inl (some 52)]) (by decide +kernel) (fun k q => by cases q) rfl ?_
  refine y_same (i := .aload_n 1) (len := 1) (r := (0, 0, 0, 0)) (pc' := 9) (ls' := [some (.inl (some 52)), some (.inl (some 2000014))]) (st' := [.inl (some 2000014), .inl (some 52)]) (by decide +kernel) (fun k q => by cases q) rfl ?_
  refine y_cI (i := .invokevirtual 135) (len := 3) (r := (0, 175, 12, 1498)) (nL := 3) (k := 2) (n := 2) (hs := []) (args := [.inl (some 52), .inl (some 2000014)]) (rest := []) (l0 := [some (.inl (some 52)), some (.inl (some 2000014)), none]) (by decide +kernel) (Or.inr (Or.inl ⟨_, rfl⟩)) rfl rfl rfl rfl (Nat.le_of_ble_eq_true rfl) (z52 hg) rfl (qI_le (by decide) (m_pass14 hg rd (by omega) ft)) (fun y353 h353 hRy353 => ?_)
  obtain ⟨τ353, O353, hD353⟩ := hRy353
  rcases hD353 with ⟨a353, e353, le353, hy353, r353⟩ | ⟨e353, hy353, r353⟩
  ·
    obtain ⟨⟨xn353y, hn353y, en353y⟩, ⟨xa353y, ha353y, ea353y⟩, hb353y, -⟩ := id r353
    refine y_iT (c := .ne) (off := 12) (pc' := 24) (len := 3) (r := (0, 0, 0, 0)) (by decide +kernel) (acmpT (c := .ne) (by show ¬ (_ = _); omega)) (by decide +kernel) ?_
    refine y_rV (len := 1) (r := (0, 0, 0, 0)) (nL := 2) (n9 := 2) (hs := []) (by decide +kernel) rfl ?_
    exact ⟨_, ⟨O353.1, O353.2.1, fun k T j hk (hC : k ≠ 52 ∨ (j ≠ 4 ∧ j ≠ 6 ∧ j ≠ 7)) => (O353.2.2 k T j hk (show k ≠ 52 ∨ j ≠ 4 by omega))⟩, Or.inl ⟨_, (by unfold ndd; rw [e353]), by omega, r353, (ftM_up ft (O353.2.2 52 52 6 (t52 hg) (show 52 ≠ 52 ∨ 6 ≠ 4 by omega)) (O353.2.2 52 52 7 (t52 hg) (show 52 ≠ 52 ∨ 7 ≠ 4 by omega)))⟩⟩
  ·
    have sl353 := sk_le (b := b) (n := n) (a := a) (by omega)
    obtain ⟨⟨xn353n, hn353n, en353n⟩, ⟨xa353n, ha353n, ea353n⟩, hb353n, -⟩ := id r353
    refine y_iF (c := .ne) (off := 12) (len := 3) (r := (0, 0, 0, 0)) (by decide +kernel) (acmpF (c := .ne) (by show _ = _; omega)) ?_
    refine y_same (i := .aload_n 0) (len := 1) (r := (0, 0, 0, 0)) (pc' := 16) (ls' := [some (.inl (some 52)), some (.inl (some 2000014))]) (st' := [.inl (some 52)]) (by decide +kernel) (fun k q => by cases q) rfl ?_
    refine y_ic (c := 1) (len := 1) (r := (0, 0, 0, 0)) (by decide +kernel) (by decide) (fun y354 hy354 => ?_)
    refine y_same (i := .aload_n 0) (len := 1) (r := (0, 0, 0, 0)) (pc' := 18) (ls' := [some (.inl (some 52)), some (.inl (some 2000014))]) (st' := [.inl (some 52), zi y354, .inl (some 52)]) (by decide +kernel) (fun k q => by cases q) rfl ?_
    refine y_get (j := 101) (len := 3) (r := (12, 4, 0, 1332)) (by decide +kernel) O353.2.1 (t52 O353.2.1) at52 rfl rfl ha353n ?_
    refine y_cV (i := .invokevirtual 139) (len := 3) (r := (0, 173, 12, 1529)) (nL := 3) (k := 0) (n := 3) (hs := []) (args := [.inl (some 52), zi y354, zi xa353n]) (rest := []) (l0 := [some (.inl (some 52)), some (zi y354), some (zi xa353n)]) (by decide +kernel) (Or.inr (Or.inl ⟨_, rfl⟩)) rfl rfl rfl rfl (Nat.le_of_ble_eq_true rfl) (z52 O353.2.1) rfl (qV_le (by decide) (m_wrong (d := 0) (r := 1) (q := (sk b n a)) O353.2.1 (ftM_up ft (O353.2.2 52 52 6 (t52 hg) (show 52 ≠ 52 ∨ 6 ≠ 4 by omega)) (O353.2.2 52 52 7 (t52 hg) (show 52 ≠ 52 ∨ 7 ≠ 4 by omega))) (by omega) (by omega) (by omega) (by omega))) (fun h355 hR355 => ?_)
    obtain ⟨τ355, O355, ft355⟩ := hR355
    obtain ⟨⟨xf355, hf355, ef355⟩, xw355, hw355, ew355⟩ := id ft355
    refine y_rV (len := 1) (r := (0, 0, 0, 0)) (nL := 2) (n9 := 2) (hs := []) (by decide +kernel) rfl ?_
    have hv356 := (O355.2.2 52 52 4 (t52 O353.2.1) (show 52 ≠ 52 ∨ (4 ≠ 6 ∧ 4 ≠ 7) by omega)).trans ha353n
    exact ⟨_, ⟨(aup_trans O353.1 O355.1), O355.2.1, fun k T j hk (hC : k ≠ 52 ∨ (j ≠ 4 ∧ j ≠ 6 ∧ j ≠ 7)) => ((O355.2.2 k T j (O353.1 _ _ hk) (show k ≠ 52 ∨ (j ≠ 6 ∧ j ≠ 7) by omega)).trans (O353.2.2 k T j hk (show k ≠ 52 ∨ j ≠ 4 by omega)))⟩, Or.inr ⟨(by unfold ndd; rw [e353]), (rdM_up r353 (O355.2.2 52 52 3 (t52 O353.2.1) (show 52 ≠ 52 ∨ (3 ≠ 6 ∧ 3 ≠ 7) by omega)) (fun j => (O355.2.2 54 54 j (tu54 O353.2.1) (show 54 ≠ 52 ∨ (j ≠ 6 ∧ j ≠ 7) by omega))) ⟨_, hv356, by omega⟩), ft355⟩⟩
theorem s_must14 {t : Nat} {r w : Int} {τ : List Nat} {h : zh} (hg : hG τ h) (ft : ftM h r w) (hr : r ≠ 0) : qV 10 176 [some (.inl (some 52)), some (.inl (some 2000014))] h t (fun h1 => h = h1) := by
  refine qV_of ?_
  refine y_same (i := .aload_n 0) (len := 1) (r := (0, 0, 0, 0)) (pc' := 1) (ls' := [some (.inl (some 52)), some (.inl (some 2000014))]) (st' := [.inl (some 52)]) (by decide +kernel) (fun k q => by cases q) rfl ?_
  refine y_cI (i := .invokevirtual 114) (len := 3) (r := (0, 172, 12, 1502)) (nL := 1) (k := 2) (n := 1) (hs := []) (args := [.inl (some 52)]) (rest := []) (l0 := [some (.inl (some 52))]) (by decide +kernel) (Or.inr (Or.inl ⟨_, rfl⟩)) rfl rfl rfl rfl (Nat.le_of_ble_eq_true rfl) (z52 hg) rfl (qI_le (by decide) (m_fine (d := 0) hg ft)) (fun y357 qy357 hRy357 => ?_)
  obtain ⟨rfl, gy357, by357⟩ := hRy357
  have hy357 : y357.toInt = 0 := by357 (by omega)
  refine y_iT (c := .eq) (off := 20) (pc' := 24) (len := 3) (r := (0, 0, 0, 0)) (by decide +kernel) (acmpT (c := .eq) (by show _ = _; omega)) (by decide +kernel) ?_
  refine y_rV (len := 1) (r := (0, 0, 0, 0)) (nL := 2) (n9 := 2) (hs := []) (by decide +kernel) rfl ?_
  exact rfl
theorem m_must15 {t n a : Nat} {b : Nat → Int} {τ : List Nat} {h : zh} (hg : hG τ h) (rd : rdM h n a b) (han : a ≤ n) (ft : ftM h 0 (-1)) : qV 10 176 [some (.inl (some 52)), some (.inl (some 2000015))] h t (fun h1 => ∃ τ1, oF (fun k j => k ≠ 52 ∨ (j ≠ 4 ∧ j ≠ 6 ∧ j ≠ 7)) τ h τ1 h1 ∧ ((∃ a', ndd b n [41] a = .inr a' ∧ a' ≤ n ∧ rdM h1 n a' b ∧ ftM h1 0 (-1)) ∨ (ndd b n [41] a = .inl (1, sk b n a) ∧ rdM h1 n (sk b n a) b ∧ ftM h1 1 ((sk b n a : Nat) : Int)))) := by
  obtain ⟨⟨xn, hn, en⟩, ⟨xa, ha, ea⟩, hb, hn2⟩ := id rd
  obtain ⟨⟨xf, hf6, ef⟩, xw, hw7, ew7⟩ := id ft
  refine qV_of ?_
  refine y_same (i := .aload_n 0) (len := 1) (r := (0, 0, 0, 0)) (pc' := 1) (ls' := [some (.inl (some 52)), some (.inl (some 2000015))]) (st' := [.inl (some 52)]) (by decide +kernel) (fun k q => by cases q) rfl ?_
  refine y_cI (i := .invokevirtual 114) (len := 3) (r := (0, 172, 12, 1502)) (nL := 1) (k := 2) (n := 1) (hs := []) (args := [.inl (some 52)]) (rest := []) (l0 := [some (.inl (some 52))]) (by decide +kernel) (Or.inr (Or.inl ⟨_, rfl⟩)) rfl rfl rfl rfl (Nat.le_of_ble_eq_true rfl) (z52 hg) rfl (qI_le (by decide) (m_fine (d := 0) hg ft)) (fun y358 qy358 hRy358 => ?_)
  obtain ⟨rfl, gy358, by358⟩ := hRy358
  have hy358 : y358.toInt = 1 := gy358 rfl
  refine y_iF (c := .eq) (off := 20) (len := 3) (r := (0, 0, 0, 0)) (by decide +kernel) (acmpF (c := .eq) (by show ¬ (_ = _); omega)) ?_
  refine y_same (i := .aload_n 0) (len := 1) (r := (0, 0, 0, 0)) (pc' := 8) (ls' := [some (.inl (some 52)), some (.inl (some 2000015))]) (st' := [.inl (some 52)]) (by decide +kernel) (fun k q => by cases q) rfl ?_
  refine y_same (i := .aload_n 1) (len := 1) (r := (0, 0, 0, 0)) (pc' := 9) (ls' := [some (.inl (some 52)), some (.inl (some 2000015))]) (st' := [.inl (some 2000015), .inl (some 52)]) (by decide +kernel) (fun k q => by cases q) rfl ?_
  refine y_cI (i := .invokevirtual 135) (len := 3) (r := (0, 175, 12, 1498)) (nL := 3) (k := 2) (n := 2) (hs := []) (args := [.inl (some 52), .inl (some 2000015)]) (rest := []) (l0 := [some (.inl (some 52)), some (.inl (some 2000015)), none]) (by decide +kernel) (Or.inr (Or.inl ⟨_, rfl⟩)) rfl rfl rfl rfl (Nat.le_of_ble_eq_true rfl) (z52 hg) rfl (qI_le (by decide) (m_pass15 hg rd (by omega) ft)) (fun y359 h359 hRy359 => ?_)
  obtain ⟨τ359, O359, hD359⟩ := hRy359
  rcases hD359 with ⟨a359, e359, le359, hy359, r359⟩ | ⟨e359, hy359, r359⟩
  ·
    obtain ⟨⟨xn359y, hn359y, en359y⟩, ⟨xa359y, ha359y, ea359y⟩, hb359y, -⟩ := id r359
    refine y_iT (c := .ne) (off := 12) (pc' := 24) (len := 3) (r := (0, 0, 0, 0)) (by decide +kernel) (acmpT (c := .ne) (by show ¬ (_ = _); omega)) (by decide +kernel) ?_
    refine y_rV (len := 1) (r := (0, 0, 0, 0)) (nL := 2) (n9 := 2) (hs := []) (by decide +kernel) rfl ?_
    exact ⟨_, ⟨O359.1, O359.2.1, fun k T j hk (hC : k ≠ 52 ∨ (j ≠ 4 ∧ j ≠ 6 ∧ j ≠ 7)) => (O359.2.2 k T j hk (show k ≠ 52 ∨ j ≠ 4 by omega))⟩, Or.inl ⟨_, (by unfold ndd; rw [e359]), by omega, r359, (ftM_up ft (O359.2.2 52 52 6 (t52 hg) (show 52 ≠ 52 ∨ 6 ≠ 4 by omega)) (O359.2.2 52 52 7 (t52 hg) (show 52 ≠ 52 ∨ 7 ≠ 4 by omega)))⟩⟩
  ·
    have sl359 := sk_le (b := b) (n := n) (a := a) (by omega)
    obtain ⟨⟨xn359n, hn359n, en359n⟩, ⟨xa359n, ha359n, ea359n⟩, hb359n, -⟩ := id r359
    refine y_iF (c := .ne) (off := 12) (len := 3) (r := (0, 0, 0, 0)) (by decide +kernel) (acmpF (c := .ne) (by show _ = _; omega)) ?_
    refine y_same (i := .aload_n 0) (len := 1) (r := (0, 0, 0, 0)) (pc' := 16) (ls' := [some (.inl (some 52)), some (.inl (some 2000015))]) (st' := [.inl (some 52)]) (by decide +kernel) (fun k q => by cases q) rfl ?_
    refine y_ic (c := 1) (len := 1) (r := (0, 0, 0, 0)) (by decide +kernel) (by decide) (fun y360 hy360 => ?_)
    refine y_same (i := .aload_n 0) (len := 1) (r := (0, 0, 0, 0)) (pc' := 18) (ls' := [some (.inl (some 52)), some (.inl (some 2000015))]) (st' := [.inl (some 52), zi y360, .inl (some 52)]) (by decide +kernel) (fun k q => by cases q) rfl ?_
    refine y_get (j := 101) (len := 3) (r := (12, 4, 0, 1332)) (by decide +kernel) O359.2.1 (t52 O359.2.1) at52 rfl rfl ha359n ?_
    refine y_cV (i := .invokevirtual 139) (len := 3) (r := (0, 173, 12, 1529)) (nL := 3) (k := 0) (n := 3) (hs := []) (args := [.inl (some 52), zi y360, zi xa359n]) (rest := []) (l0 := [some (.inl (some 52)), some (zi y360), some (zi xa359n)]) (by decide +kernel) (Or.inr (Or.inl ⟨_, rfl⟩)) rfl rfl rfl rfl (Nat.le_of_ble_eq_true rfl) (z52 O359.2.1) rfl (qV_le (by decide) (m_wrong (d := 0) (r := 1) (q := (sk b n a)) O359.2.1 (ftM_up ft (O359.2.2 52 52 6 (t52 hg) (show 52 ≠ 52 ∨ 6 ≠ 4 by omega)) (O359.2.2 52 52 7 (t52 hg) (show 52 ≠ 52 ∨ 7 ≠ 4 by omega))) (by omega) (by omega) (by omega) (by omega))) (fun h361 hR361 => ?_)
    obtain ⟨τ361, O361, ft361⟩ := hR361
    obtain ⟨⟨xf361, hf361, ef361⟩, xw361, hw361, ew361⟩ := id ft361
    refine y_rV (len := 1) (r := (0, 0, 0, 0)) (nL := 2) (n9 := 2) (hs := []) (by decide +kernel) rfl ?_
    have hv362 := (O361.2.2 52 52 4 (t52 O359.2.1) (show 52 ≠ 52 ∨ (4 ≠ 6 ∧ 4 ≠ 7) by omega)).trans ha359n
    exact ⟨_, ⟨(aup_trans O359.1 O361.1), O361.2.1, fun k T j hk (hC : k ≠ 52 ∨ (j ≠ 4 ∧ j ≠ 6 ∧ j ≠ 7)) => ((O361.2.2 k T j (O359.1 _ _ hk) (show k ≠ 52 ∨ (j ≠ 6 ∧ j ≠ 7) by omega)).trans (O359.2.2 k T j hk (show k ≠ 52 ∨ j ≠ 4 by omega)))⟩, Or.inr ⟨(by unfold ndd; rw [e359]), (rdM_up r359 (O361.2.2 52 52 3 (t52 O359.2.1) (show 52 ≠ 52 ∨ (3 ≠ 6 ∧ 3 ≠ 7) by omega)) (fun j => (O361.2.2 54 54 j (tu54 O359.2.1) (show 54 ≠ 52 ∨ (j ≠ 6 ∧ j ≠ 7) by omega))) ⟨_, hv362, by omega⟩), ft361⟩⟩
theorem s_must15 {t : Nat} {r w : Int} {τ : List Nat} {h : zh} (hg : hG τ h) (ft : ftM h r w) (hr : r ≠ 0) : qV 10 176 [some (.inl (some 52)), some (.inl (some 2000015))] h t (fun h1 => h = h1) := by
  refine qV_of ?_
  refine y_same (i := .aload_n 0) (len := 1) (r := (0, 0, 0, 0)) (pc' := 1) (ls' := [some (.inl (some 52)), some (.inl (some 2000015))]) (st' := [.inl (some 52)]) (by decide +kernel) (fun k q => by cases q) rfl ?_
  refine y_cI (i := .invokevirtual 114) (len := 3) (r := (0, 172, 12, 1502)) (nL := 1) (k := 2) (n := 1) (hs := []) (args := [.inl (some 52)]) (rest := []) (l0 := [some (.inl (some 52))]) (by decide +kernel) (Or.inr (Or.inl ⟨_, rfl⟩)) rfl rfl rfl rfl (Nat.le_of_ble_eq_true rfl) (z52 hg) rfl (qI_le (by decide) (m_fine (d := 0) hg ft)) (fun y363 qy363 hRy363 => ?_)
  obtain ⟨rfl, gy363, by363⟩ := hRy363
  have hy363 : y363.toInt = 0 := by363 (by omega)
  refine y_iT (c := .eq) (off := 20) (pc' := 24) (len := 3) (r := (0, 0, 0, 0)) (by decide +kernel) (acmpT (c := .eq) (by show _ = _; omega)) (by decide +kernel) ?_
  refine y_rV (len := 1) (r := (0, 0, 0, 0)) (nL := 2) (n9 := 2) (hs := []) (by decide +kernel) rfl ?_
  exact rfl
theorem m_must19 {t n a : Nat} {b : Nat → Int} {τ : List Nat} {h : zh} (hg : hG τ h) (rd : rdM h n a b) (han : a ≤ n) (ft : ftM h 0 (-1)) : qV 10 176 [some (.inl (some 52)), some (.inl (some 2000019))] h t (fun h1 => ∃ τ1, oF (fun k j => k ≠ 52 ∨ (j ≠ 4 ∧ j ≠ 6 ∧ j ≠ 7)) τ h τ1 h1 ∧ ((∃ a', ndd b n [33, 61] a = .inr a' ∧ a' ≤ n ∧ rdM h1 n a' b ∧ ftM h1 0 (-1)) ∨ (ndd b n [33, 61] a = .inl (1, sk b n a) ∧ rdM h1 n (sk b n a) b ∧ ftM h1 1 ((sk b n a : Nat) : Int)))) := by
  obtain ⟨⟨xn, hn, en⟩, ⟨xa, ha, ea⟩, hb, hn2⟩ := id rd
  obtain ⟨⟨xf, hf6, ef⟩, xw, hw7, ew7⟩ := id ft
  refine qV_of ?_
  refine y_same (i := .aload_n 0) (len := 1) (r := (0, 0, 0, 0)) (pc' := 1) (ls' := [some (.inl (some 52)), some (.inl (some 2000019))]) (st' := [.inl (some 52)]) (by decide +kernel) (fun k q => by cases q) rfl ?_
  refine y_cI (i := .invokevirtual 114) (len := 3) (r := (0, 172, 12, 1502)) (nL := 1) (k := 2) (n := 1) (hs := []) (args := [.inl (some 52)]) (rest := []) (l0 := [some (.inl (some 52))]) (by decide +kernel) (Or.inr (Or.inl ⟨_, rfl⟩)) rfl rfl rfl rfl (Nat.le_of_ble_eq_true rfl) (z52 hg) rfl (qI_le (by decide) (m_fine (d := 0) hg ft)) (fun y364 qy364 hRy364 => ?_)
  obtain ⟨rfl, gy364, by364⟩ := hRy364
  have hy364 : y364.toInt = 1 := gy364 rfl
  refine y_iF (c := .eq) (off := 20) (len := 3) (r := (0, 0, 0, 0)) (by decide +kernel) (acmpF (c := .eq) (by show ¬ (_ = _); omega)) ?_
  refine y_same (i := .aload_n 0) (len := 1) (r := (0, 0, 0, 0)) (pc' := 8) (ls' := [some (.inl (some 52)), some (.inl (some 2000019))]) (st' := [.inl (some 52)]) (by decide +kernel) (fun k q => by cases q) rfl ?_
  refine y_same (i := .aload_n 1) (len := 1) (r := (0, 0, 0, 0)) (pc' := 9) (ls' := [some (.inl (some 52)), some (.inl (some 2000019))]) (st' := [.inl (some 2000019), .inl (some 52)]) (by decide +kernel) (fun k q => by cases q) rfl ?_
  refine y_cI (i := .invokevirtual 135) (len := 3) (r := (0, 175, 12, 1498)) (nL := 3) (k := 2) (n := 2) (hs := []) (args := [.inl (some 52), .inl (some 2000019)]) (rest := []) (l0 := [some (.inl (some 52)), some (.inl (some 2000019)), none]) (by decide +kernel) (Or.inr (Or.inl ⟨_, rfl⟩)) rfl rfl rfl rfl (Nat.le_of_ble_eq_true rfl) (z52 hg) rfl (qI_le (by decide) (m_pass19 hg rd (by omega) ft)) (fun y365 h365 hRy365 => ?_)
  obtain ⟨τ365, O365, hD365⟩ := hRy365
  rcases hD365 with ⟨a365, e365, le365, hy365, r365⟩ | ⟨e365, hy365, r365⟩
  ·
    obtain ⟨⟨xn365y, hn365y, en365y⟩, ⟨xa365y, ha365y, ea365y⟩, hb365y, -⟩ := id r365
    refine y_iT (c := .ne) (off := 12) (pc' := 24) (len := 3) (r := (0, 0, 0, 0)) (by decide +kernel) (acmpT (c := .ne) (by show ¬ (_ = _); omega)) (by decide +kernel) ?_
    refine y_rV (len := 1) (r := (0, 0, 0, 0)) (nL := 2) (n9 := 2) (hs := []) (by decide +kernel) rfl ?_
    exact ⟨_, ⟨O365.1, O365.2.1, fun k T j hk (hC : k ≠ 52 ∨ (j ≠ 4 ∧ j ≠ 6 ∧ j ≠ 7)) => (O365.2.2 k T j hk (show k ≠ 52 ∨ j ≠ 4 by omega))⟩, Or.inl ⟨_, (by unfold ndd; rw [e365]), by omega, r365, (ftM_up ft (O365.2.2 52 52 6 (t52 hg) (show 52 ≠ 52 ∨ 6 ≠ 4 by omega)) (O365.2.2 52 52 7 (t52 hg) (show 52 ≠ 52 ∨ 7 ≠ 4 by omega)))⟩⟩
  ·
    have sl365 := sk_le (b := b) (n := n) (a := a) (by omega)
    obtain ⟨⟨xn365n, hn365n, en365n⟩, ⟨xa365n, ha365n, ea365n⟩, hb365n, -⟩ := id r365
    refine y_iF (c := .ne) (off := 12) (len := 3) (r := (0, 0, 0, 0)) (by decide +kernel) (acmpF (c := .ne) (by show _ = _; omega)) ?_
    refine y_same (i := .aload_n 0) (len := 1) (r := (0, 0, 0, 0)) (pc' := 16) (ls' := [some (.inl (some 52)), some (.inl (some 2000019))]) (st' := [.inl (some 52)]) (by decide +kernel) (fun k q => by cases q) rfl ?_
    refine y_ic (c := 1) (len := 1) (r := (0, 0, 0, 0)) (by decide +kernel) (by decide) (fun y366 hy366 => ?_)
    refine y_same (i := .aload_n 0) (len := 1) (r := (0, 0, 0, 0)) (pc' := 18) (ls' := [some (.inl (some 52)), some (.inl (some 2000019))]) (st' := [.inl (some 52), zi y366, .inl (some 52)]) (by decide +kernel) (fun k q => by cases q) rfl ?_
    refine y_get (j := 101) (len := 3) (r := (12, 4, 0, 1332)) (by decide +kernel) O365.2.1 (t52 O365.2.1) at52 rfl rfl ha365n ?_
    refine y_cV (i := .invokevirtual 139) (len := 3) (r := (0, 173, 12, 1529)) (nL := 3) (k := 0) (n := 3) (hs := []) (args := [.inl (some 52), zi y366, zi xa365n]) (rest := []) (l0 := [some (.inl (some 52)), some (zi y366), some (zi xa365n)]) (by decide +kernel) (Or.inr (Or.inl ⟨_, rfl⟩)) rfl rfl rfl rfl (Nat.le_of_ble_eq_true rfl) (z52 O365.2.1) rfl (qV_le (by decide) (m_wrong (d := 0) (r := 1) (q := (sk b n a)) O365.2.1 (ftM_up ft (O365.2.2 52 52 6 (t52 hg) (show 52 ≠ 52 ∨ 6 ≠ 4 by omega)) (O365.2.2 52 52 7 (t52 hg) (show 52 ≠ 52 ∨ 7 ≠ 4 by omega))) (by omega) (by omega) (by omega) (by omega))) (fun h367 hR367 => ?_)
    obtain ⟨τ367, O367, ft367⟩ := hR367
    obtain ⟨⟨xf367, hf367, ef367⟩, xw367, hw367, ew367⟩ := id ft367
    refine y_rV (len := 1) (r := (0, 0, 0, 0)) (nL := 2) (n9 := 2) (hs := []) (by decide +kernel) rfl ?_
    have hv368 := (O367.2.2 52 52 4 (t52 O365.2.1) (show 52 ≠ 52 ∨ (4 ≠ 6 ∧ 4 ≠ 7) by omega)).trans ha365n
    exact ⟨_, ⟨(aup_trans O365.1 O367.1), O367.2.1, fun k T j hk (hC : k ≠ 52 ∨ (j ≠ 4 ∧ j ≠ 6 ∧ j ≠ 7)) => ((O367.2.2 k T j (O365.1 _ _ hk) (show k ≠ 52 ∨ (j ≠ 6 ∧ j ≠ 7) by omega)).trans (O365.2.2 k T j hk (show k ≠ 52 ∨ j ≠ 4 by omega)))⟩, Or.inr ⟨(by unfold ndd; rw [e365]), (rdM_up r365 (O367.2.2 52 52 3 (t52 O365.2.1) (show 52 ≠ 52 ∨ (3 ≠ 6 ∧ 3 ≠ 7) by omega)) (fun j => (O367.2.2 54 54 j (tu54 O365.2.1) (show 54 ≠ 52 ∨ (j ≠ 6 ∧ j ≠ 7) by omega))) ⟨_, hv368, by omega⟩), ft367⟩⟩
theorem s_must19 {t : Nat} {r w : Int} {τ : List Nat} {h : zh} (hg : hG τ h) (ft : ftM h r w) (hr : r ≠ 0) : qV 10 176 [some (.inl (some 52)), some (.inl (some 2000019))] h t (fun h1 => h = h1) := by
  refine qV_of ?_
  refine y_same (i := .aload_n 0) (len := 1) (r := (0, 0, 0, 0)) (pc' := 1) (ls' := [some (.inl (some 52)), some (.inl (some 2000019))]) (st' := [.inl (some 52)]) (by decide +kernel) (fun k q => by cases q) rfl ?_
  refine y_cI (i := .invokevirtual 114) (len := 3) (r := (0, 172, 12, 1502)) (nL := 1) (k := 2) (n := 1) (hs := []) (args := [.inl (some 52)]) (rest := []) (l0 := [some (.inl (some 52))]) (by decide +kernel) (Or.inr (Or.inl ⟨_, rfl⟩)) rfl rfl rfl rfl (Nat.le_of_ble_eq_true rfl) (z52 hg) rfl (qI_le (by decide) (m_fine (d := 0) hg ft)) (fun y369 qy369 hRy369 => ?_)
  obtain ⟨rfl, gy369, by369⟩ := hRy369
  have hy369 : y369.toInt = 0 := by369 (by omega)
  refine y_iT (c := .eq) (off := 20) (pc' := 24) (len := 3) (r := (0, 0, 0, 0)) (by decide +kernel) (acmpT (c := .eq) (by show _ = _; omega)) (by decide +kernel) ?_
  refine y_rV (len := 1) (r := (0, 0, 0, 0)) (nL := 2) (n9 := 2) (hs := []) (by decide +kernel) rfl ?_
  exact rfl
theorem m_must21 {t n a : Nat} {b : Nat → Int} {τ : List Nat} {h : zh} (hg : hG τ h) (rd : rdM h n a b) (han : a ≤ n) (ft : ftM h 0 (-1)) : qV 10 176 [some (.inl (some 52)), some (.inl (some 2000021))] h t (fun h1 => ∃ τ1, oF (fun k j => k ≠ 52 ∨ (j ≠ 4 ∧ j ≠ 6 ∧ j ≠ 7)) τ h τ1 h1 ∧ ((∃ a', ndd b n [124, 45] a = .inr a' ∧ a' ≤ n ∧ rdM h1 n a' b ∧ ftM h1 0 (-1)) ∨ (ndd b n [124, 45] a = .inl (1, sk b n a) ∧ rdM h1 n (sk b n a) b ∧ ftM h1 1 ((sk b n a : Nat) : Int)))) := by
  obtain ⟨⟨xn, hn, en⟩, ⟨xa, ha, ea⟩, hb, hn2⟩ := id rd
  obtain ⟨⟨xf, hf6, ef⟩, xw, hw7, ew7⟩ := id ft
  refine qV_of ?_
  refine y_same (i := .aload_n 0) (len := 1) (r := (0, 0, 0, 0)) (pc' := 1) (ls' := [some (.inl (some 52)), some (.inl (some 2000021))]) (st' := [.inl (some 52)]) (by decide +kernel) (fun k q => by cases q) rfl ?_
  refine y_cI (i := .invokevirtual 114) (len := 3) (r := (0, 172, 12, 1502)) (nL := 1) (k := 2) (n := 1) (hs := []) (args := [.inl (some 52)]) (rest := []) (l0 := [some (.inl (some 52))]) (by decide +kernel) (Or.inr (Or.inl ⟨_, rfl⟩)) rfl rfl rfl rfl (Nat.le_of_ble_eq_true rfl) (z52 hg) rfl (qI_le (by decide) (m_fine (d := 0) hg ft)) (fun y370 qy370 hRy370 => ?_)
  obtain ⟨rfl, gy370, by370⟩ := hRy370
  have hy370 : y370.toInt = 1 := gy370 rfl
  refine y_iF (c := .eq) (off := 20) (len := 3) (r := (0, 0, 0, 0)) (by decide +kernel) (acmpF (c := .eq) (by show ¬ (_ = _); omega)) ?_
  refine y_same (i := .aload_n 0) (len := 1) (r := (0, 0, 0, 0)) (pc' := 8) (ls' := [some (.inl (some 52)), some (.inl (some 2000021))]) (st' := [.inl (some 52)]) (by decide +kernel) (fun k q => by cases q) rfl ?_
  refine y_same (i := .aload_n 1) (len := 1) (r := (0, 0, 0, 0)) (pc' := 9) (ls' := [some (.inl (some 52)), some (.inl (some 2000021))]) (st' := [.inl (some 2000021), .inl (some 52)]) (by decide +kernel) (fun k q => by cases q) rfl ?_
  refine y_cI (i := .invokevirtual 135) (len := 3) (r := (0, 175, 12, 1498)) (nL := 3) (k := 2) (n := 2) (hs := []) (args := [.inl (some 52), .inl (some 2000021)]) (rest := []) (l0 := [some (.inl (some 52)), some (.inl (some 2000021)), none]) (by decide +kernel) (Or.inr (Or.inl ⟨_, rfl⟩)) rfl rfl rfl rfl (Nat.le_of_ble_eq_true rfl) (z52 hg) rfl (qI_le (by decide) (m_pass21 hg rd (by omega) ft)) (fun y371 h371 hRy371 => ?_)
  obtain ⟨τ371, O371, hD371⟩ := hRy371
  rcases hD371 with ⟨a371, e371, le371, hy371, r371⟩ | ⟨e371, hy371, r371⟩
  ·
    obtain ⟨⟨xn371y, hn371y, en371y⟩, ⟨xa371y, ha371y, ea371y⟩, hb371y, -⟩ := id r371
    refine y_iT (c := .ne) (off := 12) (pc' := 24) (len := 3) (r := (0, 0, 0, 0)) (by decide +kernel) (acmpT (c := .ne) (by show ¬ (_ = _); omega)) (by decide +kernel) ?_
    refine y_rV (len := 1) (r := (0, 0, 0, 0)) (nL := 2) (n9 := 2) (hs := []) (by decide +kernel) rfl ?_
    exact ⟨_, ⟨O371.1, O371.2.1, fun k T j hk (hC : k ≠ 52 ∨ (j ≠ 4 ∧ j ≠ 6 ∧ j ≠ 7)) => (O371.2.2 k T j hk (show k ≠ 52 ∨ j ≠ 4 by omega))⟩, Or.inl ⟨_, (by unfold ndd; rw [e371]), by omega, r371, (ftM_up ft (O371.2.2 52 52 6 (t52 hg) (show 52 ≠ 52 ∨ 6 ≠ 4 by omega)) (O371.2.2 52 52 7 (t52 hg) (show 52 ≠ 52 ∨ 7 ≠ 4 by omega)))⟩⟩
  ·
    have sl371 := sk_le (b := b) (n := n) (a := a) (by omega)
    obtain ⟨⟨xn371n, hn371n, en371n⟩, ⟨xa371n, ha371n, ea371n⟩, hb371n, -⟩ := id r371
    refine y_iF (c := .ne) (off := 12) (len := 3) (r := (0, 0, 0, 0)) (by decide +kernel) (acmpF (c := .ne) (by show _ = _; omega)) ?_
    refine y_same (i := .aload_n 0) (len := 1) (r := (0, 0, 0, 0)) (pc' := 16) (ls' := [some (.inl (some 52)), some (.inl (some 2000021))]) (st' := [.inl (some 52)]) (by decide +kernel) (fun k q => by cases q) rfl ?_
    refine y_ic (c := 1) (len := 1) (r := (0, 0, 0, 0)) (by decide +kernel) (by decide) (fun y372 hy372 => ?_)
    refine y_same (i := .aload_n 0) (len := 1) (r := (0, 0, 0, 0)) (pc' := 18) (ls' := [some (.inl (some 52)), some (.inl (some 2000021))]) (st' := [.inl (some 52), zi y372, .inl (some 52)]) (by decide +kernel) (fun k q => by cases q) rfl ?_
    refine y_get (j := 101) (len := 3) (r := (12, 4, 0, 1332)) (by decide +kernel) O371.2.1 (t52 O371.2.1) at52 rfl rfl ha371n ?_
    refine y_cV (i := .invokevirtual 139) (len := 3) (r := (0, 173, 12, 1529)) (nL := 3) (k := 0) (n := 3) (hs := []) (args := [.inl (some 52), zi y372, zi xa371n]) (rest := []) (l0 := [some (.inl (some 52)), some (zi y372), some (zi xa371n)]) (by decide +kernel) (Or.inr (Or.inl ⟨_, rfl⟩)) rfl rfl rfl rfl (Nat.le_of_ble_eq_true rfl) (z52 O371.2.1) rfl (qV_le (by decide) (m_wrong (d := 0) (r := 1) (q := (sk b n a)) O371.2.1 (ftM_up ft (O371.2.2 52 52 6 (t52 hg) (show 52 ≠ 52 ∨ 6 ≠ 4 by omega)) (O371.2.2 52 52 7 (t52 hg) (show 52 ≠ 52 ∨ 7 ≠ 4 by omega))) (by omega) (by omega) (by omega) (by omega))) (fun h373 hR373 => ?_)
    obtain ⟨τ373, O373, ft373⟩ := hR373
    obtain ⟨⟨xf373, hf373, ef373⟩, xw373, hw373, ew373⟩ := id ft373
    refine y_rV (len := 1) (r := (0, 0, 0, 0)) (nL := 2) (n9 := 2) (hs := []) (by decide +kernel) rfl ?_
    have hv374 := (O373.2.2 52 52 4 (t52 O371.2.1) (show 52 ≠ 52 ∨ (4 ≠ 6 ∧ 4 ≠ 7) by omega)).trans ha371n
    exact ⟨_, ⟨(aup_trans O371.1 O373.1), O373.2.1, fun k T j hk (hC : k ≠ 52 ∨ (j ≠ 4 ∧ j ≠ 6 ∧ j ≠ 7)) => ((O373.2.2 k T j (O371.1 _ _ hk) (show k ≠ 52 ∨ (j ≠ 6 ∧ j ≠ 7) by omega)).trans (O371.2.2 k T j hk (show k ≠ 52 ∨ j ≠ 4 by omega)))⟩, Or.inr ⟨(by unfold ndd; rw [e371]), (rdM_up r371 (O373.2.2 52 52 3 (t52 O371.2.1) (show 52 ≠ 52 ∨ (3 ≠ 6 ∧ 3 ≠ 7) by omega)) (fun j => (O373.2.2 54 54 j (tu54 O371.2.1) (show 54 ≠ 52 ∨ (j ≠ 6 ∧ j ≠ 7) by omega))) ⟨_, hv374, by omega⟩), ft373⟩⟩
theorem s_must21 {t : Nat} {r w : Int} {τ : List Nat} {h : zh} (hg : hG τ h) (ft : ftM h r w) (hr : r ≠ 0) : qV 10 176 [some (.inl (some 52)), some (.inl (some 2000021))] h t (fun h1 => h = h1) := by
  refine qV_of ?_
  refine y_same (i := .aload_n 0) (len := 1) (r := (0, 0, 0, 0)) (pc' := 1) (ls' := [some (.inl (some 52)), some (.inl (some 2000021))]) (st' := [.inl (some 52)]) (by decide +kernel) (fun k q => by cases q) rfl ?_
  refine y_cI (i := .invokevirtual 114) (len := 3) (r := (0, 172, 12, 1502)) (nL := 1) (k := 2) (n := 1) (hs := []) (args := [.inl (some 52)]) (rest := []) (l0 := [some (.inl (some 52))]) (by decide +kernel) (Or.inr (Or.inl ⟨_, rfl⟩)) rfl rfl rfl rfl (Nat.le_of_ble_eq_true rfl) (z52 hg) rfl (qI_le (by decide) (m_fine (d := 0) hg ft)) (fun y375 qy375 hRy375 => ?_)
  obtain ⟨rfl, gy375, by375⟩ := hRy375
  have hy375 : y375.toInt = 0 := by375 (by omega)
  refine y_iT (c := .eq) (off := 20) (pc' := 24) (len := 3) (r := (0, 0, 0, 0)) (by decide +kernel) (acmpT (c := .eq) (by show _ = _; omega)) (by decide +kernel) ?_
  refine y_rV (len := 1) (r := (0, 0, 0, 0)) (nL := 2) (n9 := 2) (hs := []) (by decide +kernel) rfl ?_
  exact rfl
theorem m_var {t n a : Nat} {b : Nat → Int} {τ : List Nat} {h : zh} (hg : hG τ h) (rd : rdM h n a b) (han : a ≤ n) (ft : ftM h 0 (-1)) : qI 10 177 [some (.inl (some 52)), none, none] h t (fun y h1 => ∃ τ1, oF (fun k j => k ≠ 52 ∨ (j ≠ 4 ∧ j ≠ 6 ∧ j ≠ 7)) τ h τ1 h1 ∧ ((∃ (v : Int) (a' : Nat), pvr b n a = .inr (v, a') ∧ a' ≤ n ∧ y.toInt = v ∧ 0 ≤ v ∧ v ≤ 5 ∧ rdM h1 n a' b ∧ ftM h1 0 (-1)) ∨ (pvr b n a = .inl (1, sk b n a) ∧ y.toInt = 0 ∧ rdM h1 n (sk b n a) b ∧ ftM h1 1 ((sk b n a : Nat) : Int)))) := by
  obtain ⟨⟨xn, hn, en⟩, ⟨xa, ha, ea⟩, hb, hn2⟩ := id rd
  obtain ⟨⟨xf, hf6, ef⟩, xw, hw7, ew7⟩ := id ft
  refine qI_of ?_
  refine y_same (i := .aload_n 0) (len := 1) (r := (0, 0, 0, 0)) (pc' := 1) (ls' := [some (.inl (some 52)), none, none]) (st' := [.inl (some 52)]) (by decide +kernel) (fun k q => by cases q) rfl ?_
  refine y_cI (i := .invokevirtual 114) (len := 3) (r := (0, 172, 12, 1502)) (nL := 1) (k := 2) (n := 1) (hs := []) (args := [.inl (some 52)]) (rest := []) (l0 := [some (.inl (some 52))]) (by decide +kernel) (Or.inr (Or.inl ⟨_, rfl⟩)) rfl rfl rfl rfl (Nat.le_of_ble_eq_true rfl) (z52 hg) rfl (qI_le (by decide) (m_fine (d := 0) hg ft)) (fun y376 qy376 hRy376 => ?_)
  obtain ⟨rfl, gy376, by376⟩ := hRy376
  have hy376 : y376.toInt = 1 := gy376 rfl
  refine y_iT (c := .ne) (off := 5) (pc' := 9) (len := 3) (r := (0, 0, 0, 0)) (by decide +kernel) (acmpT (c := .ne) (by show ¬ (_ = _); omega)) (by decide +kernel) ?_
  refine y_same (i := .aload_n 0) (len := 1) (r := (0, 0, 0, 0)) (pc' := 10) (ls' := [some (.inl (some 52)), none, none]) (st' := [.inl (some 52)]) (by decide +kernel) (fun k q => by cases q) rfl ?_
  refine y_cI (i := .invokevirtual 118) (len := 3) (r := (0, 171, 12, 1506)) (nL := 1) (k := 1) (n := 1) (hs := []) (args := [.inl (some 52)]) (rest := []) (l0 := [some (.inl (some 52))]) (by decide +kernel) (Or.inr (Or.inl ⟨_, rfl⟩)) rfl rfl rfl rfl (Nat.le_of_ble_eq_true rfl) (z52 hg) rfl (qI_le (by decide) (m_here hg rd (by omega))) (fun y377 h377 hRy377 => ?_)
  obtain ⟨τ377, O377, hy377, rd377⟩ := hRy377
  have sl377 := sk_le (b := b) (n := n) (a := a) (by omega)
  obtain ⟨⟨xn377, hn377, en377⟩, ⟨xa377, ha377, ea377⟩, hb377, -⟩ := id rd377
  have Bg : n ≤ sk b n a → bt b n (sk b n a) = -1 := fun q => bt_ge q
  refine y_same (i := .istore_n 1) (len := 1) (r := (0, 0, 0, 0)) (pc' := 14) (ls' := [some (.inl (some 52)), some (zi y377), none]) (st' := []) (by decide +kernel) (fun k q => by cases q) rfl ?_
  refine y_same (i := .iload_n 1) (len := 1) (r := (0, 0, 0, 0)) (pc' := 15) (ls' := [some (.inl (some 52)), some (zi y377), none]) (st' := [zi y377]) (by decide +kernel) (fun k q => by cases q) rfl ?_
  refine y_bi (c := 48) (len := 2) (r := (0, 0, 0, 0)) (by decide +kernel) (by decide) (fun y378 hy378 => ?_)
  rcases Decidable.em (y377.toInt = y378.toInt) with q379 | q379
  ·
    refine y_cT (c := .eq) (off := 31) (pc' := 48) (len := 3) (r := (0, 0, 0, 0)) (by decide +kernel) (acmpT (c := .eq) (by show _ = _; omega)) (by decide +kernel) ?_
    refine y_ic (c := 1) (len := 1) (r := (0, 0, 0, 0)) (by decide +kernel) (by decide) (fun y380 hy380 => ?_)
    refine y_goto (off := 4) (pc' := 53) (len := 3) (r := (0, 0, 0, 0)) (by decide +kernel) (by decide +kernel) ?_
    refine y_same (i := .istore_n 2) (len := 1) (r := (0, 0, 0, 0)) (pc' := 54) (ls' := [some (.inl (some 52)), some (zi y377), some (zi y380)]) (st' := []) (by decide +kernel) (fun k q => by cases q) rfl ?_
    refine y_same (i := .iload_n 2) (len := 1) (r := (0, 0, 0, 0)) (pc' := 55) (ls' := [some (.inl (some 52)), some (zi y377), some (zi y380)]) (st' := [zi y380]) (by decide +kernel) (fun k q => by cases q) rfl ?_
    refine y_iT (c := .ne) (off := 15) (pc' := 70) (len := 3) (r := (0, 0, 0, 0)) (by decide +kernel) (acmpT (c := .ne) (by show ¬ (_ = _); omega)) (by decide +kernel) ?_
    refine y_same (i := .aload_n 0) (len := 1) (r := (0, 0, 0, 0)) (pc' := 71) (ls' := [some (.inl (some 52)), some (zi y377), some (zi y380)]) (st' := [.inl (some 52)]) (by decide +kernel) (fun k q => by cases q) rfl ?_
    refine y_same (i := .dup) (len := 1) (r := (0, 0, 0, 0)) (pc' := 72) (ls' := [some (.inl (some 52)), some (zi y377), some (zi y380)]) (st' := [.inl (some 52), .inl (some 52)]) (by decide +kernel) (fun k q => by cases q) rfl ?_
    refine y_get (j := 101) (len := 3) (r := (12, 4, 0, 1332)) (by decide +kernel) O377.2.1 (t52 O377.2.1) at52 rfl rfl ha377 ?_
    refine y_ic (c := 1) (len := 1) (r := (0, 0, 0, 0)) (by decide +kernel) (by decide) (fun y381 hy381 => ?_)
    refine y_add (len := 1) (r := (0, 0, 0, 0)) (by decide +kernel) (by omega) (by omega) (fun y382 hy382 => ?_)
    refine y_put (j := 101) (lo := 0) (hi := 200) (len := 3) (r := (12, 4, 0, 1332)) (by decide +kernel) O377.2.1 (t52 O377.2.1) at52 rfl rfl (by decide) rfl (by omega) (by omega) rfl (fun h383 hg383 hl383 hs383 ho383 => ?_)
    have ho383 : hO 52 4 h377 h383 := ho383
    have hs383 : hsl h383 52 4 = some (zi y382) := hs383
    refine y_same (i := .iload_n 2) (len := 1) (r := (0, 0, 0, 0)) (pc' := 81) (ls' := [some (.inl (some 52)), some (zi y377), some (zi y380)]) (st' := [zi y380]) (by decide +kernel) (fun k q => by cases q) rfl ?_
    refine y_iF (c := .eq) (off := 9) (len := 3) (r := (0, 0, 0, 0)) (by decide +kernel) (acmpF (c := .eq) (by show ¬ (_ = _); omega)) ?_
    refine y_same (i := .iload_n 1) (len := 1) (r := (0, 0, 0, 0)) (pc' := 85) (ls' := [some (.inl (some 52)), some (zi y377), some (zi y380)]) (st' := [zi y377]) (by decide +kernel) (fun k q => by cases q) rfl ?_
    refine y_bi (c := 48) (len := 2) (r := (0, 0, 0, 0)) (by decide +kernel) (by decide) (fun y384 hy384 => ?_)
    refine y_cF (c := .ne) (off := 7) (len := 3) (r := (0, 0, 0, 0)) (by decide +kernel) (acmpF (c := .ne) (by show _ = _; omega)) ?_
    refine y_ic (c := 0) (len := 1) (r := (0, 0, 0, 0)) (by decide +kernel) (by decide) (fun y385 hy385 => ?_)
    refine y_goto (off := 9) (pc' := 100) (len := 3) (r := (0, 0, 0, 0)) (by decide +kernel) (by decide +kernel) ?_
    refine y_rI (len := 1) (r := (0, 0, 0, 0)) (nL := 3) (k := 1) (n9 := 1) (hs := []) (by decide +kernel) rfl rfl ?_
    exact ⟨_, ⟨O377.1, hg383, fun k T j hk (hC : k ≠ 52 ∨ (j ≠ 4 ∧ j ≠ 6 ∧ j ≠ 7)) => ((ho383 k j (by omega)).trans (O377.2.2 k T j hk (show k ≠ 52 ∨ j ≠ 4 by omega)))⟩, Or.inl ⟨0, sk b n a + 1, pv_0 (by omega), by omega, by omega, by omega, by omega, (rdM_up rd377 (ho383 52 3 (Or.inr (by omega))) (fun j => (ho383 54 j (Or.inl (by omega)))) ⟨_, hs383, by omega⟩), (ftM_up ft ((ho383 52 6 (Or.inr (by omega))).trans (O377.2.2 52 52 6 (t52 hg) (show 52 ≠ 52 ∨ 6 ≠ 4 by omega))) ((ho383 52 7 (Or.inr (by omega))).trans (O377.2.2 52 52 7 (t52 hg) (show 52 ≠ 52 ∨ 7 ≠ 4 by omega))))⟩⟩
  ·
    refine y_cF (c := .eq) (off := 31) (len := 3) (r := (0, 0, 0, 0)) (by decide +kernel) (acmpF (c := .eq) (by show ¬ (_ = _); omega)) ?_
    refine y_same (i := .iload_n 1) (len := 1) (r := (0, 0, 0, 0)) (pc' := 21) (ls' := [some (.inl (some 52)), some (zi y377), none]) (st' := [zi y377]) (by decide +kernel) (fun k q => by cases q) rfl ?_
    refine y_bi (c := 97) (len := 2) (r := (0, 0, 0, 0)) (by decide +kernel) (by decide) (fun y386 hy386 => ?_)
    rcases Decidable.em (y377.toInt < y386.toInt) with q387 | q387
    ·
      refine y_cT (c := .lt) (off := 29) (pc' := 52) (len := 3) (r := (0, 0, 0, 0)) (by decide +kernel) (acmpT (c := .lt) (by show _ < _; omega)) (by decide +kernel) ?_
      refine y_ic (c := 0) (len := 1) (r := (0, 0, 0, 0)) (by decide +kernel) (by decide) (fun y388 hy388 => ?_)
      refine y_same (i := .istore_n 2) (len := 1) (r := (0, 0, 0, 0)) (pc' := 54) (ls' := [some (.inl (some 52)), some (zi y377), some (zi y388)]) (st' := []) (by decide +kernel) (fun k q => by cases q) rfl ?_
      refine y_same (i := .iload_n 2) (len := 1) (r := (0, 0, 0, 0)) (pc' := 55) (ls' := [some (.inl (some 52)), some (zi y377), some (zi y388)]) (st' := [zi y388]) (by decide +kernel) (fun k q => by cases q) rfl ?_
      refine y_iF (c := .ne) (off := 15) (len := 3) (r := (0, 0, 0, 0)) (by decide +kernel) (acmpF (c := .ne) (by show _ = _; omega)) ?_
      refine y_same (i := .aload_n 0) (len := 1) (r := (0, 0, 0, 0)) (pc' := 59) (ls' := [some (.inl (some 52)), some (zi y377), some (zi y388)]) (st' := [.inl (some 52)]) (by decide +kernel) (fun k q => by cases q) rfl ?_
      refine y_ic (c := 1) (len := 1) (r := (0, 0, 0, 0)) (by decide +kernel) (by decide) (fun y389 hy389 => ?_)
      refine y_same (i := .aload_n 0) (len := 1) (r := (0, 0, 0, 0)) (pc' := 61) (ls' := [some (.inl (some 52)), some (zi y377), some (zi y388)]) (st' := [.inl (some 52), zi y389, .inl (some 52)]) (by decide +kernel) (fun k q => by cases q) rfl ?_
      refine y_get (j := 101) (len := 3) (r := (12, 4, 0, 1332)) (by decide +kernel) O377.2.1 (t52 O377.2.1) at52 rfl rfl ha377 ?_
      refine y_cV (i := .invokevirtual 139) (len := 3) (r := (0, 173, 12, 1529)) (nL := 3) (k := 0) (n := 3) (hs := []) (args := [.inl (some 52), zi y389, zi xa377]) (rest := []) (l0 := [some (.inl (some 52)), some (zi y389), some (zi xa377)]) (by decide +kernel) (Or.inr (Or.inl ⟨_, rfl⟩)) rfl rfl rfl rfl (Nat.le_of_ble_eq_true rfl) (z52 O377.2.1) rfl (qV_le (by decide) (m_wrong (d := 0) (r := 1) (q := (sk b n a)) O377.2.1 (ftM_up ft (O377.2.2 52 52 6 (t52 hg) (show 52 ≠ 52 ∨ 6 ≠ 4 by omega)) (O377.2.2 52 52 7 (t52 hg) (show 52 ≠ 52 ∨ 7 ≠ 4 by omega))) (by omega) (by omega) (by omega) (by omega))) (fun h390 hR390 => ?_)
      obtain ⟨τ390, O390, ft390⟩ := hR390
      obtain ⟨⟨xf390, hf390, ef390⟩, xw390, hw390, ew390⟩ := id ft390
      refine y_goto (off := 13) (pc' := 80) (len := 3) (r := (0, 0, 0, 0)) (by decide +kernel) (by decide +kernel) ?_
      refine y_same (i := .iload_n 2) (len := 1) (r := (0, 0, 0, 0)) (pc' := 81) (ls' := [some (.inl (some 52)), some (zi y377), some (zi y388)]) (st' := [zi y388]) (by decide +kernel) (fun k q => by cases q) rfl ?_
      refine y_iT (c := .eq) (off := 9) (pc' := 90) (len := 3) (r := (0, 0, 0, 0)) (by decide +kernel) (acmpT (c := .eq) (by show _ = _; omega)) (by decide +kernel) ?_
      refine y_ic (c := 0) (len := 1) (r := (0, 0, 0, 0)) (by decide +kernel) (by decide) (fun y391 hy391 => ?_)
      refine y_goto (off := 9) (pc' := 100) (len := 3) (r := (0, 0, 0, 0)) (by decide +kernel) (by decide +kernel) ?_
      refine y_rI (len := 1) (r := (0, 0, 0, 0)) (nL := 3) (k := 1) (n9 := 1) (hs := []) (by decide +kernel) rfl rfl ?_
      have hv392 := (O390.2.2 52 52 4 (t52 O377.2.1) (show 52 ≠ 52 ∨ (4 ≠ 6 ∧ 4 ≠ 7) by omega)).trans ha377
      exact ⟨_, ⟨(aup_trans O377.1 O390.1), O390.2.1, fun k T j hk (hC : k ≠ 52 ∨ (j ≠ 4 ∧ j ≠ 6 ∧ j ≠ 7)) => ((O390.2.2 k T j (O377.1 _ _ hk) (show k ≠ 52 ∨ (j ≠ 6 ∧ j ≠ 7) by omega)).trans (O377.2.2 k T j hk (show k ≠ 52 ∨ j ≠ 4 by omega)))⟩, Or.inr ⟨pv_f (by omega) (by omega), by omega, (rdM_up rd377 (O390.2.2 52 52 3 (t52 O377.2.1) (show 52 ≠ 52 ∨ (3 ≠ 6 ∧ 3 ≠ 7) by omega)) (fun j => (O390.2.2 54 54 j (tu54 O377.2.1) (show 54 ≠ 52 ∨ (j ≠ 6 ∧ j ≠ 7) by omega))) ⟨_, hv392, by omega⟩), ft390⟩⟩
    ·
      refine y_cF (c := .lt) (off := 29) (len := 3) (r := (0, 0, 0, 0)) (by decide +kernel) (acmpF (c := .lt) (by show _ ≤ _; omega)) ?_
      refine y_same (i := .iload_n 1) (len := 1) (r := (0, 0, 0, 0)) (pc' := 27) (ls' := [some (.inl (some 52)), some (zi y377), none]) (st' := [zi y377]) (by decide +kernel) (fun k q => by cases q) rfl ?_
      refine y_bi (c := 102) (len := 2) (r := (0, 0, 0, 0)) (by decide +kernel) (by decide) (fun y393 hy393 => ?_)
      rcases Decidable.em (y377.toInt ≥ y393.toInt) with q394 | q394
      ·
        refine y_cT (c := .ge) (off := 23) (pc' := 52) (len := 3) (r := (0, 0, 0, 0)) (by decide +kernel) (acmpT (c := .ge) (by show _ ≤ _; omega)) (by decide +kernel) ?_
        refine y_ic (c := 0) (len := 1) (r := (0, 0, 0, 0)) (by decide +kernel) (by decide) (fun y395 hy395 => ?_)
        refine y_same (i := .istore_n 2) (len := 1) (r := (0, 0, 0, 0)) (pc' := 54) (ls' := [some (.inl (some 52)), some (zi y377), some (zi y395)]) (st' := []) (by decide +kernel) (fun k q => by cases q) rfl ?_
        refine y_same (i := .iload_n 2) (len := 1) (r := (0, 0, 0, 0)) (pc' := 55) (ls' := [some (.inl (some 52)), some (zi y377), some (zi y395)]) (st' := [zi y395]) (by decide +kernel) (fun k q => by cases q) rfl ?_
        refine y_iF (c := .ne) (off := 15) (len := 3) (r := (0, 0, 0, 0)) (by decide +kernel) (acmpF (c := .ne) (by show _ = _; omega)) ?_
        refine y_same (i := .aload_n 0) (len := 1) (r := (0, 0, 0, 0)) (pc' := 59) (ls' := [some (.inl (some 52)), some (zi y377), some (zi y395)]) (st' := [.inl (some 52)]) (by decide +kernel) (fun k q => by cases q) rfl ?_
        refine y_ic (c := 1) (len := 1) (r := (0, 0, 0, 0)) (by decide +kernel) (by decide) (fun y396 hy396 => ?_)
        refine y_same (i := .aload_n 0) (len := 1) (r := (0, 0, 0, 0)) (pc' := 61) (ls' := [some (.inl (some 52)), some (zi y377), some (zi y395)]) (st' := [.inl (some 52), zi y396, .inl (some 52)]) (by decide +kernel) (fun k q => by cases q) rfl ?_
        refine y_get (j := 101) (len := 3) (r := (12, 4, 0, 1332)) (by decide +kernel) O377.2.1 (t52 O377.2.1) at52 rfl rfl ha377 ?_
        refine y_cV (i := .invokevirtual 139) (len := 3) (r := (0, 173, 12, 1529)) (nL := 3) (k := 0) (n := 3) (hs := []) (args := [.inl (some 52), zi y396, zi xa377]) (rest := []) (l0 := [some (.inl (some 52)), some (zi y396), some (zi xa377)]) (by decide +kernel) (Or.inr (Or.inl ⟨_, rfl⟩)) rfl rfl rfl rfl (Nat.le_of_ble_eq_true rfl) (z52 O377.2.1) rfl (qV_le (by decide) (m_wrong (d := 0) (r := 1) (q := (sk b n a)) O377.2.1 (ftM_up ft (O377.2.2 52 52 6 (t52 hg) (show 52 ≠ 52 ∨ 6 ≠ 4 by omega)) (O377.2.2 52 52 7 (t52 hg) (show 52 ≠ 52 ∨ 7 ≠ 4 by omega))) (by omega) (by omega) (by omega) (by omega))) (fun h397 hR397 => ?_)
        obtain ⟨τ397, O397, ft397⟩ := hR397
        obtain ⟨⟨xf397, hf397, ef397⟩, xw397, hw397, ew397⟩ := id ft397
        refine y_goto (off := 13) (pc' := 80) (len := 3) (r := (0, 0, 0, 0)) (by decide +kernel) (by decide +kernel) ?_
        refine y_same (i := .iload_n 2) (len := 1) (r := (0, 0, 0, 0)) (pc' := 81) (ls' := [some (.inl (some 52)), some (zi y377), some (zi y395)]) (st' := [zi y395]) (by decide +kernel) (fun k q => by cases q) rfl ?_
        refine y_iT (c := .eq) (off := 9) (pc' := 90) (len := 3) (r := (0, 0, 0, 0)) (by decide +kernel) (acmpT (c := .eq) (by show _ = _; omega)) (by decide +kernel) ?_
        refine y_ic (c := 0) (len := 1) (r := (0, 0, 0, 0)) (by decide +kernel) (by decide) (fun y398 hy398 => ?_)
        refine y_goto (off := 9) (pc' := 100) (len := 3) (r := (0, 0, 0, 0)) (by decide +kernel) (by decide +kernel) ?_
        refine y_rI (len := 1) (r := (0, 0, 0, 0)) (nL := 3) (k := 1) (n9 := 1) (hs := []) (by decide +kernel) rfl rfl ?_
        have hv399 := (O397.2.2 52 52 4 (t52 O377.2.1) (show 52 ≠ 52 ∨ (4 ≠ 6 ∧ 4 ≠ 7) by omega)).trans ha377
        exact ⟨_, ⟨(aup_trans O377.1 O397.1), O397.2.1, fun k T j hk (hC : k ≠ 52 ∨ (j ≠ 4 ∧ j ≠ 6 ∧ j ≠ 7)) => ((O397.2.2 k T j (O377.1 _ _ hk) (show k ≠ 52 ∨ (j ≠ 6 ∧ j ≠ 7) by omega)).trans (O377.2.2 k T j hk (show k ≠ 52 ∨ j ≠ 4 by omega)))⟩, Or.inr ⟨pv_f (by omega) (by omega), by omega, (rdM_up rd377 (O397.2.2 52 52 3 (t52 O377.2.1) (show 52 ≠ 52 ∨ (3 ≠ 6 ∧ 3 ≠ 7) by omega)) (fun j => (O397.2.2 54 54 j (tu54 O377.2.1) (show 54 ≠ 52 ∨ (j ≠ 6 ∧ j ≠ 7) by omega))) ⟨_, hv399, by omega⟩), ft397⟩⟩
      ·
        refine y_cF (c := .ge) (off := 23) (len := 3) (r := (0, 0, 0, 0)) (by decide +kernel) (acmpF (c := .ge) (by show _ < _; omega)) ?_
        refine y_same (i := .aload_n 0) (len := 1) (r := (0, 0, 0, 0)) (pc' := 33) (ls' := [some (.inl (some 52)), some (zi y377), none]) (st' := [.inl (some 52)]) (by decide +kernel) (fun k q => by cases q) rfl ?_
        refine y_same (i := .aload_n 0) (len := 1) (r := (0, 0, 0, 0)) (pc' := 34) (ls' := [some (.inl (some 52)), some (zi y377), none]) (st' := [.inl (some 52), .inl (some 52)]) (by decide +kernel) (fun k q => by cases q) rfl ?_
        refine y_get (j := 101) (len := 3) (r := (12, 4, 0, 1332)) (by decide +kernel) O377.2.1 (t52 O377.2.1) at52 rfl rfl ha377 ?_
        refine y_ic (c := 1) (len := 1) (r := (0, 0, 0, 0)) (by decide +kernel) (by decide) (fun y400 hy400 => ?_)
        refine y_add (len := 1) (r := (0, 0, 0, 0)) (by decide +kernel) (by omega) (by omega) (fun y401 hy401 => ?_)
        refine y_cI (i := .invokevirtual 104) (len := 3) (r := (0, 170, 12, 1510)) (nL := 2) (k := 1) (n := 2) (hs := []) (args := [.inl (some 52), zi y401]) (rest := []) (l0 := [some (.inl (some 52)), some (zi y401)]) (by decide +kernel) (Or.inr (Or.inl ⟨_, rfl⟩)) rfl rfl rfl rfl (Nat.le_of_ble_eq_true rfl) (z52 O377.2.1) rfl (qI_le (by decide) (m_byte (d := 0) (k := ((sk b n a) + 1)) O377.2.1 rd377 (by omega))) (fun y402 qy402 hRy402 => ?_)
        obtain ⟨rfl, hy402⟩ := hRy402
        refine y_cI (i := .invokestatic 131) (len := 3) (r := (1, 174, 12, 1516)) (nL := 1) (k := 2) (n := 1) (hs := []) (args := [zi y402]) (rest := []) (l0 := [some (zi y402)]) (by decide +kernel) (Or.inl ⟨_, rfl⟩) rfl rfl rfl rfl (Nat.le_of_ble_eq_true rfl) rfl rfl (qI_le (by decide) (m_small (d := 0))) (fun y403 qy403 hRy403 => ?_)
        obtain ⟨rfl, gy403, by403⟩ := hRy403
        rcases Decidable.em (y403.toInt ≠ 0) with q404 | q404
        ·
          refine y_iT (c := .ne) (off := 7) (pc' := 52) (len := 3) (r := (0, 0, 0, 0)) (by decide +kernel) (acmpT (c := .ne) (by show ¬ (_ = _); omega)) (by decide +kernel) ?_
          refine y_ic (c := 0) (len := 1) (r := (0, 0, 0, 0)) (by decide +kernel) (by decide) (fun y405 hy405 => ?_)
          refine y_same (i := .istore_n 2) (len := 1) (r := (0, 0, 0, 0)) (pc' := 54) (ls' := [some (.inl (some 52)), some (zi y377), some (zi y405)]) (st' := []) (by decide +kernel) (fun k q => by cases q) rfl ?_
          refine y_same (i := .iload_n 2) (len := 1) (r := (0, 0, 0, 0)) (pc' := 55) (ls' := [some (.inl (some 52)), some (zi y377), some (zi y405)]) (st' := [zi y405]) (by decide +kernel) (fun k q => by cases q) rfl ?_
          refine y_iF (c := .ne) (off := 15) (len := 3) (r := (0, 0, 0, 0)) (by decide +kernel) (acmpF (c := .ne) (by show _ = _; omega)) ?_
          refine y_same (i := .aload_n 0) (len := 1) (r := (0, 0, 0, 0)) (pc' := 59) (ls' := [some (.inl (some 52)), some (zi y377), some (zi y405)]) (st' := [.inl (some 52)]) (by decide +kernel) (fun k q => by cases q) rfl ?_
          refine y_ic (c := 1) (len := 1) (r := (0, 0, 0, 0)) (by decide +kernel) (by decide) (fun y406 hy406 => ?_)
          refine y_same (i := .aload_n 0) (len := 1) (r := (0, 0, 0, 0)) (pc' := 61) (ls' := [some (.inl (some 52)), some (zi y377), some (zi y405)]) (st' := [.inl (some 52), zi y406, .inl (some 52)]) (by decide +kernel) (fun k q => by cases q) rfl ?_
          refine y_get (j := 101) (len := 3) (r := (12, 4, 0, 1332)) (by decide +kernel) O377.2.1 (t52 O377.2.1) at52 rfl rfl ha377 ?_
          refine y_cV (i := .invokevirtual 139) (len := 3) (r := (0, 173, 12, 1529)) (nL := 3) (k := 0) (n := 3) (hs := []) (args := [.inl (some 52), zi y406, zi xa377]) (rest := []) (l0 := [some (.inl (some 52)), some (zi y406), some (zi xa377)]) (by decide +kernel) (Or.inr (Or.inl ⟨_, rfl⟩)) rfl rfl rfl rfl (Nat.le_of_ble_eq_true rfl) (z52 O377.2.1) rfl (qV_le (by decide) (m_wrong (d := 0) (r := 1) (q := (sk b n a)) O377.2.1 (ftM_up ft (O377.2.2 52 52 6 (t52 hg) (show 52 ≠ 52 ∨ 6 ≠ 4 by omega)) (O377.2.2 52 52 7 (t52 hg) (show 52 ≠ 52 ∨ 7 ≠ 4 by omega))) (by omega) (by omega) (by omega) (by omega))) (fun h407 hR407 => ?_)
          obtain ⟨τ407, O407, ft407⟩ := hR407
          obtain ⟨⟨xf407, hf407, ef407⟩, xw407, hw407, ew407⟩ := id ft407
          refine y_goto (off := 13) (pc' := 80) (len := 3) (r := (0, 0, 0, 0)) (by decide +kernel) (by decide +kernel) ?_
          refine y_same (i := .iload_n 2) (len := 1) (r := (0, 0, 0, 0)) (pc' := 81) (ls' := [some (.inl (some 52)), some (zi y377), some (zi y405)]) (st' := [zi y405]) (by decide +kernel) (fun k q => by cases q) rfl ?_
          refine y_iT (c := .eq) (off := 9) (pc' := 90) (len := 3) (r := (0, 0, 0, 0)) (by decide +kernel) (acmpT (c := .eq) (by show _ = _; omega)) (by decide +kernel) ?_
          refine y_ic (c := 0) (len := 1) (r := (0, 0, 0, 0)) (by decide +kernel) (by decide) (fun y408 hy408 => ?_)
          refine y_goto (off := 9) (pc' := 100) (len := 3) (r := (0, 0, 0, 0)) (by decide +kernel) (by decide +kernel) ?_
          refine y_rI (len := 1) (r := (0, 0, 0, 0)) (nL := 3) (k := 1) (n9 := 1) (hs := []) (by decide +kernel) rfl rfl ?_
          have hv409 := (O407.2.2 52 52 4 (t52 O377.2.1) (show 52 ≠ 52 ∨ (4 ≠ 6 ∧ 4 ≠ 7) by omega)).trans ha377
          exact ⟨_, ⟨(aup_trans O377.1 O407.1), O407.2.1, fun k T j hk (hC : k ≠ 52 ∨ (j ≠ 4 ∧ j ≠ 6 ∧ j ≠ 7)) => ((O407.2.2 k T j (O377.1 _ _ hk) (show k ≠ 52 ∨ (j ≠ 6 ∧ j ≠ 7) by omega)).trans (O377.2.2 k T j hk (show k ≠ 52 ∨ j ≠ 4 by omega)))⟩, Or.inr ⟨pv_f (by omega) (by omega), by omega, (rdM_up rd377 (O407.2.2 52 52 3 (t52 O377.2.1) (show 52 ≠ 52 ∨ (3 ≠ 6 ∧ 3 ≠ 7) by omega)) (fun j => (O407.2.2 54 54 j (tu54 O377.2.1) (show 54 ≠ 52 ∨ (j ≠ 6 ∧ j ≠ 7) by omega))) ⟨_, hv409, by omega⟩), ft407⟩⟩
        ·
          refine y_iF (c := .ne) (off := 7) (len := 3) (r := (0, 0, 0, 0)) (by decide +kernel) (acmpF (c := .ne) (by show _ = _; omega)) ?_
          refine y_ic (c := 1) (len := 1) (r := (0, 0, 0, 0)) (by decide +kernel) (by decide) (fun y410 hy410 => ?_)
          refine y_goto (off := 4) (pc' := 53) (len := 3) (r := (0, 0, 0, 0)) (by decide +kernel) (by decide +kernel) ?_
          refine y_same (i := .istore_n 2) (len := 1) (r := (0, 0, 0, 0)) (pc' := 54) (ls' := [some (.inl (some 52)), some (zi y377), some (zi y410)]) (st' := []) (by decide +kernel) (fun k q => by cases q) rfl ?_
          refine y_same (i := .iload_n 2) (len := 1) (r := (0, 0, 0, 0)) (pc' := 55) (ls' := [some (.inl (some 52)), some (zi y377), some (zi y410)]) (st' := [zi y410]) (by decide +kernel) (fun k q => by cases q) rfl ?_
          refine y_iT (c := .ne) (off := 15) (pc' := 70) (len := 3) (r := (0, 0, 0, 0)) (by decide +kernel) (acmpT (c := .ne) (by show ¬ (_ = _); omega)) (by decide +kernel) ?_
          refine y_same (i := .aload_n 0) (len := 1) (r := (0, 0, 0, 0)) (pc' := 71) (ls' := [some (.inl (some 52)), some (zi y377), some (zi y410)]) (st' := [.inl (some 52)]) (by decide +kernel) (fun k q => by cases q) rfl ?_
          refine y_same (i := .dup) (len := 1) (r := (0, 0, 0, 0)) (pc' := 72) (ls' := [some (.inl (some 52)), some (zi y377), some (zi y410)]) (st' := [.inl (some 52), .inl (some 52)]) (by decide +kernel) (fun k q => by cases q) rfl ?_
          refine y_get (j := 101) (len := 3) (r := (12, 4, 0, 1332)) (by decide +kernel) O377.2.1 (t52 O377.2.1) at52 rfl rfl ha377 ?_
          refine y_ic (c := 1) (len := 1) (r := (0, 0, 0, 0)) (by decide +kernel) (by decide) (fun y411 hy411 => ?_)
          refine y_add (len := 1) (r := (0, 0, 0, 0)) (by decide +kernel) (by omega) (by omega) (fun y412 hy412 => ?_)
          refine y_put (j := 101) (lo := 0) (hi := 200) (len := 3) (r := (12, 4, 0, 1332)) (by decide +kernel) O377.2.1 (t52 O377.2.1) at52 rfl rfl (by decide) rfl (by omega) (by omega) rfl (fun h413 hg413 hl413 hs413 ho413 => ?_)
          have ho413 : hO 52 4 h377 h413 := ho413
          have hs413 : hsl h413 52 4 = some (zi y412) := hs413
          refine y_same (i := .iload_n 2) (len := 1) (r := (0, 0, 0, 0)) (pc' := 81) (ls' := [some (.inl (some 52)), some (zi y377), some (zi y410)]) (st' := [zi y410]) (by decide +kernel) (fun k q => by cases q) rfl ?_
          refine y_iF (c := .eq) (off := 9) (len := 3) (r := (0, 0, 0, 0)) (by decide +kernel) (acmpF (c := .eq) (by show ¬ (_ = _); omega)) ?_
          refine y_same (i := .iload_n 1) (len := 1) (r := (0, 0, 0, 0)) (pc' := 85) (ls' := [some (.inl (some 52)), some (zi y377), some (zi y410)]) (st' := [zi y377]) (by decide +kernel) (fun k q => by cases q) rfl ?_
          refine y_bi (c := 48) (len := 2) (r := (0, 0, 0, 0)) (by decide +kernel) (by decide) (fun y414 hy414 => ?_)
          refine y_cT (c := .ne) (off := 7) (pc' := 94) (len := 3) (r := (0, 0, 0, 0)) (by decide +kernel) (acmpT (c := .ne) (by show ¬ (_ = _); omega)) (by decide +kernel) ?_
          refine y_same (i := .iload_n 1) (len := 1) (r := (0, 0, 0, 0)) (pc' := 95) (ls' := [some (.inl (some 52)), some (zi y377), some (zi y410)]) (st' := [zi y377]) (by decide +kernel) (fun k q => by cases q) rfl ?_
          refine y_bi (c := 97) (len := 2) (r := (0, 0, 0, 0)) (by decide +kernel) (by decide) (fun y415 hy415 => ?_)
          refine y_sub (len := 1) (r := (0, 0, 0, 0)) (by decide +kernel) (by omega) (by omega) (fun y416 hy416 => ?_)
          refine y_ic (c := 1) (len := 1) (r := (0, 0, 0, 0)) (by decide +kernel) (by decide) (fun y417 hy417 => ?_)
          refine y_add (len := 1) (r := (0, 0, 0, 0)) (by decide +kernel) (by omega) (by omega) (fun y418 hy418 => ?_)
          refine y_rI (len := 1) (r := (0, 0, 0, 0)) (nL := 3) (k := 1) (n9 := 1) (hs := []) (by decide +kernel) rfl rfl ?_
          exact ⟨_, ⟨O377.1, hg413, fun k T j hk (hC : k ≠ 52 ∨ (j ≠ 4 ∧ j ≠ 6 ∧ j ≠ 7)) => ((ho413 k j (by omega)).trans (O377.2.2 k T j hk (show k ≠ 52 ∨ j ≠ 4 by omega)))⟩, Or.inl ⟨_, sk b n a + 1, pv_v (by omega) (by omega) (by omega), by omega, by omega, by omega, by omega, (rdM_up rd377 (ho413 52 3 (Or.inr (by omega))) (fun j => (ho413 54 j (Or.inl (by omega)))) ⟨_, hs413, by omega⟩), (ftM_up ft ((ho413 52 6 (Or.inr (by omega))).trans (O377.2.2 52 52 6 (t52 hg) (show 52 ≠ 52 ∨ 6 ≠ 4 by omega))) ((ho413 52 7 (Or.inr (by omega))).trans (O377.2.2 52 52 7 (t52 hg) (show 52 ≠ 52 ∨ 7 ≠ 4 by omega))))⟩⟩
theorem s_var {t : Nat} {r w : Int} {τ : List Nat} {h : zh} (hg : hG τ h) (ft : ftM h r w) (hr : r ≠ 0) : qI 10 177 [some (.inl (some 52)), none, none] h t (fun y h1 => h = h1 ∧ y.toInt = 0) := by
  refine qI_of ?_
  refine y_same (i := .aload_n 0) (len := 1) (r := (0, 0, 0, 0)) (pc' := 1) (ls' := [some (.inl (some 52)), none, none]) (st' := [.inl (some 52)]) (by decide +kernel) (fun k q => by cases q) rfl ?_
  refine y_cI (i := .invokevirtual 114) (len := 3) (r := (0, 172, 12, 1502)) (nL := 1) (k := 2) (n := 1) (hs := []) (args := [.inl (some 52)]) (rest := []) (l0 := [some (.inl (some 52))]) (by decide +kernel) (Or.inr (Or.inl ⟨_, rfl⟩)) rfl rfl rfl rfl (Nat.le_of_ble_eq_true rfl) (z52 hg) rfl (qI_le (by decide) (m_fine (d := 0) hg ft)) (fun y419 qy419 hRy419 => ?_)
  obtain ⟨rfl, gy419, by419⟩ := hRy419
  have hy419 : y419.toInt = 0 := by419 (by omega)
  refine y_iF (c := .ne) (off := 5) (len := 3) (r := (0, 0, 0, 0)) (by decide +kernel) (acmpF (c := .ne) (by show _ = _; omega)) ?_
  refine y_ic (c := 0) (len := 1) (r := (0, 0, 0, 0)) (by decide +kernel) (by decide) (fun y420 hy420 => ?_)
  refine y_rI (len := 1) (r := (0, 0, 0, 0)) (nL := 3) (k := 1) (n9 := 1) (hs := []) (by decide +kernel) rfl rfl ?_
  exact ⟨rfl, by omega⟩
theorem m_parts0 {d t : Nat} {τ : List Nat} {h : zh} {x y : Int32} (hg : hG τ h) (hx : x.toInt = 0) (hy : hsl h 56 0 = some (zi y)) : qI (d + 1) 166 [some (.inl (some 56)), some (zi x)] h t (fun z h1 => h = h1 ∧ y = z) := by
  refine qI_of ?_
  refine y_same (i := .aload_n 0) (len := 1) (r := (0, 0, 0, 0)) (pc' := 1) (ls' := [some (.inl (some 56)), some (zi x)]) (st' := [.inl (some 56)]) (by decide +kernel) (fun k q => by cases q) rfl ?_
  refine y_bi (c := 46) (len := 2) (r := (0, 0, 0, 0)) (by decide +kernel) (by decide) (fun y421 hy421 => ?_)
  refine y_same (i := .iload_n 1) (len := 1) (r := (0, 0, 0, 0)) (pc' := 4) (ls' := [some (.inl (some 56)), some (zi x)]) (st' := [zi x, zi y421, .inl (some 56)]) (by decide +kernel) (fun k q => by cases q) rfl ?_
  refine y_mul (c := 46) (len := 1) (r := (0, 0, 0, 0)) (by decide +kernel) (by omega) (by omega) (by omega) (fun y422 hy422 => ?_)
  refine y_ial (i := 0) (len := 1) (r := (0, 0, 0, 0)) (by decide +kernel) hg (tu56 hg) at56 (by omega) hy ?_
  refine y_rI (len := 1) (r := (0, 0, 0, 0)) (nL := 2) (k := 1) (n9 := 2) (hs := []) (by decide +kernel) rfl rfl ?_
  exact ⟨rfl, rfl⟩
theorem m_claims0 {d t : Nat} {τ : List Nat} {h : zh} {x y : Int32} (hg : hG τ h) (hx : x.toInt = 0) (hy : hsl h 56 1 = some (zi y)) : qI (d + 1) 167 [some (.inl (some 56)), some (zi x)] h t (fun z h1 => h = h1 ∧ y = z) := by
  refine qI_of ?_
  refine y_same (i := .aload_n 0) (len := 1) (r := (0, 0, 0, 0)) (pc' := 1) (ls' := [some (.inl (some 56)), some (zi x)]) (st' := [.inl (some 56)]) (by decide +kernel) (fun k q => by cases q) rfl ?_
  refine y_bi (c := 46) (len := 2) (r := (0, 0, 0, 0)) (by decide +kernel) (by decide) (fun y423 hy423 => ?_)
  refine y_same (i := .iload_n 1) (len := 1) (r := (0, 0, 0, 0)) (pc' := 4) (ls' := [some (.inl (some 56)), some (zi x)]) (st' := [zi x, zi y423, .inl (some 56)]) (by decide +kernel) (fun k q => by cases q) rfl ?_
  refine y_mul (c := 46) (len := 1) (r := (0, 0, 0, 0)) (by decide +kernel) (by omega) (by omega) (by omega) (fun y424 hy424 => ?_)
  refine y_ic (c := 1) (len := 1) (r := (0, 0, 0, 0)) (by decide +kernel) (by decide) (fun y425 hy425 => ?_)
  refine y_add (len := 1) (r := (0, 0, 0, 0)) (by decide +kernel) (by omega) (by omega) (fun y426 hy426 => ?_)
  refine y_ial (i := 1) (len := 1) (r := (0, 0, 0, 0)) (by decide +kernel) hg (tu56 hg) at56 (by omega) hy ?_
  refine y_rI (len := 1) (r := (0, 0, 0, 0)) (nL := 2) (k := 1) (n9 := 2) (hs := []) (by decide +kernel) rfl rfl ?_
  exact ⟨rfl, rfl⟩
theorem m_partAt0 {d t k : Nat} {h : zh} {x z : Int32} (hx : x.toInt = 0) (hz : z.toInt = (k : Int)) (hk : k ≤ 6) : qI (d + 1) 168 [some (zi x), some (zi z)] h t (fun y h1 => h = h1 ∧ y.toInt = ((2 + 4 * k : Nat) : Int)) := by
  refine qI_of ?_
  refine y_bi (c := 46) (len := 2) (r := (0, 0, 0, 0)) (by decide +kernel) (by decide) (fun y427 hy427 => ?_)
  refine y_same (i := .iload_n 0) (len := 1) (r := (0, 0, 0, 0)) (pc' := 3) (ls' := [some (zi x), some (zi z)]) (st' := [zi x, zi y427]) (by decide +kernel) (fun k q => by cases q) rfl ?_
  refine y_mul (c := 46) (len := 1) (r := (0, 0, 0, 0)) (by decide +kernel) (by omega) (by omega) (by omega) (fun y428 hy428 => ?_)
  refine y_ic (c := 2) (len := 1) (r := (0, 0, 0, 0)) (by decide +kernel) (by decide) (fun y429 hy429 => ?_)
  refine y_add (len := 1) (r := (0, 0, 0, 0)) (by decide +kernel) (by omega) (by omega) (fun y430 hy430 => ?_)
  refine y_ic (c := 4) (len := 1) (r := (0, 0, 0, 0)) (by decide +kernel) (by decide) (fun y431 hy431 => ?_)
  refine y_same (i := .iload_n 1) (len := 1) (r := (0, 0, 0, 0)) (pc' := 8) (ls' := [some (zi x), some (zi z)]) (st' := [zi z, zi y431, zi y430]) (by decide +kernel) (fun k q => by cases q) rfl ?_
  refine y_mul (c := 4) (len := 1) (r := (0, 0, 0, 0)) (by decide +kernel) (by omega) (by omega) (by omega) (fun y432 hy432 => ?_)
  refine y_add (len := 1) (r := (0, 0, 0, 0)) (by decide +kernel) (by omega) (by omega) (fun y433 hy433 => ?_)
  refine y_rI (len := 1) (r := (0, 0, 0, 0)) (nL := 2) (k := 1) (n9 := 2) (hs := []) (by decide +kernel) rfl rfl ?_
  exact ⟨rfl, by omega⟩
theorem m_claimAt0 {d t k : Nat} {h : zh} {x z : Int32} (hx : x.toInt = 0) (hz : z.toInt = (k : Int)) (hk : k ≤ 6) : qI (d + 1) 169 [some (zi x), some (zi z)] h t (fun y h1 => h = h1 ∧ y.toInt = ((22 + 4 * k : Nat) : Int)) := by
  refine qI_of ?_
  refine y_bi (c := 46) (len := 2) (r := (0, 0, 0, 0)) (by decide +kernel) (by decide) (fun y434 hy434 => ?_)
  refine y_same (i := .iload_n 0) (len := 1) (r := (0, 0, 0, 0)) (pc' := 3) (ls' := [some (zi x), some (zi z)]) (st' := [zi x, zi y434]) (by decide +kernel) (fun k q => by cases q) rfl ?_
  refine y_mul (c := 46) (len := 1) (r := (0, 0, 0, 0)) (by decide +kernel) (by omega) (by omega) (by omega) (fun y435 hy435 => ?_)
  refine y_ic (c := 2) (len := 1) (r := (0, 0, 0, 0)) (by decide +kernel) (by decide) (fun y436 hy436 => ?_)
  refine y_add (len := 1) (r := (0, 0, 0, 0)) (by decide +kernel) (by omega) (by omega) (fun y437 hy437 => ?_)
  refine y_bi (c := 20) (len := 2) (r := (0, 0, 0, 0)) (by decide +kernel) (by decide) (fun y438 hy438 => ?_)
  refine y_add (len := 1) (r := (0, 0, 0, 0)) (by decide +kernel) (by omega) (by omega) (fun y439 hy439 => ?_)
  refine y_ic (c := 4) (len := 1) (r := (0, 0, 0, 0)) (by decide +kernel) (by decide) (fun y440 hy440 => ?_)
  refine y_same (i := .iload_n 1) (len := 1) (r := (0, 0, 0, 0)) (pc' := 11) (ls' := [some (zi x), some (zi z)]) (st' := [zi z, zi y440, zi y439]) (by decide +kernel) (fun k q => by cases q) rfl ?_
  refine y_mul (c := 4) (len := 1) (r := (0, 0, 0, 0)) (by decide +kernel) (by omega) (by omega) (by omega) (fun y441 hy441 => ?_)
  refine y_add (len := 1) (r := (0, 0, 0, 0)) (by decide +kernel) (by omega) (by omega) (fun y442 hy442 => ?_)
  refine y_rI (len := 1) (r := (0, 0, 0, 0)) (nL := 2) (k := 1) (n9 := 2) (hs := []) (by decide +kernel) rfl rfl ?_
  exact ⟨rfl, by omega⟩
theorem m_parts1 {d t : Nat} {τ : List Nat} {h : zh} {x y : Int32} (hg : hG τ h) (hx : x.toInt = 1) (hy : hsl h 56 46 = some (zi y)) : qI (d + 1) 166 [some (.inl (some 56)), some (zi x)] h t (fun z h1 => h = h1 ∧ y = z) := by
  refine qI_of ?_
  refine y_same (i := .aload_n 0) (len := 1) (r := (0, 0, 0, 0)) (pc' := 1) (ls' := [some (.inl (some 56)), some (zi x)]) (st' := [.inl (some 56)]) (by decide +kernel) (fun k q => by cases q) rfl ?_
  refine y_bi (c := 46) (len := 2) (r := (0, 0, 0, 0)) (by decide +kernel) (by decide) (fun y443 hy443 => ?_)
  refine y_same (i := .iload_n 1) (len := 1) (r := (0, 0, 0, 0)) (pc' := 4) (ls' := [some (.inl (some 56)), some (zi x)]) (st' := [zi x, zi y443, .inl (some 56)]) (by decide +kernel) (fun k q => by cases q) rfl ?_
  refine y_mul (c := 46) (len := 1) (r := (0, 0, 0, 0)) (by decide +kernel) (by omega) (by omega) (by omega) (fun y444 hy444 => ?_)
  refine y_ial (i := 46) (len := 1) (r := (0, 0, 0, 0)) (by decide +kernel) hg (tu56 hg) at56 (by omega) hy ?_
  refine y_rI (len := 1) (r := (0, 0, 0, 0)) (nL := 2) (k := 1) (n9 := 2) (hs := []) (by decide +kernel) rfl rfl ?_
  exact ⟨rfl, rfl⟩
theorem m_claims1 {d t : Nat} {τ : List Nat} {h : zh} {x y : Int32} (hg : hG τ h) (hx : x.toInt = 1) (hy : hsl h 56 47 = some (zi y)) : qI (d + 1) 167 [some (.inl (some 56)), some (zi x)] h t (fun z h1 => h = h1 ∧ y = z) := by
  refine qI_of ?_
  refine y_same (i := .aload_n 0) (len := 1) (r := (0, 0, 0, 0)) (pc' := 1) (ls' := [some (.inl (some 56)), some (zi x)]) (st' := [.inl (some 56)]) (by decide +kernel) (fun k q => by cases q) rfl ?_
  refine y_bi (c := 46) (len := 2) (r := (0, 0, 0, 0)) (by decide +kernel) (by decide) (fun y445 hy445 => ?_)
  refine y_same (i := .iload_n 1) (len := 1) (r := (0, 0, 0, 0)) (pc' := 4) (ls' := [some (.inl (some 56)), some (zi x)]) (st' := [zi x, zi y445, .inl (some 56)]) (by decide +kernel) (fun k q => by cases q) rfl ?_
  refine y_mul (c := 46) (len := 1) (r := (0, 0, 0, 0)) (by decide +kernel) (by omega) (by omega) (by omega) (fun y446 hy446 => ?_)
  refine y_ic (c := 1) (len := 1) (r := (0, 0, 0, 0)) (by decide +kernel) (by decide) (fun y447 hy447 => ?_)
  refine y_add (len := 1) (r := (0, 0, 0, 0)) (by decide +kernel) (by omega) (by omega) (fun y448 hy448 => ?_)
  refine y_ial (i := 47) (len := 1) (r := (0, 0, 0, 0)) (by decide +kernel) hg (tu56 hg) at56 (by omega) hy ?_
  refine y_rI (len := 1) (r := (0, 0, 0, 0)) (nL := 2) (k := 1) (n9 := 2) (hs := []) (by decide +kernel) rfl rfl ?_
  exact ⟨rfl, rfl⟩
theorem m_partAt1 {d t k : Nat} {h : zh} {x z : Int32} (hx : x.toInt = 1) (hz : z.toInt = (k : Int)) (hk : k ≤ 6) : qI (d + 1) 168 [some (zi x), some (zi z)] h t (fun y h1 => h = h1 ∧ y.toInt = ((48 + 4 * k : Nat) : Int)) := by
  refine qI_of ?_
  refine y_bi (c := 46) (len := 2) (r := (0, 0, 0, 0)) (by decide +kernel) (by decide) (fun y449 hy449 => ?_)
  refine y_same (i := .iload_n 0) (len := 1) (r := (0, 0, 0, 0)) (pc' := 3) (ls' := [some (zi x), some (zi z)]) (st' := [zi x, zi y449]) (by decide +kernel) (fun k q => by cases q) rfl ?_
  refine y_mul (c := 46) (len := 1) (r := (0, 0, 0, 0)) (by decide +kernel) (by omega) (by omega) (by omega) (fun y450 hy450 => ?_)
  refine y_ic (c := 2) (len := 1) (r := (0, 0, 0, 0)) (by decide +kernel) (by decide) (fun y451 hy451 => ?_)
  refine y_add (len := 1) (r := (0, 0, 0, 0)) (by decide +kernel) (by omega) (by omega) (fun y452 hy452 => ?_)
  refine y_ic (c := 4) (len := 1) (r := (0, 0, 0, 0)) (by decide +kernel) (by decide) (fun y453 hy453 => ?_)
  refine y_same (i := .iload_n 1) (len := 1) (r := (0, 0, 0, 0)) (pc' := 8) (ls' := [some (zi x), some (zi z)]) (st' := [zi z, zi y453, zi y452]) (by decide +kernel) (fun k q => by cases q) rfl ?_
  refine y_mul (c := 4) (len := 1) (r := (0, 0, 0, 0)) (by decide +kernel) (by omega) (by omega) (by omega) (fun y454 hy454 => ?_)
  refine y_add (len := 1) (r := (0, 0, 0, 0)) (by decide +kernel) (by omega) (by omega) (fun y455 hy455 => ?_)
  refine y_rI (len := 1) (r := (0, 0, 0, 0)) (nL := 2) (k := 1) (n9 := 2) (hs := []) (by decide +kernel) rfl rfl ?_
  exact ⟨rfl, by omega⟩
theorem m_claimAt1 {d t k : Nat} {h : zh} {x z : Int32} (hx : x.toInt = 1) (hz : z.toInt = (k : Int)) (hk : k ≤ 6) : qI (d + 1) 169 [some (zi x), some (zi z)] h t (fun y h1 => h = h1 ∧ y.toInt = ((68 + 4 * k : Nat) : Int)) := by
  refine qI_of ?_
  refine y_bi (c := 46) (len := 2) (r := (0, 0, 0, 0)) (by decide +kernel) (by decide) (fun y456 hy456 => ?_)
  refine y_same (i := .iload_n 0) (len := 1) (r := (0, 0, 0, 0)) (pc' := 3) (ls' := [some (zi x), some (zi z)]) (st' := [zi x, zi y456]) (by decide +kernel) (fun k q => by cases q) rfl ?_
  refine y_mul (c := 46) (len := 1) (r := (0, 0, 0, 0)) (by decide +kernel) (by omega) (by omega) (by omega) (fun y457 hy457 => ?_)
  refine y_ic (c := 2) (len := 1) (r := (0, 0, 0, 0)) (by decide +kernel) (by decide) (fun y458 hy458 => ?_)
  refine y_add (len := 1) (r := (0, 0, 0, 0)) (by decide +kernel) (by omega) (by omega) (fun y459 hy459 => ?_)
  refine y_bi (c := 20) (len := 2) (r := (0, 0, 0, 0)) (by decide +kernel) (by decide) (fun y460 hy460 => ?_)
  refine y_add (len := 1) (r := (0, 0, 0, 0)) (by decide +kernel) (by omega) (by omega) (fun y461 hy461 => ?_)
  refine y_ic (c := 4) (len := 1) (r := (0, 0, 0, 0)) (by decide +kernel) (by decide) (fun y462 hy462 => ?_)
  refine y_same (i := .iload_n 1) (len := 1) (r := (0, 0, 0, 0)) (pc' := 11) (ls' := [some (zi x), some (zi z)]) (st' := [zi z, zi y462, zi y461]) (by decide +kernel) (fun k q => by cases q) rfl ?_
  refine y_mul (c := 4) (len := 1) (r := (0, 0, 0, 0)) (by decide +kernel) (by omega) (by omega) (by omega) (fun y463 hy463 => ?_)
  refine y_add (len := 1) (r := (0, 0, 0, 0)) (by decide +kernel) (by omega) (by omega) (fun y464 hy464 => ?_)
  refine y_rI (len := 1) (r := (0, 0, 0, 0)) (nL := 2) (k := 1) (n9 := 2) (hs := []) (by decide +kernel) rfl rfl ?_
  exact ⟨rfl, by omega⟩
theorem m_four {d t A : Nat} {τ : List Nat} {h : zh} {xA x0 x1 x2 x3 : Int32} (hg : hG τ h) (hA : xA.toInt = (A : Int)) (hA1 : 2 ≤ A) (hA2 : A + 4 ≤ 46 ∨ (48 ≤ A ∧ A + 4 ≤ 92)) (l0 : 0 ≤ x0.toInt) (u0 : x0.toInt ≤ 5) (l1 : 0 ≤ x1.toInt) (u1 : x1.toInt ≤ 5) (l2 : 0 ≤ x2.toInt) (u2 : x2.toInt ≤ 5) (l3 : 0 ≤ x3.toInt) (u3 : x3.toInt ≤ 5) : qV (d + 1) 179 [some (.inl (some 56)), some (zi xA), some (zi x0), some (zi x1), some (zi x2), some (zi x3)] h t (fun h1 => ∃ τ1, oF (fun k j => k ≠ 56 ∨ j < A ∨ A + 4 ≤ j) τ h τ1 h1 ∧ itM h1 A (x0.toInt, x1.toInt, x2.toInt, x3.toInt)) := by
  refine qV_of ?_
  refine y_same (i := .aload_n 0) (len := 1) (r := (0, 0, 0, 0)) (pc' := 1) (ls' := [some (.inl (some 56)), some (zi xA), some (zi x0), some (zi x1), some (zi x2), some (zi x3)]) (st' := [.inl (some 56)]) (by decide +kernel) (fun k q => by cases q) rfl ?_
  refine y_same (i := .iload_n 1) (len := 1) (r := (0, 0, 0, 0)) (pc' := 2) (ls' := [some (.inl (some 56)), some (zi xA), some (zi x0), some (zi x1), some (zi x2), some (zi x3)]) (st' := [zi xA, .inl (some 56)]) (by decide +kernel) (fun k q => by cases q) rfl ?_
  refine y_same (i := .iload_n 2) (len := 1) (r := (0, 0, 0, 0)) (pc' := 3) (ls' := [some (.inl (some 56)), some (zi xA), some (zi x0), some (zi x1), some (zi x2), some (zi x3)]) (st' := [zi x0, zi xA, .inl (some 56)]) (by decide +kernel) (fun k q => by cases q) rfl ?_
  refine y_ias (i := A) (len := 1) (r := (0, 0, 0, 0)) (by decide +kernel) hg (tu56 hg) at56 rfl (by omega) (by omega) (sr56 (by omega) (by omega) (by omega)) (by omega) (by omega) (fun h465 hg465 hl465 hs465 ho465 => ?_)
  refine y_same (i := .aload_n 0) (len := 1) (r := (0, 0, 0, 0)) (pc' := 5) (ls' := [some (.inl (some 56)), some (zi xA), some (zi x0), some (zi x1), some (zi x2), some (zi x3)]) (st' := [.inl (some 56)]) (by decide +kernel) (fun k q => by cases q) rfl ?_
  refine y_same (i := .iload_n 1) (len := 1) (r := (0, 0, 0, 0)) (pc' := 6) (ls' := [some (.inl (some 56)), some (zi xA), some (zi x0), some (zi x1), some (zi x2), some (zi x3)]) (st' := [zi xA, .inl (some 56)]) (by decide +kernel) (fun k q => by cases q) rfl ?_
  refine y_ic (c := 1) (len := 1) (r := (0, 0, 0, 0)) (by decide +kernel) (by decide) (fun y466 hy466 => ?_)
  refine y_add (len := 1) (r := (0, 0, 0, 0)) (by decide +kernel) (by omega) (by omega) (fun y467 hy467 => ?_)
  refine y_same (i := .iload_n 3) (len := 1) (r := (0, 0, 0, 0)) (pc' := 9) (ls' := [some (.inl (some 56)), some (zi xA), some (zi x0), some (zi x1), some (zi x2), some (zi x3)]) (st' := [zi x1, zi y467, .inl (some 56)]) (by decide +kernel) (fun k q => by cases q) rfl ?_
  refine y_ias (i := (A + 1)) (len := 1) (r := (0, 0, 0, 0)) (by decide +kernel) hg465 (tu56 hg465) at56 rfl (by omega) (by omega) (sr56 (by omega) (by omega) (by omega)) (by omega) (by omega) (fun h468 hg468 hl468 hs468 ho468 => ?_)
  refine y_same (i := .aload_n 0) (len := 1) (r := (0, 0, 0, 0)) (pc' := 11) (ls' := [some (.inl (some 56)), some (zi xA), some (zi x0), some (zi x1), some (zi x2), some (zi x3)]) (st' := [.inl (some 56)]) (by decide +kernel) (fun k q => by cases q) rfl ?_
  refine y_same (i := .iload_n 1) (len := 1) (r := (0, 0, 0, 0)) (pc' := 12) (ls' := [some (.inl (some 56)), some (zi xA), some (zi x0), some (zi x1), some (zi x2), some (zi x3)]) (st' := [zi xA, .inl (some 56)]) (by decide +kernel) (fun k q => by cases q) rfl ?_
  refine y_ic (c := 2) (len := 1) (r := (0, 0, 0, 0)) (by decide +kernel) (by decide) (fun y469 hy469 => ?_)
  refine y_add (len := 1) (r := (0, 0, 0, 0)) (by decide +kernel) (by omega) (by omega) (fun y470 hy470 => ?_)
  refine y_same (i := .iload 4) (len := 2) (r := (0, 0, 0, 0)) (pc' := 16) (ls' := [some (.inl (some 56)), some (zi xA), some (zi x0), some (zi x1), some (zi x2), some (zi x3)]) (st' := [zi x2, zi y470, .inl (some 56)]) (by decide +kernel) (fun k q => by cases q) rfl ?_
  refine y_ias (i := (A + 2)) (len := 1) (r := (0, 0, 0, 0)) (by decide +kernel) hg468 (tu56 hg468) at56 rfl (by omega) (by omega) (sr56 (by omega) (by omega) (by omega)) (by omega) (by omega) (fun h471 hg471 hl471 hs471 ho471 => ?_)
  refine y_same (i := .aload_n 0) (len := 1) (r := (0, 0, 0, 0)) (pc' := 18) (ls' := [some (.inl (some 56)), some (zi xA), some (zi x0), some (zi x1), some (zi x2), some (zi x3)]) (st' := [.inl (some 56)]) (by decide +kernel) (fun k q => by cases q) rfl ?_
  refine y_same (i := .iload_n 1) (len := 1) (r := (0, 0, 0, 0)) (pc' := 19) (ls' := [some (.inl (some 56)), some (zi xA), some (zi x0), some (zi x1), some (zi x2), some (zi x3)]) (st' := [zi xA, .inl (some 56)]) (by decide +kernel) (fun k q => by cases q) rfl ?_
  refine y_ic (c := 3) (len := 1) (r := (0, 0, 0, 0)) (by decide +kernel) (by decide) (fun y472 hy472 => ?_)
  refine y_add (len := 1) (r := (0, 0, 0, 0)) (by decide +kernel) (by omega) (by omega) (fun y473 hy473 => ?_)
  refine y_same (i := .iload 5) (len := 2) (r := (0, 0, 0, 0)) (pc' := 23) (ls' := [some (.inl (some 56)), some (zi xA), some (zi x0), some (zi x1), some (zi x2), some (zi x3)]) (st' := [zi x3, zi y473, .inl (some 56)]) (by decide +kernel) (fun k q => by cases q) rfl ?_
  refine y_ias (i := (A + 3)) (len := 1) (r := (0, 0, 0, 0)) (by decide +kernel) hg471 (tu56 hg471) at56 rfl (by omega) (by omega) (sr56 (by omega) (by omega) (by omega)) (by omega) (by omega) (fun h474 hg474 hl474 hs474 ho474 => ?_)
  refine y_rV (len := 1) (r := (0, 0, 0, 0)) (nL := 6) (n9 := 6) (hs := []) (by decide +kernel) rfl ?_
  have hv475 := (ho468 56 A (Or.inr (by omega))).trans hs465
  have hv476 := (ho471 56 A (Or.inr (by omega))).trans hv475
  have hv477 := (ho474 56 A (Or.inr (by omega))).trans hv476
  have hv478 := (ho471 56 (A + 1) (Or.inr (by omega))).trans hs468
  have hv479 := (ho474 56 (A + 1) (Or.inr (by omega))).trans hv478
  have hv480 := (ho474 56 (A + 2) (Or.inr (by omega))).trans hs471
  exact ⟨_, ⟨(aup_refl _), hg474, fun k T j hk (hC : k ≠ 56 ∨ j < A ∨ A + 4 ≤ j) => ((ho474 k j (by omega)).trans ((ho471 k j (by omega)).trans ((ho468 k j (by omega)).trans (ho465 k j (by omega)))))⟩, ⟨_, _, _, _, hv477, hv479, hv480, hs474, rfl, rfl, rfl, rfl⟩⟩
theorem m_tp0 {t q : Nat} {τ : List Nat} {h : zh} {ps cs : List it4} {xs xp xk xx xy xz : Int32} (hg : hG τ h) (ft : ftM h 0 (-1)) (rw9 : rwM h 0 1 2 22 ps cs) (hxs : xs.toInt = 0) (hq : xp.toInt = (q : Int)) (lxk : 0 ≤ xk.toInt) (uxk : xk.toInt ≤ 5) (lxx : 0 ≤ xx.toInt) (uxx : xx.toInt ≤ 5) (lxy : 0 ≤ xy.toInt) (uxy : xy.toInt ≤ 5) (lxz : 0 ≤ xz.toInt) (uxz : xz.toInt ≤ 5) : qV 6 178 [some (.inl (some 52)), some (zi xs), some (zi xp), some (zi xk), some (zi xx), some (zi xy), some (zi xz), none] h t (fun h1 => ∃ τ1, oF (fun k j => (k ≠ 52 ∨ (j ≠ 6 ∧ j ≠ 7)) ∧ (k ≠ 56 ∨ 46 ≤ j)) τ h τ1 h1 ∧ ((ps.length < 5 ∧ rwM h1 0 1 2 22 (ps ++ [(xk.toInt, xx.toInt, xy.toInt, xz.toInt)]) (cs) ∧ ftM h1 0 (-1)) ∨ (ps.length = 5 ∧ ftM h1 2 (q : Int)))) := by
  obtain ⟨⟨xf, hf6, ef⟩, xw, hw7, ew7⟩ := id ft
  obtain ⟨⟨⟨xc, hc, ec⟩, him⟩, ⟨⟨yo, ho, eo⟩, hio⟩, lp, lc⟩ := id rw9
  refine qV_of ?_
  refine y_same (i := .aload_n 0) (len := 1) (r := (0, 0, 0, 0)) (pc' := 1) (ls' := [some (.inl (some 52)), some (zi xs), some (zi xp), some (zi xk), some (zi xx), some (zi xy), some (zi xz), none]) (st' := [.inl (some 52)]) (by decide +kernel) (fun k q => by cases q) rfl ?_
  refine y_cI (i := .invokevirtual 114) (len := 3) (r := (0, 172, 12, 1502)) (nL := 1) (k := 2) (n := 1) (hs := []) (args := [.inl (some 52)]) (rest := []) (l0 := [some (.inl (some 52))]) (by decide +kernel) (Or.inr (Or.inl ⟨_, rfl⟩)) rfl rfl rfl rfl (Nat.le_of_ble_eq_true rfl) (z52 hg) rfl (qI_le (by decide) (m_fine (d := 0) hg ft)) (fun y481 qy481 hRy481 => ?_)
  obtain ⟨rfl, gy481, by481⟩ := hRy481
  have hy481 : y481.toInt = 1 := gy481 rfl
  refine y_iT (c := .ne) (off := 4) (pc' := 8) (len := 3) (r := (0, 0, 0, 0)) (by decide +kernel) (acmpT (c := .ne) (by show ¬ (_ = _); omega)) (by decide +kernel) ?_
  refine y_same (i := .aload_n 0) (len := 1) (r := (0, 0, 0, 0)) (pc' := 9) (ls' := [some (.inl (some 52)), some (zi xs), some (zi xp), some (zi xk), some (zi xx), some (zi xy), some (zi xz), none]) (st' := [.inl (some 52)]) (by decide +kernel) (fun k q => by cases q) rfl ?_
  refine y_get (j := 23) (len := 3) (r := (12, 10, 2, 1338)) (by decide +kernel) hg (t52 hg) at52 rfl rfl (g_r52 (f := 10) (T2 := 56) hg rfl (by decide)).1 ?_
  refine y_same (i := .iload_n 1) (len := 1) (r := (0, 0, 0, 0)) (pc' := 13) (ls' := [some (.inl (some 52)), some (zi xs), some (zi xp), some (zi xk), some (zi xx), some (zi xy), some (zi xz), none]) (st' := [zi xs, .inl (some 56)]) (by decide +kernel) (fun k q => by cases q) rfl ?_
  refine y_cI (i := .invokestatic 143) (len := 3) (r := (1, 166, 12, 1543)) (nL := 2) (k := 1) (n := 2) (hs := []) (args := [.inl (some 56), zi xs]) (rest := []) (l0 := [some (.inl (some 56)), some (zi xs)]) (by decide +kernel) (Or.inl ⟨_, rfl⟩) rfl rfl rfl rfl (Nat.le_of_ble_eq_true rfl) rfl rfl (qI_le (by decide) (m_parts0 (d := 0) hg (by omega) hc)) (fun y482 qy482 hRy482 => ?_)
  obtain ⟨rfl, rfl⟩ := hRy482
  refine y_same (i := .istore 7) (len := 2) (r := (0, 0, 0, 0)) (pc' := 18) (ls' := [some (.inl (some 52)), some (zi xs), some (zi xp), some (zi xk), some (zi xx), some (zi xy), some (zi xz), some (zi xc)]) (st' := []) (by decide +kernel) (fun k q => by cases q) rfl ?_
  refine y_same (i := .iload 7) (len := 2) (r := (0, 0, 0, 0)) (pc' := 20) (ls' := [some (.inl (some 52)), some (zi xs), some (zi xp), some (zi xk), some (zi xx), some (zi xy), some (zi xz), some (zi xc)]) (st' := [zi xc]) (by decide +kernel) (fun k q => by cases q) rfl ?_
  refine y_ic (c := 5) (len := 1) (r := (0, 0, 0, 0)) (by decide +kernel) (by decide) (fun y483 hy483 => ?_)
  rcases Decidable.em (xc.toInt ≠ y483.toInt) with q484 | q484
  ·
    refine y_cT (c := .ne) (off := 10) (pc' := 31) (len := 3) (r := (0, 0, 0, 0)) (by decide +kernel) (acmpT (c := .ne) (by show ¬ (_ = _); omega)) (by decide +kernel) ?_
    refine y_same (i := .aload_n 0) (len := 1) (r := (0, 0, 0, 0)) (pc' := 32) (ls' := [some (.inl (some 52)), some (zi xs), some (zi xp), some (zi xk), some (zi xx), some (zi xy), some (zi xz), some (zi xc)]) (st' := [.inl (some 52)]) (by decide +kernel) (fun k q => by cases q) rfl ?_
    refine y_get (j := 23) (len := 3) (r := (12, 10, 2, 1338)) (by decide +kernel) hg (t52 hg) at52 rfl rfl (g_r52 (f := 10) (T2 := 56) hg rfl (by decide)).1 ?_
    refine y_bi (c := 46) (len := 2) (r := (0, 0, 0, 0)) (by decide +kernel) (by decide) (fun y485 hy485 => ?_)
    refine y_same (i := .iload_n 1) (len := 1) (r := (0, 0, 0, 0)) (pc' := 38) (ls' := [some (.inl (some 52)), some (zi xs), some (zi xp), some (zi xk), some (zi xx), some (zi xy), some (zi xz), some (zi xc)]) (st' := [zi xs, zi y485, .inl (some 56)]) (by decide +kernel) (fun k q => by cases q) rfl ?_
    refine y_mul (c := 46) (len := 1) (r := (0, 0, 0, 0)) (by decide +kernel) (by omega) (by omega) (by omega) (fun y486 hy486 => ?_)
    refine y_same (i := .dup2) (len := 1) (r := (0, 0, 0, 0)) (pc' := 40) (ls' := [some (.inl (some 52)), some (zi xs), some (zi xp), some (zi xk), some (zi xx), some (zi xy), some (zi xz), some (zi xc)]) (st' := [zi y486, .inl (some 56), zi y486, .inl (some 56)]) (by decide +kernel) (fun k q => by cases q) rfl ?_
    refine y_ial (i := 0) (len := 1) (r := (0, 0, 0, 0)) (by decide +kernel) hg (tu56 hg) at56 (by omega) hc ?_
    refine y_ic (c := 1) (len := 1) (r := (0, 0, 0, 0)) (by decide +kernel) (by decide) (fun y487 hy487 => ?_)
    refine y_add (len := 1) (r := (0, 0, 0, 0)) (by decide +kernel) (by omega) (by omega) (fun y488 hy488 => ?_)
    refine y_ias (i := 0) (len := 1) (r := (0, 0, 0, 0)) (by decide +kernel) hg (tu56 hg) at56 rfl (by omega) (by omega) (sr56 (by omega) (by omega) (by omega)) (by omega) (by omega) (fun h489 hg489 hl489 hs489 ho489 => ?_)
    refine y_same (i := .aload_n 0) (len := 1) (r := (0, 0, 0, 0)) (pc' := 45) (ls' := [some (.inl (some 52)), some (zi xs), some (zi xp), some (zi xk), some (zi xx), some (zi xy), some (zi xz), some (zi xc)]) (st' := [.inl (some 52)]) (by decide +kernel) (fun k q => by cases q) rfl ?_
    refine y_get (j := 23) (len := 3) (r := (12, 10, 2, 1338)) (by decide +kernel) hg489 (t52 hg489) at52 rfl rfl (g_r52 (f := 10) (T2 := 56) hg489 rfl (by decide)).1 ?_
    refine y_same (i := .iload_n 1) (len := 1) (r := (0, 0, 0, 0)) (pc' := 49) (ls' := [some (.inl (some 52)), some (zi xs), some (zi xp), some (zi xk), some (zi xx), some (zi xy), some (zi xz), some (zi xc)]) (st' := [zi xs, .inl (some 56)]) (by decide +kernel) (fun k q => by cases q) rfl ?_
    refine y_same (i := .iload 7) (len := 2) (r := (0, 0, 0, 0)) (pc' := 51) (ls' := [some (.inl (some 52)), some (zi xs), some (zi xp), some (zi xk), some (zi xx), some (zi xy), some (zi xz), some (zi xc)]) (st' := [zi xc, zi xs, .inl (some 56)]) (by decide +kernel) (fun k q => by cases q) rfl ?_
    refine y_cI (i := .invokestatic 147) (len := 3) (r := (1, 168, 12, 1546)) (nL := 2) (k := 1) (n := 2) (hs := []) (args := [zi xs, zi xc]) (rest := [.inl (some 56)]) (l0 := [some (zi xs), some (zi xc)]) (by decide +kernel) (Or.inl ⟨_, rfl⟩) rfl rfl rfl rfl (Nat.le_of_ble_eq_true rfl) rfl rfl (qI_le (by decide) (m_partAt0 (d := 0) (k := ps.length) (by omega) (by omega) (by omega))) (fun y490 qy490 hRy490 => ?_)
    obtain ⟨rfl, hy490⟩ := hRy490
    refine y_same (i := .iload_n 3) (len := 1) (r := (0, 0, 0, 0)) (pc' := 55) (ls' := [some (.inl (some 52)), some (zi xs), some (zi xp), some (zi xk), some (zi xx), some (zi xy), some (zi xz), some (zi xc)]) (st' := [zi xk, zi y490, .inl (some 56)]) (by decide +kernel) (fun k q => by cases q) rfl ?_
    refine y_same (i := .iload 4) (len := 2) (r := (0, 0, 0, 0)) (pc' := 57) (ls' := [some (.inl (some 52)), some (zi xs), some (zi xp), some (zi xk), some (zi xx), some (zi xy), some (zi xz), some (zi xc)]) (st' := [zi xx, zi xk, zi y490, .inl (some 56)]) (by decide +kernel) (fun k q => by cases q) rfl ?_
    refine y_same (i := .iload 5) (len := 2) (r := (0, 0, 0, 0)) (pc' := 59) (ls' := [some (.inl (some 52)), some (zi xs), some (zi xp), some (zi xk), some (zi xx), some (zi xy), some (zi xz), some (zi xc)]) (st' := [zi xy, zi xx, zi xk, zi y490, .inl (some 56)]) (by decide +kernel) (fun k q => by cases q) rfl ?_
    refine y_same (i := .iload 6) (len := 2) (r := (0, 0, 0, 0)) (pc' := 61) (ls' := [some (.inl (some 52)), some (zi xs), some (zi xp), some (zi xk), some (zi xx), some (zi xy), some (zi xz), some (zi xc)]) (st' := [zi xz, zi xy, zi xx, zi xk, zi y490, .inl (some 56)]) (by decide +kernel) (fun k q => by cases q) rfl ?_
    refine y_cV (i := .invokestatic 151) (len := 3) (r := (1, 179, 12, 1549)) (nL := 6) (k := 0) (n := 6) (hs := []) (args := [.inl (some 56), zi y490, zi xk, zi xx, zi xy, zi xz]) (rest := []) (l0 := [some (.inl (some 56)), some (zi y490), some (zi xk), some (zi xx), some (zi xy), some (zi xz)]) (by decide +kernel) (Or.inl ⟨_, rfl⟩) rfl rfl rfl rfl (Nat.le_of_ble_eq_true rfl) rfl rfl (qV_le (by decide) (m_four (d := 0) (A := (2 + 4 * ps.length)) hg489 (by omega) (by omega) (by omega) (by omega) (by omega) (by omega) (by omega) (by omega) (by omega) (by omega) (by omega))) (fun h491 hR491 => ?_)
    obtain ⟨τ491, O491, it491⟩ := hR491
    refine y_rV (len := 1) (r := (0, 0, 0, 0)) (nL := 8) (n9 := 7) (hs := []) (by decide +kernel) rfl ?_
    have hv492 := (O491.2.2 56 56 0 (tu56 hg489) (show 56 ≠ 56 ∨ 0 < (2 + 4 * ps.length) ∨ (2 + 4 * ps.length) + 4 ≤ 0 by omega)).trans hs489
    have F : oF (fun k j => (k ≠ 52 ∨ (j ≠ 6 ∧ j ≠ 7)) ∧ (k ≠ 56 ∨ 46 ≤ j)) τ h τ491 h491 := ⟨O491.1, O491.2.1, fun k T j hk (hC : (k ≠ 52 ∨ (j ≠ 6 ∧ j ≠ 7)) ∧ (k ≠ 56 ∨ 46 ≤ j)) => ((O491.2.2 k T j hk (show k ≠ 56 ∨ j < (2 + 4 * ps.length) ∨ (2 + 4 * ps.length) + 4 ≤ j by omega)).trans (ho489 k j (by omega)))⟩
    refine ⟨_, F, Or.inl ⟨by omega, ⟨⟨⟨_, hv492, by simp only [List.length_append, List.length_cons, List.length_nil]; omega⟩, fun j i' hj => ?_⟩, ⟨⟨yo, ((O491.2.2 56 56 1 (tu56 hg489) (show 56 ≠ 56 ∨ 1 < (2 + 4 * ps.length) ∨ (2 + 4 * ps.length) + 4 ≤ 1 by omega)).trans (ho489 56 1 (Or.inr (by omega)))).trans ho, eo⟩, fun j i' hj => itM_up (hio j i' hj) (fun j9 g1 g2 => ?_)⟩, by simp only [List.length_append, List.length_cons, List.length_nil]; omega, by omega⟩, (ftM_up ft ((O491.2.2 52 52 6 (t52 hg489) (show 52 ≠ 56 ∨ 6 < (2 + 4 * ps.length) ∨ (2 + 4 * ps.length) + 4 ≤ 6 by omega)).trans (ho489 52 6 (Or.inl (by omega)))) ((O491.2.2 52 52 7 (t52 hg489) (show 52 ≠ 56 ∨ 7 < (2 + 4 * ps.length) ∨ (2 + 4 * ps.length) + 4 ≤ 7 by omega)).trans (ho489 52 7 (Or.inl (by omega)))))⟩⟩
    · rcases itm_at hj with ⟨q1, q2⟩ | ⟨rfl, rfl⟩
      · exact itM_up (him j i' q2) (fun j9 g1 g2 => ((O491.2.2 56 56 j9 (tu56 hg489) (show 56 ≠ 56 ∨ j9 < (2 + 4 * ps.length) ∨ (2 + 4 * ps.length) + 4 ≤ j9 by omega)).trans (ho489 56 j9 (Or.inr (by omega)))))
      · exact it491
    · have q1 := itm_lt hj
      exact ((O491.2.2 56 56 j9 (tu56 hg489) (show 56 ≠ 56 ∨ j9 < (2 + 4 * ps.length) ∨ (2 + 4 * ps.length) + 4 ≤ j9 by omega)).trans (ho489 56 j9 (Or.inr (by omega))))
  ·
    refine y_cF (c := .ne) (off := 10) (len := 3) (r := (0, 0, 0, 0)) (by decide +kernel) (acmpF (c := .ne) (by show _ = _; omega)) ?_
    refine y_same (i := .aload_n 0) (len := 1) (r := (0, 0, 0, 0)) (pc' := 25) (ls' := [some (.inl (some 52)), some (zi xs), some (zi xp), some (zi xk), some (zi xx), some (zi xy), some (zi xz), some (zi xc)]) (st' := [.inl (some 52)]) (by decide +kernel) (fun k q => by cases q) rfl ?_
    refine y_ic (c := 2) (len := 1) (r := (0, 0, 0, 0)) (by decide +kernel) (by decide) (fun y493 hy493 => ?_)
    refine y_same (i := .iload_n 2) (len := 1) (r := (0, 0, 0, 0)) (pc' := 27) (ls' := [some (.inl (some 52)), some (zi xs), some (zi xp), some (zi xk), some (zi xx), some (zi xy), some (zi xz), some (zi xc)]) (st' := [zi xp, zi y493, .inl (some 52)]) (by decide +kernel) (fun k q => by cases q) rfl ?_
    refine y_cV (i := .invokevirtual 139) (len := 3) (r := (0, 173, 12, 1529)) (nL := 3) (k := 0) (n := 3) (hs := []) (args := [.inl (some 52), zi y493, zi xp]) (rest := []) (l0 := [some (.inl (some 52)), some (zi y493), some (zi xp)]) (by decide +kernel) (Or.inr (Or.inl ⟨_, rfl⟩)) rfl rfl rfl rfl (Nat.le_of_ble_eq_true rfl) (z52 hg) rfl (qV_le (by decide) (m_wrong (d := 0) (r := 2) (q := q) hg ft (by omega) (by omega) (by omega) (by omega))) (fun h494 hR494 => ?_)
    obtain ⟨τ494, O494, ft494⟩ := hR494
    obtain ⟨⟨xf494, hf494, ef494⟩, xw494, hw494, ew494⟩ := id ft494
    refine y_rV (len := 1) (r := (0, 0, 0, 0)) (nL := 8) (n9 := 7) (hs := []) (by decide +kernel) rfl ?_
    exact ⟨_, ⟨O494.1, O494.2.1, fun k T j hk (hC : (k ≠ 52 ∨ (j ≠ 6 ∧ j ≠ 7)) ∧ (k ≠ 56 ∨ 46 ≤ j)) => (O494.2.2 k T j hk (show k ≠ 52 ∨ (j ≠ 6 ∧ j ≠ 7) by omega))⟩, Or.inr ⟨by omega, ft494⟩⟩
theorem m_tc0 {t q : Nat} {τ : List Nat} {h : zh} {ps cs : List it4} {xs xp xk xx xy : Int32} (hg : hG τ h) (ft : ftM h 0 (-1)) (rw9 : rwM h 0 1 2 22 ps cs) (hxs : xs.toInt = 0) (hq : xp.toInt = (q : Int)) (lxk : 0 ≤ xk.toInt) (uxk : xk.toInt ≤ 5) (lxx : 0 ≤ xx.toInt) (uxx : xx.toInt ≤ 5) (lxy : 0 ≤ xy.toInt) (uxy : xy.toInt ≤ 5) : qV 6 180 [some (.inl (some 52)), some (zi xs), some (zi xp), some (zi xk), some (zi xx), some (zi xy), none] h t (fun h1 => ∃ τ1, oF (fun k j => (k ≠ 52 ∨ (j ≠ 6 ∧ j ≠ 7)) ∧ (k ≠ 56 ∨ 46 ≤ j)) τ h τ1 h1 ∧ ((cs.length < 6 ∧ rwM h1 0 1 2 22 (ps) (cs ++ [(xk.toInt, xx.toInt, xy.toInt, 0)]) ∧ ftM h1 0 (-1)) ∨ (cs.length = 6 ∧ ftM h1 2 (q : Int)))) := by
  obtain ⟨⟨xf, hf6, ef⟩, xw, hw7, ew7⟩ := id ft
  obtain ⟨⟨⟨yo, ho, eo⟩, hio⟩, ⟨⟨xc, hc, ec⟩, him⟩, lp, lc⟩ := id rw9
  refine qV_of ?_
  refine y_same (i := .aload_n 0) (len := 1) (r := (0, 0, 0, 0)) (pc' := 1) (ls' := [some (.inl (some 52)), some (zi xs), some (zi xp), some (zi xk), some (zi xx), some (zi xy), none]) (st' := [.inl (some 52)]) (by decide +kernel) (fun k q => by cases q) rfl ?_
  refine y_cI (i := .invokevirtual 114) (len := 3) (r := (0, 172, 12, 1502)) (nL := 1) (k := 2) (n := 1) (hs := []) (args := [.inl (some 52)]) (rest := []) (l0 := [some (.inl (some 52))]) (by decide +kernel) (Or.inr (Or.inl ⟨_, rfl⟩)) rfl rfl rfl rfl (Nat.le_of_ble_eq_true rfl) (z52 hg) rfl (qI_le (by decide) (m_fine (d := 0) hg ft)) (fun y495 qy495 hRy495 => ?_)
  obtain ⟨rfl, gy495, by495⟩ := hRy495
  have hy495 : y495.toInt = 1 := gy495 rfl
  refine y_iT (c := .ne) (off := 4) (pc' := 8) (len := 3) (r := (0, 0, 0, 0)) (by decide +kernel) (acmpT (c := .ne) (by show ¬ (_ = _); omega)) (by decide +kernel) ?_
  refine y_same (i := .aload_n 0) (len := 1) (r := (0, 0, 0, 0)) (pc' := 9) (ls' := [some (.inl (some 52)), some (zi xs), some (zi xp), some (zi xk), some (zi xx), some (zi xy), none]) (st' := [.inl (some 52)]) (by decide +kernel) (fun k q => by cases q) rfl ?_
  refine y_get (j := 23) (len := 3) (r := (12, 10, 2, 1338)) (by decide +kernel) hg (t52 hg) at52 rfl rfl (g_r52 (f := 10) (T2 := 56) hg rfl (by decide)).1 ?_
  refine y_same (i := .iload_n 1) (len := 1) (r := (0, 0, 0, 0)) (pc' := 13) (ls' := [some (.inl (some 52)), some (zi xs), some (zi xp), some (zi xk), some (zi xx), some (zi xy), none]) (st' := [zi xs, .inl (some 56)]) (by decide +kernel) (fun k q => by cases q) rfl ?_
  refine y_cI (i := .invokestatic 155) (len := 3) (r := (1, 167, 12, 1560)) (nL := 2) (k := 1) (n := 2) (hs := []) (args := [.inl (some 56), zi xs]) (rest := []) (l0 := [some (.inl (some 56)), some (zi xs)]) (by decide +kernel) (Or.inl ⟨_, rfl⟩) rfl rfl rfl rfl (Nat.le_of_ble_eq_true rfl) rfl rfl (qI_le (by decide) (m_claims0 (d := 0) hg (by omega) hc)) (fun y496 qy496 hRy496 => ?_)
  obtain ⟨rfl, rfl⟩ := hRy496
  refine y_same (i := .istore 6) (len := 2) (r := (0, 0, 0, 0)) (pc' := 18) (ls' := [some (.inl (some 52)), some (zi xs), some (zi xp), some (zi xk), some (zi xx), some (zi xy), some (zi xc)]) (st' := []) (by decide +kernel) (fun k q => by cases q) rfl ?_
  refine y_same (i := .iload 6) (len := 2) (r := (0, 0, 0, 0)) (pc' := 20) (ls' := [some (.inl (some 52)), some (zi xs), some (zi xp), some (zi xk), some (zi xx), some (zi xy), some (zi xc)]) (st' := [zi xc]) (by decide +kernel) (fun k q => by cases q) rfl ?_
  refine y_bi (c := 6) (len := 2) (r := (0, 0, 0, 0)) (by decide +kernel) (by decide) (fun y497 hy497 => ?_)
  rcases Decidable.em (xc.toInt ≠ y497.toInt) with q498 | q498
  ·
    refine y_cT (c := .ne) (off := 10) (pc' := 32) (len := 3) (r := (0, 0, 0, 0)) (by decide +kernel) (acmpT (c := .ne) (by show ¬ (_ = _); omega)) (by decide +kernel) ?_
    refine y_same (i := .aload_n 0) (len := 1) (r := (0, 0, 0, 0)) (pc' := 33) (ls' := [some (.inl (some 52)), some (zi xs), some (zi xp), some (zi xk), some (zi xx), some (zi xy), some (zi xc)]) (st' := [.inl (some 52)]) (by decide +kernel) (fun k q => by cases q) rfl ?_
    refine y_get (j := 23) (len := 3) (r := (12, 10, 2, 1338)) (by decide +kernel) hg (t52 hg) at52 rfl rfl (g_r52 (f := 10) (T2 := 56) hg rfl (by decide)).1 ?_
    refine y_bi (c := 46) (len := 2) (r := (0, 0, 0, 0)) (by decide +kernel) (by decide) (fun y499 hy499 => ?_)
    refine y_same (i := .iload_n 1) (len := 1) (r := (0, 0, 0, 0)) (pc' := 39) (ls' := [some (.inl (some 52)), some (zi xs), some (zi xp), some (zi xk), some (zi xx), some (zi xy), some (zi xc)]) (st' := [zi xs, zi y499, .inl (some 56)]) (by decide +kernel) (fun k q => by cases q) rfl ?_
    refine y_mul (c := 46) (len := 1) (r := (0, 0, 0, 0)) (by decide +kernel) (by omega) (by omega) (by omega) (fun y500 hy500 => ?_)
    refine y_ic (c := 1) (len := 1) (r := (0, 0, 0, 0)) (by decide +kernel) (by decide) (fun y501 hy501 => ?_)
    refine y_add (len := 1) (r := (0, 0, 0, 0)) (by decide +kernel) (by omega) (by omega) (fun y502 hy502 => ?_)
    refine y_same (i := .dup2) (len := 1) (r := (0, 0, 0, 0)) (pc' := 43) (ls' := [some (.inl (some 52)), some (zi xs), some (zi xp), some (zi xk), some (zi xx), some (zi xy), some (zi xc)]) (st' := [zi y502, .inl (some 56), zi y502, .inl (some 56)]) (by decide +kernel) (fun k q => by cases q) rfl ?_
    refine y_ial (i := 1) (len := 1) (r := (0, 0, 0, 0)) (by decide +kernel) hg (tu56 hg) at56 (by omega) hc ?_
    refine y_ic (c := 1) (len := 1) (r := (0, 0, 0, 0)) (by decide +kernel) (by decide) (fun y503 hy503 => ?_)
    refine y_add (len := 1) (r := (0, 0, 0, 0)) (by decide +kernel) (by omega) (by omega) (fun y504 hy504 => ?_)
    refine y_ias (i := 1) (len := 1) (r := (0, 0, 0, 0)) (by decide +kernel) hg (tu56 hg) at56 rfl (by omega) (by omega) rfl (by omega) (by omega) (fun h505 hg505 hl505 hs505 ho505 => ?_)
    refine y_same (i := .aload_n 0) (len := 1) (r := (0, 0, 0, 0)) (pc' := 48) (ls' := [some (.inl (some 52)), some (zi xs), some (zi xp), some (zi xk), some (zi xx), some (zi xy), some (zi xc)]) (st' := [.inl (some 52)]) (by decide +kernel) (fun k q => by cases q) rfl ?_
    refine y_get (j := 23) (len := 3) (r := (12, 10, 2, 1338)) (by decide +kernel) hg505 (t52 hg505) at52 rfl rfl (g_r52 (f := 10) (T2 := 56) hg505 rfl (by decide)).1 ?_
    refine y_same (i := .iload_n 1) (len := 1) (r := (0, 0, 0, 0)) (pc' := 52) (ls' := [some (.inl (some 52)), some (zi xs), some (zi xp), some (zi xk), some (zi xx), some (zi xy), some (zi xc)]) (st' := [zi xs, .inl (some 56)]) (by decide +kernel) (fun k q => by cases q) rfl ?_
    refine y_same (i := .iload 6) (len := 2) (r := (0, 0, 0, 0)) (pc' := 54) (ls' := [some (.inl (some 52)), some (zi xs), some (zi xp), some (zi xk), some (zi xx), some (zi xy), some (zi xc)]) (st' := [zi xc, zi xs, .inl (some 56)]) (by decide +kernel) (fun k q => by cases q) rfl ?_
    refine y_cI (i := .invokestatic 158) (len := 3) (r := (1, 169, 12, 1563)) (nL := 2) (k := 1) (n := 2) (hs := []) (args := [zi xs, zi xc]) (rest := [.inl (some 56)]) (l0 := [some (zi xs), some (zi xc)]) (by decide +kernel) (Or.inl ⟨_, rfl⟩) rfl rfl rfl rfl (Nat.le_of_ble_eq_true rfl) rfl rfl (qI_le (by decide) (m_claimAt0 (d := 0) (k := cs.length) (by omega) (by omega) (by omega))) (fun y506 qy506 hRy506 => ?_)
    obtain ⟨rfl, hy506⟩ := hRy506
    refine y_same (i := .iload_n 3) (len := 1) (r := (0, 0, 0, 0)) (pc' := 58) (ls' := [some (.inl (some 52)), some (zi xs), some (zi xp), some (zi xk), some (zi xx), some (zi xy), some (zi xc)]) (st' := [zi xk, zi y506, .inl (some 56)]) (by decide +kernel) (fun k q => by cases q) rfl ?_
    refine y_same (i := .iload 4) (len := 2) (r := (0, 0, 0, 0)) (pc' := 60) (ls' := [some (.inl (some 52)), some (zi xs), some (zi xp), some (zi xk), some (zi xx), some (zi xy), some (zi xc)]) (st' := [zi xx, zi xk, zi y506, .inl (some 56)]) (by decide +kernel) (fun k q => by cases q) rfl ?_
    refine y_same (i := .iload 5) (len := 2) (r := (0, 0, 0, 0)) (pc' := 62) (ls' := [some (.inl (some 52)), some (zi xs), some (zi xp), some (zi xk), some (zi xx), some (zi xy), some (zi xc)]) (st' := [zi xy, zi xx, zi xk, zi y506, .inl (some 56)]) (by decide +kernel) (fun k q => by cases q) rfl ?_
    refine y_ic (c := 0) (len := 1) (r := (0, 0, 0, 0)) (by decide +kernel) (by decide) (fun y507 hy507 => ?_)
    refine y_cV (i := .invokestatic 151) (len := 3) (r := (1, 179, 12, 1549)) (nL := 6) (k := 0) (n := 6) (hs := []) (args := [.inl (some 56), zi y506, zi xk, zi xx, zi xy, zi y507]) (rest := []) (l0 := [some (.inl (some 56)), some (zi y506), some (zi xk), some (zi xx), some (zi xy), some (zi y507)]) (by decide +kernel) (Or.inl ⟨_, rfl⟩) rfl rfl rfl rfl (Nat.le_of_ble_eq_true rfl) rfl rfl (qV_le (by decide) (m_four (d := 0) (A := (22 + 4 * cs.length)) hg505 (by omega) (by omega) (by omega) (by omega) (by omega) (by omega) (by omega) (by omega) (by omega) (by omega) (by omega))) (fun h508 hR508 => ?_)
    obtain ⟨τ508, O508, it508⟩ := hR508
    refine y_rV (len := 1) (r := (0, 0, 0, 0)) (nL := 7) (n9 := 6) (hs := []) (by decide +kernel) rfl ?_
    have hv509 := (O508.2.2 56 56 1 (tu56 hg505) (show 56 ≠ 56 ∨ 1 < (22 + 4 * cs.length) ∨ (22 + 4 * cs.length) + 4 ≤ 1 by omega)).trans hs505
    have F : oF (fun k j => (k ≠ 52 ∨ (j ≠ 6 ∧ j ≠ 7)) ∧ (k ≠ 56 ∨ 46 ≤ j)) τ h τ508 h508 := ⟨O508.1, O508.2.1, fun k T j hk (hC : (k ≠ 52 ∨ (j ≠ 6 ∧ j ≠ 7)) ∧ (k ≠ 56 ∨ 46 ≤ j)) => ((O508.2.2 k T j hk (show k ≠ 56 ∨ j < (22 + 4 * cs.length) ∨ (22 + 4 * cs.length) + 4 ≤ j by omega)).trans (ho505 k j (by omega)))⟩
    have hz : y507.toInt = 0 := by omega
    refine ⟨_, F, Or.inl ⟨by omega, ⟨⟨⟨yo, ((O508.2.2 56 56 0 (tu56 hg505) (show 56 ≠ 56 ∨ 0 < (22 + 4 * cs.length) ∨ (22 + 4 * cs.length) + 4 ≤ 0 by omega)).trans (ho505 56 0 (Or.inr (by omega)))).trans ho, eo⟩, fun j i' hj => itM_up (hio j i' hj) (fun j9 g1 g2 => ?_)⟩, ⟨⟨_, hv509, by simp only [List.length_append, List.length_cons, List.length_nil]; omega⟩, fun j i' hj => ?_⟩, by omega, by simp only [List.length_append, List.length_cons, List.length_nil]; omega⟩, (ftM_up ft ((O508.2.2 52 52 6 (t52 hg505) (show 52 ≠ 56 ∨ 6 < (22 + 4 * cs.length) ∨ (22 + 4 * cs.length) + 4 ≤ 6 by omega)).trans (ho505 52 6 (Or.inl (by omega)))) ((O508.2.2 52 52 7 (t52 hg505) (show 52 ≠ 56 ∨ 7 < (22 + 4 * cs.length) ∨ (22 + 4 * cs.length) + 4 ≤ 7 by omega)).trans (ho505 52 7 (Or.inl (by omega)))))⟩⟩
    · have q1 := itm_lt hj
      exact ((O508.2.2 56 56 j9 (tu56 hg505) (show 56 ≠ 56 ∨ j9 < (22 + 4 * cs.length) ∨ (22 + 4 * cs.length) + 4 ≤ j9 by omega)).trans (ho505 56 j9 (Or.inr (by omega))))
    · rcases itm_at hj with ⟨q1, q2⟩ | ⟨rfl, rfl⟩
      · exact itM_up (him j i' q2) (fun j9 g1 g2 => ((O508.2.2 56 56 j9 (tu56 hg505) (show 56 ≠ 56 ∨ j9 < (22 + 4 * cs.length) ∨ (22 + 4 * cs.length) + 4 ≤ j9 by omega)).trans (ho505 56 j9 (Or.inr (by omega)))))
      · have w9 := it508
        rw [hz] at w9
        exact w9
  ·
    refine y_cF (c := .ne) (off := 10) (len := 3) (r := (0, 0, 0, 0)) (by decide +kernel) (acmpF (c := .ne) (by show _ = _; omega)) ?_
    refine y_same (i := .aload_n 0) (len := 1) (r := (0, 0, 0, 0)) (pc' := 26) (ls' := [some (.inl (some 52)), some (zi xs), some (zi xp), some (zi xk), some (zi xx), some (zi xy), some (zi xc)]) (st' := [.inl (some 52)]) (by decide +kernel) (fun k q => by cases q) rfl ?_
    refine y_ic (c := 2) (len := 1) (r := (0, 0, 0, 0)) (by decide +kernel) (by decide) (fun y510 hy510 => ?_)
    refine y_same (i := .iload_n 2) (len := 1) (r := (0, 0, 0, 0)) (pc' := 28) (ls' := [some (.inl (some 52)), some (zi xs), some (zi xp), some (zi xk), some (zi xx), some (zi xy), some (zi xc)]) (st' := [zi xp, zi y510, .inl (some 52)]) (by decide +kernel) (fun k q => by cases q) rfl ?_
    refine y_cV (i := .invokevirtual 139) (len := 3) (r := (0, 173, 12, 1529)) (nL := 3) (k := 0) (n := 3) (hs := []) (args := [.inl (some 52), zi y510, zi xp]) (rest := []) (l0 := [some (.inl (some 52)), some (zi y510), some (zi xp)]) (by decide +kernel) (Or.inr (Or.inl ⟨_, rfl⟩)) rfl rfl rfl rfl (Nat.le_of_ble_eq_true rfl) (z52 hg) rfl (qV_le (by decide) (m_wrong (d := 0) (r := 2) (q := q) hg ft (by omega) (by omega) (by omega) (by omega))) (fun h511 hR511 => ?_)
    obtain ⟨τ511, O511, ft511⟩ := hR511
    obtain ⟨⟨xf511, hf511, ef511⟩, xw511, hw511, ew511⟩ := id ft511
    refine y_rV (len := 1) (r := (0, 0, 0, 0)) (nL := 7) (n9 := 6) (hs := []) (by decide +kernel) rfl ?_
    exact ⟨_, ⟨O511.1, O511.2.1, fun k T j hk (hC : (k ≠ 52 ∨ (j ≠ 6 ∧ j ≠ 7)) ∧ (k ≠ 56 ∨ 46 ≤ j)) => (O511.2.2 k T j hk (show k ≠ 52 ∨ (j ≠ 6 ∧ j ≠ 7) by omega))⟩, Or.inr ⟨by omega, ft511⟩⟩
theorem m_tp1 {t q : Nat} {τ : List Nat} {h : zh} {ps cs : List it4} {xs xp xk xx xy xz : Int32} (hg : hG τ h) (ft : ftM h 0 (-1)) (rw9 : rwM h 46 47 48 68 ps cs) (hxs : xs.toInt = 1) (hq : xp.toInt = (q : Int)) (lxk : 0 ≤ xk.toInt) (uxk : xk.toInt ≤ 5) (lxx : 0 ≤ xx.toInt) (uxx : xx.toInt ≤ 5) (lxy : 0 ≤ xy.toInt) (uxy : xy.toInt ≤ 5) (lxz : 0 ≤ xz.toInt) (uxz : xz.toInt ≤ 5) : qV 6 178 [some (.inl (some 52)), some (zi xs), some (zi xp), some (zi xk), some (zi xx), some (zi xy), some (zi xz), none] h t (fun h1 => ∃ τ1, oF (fun k j => (k ≠ 52 ∨ (j ≠ 6 ∧ j ≠ 7)) ∧ (k ≠ 56 ∨ j < 46)) τ h τ1 h1 ∧ ((ps.length < 5 ∧ rwM h1 46 47 48 68 (ps ++ [(xk.toInt, xx.toInt, xy.toInt, xz.toInt)]) (cs) ∧ ftM h1 0 (-1)) ∨ (ps.length = 5 ∧ ftM h1 2 (q : Int)))) := by
  obtain ⟨⟨xf, hf6, ef⟩, xw, hw7, ew7⟩ := id ft
  obtain ⟨⟨⟨xc, hc, ec⟩, him⟩, ⟨⟨yo, ho, eo⟩, hio⟩, lp, lc⟩ := id rw9
  refine qV_of ?_
  refine y_same (i := .aload_n 0) (len := 1) (r := (0, 0, 0, 0)) (pc' := 1) (ls' := [some (.inl (some 52)), some (zi xs), some (zi xp), some (zi xk), some (zi xx), some (zi xy), some (zi xz), none]) (st' := [.inl (some 52)]) (by decide +kernel) (fun k q => by cases q) rfl ?_
  refine y_cI (i := .invokevirtual 114) (len := 3) (r := (0, 172, 12, 1502)) (nL := 1) (k := 2) (n := 1) (hs := []) (args := [.inl (some 52)]) (rest := []) (l0 := [some (.inl (some 52))]) (by decide +kernel) (Or.inr (Or.inl ⟨_, rfl⟩)) rfl rfl rfl rfl (Nat.le_of_ble_eq_true rfl) (z52 hg) rfl (qI_le (by decide) (m_fine (d := 0) hg ft)) (fun y512 qy512 hRy512 => ?_)
  obtain ⟨rfl, gy512, by512⟩ := hRy512
  have hy512 : y512.toInt = 1 := gy512 rfl
  refine y_iT (c := .ne) (off := 4) (pc' := 8) (len := 3) (r := (0, 0, 0, 0)) (by decide +kernel) (acmpT (c := .ne) (by show ¬ (_ = _); omega)) (by decide +kernel) ?_
  refine y_same (i := .aload_n 0) (len := 1) (r := (0, 0, 0, 0)) (pc' := 9) (ls' := [some (.inl (some 52)), some (zi xs), some (zi xp), some (zi xk), some (zi xx), some (zi xy), some (zi xz), none]) (st' := [.inl (some 52)]) (by decide +kernel) (fun k q => by cases q) rfl ?_
  refine y_get (j := 23) (len := 3) (r := (12, 10, 2, 1338)) (by decide +kernel) hg (t52 hg) at52 rfl rfl (g_r52 (f := 10) (T2 := 56) hg rfl (by decide)).1 ?_
  refine y_same (i := .iload_n 1) (len := 1) (r := (0, 0, 0, 0)) (pc' := 13) (ls' := [some (.inl (some 52)), some (zi xs), some (zi xp), some (zi xk), some (zi xx), some (zi xy), some (zi xz), none]) (st' := [zi xs, .inl (some 56)]) (by decide +kernel) (fun k q => by cases q) rfl ?_
  refine y_cI (i := .invokestatic 143) (len := 3) (r := (1, 166, 12, 1543)) (nL := 2) (k := 1) (n := 2) (hs := []) (args := [.inl (some 56), zi xs]) (rest := []) (l0 := [some (.inl (some 56)), some (zi xs)]) (by decide +kernel) (Or.inl ⟨_, rfl⟩) rfl rfl rfl rfl (Nat.le_of_ble_eq_true rfl) rfl rfl (qI_le (by decide) (m_parts1 (d := 0) hg (by omega) hc)) (fun y513 qy513 hRy513 => ?_)
  obtain ⟨rfl, rfl⟩ := hRy513
  refine y_same (i := .istore 7) (len := 2) (r := (0, 0, 0, 0)) (pc' := 18) (ls' := [some (.inl (some 52)), some (zi xs), some (zi xp), some (zi xk), some (zi xx), some (zi xy), some (zi xz), some (zi xc)]) (st' := []) (by decide +kernel) (fun k q => by cases q) rfl ?_
  refine y_same (i := .iload 7) (len := 2) (r := (0, 0, 0, 0)) (pc' := 20) (ls' := [some (.inl (some 52)), some (zi xs), some (zi xp), some (zi xk), some (zi xx), some (zi xy), some (zi xz), some (zi xc)]) (st' := [zi xc]) (by decide +kernel) (fun k q => by cases q) rfl ?_
  refine y_ic (c := 5) (len := 1) (r := (0, 0, 0, 0)) (by decide +kernel) (by decide) (fun y514 hy514 => ?_)
  rcases Decidable.em (xc.toInt ≠ y514.toInt) with q515 | q515
  ·
    refine y_cT (c := .ne) (off := 10) (pc' := 31) (len := 3) (r := (0, 0, 0, 0)) (by decide +kernel) (acmpT (c := .ne) (by show ¬ (_ = _); omega)) (by decide +kernel) ?_
    refine y_same (i := .aload_n 0) (len := 1) (r := (0, 0, 0, 0)) (pc' := 32) (ls' := [some (.inl (some 52)), some (zi xs), some (zi xp), some (zi xk), some (zi xx), some (zi xy), some (zi xz), some (zi xc)]) (st' := [.inl (some 52)]) (by decide +kernel) (fun k q => by cases q) rfl ?_
    refine y_get (j := 23) (len := 3) (r := (12, 10, 2, 1338)) (by decide +kernel) hg (t52 hg) at52 rfl rfl (g_r52 (f := 10) (T2 := 56) hg rfl (by decide)).1 ?_
    refine y_bi (c := 46) (len := 2) (r := (0, 0, 0, 0)) (by decide +kernel) (by decide) (fun y516 hy516 => ?_)
    refine y_same (i := .iload_n 1) (len := 1) (r := (0, 0, 0, 0)) (pc' := 38) (ls' := [some (.inl (some 52)), some (zi xs), some (zi xp), some (zi xk), some (zi xx), some (zi xy), some (zi xz), some (zi xc)]) (st' := [zi xs, zi y516, .inl (some 56)]) (by decide +kernel) (fun k q => by cases q) rfl ?_
    refine y_mul (c := 46) (len := 1) (r := (0, 0, 0, 0)) (by decide +kernel) (by omega) (by omega) (by omega) (fun y517 hy517 => ?_)
    refine y_same (i := .dup2) (len := 1) (r := (0, 0, 0, 0)) (pc' := 40) (ls' := [some (.inl (some 52)), some (zi xs), some (zi xp), some (zi xk), some (zi xx), some (zi xy), some (zi xz), some (zi xc)]) (st' := [zi y517, .inl (some 56), zi y517, .inl (some 56)]) (by decide +kernel) (fun k q => by cases q) rfl ?_
    refine y_ial (i := 46) (len := 1) (r := (0, 0, 0, 0)) (by decide +kernel) hg (tu56 hg) at56 (by omega) hc ?_
    refine y_ic (c := 1) (len := 1) (r := (0, 0, 0, 0)) (by decide +kernel) (by decide) (fun y518 hy518 => ?_)
    refine y_add (len := 1) (r := (0, 0, 0, 0)) (by decide +kernel) (by omega) (by omega) (fun y519 hy519 => ?_)
    refine y_ias (i := 46) (len := 1) (r := (0, 0, 0, 0)) (by decide +kernel) hg (tu56 hg) at56 rfl (by omega) (by omega) (sr56 (by omega) (by omega) (by omega)) (by omega) (by omega) (fun h520 hg520 hl520 hs520 ho520 => ?_)
    refine y_same (i := .aload_n 0) (len := 1) (r := (0, 0, 0, 0)) (pc' := 45) (ls' := [some (.inl (some 52)), some (zi xs), some (zi xp), some (zi xk), some (zi xx), some (zi xy), some (zi xz), some (zi xc)]) (st' := [.inl (some 52)]) (by decide +kernel) (fun k q => by cases q) rfl ?_
    refine y_get (j := 23) (len := 3) (r := (12, 10, 2, 1338)) (by decide +kernel) hg520 (t52 hg520) at52 rfl rfl (g_r52 (f := 10) (T2 := 56) hg520 rfl (by decide)).1 ?_
    refine y_same (i := .iload_n 1) (len := 1) (r := (0, 0, 0, 0)) (pc' := 49) (ls' := [some (.inl (some 52)), some (zi xs), some (zi xp), some (zi xk), some (zi xx), some (zi xy), some (zi xz), some (zi xc)]) (st' := [zi xs, .inl (some 56)]) (by decide +kernel) (fun k q => by cases q) rfl ?_
    refine y_same (i := .iload 7) (len := 2) (r := (0, 0, 0, 0)) (pc' := 51) (ls' := [some (.inl (some 52)), some (zi xs), some (zi xp), some (zi xk), some (zi xx), some (zi xy), some (zi xz), some (zi xc)]) (st' := [zi xc, zi xs, .inl (some 56)]) (by decide +kernel) (fun k q => by cases q) rfl ?_
    refine y_cI (i := .invokestatic 147) (len := 3) (r := (1, 168, 12, 1546)) (nL := 2) (k := 1) (n := 2) (hs := []) (args := [zi xs, zi xc]) (rest := [.inl (some 56)]) (l0 := [some (zi xs), some (zi xc)]) (by decide +kernel) (Or.inl ⟨_, rfl⟩) rfl rfl rfl rfl (Nat.le_of_ble_eq_true rfl) rfl rfl (qI_le (by decide) (m_partAt1 (d := 0) (k := ps.length) (by omega) (by omega) (by omega))) (fun y521 qy521 hRy521 => ?_)
    obtain ⟨rfl, hy521⟩ := hRy521
    refine y_same (i := .iload_n 3) (len := 1) (r := (0, 0, 0, 0)) (pc' := 55) (ls' := [some (.inl (some 52)), some (zi xs), some (zi xp), some (zi xk), some (zi xx), some (zi xy), some (zi xz), some (zi xc)]) (st' := [zi xk, zi y521, .inl (some 56)]) (by decide +kernel) (fun k q => by cases q) rfl ?_
    refine y_same (i := .iload 4) (len := 2) (r := (0, 0, 0, 0)) (pc' := 57) (ls' := [some (.inl (some 52)), some (zi xs), some (zi xp), some (zi xk), some (zi xx), some (zi xy), some (zi xz), some (zi xc)]) (st' := [zi xx, zi xk, zi y521, .inl (some 56)]) (by decide +kernel) (fun k q => by cases q) rfl ?_
    refine y_same (i := .iload 5) (len := 2) (r := (0, 0, 0, 0)) (pc' := 59) (ls' := [some (.inl (some 52)), some (zi xs), some (zi xp), some (zi xk), some (zi xx), some (zi xy), some (zi xz), some (zi xc)]) (st' := [zi xy, zi xx, zi xk, zi y521, .inl (some 56)]) (by decide +kernel) (fun k q => by cases q) rfl ?_
    refine y_same (i := .iload 6) (len := 2) (r := (0, 0, 0, 0)) (pc' := 61) (ls' := [some (.inl (some 52)), some (zi xs), some (zi xp), some (zi xk), some (zi xx), some (zi xy), some (zi xz), some (zi xc)]) (st' := [zi xz, zi xy, zi xx, zi xk, zi y521, .inl (some 56)]) (by decide +kernel) (fun k q => by cases q) rfl ?_
    refine y_cV (i := .invokestatic 151) (len := 3) (r := (1, 179, 12, 1549)) (nL := 6) (k := 0) (n := 6) (hs := []) (args := [.inl (some 56), zi y521, zi xk, zi xx, zi xy, zi xz]) (rest := []) (l0 := [some (.inl (some 56)), some (zi y521), some (zi xk), some (zi xx), some (zi xy), some (zi xz)]) (by decide +kernel) (Or.inl ⟨_, rfl⟩) rfl rfl rfl rfl (Nat.le_of_ble_eq_true rfl) rfl rfl (qV_le (by decide) (m_four (d := 0) (A := (48 + 4 * ps.length)) hg520 (by omega) (by omega) (by omega) (by omega) (by omega) (by omega) (by omega) (by omega) (by omega) (by omega) (by omega))) (fun h522 hR522 => ?_)
    obtain ⟨τ522, O522, it522⟩ := hR522
    refine y_rV (len := 1) (r := (0, 0, 0, 0)) (nL := 8) (n9 := 7) (hs := []) (by decide +kernel) rfl ?_
    have hv523 := (O522.2.2 56 56 46 (tu56 hg520) (show 56 ≠ 56 ∨ 46 < (48 + 4 * ps.length) ∨ (48 + 4 * ps.length) + 4 ≤ 46 by omega)).trans hs520
    have F : oF (fun k j => (k ≠ 52 ∨ (j ≠ 6 ∧ j ≠ 7)) ∧ (k ≠ 56 ∨ j < 46)) τ h τ522 h522 := ⟨O522.1, O522.2.1, fun k T j hk (hC : (k ≠ 52 ∨ (j ≠ 6 ∧ j ≠ 7)) ∧ (k ≠ 56 ∨ j < 46)) => ((O522.2.2 k T j hk (show k ≠ 56 ∨ j < (48 + 4 * ps.length) ∨ (48 + 4 * ps.length) + 4 ≤ j by omega)).trans (ho520 k j (by omega)))⟩
    refine ⟨_, F, Or.inl ⟨by omega, ⟨⟨⟨_, hv523, by simp only [List.length_append, List.length_cons, List.length_nil]; omega⟩, fun j i' hj => ?_⟩, ⟨⟨yo, ((O522.2.2 56 56 47 (tu56 hg520) (show 56 ≠ 56 ∨ 47 < (48 + 4 * ps.length) ∨ (48 + 4 * ps.length) + 4 ≤ 47 by omega)).trans (ho520 56 47 (Or.inr (by omega)))).trans ho, eo⟩, fun j i' hj => itM_up (hio j i' hj) (fun j9 g1 g2 => ?_)⟩, by simp only [List.length_append, List.length_cons, List.length_nil]; omega, by omega⟩, (ftM_up ft ((O522.2.2 52 52 6 (t52 hg520) (show 52 ≠ 56 ∨ 6 < (48 + 4 * ps.length) ∨ (48 + 4 * ps.length) + 4 ≤ 6 by omega)).trans (ho520 52 6 (Or.inl (by omega)))) ((O522.2.2 52 52 7 (t52 hg520) (show 52 ≠ 56 ∨ 7 < (48 + 4 * ps.length) ∨ (48 + 4 * ps.length) + 4 ≤ 7 by omega)).trans (ho520 52 7 (Or.inl (by omega)))))⟩⟩
    · rcases itm_at hj with ⟨q1, q2⟩ | ⟨rfl, rfl⟩
      · exact itM_up (him j i' q2) (fun j9 g1 g2 => ((O522.2.2 56 56 j9 (tu56 hg520) (show 56 ≠ 56 ∨ j9 < (48 + 4 * ps.length) ∨ (48 + 4 * ps.length) + 4 ≤ j9 by omega)).trans (ho520 56 j9 (Or.inr (by omega)))))
      · exact it522
    · have q1 := itm_lt hj
      exact ((O522.2.2 56 56 j9 (tu56 hg520) (show 56 ≠ 56 ∨ j9 < (48 + 4 * ps.length) ∨ (48 + 4 * ps.length) + 4 ≤ j9 by omega)).trans (ho520 56 j9 (Or.inr (by omega))))
  ·
    refine y_cF (c := .ne) (off := 10) (len := 3) (r := (0, 0, 0, 0)) (by decide +kernel) (acmpF (c := .ne) (by show _ = _; omega)) ?_
    refine y_same (i := .aload_n 0) (len := 1) (r := (0, 0, 0, 0)) (pc' := 25) (ls' := [some (.inl (some 52)), some (zi xs), some (zi xp), some (zi xk), some (zi xx), some (zi xy), some (zi xz), some (zi xc)]) (st' := [.inl (some 52)]) (by decide +kernel) (fun k q => by cases q) rfl ?_
    refine y_ic (c := 2) (len := 1) (r := (0, 0, 0, 0)) (by decide +kernel) (by decide) (fun y524 hy524 => ?_)
    refine y_same (i := .iload_n 2) (len := 1) (r := (0, 0, 0, 0)) (pc' := 27) (ls' := [some (.inl (some 52)), some (zi xs), some (zi xp), some (zi xk), some (zi xx), some (zi xy), some (zi xz), some (zi xc)]) (st' := [zi xp, zi y524, .inl (some 52)]) (by decide +kernel) (fun k q => by cases q) rfl ?_
    refine y_cV (i := .invokevirtual 139) (len := 3) (r := (0, 173, 12, 1529)) (nL := 3) (k := 0) (n := 3) (hs := []) (args := [.inl (some 52), zi y524, zi xp]) (rest := []) (l0 := [some (.inl (some 52)), some (zi y524), some (zi xp)]) (by decide +kernel) (Or.inr (Or.inl ⟨_, rfl⟩)) rfl rfl rfl rfl (Nat.le_of_ble_eq_true rfl) (z52 hg) rfl (qV_le (by decide) (m_wrong (d := 0) (r := 2) (q := q) hg ft (by omega) (by omega) (by omega) (by omega))) (fun h525 hR525 => ?_)
    obtain ⟨τ525, O525, ft525⟩ := hR525
    obtain ⟨⟨xf525, hf525, ef525⟩, xw525, hw525, ew525⟩ := id ft525
    refine y_rV (len := 1) (r := (0, 0, 0, 0)) (nL := 8) (n9 := 7) (hs := []) (by decide +kernel) rfl ?_
    exact ⟨_, ⟨O525.1, O525.2.1, fun k T j hk (hC : (k ≠ 52 ∨ (j ≠ 6 ∧ j ≠ 7)) ∧ (k ≠ 56 ∨ j < 46)) => (O525.2.2 k T j hk (show k ≠ 52 ∨ (j ≠ 6 ∧ j ≠ 7) by omega))⟩, Or.inr ⟨by omega, ft525⟩⟩
theorem m_tc1 {t q : Nat} {τ : List Nat} {h : zh} {ps cs : List it4} {xs xp xk xx xy : Int32} (hg : hG τ h) (ft : ftM h 0 (-1)) (rw9 : rwM h 46 47 48 68 ps cs) (hxs : xs.toInt = 1) (hq : xp.toInt = (q : Int)) (lxk : 0 ≤ xk.toInt) (uxk : xk.toInt ≤ 5) (lxx : 0 ≤ xx.toInt) (uxx : xx.toInt ≤ 5) (lxy : 0 ≤ xy.toInt) (uxy : xy.toInt ≤ 5) : qV 6 180 [some (.inl (some 52)), some (zi xs), some (zi xp), some (zi xk), some (zi xx), some (zi xy), none] h t (fun h1 => ∃ τ1, oF (fun k j => (k ≠ 52 ∨ (j ≠ 6 ∧ j ≠ 7)) ∧ (k ≠ 56 ∨ j < 46)) τ h τ1 h1 ∧ ((cs.length < 6 ∧ rwM h1 46 47 48 68 (ps) (cs ++ [(xk.toInt, xx.toInt, xy.toInt, 0)]) ∧ ftM h1 0 (-1)) ∨ (cs.length = 6 ∧ ftM h1 2 (q : Int)))) := by
  obtain ⟨⟨xf, hf6, ef⟩, xw, hw7, ew7⟩ := id ft
  obtain ⟨⟨⟨yo, ho, eo⟩, hio⟩, ⟨⟨xc, hc, ec⟩, him⟩, lp, lc⟩ := id rw9
  refine qV_of ?_
  refine y_same (i := .aload_n 0) (len := 1) (r := (0, 0, 0, 0)) (pc' := 1) (ls' := [some (.inl (some 52)), some (zi xs), some (zi xp), some (zi xk), some (zi xx), some (zi xy), none]) (st' := [.inl (some 52)]) (by decide +kernel) (fun k q => by cases q) rfl ?_
  refine y_cI (i := .invokevirtual 114) (len := 3) (r := (0, 172, 12, 1502)) (nL := 1) (k := 2) (n := 1) (hs := []) (args := [.inl (some 52)]) (rest := []) (l0 := [some (.inl (some 52))]) (by decide +kernel) (Or.inr (Or.inl ⟨_, rfl⟩)) rfl rfl rfl rfl (Nat.le_of_ble_eq_true rfl) (z52 hg) rfl (qI_le (by decide) (m_fine (d := 0) hg ft)) (fun y526 qy526 hRy526 => ?_)
  obtain ⟨rfl, gy526, by526⟩ := hRy526
  have hy526 : y526.toInt = 1 := gy526 rfl
  refine y_iT (c := .ne) (off := 4) (pc' := 8) (len := 3) (r := (0, 0, 0, 0)) (by decide +kernel) (acmpT (c := .ne) (by show ¬ (_ = _); omega)) (by decide +kernel) ?_
  refine y_same (i := .aload_n 0) (len := 1) (r := (0, 0, 0, 0)) (pc' := 9) (ls' := [some (.inl (some 52)), some (zi xs), some (zi xp), some (zi xk), some (zi xx), some (zi xy), none]) (st' := [.inl (some 52)]) (by decide +kernel) (fun k q => by cases q) rfl ?_
  refine y_get (j := 23) (len := 3) (r := (12, 10, 2, 1338)) (by decide +kernel) hg (t52 hg) at52 rfl rfl (g_r52 (f := 10) (T2 := 56) hg rfl (by decide)).1 ?_
  refine y_same (i := .iload_n 1) (len := 1) (r := (0, 0, 0, 0)) (pc' := 13) (ls' := [some (.inl (some 52)), some (zi xs), some (zi xp), some (zi xk), some (zi xx), some (zi xy), none]) (st' := [zi xs, .inl (some 56)]) (by decide +kernel) (fun k q => by cases q) rfl ?_
  refine y_cI (i := .invokestatic 155) (len := 3) (r := (1, 167, 12, 1560)) (nL := 2) (k := 1) (n := 2) (hs := []) (args := [.inl (some 56), zi xs]) (rest := []) (l0 := [some (.inl (some 56)), some (zi xs)]) (by decide +kernel) (Or.inl ⟨_, rfl⟩) rfl rfl rfl rfl (Nat.le_of_ble_eq_true rfl) rfl rfl (qI_le (by decide) (m_claims1 (d := 0) hg (by omega) hc)) (fun y527 qy527 hRy527 => ?_)
  obtain ⟨rfl, rfl⟩ := hRy527
  refine y_same (i := .istore 6) (len := 2) (r := (0, 0, 0, 0)) (pc' := 18) (ls' := [some (.inl (some 52)), some (zi xs), some (zi xp), some (zi xk), some (zi xx), some (zi xy), some (zi xc)]) (st' := []) (by decide +kernel) (fun k q => by cases q) rfl ?_
  refine y_same (i := .iload 6) (len := 2) (r := (0, 0, 0, 0)) (pc' := 20) (ls' := [some (.inl (some 52)), some (zi xs), some (zi xp), some (zi xk), some (zi xx), some (zi xy), some (zi xc)]) (st' := [zi xc]) (by decide +kernel) (fun k q => by cases q) rfl ?_
  refine y_bi (c := 6) (len := 2) (r := (0, 0, 0, 0)) (by decide +kernel) (by decide) (fun y528 hy528 => ?_)
  rcases Decidable.em (xc.toInt ≠ y528.toInt) with q529 | q529
  ·
    refine y_cT (c := .ne) (off := 10) (pc' := 32) (len := 3) (r := (0, 0, 0, 0)) (by decide +kernel) (acmpT (c := .ne) (by show ¬ (_ = _); omega)) (by decide +kernel) ?_
    refine y_same (i := .aload_n 0) (len := 1) (r := (0, 0, 0, 0)) (pc' := 33) (ls' := [some (.inl (some 52)), some (zi xs), some (zi xp), some (zi xk), some (zi xx), some (zi xy), some (zi xc)]) (st' := [.inl (some 52)]) (by decide +kernel) (fun k q => by cases q) rfl ?_
    refine y_get (j := 23) (len := 3) (r := (12, 10, 2, 1338)) (by decide +kernel) hg (t52 hg) at52 rfl rfl (g_r52 (f := 10) (T2 := 56) hg rfl (by decide)).1 ?_
    refine y_bi (c := 46) (len := 2) (r := (0, 0, 0, 0)) (by decide +kernel) (by decide) (fun y530 hy530 => ?_)
    refine y_same (i := .iload_n 1) (len := 1) (r := (0, 0, 0, 0)) (pc' := 39) (ls' := [some (.inl (some 52)), some (zi xs), some (zi xp), some (zi xk), some (zi xx), some (zi xy), some (zi xc)]) (st' := [zi xs, zi y530, .inl (some 56)]) (by decide +kernel) (fun k q => by cases q) rfl ?_
    refine y_mul (c := 46) (len := 1) (r := (0, 0, 0, 0)) (by decide +kernel) (by omega) (by omega) (by omega) (fun y531 hy531 => ?_)
    refine y_ic (c := 1) (len := 1) (r := (0, 0, 0, 0)) (by decide +kernel) (by decide) (fun y532 hy532 => ?_)
    refine y_add (len := 1) (r := (0, 0, 0, 0)) (by decide +kernel) (by omega) (by omega) (fun y533 hy533 => ?_)
    refine y_same (i := .dup2) (len := 1) (r := (0, 0, 0, 0)) (pc' := 43) (ls' := [some (.inl (some 52)), some (zi xs), some (zi xp), some (zi xk), some (zi xx), some (zi xy), some (zi xc)]) (st' := [zi y533, .inl (some 56), zi y533, .inl (some 56)]) (by decide +kernel) (fun k q => by cases q) rfl ?_
    refine y_ial (i := 47) (len := 1) (r := (0, 0, 0, 0)) (by decide +kernel) hg (tu56 hg) at56 (by omega) hc ?_
    refine y_ic (c := 1) (len := 1) (r := (0, 0, 0, 0)) (by decide +kernel) (by decide) (fun y534 hy534 => ?_)
    refine y_add (len := 1) (r := (0, 0, 0, 0)) (by decide +kernel) (by omega) (by omega) (fun y535 hy535 => ?_)
    refine y_ias (i := 47) (len := 1) (r := (0, 0, 0, 0)) (by decide +kernel) hg (tu56 hg) at56 rfl (by omega) (by omega) rfl (by omega) (by omega) (fun h536 hg536 hl536 hs536 ho536 => ?_)
    refine y_same (i := .aload_n 0) (len := 1) (r := (0, 0, 0, 0)) (pc' := 48) (ls' := [some (.inl (some 52)), some (zi xs), some (zi xp), some (zi xk), some (zi xx), some (zi xy), some (zi xc)]) (st' := [.inl (some 52)]) (by decide +kernel) (fun k q => by cases q) rfl ?_
    refine y_get (j := 23) (len := 3) (r := (12, 10, 2, 1338)) (by decide +kernel) hg536 (t52 hg536) at52 rfl rfl (g_r52 (f := 10) (T2 := 56) hg536 rfl (by decide)).1 ?_
    refine y_same (i := .iload_n 1) (len := 1) (r := (0, 0, 0, 0)) (pc' := 52) (ls' := [some (.inl (some 52)), some (zi xs), some (zi xp), some (zi xk), some (zi xx), some (zi xy), some (zi xc)]) (st' := [zi xs, .inl (some 56)]) (by decide +kernel) (fun k q => by cases q) rfl ?_
    refine y_same (i := .iload 6) (len := 2) (r := (0, 0, 0, 0)) (pc' := 54) (ls' := [some (.inl (some 52)), some (zi xs), some (zi xp), some (zi xk), some (zi xx), some (zi xy), some (zi xc)]) (st' := [zi xc, zi xs, .inl (some 56)]) (by decide +kernel) (fun k q => by cases q) rfl ?_
    refine y_cI (i := .invokestatic 158) (len := 3) (r := (1, 169, 12, 1563)) (nL := 2) (k := 1) (n := 2) (hs := []) (args := [zi xs, zi xc]) (rest := [.inl (some 56)]) (l0 := [some (zi xs), some (zi xc)]) (by decide +kernel) (Or.inl ⟨_, rfl⟩) rfl rfl rfl rfl (Nat.le_of_ble_eq_true rfl) rfl rfl (qI_le (by decide) (m_claimAt1 (d := 0) (k := cs.length) (by omega) (by omega) (by omega))) (fun y537 qy537 hRy537 => ?_)
    obtain ⟨rfl, hy537⟩ := hRy537
    refine y_same (i := .iload_n 3) (len := 1) (r := (0, 0, 0, 0)) (pc' := 58) (ls' := [some (.inl (some 52)), some (zi xs), some (zi xp), some (zi xk), some (zi xx), some (zi xy), some (zi xc)]) (st' := [zi xk, zi y537, .inl (some 56)]) (by decide +kernel) (fun k q => by cases q) rfl ?_
    refine y_same (i := .iload 4) (len := 2) (r := (0, 0, 0, 0)) (pc' := 60) (ls' := [some (.inl (some 52)), some (zi xs), some (zi xp), some (zi xk), some (zi xx), some (zi xy), some (zi xc)]) (st' := [zi xx, zi xk, zi y537, .inl (some 56)]) (by decide +kernel) (fun k q => by cases q) rfl ?_
    refine y_same (i := .iload 5) (len := 2) (r := (0, 0, 0, 0)) (pc' := 62) (ls' := [some (.inl (some 52)), some (zi xs), some (zi xp), some (zi xk), some (zi xx), some (zi xy), some (zi xc)]) (st' := [zi xy, zi xx, zi xk, zi y537, .inl (some 56)]) (by decide +kernel) (fun k q => by cases q) rfl ?_
    refine y_ic (c := 0) (len := 1) (r := (0, 0, 0, 0)) (by decide +kernel) (by decide) (fun y538 hy538 => ?_)
    refine y_cV (i := .invokestatic 151) (len := 3) (r := (1, 179, 12, 1549)) (nL := 6) (k := 0) (n := 6) (hs := []) (args := [.inl (some 56), zi y537, zi xk, zi xx, zi xy, zi y538]) (rest := []) (l0 := [some (.inl (some 56)), some (zi y537), some (zi xk), some (zi xx), some (zi xy), some (zi y538)]) (by decide +kernel) (Or.inl ⟨_, rfl⟩) rfl rfl rfl rfl (Nat.le_of_ble_eq_true rfl) rfl rfl (qV_le (by decide) (m_four (d := 0) (A := (68 + 4 * cs.length)) hg536 (by omega) (by omega) (by omega) (by omega) (by omega) (by omega) (by omega) (by omega) (by omega) (by omega) (by omega))) (fun h539 hR539 => ?_)
    obtain ⟨τ539, O539, it539⟩ := hR539
    refine y_rV (len := 1) (r := (0, 0, 0, 0)) (nL := 7) (n9 := 6) (hs := []) (by decide +kernel) rfl ?_
    have hv540 := (O539.2.2 56 56 47 (tu56 hg536) (show 56 ≠ 56 ∨ 47 < (68 + 4 * cs.length) ∨ (68 + 4 * cs.length) + 4 ≤ 47 by omega)).trans hs536
    have F : oF (fun k j => (k ≠ 52 ∨ (j ≠ 6 ∧ j ≠ 7)) ∧ (k ≠ 56 ∨ j < 46)) τ h τ539 h539 := ⟨O539.1, O539.2.1, fun k T j hk (hC : (k ≠ 52 ∨ (j ≠ 6 ∧ j ≠ 7)) ∧ (k ≠ 56 ∨ j < 46)) => ((O539.2.2 k T j hk (show k ≠ 56 ∨ j < (68 + 4 * cs.length) ∨ (68 + 4 * cs.length) + 4 ≤ j by omega)).trans (ho536 k j (by omega)))⟩
    have hz : y538.toInt = 0 := by omega
    refine ⟨_, F, Or.inl ⟨by omega, ⟨⟨⟨yo, ((O539.2.2 56 56 46 (tu56 hg536) (show 56 ≠ 56 ∨ 46 < (68 + 4 * cs.length) ∨ (68 + 4 * cs.length) + 4 ≤ 46 by omega)).trans (ho536 56 46 (Or.inr (by omega)))).trans ho, eo⟩, fun j i' hj => itM_up (hio j i' hj) (fun j9 g1 g2 => ?_)⟩, ⟨⟨_, hv540, by simp only [List.length_append, List.length_cons, List.length_nil]; omega⟩, fun j i' hj => ?_⟩, by omega, by simp only [List.length_append, List.length_cons, List.length_nil]; omega⟩, (ftM_up ft ((O539.2.2 52 52 6 (t52 hg536) (show 52 ≠ 56 ∨ 6 < (68 + 4 * cs.length) ∨ (68 + 4 * cs.length) + 4 ≤ 6 by omega)).trans (ho536 52 6 (Or.inl (by omega)))) ((O539.2.2 52 52 7 (t52 hg536) (show 52 ≠ 56 ∨ 7 < (68 + 4 * cs.length) ∨ (68 + 4 * cs.length) + 4 ≤ 7 by omega)).trans (ho536 52 7 (Or.inl (by omega)))))⟩⟩
    · have q1 := itm_lt hj
      exact ((O539.2.2 56 56 j9 (tu56 hg536) (show 56 ≠ 56 ∨ j9 < (68 + 4 * cs.length) ∨ (68 + 4 * cs.length) + 4 ≤ j9 by omega)).trans (ho536 56 j9 (Or.inr (by omega))))
    · rcases itm_at hj with ⟨q1, q2⟩ | ⟨rfl, rfl⟩
      · exact itM_up (him j i' q2) (fun j9 g1 g2 => ((O539.2.2 56 56 j9 (tu56 hg536) (show 56 ≠ 56 ∨ j9 < (68 + 4 * cs.length) ∨ (68 + 4 * cs.length) + 4 ≤ j9 by omega)).trans (ho536 56 j9 (Or.inr (by omega)))))
      · have w9 := it539
        rw [hz] at w9
        exact w9
  ·
    refine y_cF (c := .ne) (off := 10) (len := 3) (r := (0, 0, 0, 0)) (by decide +kernel) (acmpF (c := .ne) (by show _ = _; omega)) ?_
    refine y_same (i := .aload_n 0) (len := 1) (r := (0, 0, 0, 0)) (pc' := 26) (ls' := [some (.inl (some 52)), some (zi xs), some (zi xp), some (zi xk), some (zi xx), some (zi xy), some (zi xc)]) (st' := [.inl (some 52)]) (by decide +kernel) (fun k q => by cases q) rfl ?_
    refine y_ic (c := 2) (len := 1) (r := (0, 0, 0, 0)) (by decide +kernel) (by decide) (fun y541 hy541 => ?_)
    refine y_same (i := .iload_n 2) (len := 1) (r := (0, 0, 0, 0)) (pc' := 28) (ls' := [some (.inl (some 52)), some (zi xs), some (zi xp), some (zi xk), some (zi xx), some (zi xy), some (zi xc)]) (st' := [zi xp, zi y541, .inl (some 52)]) (by decide +kernel) (fun k q => by cases q) rfl ?_
    refine y_cV (i := .invokevirtual 139) (len := 3) (r := (0, 173, 12, 1529)) (nL := 3) (k := 0) (n := 3) (hs := []) (args := [.inl (some 52), zi y541, zi xp]) (rest := []) (l0 := [some (.inl (some 52)), some (zi y541), some (zi xp)]) (by decide +kernel) (Or.inr (Or.inl ⟨_, rfl⟩)) rfl rfl rfl rfl (Nat.le_of_ble_eq_true rfl) (z52 hg) rfl (qV_le (by decide) (m_wrong (d := 0) (r := 2) (q := q) hg ft (by omega) (by omega) (by omega) (by omega))) (fun h542 hR542 => ?_)
    obtain ⟨τ542, O542, ft542⟩ := hR542
    obtain ⟨⟨xf542, hf542, ef542⟩, xw542, hw542, ew542⟩ := id ft542
    refine y_rV (len := 1) (r := (0, 0, 0, 0)) (nL := 7) (n9 := 6) (hs := []) (by decide +kernel) rfl ?_
    exact ⟨_, ⟨O542.1, O542.2.1, fun k T j hk (hC : (k ≠ 52 ∨ (j ≠ 6 ∧ j ≠ 7)) ∧ (k ≠ 56 ∨ j < 46)) => (O542.2.2 k T j hk (show k ≠ 52 ∨ (j ≠ 6 ∧ j ≠ 7) by omega))⟩, Or.inr ⟨by omega, ft542⟩⟩
theorem s_tp {t : Nat} {r w : Int} {τ : List Nat} {h : zh} {xs xp xk xx xy xz : Int32} (hg : hG τ h) (ft : ftM h r w) (hr : r ≠ 0) : qV 6 178 [some (.inl (some 52)), some (zi xs), some (zi xp), some (zi xk), some (zi xx), some (zi xy), some (zi xz), none] h t (fun h1 => h = h1) := by
  refine qV_of ?_
  refine y_same (i := .aload_n 0) (len := 1) (r := (0, 0, 0, 0)) (pc' := 1) (ls' := [some (.inl (some 52)), some (zi xs), some (zi xp), some (zi xk), some (zi xx), some (zi xy), some (zi xz), none]) (st' := [.inl (some 52)]) (by decide +kernel) (fun k q => by cases q) rfl ?_
  refine y_cI (i := .invokevirtual 114) (len := 3) (r := (0, 172, 12, 1502)) (nL := 1) (k := 2) (n := 1) (hs := []) (args := [.inl (some 52)]) (rest := []) (l0 := [some (.inl (some 52))]) (by decide +kernel) (Or.inr (Or.inl ⟨_, rfl⟩)) rfl rfl rfl rfl (Nat.le_of_ble_eq_true rfl) (z52 hg) rfl (qI_le (by decide) (m_fine (d := 0) hg ft)) (fun y543 qy543 hRy543 => ?_)
  obtain ⟨rfl, gy543, by543⟩ := hRy543
  have hy543 : y543.toInt = 0 := by543 (by omega)
  refine y_iF (c := .ne) (off := 4) (len := 3) (r := (0, 0, 0, 0)) (by decide +kernel) (acmpF (c := .ne) (by show _ = _; omega)) ?_
  refine y_rV (len := 1) (r := (0, 0, 0, 0)) (nL := 8) (n9 := 7) (hs := []) (by decide +kernel) rfl ?_
  exact rfl
theorem s_tc {t : Nat} {r w : Int} {τ : List Nat} {h : zh} {xs xp xk xx xy : Int32} (hg : hG τ h) (ft : ftM h r w) (hr : r ≠ 0) : qV 6 180 [some (.inl (some 52)), some (zi xs), some (zi xp), some (zi xk), some (zi xx), some (zi xy), none] h t (fun h1 => h = h1) := by
  refine qV_of ?_
  refine y_same (i := .aload_n 0) (len := 1) (r := (0, 0, 0, 0)) (pc' := 1) (ls' := [some (.inl (some 52)), some (zi xs), some (zi xp), some (zi xk), some (zi xx), some (zi xy), none]) (st' := [.inl (some 52)]) (by decide +kernel) (fun k q => by cases q) rfl ?_
  refine y_cI (i := .invokevirtual 114) (len := 3) (r := (0, 172, 12, 1502)) (nL := 1) (k := 2) (n := 1) (hs := []) (args := [.inl (some 52)]) (rest := []) (l0 := [some (.inl (some 52))]) (by decide +kernel) (Or.inr (Or.inl ⟨_, rfl⟩)) rfl rfl rfl rfl (Nat.le_of_ble_eq_true rfl) (z52 hg) rfl (qI_le (by decide) (m_fine (d := 0) hg ft)) (fun y544 qy544 hRy544 => ?_)
  obtain ⟨rfl, gy544, by544⟩ := hRy544
  have hy544 : y544.toInt = 0 := by544 (by omega)
  refine y_iF (c := .ne) (off := 4) (len := 3) (r := (0, 0, 0, 0)) (by decide +kernel) (acmpF (c := .ne) (by show _ = _; omega)) ?_
  refine y_rV (len := 1) (r := (0, 0, 0, 0)) (nL := 7) (n9 := 6) (hs := []) (by decide +kernel) rfl ?_
  exact rfl
