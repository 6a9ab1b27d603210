/-! a sequent of the class: its STEP -/
theorem QC_up {τ : List Nat} {h h1 : zh} {b : Nat} {s : sqT} (Q : QC τ h b s) (g : hG τ h1) (F : ∀ k j, b ≤ k → k < b + 9 → (k ≠ b ∨ j < 4) → hsl h1 k j = hsl h k j) : QC τ h1 b s := by
  obtain ⟨-, ty, ⟨l1, l2, l3, l4, l5, l6, l7, l8⟩, ⟨r1, r2, r3, r4⟩, ok⟩ := Q
  exact ⟨g, ty, ⟨rfs_up l1 (F _ _ (by omega) (by omega) (by omega)), rfs_up l2 (F _ _ (by omega) (by omega) (by omega)), rfs_up l3 (F _ _ (by omega) (by omega) (by omega)), rfs_up l4 (F _ _ (by omega) (by omega) (by omega)), rfs_up l5 (F _ _ (by omega) (by omega) (by omega)), rfs_up l6 (F _ _ (by omega) (by omega) (by omega)), rfs_up l7 (F _ _ (by omega) (by omega) (by omega)), rfs_up l8 (F _ _ (by omega) (by omega) (by omega))⟩, ⟨rwC_up r1 (F _ _ (by omega) (by omega) (by omega)) (fun j => F _ _ (by omega) (by omega) (by omega)), rwC_up r2 (F _ _ (by omega) (by omega) (by omega)) (fun j => F _ _ (by omega) (by omega) (by omega)), rwC_up r3 (F _ _ (by omega) (by omega) (by omega)) (fun j => F _ _ (by omega) (by omega) (by omega)), dC_up r4 (fun j => F _ _ (by omega) (by omega) (by omega))⟩, ok⟩
/-- whether a STEP can be done by a part to the right and one to the left -/
def ftq_ (s : sqT) (w : Nat) (p q : it4) : Prop := p.2.1 = q.2.1 ∧ ((w = 3 ∧ p = q) ∨ (w = 4 ∧ p.1 = q.1 ∧ q.1 ≤ 1) ∨ (w = 5 ∧ ((p.1 = 3 ∧ q.1 = 1) ∨ (p.1 = 2 ∧ q.1 = 0 ∧ kn s.1 s.2.2.2 p.2.1 p.2.2.1))) ∨ (w = 6 ∧ p.1 = 2 ∧ q.1 = 0) ∨ (w = 7 ∧ 2 ≤ q.1))
def nof_ (s : sqT) (w : Nat) : Prop := ∀ v p q, 3 ≤ v → v < w → p ∈ s.2.1 → q ∈ s.1 → ¬ ftq_ s v p q
/-- the first STEP that can be done, by which parts -/
def fnd_ (s : sqT) (st r l : Nat) : Prop := (3 ≤ st ∧ st ≤ 7 ∧ nof_ s st ∧ (∃ p q, s.2.1[r]? = some p ∧ s.1[l]? = some q ∧ ftq_ s st p q) ∧ ∀ (r9 l9 : Nat) (p q : it4), s.2.1[r9]? = some p → s.1[l9]? = some q → (r9 < r ∨ (r9 = r ∧ l9 < l)) → ¬ ftq_ s st p q) ∨ (st = 8 ∧ nof_ s 8 ∧ (∃ p, s.2.1[r]? = some p ∧ 2 ≤ p.1) ∧ ∀ (r9 : Nat) (p : it4), r9 < r → s.2.1[r9]? = some p → p.1 < 2) ∨ (st = 9 ∧ nof_ s 8 ∧ ∀ p ∈ s.2.1, p.1 < 2)
theorem fnd_one {s : sqT} {st r l st' r' l' : Nat} (a : fnd_ s st r l) (b : fnd_ s st' r' l') : st = st' ∧ (st ≤ 8 → r = r') ∧ (st ≤ 7 → l = l') := by
  have key : ∀ {x r l x' : Nat}, fnd_ s x r l → nof_ s x' → 3 ≤ x → x ≤ 7 → x < x' → False := fun {x r l x'} h n h1 h2 h3 => by
    rcases h with ⟨-, -, -, ⟨p, q, e1, e2, f⟩, -⟩ | ⟨e, -⟩ | ⟨e, -⟩
    · exact n x p q h1 h3 (List.mem_of_getElem? e1) (List.mem_of_getElem? e2) f
    · omega
    · omega
  have g3 : ∀ {x r l : Nat}, fnd_ s x r l → 3 ≤ x ∧ x ≤ 9 := fun {x r l} h => by
    rcases h with ⟨h1, h2, -⟩ | ⟨e, -⟩ | ⟨e, -⟩ <;> omega
  have n8 : ∀ {x r l : Nat}, fnd_ s x r l → nof_ s (min x 8) := fun {x r l} h => by
    rcases h with ⟨h1, h2, h3, -⟩ | ⟨e, h3, -⟩ | ⟨e, h3, -⟩
    · rw [show min x 8 = x by omega]
      exact h3
    · rw [show min x 8 = 8 by omega]
      exact h3
    · rw [show min x 8 = 8 by omega]
      exact h3
  have ga := g3 a
  have gb := g3 b
  have e7 : st = st' ∨ (8 ≤ st ∧ 8 ≤ st') := by
    rcases Nat.lt_trichotomy (min st 8) (min st' 8) with q | q | q
    · exact (key a (n8 b) ga.1 (by omega) (by omega)).elim
    · omega
    · exact (key b (n8 a) gb.1 (by omega) (by omega)).elim
  rcases a with ⟨a1, a2, a3, ⟨p, q, a4, a5, a6⟩, a7⟩ | ⟨a1, a3, ⟨p, a4, a5⟩, a6⟩ | ⟨a1, a3, a4⟩
  · have e : st = st' := by omega
    subst e
    rcases b with ⟨b1, b2, b3, ⟨p', q', b4, b5, b6⟩, b7⟩ | ⟨b1, -⟩ | ⟨b1, -⟩
    · have h1 : ¬ (r < r' ∨ (r = r' ∧ l < l')) := fun c => b7 r l p q a4 a5 c a6
      have h2 : ¬ (r' < r ∨ (r' = r ∧ l' < l)) := fun c => a7 r' l' p' q' b4 b5 c b6
      exact ⟨rfl, fun _ => by omega, fun _ => by omega⟩
    · omega
    · omega
  · rcases b with ⟨b1, b2, -⟩ | ⟨b1, b3, ⟨p', b4, b5⟩, b6⟩ | ⟨b1, b3, b4⟩
    · omega
    · have h1 : ¬ r < r' := fun c => by
        have := b6 r p c a4
        omega
      have h2 : ¬ r' < r := fun c => by
        have := a6 r' p' c b4
        omega
      exact ⟨by omega, fun _ => by omega, fun _ => by omega⟩
    · have := b4 p (List.mem_of_getElem? a4)
      omega
  · rcases b with ⟨b1, b2, -⟩ | ⟨b1, b3, ⟨p', b4, b5⟩, b6⟩ | ⟨b1, b3, b4⟩
    · omega
    · have := a4 p' (List.mem_of_getElem? b4)
      omega
    · exact ⟨by omega, fun _ => by omega, fun _ => by omega⟩
theorem q_fit {d t a : Nat} {τ : List Nat} {h : zh} {s : sqT} (Q : QC τ h a s) {w r l : Nat} {ip iq : it4} {xw xr xl : Int32} (exw : xw.toInt = (w : Int)) (hw : 3 ≤ w ∧ w ≤ 7) (exr : xr.toInt = (r : Int)) (kip : s.2.1[r]? = some ip) (exl : xl.toInt = (l : Int)) (kiq : s.1[l]? = some iq) : qI (d + 4) 95 [some (.inl (some a)), some (zi xw), some (zi xr), some (zi xl), none, none] h t (fun y h1 => h = h1 ∧ ((y.toInt = 1 ∧ ftq_ s w ip iq) ∨ (y.toInt = 0 ∧ ¬ ftq_ s w ip iq))) := by
  have hr9 := (List.getElem?_eq_some_iff.mp kip).1
  have hl9 := (List.getElem?_eq_some_iff.mp kiq).1
  have oip := okQ_R Q.2.2.2.2 kip
  have oiq := okQ_L Q.2.2.2.2 kiq
  have pip := oip.1
  have piq := oiq.1
  unfold okV at pip piq
  refine qI_of ?_
  refine y_same (i := .aload_n 0) (len := 1) (r := (0, 0, 0, 0)) (pc' := 1) (ls' := [some (.inl (some a)), some (zi xw), some (zi xr), some (zi xl), none, none]) (st' := [.inl (some a)]) (by decide +kernel) (fun k q => by cases q) rfl ?_
  refine y_get (j := 27) (len := 3) (r := (7, 2, 2, 536)) (by decide +kernel) Q.1 Q.2.1.1 aw1008 rfl rfl Q.2.2.1.2.2.1 ?_
  refine y_same (i := .iload_n 2) (len := 1) (r := (0, 0, 0, 0)) (pc' := 5) (ls' := [some (.inl (some a)), some (zi xw), some (zi xr), some (zi xl), none, none]) (st' := [zi xr, .inl (some ((a + 5)))]) (by decide +kernel) (fun k q => by cases q) rfl ?_
  refine y_ic (c := 1) (len := 1) (r := (0, 0, 0, 0)) (by decide +kernel) (by decide) (fun y2162 hy2162 => ?_)
  refine y_cI (i := .invokevirtual 68) (len := 3) (r := (0, 64, 6, 586)) (nL := 3) (k := 1) (n := 3) (hs := []) (args := [.inl (some ((a + 5))), zi xr, zi y2162]) (rest := []) (l0 := [some (.inl (some ((a + 5)))), some (zi xr), some (zi y2162)]) (by decide +kernel) (Or.inr (Or.inl ⟨_, rfl⟩)) rfl rfl rfl rfl (Nat.le_of_ble_eq_true rfl) (zO Q.1 Q.2.1.2.2.2.2.2.1 aw1004 rfl) rfl (qI_le (by omega) (q_tlR (d := 0) (k := r) (w := 1) Q (by omega) kip (by omega) (by omega))) (fun y2163 qy2163 hRy2163 => ?_)
  obtain ⟨rfl, ey2163⟩ := hRy2163
  have ey2163 : y2163.toInt = ip.2.1 := ey2163
  refine y_same (i := .aload_n 0) (len := 1) (r := (0, 0, 0, 0)) (pc' := 10) (ls' := [some (.inl (some a)), some (zi xw), some (zi xr), some (zi xl), none, none]) (st' := [.inl (some a), zi y2163]) (by decide +kernel) (fun k q => by cases q) rfl ?_
  refine y_get (j := 23) (len := 3) (r := (7, 1, 2, 533)) (by decide +kernel) Q.1 Q.2.1.1 aw1008 rfl rfl Q.2.2.1.2.1 ?_
  refine y_same (i := .iload_n 3) (len := 1) (r := (0, 0, 0, 0)) (pc' := 14) (ls' := [some (.inl (some a)), some (zi xw), some (zi xr), some (zi xl), none, none]) (st' := [zi xl, .inl (some ((a + 3))), zi y2163]) (by decide +kernel) (fun k q => by cases q) rfl ?_
  refine y_ic (c := 1) (len := 1) (r := (0, 0, 0, 0)) (by decide +kernel) (by decide) (fun y2164 hy2164 => ?_)
  refine y_cI (i := .invokevirtual 68) (len := 3) (r := (0, 64, 6, 586)) (nL := 3) (k := 1) (n := 3) (hs := []) (args := [.inl (some ((a + 3))), zi xl, zi y2164]) (rest := [zi y2163]) (l0 := [some (.inl (some ((a + 3)))), some (zi xl), some (zi y2164)]) (by decide +kernel) (Or.inr (Or.inl ⟨_, rfl⟩)) rfl rfl rfl rfl (Nat.le_of_ble_eq_true rfl) (zO Q.1 Q.2.1.2.2.2.1 aw1004 rfl) rfl (qI_le (by omega) (q_tlL (d := 0) (k := l) (w := 1) Q (by omega) kiq (by omega) (by omega))) (fun y2165 qy2165 hRy2165 => ?_)
  obtain ⟨rfl, ey2165⟩ := hRy2165
  have ey2165 : y2165.toInt = iq.2.1 := ey2165
  rcases Decidable.em (y2163.toInt = y2165.toInt) with q2166 | q2166
  ·
    refine y_cT (c := .eq) (off := 5) (pc' := 23) (len := 3) (r := (0, 0, 0, 0)) (by decide +kernel) (acmpT (c := .eq) (by show _ = _; omega)) (by decide +kernel) ?_
    refine y_same (i := .aload_n 0) (len := 1) (r := (0, 0, 0, 0)) (pc' := 24) (ls' := [some (.inl (some a)), some (zi xw), some (zi xr), some (zi xl), none, none]) (st' := [.inl (some a)]) (by decide +kernel) (fun k q => by cases q) rfl ?_
    refine y_get (j := 23) (len := 3) (r := (7, 1, 2, 533)) (by decide +kernel) Q.1 Q.2.1.1 aw1008 rfl rfl Q.2.2.1.2.1 ?_
    refine y_same (i := .iload_n 3) (len := 1) (r := (0, 0, 0, 0)) (pc' := 28) (ls' := [some (.inl (some a)), some (zi xw), some (zi xr), some (zi xl), none, none]) (st' := [zi xl, .inl (some ((a + 3)))]) (by decide +kernel) (fun k q => by cases q) rfl ?_
    refine y_ic (c := 0) (len := 1) (r := (0, 0, 0, 0)) (by decide +kernel) (by decide) (fun y2167 hy2167 => ?_)
    refine y_cI (i := .invokevirtual 68) (len := 3) (r := (0, 64, 6, 586)) (nL := 3) (k := 1) (n := 3) (hs := []) (args := [.inl (some ((a + 3))), zi xl, zi y2167]) (rest := []) (l0 := [some (.inl (some ((a + 3)))), some (zi xl), some (zi y2167)]) (by decide +kernel) (Or.inr (Or.inl ⟨_, rfl⟩)) rfl rfl rfl rfl (Nat.le_of_ble_eq_true rfl) (zO Q.1 Q.2.1.2.2.2.1 aw1004 rfl) rfl (qI_le (by omega) (q_tlL (d := 0) (k := l) (w := 0) Q (by omega) kiq (by omega) (by omega))) (fun y2168 qy2168 hRy2168 => ?_)
    obtain ⟨rfl, ey2168⟩ := hRy2168
    have ey2168 : y2168.toInt = iq.1 := ey2168
    refine y_same (i := .istore 4) (len := 2) (r := (0, 0, 0, 0)) (pc' := 34) (ls' := [some (.inl (some a)), some (zi xw), some (zi xr), some (zi xl), some (zi y2168), none]) (st' := []) (by decide +kernel) (fun k q => by cases q) rfl ?_
    refine y_same (i := .aload_n 0) (len := 1) (r := (0, 0, 0, 0)) (pc' := 35) (ls' := [some (.inl (some a)), some (zi xw), some (zi xr), some (zi xl), some (zi y2168), none]) (st' := [.inl (some a)]) (by decide +kernel) (fun k q => by cases q) rfl ?_
    refine y_get (j := 27) (len := 3) (r := (7, 2, 2, 536)) (by decide +kernel) Q.1 Q.2.1.1 aw1008 rfl rfl Q.2.2.1.2.2.1 ?_
    refine y_same (i := .iload_n 2) (len := 1) (r := (0, 0, 0, 0)) (pc' := 39) (ls' := [some (.inl (some a)), some (zi xw), some (zi xr), some (zi xl), some (zi y2168), none]) (st' := [zi xr, .inl (some ((a + 5)))]) (by decide +kernel) (fun k q => by cases q) rfl ?_
    refine y_ic (c := 0) (len := 1) (r := (0, 0, 0, 0)) (by decide +kernel) (by decide) (fun y2169 hy2169 => ?_)
    refine y_cI (i := .invokevirtual 68) (len := 3) (r := (0, 64, 6, 586)) (nL := 3) (k := 1) (n := 3) (hs := []) (args := [.inl (some ((a + 5))), zi xr, zi y2169]) (rest := []) (l0 := [some (.inl (some ((a + 5)))), some (zi xr), some (zi y2169)]) (by decide +kernel) (Or.inr (Or.inl ⟨_, rfl⟩)) rfl rfl rfl rfl (Nat.le_of_ble_eq_true rfl) (zO Q.1 Q.2.1.2.2.2.2.2.1 aw1004 rfl) rfl (qI_le (by omega) (q_tlR (d := 0) (k := r) (w := 0) Q (by omega) kip (by omega) (by omega))) (fun y2170 qy2170 hRy2170 => ?_)
    obtain ⟨rfl, ey2170⟩ := hRy2170
    have ey2170 : y2170.toInt = ip.1 := ey2170
    refine y_same (i := .istore 5) (len := 2) (r := (0, 0, 0, 0)) (pc' := 45) (ls' := [some (.inl (some a)), some (zi xw), some (zi xr), some (zi xl), some (zi y2168), some (zi y2170)]) (st' := []) (by decide +kernel) (fun k q => by cases q) rfl ?_
    refine y_same (i := .iload_n 1) (len := 1) (r := (0, 0, 0, 0)) (pc' := 46) (ls' := [some (.inl (some a)), some (zi xw), some (zi xr), some (zi xl), some (zi y2168), some (zi y2170)]) (st' := [zi xw]) (by decide +kernel) (fun k q => by cases q) rfl ?_
    rcases (show xw.toInt = 3 ∨ xw.toInt = 4 ∨ xw.toInt = 5 ∨ xw.toInt = 6 ∨ (xw.toInt < 3 ∨ 6 < xw.toInt) by omega) with q2171 | q2171 | q2171 | q2171 | q2171
    ·
      refine y_sw (dflt := 145) (lo := 3) (hi := 6) (offs := #[30, 55, 74, 128]) (off := 30) (pc' := 76) (len := 30) (r := (0, 0, 0, 0)) (by decide +kernel) (zswI (k := 0) (by omega) (by omega) (by omega) rfl) (by decide +kernel) ?_
      refine y_same (i := .aload_n 0) (len := 1) (r := (0, 0, 0, 0)) (pc' := 77) (ls' := [some (.inl (some a)), some (zi xw), some (zi xr), some (zi xl), some (zi y2168), some (zi y2170)]) (st' := [.inl (some a)]) (by decide +kernel) (fun k q => by cases q) rfl ?_
      refine y_get (j := 27) (len := 3) (r := (7, 2, 2, 536)) (by decide +kernel) Q.1 Q.2.1.1 aw1008 rfl rfl Q.2.2.1.2.2.1 ?_
      refine y_same (i := .iload_n 2) (len := 1) (r := (0, 0, 0, 0)) (pc' := 81) (ls' := [some (.inl (some a)), some (zi xw), some (zi xr), some (zi xl), some (zi y2168), some (zi y2170)]) (st' := [zi xr, .inl (some ((a + 5)))]) (by decide +kernel) (fun k q => by cases q) rfl ?_
      refine y_cI (i := .invokevirtual 76) (len := 3) (r := (0, 65, 6, 597)) (nL := 2) (k := 1) (n := 2) (hs := []) (args := [.inl (some ((a + 5))), zi xr]) (rest := []) (l0 := [some (.inl (some ((a + 5)))), some (zi xr)]) (by decide +kernel) (Or.inr (Or.inl ⟨_, rfl⟩)) rfl rfl rfl rfl (Nat.le_of_ble_eq_true rfl) (zO Q.1 Q.2.1.2.2.2.2.2.1 aw1004 rfl) rfl (qI_le (by omega) (q_itR (d := 0) (k := r) Q (by omega) kip)) (fun y2172 qy2172 hRy2172 => ?_)
      obtain ⟨rfl, ey2172⟩ := hRy2172
      refine y_same (i := .aload_n 0) (len := 1) (r := (0, 0, 0, 0)) (pc' := 85) (ls' := [some (.inl (some a)), some (zi xw), some (zi xr), some (zi xl), some (zi y2168), some (zi y2170)]) (st' := [.inl (some a), zi y2172]) (by decide +kernel) (fun k q => by cases q) rfl ?_
      refine y_get (j := 23) (len := 3) (r := (7, 1, 2, 533)) (by decide +kernel) Q.1 Q.2.1.1 aw1008 rfl rfl Q.2.2.1.2.1 ?_
      refine y_same (i := .iload_n 3) (len := 1) (r := (0, 0, 0, 0)) (pc' := 89) (ls' := [some (.inl (some a)), some (zi xw), some (zi xr), some (zi xl), some (zi y2168), some (zi y2170)]) (st' := [zi xl, .inl (some ((a + 3))), zi y2172]) (by decide +kernel) (fun k q => by cases q) rfl ?_
      refine y_cI (i := .invokevirtual 76) (len := 3) (r := (0, 65, 6, 597)) (nL := 2) (k := 1) (n := 2) (hs := []) (args := [.inl (some ((a + 3))), zi xl]) (rest := [zi y2172]) (l0 := [some (.inl (some ((a + 3)))), some (zi xl)]) (by decide +kernel) (Or.inr (Or.inl ⟨_, rfl⟩)) rfl rfl rfl rfl (Nat.le_of_ble_eq_true rfl) (zO Q.1 Q.2.1.2.2.2.1 aw1004 rfl) rfl (qI_le (by omega) (q_itL (d := 0) (k := l) Q (by omega) kiq)) (fun y2173 qy2173 hRy2173 => ?_)
      obtain ⟨rfl, ey2173⟩ := hRy2173
      rcases Decidable.em (y2172.toInt ≠ y2173.toInt) with q2174 | q2174
      ·
        refine y_cT (c := .ne) (off := 7) (pc' := 99) (len := 3) (r := (0, 0, 0, 0)) (by decide +kernel) (acmpT (c := .ne) (by show ¬ (_ = _); omega)) (by decide +kernel) ?_
        refine y_ic (c := 0) (len := 1) (r := (0, 0, 0, 0)) (by decide +kernel) (by decide) (fun y2175 hy2175 => ?_)
        refine y_rI (len := 1) (r := (0, 0, 0, 0)) (nL := 6) (k := 2) (n9 := 4) (hs := []) (by decide +kernel) rfl (zfit_b (by omega) (by omega)).2 ?_
        refine ⟨rfl, Or.inr ⟨by omega, fun q9 => ?_⟩⟩
        rcases q9 with ⟨e0, ⟨w9, c⟩ | ⟨w9, c1, c2⟩ | ⟨w9, ⟨c1, c2⟩ | ⟨c1, c2, c3⟩⟩ | ⟨w9, c1, c2⟩ | ⟨w9, c⟩⟩
        · have e9 := congrArg pk c
          omega
        · omega
        · omega
        · omega
        · omega
        · omega
      ·
        refine y_cF (c := .ne) (off := 7) (len := 3) (r := (0, 0, 0, 0)) (by decide +kernel) (acmpF (c := .ne) (by show _ = _; omega)) ?_
        refine y_ic (c := 1) (len := 1) (r := (0, 0, 0, 0)) (by decide +kernel) (by decide) (fun y2176 hy2176 => ?_)
        refine y_goto (off := 4) (pc' := 100) (len := 3) (r := (0, 0, 0, 0)) (by decide +kernel) (by decide +kernel) ?_
        refine y_rI (len := 1) (r := (0, 0, 0, 0)) (nL := 6) (k := 2) (n9 := 4) (hs := []) (by decide +kernel) rfl (zfit_b (by omega) (by omega)).2 ?_
        exact ⟨rfl, Or.inl ⟨by omega, by omega, Or.inl ⟨by omega, pk_inj oip.1 oiq.1 (by omega)⟩⟩⟩
    ·
      refine y_sw (dflt := 145) (lo := 3) (hi := 6) (offs := #[30, 55, 74, 128]) (off := 55) (pc' := 101) (len := 30) (r := (0, 0, 0, 0)) (by decide +kernel) (zswI (k := 1) (by omega) (by omega) (by omega) rfl) (by decide +kernel) ?_
      refine y_same (i := .iload 4) (len := 2) (r := (0, 0, 0, 0)) (pc' := 103) (ls' := [some (.inl (some a)), some (zi xw), some (zi xr), some (zi xl), some (zi y2168), some (zi y2170)]) (st' := [zi y2168]) (by decide +kernel) (fun k q => by cases q) rfl ?_
      refine y_same (i := .iload 5) (len := 2) (r := (0, 0, 0, 0)) (pc' := 105) (ls' := [some (.inl (some a)), some (zi xw), some (zi xr), some (zi xl), some (zi y2168), some (zi y2170)]) (st' := [zi y2170, zi y2168]) (by decide +kernel) (fun k q => by cases q) rfl ?_
      rcases Decidable.em (y2168.toInt ≠ y2170.toInt) with q2177 | q2177
      ·
        refine y_cT (c := .ne) (off := 13) (pc' := 118) (len := 3) (r := (0, 0, 0, 0)) (by decide +kernel) (acmpT (c := .ne) (by show ¬ (_ = _); omega)) (by decide +kernel) ?_
        refine y_ic (c := 0) (len := 1) (r := (0, 0, 0, 0)) (by decide +kernel) (by decide) (fun y2178 hy2178 => ?_)
        refine y_rI (len := 1) (r := (0, 0, 0, 0)) (nL := 6) (k := 2) (n9 := 4) (hs := []) (by decide +kernel) rfl (zfit_b (by omega) (by omega)).2 ?_
        refine ⟨rfl, Or.inr ⟨by omega, fun q9 => ?_⟩⟩
        rcases q9 with ⟨e0, ⟨w9, c⟩ | ⟨w9, c1, c2⟩ | ⟨w9, ⟨c1, c2⟩ | ⟨c1, c2, c3⟩⟩ | ⟨w9, c1, c2⟩ | ⟨w9, c⟩⟩
        · have e9 := congrArg pk c
          omega
        · omega
        · omega
        · omega
        · omega
        · omega
      ·
        refine y_cF (c := .ne) (off := 13) (len := 3) (r := (0, 0, 0, 0)) (by decide +kernel) (acmpF (c := .ne) (by show _ = _; omega)) ?_
        refine y_same (i := .iload 4) (len := 2) (r := (0, 0, 0, 0)) (pc' := 110) (ls' := [some (.inl (some a)), some (zi xw), some (zi xr), some (zi xl), some (zi y2168), some (zi y2170)]) (st' := [zi y2168]) (by decide +kernel) (fun k q => by cases q) rfl ?_
        refine y_ic (c := 1) (len := 1) (r := (0, 0, 0, 0)) (by decide +kernel) (by decide) (fun y2179 hy2179 => ?_)
        rcases Decidable.em (y2168.toInt > y2179.toInt) with q2180 | q2180
        ·
          refine y_cT (c := .gt) (off := 7) (pc' := 118) (len := 3) (r := (0, 0, 0, 0)) (by decide +kernel) (acmpT (c := .gt) (by show _ < _; omega)) (by decide +kernel) ?_
          refine y_ic (c := 0) (len := 1) (r := (0, 0, 0, 0)) (by decide +kernel) (by decide) (fun y2181 hy2181 => ?_)
          refine y_rI (len := 1) (r := (0, 0, 0, 0)) (nL := 6) (k := 2) (n9 := 4) (hs := []) (by decide +kernel) rfl (zfit_b (by omega) (by omega)).2 ?_
          refine ⟨rfl, Or.inr ⟨by omega, fun q9 => ?_⟩⟩
          rcases q9 with ⟨e0, ⟨w9, c⟩ | ⟨w9, c1, c2⟩ | ⟨w9, ⟨c1, c2⟩ | ⟨c1, c2, c3⟩⟩ | ⟨w9, c1, c2⟩ | ⟨w9, c⟩⟩
          · have e9 := congrArg pk c
            omega
          · omega
          · omega
          · omega
          · omega
          · omega
        ·
          refine y_cF (c := .gt) (off := 7) (len := 3) (r := (0, 0, 0, 0)) (by decide +kernel) (acmpF (c := .gt) (by show _ ≤ _; omega)) ?_
          refine y_ic (c := 1) (len := 1) (r := (0, 0, 0, 0)) (by decide +kernel) (by decide) (fun y2182 hy2182 => ?_)
          refine y_goto (off := 4) (pc' := 119) (len := 3) (r := (0, 0, 0, 0)) (by decide +kernel) (by decide +kernel) ?_
          refine y_rI (len := 1) (r := (0, 0, 0, 0)) (nL := 6) (k := 2) (n9 := 4) (hs := []) (by decide +kernel) rfl (zfit_b (by omega) (by omega)).2 ?_
          exact ⟨rfl, Or.inl ⟨by omega, by omega, Or.inr (Or.inl ⟨by omega, by omega, by omega⟩)⟩⟩
    ·
      refine y_sw (dflt := 145) (lo := 3) (hi := 6) (offs := #[30, 55, 74, 128]) (off := 74) (pc' := 120) (len := 30) (r := (0, 0, 0, 0)) (by decide +kernel) (zswI (k := 2) (by omega) (by omega) (by omega) rfl) (by decide +kernel) ?_
      refine y_same (i := .iload 5) (len := 2) (r := (0, 0, 0, 0)) (pc' := 122) (ls' := [some (.inl (some a)), some (zi xw), some (zi xr), some (zi xl), some (zi y2168), some (zi y2170)]) (st' := [zi y2170]) (by decide +kernel) (fun k q => by cases q) rfl ?_
      refine y_ic (c := 3) (len := 1) (r := (0, 0, 0, 0)) (by decide +kernel) (by decide) (fun y2183 hy2183 => ?_)
      rcases Decidable.em (y2170.toInt ≠ y2183.toInt) with q2184 | q2184
      ·
        refine y_cT (c := .ne) (off := 9) (pc' := 132) (len := 3) (r := (0, 0, 0, 0)) (by decide +kernel) (acmpT (c := .ne) (by show ¬ (_ = _); omega)) (by decide +kernel) ?_
        refine y_same (i := .iload 5) (len := 2) (r := (0, 0, 0, 0)) (pc' := 134) (ls' := [some (.inl (some a)), some (zi xw), some (zi xr), some (zi xl), some (zi y2168), some (zi y2170)]) (st' := [zi y2170]) (by decide +kernel) (fun k q => by cases q) rfl ?_
        refine y_ic (c := 2) (len := 1) (r := (0, 0, 0, 0)) (by decide +kernel) (by decide) (fun y2185 hy2185 => ?_)
        rcases Decidable.em (y2170.toInt ≠ y2185.toInt) with q2186 | q2186
        ·
          refine y_cT (c := .ne) (off := 37) (pc' := 172) (len := 3) (r := (0, 0, 0, 0)) (by decide +kernel) (acmpT (c := .ne) (by show ¬ (_ = _); omega)) (by decide +kernel) ?_
          refine y_ic (c := 0) (len := 1) (r := (0, 0, 0, 0)) (by decide +kernel) (by decide) (fun y2187 hy2187 => ?_)
          refine y_rI (len := 1) (r := (0, 0, 0, 0)) (nL := 6) (k := 2) (n9 := 4) (hs := []) (by decide +kernel) rfl (zfit_b (by omega) (by omega)).2 ?_
          refine ⟨rfl, Or.inr ⟨by omega, fun q9 => ?_⟩⟩
          rcases q9 with ⟨e0, ⟨w9, c⟩ | ⟨w9, c1, c2⟩ | ⟨w9, ⟨c1, c2⟩ | ⟨c1, c2, c3⟩⟩ | ⟨w9, c1, c2⟩ | ⟨w9, c⟩⟩
          · have e9 := congrArg pk c
            omega
          · omega
          · omega
          · omega
          · omega
          · omega
        ·
          refine y_cF (c := .ne) (off := 37) (len := 3) (r := (0, 0, 0, 0)) (by decide +kernel) (acmpF (c := .ne) (by show _ = _; omega)) ?_
          refine y_same (i := .iload 4) (len := 2) (r := (0, 0, 0, 0)) (pc' := 140) (ls' := [some (.inl (some a)), some (zi xw), some (zi xr), some (zi xl), some (zi y2168), some (zi y2170)]) (st' := [zi y2168]) (by decide +kernel) (fun k q => by cases q) rfl ?_
          rcases Decidable.em (y2168.toInt ≠ 0) with q2188 | q2188
          ·
            refine y_iT (c := .ne) (off := 32) (pc' := 172) (len := 3) (r := (0, 0, 0, 0)) (by decide +kernel) (acmpT (c := .ne) (by show ¬ (_ = _); omega)) (by decide +kernel) ?_
            refine y_ic (c := 0) (len := 1) (r := (0, 0, 0, 0)) (by decide +kernel) (by decide) (fun y2189 hy2189 => ?_)
            refine y_rI (len := 1) (r := (0, 0, 0, 0)) (nL := 6) (k := 2) (n9 := 4) (hs := []) (by decide +kernel) rfl (zfit_b (by omega) (by omega)).2 ?_
            refine ⟨rfl, Or.inr ⟨by omega, fun q9 => ?_⟩⟩
            rcases q9 with ⟨e0, ⟨w9, c⟩ | ⟨w9, c1, c2⟩ | ⟨w9, ⟨c1, c2⟩ | ⟨c1, c2, c3⟩⟩ | ⟨w9, c1, c2⟩ | ⟨w9, c⟩⟩
            · have e9 := congrArg pk c
              omega
            · omega
            · omega
            · omega
            · omega
            · omega
          ·
            refine y_iF (c := .ne) (off := 32) (len := 3) (r := (0, 0, 0, 0)) (by decide +kernel) (acmpF (c := .ne) (by show _ = _; omega)) ?_
            refine y_same (i := .aload_n 0) (len := 1) (r := (0, 0, 0, 0)) (pc' := 144) (ls' := [some (.inl (some a)), some (zi xw), some (zi xr), some (zi xl), some (zi y2168), some (zi y2170)]) (st' := [.inl (some a)]) (by decide +kernel) (fun k q => by cases q) rfl ?_
            refine y_same (i := .aload_n 0) (len := 1) (r := (0, 0, 0, 0)) (pc' := 145) (ls' := [some (.inl (some a)), some (zi xw), some (zi xr), some (zi xl), some (zi y2168), some (zi y2170)]) (st' := [.inl (some a), .inl (some a)]) (by decide +kernel) (fun k q => by cases q) rfl ?_
            refine y_get (j := 27) (len := 3) (r := (7, 2, 2, 536)) (by decide +kernel) Q.1 Q.2.1.1 aw1008 rfl rfl Q.2.2.1.2.2.1 ?_
            refine y_same (i := .iload_n 2) (len := 1) (r := (0, 0, 0, 0)) (pc' := 149) (ls' := [some (.inl (some a)), some (zi xw), some (zi xr), some (zi xl), some (zi y2168), some (zi y2170)]) (st' := [zi xr, .inl (some ((a + 5))), .inl (some a)]) (by decide +kernel) (fun k q => by cases q) rfl ?_
            refine y_ic (c := 1) (len := 1) (r := (0, 0, 0, 0)) (by decide +kernel) (by decide) (fun y2190 hy2190 => ?_)
            refine y_cI (i := .invokevirtual 68) (len := 3) (r := (0, 64, 6, 586)) (nL := 3) (k := 1) (n := 3) (hs := []) (args := [.inl (some ((a + 5))), zi xr, zi y2190]) (rest := [.inl (some a)]) (l0 := [some (.inl (some ((a + 5)))), some (zi xr), some (zi y2190)]) (by decide +kernel) (Or.inr (Or.inl ⟨_, rfl⟩)) rfl rfl rfl rfl (Nat.le_of_ble_eq_true rfl) (zO Q.1 Q.2.1.2.2.2.2.2.1 aw1004 rfl) rfl (qI_le (by omega) (q_tlR (d := 0) (k := r) (w := 1) Q (by omega) kip (by omega) (by omega))) (fun y2191 qy2191 hRy2191 => ?_)
            obtain ⟨rfl, ey2191⟩ := hRy2191
            have ey2191 : y2191.toInt = ip.2.1 := ey2191
            refine y_same (i := .aload_n 0) (len := 1) (r := (0, 0, 0, 0)) (pc' := 154) (ls' := [some (.inl (some a)), some (zi xw), some (zi xr), some (zi xl), some (zi y2168), some (zi y2170)]) (st' := [.inl (some a), zi y2191, .inl (some a)]) (by decide +kernel) (fun k q => by cases q) rfl ?_
            refine y_get (j := 27) (len := 3) (r := (7, 2, 2, 536)) (by decide +kernel) Q.1 Q.2.1.1 aw1008 rfl rfl Q.2.2.1.2.2.1 ?_
            refine y_same (i := .iload_n 2) (len := 1) (r := (0, 0, 0, 0)) (pc' := 158) (ls' := [some (.inl (some a)), some (zi xw), some (zi xr), some (zi xl), some (zi y2168), some (zi y2170)]) (st' := [zi xr, .inl (some ((a + 5))), zi y2191, .inl (some a)]) (by decide +kernel) (fun k q => by cases q) rfl ?_
            refine y_ic (c := 2) (len := 1) (r := (0, 0, 0, 0)) (by decide +kernel) (by decide) (fun y2192 hy2192 => ?_)
            refine y_cI (i := .invokevirtual 68) (len := 3) (r := (0, 64, 6, 586)) (nL := 3) (k := 1) (n := 3) (hs := []) (args := [.inl (some ((a + 5))), zi xr, zi y2192]) (rest := [zi y2191, .inl (some a)]) (l0 := [some (.inl (some ((a + 5)))), some (zi xr), some (zi y2192)]) (by decide +kernel) (Or.inr (Or.inl ⟨_, rfl⟩)) rfl rfl rfl rfl (Nat.le_of_ble_eq_true rfl) (zO Q.1 Q.2.1.2.2.2.2.2.1 aw1004 rfl) rfl (qI_le (by omega) (q_tlR (d := 0) (k := r) (w := 2) Q (by omega) kip (by omega) (by omega))) (fun y2193 qy2193 hRy2193 => ?_)
            obtain ⟨rfl, ey2193⟩ := hRy2193
            have ey2193 : y2193.toInt = ip.2.2.1 := ey2193
            refine y_cI (i := .invokevirtual 149) (len := 3) (r := (0, 92, 7, 680)) (nL := 4) (k := 2) (n := 3) (hs := []) (args := [.inl (some a), zi y2191, zi y2193]) (rest := []) (l0 := [some (.inl (some a)), some (zi y2191), some (zi y2193), none]) (by decide +kernel) (Or.inr (Or.inl ⟨_, rfl⟩)) rfl rfl rfl rfl (Nat.le_of_ble_eq_true rfl) (zO Q.1 Q.2.1.1 aw1008 rfl) rfl (qI_le (by omega) (q_kn (d := 0) (x := ip.2.1) (y := ip.2.2.1) Q (by omega) (by omega) (by omega) (by omega))) (fun y2194 qy2194 hRy2194 => ?_)
            obtain ⟨rfl, hDy2194⟩ := hRy2194
            rcases hDy2194 with ⟨vy2194, ty2194⟩ | ⟨vy2194, ty2194⟩
            ·
              refine y_iF (c := .eq) (off := 7) (len := 3) (r := (0, 0, 0, 0)) (by decide +kernel) (acmpF (c := .eq) (by show ¬ (_ = _); omega)) ?_
              refine y_ic (c := 1) (len := 1) (r := (0, 0, 0, 0)) (by decide +kernel) (by decide) (fun y2195 hy2195 => ?_)
              refine y_goto (off := 4) (pc' := 173) (len := 3) (r := (0, 0, 0, 0)) (by decide +kernel) (by decide +kernel) ?_
              refine y_rI (len := 1) (r := (0, 0, 0, 0)) (nL := 6) (k := 2) (n9 := 4) (hs := []) (by decide +kernel) rfl (zfit_b (by omega) (by omega)).2 ?_
              exact ⟨rfl, Or.inl ⟨by omega, by omega, Or.inr (Or.inr (Or.inl ⟨by omega, Or.inr ⟨by omega, by omega, ty2194⟩⟩))⟩⟩
            ·
              refine y_iT (c := .eq) (off := 7) (pc' := 172) (len := 3) (r := (0, 0, 0, 0)) (by decide +kernel) (acmpT (c := .eq) (by show _ = _; omega)) (by decide +kernel) ?_
              refine y_ic (c := 0) (len := 1) (r := (0, 0, 0, 0)) (by decide +kernel) (by decide) (fun y2196 hy2196 => ?_)
              refine y_rI (len := 1) (r := (0, 0, 0, 0)) (nL := 6) (k := 2) (n9 := 4) (hs := []) (by decide +kernel) rfl (zfit_b (by omega) (by omega)).2 ?_
              refine ⟨rfl, Or.inr ⟨by omega, fun q9 => ?_⟩⟩
              rcases q9 with ⟨e0, ⟨w9, c⟩ | ⟨w9, c1, c2⟩ | ⟨w9, ⟨c1, c2⟩ | ⟨c1, c2, c3⟩⟩ | ⟨w9, c1, c2⟩ | ⟨w9, c⟩⟩
              · have e9 := congrArg pk c
                omega
              · omega
              · omega
              · exact absurd c3 ty2194
              · omega
              · omega
      ·
        refine y_cF (c := .ne) (off := 9) (len := 3) (r := (0, 0, 0, 0)) (by decide +kernel) (acmpF (c := .ne) (by show _ = _; omega)) ?_
        refine y_same (i := .iload 4) (len := 2) (r := (0, 0, 0, 0)) (pc' := 128) (ls' := [some (.inl (some a)), some (zi xw), some (zi xr), some (zi xl), some (zi y2168), some (zi y2170)]) (st' := [zi y2168]) (by decide +kernel) (fun k q => by cases q) rfl ?_
        refine y_ic (c := 1) (len := 1) (r := (0, 0, 0, 0)) (by decide +kernel) (by decide) (fun y2197 hy2197 => ?_)
        rcases Decidable.em (y2168.toInt = y2197.toInt) with q2198 | q2198
        ·
          refine y_cT (c := .eq) (off := 39) (pc' := 168) (len := 3) (r := (0, 0, 0, 0)) (by decide +kernel) (acmpT (c := .eq) (by show _ = _; omega)) (by decide +kernel) ?_
          refine y_ic (c := 1) (len := 1) (r := (0, 0, 0, 0)) (by decide +kernel) (by decide) (fun y2199 hy2199 => ?_)
          refine y_goto (off := 4) (pc' := 173) (len := 3) (r := (0, 0, 0, 0)) (by decide +kernel) (by decide +kernel) ?_
          refine y_rI (len := 1) (r := (0, 0, 0, 0)) (nL := 6) (k := 2) (n9 := 4) (hs := []) (by decide +kernel) rfl (zfit_b (by omega) (by omega)).2 ?_
          exact ⟨rfl, Or.inl ⟨by omega, by omega, Or.inr (Or.inr (Or.inl ⟨by omega, Or.inl ⟨by omega, by omega⟩⟩))⟩⟩
        ·
          refine y_cF (c := .eq) (off := 39) (len := 3) (r := (0, 0, 0, 0)) (by decide +kernel) (acmpF (c := .eq) (by show ¬ (_ = _); omega)) ?_
          refine y_same (i := .iload 5) (len := 2) (r := (0, 0, 0, 0)) (pc' := 134) (ls' := [some (.inl (some a)), some (zi xw), some (zi xr), some (zi xl), some (zi y2168), some (zi y2170)]) (st' := [zi y2170]) (by decide +kernel) (fun k q => by cases q) rfl ?_
          refine y_ic (c := 2) (len := 1) (r := (0, 0, 0, 0)) (by decide +kernel) (by decide) (fun y2200 hy2200 => ?_)
          rcases Decidable.em (y2170.toInt ≠ y2200.toInt) with q2201 | q2201
          ·
            refine y_cT (c := .ne) (off := 37) (pc' := 172) (len := 3) (r := (0, 0, 0, 0)) (by decide +kernel) (acmpT (c := .ne) (by show ¬ (_ = _); omega)) (by decide +kernel) ?_
            refine y_ic (c := 0) (len := 1) (r := (0, 0, 0, 0)) (by decide +kernel) (by decide) (fun y2202 hy2202 => ?_)
            refine y_rI (len := 1) (r := (0, 0, 0, 0)) (nL := 6) (k := 2) (n9 := 4) (hs := []) (by decide +kernel) rfl (zfit_b (by omega) (by omega)).2 ?_
            refine ⟨rfl, Or.inr ⟨by omega, fun q9 => ?_⟩⟩
            rcases q9 with ⟨e0, ⟨w9, c⟩ | ⟨w9, c1, c2⟩ | ⟨w9, ⟨c1, c2⟩ | ⟨c1, c2, c3⟩⟩ | ⟨w9, c1, c2⟩ | ⟨w9, c⟩⟩
            · have e9 := congrArg pk c
              omega
            · omega
            · omega
            · omega
            · omega
            · omega
          ·
            refine y_cF (c := .ne) (off := 37) (len := 3) (r := (0, 0, 0, 0)) (by decide +kernel) (acmpF (c := .ne) (by show _ = _; omega)) ?_
            refine y_same (i := .iload 4) (len := 2) (r := (0, 0, 0, 0)) (pc' := 140) (ls' := [some (.inl (some a)), some (zi xw), some (zi xr), some (zi xl), some (zi y2168), some (zi y2170)]) (st' := [zi y2168]) (by decide +kernel) (fun k q => by cases q) rfl ?_
            rcases Decidable.em (y2168.toInt ≠ 0) with q2203 | q2203
            ·
              refine y_iT (c := .ne) (off := 32) (pc' := 172) (len := 3) (r := (0, 0, 0, 0)) (by decide +kernel) (acmpT (c := .ne) (by show ¬ (_ = _); omega)) (by decide +kernel) ?_
              refine y_ic (c := 0) (len := 1) (r := (0, 0, 0, 0)) (by decide +kernel) (by decide) (fun y2204 hy2204 => ?_)
              refine y_rI (len := 1) (r := (0, 0, 0, 0)) (nL := 6) (k := 2) (n9 := 4) (hs := []) (by decide +kernel) rfl (zfit_b (by omega) (by omega)).2 ?_
              refine ⟨rfl, Or.inr ⟨by omega, fun q9 => ?_⟩⟩
              rcases q9 with ⟨e0, ⟨w9, c⟩ | ⟨w9, c1, c2⟩ | ⟨w9, ⟨c1, c2⟩ | ⟨c1, c2, c3⟩⟩ | ⟨w9, c1, c2⟩ | ⟨w9, c⟩⟩
              · have e9 := congrArg pk c
                omega
              · omega
              · omega
              · omega
              · omega
              · omega
            ·
              refine y_iF (c := .ne) (off := 32) (len := 3) (r := (0, 0, 0, 0)) (by decide +kernel) (acmpF (c := .ne) (by show _ = _; omega)) ?_
              refine y_same (i := .aload_n 0) (len := 1) (r := (0, 0, 0, 0)) (pc' := 144) (ls' := [some (.inl (some a)), some (zi xw), some (zi xr), some (zi xl), some (zi y2168), some (zi y2170)]) (st' := [.inl (some a)]) (by decide +kernel) (fun k q => by cases q) rfl ?_
              refine y_same (i := .aload_n 0) (len := 1) (r := (0, 0, 0, 0)) (pc' := 145) (ls' := [some (.inl (some a)), some (zi xw), some (zi xr), some (zi xl), some (zi y2168), some (zi y2170)]) (st' := [.inl (some a), .inl (some a)]) (by decide +kernel) (fun k q => by cases q) rfl ?_
              refine y_get (j := 27) (len := 3) (r := (7, 2, 2, 536)) (by decide +kernel) Q.1 Q.2.1.1 aw1008 rfl rfl Q.2.2.1.2.2.1 ?_
              refine y_same (i := .iload_n 2) (len := 1) (r := (0, 0, 0, 0)) (pc' := 149) (ls' := [some (.inl (some a)), some (zi xw), some (zi xr), some (zi xl), some (zi y2168), some (zi y2170)]) (st' := [zi xr, .inl (some ((a + 5))), .inl (some a)]) (by decide +kernel) (fun k q => by cases q) rfl ?_
              refine y_ic (c := 1) (len := 1) (r := (0, 0, 0, 0)) (by decide +kernel) (by decide) (fun y2205 hy2205 => ?_)
              refine y_cI (i := .invokevirtual 68) (len := 3) (r := (0, 64, 6, 586)) (nL := 3) (k := 1) (n := 3) (hs := []) (args := [.inl (some ((a + 5))), zi xr, zi y2205]) (rest := [.inl (some a)]) (l0 := [some (.inl (some ((a + 5)))), some (zi xr), some (zi y2205)]) (by decide +kernel) (Or.inr (Or.inl ⟨_, rfl⟩)) rfl rfl rfl rfl (Nat.le_of_ble_eq_true rfl) (zO Q.1 Q.2.1.2.2.2.2.2.1 aw1004 rfl) rfl (qI_le (by omega) (q_tlR (d := 0) (k := r) (w := 1) Q (by omega) kip (by omega) (by omega))) (fun y2206 qy2206 hRy2206 => ?_)
              obtain ⟨rfl, ey2206⟩ := hRy2206
              have ey2206 : y2206.toInt = ip.2.1 := ey2206
              refine y_same (i := .aload_n 0) (len := 1) (r := (0, 0, 0, 0)) (pc' := 154) (ls' := [some (.inl (some a)), some (zi xw), some (zi xr), some (zi xl), some (zi y2168), some (zi y2170)]) (st' := [.inl (some a), zi y2206, .inl (some a)]) (by decide +kernel) (fun k q => by cases q) rfl ?_
              refine y_get (j := 27) (len := 3) (r := (7, 2, 2, 536)) (by decide +kernel) Q.1 Q.2.1.1 aw1008 rfl rfl Q.2.2.1.2.2.1 ?_
              refine y_same (i := .iload_n 2) (len := 1) (r := (0, 0, 0, 0)) (pc' := 158) (ls' := [some (.inl (some a)), some (zi xw), some (zi xr), some (zi xl), some (zi y2168), some (zi y2170)]) (st' := [zi xr, .inl (some ((a + 5))), zi y2206, .inl (some a)]) (by decide +kernel) (fun k q => by cases q) rfl ?_
              refine y_ic (c := 2) (len := 1) (r := (0, 0, 0, 0)) (by decide +kernel) (by decide) (fun y2207 hy2207 => ?_)
              refine y_cI (i := .invokevirtual 68) (len := 3) (r := (0, 64, 6, 586)) (nL := 3) (k := 1) (n := 3) (hs := []) (args := [.inl (some ((a + 5))), zi xr, zi y2207]) (rest := [zi y2206, .inl (some a)]) (l0 := [some (.inl (some ((a + 5)))), some (zi xr), some (zi y2207)]) (by decide +kernel) (Or.inr (Or.inl ⟨_, rfl⟩)) rfl rfl rfl rfl (Nat.le_of_ble_eq_true rfl) (zO Q.1 Q.2.1.2.2.2.2.2.1 aw1004 rfl) rfl (qI_le (by omega) (q_tlR (d := 0) (k := r) (w := 2) Q (by omega) kip (by omega) (by omega))) (fun y2208 qy2208 hRy2208 => ?_)
              obtain ⟨rfl, ey2208⟩ := hRy2208
              have ey2208 : y2208.toInt = ip.2.2.1 := ey2208
              refine y_cI (i := .invokevirtual 149) (len := 3) (r := (0, 92, 7, 680)) (nL := 4) (k := 2) (n := 3) (hs := []) (args := [.inl (some a), zi y2206, zi y2208]) (rest := []) (l0 := [some (.inl (some a)), some (zi y2206), some (zi y2208), none]) (by decide +kernel) (Or.inr (Or.inl ⟨_, rfl⟩)) rfl rfl rfl rfl (Nat.le_of_ble_eq_true rfl) (zO Q.1 Q.2.1.1 aw1008 rfl) rfl (qI_le (by omega) (q_kn (d := 0) (x := ip.2.1) (y := ip.2.2.1) Q (by omega) (by omega) (by omega) (by omega))) (fun y2209 qy2209 hRy2209 => ?_)
              obtain ⟨rfl, hDy2209⟩ := hRy2209
              rcases hDy2209 with ⟨vy2209, ty2209⟩ | ⟨vy2209, ty2209⟩
              ·
                refine y_iF (c := .eq) (off := 7) (len := 3) (r := (0, 0, 0, 0)) (by decide +kernel) (acmpF (c := .eq) (by show ¬ (_ = _); omega)) ?_
                refine y_ic (c := 1) (len := 1) (r := (0, 0, 0, 0)) (by decide +kernel) (by decide) (fun y2210 hy2210 => ?_)
                refine y_goto (off := 4) (pc' := 173) (len := 3) (r := (0, 0, 0, 0)) (by decide +kernel) (by decide +kernel) ?_
                refine y_rI (len := 1) (r := (0, 0, 0, 0)) (nL := 6) (k := 2) (n9 := 4) (hs := []) (by decide +kernel) rfl (zfit_b (by omega) (by omega)).2 ?_
                exact ⟨rfl, Or.inl ⟨by omega, by omega, Or.inr (Or.inr (Or.inl ⟨by omega, Or.inr ⟨by omega, by omega, ty2209⟩⟩))⟩⟩
              ·
                refine y_iT (c := .eq) (off := 7) (pc' := 172) (len := 3) (r := (0, 0, 0, 0)) (by decide +kernel) (acmpT (c := .eq) (by show _ = _; omega)) (by decide +kernel) ?_
                refine y_ic (c := 0) (len := 1) (r := (0, 0, 0, 0)) (by decide +kernel) (by decide) (fun y2211 hy2211 => ?_)
                refine y_rI (len := 1) (r := (0, 0, 0, 0)) (nL := 6) (k := 2) (n9 := 4) (hs := []) (by decide +kernel) rfl (zfit_b (by omega) (by omega)).2 ?_
                refine ⟨rfl, Or.inr ⟨by omega, fun q9 => ?_⟩⟩
                rcases q9 with ⟨e0, ⟨w9, c⟩ | ⟨w9, c1, c2⟩ | ⟨w9, ⟨c1, c2⟩ | ⟨c1, c2, c3⟩⟩ | ⟨w9, c1, c2⟩ | ⟨w9, c⟩⟩
                · have e9 := congrArg pk c
                  omega
                · omega
                · omega
                · exact absurd c3 ty2209
                · omega
                · omega
    ·
      refine y_sw (dflt := 145) (lo := 3) (hi := 6) (offs := #[30, 55, 74, 128]) (off := 128) (pc' := 174) (len := 30) (r := (0, 0, 0, 0)) (by decide +kernel) (zswI (k := 3) (by omega) (by omega) (by omega) rfl) (by decide +kernel) ?_
      refine y_same (i := .iload 5) (len := 2) (r := (0, 0, 0, 0)) (pc' := 176) (ls' := [some (.inl (some a)), some (zi xw), some (zi xr), some (zi xl), some (zi y2168), some (zi y2170)]) (st' := [zi y2170]) (by decide +kernel) (fun k q => by cases q) rfl ?_
      refine y_ic (c := 2) (len := 1) (r := (0, 0, 0, 0)) (by decide +kernel) (by decide) (fun y2212 hy2212 => ?_)
      rcases Decidable.em (y2170.toInt ≠ y2212.toInt) with q2213 | q2213
      ·
        refine y_cT (c := .ne) (off := 12) (pc' := 189) (len := 3) (r := (0, 0, 0, 0)) (by decide +kernel) (acmpT (c := .ne) (by show ¬ (_ = _); omega)) (by decide +kernel) ?_
        refine y_ic (c := 0) (len := 1) (r := (0, 0, 0, 0)) (by decide +kernel) (by decide) (fun y2214 hy2214 => ?_)
        refine y_rI (len := 1) (r := (0, 0, 0, 0)) (nL := 6) (k := 2) (n9 := 4) (hs := []) (by decide +kernel) rfl (zfit_b (by omega) (by omega)).2 ?_
        refine ⟨rfl, Or.inr ⟨by omega, fun q9 => ?_⟩⟩
        rcases q9 with ⟨e0, ⟨w9, c⟩ | ⟨w9, c1, c2⟩ | ⟨w9, ⟨c1, c2⟩ | ⟨c1, c2, c3⟩⟩ | ⟨w9, c1, c2⟩ | ⟨w9, c⟩⟩
        · have e9 := congrArg pk c
          omega
        · omega
        · omega
        · omega
        · omega
        · omega
      ·
        refine y_cF (c := .ne) (off := 12) (len := 3) (r := (0, 0, 0, 0)) (by decide +kernel) (acmpF (c := .ne) (by show _ = _; omega)) ?_
        refine y_same (i := .iload 4) (len := 2) (r := (0, 0, 0, 0)) (pc' := 182) (ls' := [some (.inl (some a)), some (zi xw), some (zi xr), some (zi xl), some (zi y2168), some (zi y2170)]) (st' := [zi y2168]) (by decide +kernel) (fun k q => by cases q) rfl ?_
        rcases Decidable.em (y2168.toInt ≠ 0) with q2215 | q2215
        ·
          refine y_iT (c := .ne) (off := 7) (pc' := 189) (len := 3) (r := (0, 0, 0, 0)) (by decide +kernel) (acmpT (c := .ne) (by show ¬ (_ = _); omega)) (by decide +kernel) ?_
          refine y_ic (c := 0) (len := 1) (r := (0, 0, 0, 0)) (by decide +kernel) (by decide) (fun y2216 hy2216 => ?_)
          refine y_rI (len := 1) (r := (0, 0, 0, 0)) (nL := 6) (k := 2) (n9 := 4) (hs := []) (by decide +kernel) rfl (zfit_b (by omega) (by omega)).2 ?_
          refine ⟨rfl, Or.inr ⟨by omega, fun q9 => ?_⟩⟩
          rcases q9 with ⟨e0, ⟨w9, c⟩ | ⟨w9, c1, c2⟩ | ⟨w9, ⟨c1, c2⟩ | ⟨c1, c2, c3⟩⟩ | ⟨w9, c1, c2⟩ | ⟨w9, c⟩⟩
          · have e9 := congrArg pk c
            omega
          · omega
          · omega
          · omega
          · omega
          · omega
        ·
          refine y_iF (c := .ne) (off := 7) (len := 3) (r := (0, 0, 0, 0)) (by decide +kernel) (acmpF (c := .ne) (by show _ = _; omega)) ?_
          refine y_ic (c := 1) (len := 1) (r := (0, 0, 0, 0)) (by decide +kernel) (by decide) (fun y2217 hy2217 => ?_)
          refine y_goto (off := 4) (pc' := 190) (len := 3) (r := (0, 0, 0, 0)) (by decide +kernel) (by decide +kernel) ?_
          refine y_rI (len := 1) (r := (0, 0, 0, 0)) (nL := 6) (k := 2) (n9 := 4) (hs := []) (by decide +kernel) rfl (zfit_b (by omega) (by omega)).2 ?_
          exact ⟨rfl, Or.inl ⟨by omega, by omega, Or.inr (Or.inr (Or.inr (Or.inl ⟨by omega, by omega, by omega⟩)))⟩⟩
    ·
      refine y_sw (dflt := 145) (lo := 3) (hi := 6) (offs := #[30, 55, 74, 128]) (off := 145) (pc' := 191) (len := 30) (r := (0, 0, 0, 0)) (by decide +kernel) (zswO (by omega)) (by decide +kernel) ?_
      refine y_same (i := .iload 4) (len := 2) (r := (0, 0, 0, 0)) (pc' := 193) (ls' := [some (.inl (some a)), some (zi xw), some (zi xr), some (zi xl), some (zi y2168), some (zi y2170)]) (st' := [zi y2168]) (by decide +kernel) (fun k q => by cases q) rfl ?_
      refine y_ic (c := 2) (len := 1) (r := (0, 0, 0, 0)) (by decide +kernel) (by decide) (fun y2218 hy2218 => ?_)
      rcases Decidable.em (y2168.toInt < y2218.toInt) with q2219 | q2219
      ·
        refine y_cT (c := .lt) (off := 7) (pc' := 201) (len := 3) (r := (0, 0, 0, 0)) (by decide +kernel) (acmpT (c := .lt) (by show _ < _; omega)) (by decide +kernel) ?_
        refine y_ic (c := 0) (len := 1) (r := (0, 0, 0, 0)) (by decide +kernel) (by decide) (fun y2220 hy2220 => ?_)
        refine y_rI (len := 1) (r := (0, 0, 0, 0)) (nL := 6) (k := 2) (n9 := 4) (hs := []) (by decide +kernel) rfl (zfit_b (by omega) (by omega)).2 ?_
        refine ⟨rfl, Or.inr ⟨by omega, fun q9 => ?_⟩⟩
        rcases q9 with ⟨e0, ⟨w9, c⟩ | ⟨w9, c1, c2⟩ | ⟨w9, ⟨c1, c2⟩ | ⟨c1, c2, c3⟩⟩ | ⟨w9, c1, c2⟩ | ⟨w9, c⟩⟩
        · have e9 := congrArg pk c
          omega
        · omega
        · omega
        · omega
        · omega
        · omega
      ·
        refine y_cF (c := .lt) (off := 7) (len := 3) (r := (0, 0, 0, 0)) (by decide +kernel) (acmpF (c := .lt) (by show _ ≤ _; omega)) ?_
        refine y_ic (c := 1) (len := 1) (r := (0, 0, 0, 0)) (by decide +kernel) (by decide) (fun y2221 hy2221 => ?_)
        refine y_goto (off := 4) (pc' := 202) (len := 3) (r := (0, 0, 0, 0)) (by decide +kernel) (by decide +kernel) ?_
        refine y_rI (len := 1) (r := (0, 0, 0, 0)) (nL := 6) (k := 2) (n9 := 4) (hs := []) (by decide +kernel) rfl (zfit_b (by omega) (by omega)).2 ?_
        exact ⟨rfl, Or.inl ⟨by omega, by omega, Or.inr (Or.inr (Or.inr (Or.inr ⟨by omega, by omega⟩)))⟩⟩
  ·
    refine y_cF (c := .eq) (off := 5) (len := 3) (r := (0, 0, 0, 0)) (by decide +kernel) (acmpF (c := .eq) (by show ¬ (_ = _); omega)) ?_
    refine y_ic (c := 0) (len := 1) (r := (0, 0, 0, 0)) (by decide +kernel) (by decide) (fun y2222 hy2222 => ?_)
    refine y_rI (len := 1) (r := (0, 0, 0, 0)) (nL := 6) (k := 2) (n9 := 4) (hs := []) (by decide +kernel) rfl (zfit_b (by omega) (by omega)).2 ?_
    refine ⟨rfl, Or.inr ⟨by omega, fun q9 => ?_⟩⟩
    rcases q9 with ⟨e0, ⟨w9, c⟩ | ⟨w9, c1, c2⟩ | ⟨w9, ⟨c1, c2⟩ | ⟨c1, c2, c3⟩⟩ | ⟨w9, c1, c2⟩ | ⟨w9, c⟩⟩
    · have e9 := congrArg pk c
      omega
    · omega
    · omega
    · omega
    · omega
    · omega
def FS (a : Nat) (h h1 : zh) : Prop := ∀ k j, (k ≠ a ∨ (j ≠ 8 ∧ j ≠ 9)) → hsl h1 k j = hsl h k j
def fnR (τ : List Nat) (a : Nat) (h : zh) (s : sqT) (y : Int32) (h1 : zh) : Prop := ∃ st r l : Nat, y.toInt = (st : Int) ∧ fnd_ s st r l ∧ (st ≤ 8 → ci_ h1 a 8 r) ∧ (st ≤ 7 → ci_ h1 a 9 l) ∧ QC τ h1 a s ∧ FS a h h1
theorem fnd_l {d t a : Nat} {τ : List Nat} {h : zh} {s : sqT} (Q : QC τ h a s) {w r : Nat} {ip : it4} {xw xr : Int32} (hxw : xw.toInt = (w : Int)) (hw : 3 ≤ w ∧ w ≤ 7) (hxr : xr.toInt = (r : Int)) (kip : s.2.1[r]? = some ip) (e1 : nof_ s w) (e2 : ∀ (r9 : Nat) (p q : it4), r9 < r → s.2.1[r9]? = some p → q ∈ s.1 → ¬ ftq_ s w p q) (kk : ∀ l3 : Option zv, (∀ (j : Nat) (q : it4), s.1[j]? = some q → ¬ ftq_ s w ip q) → qX (d + 4) 94 62 [some (.inl (some a)), some (zi xw), some (zi xr), l3] [] h t (rI (fnR τ a h s) t)) : ∀ (n : Nat) (l : Nat) (xl : Int32), (xl.toInt = (l : Int)) → (l ≤ s.1.length) → (∀ (j : Nat) (q : it4), j < l → s.1[j]? = some q → ¬ ftq_ s w ip q) → (s.1.length < l + n) → qX (d + 4) 94 23 [some (.inl (some a)), some (zi xw), some (zi xr), some (zi xl)] [] h t (rI (fnR τ a h s) t) := by
  intro n
  induction n with
  | zero =>
    intro l xl hxl hl c1 hn
    exfalso
    omega
  | succ n ih =>
    intro l xl hxl hl c1 hn
    have hr9 := (List.getElem?_eq_some_iff.mp kip).1
    refine y_same (i := .iload_n 3) (len := 1) (r := (0, 0, 0, 0)) (pc' := 24) (ls' := [some (.inl (some a)), some (zi xw), some (zi xr), some (zi xl)]) (st' := [zi xl]) (by decide +kernel) (fun k q => by cases q) rfl ?_
    refine y_same (i := .aload_n 0) (len := 1) (r := (0, 0, 0, 0)) (pc' := 25) (ls' := [some (.inl (some a)), some (zi xw), some (zi xr), some (zi xl)]) (st' := [.inl (some a), zi xl]) (by decide +kernel) (fun k q => by cases q) rfl ?_
    refine y_get (j := 23) (len := 3) (r := (7, 1, 2, 533)) (by decide +kernel) Q.1 Q.2.1.1 aw1008 rfl rfl Q.2.2.1.2.1 ?_
    obtain ⟨z2223, hz2223, ez2223, mz2223⟩ := q_szL Q
    have ez2223 : z2223.toInt = ((s.1.length : Nat) : Int) := ez2223
    have mz2223 : s.1.length ≤ 14 := mz2223
    refine y_get (j := 65) (len := 3) (r := (6, 1, 0, 20165)) (by decide +kernel) Q.1 Q.2.1.2.2.2.1 aw1004 rfl rfl hz2223 ?_
    rcases Decidable.em (xl.toInt ≥ z2223.toInt) with q2224 | q2224
    ·
      refine y_cT (c := .ge) (off := 31) (pc' := 62) (len := 3) (r := (0, 0, 0, 0)) (by decide +kernel) (acmpT (c := .ge) (by show _ ≤ _; omega)) (by decide +kernel) ?_
      exact kk _ (fun j q h2 => c1 j q (by have := (List.getElem?_eq_some_iff.mp h2).1; omega) h2)
    ·
      refine y_cF (c := .ge) (off := 31) (len := 3) (r := (0, 0, 0, 0)) (by decide +kernel) (acmpF (c := .ge) (by show _ < _; omega)) ?_
      refine y_same (i := .aload_n 0) (len := 1) (r := (0, 0, 0, 0)) (pc' := 35) (ls' := [some (.inl (some a)), some (zi xw), some (zi xr), some (zi xl)]) (st' := [.inl (some a)]) (by decide +kernel) (fun k q => by cases q) rfl ?_
      refine y_same (i := .iload_n 1) (len := 1) (r := (0, 0, 0, 0)) (pc' := 36) (ls' := [some (.inl (some a)), some (zi xw), some (zi xr), some (zi xl)]) (st' := [zi xw, .inl (some a)]) (by decide +kernel) (fun k q => by cases q) rfl ?_
      refine y_same (i := .iload_n 2) (len := 1) (r := (0, 0, 0, 0)) (pc' := 37) (ls' := [some (.inl (some a)), some (zi xw), some (zi xr), some (zi xl)]) (st' := [zi xr, zi xw, .inl (some a)]) (by decide +kernel) (fun k q => by cases q) rfl ?_
      refine y_same (i := .iload_n 3) (len := 1) (r := (0, 0, 0, 0)) (pc' := 38) (ls' := [some (.inl (some a)), some (zi xw), some (zi xr), some (zi xl)]) (st' := [zi xl, zi xr, zi xw, .inl (some a)]) (by decide +kernel) (fun k q => by cases q) rfl ?_
      obtain ⟨i2226, ki2226⟩ : ∃ i9, s.1[l]? = some i9 := ⟨_, List.getElem?_eq_getElem (by omega)⟩
      have oi2226 := okQ_L Q.2.2.2.2 ki2226
      have pi2226 := oi2226.1
      unfold okV at pi2226
      refine y_cI (i := .invokevirtual 156) (len := 3) (r := (0, 95, 7, 747)) (nL := 6) (k := 2) (n := 4) (hs := []) (args := [.inl (some a), zi xw, zi xr, zi xl]) (rest := []) (l0 := [some (.inl (some a)), some (zi xw), some (zi xr), some (zi xl), none, none]) (by decide +kernel) (Or.inr (Or.inl ⟨_, rfl⟩)) rfl rfl rfl rfl (Nat.le_of_ble_eq_true rfl) (zO Q.1 Q.2.1.1 aw1008 rfl) rfl (qI_le (by omega) (q_fit (d := 0) (w := w) (r := r) (l := l) Q (by omega) hw (by omega) kip (by omega) ki2226)) (fun y2225 qy2225 hRy2225 => ?_)
      obtain ⟨rfl, hDy2225⟩ := hRy2225
      rcases hDy2225 with ⟨vy2225, ty2225⟩ | ⟨vy2225, ty2225⟩
      ·
        refine y_iF (c := .eq) (off := 15) (len := 3) (r := (0, 0, 0, 0)) (by decide +kernel) (acmpF (c := .eq) (by show ¬ (_ = _); omega)) ?_
        refine y_same (i := .aload_n 0) (len := 1) (r := (0, 0, 0, 0)) (pc' := 45) (ls' := [some (.inl (some a)), some (zi xw), some (zi xr), some (zi xl)]) (st' := [.inl (some a)]) (by decide +kernel) (fun k q => by cases q) rfl ?_
        refine y_same (i := .iload_n 2) (len := 1) (r := (0, 0, 0, 0)) (pc' := 46) (ls' := [some (.inl (some a)), some (zi xw), some (zi xr), some (zi xl)]) (st' := [zi xr, .inl (some a)]) (by decide +kernel) (fun k q => by cases q) rfl ?_
        refine y_put (j := 46) (lo := (-2147483648)) (hi := 2147483647) (len := 3) (r := (7, 8, 0, 553)) (by decide +kernel) Q.1 Q.2.1.1 aw1008 rfl rfl (by decide) rfl (qin_full _).1 (qin_full _).2 rfl (fun h2227 hg2227 hl2227 hs2227 ho2227 => ?_)
        have ho2227 : hO a 8 h h2227 := ho2227
        have hs2227 : hsl h2227 a 8 = some (zi xr) := hs2227
        have Q2227_a := QC_up Q hg2227 (fun k j _ _ _ => ho2227 k j (by omega))
        refine y_same (i := .aload_n 0) (len := 1) (r := (0, 0, 0, 0)) (pc' := 50) (ls' := [some (.inl (some a)), some (zi xw), some (zi xr), some (zi xl)]) (st' := [.inl (some a)]) (by decide +kernel) (fun k q => by cases q) rfl ?_
        refine y_same (i := .iload_n 3) (len := 1) (r := (0, 0, 0, 0)) (pc' := 51) (ls' := [some (.inl (some a)), some (zi xw), some (zi xr), some (zi xl)]) (st' := [zi xl, .inl (some a)]) (by decide +kernel) (fun k q => by cases q) rfl ?_
        refine y_put (j := 49) (lo := (-2147483648)) (hi := 2147483647) (len := 3) (r := (7, 9, 0, 554)) (by decide +kernel) Q2227_a.1 Q2227_a.2.1.1 aw1008 rfl rfl (by decide) rfl (qin_full _).1 (qin_full _).2 rfl (fun h2228 hg2228 hl2228 hs2228 ho2228 => ?_)
        have ho2228 : hO a 9 h2227 h2228 := ho2228
        have hs2228 : hsl h2228 a 9 = some (zi xl) := hs2228
        have Q2228_a := QC_up Q2227_a hg2228 (fun k j _ _ _ => ho2228 k j (by omega))
        refine y_same (i := .iload_n 1) (len := 1) (r := (0, 0, 0, 0)) (pc' := 55) (ls' := [some (.inl (some a)), some (zi xw), some (zi xr), some (zi xl)]) (st' := [zi xw]) (by decide +kernel) (fun k q => by cases q) rfl ?_
        refine y_rI (len := 1) (r := (0, 0, 0, 0)) (nL := 4) (k := 1) (n9 := 1) (hs := []) (by decide +kernel) rfl rfl ?_
        have hv2229 := (ho2228 a 8 (Or.inr (by omega))).trans hs2227
        refine ⟨w, r, l, hxw, Or.inl ⟨hw.1, hw.2, e1, ⟨ip, i2226, kip, ki2226, ty2225⟩, fun r9 l9 p q a1 a2 a3 => ?_⟩, fun _ => ⟨_, hv2229, hxr⟩, fun _ => ⟨_, hs2228, hxl⟩, Q2228_a, fun k j hC => ((ho2228 k j (by omega)).trans (ho2227 k j (by omega)))⟩
        rcases a3 with a3 | ⟨a3, a4⟩
        · exact e2 r9 p q a3 a1 (List.mem_of_getElem? a2)
        · subst a3
          cases kip.symm.trans a1
          exact c1 l9 q a4 a2
      ·
        refine y_iT (c := .eq) (off := 15) (pc' := 56) (len := 3) (r := (0, 0, 0, 0)) (by decide +kernel) (acmpT (c := .eq) (by show _ = _; omega)) (by decide +kernel) ?_
        refine y_inc (j := 3) (a := xl) (c := 1) (ls' := fun v => [some (.inl (some a)), some (zi xw), some (zi xr), some v]) (len := 3) (r := (0, 0, 0, 0)) (by decide +kernel) rfl (fun _ => rfl) (by decide) (by omega) (by omega) (fun y2230 hy2230 => ?_)
        show qX (d + 4) 94 59 [some (.inl (some a)), some (zi xw), some (zi xr), some (zi y2230)] [] h t _
        refine y_goto (off := (-36)) (pc' := 23) (len := 3) (r := (0, 0, 0, 0)) (by decide +kernel) (by decide +kernel) ?_
        refine ih (l + 1) y2230 (by omega) (by omega) (fun j q hj h2 => ?_) (by omega)
        rcases Nat.lt_or_ge j l with q9 | q9
        · exact c1 j q q9 h2
        · obtain rfl : j = l := by omega
          cases ki2226.symm.trans h2
          exact ty2225
theorem fnd_m {d t a : Nat} {τ : List Nat} {h : zh} {s : sqT} (Q : QC τ h a s) {w : Nat} {xw : Int32} (hxw : xw.toInt = (w : Int)) (hw : 3 ≤ w ∧ w ≤ 7) (e1 : nof_ s w) (kk : ∀ l2 l3 : Option zv, (∀ p q, p ∈ s.2.1 → q ∈ s.1 → ¬ ftq_ s w p q) → qX (d + 4) 94 68 [some (.inl (some a)), some (zi xw), l2, l3] [] h t (rI (fnR τ a h s) t)) : ∀ (n : Nat) (r : Nat) (xr : Int32) (l3 : Option zv), (xr.toInt = (r : Int)) → (r ≤ s.2.1.length) → (∀ (r9 : Nat) (p q : it4), r9 < r → s.2.1[r9]? = some p → q ∈ s.1 → ¬ ftq_ s w p q) → (s.2.1.length < r + n) → qX (d + 4) 94 10 [some (.inl (some a)), some (zi xw), some (zi xr), l3] [] h t (rI (fnR τ a h s) t) := by
  intro n
  induction n with
  | zero =>
    intro r xr l3 hxr hr c1 hn
    exfalso
    omega
  | succ n ih =>
    intro r xr l3 hxr hr c1 hn
    skip
    refine y_same (i := .iload_n 2) (len := 1) (r := (0, 0, 0, 0)) (pc' := 11) (ls' := [some (.inl (some a)), some (zi xw), some (zi xr), l3]) (st' := [zi xr]) (by decide +kernel) (fun k q => by cases q) rfl ?_
    refine y_same (i := .aload_n 0) (len := 1) (r := (0, 0, 0, 0)) (pc' := 12) (ls' := [some (.inl (some a)), some (zi xw), some (zi xr), l3]) (st' := [.inl (some a), zi xr]) (by decide +kernel) (fun k q => by cases q) rfl ?_
    refine y_get (j := 27) (len := 3) (r := (7, 2, 2, 536)) (by decide +kernel) Q.1 Q.2.1.1 aw1008 rfl rfl Q.2.2.1.2.2.1 ?_
    obtain ⟨z2231, hz2231, ez2231, mz2231⟩ := q_szR Q
    have ez2231 : z2231.toInt = ((s.2.1.length : Nat) : Int) := ez2231
    have mz2231 : s.2.1.length ≤ 14 := mz2231
    refine y_get (j := 65) (len := 3) (r := (6, 1, 0, 20165)) (by decide +kernel) Q.1 Q.2.1.2.2.2.2.2.1 aw1004 rfl rfl hz2231 ?_
    rcases Decidable.em (xr.toInt ≥ z2231.toInt) with q2232 | q2232
    ·
      refine y_cT (c := .ge) (off := 50) (pc' := 68) (len := 3) (r := (0, 0, 0, 0)) (by decide +kernel) (acmpT (c := .ge) (by show _ ≤ _; omega)) (by decide +kernel) ?_
      exact kk _ _ (fun p q m1 m2 => by obtain ⟨j, hj⟩ := List.getElem?_of_mem m1; exact c1 j p q (by have := (List.getElem?_eq_some_iff.mp hj).1; omega) hj m2)
    ·
      refine y_cF (c := .ge) (off := 50) (len := 3) (r := (0, 0, 0, 0)) (by decide +kernel) (acmpF (c := .ge) (by show _ < _; omega)) ?_
      refine y_ic (c := 0) (len := 1) (r := (0, 0, 0, 0)) (by decide +kernel) (by decide) (fun y2233 hy2233 => ?_)
      refine y_same (i := .istore_n 3) (len := 1) (r := (0, 0, 0, 0)) (pc' := 23) (ls' := [some (.inl (some a)), some (zi xw), some (zi xr), some (zi y2233)]) (st' := []) (by decide +kernel) (fun k q => by cases q) rfl ?_
      obtain ⟨ip, kip⟩ : ∃ i9, s.2.1[r]? = some i9 := ⟨_, List.getElem?_eq_getElem (by omega)⟩
      refine fnd_l Q hxw hw hxr kip e1 c1 (fun l9 c9 => ?_) (s.1.length + 1) 0 y2233 (by omega) (by omega) (fun j _ h2 => absurd h2 (Nat.not_lt_zero j)) (by omega)
      refine y_inc (j := 2) (a := xr) (c := 1) (ls' := fun v => [some (.inl (some a)), some (zi xw), some v, l9]) (len := 3) (r := (0, 0, 0, 0)) (by decide +kernel) rfl (fun _ => rfl) (by decide) (by omega) (by omega) (fun y2234 hy2234 => ?_)
      show qX (d + 4) 94 65 [some (.inl (some a)), some (zi xw), some (zi y2234), l9] [] h t _
      refine y_goto (off := (-55)) (pc' := 10) (len := 3) (r := (0, 0, 0, 0)) (by decide +kernel) (by decide +kernel) ?_
      refine ih (r + 1) y2234 l9 (by omega) (by omega) (fun r9 p q hj h2 m => ?_) (by omega)
      rcases Nat.lt_or_ge r9 r with q9 | q9
      · exact c1 r9 p q q9 h2 m
      · obtain rfl : r9 = r := by omega
        cases kip.symm.trans h2
        obtain ⟨j, hj9⟩ := List.getElem?_of_mem m
        exact c9 j q hj9
theorem fnd_e {h0 : zh} {d t a : Nat} {τ : List Nat} {h : zh} {s : sqT} (Q : QC τ h a s) (n8 : nof_ s 8) (F0 : FS a h0 h) : ∀ (n : Nat) (i : Nat) (xi : Int32), (xi.toInt = (i : Int)) → (i ≤ s.2.1.length) → (∀ (j : Nat) (q : it4), j < i → s.2.1[j]? = some q → q.1 < 2) → (s.2.1.length < i + n) → ∀ l2 l3 : Option zv, qX (d + 4) 94 86 [some (.inl (some a)), some (zi xi), l2, l3] [] h t (rI (fnR τ a h0 s) t) := by
  intro n
  induction n with
  | zero =>
    intro i xi hxi hi c1 hn
    intro _ _
    exfalso
    omega
  | succ n ih =>
    intro i xi hxi hi c1 hn
    intro l2 l3
    refine y_same (i := .iload_n 1) (len := 1) (r := (0, 0, 0, 0)) (pc' := 87) (ls' := [some (.inl (some a)), some (zi xi), l2, l3]) (st' := [zi xi]) (by decide +kernel) (fun k q => by cases q) rfl ?_
    refine y_same (i := .aload_n 0) (len := 1) (r := (0, 0, 0, 0)) (pc' := 88) (ls' := [some (.inl (some a)), some (zi xi), l2, l3]) (st' := [.inl (some a), zi xi]) (by decide +kernel) (fun k q => by cases q) rfl ?_
    refine y_get (j := 27) (len := 3) (r := (7, 2, 2, 536)) (by decide +kernel) Q.1 Q.2.1.1 aw1008 rfl rfl Q.2.2.1.2.2.1 ?_
    obtain ⟨z2235, hz2235, ez2235, mz2235⟩ := q_szR Q
    have ez2235 : z2235.toInt = ((s.2.1.length : Nat) : Int) := ez2235
    have mz2235 : s.2.1.length ≤ 14 := mz2235
    refine y_get (j := 65) (len := 3) (r := (6, 1, 0, 20165)) (by decide +kernel) Q.1 Q.2.1.2.2.2.2.2.1 aw1004 rfl rfl hz2235 ?_
    rcases Decidable.em (xi.toInt ≥ z2235.toInt) with q2236 | q2236
    ·
      refine y_cT (c := .ge) (off := 30) (pc' := 124) (len := 3) (r := (0, 0, 0, 0)) (by decide +kernel) (acmpT (c := .ge) (by show _ ≤ _; omega)) (by decide +kernel) ?_
      refine y_bi (c := 9) (len := 2) (r := (0, 0, 0, 0)) (by decide +kernel) (by decide) (fun y2237 hy2237 => ?_)
      refine y_rI (len := 1) (r := (0, 0, 0, 0)) (nL := 4) (k := 1) (n9 := 1) (hs := []) (by decide +kernel) rfl rfl ?_
      exact ⟨9, 0, 0, by omega, Or.inr (Or.inr ⟨rfl, n8, fun p m => by obtain ⟨j, hj⟩ := List.getElem?_of_mem m; exact c1 j p (by have := (List.getElem?_eq_some_iff.mp hj).1; omega) hj⟩), fun q => absurd q (by omega), fun q => absurd q (by omega), Q, F0⟩
    ·
      refine y_cF (c := .ge) (off := 30) (len := 3) (r := (0, 0, 0, 0)) (by decide +kernel) (acmpF (c := .ge) (by show _ < _; omega)) ?_
      refine y_same (i := .aload_n 0) (len := 1) (r := (0, 0, 0, 0)) (pc' := 98) (ls' := [some (.inl (some a)), some (zi xi), l2, l3]) (st' := [.inl (some a)]) (by decide +kernel) (fun k q => by cases q) rfl ?_
      refine y_get (j := 27) (len := 3) (r := (7, 2, 2, 536)) (by decide +kernel) Q.1 Q.2.1.1 aw1008 rfl rfl Q.2.2.1.2.2.1 ?_
      refine y_same (i := .iload_n 1) (len := 1) (r := (0, 0, 0, 0)) (pc' := 102) (ls' := [some (.inl (some a)), some (zi xi), l2, l3]) (st' := [zi xi, .inl (some ((a + 5)))]) (by decide +kernel) (fun k q => by cases q) rfl ?_
      refine y_ic (c := 0) (len := 1) (r := (0, 0, 0, 0)) (by decide +kernel) (by decide) (fun y2238 hy2238 => ?_)
      obtain ⟨i2240, ki2240⟩ : ∃ i9, s.2.1[i]? = some i9 := ⟨_, List.getElem?_eq_getElem (by omega)⟩
      have oi2240 := okQ_R Q.2.2.2.2 ki2240
      have pi2240 := oi2240.1
      unfold okV at pi2240
      refine y_cI (i := .invokevirtual 68) (len := 3) (r := (0, 64, 6, 586)) (nL := 3) (k := 1) (n := 3) (hs := []) (args := [.inl (some ((a + 5))), zi xi, zi y2238]) (rest := []) (l0 := [some (.inl (some ((a + 5)))), some (zi xi), some (zi y2238)]) (by decide +kernel) (Or.inr (Or.inl ⟨_, rfl⟩)) rfl rfl rfl rfl (Nat.le_of_ble_eq_true rfl) (zO Q.1 Q.2.1.2.2.2.2.2.1 aw1004 rfl) rfl (qI_le (by omega) (q_tlR (d := 0) (k := i) (w := 0) Q (by omega) ki2240 (by omega) (by omega))) (fun y2239 qy2239 hRy2239 => ?_)
      obtain ⟨rfl, ey2239⟩ := hRy2239
      have ey2239 : y2239.toInt = i2240.1 := ey2239
      refine y_ic (c := 2) (len := 1) (r := (0, 0, 0, 0)) (by decide +kernel) (by decide) (fun y2241 hy2241 => ?_)
      rcases Decidable.em (y2239.toInt < y2241.toInt) with q2242 | q2242
      ·
        refine y_cT (c := .lt) (off := 11) (pc' := 118) (len := 3) (r := (0, 0, 0, 0)) (by decide +kernel) (acmpT (c := .lt) (by show _ < _; omega)) (by decide +kernel) ?_
        refine y_inc (j := 1) (a := xi) (c := 1) (ls' := fun v => [some (.inl (some a)), some v, l2, l3]) (len := 3) (r := (0, 0, 0, 0)) (by decide +kernel) rfl (fun _ => rfl) (by decide) (by omega) (by omega) (fun y2243 hy2243 => ?_)
        show qX (d + 4) 94 121 [some (.inl (some a)), some (zi y2243), l2, l3] [] h t _
        refine y_goto (off := (-35)) (pc' := 86) (len := 3) (r := (0, 0, 0, 0)) (by decide +kernel) (by decide +kernel) ?_
        refine ih (i + 1) y2243 (by omega) (by omega) (fun j q hj h2 => ?_) (by omega) l2 l3
        rcases Nat.lt_or_ge j i with q9 | q9
        · exact c1 j q q9 h2
        · obtain rfl : j = i := by omega
          cases ki2240.symm.trans h2
          omega
      ·
        refine y_cF (c := .lt) (off := 11) (len := 3) (r := (0, 0, 0, 0)) (by decide +kernel) (acmpF (c := .lt) (by show _ ≤ _; omega)) ?_
        refine y_same (i := .aload_n 0) (len := 1) (r := (0, 0, 0, 0)) (pc' := 111) (ls' := [some (.inl (some a)), some (zi xi), l2, l3]) (st' := [.inl (some a)]) (by decide +kernel) (fun k q => by cases q) rfl ?_
        refine y_same (i := .iload_n 1) (len := 1) (r := (0, 0, 0, 0)) (pc' := 112) (ls' := [some (.inl (some a)), some (zi xi), l2, l3]) (st' := [zi xi, .inl (some a)]) (by decide +kernel) (fun k q => by cases q) rfl ?_
        refine y_put (j := 46) (lo := (-2147483648)) (hi := 2147483647) (len := 3) (r := (7, 8, 0, 553)) (by decide +kernel) Q.1 Q.2.1.1 aw1008 rfl rfl (by decide) rfl (qin_full _).1 (qin_full _).2 rfl (fun h2244 hg2244 hl2244 hs2244 ho2244 => ?_)
        have ho2244 : hO a 8 h h2244 := ho2244
        have hs2244 : hsl h2244 a 8 = some (zi xi) := hs2244
        have Q2244_a := QC_up Q hg2244 (fun k j _ _ _ => ho2244 k j (by omega))
        refine y_bi (c := 8) (len := 2) (r := (0, 0, 0, 0)) (by decide +kernel) (by decide) (fun y2245 hy2245 => ?_)
        refine y_rI (len := 1) (r := (0, 0, 0, 0)) (nL := 4) (k := 1) (n9 := 1) (hs := []) (by decide +kernel) rfl rfl ?_
        exact ⟨8, i, 0, by omega, Or.inr (Or.inl ⟨rfl, n8, ⟨i2240, ki2240, by omega⟩, fun r9 p h1 h2 => c1 r9 p h1 h2⟩), fun _ => ⟨_, hs2244, hxi⟩, fun q => absurd q (by omega), Q2244_a, fun k j hC => ((ho2244 k j (by omega))).trans (F0 k j hC)⟩
theorem fnd_w {d t a : Nat} {τ : List Nat} {h : zh} {s : sqT} (Q : QC τ h a s) : ∀ (n : Nat) (w : Nat) (xw : Int32) (l2 : Option zv) (l3 : Option zv), (xw.toInt = (w : Int)) → (3 ≤ w) → (w ≤ 8) → (nof_ s w) → (8 < w + n) → qX (d + 4) 94 2 [some (.inl (some a)), some (zi xw), l2, l3] [] h t (rI (fnR τ a h s) t) := by
  intro n
  induction n with
  | zero =>
    intro w xw l2 l3 hxw h3 h8 e1 hn
    exfalso
    omega
  | succ n ih =>
    intro w xw l2 l3 hxw h3 h8 e1 hn
    skip
    refine y_same (i := .iload_n 1) (len := 1) (r := (0, 0, 0, 0)) (pc' := 3) (ls' := [some (.inl (some a)), some (zi xw), l2, l3]) (st' := [zi xw]) (by decide +kernel) (fun k q => by cases q) rfl ?_
    refine y_bi (c := 7) (len := 2) (r := (0, 0, 0, 0)) (by decide +kernel) (by decide) (fun y2246 hy2246 => ?_)
    rcases Decidable.em (xw.toInt > y2246.toInt) with q2247 | q2247
    ·
      refine y_cT (c := .gt) (off := 69) (pc' := 74) (len := 3) (r := (0, 0, 0, 0)) (by decide +kernel) (acmpT (c := .gt) (by show _ < _; omega)) (by decide +kernel) ?_
      refine y_same (i := .aload_n 0) (len := 1) (r := (0, 0, 0, 0)) (pc' := 75) (ls' := [some (.inl (some a)), some (zi xw), l2, l3]) (st' := [.inl (some a)]) (by decide +kernel) (fun k q => by cases q) rfl ?_
      refine y_ic (c := (-1)) (len := 1) (r := (0, 0, 0, 0)) (by decide +kernel) (by decide) (fun y2248 hy2248 => ?_)
      refine y_put (j := 49) (lo := (-2147483648)) (hi := 2147483647) (len := 3) (r := (7, 9, 0, 554)) (by decide +kernel) Q.1 Q.2.1.1 aw1008 rfl rfl (by decide) rfl (qin_full _).1 (qin_full _).2 rfl (fun h2249 hg2249 hl2249 hs2249 ho2249 => ?_)
      have ho2249 : hO a 9 h h2249 := ho2249
      have hs2249 : hsl h2249 a 9 = some (zi y2248) := hs2249
      have Q2249_a := QC_up Q hg2249 (fun k j _ _ _ => ho2249 k j (by omega))
      refine y_same (i := .aload_n 0) (len := 1) (r := (0, 0, 0, 0)) (pc' := 80) (ls' := [some (.inl (some a)), some (zi xw), l2, l3]) (st' := [.inl (some a)]) (by decide +kernel) (fun k q => by cases q) rfl ?_
      refine y_ic (c := (-1)) (len := 1) (r := (0, 0, 0, 0)) (by decide +kernel) (by decide) (fun y2250 hy2250 => ?_)
      refine y_put (j := 46) (lo := (-2147483648)) (hi := 2147483647) (len := 3) (r := (7, 8, 0, 553)) (by decide +kernel) Q2249_a.1 Q2249_a.2.1.1 aw1008 rfl rfl (by decide) rfl (qin_full _).1 (qin_full _).2 rfl (fun h2251 hg2251 hl2251 hs2251 ho2251 => ?_)
      have ho2251 : hO a 8 h2249 h2251 := ho2251
      have hs2251 : hsl h2251 a 8 = some (zi y2250) := hs2251
      have Q2251_a := QC_up Q2249_a hg2251 (fun k j _ _ _ => ho2251 k j (by omega))
      refine y_ic (c := 0) (len := 1) (r := (0, 0, 0, 0)) (by decide +kernel) (by decide) (fun y2252 hy2252 => ?_)
      refine y_same (i := .istore_n 1) (len := 1) (r := (0, 0, 0, 0)) (pc' := 86) (ls' := [some (.inl (some a)), some (zi y2252), l2, l3]) (st' := []) (by decide +kernel) (fun k q => by cases q) rfl ?_
      obtain rfl : w = 8 := by omega
      exact fnd_e (h0 := h) Q2251_a e1 (fun k j hC => ((ho2251 k j (by omega)).trans (ho2249 k j (by omega)))) (s.2.1.length + 1) 0 y2252 (by omega) (by omega) (fun j _ h2 => absurd h2 (Nat.not_lt_zero j)) (by omega) l2 l3
    ·
      refine y_cF (c := .gt) (off := 69) (len := 3) (r := (0, 0, 0, 0)) (by decide +kernel) (acmpF (c := .gt) (by show _ ≤ _; omega)) ?_
      refine y_ic (c := 0) (len := 1) (r := (0, 0, 0, 0)) (by decide +kernel) (by decide) (fun y2253 hy2253 => ?_)
      refine y_same (i := .istore_n 2) (len := 1) (r := (0, 0, 0, 0)) (pc' := 10) (ls' := [some (.inl (some a)), some (zi xw), some (zi y2253), l3]) (st' := []) (by decide +kernel) (fun k q => by cases q) rfl ?_
      refine fnd_m Q hxw ⟨h3, by omega⟩ e1 (fun m2 m3 c9 => ?_) (s.2.1.length + 1) 0 y2253 l3 (by omega) (by omega) (fun r9 _ _ h2 => absurd h2 (Nat.not_lt_zero r9)) (by omega)
      refine y_inc (j := 1) (a := xw) (c := 1) (ls' := fun v => [some (.inl (some a)), some v, m2, m3]) (len := 3) (r := (0, 0, 0, 0)) (by decide +kernel) rfl (fun _ => rfl) (by decide) (by omega) (by omega) (fun y2254 hy2254 => ?_)
      show qX (d + 4) 94 71 [some (.inl (some a)), some (zi y2254), m2, m3] [] h t _
      refine y_goto (off := (-69)) (pc' := 2) (len := 3) (r := (0, 0, 0, 0)) (by decide +kernel) (by decide +kernel) ?_
      refine ih (w + 1) y2254 m2 m3 (by omega) (by omega) (by omega) (fun v p q g1 g2 m1 m2 => ?_) (by omega)
      rcases Nat.lt_or_ge v w with q9 | q9
      · exact e1 v p q g1 q9 m1 m2
      · obtain rfl : v = w := by omega
        exact c9 p q m1 m2
theorem q_fnd {d t a : Nat} {τ : List Nat} {h : zh} {s : sqT} (Q : QC τ h a s) : qI (d + 5) 94 [some (.inl (some a)), none, none, none] h t (fnR τ a h s) := by
  refine qI_of ?_
  refine y_ic (c := 3) (len := 1) (r := (0, 0, 0, 0)) (by decide +kernel) (by decide) (fun y2255 hy2255 => ?_)
  refine y_same (i := .istore_n 1) (len := 1) (r := (0, 0, 0, 0)) (pc' := 2) (ls' := [some (.inl (some a)), some (zi y2255), none, none]) (st' := []) (by decide +kernel) (fun k q => by cases q) rfl ?_
  exact fnd_w Q 6 3 y2255 none none (by omega) (by omega) (by omega) (fun v _ _ g1 g2 => absurd g2 (by omega)) (by omega)
