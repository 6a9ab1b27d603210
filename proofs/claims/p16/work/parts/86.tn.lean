/-! TURN of the class, told exactly -/
theorem y_pur {d mi pc : Nat} {ls : List (Option zv)} {h : zh} {t : Nat} {P : zo × zh × Nat → Prop} {len : Nat} {r : zr} {τ : List Nat} {A T v T2 : Nat} {st' : List zv} {ci j : Nat} {ss : List qs} {nl : Bool} (hf : zfetch mi pc = some (.putfield j, len, r)) (hg : hG τ h) (hA : τ[A]? = some T) (hT : atyp T = some (.inr (ci, ss))) (hp : aprot T = false) (hr : r.1 = ci) (hi9 : r.2.1 < ss.length) (hq : ss[r.2.1]? = some (.inr (.inl (T2, nl)))) (hv : τ[v]? = some T2) (hz : zfit r.2.2.1 (.inl (some v)) = true) (k : ∀ h2 : zh, hG τ h2 → hO A r.2.1 h h2 → qX d mi (pc + 3) ls st' h2 t P) : qX d mi pc ls (.inl (some v) :: .inl (some A) :: st') h t P := by
  obtain ⟨fs, hc, hl⟩ := g_obj hg hA hT
  obtain ⟨k1, k2, k3, k4⟩ := g_put (v := .inl (some v)) hg hA hT hi9 hq (Or.inr ⟨v, rfl, hv⟩) hp
  subst hr
  obtain ⟨x, k, hP⟩ := k _ k1 k4
  exact ⟨x, x_put hf hc (by omega) hz k, hP⟩
theorem atav2 : atau[2]? = some 1000 := by decide +kernel
theorem tv2 {τ : List Nat} {h : zh} (hg : hG τ h) : τ[2]? = some 1000 := hg.1.2.2.1 _ _ atav2
theorem c_exch {d t : Nat} {τ : List Nat} {h : zh} (hg : hG τ h) : qV (d + 1) 110 [some (.inl (some 2)), none] h t (fun h1 => ∃ τ1, oF (fun k j => k ≠ 2) τ h τ1 h1) := by
  refine qV_of ?_
  refine y_same (i := .aload_n 0) (len := 1) (r := (0, 0, 0, 0)) (pc' := 1) (ls' := [some (.inl (some 2)), none]) (st' := [.inl (some 2)]) (by decide +kernel) (fun k q => by cases q) rfl ?_
  obtain ⟨o1809, hdo1809, tdo1809, -⟩ := g_ref (i := 0) hg (tv2 hg) aw1000 (by decide) rfl
  refine y_get (j := 10) (len := 3) (r := (9, 0, 2, 197)) (by decide +kernel) hg (tv2 hg) aw1000 rfl rfl hdo1809 ?_
  refine y_same (i := .astore_n 1) (len := 1) (r := (0, 0, 0, 0)) (pc' := 5) (ls' := [some (.inl (some 2)), some (.inl (some o1809))]) (st' := []) (by decide +kernel) (fun k q => by cases q) rfl ?_
  refine y_same (i := .aload_n 0) (len := 1) (r := (0, 0, 0, 0)) (pc' := 6) (ls' := [some (.inl (some 2)), some (.inl (some o1809))]) (st' := [.inl (some 2)]) (by decide +kernel) (fun k q => by cases q) rfl ?_
  refine y_same (i := .aload_n 0) (len := 1) (r := (0, 0, 0, 0)) (pc' := 7) (ls' := [some (.inl (some 2)), some (.inl (some o1809))]) (st' := [.inl (some 2), .inl (some 2)]) (by decide +kernel) (fun k q => by cases q) rfl ?_
  obtain ⟨o1810, hdo1810, tdo1810, -⟩ := g_ref (i := 1) hg (tv2 hg) aw1000 (by decide) rfl
  refine y_get (j := 16) (len := 3) (r := (9, 1, 2, 202)) (by decide +kernel) hg (tv2 hg) aw1000 rfl rfl hdo1810 ?_
  refine y_pur (j := 10) (len := 3) (r := (9, 0, 2, 197)) (by decide +kernel) hg (tv2 hg) aw1000 rfl rfl (by decide) rfl tdo1810 rfl (fun h1811 hg1811 ho1811 => ?_)
  have ho1811 : hO 2 0 h h1811 := ho1811
  refine y_same (i := .aload_n 0) (len := 1) (r := (0, 0, 0, 0)) (pc' := 14) (ls' := [some (.inl (some 2)), some (.inl (some o1809))]) (st' := [.inl (some 2)]) (by decide +kernel) (fun k q => by cases q) rfl ?_
  refine y_same (i := .aload_n 1) (len := 1) (r := (0, 0, 0, 0)) (pc' := 15) (ls' := [some (.inl (some 2)), some (.inl (some o1809))]) (st' := [.inl (some o1809), .inl (some 2)]) (by decide +kernel) (fun k q => by cases q) rfl ?_
  refine y_pur (j := 16) (len := 3) (r := (9, 1, 2, 202)) (by decide +kernel) hg1811 (tv2 hg1811) aw1000 rfl rfl (by decide) rfl tdo1809 rfl (fun h1812 hg1812 ho1812 => ?_)
  have ho1812 : hO 2 1 h1811 h1812 := ho1812
  refine y_rV (len := 1) (r := (0, 0, 0, 0)) (nL := 2) (n9 := 1) (hs := []) (by decide +kernel) rfl ?_
  exact ⟨_, ⟨(aup_refl _), hg1812, fun k T j hk (hC : k ≠ 2) => ((ho1812 k j (by omega)).trans (ho1811 k j (by omega)))⟩⟩
theorem c_turn {t : Nat} {τ : List Nat} {h : zh} (hg : hG τ h) (h5 : hsl h 0 5 = some (.inl (some 2))) : qI 60 135 [some (.inl (some 0))] h t (fun _ h1 => ∃ τ1, hG τ1 h1 ∧ kpC h h1 ∧ kpM h h1) := by
  refine qI_le (d := 30) (by decide) (qI_of ?_)
  refine y_same (i := .aload_n 0) (len := 1) (r := (0, 0, 0, 0)) (pc' := 1) (ls' := [some (.inl (some 0))]) (st' := [.inl (some 0)]) (by decide +kernel) (fun k q => by cases q) rfl ?_
  refine y_get (j := 36) (len := 3) (r := (11, 6, 2, 405)) (by decide +kernel) hg (tv0 hg) aw0 rfl rfl (g_rU (f := 6) (T2 := 13) hg (tv0 hg) aw0 rfl (by decide)) ?_
  refine y_same (i := .aload_n 0) (len := 1) (r := (0, 0, 0, 0)) (pc' := 5) (ls' := [some (.inl (some 0))]) (st' := [.inl (some 0), .inl (some 13)]) (by decide +kernel) (fun k q => by cases q) rfl ?_
  refine y_get (j := 29) (len := 3) (r := (11, 5, 2, 404)) (by decide +kernel) hg (tv0 hg) aw0 rfl rfl h5 ?_
  refine y_cV (i := .invokevirtual 83) (len := 3) (r := (0, 24, 2, 449)) (nL := 2) (k := 0) (n := 2) (hs := []) (args := [.inl (some 13), .inl (some 2)]) (rest := []) (l0 := [some (.inl (some 13)), some (.inl (some 2))]) (by decide +kernel) (Or.inr (Or.inl ⟨_, rfl⟩)) rfl rfl rfl rfl (Nat.le_of_ble_eq_true rfl) (zO hg (tv13 hg) aw13 rfl) rfl (use_V (τ := τ) (pf := []) (pv := []) (okC (mk := 24) (c := ac2) (List.mem_of_getElem? (i := 0) rfl)) rfl hg (show aqsM _ _ [.inl (some 13), .inl (some 2)] from ⟨aqR (tv13 hg), aqR (tv2 hg), trivial⟩) trivial rfl (by decide +kernel) (by decide)) (fun h1813 hR1813 => ?_)
  obtain ⟨τ1813, hu1813, hg1813, hF1813⟩ := hR1813
  refine y_same (i := .aload_n 0) (len := 1) (r := (0, 0, 0, 0)) (pc' := 12) (ls' := [some (.inl (some 0))]) (st' := [.inl (some 0)]) (by decide +kernel) (fun k q => by cases q) rfl ?_
  have hv1814 := (hF1813 0 0 5 (tv0 hg) (by rfl)).trans h5
  refine y_get (j := 29) (len := 3) (r := (11, 5, 2, 404)) (by decide +kernel) hg1813 (tv0 hg1813) aw0 rfl rfl hv1814 ?_
  refine y_cV (i := .invokevirtual 98) (len := 3) (r := (0, 110, 9, 470)) (nL := 2) (k := 0) (n := 1) (hs := []) (args := [.inl (some 2)]) (rest := []) (l0 := [some (.inl (some 2)), none]) (by decide +kernel) (Or.inr (Or.inl ⟨_, rfl⟩)) rfl rfl rfl rfl (Nat.le_of_ble_eq_true rfl) (zO hg1813 (tv2 hg1813) aw1000 rfl) rfl (qV_le (by decide) (c_exch (d := 0) hg1813)) (fun h1815 hR1815 => ?_)
  obtain ⟨τ1815, O1815⟩ := hR1815
  refine y_same (i := .aload_n 0) (len := 1) (r := (0, 0, 0, 0)) (pc' := 19) (ls' := [some (.inl (some 0))]) (st' := [.inl (some 0)]) (by decide +kernel) (fun k q => by cases q) rfl ?_
  refine y_cV (i := .invokevirtual 91) (len := 3) (r := (0, 154, 11, 474)) (nL := 1) (k := 0) (n := 1) (hs := []) (args := [.inl (some 0)]) (rest := []) (l0 := [some (.inl (some 0))]) (by decide +kernel) (Or.inr (Or.inl ⟨_, rfl⟩)) rfl rfl rfl rfl (Nat.le_of_ble_eq_true rfl) (zO O1815.2.1 (tv0 O1815.2.1) aw0 rfl) rfl (qV_le (by decide) (c_forget (d := 0) O1815.2.1)) (fun h1816 hR1816 => ?_)
  obtain ⟨τ1816, O1816⟩ := hR1816
  refine y_same (i := .aload_n 0) (len := 1) (r := (0, 0, 0, 0)) (pc' := 23) (ls' := [some (.inl (some 0))]) (st' := [.inl (some 0)]) (by decide +kernel) (fun k q => by cases q) rfl ?_
  have hv1817 := (O1815.2.2 0 0 5 (tv0 hg1813) (show 0 ≠ 2 by omega)).trans hv1814
  have hv1818 := (O1816.2.2 0 0 5 (tv0 O1815.2.1) (show (0 ≠ 28 ∧ 0 ≠ 35 ∧ 0 ≠ 42) ∨ 5 ≠ 5 by omega)).trans hv1817
  refine y_get (j := 29) (len := 3) (r := (11, 5, 2, 404)) (by decide +kernel) O1816.2.1 (tv0 O1816.2.1) aw0 rfl rfl hv1818 ?_
  refine y_cI (i := .invokevirtual 94) (len := 3) (r := (0, 111, 9, 478)) (nL := 1) (k := 1) (n := 1) (hs := []) (args := [.inl (some 2)]) (rest := []) (l0 := [some (.inl (some 2))]) (by decide +kernel) (Or.inr (Or.inl ⟨_, rfl⟩)) rfl rfl rfl rfl (Nat.le_of_ble_eq_true rfl) (zO O1816.2.1 (tv2 O1816.2.1) aw1000 rfl) rfl (qI_le (by decide) (c_count (d := 0) O1816.2.1 (tv2 O1816.2.1))) (fun y1819 qy1819 hRy1819 => ?_)
  obtain rfl := hRy1819
  refine y_rI (len := 1) (r := (0, 0, 0, 0)) (nL := 1) (k := 1) (n9 := 1) (hs := []) (by decide +kernel) rfl rfl ?_
  exact ⟨_, O1816.2.1, ⟨fun j => ((O1816.2.2 1 1 j (tv1 O1815.2.1) (show (1 ≠ 28 ∧ 1 ≠ 35 ∧ 1 ≠ 42) ∨ j ≠ 5 by omega)).trans ((O1815.2.2 1 1 j (tv1 hg1813) (show 1 ≠ 2 by omega)).trans (hF1813 1 1 j (tv1 hg) (by rfl)))), ((O1816.2.2 0 0 1 (tv0 O1815.2.1) (show (0 ≠ 28 ∧ 0 ≠ 35 ∧ 0 ≠ 42) ∨ 1 ≠ 5 by omega)).trans ((O1815.2.2 0 0 1 (tv0 hg1813) (show 0 ≠ 2 by omega)).trans (hF1813 0 0 1 (tv0 hg) (by rfl)))), ((O1816.2.2 0 0 2 (tv0 O1815.2.1) (show (0 ≠ 28 ∧ 0 ≠ 35 ∧ 0 ≠ 42) ∨ 2 ≠ 5 by omega)).trans ((O1815.2.2 0 0 2 (tv0 hg1813) (show 0 ≠ 2 by omega)).trans (hF1813 0 0 2 (tv0 hg) (by rfl)))), fun al => ⟨((O1816.2.2 15 15 0 (tv15 O1815.2.1) (show (15 ≠ 28 ∧ 15 ≠ 35 ∧ 15 ≠ 42) ∨ 0 ≠ 5 by omega)).trans ((O1815.2.2 15 15 0 (tv15 hg1813) (show 15 ≠ 2 by omega)).trans (hF1813 15 15 0 (tv15 hg) (by rfl)))).trans al.1, ((O1816.2.2 16 1000 0 (tv16 O1815.2.1) (show (16 ≠ 28 ∧ 16 ≠ 35 ∧ 16 ≠ 42) ∨ 0 ≠ 5 by omega)).trans ((O1815.2.2 16 1000 0 (tv16 hg1813) (show 16 ≠ 2 by omega)).trans (hF1813 16 1000 0 (tv16 hg) (by rfl)))).trans al.2.1, ((O1816.2.2 16 1000 1 (tv16 O1815.2.1) (show (16 ≠ 28 ∧ 16 ≠ 35 ∧ 16 ≠ 42) ∨ 1 ≠ 5 by omega)).trans ((O1815.2.2 16 1000 1 (tv16 hg1813) (show 16 ≠ 2 by omega)).trans (hF1813 16 1000 1 (tv16 hg) (by rfl)))).trans al.2.2.1, ((O1816.2.2 17 1001 0 (tv17 O1815.2.1) (show (17 ≠ 28 ∧ 17 ≠ 35 ∧ 17 ≠ 42) ∨ 0 ≠ 5 by omega)).trans ((O1815.2.2 17 1001 0 (tv17 hg1813) (show 17 ≠ 2 by omega)).trans (hF1813 17 1001 0 (tv17 hg) (by rfl)))).trans al.2.2.2.1, ((O1816.2.2 17 1001 1 (tv17 O1815.2.1) (show (17 ≠ 28 ∧ 17 ≠ 35 ∧ 17 ≠ 42) ∨ 1 ≠ 5 by omega)).trans ((O1815.2.2 17 1001 1 (tv17 hg1813) (show 17 ≠ 2 by omega)).trans (hF1813 17 1001 1 (tv17 hg) (by rfl)))).trans al.2.2.2.2.1, ((O1816.2.2 22 1001 0 (tv22 O1815.2.1) (show (22 ≠ 28 ∧ 22 ≠ 35 ∧ 22 ≠ 42) ∨ 0 ≠ 5 by omega)).trans ((O1815.2.2 22 1001 0 (tv22 hg1813) (show 22 ≠ 2 by omega)).trans (hF1813 22 1001 0 (tv22 hg) (by rfl)))).trans al.2.2.2.2.2.1, ((O1816.2.2 22 1001 1 (tv22 O1815.2.1) (show (22 ≠ 28 ∧ 22 ≠ 35 ∧ 22 ≠ 42) ∨ 1 ≠ 5 by omega)).trans ((O1815.2.2 22 1001 1 (tv22 hg1813) (show 22 ≠ 2 by omega)).trans (hF1813 22 1001 1 (tv22 hg) (by rfl)))).trans al.2.2.2.2.2.2.1, ((O1816.2.2 18 1002 0 (tv18 O1815.2.1) (show (18 ≠ 28 ∧ 18 ≠ 35 ∧ 18 ≠ 42) ∨ 0 ≠ 5 by omega)).trans ((O1815.2.2 18 1002 0 (tv18 hg1813) (show 18 ≠ 2 by omega)).trans (hF1813 18 1002 0 (tv18 hg) (by rfl)))).trans al.2.2.2.2.2.2.2.1, ((O1816.2.2 20 1003 0 (tv20 O1815.2.1) (show (20 ≠ 28 ∧ 20 ≠ 35 ∧ 20 ≠ 42) ∨ 0 ≠ 5 by omega)).trans ((O1815.2.2 20 1003 0 (tv20 hg1813) (show 20 ≠ 2 by omega)).trans (hF1813 20 1003 0 (tv20 hg) (by rfl)))).trans al.2.2.2.2.2.2.2.2.1, ((O1816.2.2 23 1002 0 (tv23 O1815.2.1) (show (23 ≠ 28 ∧ 23 ≠ 35 ∧ 23 ≠ 42) ∨ 0 ≠ 5 by omega)).trans ((O1815.2.2 23 1002 0 (tv23 hg1813) (show 23 ≠ 2 by omega)).trans (hF1813 23 1002 0 (tv23 hg) (by rfl)))).trans al.2.2.2.2.2.2.2.2.2.1, ((O1816.2.2 25 1003 0 (tv25 O1815.2.1) (show (25 ≠ 28 ∧ 25 ≠ 35 ∧ 25 ≠ 42) ∨ 0 ≠ 5 by omega)).trans ((O1815.2.2 25 1003 0 (tv25 hg1813) (show 25 ≠ 2 by omega)).trans (hF1813 25 1003 0 (tv25 hg) (by rfl)))).trans al.2.2.2.2.2.2.2.2.2.2⟩, ((O1816.2.2 0 0 5 (tv0 O1815.2.1) (show (0 ≠ 28 ∧ 0 ≠ 35 ∧ 0 ≠ 42) ∨ 5 ≠ 5 by omega)).trans ((O1815.2.2 0 0 5 (tv0 hg1813) (show 0 ≠ 2 by omega)).trans (hF1813 0 0 5 (tv0 hg) (by rfl))))⟩, ⟨fun j => ((O1816.2.2 54 54 j (tu54 O1815.2.1) (show (54 ≠ 28 ∧ 54 ≠ 35 ∧ 54 ≠ 42) ∨ j ≠ 5 by omega)).trans ((O1815.2.2 54 54 j (tu54 hg1813) (show 54 ≠ 2 by omega)).trans (hF1813 54 54 j (tu54 hg) (by rfl)))), ((O1816.2.2 52 52 2 (t52 O1815.2.1) (show (52 ≠ 28 ∧ 52 ≠ 35 ∧ 52 ≠ 42) ∨ 2 ≠ 5 by omega)).trans ((O1815.2.2 52 52 2 (t52 hg1813) (show 52 ≠ 2 by omega)).trans (hF1813 52 52 2 (t52 hg) (by rfl)))), ((O1816.2.2 52 52 5 (t52 O1815.2.1) (show (52 ≠ 28 ∧ 52 ≠ 35 ∧ 52 ≠ 42) ∨ 5 ≠ 5 by omega)).trans ((O1815.2.2 52 52 5 (t52 hg1813) (show 52 ≠ 2 by omega)).trans (hF1813 52 52 5 (t52 hg) (by rfl))))⟩⟩
/-- what the law's loop keeps -/
def IV (h : zh) (T : Nat) : Prop := T ≤ 200 ∧ T % 20 = 0 ∧ alC h ∧ hsl h 0 5 = some (.inl (some 2)) ∧ (∃ x : Int32, hsl h 0 1 = some (zi x) ∧ x.toInt = (T : Int)) ∧ (∃ x : Int32, hsl h 52 2 = some (zi x) ∧ x.toInt = (T : Int)) ∧ (∀ j, j < T → ∃ x : Int32, hsl h 1 j = some (zi x) ∧ hsl h 54 j = some (zi x)) ∧ ∃ p : Int32, hsl h 0 2 = some (zi p) ∧ hsl h 52 5 = some (zi p)
theorem IV_kp {h h1 : zh} {T : Nat} (c : kpC h h1) (m : kpM h h1) (i : IV h T) : IV h1 T := by
  obtain ⟨i1, i2, i3, i4, ⟨x, i5, i6⟩, ⟨y, i7, i8⟩, i9, p, i10, i11⟩ := i
  obtain ⟨c1, c2, c3, c4, c5⟩ := c
  obtain ⟨m1, m2, m3⟩ := m
  refine ⟨i1, i2, c4 i3, c5.trans i4, ⟨x, c2.trans i5, i6⟩, ⟨y, m2.trans i7, i8⟩, fun j hj => ?_, p, c3.trans i10, m3.trans i11⟩
  obtain ⟨z, q1, q2⟩ := i9 j hj
  exact ⟨z, (c1 j).trans q1, (m1 j).trans q2⟩
def IVs (h h1 : zh) : Prop := ∀ T, IV h T → IV h1 T
theorem IVs_w {τ : List Nat} {h h1 : zh} {wl : aW} (hg : hG τ h) (F : aFr τ h wl h1) (w : (wlC wl && wlM wl) = true) : IVs h h1 := by
  simp only [Bool.and_eq_true] at w
  exact fun T i => IV_kp (kpC_w hg F w.1) (kpM_w hg F w.2) i
theorem use_L4 {τ : List Nat} {h : zh} {mj dd nL rk n t d : Nat} {hs : List (Nat × Nat × Nat × Nat)} {qs : List aq} {wl : aW} {outs : List aE} {vs : List zv} {l0 : List (Option zv)} (b : Nat) (hC : cOK aJ mj (qs, [], dd, wl, outs)) (hm : zmeth mj = some (nL, rk, n, hs)) (hg : hG τ h) (hq : aqsM τ qs vs) (hz : zent vs nL = some l0) (ho : outs.all (outL b) = true) (hd : dd ≤ d) (hw : (wlC wl && wlM wl) = true) : ∃ (y : Int32) (h1 : zh) (t1 : Nat), qE d mj l0 h t (.inl (some (zi y)), h1, t1) ∧ t1 ≤ t + b ∧ ∃ τ1, hG τ1 h1 ∧ IVs h h1 := by
  obtain ⟨o, h', t', τ', e, he, hE, hu, hh', hJ', hF, ht, hc⟩ := hC τ h t nL rk n hs vs l0 [] hm hg.1 hg.2 hq trivial hz
  have h1 := List.all_eq_true.mp ho e he
  unfold outL at h1
  split at h1
  · rcases o with (_ | v) | z
    · exact hc.1.elim
    · obtain ⟨x, rfl, l1, l2⟩ := hc.1
      have h1 := Nat.le_of_ble_eq_true h1
      simp only at ht
      exact ⟨x, h', t', qE_le hd hE, by omega, τ', ⟨hh', hJ'⟩, IVs_w hg hF hw⟩
    · exact hc.1.elim
  · cases h1
theorem use_J4 {τ : List Nat} {h : zh} {mj dd nL rk n t d : Nat} {hs : List (Nat × Nat × Nat × Nat)} {qs : List aq} {wl : aW} {outs : List aE} {vs : List zv} {l0 : List (Option zv)} (hC : cOK aJ mj (qs, [], dd, wl, outs)) (hm : zmeth mj = some (nL, rk, n, hs)) (hg : hG τ h) (hq : aqsM τ qs vs) (hz : zent vs nL = some l0) (ho : outs.all outJ = true) (hd : dd ≤ d) (hw : (wlC wl && wlM wl) = true) : ∃ (w : Int64) (h1 : zh) (t1 : Nat), qE d mj l0 h t (.inl (some (.inr (.inr (.inl w)))), h1, t1) ∧ t1 = t ∧ ∃ τ1, hG τ1 h1 ∧ IVs h h1 := by
  obtain ⟨o, h', t', τ', e, he, hE, hu, hh', hJ', hF, ht, hc⟩ := hC τ h t nL rk n hs vs l0 [] hm hg.1 hg.2 hq trivial hz
  have h1 := List.all_eq_true.mp ho e he
  unfold outJ at h1
  split at h1
  · rcases o with (_ | v) | z
    · exact hc.1.elim
    · obtain ⟨w, rfl⟩ : ∃ w : Int64, v = .inr (.inr (.inl w)) := by
        rcases hc.1 with ⟨h9, -⟩ | ⟨h9, -⟩ | ⟨-, h9⟩ | ⟨h9, -⟩ | ⟨h9, -⟩
        · cases h9
        · cases h9
        · exact h9
        · omega
        · omega
      exact ⟨w, h', t', qE_le hd hE, ht, τ', ⟨hh', hJ'⟩, IVs_w hg hF hw⟩
    · exact hc.1.elim
  · cases h1
theorem lw_turn {t : Nat} {τ : List Nat} {h : zh} {T : Nat} (hg : hG τ h) (i : IV h T) : ∃ (y : Int32) (h1 : zh) (t1 : Nat), qE 60 135 [some (.inl (some 0))] h t (.inl (some (zi y)), h1, t1) ∧ t1 ≤ t + 0 ∧ ∃ τ1, hG τ1 h1 ∧ IV h1 T := by
  obtain ⟨y, h1, e, τ1, g1, c, m⟩ := c_turn (t := t) hg i.2.2.2.1
  exact ⟨y, h1, t, e, by omega, τ1, g1, IV_kp c m i⟩
