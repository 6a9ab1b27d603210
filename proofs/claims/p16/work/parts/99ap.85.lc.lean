/-! the class's calls that judge, as the law's loop sees them -/
theorem cz_proofA {t : Nat} {τ : List Nat} {h : zh} {cur : bsT} {x1 : Int32} (hg : hG τ h) (hin : qI 15 142 [some (.inl (some 0)), some (zi x1)] h t (fun _ h1 => (∃ τ1, hG τ1 h1) ∧ JCx h1 cur)) : qI 60 282 [some (.inl (some 0)), some (zi x1), some (.inl (some 388)), none] h t (fun _ h1 => JCx h1 cur) := by
  refine qI_le (d := 32) (by decide) (qI_of ?_)
  refine y_same (i := .aload_n 2) (len := 1) (r := (0, 0, 0, 0)) (pc' := 1) (ls' := [some (.inl (some 0)), some (zi x1), some (.inl (some 388)), none]) (st' := [.inl (some 388)]) (by decide +kernel) (fun k q => by cases q) rfl ?_
  refine y_ic (c := 0) (len := 1) (r := (0, 0, 0, 0)) (by decide +kernel) (by decide) (fun y2023 hy2023 => ?_)
  refine y_same (i := .aload_n 0) (len := 1) (r := (0, 0, 0, 0)) (pc' := 3) (ls' := [some (.inl (some 0)), some (zi x1), some (.inl (some 388)), none]) (st' := [.inl (some 0), zi y2023, .inl (some 388)]) (by decide +kernel) (fun k q => by cases q) rfl ?_
  refine y_same (i := .iload_n 1) (len := 1) (r := (0, 0, 0, 0)) (pc' := 4) (ls' := [some (.inl (some 0)), some (zi x1), some (.inl (some 388)), none]) (st' := [zi x1, .inl (some 0), zi y2023, .inl (some 388)]) (by decide +kernel) (fun k q => by cases q) rfl ?_
  refine y_cI (i := .invokevirtual 34) (len := 3) (r := (0, 142, 11, 1142)) (nL := 2) (k := 1) (n := 2) (hs := []) (args := [.inl (some 0), zi x1]) (rest := [zi y2023, .inl (some 388)]) (l0 := [some (.inl (some 0)), some (zi x1)]) (by decide +kernel) (Or.inr (Or.inl ⟨_, rfl⟩)) rfl rfl rfl rfl (Nat.le_of_ble_eq_true rfl) (zO hg (tv0 hg) aw0 rfl) rfl (qI_le (by decide) hin) (fun y2024 h2024 hRy2024 => ?_)
  obtain ⟨⟨τ2024, hg2024⟩, jc2024⟩ := hRy2024
  refine y_i2l2 (len := 1) (r := (0, 0, 0, 0)) (by decide +kernel) ?_
  refine y_las2 (i := 0) (len := 1) (r := (0, 0, 0, 0)) (by decide +kernel) hg2024 (t388 hg2024) aw388 rfl (by omega) (by omega) rfl (fun h2025 hg2025 hw2025 ho2025 => ?_)
  refine y_goto (off := 6) (pc' := 15) (len := 3) (r := (0, 0, 0, 0)) (by decide +kernel) (by decide +kernel) ?_
  refine y_ic (c := 0) (len := 1) (r := (0, 0, 0, 0)) (by decide +kernel) (by decide) (fun y2026 hy2026 => ?_)
  refine y_rI (len := 1) (r := (0, 0, 0, 0)) (nL := 4) (k := 1) (n9 := 3) (hs := [(0, 9, 12, 1)]) (by decide +kernel) rfl rfl ?_
  exact kp388_JCx (fun k j hC => (ho2025 k j (by omega))) jc2024
theorem cz_proofT1 {t : Nat} {τ : List Nat} {h : zh} {cur : bsT} {x1 : Int32} (hg : hG τ h) (hin : qT 15 142 [some (.inl (some 0)), some (zi x1)] h t 1 (fun h1 => (∃ τ1, hG τ1 h1) ∧ JCx h1 cur)) : ∃ (y : Int32) (h1 : zh), qE 60 282 [some (.inl (some 0)), some (zi x1), some (.inl (some 388)), none] h t (.inl (some (zi y)), h1, t + 1) ∧ JCx h1 cur := by
  have key : qX 31 282 0 [some (.inl (some 0)), some (zi x1), some (.inl (some 388)), none] [] h t (rI (fun y h1 => JCx h1 cur) (t + 1)) := by
    refine y_same (i := .aload_n 2) (len := 1) (r := (0, 0, 0, 0)) (pc' := 1) (ls' := [some (.inl (some 0)), some (zi x1), some (.inl (some 388)), none]) (st' := [.inl (some 388)]) (by decide +kernel) (fun k q => by cases q) rfl ?_
    refine y_ic (c := 0) (len := 1) (r := (0, 0, 0, 0)) (by decide +kernel) (by decide) (fun y2027 hy2027 => ?_)
    refine y_same (i := .aload_n 0) (len := 1) (r := (0, 0, 0, 0)) (pc' := 3) (ls' := [some (.inl (some 0)), some (zi x1), some (.inl (some 388)), none]) (st' := [.inl (some 0), zi y2027, .inl (some 388)]) (by decide +kernel) (fun k q => by cases q) rfl ?_
    refine y_same (i := .iload_n 1) (len := 1) (r := (0, 0, 0, 0)) (pc' := 4) (ls' := [some (.inl (some 0)), some (zi x1), some (.inl (some 388)), none]) (st' := [zi x1, .inl (some 0), zi y2027, .inl (some 388)]) (by decide +kernel) (fun k q => by cases q) rfl ?_
    refine y_cC (i := .invokevirtual 34) (len := 3) (r := (0, 142, 11, 1142)) (nL := 2) (k := 1) (n := 2) (hs := []) (args := [.inl (some 0), zi x1]) (rest := [zi y2027, .inl (some 388)]) (l0 := [some (.inl (some 0)), some (zi x1)]) (by decide +kernel) (Or.inr (Or.inl ⟨_, rfl⟩)) rfl rfl rfl rfl (Nat.le_of_ble_eq_true rfl) (zO hg (tv0 hg) aw0 rfl) rfl rfl (mL := 4) (mk := 1) (m9 := 3) (ms := [(0, 9, 12, 1)]) rfl rfl (qT_le (by decide) hin) (fun h2028 hR2028 => ?_)
    obtain ⟨⟨τ2028, hg2028⟩, jc2028⟩ := hR2028
    refine y_same (i := .astore_n 3) (len := 1) (r := (0, 0, 0, 0)) (pc' := 13) (ls' := [some (.inl (some 0)), some (zi x1), some (.inl (some 388)), some (.inl (some 1000001))]) (st' := []) (by decide +kernel) (fun k q => by cases q) rfl ?_
    refine y_ic (c := 1) (len := 1) (r := (0, 0, 0, 0)) (by decide +kernel) (by decide) (fun y2029 hy2029 => ?_)
    refine y_rI (len := 1) (r := (0, 0, 0, 0)) (nL := 4) (k := 1) (n9 := 3) (hs := [(0, 9, 12, 1)]) (by decide +kernel) rfl rfl ?_
    exact jc2028
  obtain ⟨x, k, y, h1, rfl, hR⟩ := key
  exact ⟨y, h1, qE_le (by decide) (qE_of k), hR⟩
theorem lz_proofC {t T : Nat} {τ : List Nat} {h : zh} {cur : bsT} {hs : List bsT} {x1 : Int32} (hg : hG τ h) (i : IV h T) (rc : RC h cur hs) (rm : RM h cur hs) (cz : CZ cur hs) (py : PY cur hs) (kc : KC cur hs) (jc : JCx h cur) (jm : JMx h cur) : ∃ (y : Int32) (h1 : zh) (t1 : Nat), qE 60 282 [some (.inl (some 0)), some (zi x1), some (.inl (some 388)), none] h t (.inl (some (zi y)), h1, t1) ∧ t1 ≤ t + 1 ∧ ∃ τ1, hG τ1 h1 ∧ IV h1 T ∧ RC h1 cur hs ∧ RM h1 cur hs ∧ JCx h1 cur ∧ JMx h1 cur := by
  have key : ∃ (y : Int32) (h1 : zh) (t1 : Nat), qE 60 282 [some (.inl (some 0)), some (zi x1), some (.inl (some 388)), none] h t (.inl (some (zi y)), h1, t1) ∧ t1 ≤ t + 1 ∧ JCx h1 cur := by
    obtain ⟨x, e, q⟩ := fc_proof hg i rc rm cz py kc jc jm
    rcases q with ⟨y, h1, rfl, r⟩ | ⟨h1, rfl, r⟩
    · obtain ⟨y2, h2, e2, r2⟩ := cz_proofA hg ⟨y, h1, e, r⟩
      exact ⟨y2, h2, t, e2, by omega, r2⟩
    · obtain ⟨y2, h2, e2, r2⟩ := cz_proofT1 hg ⟨h1, e, r⟩
      exact ⟨y2, h2, t + 1, e2, by omega, r2⟩
  obtain ⟨y, h1, t1, e, ht, jc1⟩ := key
  obtain ⟨F, τ1, g1⟩ := use_F (achk_ok aJ_ok lk5 (fun mk c' h1 _ => okC h1)) rfl hg (show aqsM _ _ [.inl (some 0), zi x1, .inl (some 388)] from ⟨aqR (t0 hg), aqI (qin_full _).1 (qin_full _).2, aqR (t388 hg), trivial⟩) rfl (by decide) e
  exact ⟨y, h1, t1, e, ht, τ1, g1, IV_kp (kpC_w hg F (by decide +kernel)) (kpM_w hg F (by decide +kernel)) i, RC_w hg F (by decide +kernel) rc, RM_w hg F (by decide +kernel) rm, jc1, JMx_kp (kpY_w hg F (by decide +kernel)) (F 52 52 31 (t52 hg) (by decide +kernel)) jm⟩
theorem cz_sequentA {t : Nat} {τ : List Nat} {h : zh} {cur : bsT} {x1 x2 : Int32} (hg : hG τ h) (hin : qI 15 143 [some (.inl (some 0)), some (zi x1), some (zi x2), none] h t (fun _ h1 => (∃ τ1, hG τ1 h1) ∧ JCx h1 cur)) : qI 60 283 [some (.inl (some 0)), some (zi x1), some (zi x2), some (.inl (some 388)), none] h t (fun _ h1 => JCx h1 cur) := by
  refine qI_le (d := 32) (by decide) (qI_of ?_)
  refine y_same (i := .aload_n 3) (len := 1) (r := (0, 0, 0, 0)) (pc' := 1) (ls' := [some (.inl (some 0)), some (zi x1), some (zi x2), some (.inl (some 388)), none]) (st' := [.inl (some 388)]) (by decide +kernel) (fun k q => by cases q) rfl ?_
  refine y_ic (c := 0) (len := 1) (r := (0, 0, 0, 0)) (by decide +kernel) (by decide) (fun y2030 hy2030 => ?_)
  refine y_same (i := .aload_n 0) (len := 1) (r := (0, 0, 0, 0)) (pc' := 3) (ls' := [some (.inl (some 0)), some (zi x1), some (zi x2), some (.inl (some 388)), none]) (st' := [.inl (some 0), zi y2030, .inl (some 388)]) (by decide +kernel) (fun k q => by cases q) rfl ?_
  refine y_same (i := .iload_n 1) (len := 1) (r := (0, 0, 0, 0)) (pc' := 4) (ls' := [some (.inl (some 0)), some (zi x1), some (zi x2), some (.inl (some 388)), none]) (st' := [zi x1, .inl (some 0), zi y2030, .inl (some 388)]) (by decide +kernel) (fun k q => by cases q) rfl ?_
  refine y_same (i := .iload_n 2) (len := 1) (r := (0, 0, 0, 0)) (pc' := 5) (ls' := [some (.inl (some 0)), some (zi x1), some (zi x2), some (.inl (some 388)), none]) (st' := [zi x2, zi x1, .inl (some 0), zi y2030, .inl (some 388)]) (by decide +kernel) (fun k q => by cases q) rfl ?_
  refine y_cI (i := .invokevirtual 37) (len := 3) (r := (0, 143, 11, 1149)) (nL := 4) (k := 1) (n := 3) (hs := []) (args := [.inl (some 0), zi x1, zi x2]) (rest := [zi y2030, .inl (some 388)]) (l0 := [some (.inl (some 0)), some (zi x1), some (zi x2), none]) (by decide +kernel) (Or.inr (Or.inl ⟨_, rfl⟩)) rfl rfl rfl rfl (Nat.le_of_ble_eq_true rfl) (zO hg (tv0 hg) aw0 rfl) rfl (qI_le (by decide) hin) (fun y2031 h2031 hRy2031 => ?_)
  obtain ⟨⟨τ2031, hg2031⟩, jc2031⟩ := hRy2031
  refine y_i2l2 (len := 1) (r := (0, 0, 0, 0)) (by decide +kernel) ?_
  refine y_las2 (i := 0) (len := 1) (r := (0, 0, 0, 0)) (by decide +kernel) hg2031 (t388 hg2031) aw388 rfl (by omega) (by omega) rfl (fun h2032 hg2032 hw2032 ho2032 => ?_)
  refine y_goto (off := 11) (pc' := 21) (len := 3) (r := (0, 0, 0, 0)) (by decide +kernel) (by decide +kernel) ?_
  refine y_ic (c := 0) (len := 1) (r := (0, 0, 0, 0)) (by decide +kernel) (by decide) (fun y2033 hy2033 => ?_)
  refine y_rI (len := 1) (r := (0, 0, 0, 0)) (nL := 5) (k := 1) (n9 := 4) (hs := [(0, 10, 13, 0), (0, 10, 17, 1)]) (by decide +kernel) rfl rfl ?_
  exact kp388_JCx (fun k j hC => (ho2032 k j (by omega))) jc2031
theorem cz_sequentT0 {t : Nat} {τ : List Nat} {h : zh} {cur : bsT} {x1 x2 : Int32} (hg : hG τ h) (hin : qT 15 143 [some (.inl (some 0)), some (zi x1), some (zi x2), none] h t 0 (fun h1 => (∃ τ1, hG τ1 h1) ∧ JCx h1 cur)) : ∃ (y : Int32) (h1 : zh), qE 60 283 [some (.inl (some 0)), some (zi x1), some (zi x2), some (.inl (some 388)), none] h t (.inl (some (zi y)), h1, t + 1) ∧ JCx h1 cur := by
  have key : qX 31 283 0 [some (.inl (some 0)), some (zi x1), some (zi x2), some (.inl (some 388)), none] [] h t (rI (fun y h1 => JCx h1 cur) (t + 1)) := by
    refine y_same (i := .aload_n 3) (len := 1) (r := (0, 0, 0, 0)) (pc' := 1) (ls' := [some (.inl (some 0)), some (zi x1), some (zi x2), some (.inl (some 388)), none]) (st' := [.inl (some 388)]) (by decide +kernel) (fun k q => by cases q) rfl ?_
    refine y_ic (c := 0) (len := 1) (r := (0, 0, 0, 0)) (by decide +kernel) (by decide) (fun y2034 hy2034 => ?_)
    refine y_same (i := .aload_n 0) (len := 1) (r := (0, 0, 0, 0)) (pc' := 3) (ls' := [some (.inl (some 0)), some (zi x1), some (zi x2), some (.inl (some 388)), none]) (st' := [.inl (some 0), zi y2034, .inl (some 388)]) (by decide +kernel) (fun k q => by cases q) rfl ?_
    refine y_same (i := .iload_n 1) (len := 1) (r := (0, 0, 0, 0)) (pc' := 4) (ls' := [some (.inl (some 0)), some (zi x1), some (zi x2), some (.inl (some 388)), none]) (st' := [zi x1, .inl (some 0), zi y2034, .inl (some 388)]) (by decide +kernel) (fun k q => by cases q) rfl ?_
    refine y_same (i := .iload_n 2) (len := 1) (r := (0, 0, 0, 0)) (pc' := 5) (ls' := [some (.inl (some 0)), some (zi x1), some (zi x2), some (.inl (some 388)), none]) (st' := [zi x2, zi x1, .inl (some 0), zi y2034, .inl (some 388)]) (by decide +kernel) (fun k q => by cases q) rfl ?_
    refine y_cC (i := .invokevirtual 37) (len := 3) (r := (0, 143, 11, 1149)) (nL := 4) (k := 1) (n := 3) (hs := []) (args := [.inl (some 0), zi x1, zi x2]) (rest := [zi y2034, .inl (some 388)]) (l0 := [some (.inl (some 0)), some (zi x1), some (zi x2), none]) (by decide +kernel) (Or.inr (Or.inl ⟨_, rfl⟩)) rfl rfl rfl rfl (Nat.le_of_ble_eq_true rfl) (zO hg (tv0 hg) aw0 rfl) rfl rfl (mL := 5) (mk := 1) (m9 := 4) (ms := [(0, 10, 13, 0), (0, 10, 17, 1)]) rfl rfl (qT_le (by decide) hin) (fun h2035 hR2035 => ?_)
    obtain ⟨⟨τ2035, hg2035⟩, jc2035⟩ := hR2035
    refine y_same (i := .astore 4) (len := 2) (r := (0, 0, 0, 0)) (pc' := 15) (ls' := [some (.inl (some 0)), some (zi x1), some (zi x2), some (.inl (some 388)), some (.inl (some 1000001))]) (st' := []) (by decide +kernel) (fun k q => by cases q) rfl ?_
    refine y_ic (c := 1) (len := 1) (r := (0, 0, 0, 0)) (by decide +kernel) (by decide) (fun y2036 hy2036 => ?_)
    refine y_rI (len := 1) (r := (0, 0, 0, 0)) (nL := 5) (k := 1) (n9 := 4) (hs := [(0, 10, 13, 0), (0, 10, 17, 1)]) (by decide +kernel) rfl rfl ?_
    exact jc2035
  obtain ⟨x, k, y, h1, rfl, hR⟩ := key
  exact ⟨y, h1, qE_le (by decide) (qE_of k), hR⟩
theorem cz_sequentT1 {t : Nat} {τ : List Nat} {h : zh} {cur : bsT} {x1 x2 : Int32} (hg : hG τ h) (hin : qT 15 143 [some (.inl (some 0)), some (zi x1), some (zi x2), none] h t 1 (fun h1 => (∃ τ1, hG τ1 h1) ∧ JCx h1 cur)) : ∃ (y : Int32) (h1 : zh), qE 60 283 [some (.inl (some 0)), some (zi x1), some (zi x2), some (.inl (some 388)), none] h t (.inl (some (zi y)), h1, t + 1) ∧ JCx h1 cur := by
  have key : qX 31 283 0 [some (.inl (some 0)), some (zi x1), some (zi x2), some (.inl (some 388)), none] [] h t (rI (fun y h1 => JCx h1 cur) (t + 1)) := by
    refine y_same (i := .aload_n 3) (len := 1) (r := (0, 0, 0, 0)) (pc' := 1) (ls' := [some (.inl (some 0)), some (zi x1), some (zi x2), some (.inl (some 388)), none]) (st' := [.inl (some 388)]) (by decide +kernel) (fun k q => by cases q) rfl ?_
    refine y_ic (c := 0) (len := 1) (r := (0, 0, 0, 0)) (by decide +kernel) (by decide) (fun y2037 hy2037 => ?_)
    refine y_same (i := .aload_n 0) (len := 1) (r := (0, 0, 0, 0)) (pc' := 3) (ls' := [some (.inl (some 0)), some (zi x1), some (zi x2), some (.inl (some 388)), none]) (st' := [.inl (some 0), zi y2037, .inl (some 388)]) (by decide +kernel) (fun k q => by cases q) rfl ?_
    refine y_same (i := .iload_n 1) (len := 1) (r := (0, 0, 0, 0)) (pc' := 4) (ls' := [some (.inl (some 0)), some (zi x1), some (zi x2), some (.inl (some 388)), none]) (st' := [zi x1, .inl (some 0), zi y2037, .inl (some 388)]) (by decide +kernel) (fun k q => by cases q) rfl ?_
    refine y_same (i := .iload_n 2) (len := 1) (r := (0, 0, 0, 0)) (pc' := 5) (ls' := [some (.inl (some 0)), some (zi x1), some (zi x2), some (.inl (some 388)), none]) (st' := [zi x2, zi x1, .inl (some 0), zi y2037, .inl (some 388)]) (by decide +kernel) (fun k q => by cases q) rfl ?_
    refine y_cC (i := .invokevirtual 37) (len := 3) (r := (0, 143, 11, 1149)) (nL := 4) (k := 1) (n := 3) (hs := []) (args := [.inl (some 0), zi x1, zi x2]) (rest := [zi y2037, .inl (some 388)]) (l0 := [some (.inl (some 0)), some (zi x1), some (zi x2), none]) (by decide +kernel) (Or.inr (Or.inl ⟨_, rfl⟩)) rfl rfl rfl rfl (Nat.le_of_ble_eq_true rfl) (zO hg (tv0 hg) aw0 rfl) rfl rfl (mL := 5) (mk := 1) (m9 := 4) (ms := [(0, 10, 13, 0), (0, 10, 17, 1)]) rfl rfl (qT_le (by decide) hin) (fun h2038 hR2038 => ?_)
    obtain ⟨⟨τ2038, hg2038⟩, jc2038⟩ := hR2038
    refine y_same (i := .astore 4) (len := 2) (r := (0, 0, 0, 0)) (pc' := 19) (ls' := [some (.inl (some 0)), some (zi x1), some (zi x2), some (.inl (some 388)), some (.inl (some 1000001))]) (st' := []) (by decide +kernel) (fun k q => by cases q) rfl ?_
    refine y_ic (c := 2) (len := 1) (r := (0, 0, 0, 0)) (by decide +kernel) (by decide) (fun y2039 hy2039 => ?_)
    refine y_rI (len := 1) (r := (0, 0, 0, 0)) (nL := 5) (k := 1) (n9 := 4) (hs := [(0, 10, 13, 0), (0, 10, 17, 1)]) (by decide +kernel) rfl rfl ?_
    exact jc2038
  obtain ⟨x, k, y, h1, rfl, hR⟩ := key
  exact ⟨y, h1, qE_le (by decide) (qE_of k), hR⟩
theorem lz_sequentC {t T : Nat} {τ : List Nat} {h : zh} {cur : bsT} {hs : List bsT} {x1 x2 : Int32} (hg : hG τ h) (i : IV h T) (rc : RC h cur hs) (rm : RM h cur hs) (cz : CZ cur hs) (py : PY cur hs) (kc : KC cur hs) (jc : JCx h cur) (jm : JMx h cur) : ∃ (y : Int32) (h1 : zh) (t1 : Nat), qE 60 283 [some (.inl (some 0)), some (zi x1), some (zi x2), some (.inl (some 388)), none] h t (.inl (some (zi y)), h1, t1) ∧ t1 ≤ t + 1 ∧ ∃ τ1, hG τ1 h1 ∧ IV h1 T ∧ RC h1 cur hs ∧ RM h1 cur hs ∧ JCx h1 cur ∧ JMx h1 cur := by
  have key : ∃ (y : Int32) (h1 : zh) (t1 : Nat), qE 60 283 [some (.inl (some 0)), some (zi x1), some (zi x2), some (.inl (some 388)), none] h t (.inl (some (zi y)), h1, t1) ∧ t1 ≤ t + 1 ∧ JCx h1 cur := by
    obtain ⟨x, e, q⟩ := fc_sequent hg i rc rm cz py kc jc jm
    rcases q with ⟨y, h1, rfl, r⟩ | ⟨h1, rfl, r⟩ | ⟨h1, rfl, r⟩
    · obtain ⟨y2, h2, e2, r2⟩ := cz_sequentA hg ⟨y, h1, e, r⟩
      exact ⟨y2, h2, t, e2, by omega, r2⟩
    · obtain ⟨y2, h2, e2, r2⟩ := cz_sequentT0 hg ⟨h1, e, r⟩
      exact ⟨y2, h2, t + 1, e2, by omega, r2⟩
    · obtain ⟨y2, h2, e2, r2⟩ := cz_sequentT1 hg ⟨h1, e, r⟩
      exact ⟨y2, h2, t + 1, e2, by omega, r2⟩
  obtain ⟨y, h1, t1, e, ht, jc1⟩ := key
  obtain ⟨F, τ1, g1⟩ := use_F (achk_ok aJ_ok lk6 (fun mk c' h1 _ => okC h1)) rfl hg (show aqsM _ _ [.inl (some 0), zi x1, zi x2, .inl (some 388)] from ⟨aqR (t0 hg), aqI (qin_full _).1 (qin_full _).2, aqI (qin_full _).1 (qin_full _).2, aqR (t388 hg), trivial⟩) rfl (by decide) e
  exact ⟨y, h1, t1, e, ht, τ1, g1, IV_kp (kpC_w hg F (by decide +kernel)) (kpM_w hg F (by decide +kernel)) i, RC_w hg F (by decide +kernel) rc, RM_w hg F (by decide +kernel) rm, jc1, JMx_kp (kpY_w hg F (by decide +kernel)) (F 52 52 31 (t52 hg) (by decide +kernel)) jm⟩
theorem cz_partOfA {t : Nat} {τ : List Nat} {h : zh} {cur : bsT} {x1 x2 x3 x4 : Int32} (hg : hG τ h) (hin : qI 15 144 [some (.inl (some 0)), some (zi x1), some (zi x2), some (zi x3), some (zi x4), none] h t (fun _ h1 => (∃ τ1, hG τ1 h1) ∧ JCx h1 cur)) : qI 60 284 [some (.inl (some 0)), some (zi x1), some (zi x2), some (zi x3), some (zi x4), some (.inl (some 388)), none] h t (fun _ h1 => JCx h1 cur) := by
  refine qI_le (d := 32) (by decide) (qI_of ?_)
  refine y_same (i := .aload 5) (len := 2) (r := (0, 0, 0, 0)) (pc' := 2) (ls' := [some (.inl (some 0)), some (zi x1), some (zi x2), some (zi x3), some (zi x4), some (.inl (some 388)), none]) (st' := [.inl (some 388)]) (by decide +kernel) (fun k q => by cases q) rfl ?_
  refine y_ic (c := 0) (len := 1) (r := (0, 0, 0, 0)) (by decide +kernel) (by decide) (fun y2040 hy2040 => ?_)
  refine y_same (i := .aload_n 0) (len := 1) (r := (0, 0, 0, 0)) (pc' := 4) (ls' := [some (.inl (some 0)), some (zi x1), some (zi x2), some (zi x3), some (zi x4), some (.inl (some 388)), none]) (st' := [.inl (some 0), zi y2040, .inl (some 388)]) (by decide +kernel) (fun k q => by cases q) rfl ?_
  refine y_same (i := .iload_n 1) (len := 1) (r := (0, 0, 0, 0)) (pc' := 5) (ls' := [some (.inl (some 0)), some (zi x1), some (zi x2), some (zi x3), some (zi x4), some (.inl (some 388)), none]) (st' := [zi x1, .inl (some 0), zi y2040, .inl (some 388)]) (by decide +kernel) (fun k q => by cases q) rfl ?_
  refine y_same (i := .iload_n 2) (len := 1) (r := (0, 0, 0, 0)) (pc' := 6) (ls' := [some (.inl (some 0)), some (zi x1), some (zi x2), some (zi x3), some (zi x4), some (.inl (some 388)), none]) (st' := [zi x2, zi x1, .inl (some 0), zi y2040, .inl (some 388)]) (by decide +kernel) (fun k q => by cases q) rfl ?_
  refine y_same (i := .iload_n 3) (len := 1) (r := (0, 0, 0, 0)) (pc' := 7) (ls' := [some (.inl (some 0)), some (zi x1), some (zi x2), some (zi x3), some (zi x4), some (.inl (some 388)), none]) (st' := [zi x3, zi x2, zi x1, .inl (some 0), zi y2040, .inl (some 388)]) (by decide +kernel) (fun k q => by cases q) rfl ?_
  refine y_same (i := .iload 4) (len := 2) (r := (0, 0, 0, 0)) (pc' := 9) (ls' := [some (.inl (some 0)), some (zi x1), some (zi x2), some (zi x3), some (zi x4), some (.inl (some 388)), none]) (st' := [zi x4, zi x3, zi x2, zi x1, .inl (some 0), zi y2040, .inl (some 388)]) (by decide +kernel) (fun k q => by cases q) rfl ?_
  refine y_cI (i := .invokevirtual 40) (len := 3) (r := (0, 144, 11, 1162)) (nL := 6) (k := 1) (n := 5) (hs := []) (args := [.inl (some 0), zi x1, zi x2, zi x3, zi x4]) (rest := [zi y2040, .inl (some 388)]) (l0 := [some (.inl (some 0)), some (zi x1), some (zi x2), some (zi x3), some (zi x4), none]) (by decide +kernel) (Or.inr (Or.inl ⟨_, rfl⟩)) rfl rfl rfl rfl (Nat.le_of_ble_eq_true rfl) (zO hg (tv0 hg) aw0 rfl) rfl (qI_le (by decide) hin) (fun y2041 h2041 hRy2041 => ?_)
  obtain ⟨⟨τ2041, hg2041⟩, jc2041⟩ := hRy2041
  refine y_i2l2 (len := 1) (r := (0, 0, 0, 0)) (by decide +kernel) ?_
  refine y_las2 (i := 0) (len := 1) (r := (0, 0, 0, 0)) (by decide +kernel) hg2041 (t388 hg2041) aw388 rfl (by omega) (by omega) rfl (fun h2042 hg2042 hw2042 ho2042 => ?_)
  refine y_goto (off := 11) (pc' := 25) (len := 3) (r := (0, 0, 0, 0)) (by decide +kernel) (by decide +kernel) ?_
  refine y_ic (c := 0) (len := 1) (r := (0, 0, 0, 0)) (by decide +kernel) (by decide) (fun y2043 hy2043 => ?_)
  refine y_rI (len := 1) (r := (0, 0, 0, 0)) (nL := 7) (k := 1) (n9 := 6) (hs := [(0, 14, 17, 0), (0, 14, 21, 1)]) (by decide +kernel) rfl rfl ?_
  exact kp388_JCx (fun k j hC => (ho2042 k j (by omega))) jc2041
theorem cz_partOfT0 {t : Nat} {τ : List Nat} {h : zh} {cur : bsT} {x1 x2 x3 x4 : Int32} (hg : hG τ h) (hin : qT 15 144 [some (.inl (some 0)), some (zi x1), some (zi x2), some (zi x3), some (zi x4), none] h t 0 (fun h1 => (∃ τ1, hG τ1 h1) ∧ JCx h1 cur)) : ∃ (y : Int32) (h1 : zh), qE 60 284 [some (.inl (some 0)), some (zi x1), some (zi x2), some (zi x3), some (zi x4), some (.inl (some 388)), none] h t (.inl (some (zi y)), h1, t + 1) ∧ JCx h1 cur := by
  have key : qX 31 284 0 [some (.inl (some 0)), some (zi x1), some (zi x2), some (zi x3), some (zi x4), some (.inl (some 388)), none] [] h t (rI (fun y h1 => JCx h1 cur) (t + 1)) := by
    refine y_same (i := .aload 5) (len := 2) (r := (0, 0, 0, 0)) (pc' := 2) (ls' := [some (.inl (some 0)), some (zi x1), some (zi x2), some (zi x3), some (zi x4), some (.inl (some 388)), none]) (st' := [.inl (some 388)]) (by decide +kernel) (fun k q => by cases q) rfl ?_
    refine y_ic (c := 0) (len := 1) (r := (0, 0, 0, 0)) (by decide +kernel) (by decide) (fun y2044 hy2044 => ?_)
    refine y_same (i := .aload_n 0) (len := 1) (r := (0, 0, 0, 0)) (pc' := 4) (ls' := [some (.inl (some 0)), some (zi x1), some (zi x2), some (zi x3), some (zi x4), some (.inl (some 388)), none]) (st' := [.inl (some 0), zi y2044, .inl (some 388)]) (by decide +kernel) (fun k q => by cases q) rfl ?_
    refine y_same (i := .iload_n 1) (len := 1) (r := (0, 0, 0, 0)) (pc' := 5) (ls' := [some (.inl (some 0)), some (zi x1), some (zi x2), some (zi x3), some (zi x4), some (.inl (some 388)), none]) (st' := [zi x1, .inl (some 0), zi y2044, .inl (some 388)]) (by decide +kernel) (fun k q => by cases q) rfl ?_
    refine y_same (i := .iload_n 2) (len := 1) (r := (0, 0, 0, 0)) (pc' := 6) (ls' := [some (.inl (some 0)), some (zi x1), some (zi x2), some (zi x3), some (zi x4), some (.inl (some 388)), none]) (st' := [zi x2, zi x1, .inl (some 0), zi y2044, .inl (some 388)]) (by decide +kernel) (fun k q => by cases q) rfl ?_
    refine y_same (i := .iload_n 3) (len := 1) (r := (0, 0, 0, 0)) (pc' := 7) (ls' := [some (.inl (some 0)), some (zi x1), some (zi x2), some (zi x3), some (zi x4), some (.inl (some 388)), none]) (st' := [zi x3, zi x2, zi x1, .inl (some 0), zi y2044, .inl (some 388)]) (by decide +kernel) (fun k q => by cases q) rfl ?_
    refine y_same (i := .iload 4) (len := 2) (r := (0, 0, 0, 0)) (pc' := 9) (ls' := [some (.inl (some 0)), some (zi x1), some (zi x2), some (zi x3), some (zi x4), some (.inl (some 388)), none]) (st' := [zi x4, zi x3, zi x2, zi x1, .inl (some 0), zi y2044, .inl (some 388)]) (by decide +kernel) (fun k q => by cases q) rfl ?_
    refine y_cC (i := .invokevirtual 40) (len := 3) (r := (0, 144, 11, 1162)) (nL := 6) (k := 1) (n := 5) (hs := []) (args := [.inl (some 0), zi x1, zi x2, zi x3, zi x4]) (rest := [zi y2044, .inl (some 388)]) (l0 := [some (.inl (some 0)), some (zi x1), some (zi x2), some (zi x3), some (zi x4), none]) (by decide +kernel) (Or.inr (Or.inl ⟨_, rfl⟩)) rfl rfl rfl rfl (Nat.le_of_ble_eq_true rfl) (zO hg (tv0 hg) aw0 rfl) rfl rfl (mL := 7) (mk := 1) (m9 := 6) (ms := [(0, 14, 17, 0), (0, 14, 21, 1)]) rfl rfl (qT_le (by decide) hin) (fun h2045 hR2045 => ?_)
    obtain ⟨⟨τ2045, hg2045⟩, jc2045⟩ := hR2045
    refine y_same (i := .astore 6) (len := 2) (r := (0, 0, 0, 0)) (pc' := 19) (ls' := [some (.inl (some 0)), some (zi x1), some (zi x2), some (zi x3), some (zi x4), some (.inl (some 388)), some (.inl (some 1000001))]) (st' := []) (by decide +kernel) (fun k q => by cases q) rfl ?_
    refine y_ic (c := 1) (len := 1) (r := (0, 0, 0, 0)) (by decide +kernel) (by decide) (fun y2046 hy2046 => ?_)
    refine y_rI (len := 1) (r := (0, 0, 0, 0)) (nL := 7) (k := 1) (n9 := 6) (hs := [(0, 14, 17, 0), (0, 14, 21, 1)]) (by decide +kernel) rfl rfl ?_
    exact jc2045
  obtain ⟨x, k, y, h1, rfl, hR⟩ := key
  exact ⟨y, h1, qE_le (by decide) (qE_of k), hR⟩
theorem cz_partOfT1 {t : Nat} {τ : List Nat} {h : zh} {cur : bsT} {x1 x2 x3 x4 : Int32} (hg : hG τ h) (hin : qT 15 144 [some (.inl (some 0)), some (zi x1), some (zi x2), some (zi x3), some (zi x4), none] h t 1 (fun h1 => (∃ τ1, hG τ1 h1) ∧ JCx h1 cur)) : ∃ (y : Int32) (h1 : zh), qE 60 284 [some (.inl (some 0)), some (zi x1), some (zi x2), some (zi x3), some (zi x4), some (.inl (some 388)), none] h t (.inl (some (zi y)), h1, t + 1) ∧ JCx h1 cur := by
  have key : qX 31 284 0 [some (.inl (some 0)), some (zi x1), some (zi x2), some (zi x3), some (zi x4), some (.inl (some 388)), none] [] h t (rI (fun y h1 => JCx h1 cur) (t + 1)) := by
    refine y_same (i := .aload 5) (len := 2) (r := (0, 0, 0, 0)) (pc' := 2) (ls' := [some (.inl (some 0)), some (zi x1), some (zi x2), some (zi x3), some (zi x4), some (.inl (some 388)), none]) (st' := [.inl (some 388)]) (by decide +kernel) (fun k q => by cases q) rfl ?_
    refine y_ic (c := 0) (len := 1) (r := (0, 0, 0, 0)) (by decide +kernel) (by decide) (fun y2047 hy2047 => ?_)
    refine y_same (i := .aload_n 0) (len := 1) (r := (0, 0, 0, 0)) (pc' := 4) (ls' := [some (.inl (some 0)), some (zi x1), some (zi x2), some (zi x3), some (zi x4), some (.inl (some 388)), none]) (st' := [.inl (some 0), zi y2047, .inl (some 388)]) (by decide +kernel) (fun k q => by cases q) rfl ?_
    refine y_same (i := .iload_n 1) (len := 1) (r := (0, 0, 0, 0)) (pc' := 5) (ls' := [some (.inl (some 0)), some (zi x1), some (zi x2), some (zi x3), some (zi x4), some (.inl (some 388)), none]) (st' := [zi x1, .inl (some 0), zi y2047, .inl (some 388)]) (by decide +kernel) (fun k q => by cases q) rfl ?_
    refine y_same (i := .iload_n 2) (len := 1) (r := (0, 0, 0, 0)) (pc' := 6) (ls' := [some (.inl (some 0)), some (zi x1), some (zi x2), some (zi x3), some (zi x4), some (.inl (some 388)), none]) (st' := [zi x2, zi x1, .inl (some 0), zi y2047, .inl (some 388)]) (by decide +kernel) (fun k q => by cases q) rfl ?_
    refine y_same (i := .iload_n 3) (len := 1) (r := (0, 0, 0, 0)) (pc' := 7) (ls' := [some (.inl (some 0)), some (zi x1), some (zi x2), some (zi x3), some (zi x4), some (.inl (some 388)), none]) (st' := [zi x3, zi x2, zi x1, .inl (some 0), zi y2047, .inl (some 388)]) (by decide +kernel) (fun k q => by cases q) rfl ?_
    refine y_same (i := .iload 4) (len := 2) (r := (0, 0, 0, 0)) (pc' := 9) (ls' := [some (.inl (some 0)), some (zi x1), some (zi x2), some (zi x3), some (zi x4), some (.inl (some 388)), none]) (st' := [zi x4, zi x3, zi x2, zi x1, .inl (some 0), zi y2047, .inl (some 388)]) (by decide +kernel) (fun k q => by cases q) rfl ?_
    refine y_cC (i := .invokevirtual 40) (len := 3) (r := (0, 144, 11, 1162)) (nL := 6) (k := 1) (n := 5) (hs := []) (args := [.inl (some 0), zi x1, zi x2, zi x3, zi x4]) (rest := [zi y2047, .inl (some 388)]) (l0 := [some (.inl (some 0)), some (zi x1), some (zi x2), some (zi x3), some (zi x4), none]) (by decide +kernel) (Or.inr (Or.inl ⟨_, rfl⟩)) rfl rfl rfl rfl (Nat.le_of_ble_eq_true rfl) (zO hg (tv0 hg) aw0 rfl) rfl rfl (mL := 7) (mk := 1) (m9 := 6) (ms := [(0, 14, 17, 0), (0, 14, 21, 1)]) rfl rfl (qT_le (by decide) hin) (fun h2048 hR2048 => ?_)
    obtain ⟨⟨τ2048, hg2048⟩, jc2048⟩ := hR2048
    refine y_same (i := .astore 6) (len := 2) (r := (0, 0, 0, 0)) (pc' := 23) (ls' := [some (.inl (some 0)), some (zi x1), some (zi x2), some (zi x3), some (zi x4), some (.inl (some 388)), some (.inl (some 1000001))]) (st' := []) (by decide +kernel) (fun k q => by cases q) rfl ?_
    refine y_ic (c := 2) (len := 1) (r := (0, 0, 0, 0)) (by decide +kernel) (by decide) (fun y2049 hy2049 => ?_)
    refine y_rI (len := 1) (r := (0, 0, 0, 0)) (nL := 7) (k := 1) (n9 := 6) (hs := [(0, 14, 17, 0), (0, 14, 21, 1)]) (by decide +kernel) rfl rfl ?_
    exact jc2048
  obtain ⟨x, k, y, h1, rfl, hR⟩ := key
  exact ⟨y, h1, qE_le (by decide) (qE_of k), hR⟩
theorem lz_partOfC {t T : Nat} {τ : List Nat} {h : zh} {cur : bsT} {hs : List bsT} {x1 x2 x3 x4 : Int32} (hg : hG τ h) (i : IV h T) (rc : RC h cur hs) (rm : RM h cur hs) (cz : CZ cur hs) (py : PY cur hs) (kc : KC cur hs) (jc : JCx h cur) (jm : JMx h cur) : ∃ (y : Int32) (h1 : zh) (t1 : Nat), qE 60 284 [some (.inl (some 0)), some (zi x1), some (zi x2), some (zi x3), some (zi x4), some (.inl (some 388)), none] h t (.inl (some (zi y)), h1, t1) ∧ t1 ≤ t + 1 ∧ ∃ τ1, hG τ1 h1 ∧ IV h1 T ∧ RC h1 cur hs ∧ RM h1 cur hs ∧ JCx h1 cur ∧ JMx h1 cur := by
  have key : ∃ (y : Int32) (h1 : zh) (t1 : Nat), qE 60 284 [some (.inl (some 0)), some (zi x1), some (zi x2), some (zi x3), some (zi x4), some (.inl (some 388)), none] h t (.inl (some (zi y)), h1, t1) ∧ t1 ≤ t + 1 ∧ JCx h1 cur := by
    obtain ⟨x, e, q⟩ := fc_partOf hg i rc rm cz py kc jc jm
    rcases q with ⟨y, h1, rfl, r⟩ | ⟨h1, rfl, r⟩ | ⟨h1, rfl, r⟩
    · obtain ⟨y2, h2, e2, r2⟩ := cz_partOfA hg ⟨y, h1, e, r⟩
      exact ⟨y2, h2, t, e2, by omega, r2⟩
    · obtain ⟨y2, h2, e2, r2⟩ := cz_partOfT0 hg ⟨h1, e, r⟩
      exact ⟨y2, h2, t + 1, e2, by omega, r2⟩
    · obtain ⟨y2, h2, e2, r2⟩ := cz_partOfT1 hg ⟨h1, e, r⟩
      exact ⟨y2, h2, t + 1, e2, by omega, r2⟩
  obtain ⟨y, h1, t1, e, ht, jc1⟩ := key
  obtain ⟨F, τ1, g1⟩ := use_F (achk_ok aJ_ok lk7 (fun mk c' h1 _ => okC h1)) rfl hg (show aqsM _ _ [.inl (some 0), zi x1, zi x2, zi x3, zi x4, .inl (some 388)] from ⟨aqR (t0 hg), aqI (qin_full _).1 (qin_full _).2, aqI (qin_full _).1 (qin_full _).2, aqI (qin_full _).1 (qin_full _).2, aqI (qin_full _).1 (qin_full _).2, aqR (t388 hg), trivial⟩) rfl (by decide) e
  exact ⟨y, h1, t1, e, ht, τ1, g1, IV_kp (kpC_w hg F (by decide +kernel)) (kpM_w hg F (by decide +kernel)) i, RC_w hg F (by decide +kernel) rc, RM_w hg F (by decide +kernel) rm, jc1, JMx_kp (kpY_w hg F (by decide +kernel)) (F 52 52 31 (t52 hg) (by decide +kernel)) jm⟩
theorem cz_overPartA {t : Nat} {τ : List Nat} {h : zh} {cur : bsT} {x1 x2 x3 : Int32} (hg : hG τ h) (hin : qI 22 146 [some (.inl (some 0)), some (zi x1), some (zi x2), some (zi x3), none, none] h t (fun _ h1 => (∃ τ1, hG τ1 h1) ∧ JCx h1 cur)) : qI 60 285 [some (.inl (some 0)), some (zi x1), some (zi x2), some (zi x3), some (.inl (some 388)), none] h t (fun _ h1 => JCx h1 cur) := by
  refine qI_le (d := 32) (by decide) (qI_of ?_)
  refine y_same (i := .aload 4) (len := 2) (r := (0, 0, 0, 0)) (pc' := 2) (ls' := [some (.inl (some 0)), some (zi x1), some (zi x2), some (zi x3), some (.inl (some 388)), none]) (st' := [.inl (some 388)]) (by decide +kernel) (fun k q => by cases q) rfl ?_
  refine y_ic (c := 0) (len := 1) (r := (0, 0, 0, 0)) (by decide +kernel) (by decide) (fun y2050 hy2050 => ?_)
  refine y_same (i := .aload_n 0) (len := 1) (r := (0, 0, 0, 0)) (pc' := 4) (ls' := [some (.inl (some 0)), some (zi x1), some (zi x2), some (zi x3), some (.inl (some 388)), none]) (st' := [.inl (some 0), zi y2050, .inl (some 388)]) (by decide +kernel) (fun k q => by cases q) rfl ?_
  refine y_same (i := .iload_n 1) (len := 1) (r := (0, 0, 0, 0)) (pc' := 5) (ls' := [some (.inl (some 0)), some (zi x1), some (zi x2), some (zi x3), some (.inl (some 388)), none]) (st' := [zi x1, .inl (some 0), zi y2050, .inl (some 388)]) (by decide +kernel) (fun k q => by cases q) rfl ?_
  refine y_same (i := .iload_n 2) (len := 1) (r := (0, 0, 0, 0)) (pc' := 6) (ls' := [some (.inl (some 0)), some (zi x1), some (zi x2), some (zi x3), some (.inl (some 388)), none]) (st' := [zi x2, zi x1, .inl (some 0), zi y2050, .inl (some 388)]) (by decide +kernel) (fun k q => by cases q) rfl ?_
  refine y_same (i := .iload_n 3) (len := 1) (r := (0, 0, 0, 0)) (pc' := 7) (ls' := [some (.inl (some 0)), some (zi x1), some (zi x2), some (zi x3), some (.inl (some 388)), none]) (st' := [zi x3, zi x2, zi x1, .inl (some 0), zi y2050, .inl (some 388)]) (by decide +kernel) (fun k q => by cases q) rfl ?_
  refine y_cI (i := .invokevirtual 44) (len := 3) (r := (0, 146, 11, 1169)) (nL := 6) (k := 1) (n := 4) (hs := []) (args := [.inl (some 0), zi x1, zi x2, zi x3]) (rest := [zi y2050, .inl (some 388)]) (l0 := [some (.inl (some 0)), some (zi x1), some (zi x2), some (zi x3), none, none]) (by decide +kernel) (Or.inr (Or.inl ⟨_, rfl⟩)) rfl rfl rfl rfl (Nat.le_of_ble_eq_true rfl) (zO hg (tv0 hg) aw0 rfl) rfl (qI_le (by decide) hin) (fun y2051 h2051 hRy2051 => ?_)
  obtain ⟨⟨τ2051, hg2051⟩, jc2051⟩ := hRy2051
  refine y_i2l2 (len := 1) (r := (0, 0, 0, 0)) (by decide +kernel) ?_
  refine y_las2 (i := 0) (len := 1) (r := (0, 0, 0, 0)) (by decide +kernel) hg2051 (t388 hg2051) aw388 rfl (by omega) (by omega) rfl (fun h2052 hg2052 hw2052 ho2052 => ?_)
  refine y_goto (off := 11) (pc' := 23) (len := 3) (r := (0, 0, 0, 0)) (by decide +kernel) (by decide +kernel) ?_
  refine y_ic (c := 0) (len := 1) (r := (0, 0, 0, 0)) (by decide +kernel) (by decide) (fun y2053 hy2053 => ?_)
  refine y_rI (len := 1) (r := (0, 0, 0, 0)) (nL := 6) (k := 1) (n9 := 5) (hs := [(0, 12, 15, 0), (0, 12, 19, 1)]) (by decide +kernel) rfl rfl ?_
  exact kp388_JCx (fun k j hC => (ho2052 k j (by omega))) jc2051
theorem cz_overPartT0 {t : Nat} {τ : List Nat} {h : zh} {cur : bsT} {x1 x2 x3 : Int32} (hg : hG τ h) (hin : qT 22 146 [some (.inl (some 0)), some (zi x1), some (zi x2), some (zi x3), none, none] h t 0 (fun h1 => (∃ τ1, hG τ1 h1) ∧ JCx h1 cur)) : ∃ (y : Int32) (h1 : zh), qE 60 285 [some (.inl (some 0)), some (zi x1), some (zi x2), some (zi x3), some (.inl (some 388)), none] h t (.inl (some (zi y)), h1, t + 1) ∧ JCx h1 cur := by
  have key : qX 31 285 0 [some (.inl (some 0)), some (zi x1), some (zi x2), some (zi x3), some (.inl (some 388)), none] [] h t (rI (fun y h1 => JCx h1 cur) (t + 1)) := by
    refine y_same (i := .aload 4) (len := 2) (r := (0, 0, 0, 0)) (pc' := 2) (ls' := [some (.inl (some 0)), some (zi x1), some (zi x2), some (zi x3), some (.inl (some 388)), none]) (st' := [.inl (some 388)]) (by decide +kernel) (fun k q => by cases q) rfl ?_
    refine y_ic (c := 0) (len := 1) (r := (0, 0, 0, 0)) (by decide +kernel) (by decide) (fun y2054 hy2054 => ?_)
    refine y_same (i := .aload_n 0) (len := 1) (r := (0, 0, 0, 0)) (pc' := 4) (ls' := [some (.inl (some 0)), some (zi x1), some (zi x2), some (zi x3), some (.inl (some 388)), none]) (st' := [.inl (some 0), zi y2054, .inl (some 388)]) (by decide +kernel) (fun k q => by cases q) rfl ?_
    refine y_same (i := .iload_n 1) (len := 1) (r := (0, 0, 0, 0)) (pc' := 5) (ls' := [some (.inl (some 0)), some (zi x1), some (zi x2), some (zi x3), some (.inl (some 388)), none]) (st' := [zi x1, .inl (some 0), zi y2054, .inl (some 388)]) (by decide +kernel) (fun k q => by cases q) rfl ?_
    refine y_same (i := .iload_n 2) (len := 1) (r := (0, 0, 0, 0)) (pc' := 6) (ls' := [some (.inl (some 0)), some (zi x1), some (zi x2), some (zi x3), some (.inl (some 388)), none]) (st' := [zi x2, zi x1, .inl (some 0), zi y2054, .inl (some 388)]) (by decide +kernel) (fun k q => by cases q) rfl ?_
    refine y_same (i := .iload_n 3) (len := 1) (r := (0, 0, 0, 0)) (pc' := 7) (ls' := [some (.inl (some 0)), some (zi x1), some (zi x2), some (zi x3), some (.inl (some 388)), none]) (st' := [zi x3, zi x2, zi x1, .inl (some 0), zi y2054, .inl (some 388)]) (by decide +kernel) (fun k q => by cases q) rfl ?_
    refine y_cC (i := .invokevirtual 44) (len := 3) (r := (0, 146, 11, 1169)) (nL := 6) (k := 1) (n := 4) (hs := []) (args := [.inl (some 0), zi x1, zi x2, zi x3]) (rest := [zi y2054, .inl (some 388)]) (l0 := [some (.inl (some 0)), some (zi x1), some (zi x2), some (zi x3), none, none]) (by decide +kernel) (Or.inr (Or.inl ⟨_, rfl⟩)) rfl rfl rfl rfl (Nat.le_of_ble_eq_true rfl) (zO hg (tv0 hg) aw0 rfl) rfl rfl (mL := 6) (mk := 1) (m9 := 5) (ms := [(0, 12, 15, 0), (0, 12, 19, 1)]) rfl rfl (qT_le (by decide) hin) (fun h2055 hR2055 => ?_)
    obtain ⟨⟨τ2055, hg2055⟩, jc2055⟩ := hR2055
    refine y_same (i := .astore 5) (len := 2) (r := (0, 0, 0, 0)) (pc' := 17) (ls' := [some (.inl (some 0)), some (zi x1), some (zi x2), some (zi x3), some (.inl (some 388)), some (.inl (some 1000001))]) (st' := []) (by decide +kernel) (fun k q => by cases q) rfl ?_
    refine y_ic (c := 1) (len := 1) (r := (0, 0, 0, 0)) (by decide +kernel) (by decide) (fun y2056 hy2056 => ?_)
    refine y_rI (len := 1) (r := (0, 0, 0, 0)) (nL := 6) (k := 1) (n9 := 5) (hs := [(0, 12, 15, 0), (0, 12, 19, 1)]) (by decide +kernel) rfl rfl ?_
    exact jc2055
  obtain ⟨x, k, y, h1, rfl, hR⟩ := key
  exact ⟨y, h1, qE_le (by decide) (qE_of k), hR⟩
theorem cz_overPartT1 {t : Nat} {τ : List Nat} {h : zh} {cur : bsT} {x1 x2 x3 : Int32} (hg : hG τ h) (hin : qT 22 146 [some (.inl (some 0)), some (zi x1), some (zi x2), some (zi x3), none, none] h t 1 (fun h1 => (∃ τ1, hG τ1 h1) ∧ JCx h1 cur)) : ∃ (y : Int32) (h1 : zh), qE 60 285 [some (.inl (some 0)), some (zi x1), some (zi x2), some (zi x3), some (.inl (some 388)), none] h t (.inl (some (zi y)), h1, t + 1) ∧ JCx h1 cur := by
  have key : qX 31 285 0 [some (.inl (some 0)), some (zi x1), some (zi x2), some (zi x3), some (.inl (some 388)), none] [] h t (rI (fun y h1 => JCx h1 cur) (t + 1)) := by
    refine y_same (i := .aload 4) (len := 2) (r := (0, 0, 0, 0)) (pc' := 2) (ls' := [some (.inl (some 0)), some (zi x1), some (zi x2), some (zi x3), some (.inl (some 388)), none]) (st' := [.inl (some 388)]) (by decide +kernel) (fun k q => by cases q) rfl ?_
    refine y_ic (c := 0) (len := 1) (r := (0, 0, 0, 0)) (by decide +kernel) (by decide) (fun y2057 hy2057 => ?_)
    refine y_same (i := .aload_n 0) (len := 1) (r := (0, 0, 0, 0)) (pc' := 4) (ls' := [some (.inl (some 0)), some (zi x1), some (zi x2), some (zi x3), some (.inl (some 388)), none]) (st' := [.inl (some 0), zi y2057, .inl (some 388)]) (by decide +kernel) (fun k q => by cases q) rfl ?_
    refine y_same (i := .iload_n 1) (len := 1) (r := (0, 0, 0, 0)) (pc' := 5) (ls' := [some (.inl (some 0)), some (zi x1), some (zi x2), some (zi x3), some (.inl (some 388)), none]) (st' := [zi x1, .inl (some 0), zi y2057, .inl (some 388)]) (by decide +kernel) (fun k q => by cases q) rfl ?_
    refine y_same (i := .iload_n 2) (len := 1) (r := (0, 0, 0, 0)) (pc' := 6) (ls' := [some (.inl (some 0)), some (zi x1), some (zi x2), some (zi x3), some (.inl (some 388)), none]) (st' := [zi x2, zi x1, .inl (some 0), zi y2057, .inl (some 388)]) (by decide +kernel) (fun k q => by cases q) rfl ?_
    refine y_same (i := .iload_n 3) (len := 1) (r := (0, 0, 0, 0)) (pc' := 7) (ls' := [some (.inl (some 0)), some (zi x1), some (zi x2), some (zi x3), some (.inl (some 388)), none]) (st' := [zi x3, zi x2, zi x1, .inl (some 0), zi y2057, .inl (some 388)]) (by decide +kernel) (fun k q => by cases q) rfl ?_
    refine y_cC (i := .invokevirtual 44) (len := 3) (r := (0, 146, 11, 1169)) (nL := 6) (k := 1) (n := 4) (hs := []) (args := [.inl (some 0), zi x1, zi x2, zi x3]) (rest := [zi y2057, .inl (some 388)]) (l0 := [some (.inl (some 0)), some (zi x1), some (zi x2), some (zi x3), none, none]) (by decide +kernel) (Or.inr (Or.inl ⟨_, rfl⟩)) rfl rfl rfl rfl (Nat.le_of_ble_eq_true rfl) (zO hg (tv0 hg) aw0 rfl) rfl rfl (mL := 6) (mk := 1) (m9 := 5) (ms := [(0, 12, 15, 0), (0, 12, 19, 1)]) rfl rfl (qT_le (by decide) hin) (fun h2058 hR2058 => ?_)
    obtain ⟨⟨τ2058, hg2058⟩, jc2058⟩ := hR2058
    refine y_same (i := .astore 5) (len := 2) (r := (0, 0, 0, 0)) (pc' := 21) (ls' := [some (.inl (some 0)), some (zi x1), some (zi x2), some (zi x3), some (.inl (some 388)), some (.inl (some 1000001))]) (st' := []) (by decide +kernel) (fun k q => by cases q) rfl ?_
    refine y_ic (c := 2) (len := 1) (r := (0, 0, 0, 0)) (by decide +kernel) (by decide) (fun y2059 hy2059 => ?_)
    refine y_rI (len := 1) (r := (0, 0, 0, 0)) (nL := 6) (k := 1) (n9 := 5) (hs := [(0, 12, 15, 0), (0, 12, 19, 1)]) (by decide +kernel) rfl rfl ?_
    exact jc2058
  obtain ⟨x, k, y, h1, rfl, hR⟩ := key
  exact ⟨y, h1, qE_le (by decide) (qE_of k), hR⟩
theorem lz_overPartC {t T : Nat} {τ : List Nat} {h : zh} {cur : bsT} {hs : List bsT} {x1 x2 x3 : Int32} (hg : hG τ h) (i : IV h T) (rc : RC h cur hs) (rm : RM h cur hs) (cz : CZ cur hs) (py : PY cur hs) (kc : KC cur hs) (jc : JCx h cur) (jm : JMx h cur) : ∃ (y : Int32) (h1 : zh) (t1 : Nat), qE 60 285 [some (.inl (some 0)), some (zi x1), some (zi x2), some (zi x3), some (.inl (some 388)), none] h t (.inl (some (zi y)), h1, t1) ∧ t1 ≤ t + 1 ∧ ∃ τ1, hG τ1 h1 ∧ IV h1 T ∧ RC h1 cur hs ∧ RM h1 cur hs ∧ JCx h1 cur ∧ JMx h1 cur := by
  have key : ∃ (y : Int32) (h1 : zh) (t1 : Nat), qE 60 285 [some (.inl (some 0)), some (zi x1), some (zi x2), some (zi x3), some (.inl (some 388)), none] h t (.inl (some (zi y)), h1, t1) ∧ t1 ≤ t + 1 ∧ JCx h1 cur := by
    obtain ⟨x, e, q⟩ := fc_overPart hg i rc rm cz py kc jc jm
    rcases q with ⟨y, h1, rfl, r⟩ | ⟨h1, rfl, r⟩ | ⟨h1, rfl, r⟩
    · obtain ⟨y2, h2, e2, r2⟩ := cz_overPartA hg ⟨y, h1, e, r⟩
      exact ⟨y2, h2, t, e2, by omega, r2⟩
    · obtain ⟨y2, h2, e2, r2⟩ := cz_overPartT0 hg ⟨h1, e, r⟩
      exact ⟨y2, h2, t + 1, e2, by omega, r2⟩
    · obtain ⟨y2, h2, e2, r2⟩ := cz_overPartT1 hg ⟨h1, e, r⟩
      exact ⟨y2, h2, t + 1, e2, by omega, r2⟩
  obtain ⟨y, h1, t1, e, ht, jc1⟩ := key
  obtain ⟨F, τ1, g1⟩ := use_F (achk_ok aJ_ok lk8 (fun mk c' h1 _ => okC h1)) rfl hg (show aqsM _ _ [.inl (some 0), zi x1, zi x2, zi x3, .inl (some 388)] from ⟨aqR (t0 hg), aqI (qin_full _).1 (qin_full _).2, aqI (qin_full _).1 (qin_full _).2, aqI (qin_full _).1 (qin_full _).2, aqR (t388 hg), trivial⟩) rfl (by decide) e
  exact ⟨y, h1, t1, e, ht, τ1, g1, IV_kp (kpC_w hg F (by decide +kernel)) (kpM_w hg F (by decide +kernel)) i, RC_w hg F (by decide +kernel) rc, RM_w hg F (by decide +kernel) rm, jc1, JMx_kp (kpY_w hg F (by decide +kernel)) (F 52 52 31 (t52 hg) (by decide +kernel)) jm⟩
theorem lz_printC {t T : Nat} {τ : List Nat} {h : zh} {cur : bsT} {hs : List bsT} (hg : hG τ h) (i : IV h T) (rc : RC h cur hs) (rm : RM h cur hs) (cz : CZ cur hs) (py : PY cur hs) (kc : KC cur hs) (jc : JCx h cur) (jm : JMx h cur) : ∃ (w : Int64) (h1 : zh) (t1 : Nat), qE 60 150 [some (.inl (some 0))] h t (.inl (some (.inr (.inr (.inl w)))), h1, t1) ∧ t1 = t ∧ w = prS (prfF cyP false cur).1 ∧ ∃ τ1, hG τ1 h1 ∧ IV h1 T ∧ RC h1 cur hs ∧ RM h1 cur hs ∧ JCx h1 cur ∧ JMx h1 cur := by
  have ok := okB_of hg rm py.1 kc.1 cz.1
  obtain ⟨p1, ⟨u, v, hu, l2, b2⟩, -⟩ := id rc
  have key : ∃ (w : Int64) (h1 : zh), qE 60 150 [some (.inl (some 0))] h t (.inl (some (zlg w)), h1, t) ∧ w = prS (prfF cyP false cur).1 ∧ JCx h1 cur := by
    obtain ⟨x, ex, lx, ux⟩ := g_int (i := 5) (lo := 0) (hi := 1) hg (tv28 hg) aw28 (by decide) rfl
    rcases (show x.toInt = 0 ∨ x.toInt = 1 by omega) with q | q
    · obtain ⟨w, h1, e, ew, τ1, u1, o1⟩ := e_prz (Z := z36 h) (d := 46) (t := t) hg i.2.2.2.1 jc.1.1 jc.1.2.2.2.1 hu l2 b2 ok ⟨x, ex, q⟩ (z36_0 hg jc.1)
      obtain ⟨F, -⟩ := use_F (okC (mk := 150) (c := ac166) List.mem_cons_self) rfl hg (show aqsM _ _ [.inl (some 0)] from ⟨aqR (t0 hg), trivial⟩) rfl (by decide) e
      exact ⟨w, h1, e, ew, jdx28 jc o1 (fun k => F 36 36 k (tv36 hg) (wlN_ok (by decide +kernel))) (F 28 28 0 (tv28 hg) (by decide +kernel)) (F 35 35 0 (tv35 hg) (by decide +kernel)) (F 35 35 5 (tv35 hg) (by decide +kernel)) (F 35 35 6 (tv35 hg) (by decide +kernel)) (F 35 35 8 (tv35 hg) (by decide +kernel)) (F 38 38 2 (tv38 hg) (by decide +kernel))⟩
    · have n9 := jc.2.1 ⟨x, ex, q⟩
      obtain ⟨w, h1, e, ew, rfl⟩ := e_prk (d := 46) (t := t) hg i.2.2.2.1 ⟨x, ex, q⟩ n9.1 n9.2.1 (fun k e9 hk => by
        obtain ⟨a, r, g, l, c4⟩ := n9.2.2 k e9 hk
        have hl9 := n9.2.1
        have hk9 := (List.getElem?_eq_some_iff.mp hk).1
        obtain ⟨v, e8, q8⟩ := g_slot29 (i := k) hg (by omega)
        have e7 : some (.inl (some a)) = some v := r.symm.trans e8
        cases e7
        rcases q8 with q8 | ⟨b, q8, ty⟩
        · cases q8
        · cases q8
          exact ⟨a, r, ty, c4⟩)
      exact ⟨w, _, e, ew, jc⟩
  obtain ⟨w, h1, e, ew, jc1⟩ := key
  obtain ⟨F, τ1, g1⟩ := use_F (okC (mk := 150) (c := ac166) List.mem_cons_self) rfl hg (show aqsM _ _ [.inl (some 0)] from ⟨aqR (t0 hg), trivial⟩) rfl (by decide) e
  exact ⟨w, h1, t, e, rfl, ew, τ1, g1, IV_kp (kpC_w hg F (by decide +kernel)) (kpM_w hg F (by decide +kernel)) i, RC_w hg F (by decide +kernel) rc, RM_w hg F (by decide +kernel) rm, jc1, JMx_kp (kpY_w hg F (by decide +kernel)) (F 52 52 31 (t52 hg) (by decide +kernel)) jm⟩
