/-! the class's overPart, exactly, as the law's loop sees it -/
theorem fq_overPart {t T : Nat} {τ : List Nat} {h : zh} {cur : bsT} {hs : List bsT} {xi xk xw : Int32} (hg : hG τ h) (i : IV h T) (rc : RC h cur hs) (rm : RM h cur hs) (cz : CZ cur hs) (py : PY cur hs) (kc : KC cur hs) (jc : JCx h cur) (jm : JMx h cur) : qP 22 146 [some (.inl (some 0)), some (zi xi), some (zi xk), some (zi xw), none, none] h t (oX (fun h1 => (∃ τ1, hG τ1 h1) ∧ JCx h1 cur) t (opA (prfF cyN true cur) xi.toInt xk.toInt xw.toInt)) := by
  have r5 := i.2.2.2.1
  refine qP_of ?_
  refine y_same (i := .aload_n 0) (len := 1) (r := (0, 0, 0, 0)) (pc' := 1) (ls' := [some (.inl (some 0)), some (zi xi), some (zi xk), some (zi xw), none, none]) (st' := [.inl (some 0)]) (by decide +kernel) (fun k q => by cases q) rfl ?_
  refine y_get (j := 56) (len := 3) (r := (11, 9, 2, 408)) (by decide +kernel) hg (tv0 hg) aw0 rfl rfl (g_rU (f := 9) (T2 := 35) hg (tv0 hg) aw0 rfl (by decide)) ?_
  refine y_same (i := .aload_n 0) (len := 1) (r := (0, 0, 0, 0)) (pc' := 5) (ls' := [some (.inl (some 0)), some (zi xi), some (zi xk), some (zi xw), none, none]) (st' := [.inl (some 0), .inl (some 35)]) (by decide +kernel) (fun k q => by cases q) rfl ?_
  refine y_get (j := 29) (len := 3) (r := (11, 5, 2, 404)) (by decide +kernel) hg (tv0 hg) aw0 rfl rfl r5 ?_
  refine y_cV (i := .invokevirtual 153) (len := 3) (r := (0, 37, 4, 494)) (nL := 6) (k := 0) (n := 2) (hs := []) (args := [.inl (some 35), .inl (some 2)]) (rest := []) (l0 := [some (.inl (some 35)), some (.inl (some 2)), none, none, none, none]) (by decide +kernel) (Or.inr (Or.inl ⟨_, rfl⟩)) rfl rfl rfl rfl (Nat.le_of_ble_eq_true rfl) (zO hg (tv35 hg) aw35 rfl) rfl (qV_le (by omega) (lz_jd35 hg i rc rm cz py kc jc jm)) (fun h2940 hR2940 => ?_)
  obtain ⟨⟨τ2940, hg2940⟩, jc2940, fl2940⟩ := hR2940
  have n9 := jc2940.2.2 fl2940
  exact qX_mn (oq_11 hg2940 n9.1 n9.2.2) (fun x q => oX_mn (fun h1 k => ⟨⟨_, k.1⟩, kp0_JCx k jc2940⟩) q)
theorem cq_overPartA {t : Nat} {v : Int} {τ : List Nat} {h : zh} {cur : bsT} {xi xk xw : Int32} (hg : hG τ h) (hin : qI 22 146 [some (.inl (some 0)), some (zi xi), some (zi xk), some (zi xw), none, none] h t (fun y h1 => ((∃ τ1, hG τ1 h1) ∧ JCx h1 cur) ∧ y.toInt = v)) : qI 60 285 [some (.inl (some 0)), some (zi xi), some (zi xk), some (zi xw), some (.inl (some 388)), none] h t (fun y h1 => y.toInt = 0 ∧ JCx h1 cur ∧ ∃ z : Int32, ou_ h1 z ∧ z.toInt = v) := by
  refine qI_le (d := 32) (by decide) (qI_of ?_)
  refine y_same (i := .aload 4) (len := 2) (r := (0, 0, 0, 0)) (pc' := 2) (ls' := [some (.inl (some 0)), some (zi xi), some (zi xk), some (zi xw), some (.inl (some 388)), none]) (st' := [.inl (some 388)]) (by decide +kernel) (fun k q => by cases q) rfl ?_
  refine y_ic (c := 0) (len := 1) (r := (0, 0, 0, 0)) (by decide +kernel) (by decide) (fun y2941 hy2941 => ?_)
  refine y_same (i := .aload_n 0) (len := 1) (r := (0, 0, 0, 0)) (pc' := 4) (ls' := [some (.inl (some 0)), some (zi xi), some (zi xk), some (zi xw), some (.inl (some 388)), none]) (st' := [.inl (some 0), zi y2941, .inl (some 388)]) (by decide +kernel) (fun k q => by cases q) rfl ?_
  refine y_same (i := .iload_n 1) (len := 1) (r := (0, 0, 0, 0)) (pc' := 5) (ls' := [some (.inl (some 0)), some (zi xi), some (zi xk), some (zi xw), some (.inl (some 388)), none]) (st' := [zi xi, .inl (some 0), zi y2941, .inl (some 388)]) (by decide +kernel) (fun k q => by cases q) rfl ?_
  refine y_same (i := .iload_n 2) (len := 1) (r := (0, 0, 0, 0)) (pc' := 6) (ls' := [some (.inl (some 0)), some (zi xi), some (zi xk), some (zi xw), some (.inl (some 388)), none]) (st' := [zi xk, zi xi, .inl (some 0), zi y2941, .inl (some 388)]) (by decide +kernel) (fun k q => by cases q) rfl ?_
  refine y_same (i := .iload_n 3) (len := 1) (r := (0, 0, 0, 0)) (pc' := 7) (ls' := [some (.inl (some 0)), some (zi xi), some (zi xk), some (zi xw), some (.inl (some 388)), none]) (st' := [zi xw, zi xk, zi xi, .inl (some 0), zi y2941, .inl (some 388)]) (by decide +kernel) (fun k q => by cases q) rfl ?_
  refine y_cI (i := .invokevirtual 44) (len := 3) (r := (0, 146, 11, 1169)) (nL := 6) (k := 1) (n := 4) (hs := []) (args := [.inl (some 0), zi xi, zi xk, zi xw]) (rest := [zi y2941, .inl (some 388)]) (l0 := [some (.inl (some 0)), some (zi xi), some (zi xk), some (zi xw), none, none]) (by decide +kernel) (Or.inr (Or.inl ⟨_, rfl⟩)) rfl rfl rfl rfl (Nat.le_of_ble_eq_true rfl) (zO hg (tv0 hg) aw0 rfl) rfl (qI_le (by decide) hin) (fun y2942 h2942 hRy2942 => ?_)
  obtain ⟨⟨⟨τ2942, hg2942⟩, jc2942⟩, ey⟩ := hRy2942
  refine y_i2l2 (len := 1) (r := (0, 0, 0, 0)) (by decide +kernel) ?_
  refine y_las2 (i := 0) (len := 1) (r := (0, 0, 0, 0)) (by decide +kernel) hg2942 (t388 hg2942) aw388 rfl (by omega) (by omega) rfl (fun h2943 hg2943 hw2943 ho2943 => ?_)
  refine y_goto (off := 11) (pc' := 23) (len := 3) (r := (0, 0, 0, 0)) (by decide +kernel) (by decide +kernel) ?_
  refine y_ic (c := 0) (len := 1) (r := (0, 0, 0, 0)) (by decide +kernel) (by decide) (fun y2944 hy2944 => ?_)
  refine y_rI (len := 1) (r := (0, 0, 0, 0)) (nL := 6) (k := 1) (n9 := 5) (hs := [(0, 12, 15, 0), (0, 12, 19, 1)]) (by decide +kernel) rfl rfl ?_
  exact ⟨by omega, kp388_JCx (fun k j hC => (ho2943 k j (by omega))) jc2942, _, hw2943, ey⟩
theorem cq_overPartT0 {t : Nat} {τ : List Nat} {h : zh} {cur : bsT} {xi xk xw : Int32} (hg : hG τ h) (hin : qT 22 146 [some (.inl (some 0)), some (zi xi), some (zi xk), some (zi xw), none, none] h t 0 (fun h1 => (∃ τ1, hG τ1 h1) ∧ JCx h1 cur)) : ∃ (y : Int32) (h1 : zh), qE 60 285 [some (.inl (some 0)), some (zi xi), some (zi xk), some (zi xw), some (.inl (some 388)), none] h t (.inl (some (zi y)), h1, t + 1) ∧ y.toInt = 1 ∧ JCx h1 cur := by
  have key : qX 31 285 0 [some (.inl (some 0)), some (zi xi), some (zi xk), some (zi xw), some (.inl (some 388)), none] [] h t (rI (fun y h1 => y.toInt = 1 ∧ JCx h1 cur) (t + 1)) := by
    refine y_same (i := .aload 4) (len := 2) (r := (0, 0, 0, 0)) (pc' := 2) (ls' := [some (.inl (some 0)), some (zi xi), some (zi xk), some (zi xw), some (.inl (some 388)), none]) (st' := [.inl (some 388)]) (by decide +kernel) (fun k q => by cases q) rfl ?_
    refine y_ic (c := 0) (len := 1) (r := (0, 0, 0, 0)) (by decide +kernel) (by decide) (fun y2945 hy2945 => ?_)
    refine y_same (i := .aload_n 0) (len := 1) (r := (0, 0, 0, 0)) (pc' := 4) (ls' := [some (.inl (some 0)), some (zi xi), some (zi xk), some (zi xw), some (.inl (some 388)), none]) (st' := [.inl (some 0), zi y2945, .inl (some 388)]) (by decide +kernel) (fun k q => by cases q) rfl ?_
    refine y_same (i := .iload_n 1) (len := 1) (r := (0, 0, 0, 0)) (pc' := 5) (ls' := [some (.inl (some 0)), some (zi xi), some (zi xk), some (zi xw), some (.inl (some 388)), none]) (st' := [zi xi, .inl (some 0), zi y2945, .inl (some 388)]) (by decide +kernel) (fun k q => by cases q) rfl ?_
    refine y_same (i := .iload_n 2) (len := 1) (r := (0, 0, 0, 0)) (pc' := 6) (ls' := [some (.inl (some 0)), some (zi xi), some (zi xk), some (zi xw), some (.inl (some 388)), none]) (st' := [zi xk, zi xi, .inl (some 0), zi y2945, .inl (some 388)]) (by decide +kernel) (fun k q => by cases q) rfl ?_
    refine y_same (i := .iload_n 3) (len := 1) (r := (0, 0, 0, 0)) (pc' := 7) (ls' := [some (.inl (some 0)), some (zi xi), some (zi xk), some (zi xw), some (.inl (some 388)), none]) (st' := [zi xw, zi xk, zi xi, .inl (some 0), zi y2945, .inl (some 388)]) (by decide +kernel) (fun k q => by cases q) rfl ?_
    refine y_cC (i := .invokevirtual 44) (len := 3) (r := (0, 146, 11, 1169)) (nL := 6) (k := 1) (n := 4) (hs := []) (args := [.inl (some 0), zi xi, zi xk, zi xw]) (rest := [zi y2945, .inl (some 388)]) (l0 := [some (.inl (some 0)), some (zi xi), some (zi xk), some (zi xw), none, none]) (by decide +kernel) (Or.inr (Or.inl ⟨_, rfl⟩)) rfl rfl rfl rfl (Nat.le_of_ble_eq_true rfl) (zO hg (tv0 hg) aw0 rfl) rfl rfl (mL := 6) (mk := 1) (m9 := 5) (ms := [(0, 12, 15, 0), (0, 12, 19, 1)]) rfl rfl (qT_le (by decide) hin) (fun h2946 hR2946 => ?_)
    obtain ⟨⟨τ2946, hg2946⟩, jc2946⟩ := hR2946
    refine y_same (i := .astore 5) (len := 2) (r := (0, 0, 0, 0)) (pc' := 17) (ls' := [some (.inl (some 0)), some (zi xi), some (zi xk), some (zi xw), some (.inl (some 388)), some (.inl (some 1000001))]) (st' := []) (by decide +kernel) (fun k q => by cases q) rfl ?_
    refine y_ic (c := 1) (len := 1) (r := (0, 0, 0, 0)) (by decide +kernel) (by decide) (fun y2947 hy2947 => ?_)
    refine y_rI (len := 1) (r := (0, 0, 0, 0)) (nL := 6) (k := 1) (n9 := 5) (hs := [(0, 12, 15, 0), (0, 12, 19, 1)]) (by decide +kernel) rfl rfl ?_
    exact ⟨by omega, jc2946⟩
  obtain ⟨x, k, y, h1, rfl, hR⟩ := key
  exact ⟨y, h1, qE_le (by decide) (qE_of k), hR⟩
theorem cq_overPartT1 {t : Nat} {τ : List Nat} {h : zh} {cur : bsT} {xi xk xw : Int32} (hg : hG τ h) (hin : qT 22 146 [some (.inl (some 0)), some (zi xi), some (zi xk), some (zi xw), none, none] h t 1 (fun h1 => (∃ τ1, hG τ1 h1) ∧ JCx h1 cur)) : ∃ (y : Int32) (h1 : zh), qE 60 285 [some (.inl (some 0)), some (zi xi), some (zi xk), some (zi xw), some (.inl (some 388)), none] h t (.inl (some (zi y)), h1, t + 1) ∧ y.toInt = 2 ∧ JCx h1 cur := by
  have key : qX 31 285 0 [some (.inl (some 0)), some (zi xi), some (zi xk), some (zi xw), some (.inl (some 388)), none] [] h t (rI (fun y h1 => y.toInt = 2 ∧ JCx h1 cur) (t + 1)) := by
    refine y_same (i := .aload 4) (len := 2) (r := (0, 0, 0, 0)) (pc' := 2) (ls' := [some (.inl (some 0)), some (zi xi), some (zi xk), some (zi xw), some (.inl (some 388)), none]) (st' := [.inl (some 388)]) (by decide +kernel) (fun k q => by cases q) rfl ?_
    refine y_ic (c := 0) (len := 1) (r := (0, 0, 0, 0)) (by decide +kernel) (by decide) (fun y2948 hy2948 => ?_)
    refine y_same (i := .aload_n 0) (len := 1) (r := (0, 0, 0, 0)) (pc' := 4) (ls' := [some (.inl (some 0)), some (zi xi), some (zi xk), some (zi xw), some (.inl (some 388)), none]) (st' := [.inl (some 0), zi y2948, .inl (some 388)]) (by decide +kernel) (fun k q => by cases q) rfl ?_
    refine y_same (i := .iload_n 1) (len := 1) (r := (0, 0, 0, 0)) (pc' := 5) (ls' := [some (.inl (some 0)), some (zi xi), some (zi xk), some (zi xw), some (.inl (some 388)), none]) (st' := [zi xi, .inl (some 0), zi y2948, .inl (some 388)]) (by decide +kernel) (fun k q => by cases q) rfl ?_
    refine y_same (i := .iload_n 2) (len := 1) (r := (0, 0, 0, 0)) (pc' := 6) (ls' := [some (.inl (some 0)), some (zi xi), some (zi xk), some (zi xw), some (.inl (some 388)), none]) (st' := [zi xk, zi xi, .inl (some 0), zi y2948, .inl (some 388)]) (by decide +kernel) (fun k q => by cases q) rfl ?_
    refine y_same (i := .iload_n 3) (len := 1) (r := (0, 0, 0, 0)) (pc' := 7) (ls' := [some (.inl (some 0)), some (zi xi), some (zi xk), some (zi xw), some (.inl (some 388)), none]) (st' := [zi xw, zi xk, zi xi, .inl (some 0), zi y2948, .inl (some 388)]) (by decide +kernel) (fun k q => by cases q) rfl ?_
    refine y_cC (i := .invokevirtual 44) (len := 3) (r := (0, 146, 11, 1169)) (nL := 6) (k := 1) (n := 4) (hs := []) (args := [.inl (some 0), zi xi, zi xk, zi xw]) (rest := [zi y2948, .inl (some 388)]) (l0 := [some (.inl (some 0)), some (zi xi), some (zi xk), some (zi xw), none, none]) (by decide +kernel) (Or.inr (Or.inl ⟨_, rfl⟩)) rfl rfl rfl rfl (Nat.le_of_ble_eq_true rfl) (zO hg (tv0 hg) aw0 rfl) rfl rfl (mL := 6) (mk := 1) (m9 := 5) (ms := [(0, 12, 15, 0), (0, 12, 19, 1)]) rfl rfl (qT_le (by decide) hin) (fun h2949 hR2949 => ?_)
    obtain ⟨⟨τ2949, hg2949⟩, jc2949⟩ := hR2949
    refine y_same (i := .astore 5) (len := 2) (r := (0, 0, 0, 0)) (pc' := 21) (ls' := [some (.inl (some 0)), some (zi xi), some (zi xk), some (zi xw), some (.inl (some 388)), some (.inl (some 1000001))]) (st' := []) (by decide +kernel) (fun k q => by cases q) rfl ?_
    refine y_ic (c := 2) (len := 1) (r := (0, 0, 0, 0)) (by decide +kernel) (by decide) (fun y2950 hy2950 => ?_)
    refine y_rI (len := 1) (r := (0, 0, 0, 0)) (nL := 6) (k := 1) (n9 := 5) (hs := [(0, 12, 15, 0), (0, 12, 19, 1)]) (by decide +kernel) rfl rfl ?_
    exact ⟨by omega, jc2949⟩
  obtain ⟨x, k, y, h1, rfl, hR⟩ := key
  exact ⟨y, h1, qE_le (by decide) (qE_of k), hR⟩
theorem lq_overPartC {t T : Nat} {τ : List Nat} {h : zh} {cur : bsT} {hs : List bsT} {xi xk xw : Int32} (hg : hG τ h) (i : IV h T) (rc : RC h cur hs) (rm : RM h cur hs) (cz : CZ cur hs) (py : PY cur hs) (kc : KC cur hs) (jc : JCx h cur) (jm : JMx h cur) : ∃ (y : Int32) (h1 : zh) (t1 : Nat), qE 60 285 [some (.inl (some 0)), some (zi xi), some (zi xk), some (zi xw), some (.inl (some 388)), none] h t (.inl (some (zi y)), h1, t1) ∧ t1 ≤ t + 1 ∧ ∃ τ1, hG τ1 h1 ∧ IV h1 T ∧ RC h1 cur hs ∧ RM h1 cur hs ∧ JCx h1 cur ∧ JMx h1 cur ∧ y.toInt = (opA (prfF cyN true cur) xi.toInt xk.toInt xw.toInt).1 ∧ (y.toInt = 0 → ∃ z : Int32, ou_ h1 z ∧ z.toInt = (opA (prfF cyN true cur) xi.toInt xk.toInt xw.toInt).2) := by
  have key : ∃ (y : Int32) (h1 : zh) (t1 : Nat), qE 60 285 [some (.inl (some 0)), some (zi xi), some (zi xk), some (zi xw), some (.inl (some 388)), none] h t (.inl (some (zi y)), h1, t1) ∧ t1 ≤ t + 1 ∧ JCx h1 cur ∧ y.toInt = (opA (prfF cyN true cur) xi.toInt xk.toInt xw.toInt).1 ∧ (y.toInt = 0 → ∃ z : Int32, ou_ h1 z ∧ z.toInt = (opA (prfF cyN true cur) xi.toInt xk.toInt xw.toInt).2) := by
    obtain ⟨x, e, q⟩ := fq_overPart (xi := xi) (xk := xk) (xw := xw) hg i rc rm cz py kc jc jm
    rcases q with ⟨c, y, h1, rfl, r, v⟩ | ⟨c, h1, rfl, r⟩ | ⟨c, h1, rfl, r⟩
    · obtain ⟨y2, h2, e2, a, b, z⟩ := cq_overPartA hg ⟨y, h1, e, r, v⟩
      exact ⟨y2, h2, t, e2, by omega, b, by omega, fun _ => z⟩
    · obtain ⟨y2, h2, e2, a, b⟩ := cq_overPartT0 hg ⟨h1, e, r⟩
      exact ⟨y2, h2, t + 1, e2, by omega, b, by omega, fun q9 => by omega⟩
    · obtain ⟨y2, h2, e2, a, b⟩ := cq_overPartT1 hg ⟨h1, e, r⟩
      exact ⟨y2, h2, t + 1, e2, by omega, b, by omega, fun q9 => by omega⟩
  obtain ⟨y, h1, t1, e, ht, jc1, ey, ou⟩ := key
  obtain ⟨F, τ1, g1⟩ := use_F (achk_ok aJ_ok lk8 (fun mk c' h1 _ => okC h1)) rfl hg (show aqsM _ _ [.inl (some 0), zi xi, zi xk, zi xw, .inl (some 388)] from ⟨aqR (t0 hg), aqI (qin_full _).1 (qin_full _).2, aqI (qin_full _).1 (qin_full _).2, aqI (qin_full _).1 (qin_full _).2, aqR (t388 hg), trivial⟩) rfl (by decide) e
  exact ⟨y, h1, t1, e, ht, τ1, g1, IV_kp (kpC_w hg F (by decide +kernel)) (kpM_w hg F (by decide +kernel)) i, RC_w hg F (by decide +kernel) rc, RM_w hg F (by decide +kernel) rm, jc1, JMx_kp (kpY_w hg F (by decide +kernel)) (F 52 52 31 (t52 hg) (by decide +kernel)) jm, ey, ou⟩
