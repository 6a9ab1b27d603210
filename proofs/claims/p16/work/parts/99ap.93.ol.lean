/-! the reference's overPart, exactly, as the law's loop sees it -/
theorem lz_omX {t T : Nat} {τ : List Nat} {h : zh} {cur : bsT} {hs : List bsT} (hg : hG τ h) (i : IV h T) (rc : RC h cur hs) (rm : RM h cur hs) (cz : CZ cur hs) (py : PY cur hs) (kc : KC cur hs) (jc : JCx h cur) (jm : JMx h cur) : ∀ h1, hG τ h1 → (∀ k j, (k ≠ 52 ∨ j ≠ 0) → hsl h1 k j = hsl h k j) → qI 10 243 [some (.inl (some 52))] h1 t (fun y h2 => y.toInt = ovF (prfF cyN true cur) ∧ (∃ τ2, hG τ2 h2) ∧ JMx h2 cur ∧ enM1 h2 (prfF cyN true cur) ∧ (-3 ≤ y.toInt ∧ y.toInt ≤ 300) ∧ hsl h2 52 0 = hsl h1 52 0) := by
  intro h1 g1 f
  have ok := okB_of hg rm py.1 kc.1 cz.1
  have jm1 : JMx h1 cur := JMx_kp ⟨fun j => f 373 j (by omega), fun j => f 377 j (by omega), fun k j hk => f (71 + k) j (by omega), f 52 26 (by omega), f 52 27 (by omega), f 52 29 (by omega), f 52 32 (by omega)⟩ (f 52 31 (by omega)) jm
  obtain ⟨x, ex, lx, ux⟩ := g_int (i := 31) (lo := 0) (hi := 1) g1 (t52 g1) at52 (by decide) rfl
  obtain ⟨z, ez, lz, uz⟩ := g_int (i := 32) (lo := 0) (hi := 1) g1 (t52 g1) at52 (by decide) rfl
  have b1 : bsM h1 55 cur := bsM_up rm.1 (fun j => f 55 j (by omega))
  have key : ∃ (y : Int32) (h2 : zh), qE 10 243 [some (.inl (some 52))] h1 t (.inl (some (zi y)), h2, t) ∧ y.toInt = ovF (prfF cyN true cur) ∧ JMx h2 cur ∧ enM1 h2 (prfF cyN true cur) := by
    rcases (show (x.toInt = 0 ∨ (x.toInt = 1 ∧ z.toInt = 0)) ∨ (x.toInt = 1 ∧ z.toInt = 1) by omega) with q | ⟨q1, q2⟩
    · have np : kx_ h1 52 31 0 ∨ (kx_ h1 52 31 1 ∧ kx_ h1 52 32 0) := q.elim (fun q => Or.inl ⟨x, ex, q⟩) (fun q => Or.inr ⟨⟨x, ex, q.1⟩, ⟨z, ez, q.2⟩⟩)
      obtain ⟨y, h2, e, ey, o⟩ := m_omz (d := 0) (t := t) g1 b1 ok np
      exact ⟨y, h2, e, ey, pv_JMx1 o, (pv_JMx1 o (kx_ci o.2.1)).2 o.2.2.1⟩
    · have en := (jm1 ⟨x, ex, q1⟩).2 ⟨z, ez, q2⟩
      obtain ⟨y, h2, e, ey, rfl⟩ := m_omk (d := 0) (t := t) g1 ⟨x, ex, q1⟩ ⟨z, ez, q2⟩ en.1 en.2.1
      exact ⟨y, _, e, ey, jm1, en⟩
  obtain ⟨y, h2, e, ey, j2, en⟩ := key
  obtain ⟨g2, f0⟩ := qI_at (qE_le (d' := 14) (by decide) e) (om_z0 g1)
  have b2 := ovF_b (R := prfF cyN true cur) (Nat.le_trans dns_le en.2.2.1)
  exact ⟨y, h2, e, ey, g2, j2, en, by omega, f0⟩
theorem fq_overPartM {t T : Nat} {τ : List Nat} {h : zh} {cur : bsT} {hs : List bsT} {xi xk xw : Int32} (hg : hG τ h) (i : IV h T) (rc : RC h cur hs) (rm : RM h cur hs) (cz : CZ cur hs) (py : PY cur hs) (kc : KC cur hs) (jc : JCx h cur) (jm : JMx h cur) : qP 15 245 [some (.inl (some 52)), some (zi xi), some (zi xk), some (zi xw), none, none] h t (rI (fun v h1 => JMx h1 cur ∧ (∃ z : Int32, hsl h1 52 0 = some (zi z) ∧ z.toInt = (opA (prfF cyN true cur) xi.toInt xk.toInt xw.toInt).1) ∧ ((opA (prfF cyN true cur) xi.toInt xk.toInt xw.toInt).1 = 0 → v.toInt = (opA (prfF cyN true cur) xi.toInt xk.toInt xw.toInt).2)) t) := by
  refine qP_of ?_
  refine y_same (i := .aload_n 0) (len := 1) (r := (0, 0, 0, 0)) (pc' := 1) (ls' := [some (.inl (some 52)), some (zi xi), some (zi xk), some (zi xw), none, none]) (st' := [.inl (some 52)]) (by decide +kernel) (fun k q => by cases q) rfl ?_
  refine y_ic (c := 0) (len := 1) (r := (0, 0, 0, 0)) (by decide +kernel) (by decide) (fun y2446 hy2446 => ?_)
  refine y_put (j := 92) (lo := (-2147483648)) (hi := 2147483647) (len := 3) (r := (12, 0, 0, 1328)) (by decide +kernel) hg (t52 hg) at52 rfl rfl (by decide) rfl (qin_full _).1 (qin_full _).2 rfl (fun h2447 hg2447 hl2447 hs2447 ho2447 => ?_)
  have ho2447 : hO 52 0 h h2447 := ho2447
  have hs2447 : hsl h2447 52 0 = some (zi y2446) := hs2447
  refine y_same (i := .aload_n 0) (len := 1) (r := (0, 0, 0, 0)) (pc' := 6) (ls' := [some (.inl (some 52)), some (zi xi), some (zi xk), some (zi xw), none, none]) (st' := [.inl (some 52)]) (by decide +kernel) (fun k q => by cases q) rfl ?_
  refine y_cI (i := .invokevirtual 407) (len := 3) (r := (0, 243, 12, 1786)) (nL := 1) (k := 1) (n := 1) (hs := []) (args := [.inl (some 52)]) (rest := []) (l0 := [some (.inl (some 52))]) (by decide +kernel) (Or.inr (Or.inl ⟨_, rfl⟩)) rfl rfl rfl rfl (Nat.le_of_ble_eq_true rfl) (z52 hg2447) rfl (qI_le (by omega) (lz_omX hg i rc rm cz py kc jc jm h2447 hg2447 (fun k j hC => (ho2447 k j (by omega))))) (fun y2448 h2448 hRy2448 => ?_)
  obtain ⟨ey2448, ⟨τ2448, hg2448⟩, jm2448, en2448, ⟨b1, b2⟩, f2448⟩ := hRy2448
  refine y_same (i := .istore 4) (len := 2) (r := (0, 0, 0, 0)) (pc' := 11) (ls' := [some (.inl (some 52)), some (zi xi), some (zi xk), some (zi xw), some (zi y2448), none]) (st' := []) (by decide +kernel) (fun k q => by cases q) rfl ?_
  refine qX_mn (mq_11 hg2448 (f2448.trans hs2447) (by omega) ey2448 b1 b2 en2448 (prf_le2 en2448.2.2.1)) (fun x q => ?_)
  obtain ⟨v, h9, rfl, a, b, c⟩ := q
  exact ⟨v, h9, rfl, c cur jm2448, a, b⟩
theorem lq_overPartM {t T : Nat} {τ : List Nat} {h : zh} {cur : bsT} {hs : List bsT} {xi xk xw : Int32} (hg : hG τ h) (i : IV h T) (rc : RC h cur hs) (rm : RM h cur hs) (cz : CZ cur hs) (py : PY cur hs) (kc : KC cur hs) (jc : JCx h cur) (jm : JMx h cur) : ∃ (y : Int32) (h1 : zh) (t1 : Nat), qE 60 245 [some (.inl (some 52)), some (zi xi), some (zi xk), some (zi xw), none, none] h t (.inl (some (zi y)), h1, t1) ∧ t1 ≤ t + 0 ∧ ∃ τ1, hG τ1 h1 ∧ IV h1 T ∧ RC h1 cur hs ∧ RM h1 cur hs ∧ JCx h1 cur ∧ JMx h1 cur ∧ hsl h1 388 0 = hsl h 388 0 ∧ (∃ z : Int32, hsl h1 52 0 = some (zi z) ∧ z.toInt = (opA (prfF cyN true cur) xi.toInt xk.toInt xw.toInt).1) ∧ ((opA (prfF cyN true cur) xi.toInt xk.toInt xw.toInt).1 = 0 → y.toInt = (opA (prfF cyN true cur) xi.toInt xk.toInt xw.toInt).2) := by
  obtain ⟨x, e9, v, h1, rfl, jm1, a, b⟩ := fq_overPartM (xi := xi) (xk := xk) (xw := xw) (t := t) hg i rc rm cz py kc jc jm
  have e := qE_le (d' := 60) (by decide) e9
  obtain ⟨F, τ1, g1⟩ := use_F (okC (mk := 245) (c := ac241) List.mem_cons_self) rfl hg (show aqsM _ _ [.inl (some 52), zi xi, zi xk, zi xw] from ⟨aqR (t52 hg), aqI (qin_full _).1 (qin_full _).2, aqI (qin_full _).1 (qin_full _).2, aqI (qin_full _).1 (qin_full _).2, trivial⟩) rfl (by decide) e
  obtain ⟨k1, k2⟩ := kpX_w hg F (by decide +kernel)
  exact ⟨v, h1, t, e, by omega, τ1, g1, IV_kp (kpC_w hg F (by decide +kernel)) (kpM_w hg F (by decide +kernel)) i, RC_w hg F (by decide +kernel) rc, RM_w hg F (by decide +kernel) rm, JCx_kp k1 k2 (Or.inl (F 35 35 5 (tv35 hg) (by decide +kernel))) (Or.inl (F 28 28 5 (tv28 hg) (by decide +kernel))) jc, jm1, F 388 388 0 (t388 hg) (by decide +kernel), a, b⟩
