/-! feed, text, over: the law's calls with the provers' flags -/
theorem kpPQ_o {τ : List Nat} {h h1 : zh} (hg : hG τ h) (F : ∀ k T j, τ[k]? = some T → 388 < k → hsl h1 k j = hsl h k j) : kpPQ h h1 := fun a ha l ⟨k, hk, r⟩ => by
  obtain ⟨v, e, q⟩ := g_slot36 (i := k) hg hk
  have e9 : some (.inl (some a)) = some v := r.symm.trans e
  cases e9
  rcases q with q | ⟨b, q, ty⟩
  · cases q
  · cases q
    obtain ⟨t0, t1, t2, t3, t4, t5, t6, t7, t8⟩ := tyQ_of hg ty l
    obtain ⟨l1, l2, l3, l4, l5, l6, l7, l8⟩ := l
    exact ⟨rfs_up l1 (F _ _ _ t0 ha), rfs_up l2 (F _ _ _ t0 ha), rfs_up l3 (F _ _ _ t0 ha), rfs_up l4 (F _ _ _ t0 ha), rfs_up l5 (F _ _ _ t1 (by omega)), rfs_up l6 (F _ _ _ t3 (by omega)), rfs_up l7 (F _ _ _ t5 (by omega)), rfs_up l8 (F _ _ _ t7 (by omega))⟩
theorem jq_feedC {t T : Nat} {τ : List Nat} {h : zh} {xT a1 a2 a3 a4 a5 : Int32} {cur cm : bsT} (hg : hG τ h) (b1 : T ≤ 200) (b2 : T % 20 = 0) (hT : hsl h 0 1 = some (zi xT)) (eT : xT.toInt = (T : Int)) (jc : JCp h cur) (jm : JMp h cm) {y : Int32} {h1 : zh} {t1 : Nat} (e : qE 60 132 [some (.inl (some 0)), some (zi a1), some (zi a2), some (zi a3), some (zi a4), some (zi a5)] h t (.inl (some (zi y)), h1, t1)) : JCp h1 cur ∧ JMp h1 cm := by
  have key : ∃ (y : Int32) (h1 : zh) (t1 : Nat), qE 60 132 [some (.inl (some 0)), some (zi a1), some (zi a2), some (zi a3), some (zi a4), some (zi a5)] h t (.inl (some (zi y)), h1, t1) ∧ ((kpPC h h1 ∧ kpPQ h h1 ∧ hsl h1 35 5 = hsl h 35 5) ∧ kpPM h h1 ∧ hsl h1 52 31 = hsl h 52 31) := by
    rcases (show T = 200 ∨ T + 20 ≤ 200 by omega) with rfl | hT2
    · obtain ⟨y, h1, t1, e1, e2, e3, e4, τ1, g1, F, x, s1, s2⟩ := use_T (t := t) (d := 60) (T := 200) 0 (-1) (-1) 0 (okC (mk := 132) (c := ac327) (List.mem_of_getElem? (i := 11) rfl)) rfl hg (show aqsM _ _ [.inl (some 0), zi a1, zi a2, zi a3, zi a4, zi a5] from ⟨aqR (t0 hg), aqI (qin_full _).1 (qin_full _).2, aqI (qin_full _).1 (qin_full _).2, aqI (qin_full _).1 (qin_full _).2, aqI (qin_full _).1 (qin_full _).2, aqI (qin_full _).1 (qin_full _).2, trivial⟩) (l0 := [some (.inl (some 0)), some (zi a1), some (zi a2), some (zi a3), some (zi a4), some (zi a5)]) rfl (by decide) (t0 hg) hT eT (by decide +kernel) (by decide)
      exact ⟨y, h1, t1, e1, kpP_w hg F (by decide +kernel), kpF_w hg F (by decide +kernel)⟩
    · obtain ⟨y, h1, e, τ1, O, x1, f⟩ := c_feed (t := t) (a1 := a1) (a2 := a2) (a3 := a3) (a4 := a4) (a5 := a5) hg hT eT hT2
      exact ⟨y, h1, t, e, ⟨⟨⟨fun k9 => O.2.2 36 36 k9 (tv36 hg) (show (36 ≠ 0 ∨ k9 ≠ 1) ∧ (36 ≠ 1 ∨ k9 < T ∨ T + 20 ≤ k9) by omega), O.2.2 35 35 0 (tv35 hg) (show (35 ≠ 0 ∨ 0 ≠ 1) ∧ (35 ≠ 1 ∨ 0 < T ∨ T + 20 ≤ 0) by omega), O.2.2 35 35 6 (tv35 hg) (show (35 ≠ 0 ∨ 6 ≠ 1) ∧ (35 ≠ 1 ∨ 6 < T ∨ T + 20 ≤ 6) by omega), O.2.2 35 35 8 (tv35 hg) (show (35 ≠ 0 ∨ 8 ≠ 1) ∧ (35 ≠ 1 ∨ 8 < T ∨ T + 20 ≤ 8) by omega), O.2.2 38 38 2 (tv38 hg) (show (38 ≠ 0 ∨ 2 ≠ 1) ∧ (38 ≠ 1 ∨ 2 < T ∨ T + 20 ≤ 2) by omega)⟩, kpPQ_o hg (fun k T9 j hk hC => O.2.2 k T9 j hk (show (k ≠ 0 ∨ j ≠ 1) ∧ (k ≠ 1 ∨ j < T ∨ T + 20 ≤ j) by omega)), O.2.2 35 35 5 (tv35 hg) (show (35 ≠ 0 ∨ 5 ≠ 1) ∧ (35 ≠ 1 ∨ 5 < T ∨ T + 20 ≤ 5) by omega)⟩, ⟨O.2.2 52 52 27 (t52 hg) (show (52 ≠ 0 ∨ 27 ≠ 1) ∧ (52 ≠ 1 ∨ 27 < T ∨ T + 20 ≤ 27) by omega), O.2.2 52 52 29 (t52 hg) (show (52 ≠ 0 ∨ 29 ≠ 1) ∧ (52 ≠ 1 ∨ 29 < T ∨ T + 20 ≤ 29) by omega), O.2.2 52 52 32 (t52 hg) (show (52 ≠ 0 ∨ 32 ≠ 1) ∧ (52 ≠ 1 ∨ 32 < T ∨ T + 20 ≤ 32) by omega)⟩, O.2.2 52 52 31 (t52 hg) (show (52 ≠ 0 ∨ 31 ≠ 1) ∧ (52 ≠ 1 ∨ 31 < T ∨ T + 20 ≤ 31) by omega)⟩⟩
  obtain ⟨y', h', t', e', ⟨k1, k2, k3⟩, k4, k5⟩ := key
  have e9 := qE_det e e'
  cases e9
  exact ⟨JCp_kp k1 k2 k3 jc, JMp_kp k4 k5 jm⟩
theorem jq_feedM {t T : Nat} {τ : List Nat} {h : zh} {xT a1 a2 a3 a4 a5 : Int32} {cur cm : bsT} (hg : hG τ h) (b1 : T ≤ 200) (b2 : T % 20 = 0) (hT : hsl h 52 2 = some (zi xT)) (eT : xT.toInt = (T : Int)) (jc : JCp h cur) (jm : JMp h cm) {y : Int32} {h1 : zh} {t1 : Nat} (e : qE 60 165 [some (.inl (some 52)), some (zi a1), some (zi a2), some (zi a3), some (zi a4), some (zi a5), none, none] h t (.inl (some (zi y)), h1, t1)) : JCp h1 cur ∧ JMp h1 cm := by
  have key : ∃ (y : Int32) (h1 : zh) (t1 : Nat), qE 60 165 [some (.inl (some 52)), some (zi a1), some (zi a2), some (zi a3), some (zi a4), some (zi a5), none, none] h t (.inl (some (zi y)), h1, t1) ∧ ((kpPC h h1 ∧ kpPQ h h1 ∧ hsl h1 35 5 = hsl h 35 5) ∧ kpPM h h1 ∧ hsl h1 52 31 = hsl h 52 31) := by
    rcases (show T = 200 ∨ T + 20 ≤ 200 by omega) with rfl | hT2
    · obtain ⟨y, h1, t1, e1, e2, e3, e4, τ1, g1, F, x, s1, s2⟩ := use_T (t := t) (d := 60) (T := 200) 0 (-1) (-1) 0 (okC (mk := 165) (c := ac371) (List.mem_of_getElem? (i := 11) rfl)) rfl hg (show aqsM _ _ [.inl (some 52), zi a1, zi a2, zi a3, zi a4, zi a5] from ⟨aqR (t52 hg), aqI (qin_full _).1 (qin_full _).2, aqI (qin_full _).1 (qin_full _).2, aqI (qin_full _).1 (qin_full _).2, aqI (qin_full _).1 (qin_full _).2, aqI (qin_full _).1 (qin_full _).2, trivial⟩) (l0 := [some (.inl (some 52)), some (zi a1), some (zi a2), some (zi a3), some (zi a4), some (zi a5), none, none]) rfl (by decide) (t52 hg) hT eT (by decide +kernel) (by decide)
      exact ⟨y, h1, t1, e1, kpP_w hg F (by decide +kernel), kpF_w hg F (by decide +kernel)⟩
    · obtain ⟨y, h1, e, τ1, O, x1, f⟩ := m_feed (t := t) (a1 := a1) (a2 := a2) (a3 := a3) (a4 := a4) (a5 := a5) hg hT eT hT2
      exact ⟨y, h1, t, e, ⟨⟨⟨fun k9 => O.2.2 36 36 k9 (tv36 hg) (show (36 ≠ 52 ∨ (k9 ≠ 0 ∧ k9 ≠ 2)) ∧ (36 ≠ 54 ∨ k9 < T ∨ T + 20 ≤ k9) by omega), O.2.2 35 35 0 (tv35 hg) (show (35 ≠ 52 ∨ (0 ≠ 0 ∧ 0 ≠ 2)) ∧ (35 ≠ 54 ∨ 0 < T ∨ T + 20 ≤ 0) by omega), O.2.2 35 35 6 (tv35 hg) (show (35 ≠ 52 ∨ (6 ≠ 0 ∧ 6 ≠ 2)) ∧ (35 ≠ 54 ∨ 6 < T ∨ T + 20 ≤ 6) by omega), O.2.2 35 35 8 (tv35 hg) (show (35 ≠ 52 ∨ (8 ≠ 0 ∧ 8 ≠ 2)) ∧ (35 ≠ 54 ∨ 8 < T ∨ T + 20 ≤ 8) by omega), O.2.2 38 38 2 (tv38 hg) (show (38 ≠ 52 ∨ (2 ≠ 0 ∧ 2 ≠ 2)) ∧ (38 ≠ 54 ∨ 2 < T ∨ T + 20 ≤ 2) by omega)⟩, kpPQ_o hg (fun k T9 j hk hC => O.2.2 k T9 j hk (show (k ≠ 52 ∨ (j ≠ 0 ∧ j ≠ 2)) ∧ (k ≠ 54 ∨ j < T ∨ T + 20 ≤ j) by omega)), O.2.2 35 35 5 (tv35 hg) (show (35 ≠ 52 ∨ (5 ≠ 0 ∧ 5 ≠ 2)) ∧ (35 ≠ 54 ∨ 5 < T ∨ T + 20 ≤ 5) by omega)⟩, ⟨O.2.2 52 52 27 (t52 hg) (show (52 ≠ 52 ∨ (27 ≠ 0 ∧ 27 ≠ 2)) ∧ (52 ≠ 54 ∨ 27 < T ∨ T + 20 ≤ 27) by omega), O.2.2 52 52 29 (t52 hg) (show (52 ≠ 52 ∨ (29 ≠ 0 ∧ 29 ≠ 2)) ∧ (52 ≠ 54 ∨ 29 < T ∨ T + 20 ≤ 29) by omega), O.2.2 52 52 32 (t52 hg) (show (52 ≠ 52 ∨ (32 ≠ 0 ∧ 32 ≠ 2)) ∧ (52 ≠ 54 ∨ 32 < T ∨ T + 20 ≤ 32) by omega)⟩, O.2.2 52 52 31 (t52 hg) (show (52 ≠ 52 ∨ (31 ≠ 0 ∧ 31 ≠ 2)) ∧ (52 ≠ 54 ∨ 31 < T ∨ T + 20 ≤ 31) by omega)⟩⟩
  obtain ⟨y', h', t', e', ⟨k1, k2, k3⟩, k4, k5⟩ := key
  have e9 := qE_det e e'
  cases e9
  exact ⟨JCp_kp k1 k2 k3 jc, JMp_kp k4 k5 jm⟩
theorem IY_text {h h1 h2 : zh} {T : Nat} {xn yc ym : Int32} {cur : bsT} {hs : List bsT} (i : IV h T) (cz : CZ cur hs) (py : PY cur hs) (kc9 : KC cur hs) (c : txC2 h h1 T xn cur hs yc) (m : txM2 h h1 h2 T xn cur hs ym) (jc : jtP h h1 T xn cur) (jm : (∀ c', JCp h1 c' → JCp h2 c') ∧ jtQ h h2 T xn cur) : IY h2 ∧ (∃ x : Int32, hsl h2 52 0 = some (zi x) ∧ x.toInt = yc.toInt) ∧ (yc.toInt = 0 → ou_ h2 ym) := by
  obtain ⟨km, -, c⟩ := c
  obtain ⟨kc, k388, krc, m⟩ := m
  obtain ⟨ju, jm⟩ := jm
  rcases c with ⟨q, c, rc, ey⟩ | ⟨n, e1, e2, al1, c5, ⟨x1, z1, z2⟩, ⟨x2, z3, z4⟩, rc, ey, z, hz, ez⟩
  · rcases m with ⟨-, m, rm, x, t1, t2⟩ | ⟨n, e1, e2, -⟩
    · rcases jc with ⟨-, jc⟩ | ⟨n, e1, e2, -⟩
      · rcases jm with ⟨-, jm⟩ | ⟨n, e1, e2, -⟩
        · exact ⟨⟨T, cur, hs, IV_kp kc m (IV_kp c km i), krc _ _ rc, rm, cz, py, kc9, ju _ jc, jm⟩, ⟨x, t1, by omega⟩, fun q9 => by omega⟩
        · omega
      · omega
    · omega
  · rcases m with ⟨q, -⟩ | ⟨n', e1', e2', ⟨y1, w1, w2⟩, ⟨y2, w3, w4⟩, ⟨x, t1, t2⟩, rm, ktx⟩
    · omega
    · have hn : n' = n := by omega
      subst hn
      have hx : x2 = y2 := Int32.toInt_inj.mp (by rw [z4, w4])
      subst hx
      obtain ⟨k1, k2, k3, k4, k5⟩ := kc
      rcases jc with ⟨q, -⟩ | ⟨n3, e3, -, jc⟩
      · omega
      · rcases jm with ⟨q, -⟩ | ⟨n4, e4, -, jm⟩
        · omega
        · obtain rfl : n3 = n' := by omega
          obtain rfl : n4 = n3 := by omega
          refine ⟨⟨0, _, _, ⟨by omega, rfl, k4 al1, k5.trans (c5.trans i.2.2.2.1), ⟨x1, k2.trans z1, z2⟩, ⟨y1, w1, w2⟩, fun j hj => absurd hj (Nat.not_lt_zero j), x2, k3.trans z3, w3⟩, krc _ _ rc, rm, CZ_text cz, PY_text py, KC_text kc9, ju _ jc, jm⟩, ⟨x, t1, by omega⟩, fun _ => ?_⟩
          rw [txA_eq ktx ez]
          exact k388.trans hz
theorem om_z0 {τ : List Nat} {h : zh} {t : Nat} (hg : hG τ h) : qI 14 243 [some (.inl (some 52))] h t (fun _ h1 => (∃ τ1, hG τ1 h1) ∧ hsl h1 52 0 = hsl h 52 0) := by
  refine qI_of ?_
  refine y_same (i := .aload_n 0) (len := 1) (r := (0, 0, 0, 0)) (pc' := 1) (ls' := [some (.inl (some 52))]) (st' := [.inl (some 52)]) (by decide +kernel) (fun k q => by cases q) rfl ?_
  refine y_ic (c := 1) (len := 1) (r := (0, 0, 0, 0)) (by decide +kernel) (by decide) (fun y1958 hy1958 => ?_)
  refine y_cV (i := .invokevirtual 400) (len := 3) (r := (0, 238, 12, 1628)) (nL := 3) (k := 0) (n := 2) (hs := []) (args := [.inl (some 52), zi y1958]) (rest := []) (l0 := [some (.inl (some 52)), some (zi y1958), none]) (by decide +kernel) (Or.inr (Or.inl ⟨_, rfl⟩)) rfl rfl rfl rfl (Nat.le_of_ble_eq_true rfl) (z52 hg) rfl (qV_le (by decide) (pvs_1 (t := t) hg (by omega) (by omega))) (fun h1959 hR1959 => ?_)
  obtain ⟨⟨τ1959, hg1959⟩, f1959, -⟩ := hR1959
  refine y_same (i := .aload_n 0) (len := 1) (r := (0, 0, 0, 0)) (pc' := 6) (ls' := [some (.inl (some 52))]) (st' := [.inl (some 52)]) (by decide +kernel) (fun k q => by cases q) rfl ?_
  obtain ⟨v1960, hv1961, lv1960, uv1960⟩ := g_int (i := 27) (lo := (-2147483648)) (hi := 2147483647) hg1959 (t52 hg1959) at52 (by decide) rfl
  refine y_get (j := 391) (len := 3) (r := (12, 27, 0, 1355)) (by decide +kernel) hg1959 (t52 hg1959) at52 rfl rfl hv1961 ?_
  rcases Decidable.em (v1960.toInt ≠ 0) with q1962 | q1962
  ·
    refine y_iT (c := .ne) (off := 8) (pc' := 17) (len := 3) (r := (0, 0, 0, 0)) (by decide +kernel) (acmpT (c := .ne) (by show ¬ (_ = _); omega)) (by decide +kernel) ?_
    refine y_same (i := .aload_n 0) (len := 1) (r := (0, 0, 0, 0)) (pc' := 18) (ls' := [some (.inl (some 52))]) (st' := [.inl (some 52)]) (by decide +kernel) (fun k q => by cases q) rfl ?_
    refine y_get (j := 391) (len := 3) (r := (12, 27, 0, 1355)) (by decide +kernel) hg1959 (t52 hg1959) at52 rfl rfl hv1961 ?_
    refine y_ic (c := 2) (len := 1) (r := (0, 0, 0, 0)) (by decide +kernel) (by decide) (fun y1963 hy1963 => ?_)
    rcases Decidable.em (v1960.toInt ≠ y1963.toInt) with q1964 | q1964
    ·
      refine y_cT (c := .ne) (off := 8) (pc' := 30) (len := 3) (r := (0, 0, 0, 0)) (by decide +kernel) (acmpT (c := .ne) (by show ¬ (_ = _); omega)) (by decide +kernel) ?_
      refine y_same (i := .aload_n 0) (len := 1) (r := (0, 0, 0, 0)) (pc' := 31) (ls' := [some (.inl (some 52))]) (st' := [.inl (some 52)]) (by decide +kernel) (fun k q => by cases q) rfl ?_
      obtain ⟨v1965, hv1966, lv1965, uv1965⟩ := g_int (i := 29) (lo := 0) (hi := 300) hg1959 (t52 hg1959) at52 (by decide) rfl
      refine y_get (j := 385) (len := 3) (r := (12, 29, 0, 1357)) (by decide +kernel) hg1959 (t52 hg1959) at52 rfl rfl hv1966 ?_
      refine y_rI (len := 1) (r := (0, 0, 0, 0)) (nL := 1) (k := 1) (n9 := 1) (hs := []) (by decide +kernel) rfl rfl ?_
      exact ⟨⟨_, hg1959⟩, f1959⟩
    ·
      refine y_cF (c := .ne) (off := 8) (len := 3) (r := (0, 0, 0, 0)) (by decide +kernel) (acmpF (c := .ne) (by show _ = _; omega)) ?_
      refine y_bi (c := (-3)) (len := 2) (r := (0, 0, 0, 0)) (by decide +kernel) (by decide) (fun y1967 hy1967 => ?_)
      refine y_goto (off := 7) (pc' := 34) (len := 3) (r := (0, 0, 0, 0)) (by decide +kernel) (by decide +kernel) ?_
      refine y_rI (len := 1) (r := (0, 0, 0, 0)) (nL := 1) (k := 1) (n9 := 1) (hs := []) (by decide +kernel) rfl rfl ?_
      exact ⟨⟨_, hg1959⟩, f1959⟩
  ·
    refine y_iF (c := .ne) (off := 8) (len := 3) (r := (0, 0, 0, 0)) (by decide +kernel) (acmpF (c := .ne) (by show _ = _; omega)) ?_
    refine y_bi (c := (-2)) (len := 2) (r := (0, 0, 0, 0)) (by decide +kernel) (by decide) (fun y1968 hy1968 => ?_)
    refine y_goto (off := 20) (pc' := 34) (len := 3) (r := (0, 0, 0, 0)) (by decide +kernel) (by decide +kernel) ?_
    refine y_rI (len := 1) (r := (0, 0, 0, 0)) (nL := 1) (k := 1) (n9 := 1) (hs := []) (by decide +kernel) rfl rfl ?_
    exact ⟨⟨_, hg1959⟩, f1959⟩
theorem cm_there {τ : List Nat} {h : zh} {A : Nat} {L : List enT} (p : ∀ (k : Nat) (e : enT), L[k]? = some e → prE τ h A k e) : ∀ k, k < L.length → ∃ a, rfs h A k a := fun k hk => by
  obtain ⟨a, r, -⟩ := p k _ (List.getElem?_eq_getElem hk)
  exact ⟨a, r⟩
theorem jd_JCp {τ : List Nat} {h : zh} {cur : bsT} (o : jdO τ h 35 (prfF cyN true cur)) (ml : kx_ h 35 0 1) : JCp h cur := by
  obtain ⟨hg1, cm1, j5, o8, c6, l6, c2, gr, pE⟩ := o
  exact ⟨cm1, ml, fun _ => ⟨o8, c2, _, l6, c6, cm_there pE⟩⟩
theorem lx_overC {t T : Nat} {τ : List Nat} {h : zh} {cur : bsT} {hs : List bsT} (hg : hG τ h) (i : IV h T) (rc : RC h cur hs) (rm : RM h cur hs) (cz : CZ cur hs) (py : PY cur hs) (kc : KC cur hs) (jc : JCp h cur) (jm : JMp h cur) : ∃ (y : Int32) (h1 : zh) (t1 : Nat), qE 60 145 [some (.inl (some 0))] h t (.inl (some (zi y)), h1, t1) ∧ t1 ≤ t + 0 ∧ ∃ τ1, hG τ1 h1 ∧ IV h1 T ∧ RC h1 cur hs ∧ RM h1 cur hs ∧ JCp h1 cur ∧ JMp h1 cur ∧ y.toInt = ovF (prfF cyN true cur) := by
  have ok := okB_of hg rm py.1 kc.1 cz.1
  obtain ⟨p1, ⟨u, v, hu, l2, b2⟩, -⟩ := id rc
  have key : ∃ (y : Int32) (h1 : zh), qE 60 145 [some (.inl (some 0))] h t (.inl (some (zi y)), h1, t) ∧ y.toInt = ovF (prfF cyN true cur) ∧ JCp h1 cur := by
    obtain ⟨x, ex, lx, ux⟩ := g_int (i := 5) (lo := 0) (hi := 1) hg (tv35 hg) aw35 (by decide) rfl
    rcases (show x.toInt = 0 ∨ x.toInt = 1 by omega) with q | q
    · obtain ⟨y, h1, e, ey, τ1, u1, o1⟩ := qI_le (d' := 60) (by decide) (e_ovz (d := 0) (t := t) hg i.2.2.2.1 jc.1 jc.2.1 hu l2 b2 ok ⟨x, ex, q⟩)
      obtain ⟨F, -⟩ := use_F (okC (mk := 145) (c := ac132) List.mem_cons_self) rfl hg (show aqsM _ _ [.inl (some 0)] from ⟨aqR (t0 hg), trivial⟩) rfl (by decide) e
      exact ⟨y, h1, e, ey, jd_JCp o1 (kx_up jc.2.1 (F 35 35 0 (tv35 hg) (by decide +kernel)))⟩
    · obtain ⟨o8, c2, -⟩ := jc.2.2 ⟨x, ex, q⟩
      obtain ⟨y, h1, e, ey, rfl⟩ := qI_le (d' := 60) (by decide) (e_ovk (d := 0) (t := t) hg i.2.2.2.1 ⟨x, ex, q⟩ o8 c2)
      exact ⟨y, _, e, ey, jc⟩
  obtain ⟨y, h1, e, ey, jc1⟩ := key
  obtain ⟨F, τ1, g1⟩ := use_F (okC (mk := 145) (c := ac132) List.mem_cons_self) rfl hg (show aqsM _ _ [.inl (some 0)] from ⟨aqR (t0 hg), trivial⟩) rfl (by decide) e
  obtain ⟨k1, k2⟩ := kpF_w hg F (by decide +kernel)
  exact ⟨y, h1, t, e, by omega, τ1, g1, IV_kp (kpC_w hg F (by decide +kernel)) (kpM_w hg F (by decide +kernel)) i, RC_w hg F (by decide +kernel) rc, RM_w hg F (by decide +kernel) rm, jc1, JMp_kp k1 k2 jm, ey⟩
theorem pv_JMp {τ : List Nat} {h : zh} {cur : bsT} (o : pvO τ 1 (prfF cyN true cur) h) : JMp h cur := by
  obtain ⟨hg, ip1, iv1, rs, c26, l3, c29, dA, pE⟩ := o
  exact fun _ _ => ⟨rs, c29⟩
/-- many, as the reference tells it: what stands, or anew -/
theorem ovF_b {R : List enT × Nat} (h : dns R.1 ≤ 300) : -3 ≤ ovF R ∧ ovF R ≤ 300 := by
  unfold ovF
  split
  · omega
  · split
    · omega
    · omega
theorem lx_om {t T : Nat} {τ : List Nat} {h : zh} {cur : bsT} {hs : List bsT} (hg : hG τ h) (i : IV h T) (rc : RC h cur hs) (rm : RM h cur hs) (cz : CZ cur hs) (py : PY cur hs) (kc : KC cur hs) (jc : JCp h cur) (jm : JMp h cur) : ∀ h1, hG τ h1 → (∀ k j, (k ≠ 52 ∨ j ≠ 0) → hsl h1 k j = hsl h k j) → qI 10 243 [some (.inl (some 52))] h1 t (fun y h2 => y.toInt = ovF (prfF cyN true cur) ∧ (∃ τ2, hG τ2 h2) ∧ JMp h2 cur ∧ (-3 ≤ y.toInt ∧ y.toInt ≤ 300) ∧ hsl h2 52 0 = hsl h1 52 0) := by
  intro h1 g1 f
  have ok := okB_of hg rm py.1 kc.1 cz.1
  have jm1 : JMp h1 cur := JMp_kp ⟨f 52 27 (by omega), f 52 29 (by omega), f 52 32 (by omega)⟩ (f 52 31 (by omega)) jm
  obtain ⟨x, ex, lx, ux⟩ := g_int (i := 31) (lo := 0) (hi := 1) g1 (t52 g1) at52 (by decide) rfl
  obtain ⟨z, ez, lz, uz⟩ := g_int (i := 32) (lo := 0) (hi := 1) g1 (t52 g1) at52 (by decide) rfl
  have b1 : bsM h1 55 cur := bsM_up rm.1 (fun j => f 55 j (by omega))
  have key : ∃ (y : Int32) (h2 : zh), qE 10 243 [some (.inl (some 52))] h1 t (.inl (some (zi y)), h2, t) ∧ y.toInt = ovF (prfF cyN true cur) ∧ JMp h2 cur ∧ (-3 ≤ y.toInt ∧ y.toInt ≤ 300) := by
    rcases (show (x.toInt = 0 ∨ (x.toInt = 1 ∧ z.toInt = 0)) ∨ (x.toInt = 1 ∧ z.toInt = 1) by omega) with q | ⟨q1, q2⟩
    · have np : kx_ h1 52 31 0 ∨ (kx_ h1 52 31 1 ∧ kx_ h1 52 32 0) := q.elim (fun q => Or.inl ⟨x, ex, q⟩) (fun q => Or.inr ⟨⟨x, ex, q.1⟩, ⟨z, ez, q.2⟩⟩)
      obtain ⟨y, h2, e, ey, o⟩ := m_omz (d := 0) (t := t) g1 b1 ok np
      exact ⟨y, h2, e, ey, pv_JMp o, by rw [ey]; exact ovF_b (Nat.le_trans dns_le o.2.2.2.2.2.1)⟩
    · obtain ⟨o8, c2⟩ := jm1 ⟨x, ex, q1⟩ ⟨z, ez, q2⟩
      obtain ⟨y, h2, e, ey, rfl⟩ := m_omk (d := 0) (t := t) g1 ⟨x, ex, q1⟩ ⟨z, ez, q2⟩ o8 c2
      obtain ⟨w, ew, lw, uw⟩ := g_int (i := 29) (lo := 0) (hi := 300) g1 (t52 g1) at52 (by decide) rfl
      obtain ⟨w2, ew2, ew3⟩ := c2
      have e9 := ew.symm.trans ew2
      cases e9
      exact ⟨y, _, e, ey, jm1, by rw [ey]; exact ovF_b (by omega)⟩
  obtain ⟨y, h2, e, ey, j2, b2⟩ := key
  obtain ⟨g2, f0⟩ := qI_at (qE_le (d' := 14) (by decide) e) (om_z0 g1)
  exact ⟨y, h2, e, ey, g2, j2, b2, f0⟩
theorem lx_overM {t T : Nat} {τ : List Nat} {h : zh} {cur : bsT} {hs : List bsT} (hg : hG τ h) (i : IV h T) (rc : RC h cur hs) (rm : RM h cur hs) (cz : CZ cur hs) (py : PY cur hs) (kc : KC cur hs) (jc : JCp h cur) (jm : JMp h cur) : ∃ (y : Int32) (h1 : zh) (t1 : Nat), qE 60 244 [some (.inl (some 52))] h t (.inl (some (zi y)), h1, t1) ∧ t1 ≤ t + 0 ∧ ∃ τ1, hG τ1 h1 ∧ IV h1 T ∧ RC h1 cur hs ∧ RM h1 cur hs ∧ JCp h1 cur ∧ JMp h1 cur ∧ y.toInt = ovF (prfF cyN true cur) := by
  have om : ∀ h1, hG τ h1 → (∀ k j, (k ≠ 52 ∨ j ≠ 0) → hsl h1 k j = hsl h k j) → qI (0 + 10) 243 [some (.inl (some 52))] h1 t (fun y h2 => y.toInt = ovF (prfF cyN true cur) ∧ JMp h2 cur) := fun h1 g1 f => by
    obtain ⟨y, h2, e, ey, -, jm1, -⟩ := lx_om (t := t) hg i rc rm cz py kc jc jm h1 g1 f
    exact ⟨y, h2, e, ey, jm1⟩
  obtain ⟨y, h1, e, ey, jm1⟩ := qI_le (d' := 60) (by decide) (m_ov (d := 0) (t := t) hg om)
  obtain ⟨F, τ1, g1⟩ := use_F (okC (mk := 244) (c := ac240) List.mem_cons_self) rfl hg (show aqsM _ _ [.inl (some 52)] from ⟨aqR (t52 hg), trivial⟩) rfl (by decide) e
  obtain ⟨k1, k2, k3⟩ := kpP_w hg F (by decide +kernel)
  exact ⟨y, h1, t, e, by omega, τ1, g1, IV_kp (kpC_w hg F (by decide +kernel)) (kpM_w hg F (by decide +kernel)) i, RC_w hg F (by decide +kernel) rc, RM_w hg F (by decide +kernel) rm, JCp_kp k1 k2 k3 jc, jm1, ey⟩
