/-! feed, text, over: with both provers' kept answers -/
theorem jx_feedC {t T : Nat} {τ : List Nat} {h : zh} {xT a1 a2 a3 a4 a5 : Int32} {cur cm : bsT} (hg : hG τ h) (b1 : T ≤ 200) (b2 : T % 20 = 0) (hT : hsl h 0 1 = some (zi xT)) (eT : xT.toInt = (T : Int)) (jc : JCx h cur) (jm : JMx h cm) {y : Int32} {h1 : zh} {t1 : Nat} (e : qE 60 132 [some (.inl (some 0)), some (zi a1), some (zi a2), some (zi a3), some (zi a4), some (zi a5)] h t (.inl (some (zi y)), h1, t1)) : JCx h1 cur ∧ JMx h1 cm := by
  have key : ∃ (y : Int32) (h1 : zh) (t1 : Nat), qE 60 132 [some (.inl (some 0)), some (zi a1), some (zi a2), some (zi a3), some (zi a4), some (zi a5)] h t (.inl (some (zi y)), h1, t1) ∧ (kpV h h1 ∧ hsl h1 28 5 = hsl h 28 5 ∧ hsl h1 35 5 = hsl h 35 5 ∧ hsl h1 52 31 = hsl h 52 31) := by
    rcases (show T = 200 ∨ T + 20 ≤ 200 by omega) with rfl | hT2
    · obtain ⟨y, h1, t1, e1, e2, e3, e4, τ1, g1, F, x, s1, s2⟩ := use_T (t := t) (d := 60) (T := 200) 0 (-1) (-1) 0 (okC (mk := 132) (c := ac327) (List.mem_of_getElem? (i := 11) rfl)) rfl hg (show aqsM _ _ [.inl (some 0), zi a1, zi a2, zi a3, zi a4, zi a5] from ⟨aqR (t0 hg), aqI (qin_full _).1 (qin_full _).2, aqI (qin_full _).1 (qin_full _).2, aqI (qin_full _).1 (qin_full _).2, aqI (qin_full _).1 (qin_full _).2, aqI (qin_full _).1 (qin_full _).2, trivial⟩) (l0 := [some (.inl (some 0)), some (zi a1), some (zi a2), some (zi a3), some (zi a4), some (zi a5)]) rfl (by decide) (t0 hg) hT eT (by decide +kernel) (by decide)
      exact ⟨y, h1, t1, e1, kpV_w hg F (by decide +kernel), F 28 28 5 (tv28 hg) (by decide +kernel), F 35 35 5 (tv35 hg) (by decide +kernel), F 52 52 31 (t52 hg) (by decide +kernel)⟩
    · obtain ⟨y, h1, e, τ1, O, x1, f⟩ := c_feed (t := t) (a1 := a1) (a2 := a2) (a3 := a3) (a4 := a4) (a5 := a5) hg hT eT hT2
      exact ⟨y, h1, t, e, ⟨⟨fun k9 => O.2.2 29 29 k9 (tv29 hg) (show (29 ≠ 0 ∨ k9 ≠ 1) ∧ (29 ≠ 1 ∨ k9 < T ∨ T + 20 ≤ k9) by omega), fun k9 => O.2.2 36 36 k9 (tv36 hg) (show (36 ≠ 0 ∨ k9 ≠ 1) ∧ (36 ≠ 1 ∨ k9 < T ∨ T + 20 ≤ k9) by omega), O.2.2 28 28 0 (tv28 hg) (show (28 ≠ 0 ∨ 0 ≠ 1) ∧ (28 ≠ 1 ∨ 0 < T ∨ T + 20 ≤ 0) by omega), O.2.2 35 35 0 (tv35 hg) (show (35 ≠ 0 ∨ 0 ≠ 1) ∧ (35 ≠ 1 ∨ 0 < T ∨ T + 20 ≤ 0) by omega), O.2.2 28 28 6 (tv28 hg) (show (28 ≠ 0 ∨ 6 ≠ 1) ∧ (28 ≠ 1 ∨ 6 < T ∨ T + 20 ≤ 6) by omega), O.2.2 35 35 6 (tv35 hg) (show (35 ≠ 0 ∨ 6 ≠ 1) ∧ (35 ≠ 1 ∨ 6 < T ∨ T + 20 ≤ 6) by omega), O.2.2 35 35 8 (tv35 hg) (show (35 ≠ 0 ∨ 8 ≠ 1) ∧ (35 ≠ 1 ∨ 8 < T ∨ T + 20 ≤ 8) by omega), O.2.2 38 38 2 (tv38 hg) (show (38 ≠ 0 ∨ 2 ≠ 1) ∧ (38 ≠ 1 ∨ 2 < T ∨ T + 20 ≤ 2) by omega)⟩, kpS_o hg (fun k T9 j hk hC _ => O.2.2 k T9 j hk (show (k ≠ 0 ∨ j ≠ 1) ∧ (k ≠ 1 ∨ j < T ∨ T + 20 ≤ j) by omega)), ⟨fun j9 => O.2.2 373 373 j9 (tu373 hg) (show (373 ≠ 0 ∨ j9 ≠ 1) ∧ (373 ≠ 1 ∨ j9 < T ∨ T + 20 ≤ j9) by omega), fun j9 => O.2.2 377 377 j9 (tu377 hg) (show (377 ≠ 0 ∨ j9 ≠ 1) ∧ (377 ≠ 1 ∨ j9 < T ∨ T + 20 ≤ j9) by omega), fun k9 j9 hk9 => O.2.2 (71 + k9) 1012 j9 (tuR hg hk9) (show ((71 + k9) ≠ 0 ∨ j9 ≠ 1) ∧ ((71 + k9) ≠ 1 ∨ j9 < T ∨ T + 20 ≤ j9) by omega), O.2.2 52 52 26 (t52 hg) (show (52 ≠ 0 ∨ 26 ≠ 1) ∧ (52 ≠ 1 ∨ 26 < T ∨ T + 20 ≤ 26) by omega), O.2.2 52 52 27 (t52 hg) (show (52 ≠ 0 ∨ 27 ≠ 1) ∧ (52 ≠ 1 ∨ 27 < T ∨ T + 20 ≤ 27) by omega), O.2.2 52 52 29 (t52 hg) (show (52 ≠ 0 ∨ 29 ≠ 1) ∧ (52 ≠ 1 ∨ 29 < T ∨ T + 20 ≤ 29) by omega), O.2.2 52 52 32 (t52 hg) (show (52 ≠ 0 ∨ 32 ≠ 1) ∧ (52 ≠ 1 ∨ 32 < T ∨ T + 20 ≤ 32) by omega)⟩⟩, O.2.2 28 28 5 (tv28 hg) (show (28 ≠ 0 ∨ 5 ≠ 1) ∧ (28 ≠ 1 ∨ 5 < T ∨ T + 20 ≤ 5) by omega), O.2.2 35 35 5 (tv35 hg) (show (35 ≠ 0 ∨ 5 ≠ 1) ∧ (35 ≠ 1 ∨ 5 < T ∨ T + 20 ≤ 5) by omega), O.2.2 52 52 31 (t52 hg) (show (52 ≠ 0 ∨ 31 ≠ 1) ∧ (52 ≠ 1 ∨ 31 < T ∨ T + 20 ≤ 31) by omega)⟩
  obtain ⟨y', h', t', e', ⟨k1, k2, k3⟩, k4, k5, k6⟩ := key
  have e9 := qE_det e e'
  cases e9
  exact ⟨JCx_kp k1 k2 (Or.inl k5) (Or.inl k4) jc, JMx_kp k3 k6 jm⟩
theorem jx_feedM {t T : Nat} {τ : List Nat} {h : zh} {xT a1 a2 a3 a4 a5 : Int32} {cur cm : bsT} (hg : hG τ h) (b1 : T ≤ 200) (b2 : T % 20 = 0) (hT : hsl h 52 2 = some (zi xT)) (eT : xT.toInt = (T : Int)) (jc : JCx h cur) (jm : JMx h cm) {y : Int32} {h1 : zh} {t1 : Nat} (e : qE 60 165 [some (.inl (some 52)), some (zi a1), some (zi a2), some (zi a3), some (zi a4), some (zi a5), none, none] h t (.inl (some (zi y)), h1, t1)) : JCx h1 cur ∧ JMx h1 cm := by
  have key : ∃ (y : Int32) (h1 : zh) (t1 : Nat), qE 60 165 [some (.inl (some 52)), some (zi a1), some (zi a2), some (zi a3), some (zi a4), some (zi a5), none, none] h t (.inl (some (zi y)), h1, t1) ∧ (kpV h h1 ∧ hsl h1 28 5 = hsl h 28 5 ∧ hsl h1 35 5 = hsl h 35 5 ∧ hsl h1 52 31 = hsl h 52 31) := by
    rcases (show T = 200 ∨ T + 20 ≤ 200 by omega) with rfl | hT2
    · obtain ⟨y, h1, t1, e1, e2, e3, e4, τ1, g1, F, x, s1, s2⟩ := use_T (t := t) (d := 60) (T := 200) 0 (-1) (-1) 0 (okC (mk := 165) (c := ac371) (List.mem_of_getElem? (i := 11) rfl)) rfl hg (show aqsM _ _ [.inl (some 52), zi a1, zi a2, zi a3, zi a4, zi a5] from ⟨aqR (t52 hg), aqI (qin_full _).1 (qin_full _).2, aqI (qin_full _).1 (qin_full _).2, aqI (qin_full _).1 (qin_full _).2, aqI (qin_full _).1 (qin_full _).2, aqI (qin_full _).1 (qin_full _).2, trivial⟩) (l0 := [some (.inl (some 52)), some (zi a1), some (zi a2), some (zi a3), some (zi a4), some (zi a5), none, none]) rfl (by decide) (t52 hg) hT eT (by decide +kernel) (by decide)
      exact ⟨y, h1, t1, e1, kpV_w hg F (by decide +kernel), F 28 28 5 (tv28 hg) (by decide +kernel), F 35 35 5 (tv35 hg) (by decide +kernel), F 52 52 31 (t52 hg) (by decide +kernel)⟩
    · obtain ⟨y, h1, e, τ1, O, x1, f⟩ := m_feed (t := t) (a1 := a1) (a2 := a2) (a3 := a3) (a4 := a4) (a5 := a5) hg hT eT hT2
      exact ⟨y, h1, t, e, ⟨⟨fun k9 => O.2.2 29 29 k9 (tv29 hg) (show (29 ≠ 52 ∨ (k9 ≠ 0 ∧ k9 ≠ 2)) ∧ (29 ≠ 54 ∨ k9 < T ∨ T + 20 ≤ k9) by omega), fun k9 => O.2.2 36 36 k9 (tv36 hg) (show (36 ≠ 52 ∨ (k9 ≠ 0 ∧ k9 ≠ 2)) ∧ (36 ≠ 54 ∨ k9 < T ∨ T + 20 ≤ k9) by omega), O.2.2 28 28 0 (tv28 hg) (show (28 ≠ 52 ∨ (0 ≠ 0 ∧ 0 ≠ 2)) ∧ (28 ≠ 54 ∨ 0 < T ∨ T + 20 ≤ 0) by omega), O.2.2 35 35 0 (tv35 hg) (show (35 ≠ 52 ∨ (0 ≠ 0 ∧ 0 ≠ 2)) ∧ (35 ≠ 54 ∨ 0 < T ∨ T + 20 ≤ 0) by omega), O.2.2 28 28 6 (tv28 hg) (show (28 ≠ 52 ∨ (6 ≠ 0 ∧ 6 ≠ 2)) ∧ (28 ≠ 54 ∨ 6 < T ∨ T + 20 ≤ 6) by omega), O.2.2 35 35 6 (tv35 hg) (show (35 ≠ 52 ∨ (6 ≠ 0 ∧ 6 ≠ 2)) ∧ (35 ≠ 54 ∨ 6 < T ∨ T + 20 ≤ 6) by omega), O.2.2 35 35 8 (tv35 hg) (show (35 ≠ 52 ∨ (8 ≠ 0 ∧ 8 ≠ 2)) ∧ (35 ≠ 54 ∨ 8 < T ∨ T + 20 ≤ 8) by omega), O.2.2 38 38 2 (tv38 hg) (show (38 ≠ 52 ∨ (2 ≠ 0 ∧ 2 ≠ 2)) ∧ (38 ≠ 54 ∨ 2 < T ∨ T + 20 ≤ 2) by omega)⟩, kpS_o hg (fun k T9 j hk hC _ => O.2.2 k T9 j hk (show (k ≠ 52 ∨ (j ≠ 0 ∧ j ≠ 2)) ∧ (k ≠ 54 ∨ j < T ∨ T + 20 ≤ j) by omega)), ⟨fun j9 => O.2.2 373 373 j9 (tu373 hg) (show (373 ≠ 52 ∨ (j9 ≠ 0 ∧ j9 ≠ 2)) ∧ (373 ≠ 54 ∨ j9 < T ∨ T + 20 ≤ j9) by omega), fun j9 => O.2.2 377 377 j9 (tu377 hg) (show (377 ≠ 52 ∨ (j9 ≠ 0 ∧ j9 ≠ 2)) ∧ (377 ≠ 54 ∨ j9 < T ∨ T + 20 ≤ j9) by omega), fun k9 j9 hk9 => O.2.2 (71 + k9) 1012 j9 (tuR hg hk9) (show ((71 + k9) ≠ 52 ∨ (j9 ≠ 0 ∧ j9 ≠ 2)) ∧ ((71 + k9) ≠ 54 ∨ j9 < T ∨ T + 20 ≤ j9) by omega), O.2.2 52 52 26 (t52 hg) (show (52 ≠ 52 ∨ (26 ≠ 0 ∧ 26 ≠ 2)) ∧ (52 ≠ 54 ∨ 26 < T ∨ T + 20 ≤ 26) by omega), O.2.2 52 52 27 (t52 hg) (show (52 ≠ 52 ∨ (27 ≠ 0 ∧ 27 ≠ 2)) ∧ (52 ≠ 54 ∨ 27 < T ∨ T + 20 ≤ 27) by omega), O.2.2 52 52 29 (t52 hg) (show (52 ≠ 52 ∨ (29 ≠ 0 ∧ 29 ≠ 2)) ∧ (52 ≠ 54 ∨ 29 < T ∨ T + 20 ≤ 29) by omega), O.2.2 52 52 32 (t52 hg) (show (52 ≠ 52 ∨ (32 ≠ 0 ∧ 32 ≠ 2)) ∧ (52 ≠ 54 ∨ 32 < T ∨ T + 20 ≤ 32) by omega)⟩⟩, O.2.2 28 28 5 (tv28 hg) (show (28 ≠ 52 ∨ (5 ≠ 0 ∧ 5 ≠ 2)) ∧ (28 ≠ 54 ∨ 5 < T ∨ T + 20 ≤ 5) by omega), O.2.2 35 35 5 (tv35 hg) (show (35 ≠ 52 ∨ (5 ≠ 0 ∧ 5 ≠ 2)) ∧ (35 ≠ 54 ∨ 5 < T ∨ T + 20 ≤ 5) by omega), O.2.2 52 52 31 (t52 hg) (show (52 ≠ 52 ∨ (31 ≠ 0 ∧ 31 ≠ 2)) ∧ (52 ≠ 54 ∨ 31 < T ∨ T + 20 ≤ 31) by omega)⟩
  obtain ⟨y', h', t', e', ⟨k1, k2, k3⟩, k4, k5, k6⟩ := key
  have e9 := qE_det e e'
  cases e9
  exact ⟨JCx_kp k1 k2 (Or.inl k5) (Or.inl k4) jc, JMx_kp k3 k6 jm⟩
theorem IZ_text {h h1 h2 : zh} {T : Nat} {xn yc ym : Int32} {cur : bsT} {hs : List bsT} (i : IV h T) (cz : CZ cur hs) (py : PY cur hs) (kc9 : KC cur hs) (c : txC2 h h1 T xn cur hs yc) (m : txM2 h h1 h2 T xn cur hs ym) (jc : jtX h h1 T xn cur) (jm : (∀ c', JCx h1 c' → JCx h2 c') ∧ jtY h h2 T xn cur) : IZ h2 ∧ (∃ x : Int32, hsl h2 52 0 = some (zi x) ∧ x.toInt = yc.toInt) ∧ (yc.toInt = 0 → ou_ h2 ym) := by
  obtain ⟨km, -, c⟩ := c
  obtain ⟨kc, k388, krc, m⟩ := m
  obtain ⟨ju, jm⟩ := jm
  rcases c with ⟨q, c, rc, ey⟩ | ⟨n, e1, e2, al1, c5, ⟨x1, z1, z2⟩, ⟨x2, z3, z4⟩, rc, ey, z, hz, ez⟩
  · rcases m with ⟨-, m, rm, x, t1, t2⟩ | ⟨n, e1, e2, -⟩
    · rcases jc with ⟨-, jc⟩ | ⟨n, e1, e2, -⟩
      · rcases jm with ⟨-, jm⟩ | ⟨n, e1, e2, -⟩
        · exact ⟨⟨T, cur, hs, IV_kp kc m (IV_kp c km i), krc _ _ rc, rm, cz, py, kc9, ju _ jc, jm⟩, ⟨x, t1, by omega⟩, fun q9 => by omega⟩
        · omega
      · omega
    · omega
  · rcases m with ⟨q, -⟩ | ⟨n', e1', e2', ⟨y1, w1, w2⟩, ⟨y2, w3, w4⟩, ⟨x, t1, t2⟩, rm, ktx⟩
    · omega
    · have hn : n' = n := by omega
      subst hn
      have hx : x2 = y2 := Int32.toInt_inj.mp (by rw [z4, w4])
      subst hx
      obtain ⟨k1, k2, k3, k4, k5⟩ := kc
      rcases jc with ⟨q, -⟩ | ⟨n3, e3, -, jc⟩
      · omega
      · rcases jm with ⟨q, -⟩ | ⟨n4, e4, -, jm⟩
        · omega
        · obtain rfl : n3 = n' := by omega
          obtain rfl : n4 = n3 := by omega
          refine ⟨⟨0, _, _, ⟨by omega, rfl, k4 al1, k5.trans (c5.trans i.2.2.2.1), ⟨x1, k2.trans z1, z2⟩, ⟨y1, w1, w2⟩, fun j hj => absurd hj (Nat.not_lt_zero j), x2, k3.trans z3, w3⟩, krc _ _ rc, rm, CZ_text cz, PY_text py, KC_text kc9, ju _ jc, jm⟩, ⟨x, t1, by omega⟩, fun _ => ?_⟩
          rw [txA_eq ktx ez]
          exact k388.trans hz
def z29 (h : zh) (b : Nat) : Prop := ∃ k, k < 300 ∧ rfs h 29 k b
def z36 (h : zh) (b : Nat) : Prop := ∃ k, k < 300 ∧ rfs h 36 k b
theorem z29_0 {τ : List Nat} {h : zh} (hg : hG τ h) (j : JCb h) : zI (z29 h) τ h h 36 := fun b ⟨k, hk, r⟩ => by
  rcases j.1.1 k hk with e | ⟨a, r', g, l⟩
  · have e9 := r.symm.trans e
    cases e9
  · have e8 := rfs_eq r r'
    subst e8
    obtain ⟨v, e, q⟩ := g_slot29 (i := k) hg hk
    have e9 : some (.inl (some b)) = some v := r.symm.trans e
    cases e9
    rcases q with q | ⟨b', q, ty⟩
    · cases q
    · cases q
      exact ⟨g, tyQ_of hg ty l, fun k' hk' r2 => j.2.2.1 k k' b hk hk' r r2, fun _ _ _ _ => rfl⟩
theorem z36_0 {τ : List Nat} {h : zh} (hg : hG τ h) (j : JCb h) : zI (z36 h) τ h h 29 := fun b ⟨k, hk, r⟩ => by
  rcases j.2.1.1 k hk with e | ⟨a, r', g, l⟩
  · have e9 := r.symm.trans e
    cases e9
  · have e8 := rfs_eq r r'
    subst e8
    obtain ⟨v, e, q⟩ := g_slot36 (i := k) hg hk
    have e9 : some (.inl (some b)) = some v := r.symm.trans e
    cases e9
    rcases q with q | ⟨b', q, ty⟩
    · cases q
    · cases q
      exact ⟨g, tyQ_of hg ty l, fun k' hk' r2 => j.2.2.1 k' k b hk' hk r2 r, fun _ _ _ _ => rfl⟩
theorem jdx35 {τ1 : List Nat} {h h1 : zh} {cur : bsT} (jc : JCx h cur) (o : jdZ (z29 h) h τ1 h1 35 (prfF cyN true cur)) (F29 : ∀ k, hsl h1 29 k = hsl h 29 k) (f0 : hsl h1 28 0 = hsl h 28 0) (f5 : hsl h1 28 5 = hsl h 28 5) (f6 : hsl h1 28 6 = hsl h 28 6) (g0 : hsl h1 35 0 = hsl h 35 0) : JCx h1 cur := by
  obtain ⟨⟨hg1, cm1, j5, o8, c6, l6, c2, gr, pE⟩, z⟩ := o
  have S : ∀ a, 388 < a → laQ h a → (∃ k, k < 300 ∧ rfs h 29 k a) → ∀ k j, a ≤ k → k < a + 9 → hsl h1 k j = hsl h k j := fun a _ _ q => (z a q).2.2.2
  refine ⟨⟨cmI_x jc.1.1 F29 S, cm1, fun k k' a hk hk' r r' => (z a ⟨k, hk, rfs_up r (F29 k).symm⟩).2.2.1 k' hk' r', kx_up jc.1.2.2.2.1 f0, kx_up jc.1.2.2.2.2 g0⟩, fun q => en28_x (jc.2.1 (ci_up q f5.symm)) F29 f6 S, fun _ => ⟨o8, c2, c6, l6, fun k e hk => ?_⟩⟩
  obtain ⟨a, r, g, L, c4, -, -, q, -⟩ := pE k e hk
  exact ⟨a, r, g, L.2.2, c4, fun n => ⟨(q n).2.2.2.1, (q n).2.2.2.2⟩⟩
theorem jdx28 {τ1 : List Nat} {h h1 : zh} {cur : bsT} (jc : JCx h cur) (o : jdZ (z36 h) h τ1 h1 28 (prfF cyP false cur)) (F36 : ∀ k, hsl h1 36 k = hsl h 36 k) (f0 : hsl h1 28 0 = hsl h 28 0) (g0 : hsl h1 35 0 = hsl h 35 0) (g5 : hsl h1 35 5 = hsl h 35 5) (g6 : hsl h1 35 6 = hsl h 35 6) (g8 : hsl h1 35 8 = hsl h 35 8) (g2 : hsl h1 38 2 = hsl h 38 2) : JCx h1 cur := by
  obtain ⟨⟨hg1, cm1, j5, o8, c6, l6, c2, gr, pE⟩, z⟩ := o
  have S : ∀ a, 388 < a → laQ h a → (∃ k, k < 300 ∧ rfs h 36 k a) → ∀ k j, a ≤ k → k < a + 9 → hsl h1 k j = hsl h k j := fun a _ _ q => (z a q).2.2.2
  refine ⟨⟨cm1, cmI_x jc.1.2.1 F36 S, fun k k' a hk hk' r r' => (z a ⟨k', hk', rfs_up r' (F36 k').symm⟩).2.2.1 k hk r, kx_up jc.1.2.2.2.1 f0, kx_up jc.1.2.2.2.2 g0⟩, fun _ => ⟨c6, l6, fun k e hk => ?_⟩, fun q => ?_⟩
  · obtain ⟨a, r, g, L, c4, -⟩ := pE k e hk
    exact ⟨a, r, g, L.2.2, c4⟩
  · obtain ⟨a, b, c⟩ := jc.2.2 (ci_up q g5.symm)
    exact ⟨kx_up a g8, ci_up b g2, en35_x c F36 g6 S⟩
theorem k01 {h : zh} {a j : Nat} (x : kx_ h a j 0) (y : kx_ h a j 1) : False := by
  obtain ⟨u, e1, e2⟩ := x
  obtain ⟨v, e3, e4⟩ := y
  have e5 := e1.symm.trans e3
  cases e5
  omega
theorem pv_JMx1 {τ : List Nat} {h : zh} {cur : bsT} (o : pvO τ 1 (prfF cyN true cur) h) : JMx h cur := by
  obtain ⟨hg, ip1, iv1, rs, c26, l3, c29, dA, pE⟩ := o
  exact fun _ => ⟨fun z => (k01 z iv1).elim, fun _ => ⟨rs, c29, l3, dA, fun k e hk n => ⟨((pE k e hk).2.2.2.1 n).2.2.1, ((pE k e hk).2.2.2.1 n).2.2.2⟩⟩⟩
theorem pv_JMx0 {τ : List Nat} {h : zh} {cur : bsT} (o : pvO τ 0 (prfF cyP false cur) h) : JMx h cur := by
  obtain ⟨hg, ip1, iv1, rs, c26, l3, c29, dA, pE⟩ := o
  exact fun _ => ⟨fun _ => ⟨c26, l3, fun k e hk => (pE k e hk).1⟩, fun z => (k01 iv1 z).elim⟩
theorem lz_overC {t T : Nat} {τ : List Nat} {h : zh} {cur : bsT} {hs : List bsT} (hg : hG τ h) (i : IV h T) (rc : RC h cur hs) (rm : RM h cur hs) (cz : CZ cur hs) (py : PY cur hs) (kc : KC cur hs) (jc : JCx h cur) (jm : JMx h cur) : ∃ (y : Int32) (h1 : zh) (t1 : Nat), qE 60 145 [some (.inl (some 0))] h t (.inl (some (zi y)), h1, t1) ∧ t1 ≤ t + 0 ∧ ∃ τ1, hG τ1 h1 ∧ IV h1 T ∧ RC h1 cur hs ∧ RM h1 cur hs ∧ JCx h1 cur ∧ JMx h1 cur ∧ y.toInt = ovF (prfF cyN true cur) := by
  have ok := okB_of hg rm py.1 kc.1 cz.1
  obtain ⟨p1, ⟨u, v, hu, l2, b2⟩, -⟩ := id rc
  have key : ∃ (y : Int32) (h1 : zh), qE 60 145 [some (.inl (some 0))] h t (.inl (some (zi y)), h1, t) ∧ y.toInt = ovF (prfF cyN true cur) ∧ JCx h1 cur := by
    obtain ⟨x, ex, lx, ux⟩ := g_int (i := 5) (lo := 0) (hi := 1) hg (tv35 hg) aw35 (by decide) rfl
    rcases (show x.toInt = 0 ∨ x.toInt = 1 by omega) with q | q
    · obtain ⟨y, h1, e, ey, τ1, u1, o1⟩ := qI_le (d' := 60) (by decide) (e_ovh (Z := z29 h) (d := 0) (t := t) hg i.2.2.2.1 jc.1.2.1 jc.1.2.2.2.2 hu l2 b2 ok ⟨x, ex, q⟩ (z29_0 hg jc.1))
      obtain ⟨F, -⟩ := use_F (okC (mk := 145) (c := ac132) List.mem_cons_self) rfl hg (show aqsM _ _ [.inl (some 0)] from ⟨aqR (t0 hg), trivial⟩) rfl (by decide) e
      exact ⟨y, h1, e, ey, jdx35 jc o1 (fun k => F 29 29 k (tv29 hg) (wlN_ok (by decide +kernel))) (F 28 28 0 (tv28 hg) (by decide +kernel)) (F 28 28 5 (tv28 hg) (by decide +kernel)) (F 28 28 6 (tv28 hg) (by decide +kernel)) (F 35 35 0 (tv35 hg) (by decide +kernel))⟩
    · obtain ⟨o8, c2, -⟩ := jc.2.2 ⟨x, ex, q⟩
      obtain ⟨y, h1, e, ey, rfl⟩ := qI_le (d' := 60) (by decide) (e_ovk (d := 0) (t := t) hg i.2.2.2.1 ⟨x, ex, q⟩ o8 c2)
      exact ⟨y, _, e, ey, jc⟩
  obtain ⟨y, h1, e, ey, jc1⟩ := key
  obtain ⟨F, τ1, g1⟩ := use_F (okC (mk := 145) (c := ac132) List.mem_cons_self) rfl hg (show aqsM _ _ [.inl (some 0)] from ⟨aqR (t0 hg), trivial⟩) rfl (by decide) e
  exact ⟨y, h1, t, e, by omega, τ1, g1, IV_kp (kpC_w hg F (by decide +kernel)) (kpM_w hg F (by decide +kernel)) i, RC_w hg F (by decide +kernel) rc, RM_w hg F (by decide +kernel) rm, jc1, JMx_kp (kpY_w hg F (by decide +kernel)) (F 52 52 31 (t52 hg) (by decide +kernel)) jm, ey⟩
theorem lz_om {t T : Nat} {τ : List Nat} {h : zh} {cur : bsT} {hs : List bsT} (hg : hG τ h) (i : IV h T) (rc : RC h cur hs) (rm : RM h cur hs) (cz : CZ cur hs) (py : PY cur hs) (kc : KC cur hs) (jc : JCx h cur) (jm : JMx h cur) : ∀ h1, hG τ h1 → (∀ k j, (k ≠ 52 ∨ j ≠ 0) → hsl h1 k j = hsl h k j) → qI 10 243 [some (.inl (some 52))] h1 t (fun y h2 => y.toInt = ovF (prfF cyN true cur) ∧ (∃ τ2, hG τ2 h2) ∧ JMx h2 cur ∧ (-3 ≤ y.toInt ∧ y.toInt ≤ 300) ∧ hsl h2 52 0 = hsl h1 52 0) := by
  intro h1 g1 f
  have ok := okB_of hg rm py.1 kc.1 cz.1
  have jm1 : JMx h1 cur := JMx_kp ⟨fun j => f 373 j (by omega), fun j => f 377 j (by omega), fun k j hk => f (71 + k) j (by omega), f 52 26 (by omega), f 52 27 (by omega), f 52 29 (by omega), f 52 32 (by omega)⟩ (f 52 31 (by omega)) jm
  obtain ⟨x, ex, lx, ux⟩ := g_int (i := 31) (lo := 0) (hi := 1) g1 (t52 g1) at52 (by decide) rfl
  obtain ⟨z, ez, lz, uz⟩ := g_int (i := 32) (lo := 0) (hi := 1) g1 (t52 g1) at52 (by decide) rfl
  have b1 : bsM h1 55 cur := bsM_up rm.1 (fun j => f 55 j (by omega))
  have key : ∃ (y : Int32) (h2 : zh), qE 10 243 [some (.inl (some 52))] h1 t (.inl (some (zi y)), h2, t) ∧ y.toInt = ovF (prfF cyN true cur) ∧ JMx h2 cur ∧ (-3 ≤ y.toInt ∧ y.toInt ≤ 300) := by
    rcases (show (x.toInt = 0 ∨ (x.toInt = 1 ∧ z.toInt = 0)) ∨ (x.toInt = 1 ∧ z.toInt = 1) by omega) with q | ⟨q1, q2⟩
    · have np : kx_ h1 52 31 0 ∨ (kx_ h1 52 31 1 ∧ kx_ h1 52 32 0) := q.elim (fun q => Or.inl ⟨x, ex, q⟩) (fun q => Or.inr ⟨⟨x, ex, q.1⟩, ⟨z, ez, q.2⟩⟩)
      obtain ⟨y, h2, e, ey, o⟩ := m_omz (d := 0) (t := t) g1 b1 ok np
      exact ⟨y, h2, e, ey, pv_JMx1 o, by rw [ey]; exact ovF_b (Nat.le_trans dns_le o.2.2.2.2.2.1)⟩
    · obtain ⟨o8, c2, -⟩ := (jm1 ⟨x, ex, q1⟩).2 ⟨z, ez, q2⟩
      obtain ⟨y, h2, e, ey, rfl⟩ := m_omk (d := 0) (t := t) g1 ⟨x, ex, q1⟩ ⟨z, ez, q2⟩ o8 c2
      obtain ⟨w, ew, lw, uw⟩ := g_int (i := 29) (lo := 0) (hi := 300) g1 (t52 g1) at52 (by decide) rfl
      obtain ⟨w2, ew2, ew3⟩ := c2
      have e9 := ew.symm.trans ew2
      cases e9
      exact ⟨y, _, e, ey, jm1, by rw [ey]; exact ovF_b (by omega)⟩
  obtain ⟨y, h2, e, ey, j2, b2⟩ := key
  obtain ⟨g2, f0⟩ := qI_at (qE_le (d' := 14) (by decide) e) (om_z0 g1)
  exact ⟨y, h2, e, ey, g2, j2, b2, f0⟩
theorem lz_overM {t T : Nat} {τ : List Nat} {h : zh} {cur : bsT} {hs : List bsT} (hg : hG τ h) (i : IV h T) (rc : RC h cur hs) (rm : RM h cur hs) (cz : CZ cur hs) (py : PY cur hs) (kc : KC cur hs) (jc : JCx h cur) (jm : JMx h cur) : ∃ (y : Int32) (h1 : zh) (t1 : Nat), qE 60 244 [some (.inl (some 52))] h t (.inl (some (zi y)), h1, t1) ∧ t1 ≤ t + 0 ∧ ∃ τ1, hG τ1 h1 ∧ IV h1 T ∧ RC h1 cur hs ∧ RM h1 cur hs ∧ JCx h1 cur ∧ JMx h1 cur ∧ y.toInt = ovF (prfF cyN true cur) := by
  have om : ∀ h1, hG τ h1 → (∀ k j, (k ≠ 52 ∨ j ≠ 0) → hsl h1 k j = hsl h k j) → qI (0 + 10) 243 [some (.inl (some 52))] h1 t (fun y h2 => y.toInt = ovF (prfF cyN true cur) ∧ JMx h2 cur) := fun h1 g1 f => by
    obtain ⟨y, h2, e, ey, -, jm1, -⟩ := lz_om (t := t) hg i rc rm cz py kc jc jm h1 g1 f
    exact ⟨y, h2, e, ey, jm1⟩
  obtain ⟨y, h1, e, ey, jm1⟩ := qI_le (d' := 60) (by decide) (m_ov (d := 0) (t := t) hg om)
  obtain ⟨F, τ1, g1⟩ := use_F (okC (mk := 244) (c := ac240) List.mem_cons_self) rfl hg (show aqsM _ _ [.inl (some 52)] from ⟨aqR (t52 hg), trivial⟩) rfl (by decide) e
  obtain ⟨k1, k2⟩ := kpX_w hg F (by decide +kernel)
  exact ⟨y, h1, t, e, by omega, τ1, g1, IV_kp (kpC_w hg F (by decide +kernel)) (kpM_w hg F (by decide +kernel)) i, RC_w hg F (by decide +kernel) rc, RM_w hg F (by decide +kernel) rm, JCx_kp k1 k2 (Or.inl (F 35 35 5 (tv35 hg) (by decide +kernel))) (Or.inl (F 28 28 5 (tv28 hg) (by decide +kernel))) jc, jm1, ey⟩
