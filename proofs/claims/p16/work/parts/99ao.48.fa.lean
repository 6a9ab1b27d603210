/-! the provers' flags, lowered by an act -/
theorem c_forgP {d t : Nat} {τ : List Nat} {h : zh} (hg : hG τ h) : qV (d + 1) 154 [some (.inl (some 0))] h t (fun h1 => hG τ h1 ∧ (∀ k j, ((k ≠ 28 ∧ k ≠ 35 ∧ k ≠ 42) ∨ j ≠ 5) → hsl h1 k j = hsl h k j) ∧ ci_ h1 35 5 0) := by
  refine qV_of ?_
  refine y_same (i := .aload_n 0) (len := 1) (r := (0, 0, 0, 0)) (pc' := 1) (ls' := [some (.inl (some 0))]) (st' := [.inl (some 0)]) (by decide +kernel) (fun k q => by cases q) rfl ?_
  refine y_get (j := 52) (len := 3) (r := (11, 8, 2, 407)) (by decide +kernel) hg (tv0 hg) aw0 rfl rfl (g_rU (f := 8) (T2 := 28) hg (tv0 hg) aw0 rfl (by decide)) ?_
  refine y_ic (c := 0) (len := 1) (r := (0, 0, 0, 0)) (by decide +kernel) (by decide) (fun y3352 hy3352 => ?_)
  refine y_put (j := 238) (lo := 0) (hi := 1) (len := 3) (r := (4, 5, 1, 20288)) (by decide +kernel) hg (tv28 hg) aw28 rfl rfl (by decide) rfl (by omega) (by omega) (zfit_b (by omega) (by omega)).1 (fun h3353 hg3353 hl3353 hs3353 ho3353 => ?_)
  have ho3353 : hO 28 5 h h3353 := ho3353
  have hs3353 : hsl h3353 28 5 = some (zi y3352) := hs3353
  refine y_same (i := .aload_n 0) (len := 1) (r := (0, 0, 0, 0)) (pc' := 9) (ls' := [some (.inl (some 0))]) (st' := [.inl (some 0)]) (by decide +kernel) (fun k q => by cases q) rfl ?_
  refine y_get (j := 56) (len := 3) (r := (11, 9, 2, 408)) (by decide +kernel) hg3353 (tv0 hg3353) aw0 rfl rfl (g_rU (f := 9) (T2 := 35) hg3353 (tv0 hg3353) aw0 rfl (by decide)) ?_
  refine y_ic (c := 0) (len := 1) (r := (0, 0, 0, 0)) (by decide +kernel) (by decide) (fun y3354 hy3354 => ?_)
  refine y_put (j := 238) (lo := 0) (hi := 1) (len := 3) (r := (4, 5, 1, 20288)) (by decide +kernel) hg3353 (tv35 hg3353) aw35 rfl rfl (by decide) rfl (by omega) (by omega) (zfit_b (by omega) (by omega)).1 (fun h3355 hg3355 hl3355 hs3355 ho3355 => ?_)
  have ho3355 : hO 35 5 h3353 h3355 := ho3355
  have hs3355 : hsl h3355 35 5 = some (zi y3354) := hs3355
  refine y_same (i := .aload_n 0) (len := 1) (r := (0, 0, 0, 0)) (pc' := 17) (ls' := [some (.inl (some 0))]) (st' := [.inl (some 0)]) (by decide +kernel) (fun k q => by cases q) rfl ?_
  refine y_get (j := 62) (len := 3) (r := (11, 10, 2, 409)) (by decide +kernel) hg3355 (tv0 hg3355) aw0 rfl rfl (g_rU (f := 10) (T2 := 42) hg3355 (tv0 hg3355) aw0 rfl (by decide)) ?_
  refine y_ic (c := 0) (len := 1) (r := (0, 0, 0, 0)) (by decide +kernel) (by decide) (fun y3356 hy3356 => ?_)
  refine y_put (j := 242) (lo := 0) (hi := 1) (len := 3) (r := (10, 5, 1, 20365)) (by decide +kernel) hg3355 (tv42 hg3355) aw42 rfl rfl (by decide) rfl (by omega) (by omega) (zfit_b (by omega) (by omega)).1 (fun h3357 hg3357 hl3357 hs3357 ho3357 => ?_)
  have ho3357 : hO 42 5 h3355 h3357 := ho3357
  have hs3357 : hsl h3357 42 5 = some (zi y3356) := hs3357
  refine y_rV (len := 1) (r := (0, 0, 0, 0)) (nL := 1) (n9 := 1) (hs := []) (by decide +kernel) rfl ?_
  have hv3358 := (ho3357 35 5 (Or.inl (by omega))).trans hs3355
  exact ⟨hg3357, fun k j hC => ((ho3357 k j (by omega)).trans ((ho3355 k j (by omega)).trans (ho3353 k j (by omega)))), ⟨_, hv3358, by omega⟩⟩
theorem jp_turnC {t : Nat} {τ : List Nat} {h : zh} {cur : bsT} {hs : List bsT} (hg : hG τ h) (rc : RC h cur hs) (r5 : hsl h 0 5 = some (.inl (some 2))) : qI 60 135 [some (.inl (some 0))] h t (fun y h1 => ci_ h1 35 5 0) := by
  refine qI_le (d := 21) (by decide) (qI_of ?_)
  refine y_same (i := .aload_n 0) (len := 1) (r := (0, 0, 0, 0)) (pc' := 1) (ls' := [some (.inl (some 0))]) (st' := [.inl (some 0)]) (by decide +kernel) (fun k q => by cases q) rfl ?_
  refine y_get (j := 36) (len := 3) (r := (11, 6, 2, 405)) (by decide +kernel) hg (tv0 hg) aw0 rfl rfl (g_rU (f := 6) (T2 := 13) hg (tv0 hg) aw0 rfl (by decide)) ?_
  refine y_same (i := .aload_n 0) (len := 1) (r := (0, 0, 0, 0)) (pc' := 5) (ls' := [some (.inl (some 0))]) (st' := [.inl (some 0), .inl (some 13)]) (by decide +kernel) (fun k q => by cases q) rfl ?_
  refine y_get (j := 29) (len := 3) (r := (11, 5, 2, 404)) (by decide +kernel) hg (tv0 hg) aw0 rfl rfl r5 ?_
  refine y_cV (i := .invokevirtual 83) (len := 3) (r := (0, 24, 2, 449)) (nL := 2) (k := 0) (n := 2) (hs := []) (args := [.inl (some 13), .inl (some 2)]) (rest := []) (l0 := [some (.inl (some 13)), some (.inl (some 2))]) (by decide +kernel) (Or.inr (Or.inl ⟨_, rfl⟩)) rfl rfl rfl rfl (Nat.le_of_ble_eq_true rfl) (zO hg (tv13 hg) aw13 rfl) rfl (qV_le (by decide) (e_keep hg rc)) (fun h3359 hR3359 => ?_)
  obtain ⟨τ3359, au3359, hg3359, rc3359, F3359⟩ := hR3359
  obtain ⟨-, ⟨u3359, v3359, hu3359, l23359, b23359⟩, -⟩ := id rc3359
  have uu3359 : (u3359 = 1 ∧ v3359 = 6) ∨ (u3359 = 6 ∧ v3359 = 1) := hu3359
  have ty3359 := ty_u (tyB_of hg3359 hu3359 (tv2 hg3359) b23359.1 b23359.2.1 l23359) hu3359
  have la3359 := lay_u l23359 hu3359
  obtain ⟨⟨⟨xp03359, hp03359, ep03359⟩, ip03359⟩, ⟨xc03359, hc03359, ec03359⟩, ic03359⟩ := b23359.2.2.1
  obtain ⟨⟨⟨xp13359, hp13359, ep13359⟩, ip13359⟩, ⟨xc13359, hc13359, ec13359⟩, ic13359⟩ := b23359.2.2.2
  refine y_same (i := .aload_n 0) (len := 1) (r := (0, 0, 0, 0)) (pc' := 12) (ls' := [some (.inl (some 0))]) (st' := [.inl (some 0)]) (by decide +kernel) (fun k q => by cases q) rfl ?_
  have hv3360 := (F3359 0 5 (by omega)).trans r5
  refine y_get (j := 29) (len := 3) (r := (11, 5, 2, 404)) (by decide +kernel) hg3359 (tv0 hg3359) aw0 rfl rfl hv3360 ?_
  refine y_cV (i := .invokevirtual 98) (len := 3) (r := (0, 110, 9, 470)) (nL := 2) (k := 0) (n := 1) (hs := []) (args := [.inl (some 2)]) (rest := []) (l0 := [some (.inl (some 2)), none]) (by decide +kernel) (Or.inr (Or.inl ⟨_, rfl⟩)) rfl rfl rfl rfl (Nat.le_of_ble_eq_true rfl) (zO hg3359 (tv2 hg3359) aw1000 rfl) rfl (qV_le (by decide) (c_exc (d := 0) hg3359 ty3359.1.1 ty3359.2.1 b23359.1 b23359.2.1)) (fun h3361 hR3361 => ?_)
  obtain ⟨hg3361, x03361, x13361, F3361⟩ := hR3361
  have rc3361 : RC h3361 (cur.2, cur.1) (psh hs cur) := RC_set rc3359 ⟨v3359, u3359, uv_sw hu3359, layC_up l23359 (fun k j h1 h2 => F3361 k j (by omega)), x03361, x13361, sdC_up b23359.2.2.2 (fun k j h1 h2 => F3361 k j (by omega)), sdC_up b23359.2.2.1 (fun k j h1 h2 => F3361 k j (by omega))⟩ (fun k j h1 => F3361 k j (by omega))
  refine y_same (i := .aload_n 0) (len := 1) (r := (0, 0, 0, 0)) (pc' := 19) (ls' := [some (.inl (some 0))]) (st' := [.inl (some 0)]) (by decide +kernel) (fun k q => by cases q) rfl ?_
  refine y_cV (i := .invokevirtual 91) (len := 3) (r := (0, 154, 11, 474)) (nL := 1) (k := 0) (n := 1) (hs := []) (args := [.inl (some 0)]) (rest := []) (l0 := [some (.inl (some 0))]) (by decide +kernel) (Or.inr (Or.inl ⟨_, rfl⟩)) rfl rfl rfl rfl (Nat.le_of_ble_eq_true rfl) (zO hg3361 (tv0 hg3361) aw0 rfl) rfl (qV_le (by decide) (c_forgP (d := 0) hg3361)) (fun h3362 hR3362 => ?_)
  obtain ⟨hg3362, F3362, jx3362, jh3362, je3362⟩ := hR3362
  refine y_same (i := .aload_n 0) (len := 1) (r := (0, 0, 0, 0)) (pc' := 23) (ls' := [some (.inl (some 0))]) (st' := [.inl (some 0)]) (by decide +kernel) (fun k q => by cases q) rfl ?_
  have hv3363 := (F3361 0 5 (by omega)).trans hv3360
  have hv3364 := (F3362 0 5 (by omega)).trans hv3363
  refine y_get (j := 29) (len := 3) (r := (11, 5, 2, 404)) (by decide +kernel) hg3362 (tv0 hg3362) aw0 rfl rfl hv3364 ?_
  refine y_cI (i := .invokevirtual 94) (len := 3) (r := (0, 111, 9, 478)) (nL := 1) (k := 1) (n := 1) (hs := []) (args := [.inl (some 2)]) (rest := []) (l0 := [some (.inl (some 2))]) (by decide +kernel) (Or.inr (Or.inl ⟨_, rfl⟩)) rfl rfl rfl rfl (Nat.le_of_ble_eq_true rfl) (zO hg3362 (tv2 hg3362) aw1000 rfl) rfl (qI_le (by decide) (c_cnt (d := 0) hg3362 (RC_up rc3361 (fun k j h1 => (F3362 k j (by omega)))))) (fun y3365 qy3365 hRy3365 => ?_)
  obtain ⟨rfl, ey3365⟩ := hRy3365
  refine y_rI (len := 1) (r := (0, 0, 0, 0)) (nL := 1) (k := 1) (n9 := 1) (hs := []) (by decide +kernel) rfl rfl ?_
  exact ⟨_, jh3362, by omega⟩
theorem jp_undoC {t : Nat} {τ : List Nat} {h : zh} {cur : bsT} {hs : List bsT} (hg : hG τ h) (rc : RC h cur hs) (r5 : hsl h 0 5 = some (.inl (some 2))) : qI 60 138 [some (.inl (some 0))] h t (fun y h1 => (hs = [] ∧ h = h1) ∨ ci_ h1 35 5 0) := by
  refine qI_le (d := 21) (by decide) (qI_of ?_)
  refine y_same (i := .aload_n 0) (len := 1) (r := (0, 0, 0, 0)) (pc' := 1) (ls' := [some (.inl (some 0))]) (st' := [.inl (some 0)]) (by decide +kernel) (fun k q => by cases q) rfl ?_
  refine y_get (j := 36) (len := 3) (r := (11, 6, 2, 405)) (by decide +kernel) hg (tv0 hg) aw0 rfl rfl (g_rU (f := 6) (T2 := 13) hg (tv0 hg) aw0 rfl (by decide)) ?_
  refine y_same (i := .aload_n 0) (len := 1) (r := (0, 0, 0, 0)) (pc' := 5) (ls' := [some (.inl (some 0))]) (st' := [.inl (some 0), .inl (some 13)]) (by decide +kernel) (fun k q => by cases q) rfl ?_
  refine y_get (j := 29) (len := 3) (r := (11, 5, 2, 404)) (by decide +kernel) hg (tv0 hg) aw0 rfl rfl r5 ?_
  refine y_cI (i := .invokevirtual 132) (len := 3) (r := (0, 25, 2, 486)) (nL := 3) (k := 2) (n := 2) (hs := []) (args := [.inl (some 13), .inl (some 2)]) (rest := []) (l0 := [some (.inl (some 13)), some (.inl (some 2)), none]) (by decide +kernel) (Or.inr (Or.inl ⟨_, rfl⟩)) rfl rfl rfl rfl (Nat.le_of_ble_eq_true rfl) (zO hg (tv13 hg) aw13 rfl) rfl (qI_le (by decide) (e_back hg rc)) (fun y3366 h3366 hRy3366 => ?_)
  rcases hRy3366 with ⟨hn3366, hy3366, he3366⟩ | ⟨hs3366, bb3366, eh3366, hy3366, hg3366, rc3366, F3366⟩
  ·
    subst he3366
    refine y_iF (c := .ne) (off := 5) (len := 3) (r := (0, 0, 0, 0)) (by decide +kernel) (acmpF (c := .ne) (by show _ = _; omega)) ?_
    refine y_ic (c := (-1)) (len := 1) (r := (0, 0, 0, 0)) (by decide +kernel) (by decide) (fun y3367 hy3367 => ?_)
    refine y_rI (len := 1) (r := (0, 0, 0, 0)) (nL := 1) (k := 1) (n9 := 1) (hs := []) (by decide +kernel) rfl rfl ?_
    exact Or.inl ⟨by assumption, rfl⟩
  ·
    obtain ⟨-, -, -, -, -, -, -, -, ⟨xk3366, hk3366, ek3366⟩, -⟩ := id rc3366
    refine y_iT (c := .ne) (off := 5) (pc' := 16) (len := 3) (r := (0, 0, 0, 0)) (by decide +kernel) (acmpT (c := .ne) (by show ¬ (_ = _); omega)) (by decide +kernel) ?_
    refine y_same (i := .aload_n 0) (len := 1) (r := (0, 0, 0, 0)) (pc' := 17) (ls' := [some (.inl (some 0))]) (st' := [.inl (some 0)]) (by decide +kernel) (fun k q => by cases q) rfl ?_
    refine y_cV (i := .invokevirtual 91) (len := 3) (r := (0, 154, 11, 474)) (nL := 1) (k := 0) (n := 1) (hs := []) (args := [.inl (some 0)]) (rest := []) (l0 := [some (.inl (some 0))]) (by decide +kernel) (Or.inr (Or.inl ⟨_, rfl⟩)) rfl rfl rfl rfl (Nat.le_of_ble_eq_true rfl) (zO hg3366 (tv0 hg3366) aw0 rfl) rfl (qV_le (by decide) (c_forgP (d := 0) hg3366)) (fun h3368 hR3368 => ?_)
    obtain ⟨hg3368, F3368, jx3368, jh3368, je3368⟩ := hR3368
    refine y_same (i := .aload_n 0) (len := 1) (r := (0, 0, 0, 0)) (pc' := 21) (ls' := [some (.inl (some 0))]) (st' := [.inl (some 0)]) (by decide +kernel) (fun k q => by cases q) rfl ?_
    refine y_get (j := 36) (len := 3) (r := (11, 6, 2, 405)) (by decide +kernel) hg3368 (tv0 hg3368) aw0 rfl rfl (g_rU (f := 6) (T2 := 13) hg3368 (tv0 hg3368) aw0 rfl (by decide)) ?_
    have hv3369 := (F3368 13 2 (by omega)).trans hk3366
    refine y_get (j := 136) (len := 3) (r := (2, 2, 0, 20223)) (by decide +kernel) hg3368 (tv13 hg3368) aw13 rfl rfl hv3369 ?_
    refine y_rI (len := 1) (r := (0, 0, 0, 0)) (nL := 1) (k := 1) (n9 := 1) (hs := []) (by decide +kernel) rfl rfl ?_
    exact Or.inr ⟨_, jh3368, by omega⟩
theorem jp_drop0 {t k : Nat} {τ : List Nat} {h : zh} {cur : bsT} {hs : List bsT} {x xk : Int32} (hg : hG τ h) (rc : RC h cur hs) (r5 : hsl h 0 5 = some (.inl (some 2))) (hx : x.toInt = 0) (exk : xk.toInt = (k : Int)) (hk : k < cur.1.1.length) : qI 21 136 [some (.inl (some 0)), some (zi x), some (zi xk), none] h t (fun y h1 => (∃ τ1, hG τ1 h1) ∧ ci_ h1 35 5 0) := by
  refine qI_of ?_
  obtain ⟨-, ⟨uz, vz, huz, l2z, b2z⟩, -⟩ := id rc
  have uuz : (uz = 1 ∧ vz = 6) ∨ (uz = 6 ∧ vz = 1) := huz
  have tyz := ty_u (tyB_of hg huz (tv2 hg) b2z.1 b2z.2.1 l2z) huz
  have laz := lay_u l2z huz
  obtain ⟨⟨⟨xp0z, hp0z, ep0z⟩, ip0z⟩, ⟨xc0z, hc0z, ec0z⟩, ic0z⟩ := b2z.2.2.1
  obtain ⟨⟨⟨xp1z, hp1z, ep1z⟩, ip1z⟩, ⟨xc1z, hc1z, ec1z⟩, ic1z⟩ := b2z.2.2.2
  refine y_same (i := .aload_n 0) (len := 1) (r := (0, 0, 0, 0)) (pc' := 1) (ls' := [some (.inl (some 0)), some (zi x), some (zi xk), none]) (st' := [.inl (some 0)]) (by decide +kernel) (fun k q => by cases q) rfl ?_
  refine y_same (i := .iload_n 1) (len := 1) (r := (0, 0, 0, 0)) (pc' := 2) (ls' := [some (.inl (some 0)), some (zi x), some (zi xk), none]) (st' := [zi x, .inl (some 0)]) (by decide +kernel) (fun k q => by cases q) rfl ?_
  refine y_cI (i := .invokestatic 101) (len := 3) (r := (1, 156, 11, 1068)) (nL := 1) (k := 2) (n := 1) (hs := []) (args := [zi x]) (rest := [.inl (some 0)]) (l0 := [some (zi x)]) (by decide +kernel) (Or.inl ⟨_, rfl⟩) rfl rfl rfl rfl (Nat.le_of_ble_eq_true rfl) rfl rfl (qI_le (by decide) (c_isSide (d := 0))) (fun y3370 qy3370 hRy3370 => ?_)
  obtain ⟨rfl, hDy3370⟩ := hRy3370
  have ey3370 : y3370.toInt = 1 := by omega
  refine y_iF (c := .eq) (off := 25) (len := 3) (r := (0, 0, 0, 0)) (by decide +kernel) (acmpF (c := .eq) (by show ¬ (_ = _); omega)) ?_
  refine y_same (i := .aload_n 0) (len := 1) (r := (0, 0, 0, 0)) (pc' := 9) (ls' := [some (.inl (some 0)), some (zi x), some (zi xk), none]) (st' := [.inl (some 0), .inl (some 0)]) (by decide +kernel) (fun k q => by cases q) rfl ?_
  refine y_get (j := 29) (len := 3) (r := (11, 5, 2, 404)) (by decide +kernel) hg (tv0 hg) aw0 rfl rfl r5 ?_
  refine y_same (i := .iload_n 1) (len := 1) (r := (0, 0, 0, 0)) (pc' := 13) (ls' := [some (.inl (some 0)), some (zi x), some (zi xk), none]) (st' := [zi x, .inl (some 2), .inl (some 0)]) (by decide +kernel) (fun k q => by cases q) rfl ?_
  refine y_cA (i := .invokevirtual 105) (len := 3) (r := (0, 108, 9, 1071)) (nL := 2) (k := 3) (n := 2) (hs := []) (args := [.inl (some 2), zi x]) (rest := [.inl (some 0)]) (l0 := [some (.inl (some 2)), some (zi x)]) (by decide +kernel) (Or.inr (Or.inl ⟨_, rfl⟩)) rfl rfl rfl rfl (Nat.le_of_ble_eq_true rfl) (zO hg (tv2 hg) aw1000 rfl) rfl (qA_le (by decide) (c_side0 (d := 0) (u := uz) (v := vz) hg (by omega) b2z.1 b2z.2.1)) (fun q3371 hR3371 => ?_)
  obtain rfl := hR3371
  refine y_get (j := 109) (len := 3) (r := (8, 0, 2, 20182)) (by decide +kernel) hg tyz.1.1 aw1001 rfl rfl laz.1.1 ?_
  refine y_same (i := .iload_n 2) (len := 1) (r := (0, 0, 0, 0)) (pc' := 20) (ls' := [some (.inl (some 0)), some (zi x), some (zi xk), none]) (st' := [zi xk, .inl (some ((2 + uz + 1))), .inl (some 0)]) (by decide +kernel) (fun k q => by cases q) rfl ?_
  refine y_cI (i := .invokevirtual 115) (len := 3) (r := (0, 63, 6, 1075)) (nL := 2) (k := 2) (n := 2) (hs := []) (args := [.inl (some ((2 + uz + 1))), zi xk]) (rest := [.inl (some 0)]) (l0 := [some (.inl (some ((2 + uz + 1)))), some (zi xk)]) (by decide +kernel) (Or.inr (Or.inl ⟨_, rfl⟩)) rfl rfl rfl rfl (Nat.le_of_ble_eq_true rfl) (zO hg tyz.1.2.1 aw1002 rfl) rfl (qI_le (by decide) (c_has5 (d := 0) hg tyz.1.2.1 hp0z)) (fun y3372 qy3372 hRy3372 => ?_)
  obtain ⟨rfl, hDy3372⟩ := hRy3372
  have ey3372 : y3372.toInt = 1 := by omega
  refine y_iF (c := .eq) (off := 7) (len := 3) (r := (0, 0, 0, 0)) (by decide +kernel) (acmpF (c := .eq) (by show ¬ (_ = _); omega)) ?_
  refine y_ic (c := 1) (len := 1) (r := (0, 0, 0, 0)) (by decide +kernel) (by decide) (fun y3373 hy3373 => ?_)
  refine y_goto (off := 4) (pc' := 31) (len := 3) (r := (0, 0, 0, 0)) (by decide +kernel) (by decide +kernel) ?_
  refine y_cV (i := .invokevirtual 120) (len := 3) (r := (0, 152, 11, 1079)) (nL := 2) (k := 0) (n := 2) (hs := []) (args := [.inl (some 0), zi y3373]) (rest := []) (l0 := [some (.inl (some 0)), some (zi y3373)]) (by decide +kernel) (Or.inr (Or.inl ⟨_, rfl⟩)) rfl rfl rfl rfl (Nat.le_of_ble_eq_true rfl) (zO hg (tv0 hg) aw0 rfl) rfl (qV_le (by decide) (c_there (d := 0) (by omega))) (fun q3374 hR3374 => ?_)
  obtain rfl := hR3374
  refine y_same (i := .aload_n 0) (len := 1) (r := (0, 0, 0, 0)) (pc' := 35) (ls' := [some (.inl (some 0)), some (zi x), some (zi xk), none]) (st' := [.inl (some 0)]) (by decide +kernel) (fun k q => by cases q) rfl ?_
  refine y_get (j := 36) (len := 3) (r := (11, 6, 2, 405)) (by decide +kernel) hg (tv0 hg) aw0 rfl rfl (g_rU (f := 6) (T2 := 13) hg (tv0 hg) aw0 rfl (by decide)) ?_
  refine y_same (i := .aload_n 0) (len := 1) (r := (0, 0, 0, 0)) (pc' := 39) (ls' := [some (.inl (some 0)), some (zi x), some (zi xk), none]) (st' := [.inl (some 0), .inl (some 13)]) (by decide +kernel) (fun k q => by cases q) rfl ?_
  refine y_get (j := 29) (len := 3) (r := (11, 5, 2, 404)) (by decide +kernel) hg (tv0 hg) aw0 rfl rfl r5 ?_
  refine y_cV (i := .invokevirtual 83) (len := 3) (r := (0, 24, 2, 449)) (nL := 2) (k := 0) (n := 2) (hs := []) (args := [.inl (some 13), .inl (some 2)]) (rest := []) (l0 := [some (.inl (some 13)), some (.inl (some 2))]) (by decide +kernel) (Or.inr (Or.inl ⟨_, rfl⟩)) rfl rfl rfl rfl (Nat.le_of_ble_eq_true rfl) (zO hg (tv13 hg) aw13 rfl) rfl (qV_le (by decide) (e_keep hg rc)) (fun h3375 hR3375 => ?_)
  obtain ⟨τ3375, au3375, hg3375, rc3375, F3375⟩ := hR3375
  obtain ⟨-, ⟨u3375, v3375, hu3375, l23375, b23375⟩, -⟩ := id rc3375
  have uu3375 : (u3375 = 1 ∧ v3375 = 6) ∨ (u3375 = 6 ∧ v3375 = 1) := hu3375
  have ty3375 := ty_u (tyB_of hg3375 hu3375 (tv2 hg3375) b23375.1 b23375.2.1 l23375) hu3375
  have la3375 := lay_u l23375 hu3375
  obtain ⟨⟨⟨xp03375, hp03375, ep03375⟩, ip03375⟩, ⟨xc03375, hc03375, ec03375⟩, ic03375⟩ := b23375.2.2.1
  obtain ⟨⟨⟨xp13375, hp13375, ep13375⟩, ip13375⟩, ⟨xc13375, hc13375, ec13375⟩, ic13375⟩ := b23375.2.2.2
  refine y_same (i := .aload_n 0) (len := 1) (r := (0, 0, 0, 0)) (pc' := 46) (ls' := [some (.inl (some 0)), some (zi x), some (zi xk), none]) (st' := [.inl (some 0)]) (by decide +kernel) (fun k q => by cases q) rfl ?_
  have hv3376 := (F3375 0 5 (by omega)).trans r5
  refine y_get (j := 29) (len := 3) (r := (11, 5, 2, 404)) (by decide +kernel) hg3375 (tv0 hg3375) aw0 rfl rfl hv3376 ?_
  refine y_same (i := .iload_n 1) (len := 1) (r := (0, 0, 0, 0)) (pc' := 50) (ls' := [some (.inl (some 0)), some (zi x), some (zi xk), none]) (st' := [zi x, .inl (some 2)]) (by decide +kernel) (fun k q => by cases q) rfl ?_
  refine y_cA (i := .invokevirtual 105) (len := 3) (r := (0, 108, 9, 1071)) (nL := 2) (k := 3) (n := 2) (hs := []) (args := [.inl (some 2), zi x]) (rest := []) (l0 := [some (.inl (some 2)), some (zi x)]) (by decide +kernel) (Or.inr (Or.inl ⟨_, rfl⟩)) rfl rfl rfl rfl (Nat.le_of_ble_eq_true rfl) (zO hg3375 (tv2 hg3375) aw1000 rfl) rfl (qA_le (by decide) (c_side0 (d := 0) (u := u3375) (v := v3375) hg3375 (by omega) b23375.1 b23375.2.1)) (fun q3377 hR3377 => ?_)
  obtain rfl := hR3377
  refine y_get (j := 109) (len := 3) (r := (8, 0, 2, 20182)) (by decide +kernel) hg3375 ty3375.1.1 aw1001 rfl rfl la3375.1.1 ?_
  refine y_same (i := .astore_n 3) (len := 1) (r := (0, 0, 0, 0)) (pc' := 57) (ls' := [some (.inl (some 0)), some (zi x), some (zi xk), some (.inl (some ((2 + u3375 + 1))))]) (st' := []) (by decide +kernel) (fun k q => by cases q) rfl ?_
  refine y_same (i := .aload_n 3) (len := 1) (r := (0, 0, 0, 0)) (pc' := 58) (ls' := [some (.inl (some 0)), some (zi x), some (zi xk), some (.inl (some ((2 + u3375 + 1))))]) (st' := [.inl (some ((2 + u3375 + 1)))]) (by decide +kernel) (fun k q => by cases q) rfl ?_
  refine y_same (i := .iload_n 2) (len := 1) (r := (0, 0, 0, 0)) (pc' := 59) (ls' := [some (.inl (some 0)), some (zi x), some (zi xk), some (.inl (some ((2 + u3375 + 1))))]) (st' := [zi xk, .inl (some ((2 + u3375 + 1)))]) (by decide +kernel) (fun k q => by cases q) rfl ?_
  refine y_cV (i := .invokevirtual 123) (len := 3) (r := (0, 70, 6, 1099)) (nL := 3) (k := 0) (n := 2) (hs := []) (args := [.inl (some ((2 + u3375 + 1))), zi xk]) (rest := []) (l0 := [some (.inl (some ((2 + u3375 + 1)))), some (zi xk), none]) (by decide +kernel) (Or.inr (Or.inl ⟨_, rfl⟩)) rfl rfl rfl rfl (Nat.le_of_ble_eq_true rfl) (zO hg3375 ty3375.1.2.1 aw1002 rfl) rfl (qV_le (by decide) (e_rm5 (d := 0) (RA := (2 + u3375 + 1)) (IA := (2 + u3375 + 2)) hg3375 ty3375.1.2.1 ty3375.1.2.2.1 (by omega) la3375.1.2.2.1 b23375.2.2.1.1 exk (by omega))) (fun h3378 hR3378 => ?_)
  obtain ⟨hg3378, r3378, F3378⟩ := hR3378
  have rc3378 : RC h3378 ((cur.1.1.eraseIdx k, cur.1.2), (cur.2.1, cur.2.2)) (psh hs cur) := RC_set rc3375 ⟨u3375, v3375, hu3375, ⟨laS_up l23375.1 (fun k j h1 => F3378 k j (by omega)), laS_up l23375.2 (fun k j h1 => F3378 k j (by omega))⟩, rfs_up b23375.1 (F3378 _ _ (by omega)), rfs_up b23375.2.1 (F3378 _ _ (by omega)), ⟨r3378, rwC_up b23375.2.2.1.2 (F3378 _ _ (by omega)) (fun j => F3378 _ _ (by omega))⟩, sdC_up b23375.2.2.2 (fun k j h1 h2 => F3378 k j (by omega))⟩ (fun k j h1 => F3378 k j (by omega))
  obtain ⟨xz, hz, ez⟩ := r3378.1
  rw [List.length_eraseIdx_of_lt (by omega)] at ez
  refine y_same (i := .aload_n 0) (len := 1) (r := (0, 0, 0, 0)) (pc' := 63) (ls' := [some (.inl (some 0)), some (zi x), some (zi xk), some (.inl (some ((2 + u3375 + 1))))]) (st' := [.inl (some 0)]) (by decide +kernel) (fun k q => by cases q) rfl ?_
  refine y_cV (i := .invokevirtual 91) (len := 3) (r := (0, 154, 11, 474)) (nL := 1) (k := 0) (n := 1) (hs := []) (args := [.inl (some 0)]) (rest := []) (l0 := [some (.inl (some 0))]) (by decide +kernel) (Or.inr (Or.inl ⟨_, rfl⟩)) rfl rfl rfl rfl (Nat.le_of_ble_eq_true rfl) (zO hg3378 (tv0 hg3378) aw0 rfl) rfl (qV_le (by decide) (c_forgP (d := 0) hg3378)) (fun h3379 hR3379 => ?_)
  obtain ⟨hg3379, F3379, jx3379, jh3379, je3379⟩ := hR3379
  refine y_same (i := .aload_n 3) (len := 1) (r := (0, 0, 0, 0)) (pc' := 67) (ls' := [some (.inl (some 0)), some (zi x), some (zi xk), some (.inl (some ((2 + u3375 + 1))))]) (st' := [.inl (some ((2 + u3375 + 1)))]) (by decide +kernel) (fun k q => by cases q) rfl ?_
  have hv3380 := (F3379 (2 + u3375 + 1) 1 (by omega)).trans hz
  refine y_get (j := 126) (len := 3) (r := (6, 1, 0, 20168)) (by decide +kernel) hg3379 ty3375.1.2.1 aw1002 rfl rfl hv3380 ?_
  refine y_rI (len := 1) (r := (0, 0, 0, 0)) (nL := 4) (k := 1) (n9 := 3) (hs := []) (by decide +kernel) rfl rfl ?_
  exact ⟨⟨_, hg3379⟩, _, jh3379, by omega⟩
theorem jp_ldrop0 {t k : Nat} {τ : List Nat} {h : zh} {cur : bsT} {hs : List bsT} {x xk : Int32} (hg : hG τ h) (rc : RC h cur hs) (r5 : hsl h 0 5 = some (.inl (some 2))) (hx : x.toInt = 0) (exk : xk.toInt = (k : Int)) (hk : k < cur.1.1.length) : qI 60 277 [some (.inl (some 0)), some (zi x), some (zi xk), some (.inl (some 388)), none] h t (fun y h1 => ci_ h1 35 5 0) := by
  refine qI_le (d := 32) (by decide) (qI_of ?_)
  refine y_same (i := .aload_n 3) (len := 1) (r := (0, 0, 0, 0)) (pc' := 1) (ls' := [some (.inl (some 0)), some (zi x), some (zi xk), some (.inl (some 388)), none]) (st' := [.inl (some 388)]) (by decide +kernel) (fun k q => by cases q) rfl ?_
  refine y_ic (c := 0) (len := 1) (r := (0, 0, 0, 0)) (by decide +kernel) (by decide) (fun y3381 hy3381 => ?_)
  refine y_same (i := .aload_n 0) (len := 1) (r := (0, 0, 0, 0)) (pc' := 3) (ls' := [some (.inl (some 0)), some (zi x), some (zi xk), some (.inl (some 388)), none]) (st' := [.inl (some 0), zi y3381, .inl (some 388)]) (by decide +kernel) (fun k q => by cases q) rfl ?_
  refine y_same (i := .iload_n 1) (len := 1) (r := (0, 0, 0, 0)) (pc' := 4) (ls' := [some (.inl (some 0)), some (zi x), some (zi xk), some (.inl (some 388)), none]) (st' := [zi x, .inl (some 0), zi y3381, .inl (some 388)]) (by decide +kernel) (fun k q => by cases q) rfl ?_
  refine y_same (i := .iload_n 2) (len := 1) (r := (0, 0, 0, 0)) (pc' := 5) (ls' := [some (.inl (some 0)), some (zi x), some (zi xk), some (.inl (some 388)), none]) (st' := [zi xk, zi x, .inl (some 0), zi y3381, .inl (some 388)]) (by decide +kernel) (fun k q => by cases q) rfl ?_
  refine y_cI (i := .invokevirtual 15) (len := 3) (r := (0, 136, 11, 1064)) (nL := 4) (k := 1) (n := 3) (hs := []) (args := [.inl (some 0), zi x, zi xk]) (rest := [zi y3381, .inl (some 388)]) (l0 := [some (.inl (some 0)), some (zi x), some (zi xk), none]) (by decide +kernel) (Or.inr (Or.inl ⟨_, rfl⟩)) rfl rfl rfl rfl (Nat.le_of_ble_eq_true rfl) (zO hg (tv0 hg) aw0 rfl) rfl (qI_le (by decide) (jp_drop0 hg rc r5 hx exk hk)) (fun y3382 h3382 hRy3382 => ?_)
  obtain ⟨⟨τ3382, hg3382⟩, jx, jh, je⟩ := hRy3382
  refine y_i2l2 (len := 1) (r := (0, 0, 0, 0)) (by decide +kernel) ?_
  refine y_las2 (i := 0) (len := 1) (r := (0, 0, 0, 0)) (by decide +kernel) hg3382 (t388 hg3382) aw388 rfl (by omega) (by omega) rfl (fun h3383 hg3383 hw3383 ho3383 => ?_)
  refine y_goto (off := 7) (pc' := 17) (len := 3) (r := (0, 0, 0, 0)) (by decide +kernel) (by decide +kernel) ?_
  refine y_ic (c := 0) (len := 1) (r := (0, 0, 0, 0)) (by decide +kernel) (by decide) (fun y3384 hy3384 => ?_)
  refine y_rI (len := 1) (r := (0, 0, 0, 0)) (nL := 5) (k := 1) (n9 := 4) (hs := [(0, 10, 13, 0)]) (by decide +kernel) rfl rfl ?_
  have hv3385 := (ho3383 35 5 (Or.inl (by omega))).trans jh
  exact ⟨_, hv3385, by omega⟩
theorem jp_drop1 {t k : Nat} {τ : List Nat} {h : zh} {cur : bsT} {hs : List bsT} {x xk : Int32} (hg : hG τ h) (rc : RC h cur hs) (r5 : hsl h 0 5 = some (.inl (some 2))) (hx : x.toInt = 1) (exk : xk.toInt = (k : Int)) (hk : k < cur.2.1.length) : qI 21 136 [some (.inl (some 0)), some (zi x), some (zi xk), none] h t (fun y h1 => (∃ τ1, hG τ1 h1) ∧ ci_ h1 35 5 0) := by
  refine qI_of ?_
  obtain ⟨-, ⟨uz, vz, huz, l2z, b2z⟩, -⟩ := id rc
  have uuz : (uz = 1 ∧ vz = 6) ∨ (uz = 6 ∧ vz = 1) := huz
  have tyz := ty_u (tyB_of hg huz (tv2 hg) b2z.1 b2z.2.1 l2z) huz
  have laz := lay_u l2z huz
  obtain ⟨⟨⟨xp0z, hp0z, ep0z⟩, ip0z⟩, ⟨xc0z, hc0z, ec0z⟩, ic0z⟩ := b2z.2.2.1
  obtain ⟨⟨⟨xp1z, hp1z, ep1z⟩, ip1z⟩, ⟨xc1z, hc1z, ec1z⟩, ic1z⟩ := b2z.2.2.2
  refine y_same (i := .aload_n 0) (len := 1) (r := (0, 0, 0, 0)) (pc' := 1) (ls' := [some (.inl (some 0)), some (zi x), some (zi xk), none]) (st' := [.inl (some 0)]) (by decide +kernel) (fun k q => by cases q) rfl ?_
  refine y_same (i := .iload_n 1) (len := 1) (r := (0, 0, 0, 0)) (pc' := 2) (ls' := [some (.inl (some 0)), some (zi x), some (zi xk), none]) (st' := [zi x, .inl (some 0)]) (by decide +kernel) (fun k q => by cases q) rfl ?_
  refine y_cI (i := .invokestatic 101) (len := 3) (r := (1, 156, 11, 1068)) (nL := 1) (k := 2) (n := 1) (hs := []) (args := [zi x]) (rest := [.inl (some 0)]) (l0 := [some (zi x)]) (by decide +kernel) (Or.inl ⟨_, rfl⟩) rfl rfl rfl rfl (Nat.le_of_ble_eq_true rfl) rfl rfl (qI_le (by decide) (c_isSide (d := 0))) (fun y3386 qy3386 hRy3386 => ?_)
  obtain ⟨rfl, hDy3386⟩ := hRy3386
  have ey3386 : y3386.toInt = 1 := by omega
  refine y_iF (c := .eq) (off := 25) (len := 3) (r := (0, 0, 0, 0)) (by decide +kernel) (acmpF (c := .eq) (by show ¬ (_ = _); omega)) ?_
  refine y_same (i := .aload_n 0) (len := 1) (r := (0, 0, 0, 0)) (pc' := 9) (ls' := [some (.inl (some 0)), some (zi x), some (zi xk), none]) (st' := [.inl (some 0), .inl (some 0)]) (by decide +kernel) (fun k q => by cases q) rfl ?_
  refine y_get (j := 29) (len := 3) (r := (11, 5, 2, 404)) (by decide +kernel) hg (tv0 hg) aw0 rfl rfl r5 ?_
  refine y_same (i := .iload_n 1) (len := 1) (r := (0, 0, 0, 0)) (pc' := 13) (ls' := [some (.inl (some 0)), some (zi x), some (zi xk), none]) (st' := [zi x, .inl (some 2), .inl (some 0)]) (by decide +kernel) (fun k q => by cases q) rfl ?_
  refine y_cA (i := .invokevirtual 105) (len := 3) (r := (0, 108, 9, 1071)) (nL := 2) (k := 3) (n := 2) (hs := []) (args := [.inl (some 2), zi x]) (rest := [.inl (some 0)]) (l0 := [some (.inl (some 2)), some (zi x)]) (by decide +kernel) (Or.inr (Or.inl ⟨_, rfl⟩)) rfl rfl rfl rfl (Nat.le_of_ble_eq_true rfl) (zO hg (tv2 hg) aw1000 rfl) rfl (qA_le (by decide) (c_side1 (d := 0) (u := uz) (v := vz) hg (by omega) b2z.1 b2z.2.1)) (fun q3387 hR3387 => ?_)
  obtain rfl := hR3387
  refine y_get (j := 109) (len := 3) (r := (8, 0, 2, 20182)) (by decide +kernel) hg tyz.2.1 aw1001 rfl rfl laz.2.1 ?_
  refine y_same (i := .iload_n 2) (len := 1) (r := (0, 0, 0, 0)) (pc' := 20) (ls' := [some (.inl (some 0)), some (zi x), some (zi xk), none]) (st' := [zi xk, .inl (some ((2 + vz + 1))), .inl (some 0)]) (by decide +kernel) (fun k q => by cases q) rfl ?_
  refine y_cI (i := .invokevirtual 115) (len := 3) (r := (0, 63, 6, 1075)) (nL := 2) (k := 2) (n := 2) (hs := []) (args := [.inl (some ((2 + vz + 1))), zi xk]) (rest := [.inl (some 0)]) (l0 := [some (.inl (some ((2 + vz + 1)))), some (zi xk)]) (by decide +kernel) (Or.inr (Or.inl ⟨_, rfl⟩)) rfl rfl rfl rfl (Nat.le_of_ble_eq_true rfl) (zO hg tyz.2.2.1 aw1002 rfl) rfl (qI_le (by decide) (c_has5 (d := 0) hg tyz.2.2.1 hp1z)) (fun y3388 qy3388 hRy3388 => ?_)
  obtain ⟨rfl, hDy3388⟩ := hRy3388
  have ey3388 : y3388.toInt = 1 := by omega
  refine y_iF (c := .eq) (off := 7) (len := 3) (r := (0, 0, 0, 0)) (by decide +kernel) (acmpF (c := .eq) (by show ¬ (_ = _); omega)) ?_
  refine y_ic (c := 1) (len := 1) (r := (0, 0, 0, 0)) (by decide +kernel) (by decide) (fun y3389 hy3389 => ?_)
  refine y_goto (off := 4) (pc' := 31) (len := 3) (r := (0, 0, 0, 0)) (by decide +kernel) (by decide +kernel) ?_
  refine y_cV (i := .invokevirtual 120) (len := 3) (r := (0, 152, 11, 1079)) (nL := 2) (k := 0) (n := 2) (hs := []) (args := [.inl (some 0), zi y3389]) (rest := []) (l0 := [some (.inl (some 0)), some (zi y3389)]) (by decide +kernel) (Or.inr (Or.inl ⟨_, rfl⟩)) rfl rfl rfl rfl (Nat.le_of_ble_eq_true rfl) (zO hg (tv0 hg) aw0 rfl) rfl (qV_le (by decide) (c_there (d := 0) (by omega))) (fun q3390 hR3390 => ?_)
  obtain rfl := hR3390
  refine y_same (i := .aload_n 0) (len := 1) (r := (0, 0, 0, 0)) (pc' := 35) (ls' := [some (.inl (some 0)), some (zi x), some (zi xk), none]) (st' := [.inl (some 0)]) (by decide +kernel) (fun k q => by cases q) rfl ?_
  refine y_get (j := 36) (len := 3) (r := (11, 6, 2, 405)) (by decide +kernel) hg (tv0 hg) aw0 rfl rfl (g_rU (f := 6) (T2 := 13) hg (tv0 hg) aw0 rfl (by decide)) ?_
  refine y_same (i := .aload_n 0) (len := 1) (r := (0, 0, 0, 0)) (pc' := 39) (ls' := [some (.inl (some 0)), some (zi x), some (zi xk), none]) (st' := [.inl (some 0), .inl (some 13)]) (by decide +kernel) (fun k q => by cases q) rfl ?_
  refine y_get (j := 29) (len := 3) (r := (11, 5, 2, 404)) (by decide +kernel) hg (tv0 hg) aw0 rfl rfl r5 ?_
  refine y_cV (i := .invokevirtual 83) (len := 3) (r := (0, 24, 2, 449)) (nL := 2) (k := 0) (n := 2) (hs := []) (args := [.inl (some 13), .inl (some 2)]) (rest := []) (l0 := [some (.inl (some 13)), some (.inl (some 2))]) (by decide +kernel) (Or.inr (Or.inl ⟨_, rfl⟩)) rfl rfl rfl rfl (Nat.le_of_ble_eq_true rfl) (zO hg (tv13 hg) aw13 rfl) rfl (qV_le (by decide) (e_keep hg rc)) (fun h3391 hR3391 => ?_)
  obtain ⟨τ3391, au3391, hg3391, rc3391, F3391⟩ := hR3391
  obtain ⟨-, ⟨u3391, v3391, hu3391, l23391, b23391⟩, -⟩ := id rc3391
  have uu3391 : (u3391 = 1 ∧ v3391 = 6) ∨ (u3391 = 6 ∧ v3391 = 1) := hu3391
  have ty3391 := ty_u (tyB_of hg3391 hu3391 (tv2 hg3391) b23391.1 b23391.2.1 l23391) hu3391
  have la3391 := lay_u l23391 hu3391
  obtain ⟨⟨⟨xp03391, hp03391, ep03391⟩, ip03391⟩, ⟨xc03391, hc03391, ec03391⟩, ic03391⟩ := b23391.2.2.1
  obtain ⟨⟨⟨xp13391, hp13391, ep13391⟩, ip13391⟩, ⟨xc13391, hc13391, ec13391⟩, ic13391⟩ := b23391.2.2.2
  refine y_same (i := .aload_n 0) (len := 1) (r := (0, 0, 0, 0)) (pc' := 46) (ls' := [some (.inl (some 0)), some (zi x), some (zi xk), none]) (st' := [.inl (some 0)]) (by decide +kernel) (fun k q => by cases q) rfl ?_
  have hv3392 := (F3391 0 5 (by omega)).trans r5
  refine y_get (j := 29) (len := 3) (r := (11, 5, 2, 404)) (by decide +kernel) hg3391 (tv0 hg3391) aw0 rfl rfl hv3392 ?_
  refine y_same (i := .iload_n 1) (len := 1) (r := (0, 0, 0, 0)) (pc' := 50) (ls' := [some (.inl (some 0)), some (zi x), some (zi xk), none]) (st' := [zi x, .inl (some 2)]) (by decide +kernel) (fun k q => by cases q) rfl ?_
  refine y_cA (i := .invokevirtual 105) (len := 3) (r := (0, 108, 9, 1071)) (nL := 2) (k := 3) (n := 2) (hs := []) (args := [.inl (some 2), zi x]) (rest := []) (l0 := [some (.inl (some 2)), some (zi x)]) (by decide +kernel) (Or.inr (Or.inl ⟨_, rfl⟩)) rfl rfl rfl rfl (Nat.le_of_ble_eq_true rfl) (zO hg3391 (tv2 hg3391) aw1000 rfl) rfl (qA_le (by decide) (c_side1 (d := 0) (u := u3391) (v := v3391) hg3391 (by omega) b23391.1 b23391.2.1)) (fun q3393 hR3393 => ?_)
  obtain rfl := hR3393
  refine y_get (j := 109) (len := 3) (r := (8, 0, 2, 20182)) (by decide +kernel) hg3391 ty3391.2.1 aw1001 rfl rfl la3391.2.1 ?_
  refine y_same (i := .astore_n 3) (len := 1) (r := (0, 0, 0, 0)) (pc' := 57) (ls' := [some (.inl (some 0)), some (zi x), some (zi xk), some (.inl (some ((2 + v3391 + 1))))]) (st' := []) (by decide +kernel) (fun k q => by cases q) rfl ?_
  refine y_same (i := .aload_n 3) (len := 1) (r := (0, 0, 0, 0)) (pc' := 58) (ls' := [some (.inl (some 0)), some (zi x), some (zi xk), some (.inl (some ((2 + v3391 + 1))))]) (st' := [.inl (some ((2 + v3391 + 1)))]) (by decide +kernel) (fun k q => by cases q) rfl ?_
  refine y_same (i := .iload_n 2) (len := 1) (r := (0, 0, 0, 0)) (pc' := 59) (ls' := [some (.inl (some 0)), some (zi x), some (zi xk), some (.inl (some ((2 + v3391 + 1))))]) (st' := [zi xk, .inl (some ((2 + v3391 + 1)))]) (by decide +kernel) (fun k q => by cases q) rfl ?_
  refine y_cV (i := .invokevirtual 123) (len := 3) (r := (0, 70, 6, 1099)) (nL := 3) (k := 0) (n := 2) (hs := []) (args := [.inl (some ((2 + v3391 + 1))), zi xk]) (rest := []) (l0 := [some (.inl (some ((2 + v3391 + 1)))), some (zi xk), none]) (by decide +kernel) (Or.inr (Or.inl ⟨_, rfl⟩)) rfl rfl rfl rfl (Nat.le_of_ble_eq_true rfl) (zO hg3391 ty3391.2.2.1 aw1002 rfl) rfl (qV_le (by decide) (e_rm5 (d := 0) (RA := (2 + v3391 + 1)) (IA := (2 + v3391 + 2)) hg3391 ty3391.2.2.1 ty3391.2.2.2.1 (by omega) la3391.2.2.2.1 b23391.2.2.2.1 exk (by omega))) (fun h3394 hR3394 => ?_)
  obtain ⟨hg3394, r3394, F3394⟩ := hR3394
  have rc3394 : RC h3394 ((cur.1.1, cur.1.2), (cur.2.1.eraseIdx k, cur.2.2)) (psh hs cur) := RC_set rc3391 ⟨u3391, v3391, hu3391, ⟨laS_up l23391.1 (fun k j h1 => F3394 k j (by omega)), laS_up l23391.2 (fun k j h1 => F3394 k j (by omega))⟩, rfs_up b23391.1 (F3394 _ _ (by omega)), rfs_up b23391.2.1 (F3394 _ _ (by omega)), sdC_up b23391.2.2.1 (fun k j h1 h2 => F3394 k j (by omega)), ⟨r3394, rwC_up b23391.2.2.2.2 (F3394 _ _ (by omega)) (fun j => F3394 _ _ (by omega))⟩⟩ (fun k j h1 => F3394 k j (by omega))
  obtain ⟨xz, hz, ez⟩ := r3394.1
  rw [List.length_eraseIdx_of_lt (by omega)] at ez
  refine y_same (i := .aload_n 0) (len := 1) (r := (0, 0, 0, 0)) (pc' := 63) (ls' := [some (.inl (some 0)), some (zi x), some (zi xk), some (.inl (some ((2 + v3391 + 1))))]) (st' := [.inl (some 0)]) (by decide +kernel) (fun k q => by cases q) rfl ?_
  refine y_cV (i := .invokevirtual 91) (len := 3) (r := (0, 154, 11, 474)) (nL := 1) (k := 0) (n := 1) (hs := []) (args := [.inl (some 0)]) (rest := []) (l0 := [some (.inl (some 0))]) (by decide +kernel) (Or.inr (Or.inl ⟨_, rfl⟩)) rfl rfl rfl rfl (Nat.le_of_ble_eq_true rfl) (zO hg3394 (tv0 hg3394) aw0 rfl) rfl (qV_le (by decide) (c_forgP (d := 0) hg3394)) (fun h3395 hR3395 => ?_)
  obtain ⟨hg3395, F3395, jx3395, jh3395, je3395⟩ := hR3395
  refine y_same (i := .aload_n 3) (len := 1) (r := (0, 0, 0, 0)) (pc' := 67) (ls' := [some (.inl (some 0)), some (zi x), some (zi xk), some (.inl (some ((2 + v3391 + 1))))]) (st' := [.inl (some ((2 + v3391 + 1)))]) (by decide +kernel) (fun k q => by cases q) rfl ?_
  have hv3396 := (F3395 (2 + v3391 + 1) 1 (by omega)).trans hz
  refine y_get (j := 126) (len := 3) (r := (6, 1, 0, 20168)) (by decide +kernel) hg3395 ty3391.2.2.1 aw1002 rfl rfl hv3396 ?_
  refine y_rI (len := 1) (r := (0, 0, 0, 0)) (nL := 4) (k := 1) (n9 := 3) (hs := []) (by decide +kernel) rfl rfl ?_
  exact ⟨⟨_, hg3395⟩, _, jh3395, by omega⟩
theorem jp_ldrop1 {t k : Nat} {τ : List Nat} {h : zh} {cur : bsT} {hs : List bsT} {x xk : Int32} (hg : hG τ h) (rc : RC h cur hs) (r5 : hsl h 0 5 = some (.inl (some 2))) (hx : x.toInt = 1) (exk : xk.toInt = (k : Int)) (hk : k < cur.2.1.length) : qI 60 277 [some (.inl (some 0)), some (zi x), some (zi xk), some (.inl (some 388)), none] h t (fun y h1 => ci_ h1 35 5 0) := by
  refine qI_le (d := 32) (by decide) (qI_of ?_)
  refine y_same (i := .aload_n 3) (len := 1) (r := (0, 0, 0, 0)) (pc' := 1) (ls' := [some (.inl (some 0)), some (zi x), some (zi xk), some (.inl (some 388)), none]) (st' := [.inl (some 388)]) (by decide +kernel) (fun k q => by cases q) rfl ?_
  refine y_ic (c := 0) (len := 1) (r := (0, 0, 0, 0)) (by decide +kernel) (by decide) (fun y3397 hy3397 => ?_)
  refine y_same (i := .aload_n 0) (len := 1) (r := (0, 0, 0, 0)) (pc' := 3) (ls' := [some (.inl (some 0)), some (zi x), some (zi xk), some (.inl (some 388)), none]) (st' := [.inl (some 0), zi y3397, .inl (some 388)]) (by decide +kernel) (fun k q => by cases q) rfl ?_
  refine y_same (i := .iload_n 1) (len := 1) (r := (0, 0, 0, 0)) (pc' := 4) (ls' := [some (.inl (some 0)), some (zi x), some (zi xk), some (.inl (some 388)), none]) (st' := [zi x, .inl (some 0), zi y3397, .inl (some 388)]) (by decide +kernel) (fun k q => by cases q) rfl ?_
  refine y_same (i := .iload_n 2) (len := 1) (r := (0, 0, 0, 0)) (pc' := 5) (ls' := [some (.inl (some 0)), some (zi x), some (zi xk), some (.inl (some 388)), none]) (st' := [zi xk, zi x, .inl (some 0), zi y3397, .inl (some 388)]) (by decide +kernel) (fun k q => by cases q) rfl ?_
  refine y_cI (i := .invokevirtual 15) (len := 3) (r := (0, 136, 11, 1064)) (nL := 4) (k := 1) (n := 3) (hs := []) (args := [.inl (some 0), zi x, zi xk]) (rest := [zi y3397, .inl (some 388)]) (l0 := [some (.inl (some 0)), some (zi x), some (zi xk), none]) (by decide +kernel) (Or.inr (Or.inl ⟨_, rfl⟩)) rfl rfl rfl rfl (Nat.le_of_ble_eq_true rfl) (zO hg (tv0 hg) aw0 rfl) rfl (qI_le (by decide) (jp_drop1 hg rc r5 hx exk hk)) (fun y3398 h3398 hRy3398 => ?_)
  obtain ⟨⟨τ3398, hg3398⟩, jx, jh, je⟩ := hRy3398
  refine y_i2l2 (len := 1) (r := (0, 0, 0, 0)) (by decide +kernel) ?_
  refine y_las2 (i := 0) (len := 1) (r := (0, 0, 0, 0)) (by decide +kernel) hg3398 (t388 hg3398) aw388 rfl (by omega) (by omega) rfl (fun h3399 hg3399 hw3399 ho3399 => ?_)
  refine y_goto (off := 7) (pc' := 17) (len := 3) (r := (0, 0, 0, 0)) (by decide +kernel) (by decide +kernel) ?_
  refine y_ic (c := 0) (len := 1) (r := (0, 0, 0, 0)) (by decide +kernel) (by decide) (fun y3400 hy3400 => ?_)
  refine y_rI (len := 1) (r := (0, 0, 0, 0)) (nL := 5) (k := 1) (n9 := 4) (hs := [(0, 10, 13, 0)]) (by decide +kernel) rfl rfl ?_
  have hv3401 := (ho3399 35 5 (Or.inl (by omega))).trans jh
  exact ⟨_, hv3401, by omega⟩
theorem jp_forget0 {t k : Nat} {τ : List Nat} {h : zh} {cur : bsT} {hs : List bsT} {x xk : Int32} (hg : hG τ h) (rc : RC h cur hs) (r5 : hsl h 0 5 = some (.inl (some 2))) (hx : x.toInt = 0) (exk : xk.toInt = (k : Int)) (hk : k < cur.1.2.length) : qI 21 137 [some (.inl (some 0)), some (zi x), some (zi xk), none] h t (fun y h1 => (∃ τ1, hG τ1 h1) ∧ ci_ h1 35 5 0) := by
  refine qI_of ?_
  obtain ⟨-, ⟨uz, vz, huz, l2z, b2z⟩, -⟩ := id rc
  have uuz : (uz = 1 ∧ vz = 6) ∨ (uz = 6 ∧ vz = 1) := huz
  have tyz := ty_u (tyB_of hg huz (tv2 hg) b2z.1 b2z.2.1 l2z) huz
  have laz := lay_u l2z huz
  obtain ⟨⟨⟨xp0z, hp0z, ep0z⟩, ip0z⟩, ⟨xc0z, hc0z, ec0z⟩, ic0z⟩ := b2z.2.2.1
  obtain ⟨⟨⟨xp1z, hp1z, ep1z⟩, ip1z⟩, ⟨xc1z, hc1z, ec1z⟩, ic1z⟩ := b2z.2.2.2
  refine y_same (i := .aload_n 0) (len := 1) (r := (0, 0, 0, 0)) (pc' := 1) (ls' := [some (.inl (some 0)), some (zi x), some (zi xk), none]) (st' := [.inl (some 0)]) (by decide +kernel) (fun k q => by cases q) rfl ?_
  refine y_same (i := .iload_n 1) (len := 1) (r := (0, 0, 0, 0)) (pc' := 2) (ls' := [some (.inl (some 0)), some (zi x), some (zi xk), none]) (st' := [zi x, .inl (some 0)]) (by decide +kernel) (fun k q => by cases q) rfl ?_
  refine y_cI (i := .invokestatic 101) (len := 3) (r := (1, 156, 11, 1068)) (nL := 1) (k := 2) (n := 1) (hs := []) (args := [zi x]) (rest := [.inl (some 0)]) (l0 := [some (zi x)]) (by decide +kernel) (Or.inl ⟨_, rfl⟩) rfl rfl rfl rfl (Nat.le_of_ble_eq_true rfl) rfl rfl (qI_le (by decide) (c_isSide (d := 0))) (fun y3402 qy3402 hRy3402 => ?_)
  obtain ⟨rfl, hDy3402⟩ := hRy3402
  have ey3402 : y3402.toInt = 1 := by omega
  refine y_iF (c := .eq) (off := 25) (len := 3) (r := (0, 0, 0, 0)) (by decide +kernel) (acmpF (c := .eq) (by show ¬ (_ = _); omega)) ?_
  refine y_same (i := .aload_n 0) (len := 1) (r := (0, 0, 0, 0)) (pc' := 9) (ls' := [some (.inl (some 0)), some (zi x), some (zi xk), none]) (st' := [.inl (some 0), .inl (some 0)]) (by decide +kernel) (fun k q => by cases q) rfl ?_
  refine y_get (j := 29) (len := 3) (r := (11, 5, 2, 404)) (by decide +kernel) hg (tv0 hg) aw0 rfl rfl r5 ?_
  refine y_same (i := .iload_n 1) (len := 1) (r := (0, 0, 0, 0)) (pc' := 13) (ls' := [some (.inl (some 0)), some (zi x), some (zi xk), none]) (st' := [zi x, .inl (some 2), .inl (some 0)]) (by decide +kernel) (fun k q => by cases q) rfl ?_
  refine y_cA (i := .invokevirtual 105) (len := 3) (r := (0, 108, 9, 1071)) (nL := 2) (k := 3) (n := 2) (hs := []) (args := [.inl (some 2), zi x]) (rest := [.inl (some 0)]) (l0 := [some (.inl (some 2)), some (zi x)]) (by decide +kernel) (Or.inr (Or.inl ⟨_, rfl⟩)) rfl rfl rfl rfl (Nat.le_of_ble_eq_true rfl) (zO hg (tv2 hg) aw1000 rfl) rfl (qA_le (by decide) (c_side0 (d := 0) (u := uz) (v := vz) hg (by omega) b2z.1 b2z.2.1)) (fun q3403 hR3403 => ?_)
  obtain rfl := hR3403
  refine y_get (j := 129) (len := 3) (r := (8, 1, 2, 20188)) (by decide +kernel) hg tyz.1.1 aw1001 rfl rfl laz.1.2.1 ?_
  refine y_same (i := .iload_n 2) (len := 1) (r := (0, 0, 0, 0)) (pc' := 20) (ls' := [some (.inl (some 0)), some (zi x), some (zi xk), none]) (st' := [zi xk, .inl (some ((2 + uz + 3))), .inl (some 0)]) (by decide +kernel) (fun k q => by cases q) rfl ?_
  refine y_cI (i := .invokevirtual 115) (len := 3) (r := (0, 63, 6, 1075)) (nL := 2) (k := 2) (n := 2) (hs := []) (args := [.inl (some ((2 + uz + 3))), zi xk]) (rest := [.inl (some 0)]) (l0 := [some (.inl (some ((2 + uz + 3)))), some (zi xk)]) (by decide +kernel) (Or.inr (Or.inl ⟨_, rfl⟩)) rfl rfl rfl rfl (Nat.le_of_ble_eq_true rfl) (zO hg tyz.1.2.2.2.1 aw1003 rfl) rfl (qI_le (by decide) (c_has6 (d := 0) hg tyz.1.2.2.2.1 hc0z)) (fun y3404 qy3404 hRy3404 => ?_)
  obtain ⟨rfl, hDy3404⟩ := hRy3404
  have ey3404 : y3404.toInt = 1 := by omega
  refine y_iF (c := .eq) (off := 7) (len := 3) (r := (0, 0, 0, 0)) (by decide +kernel) (acmpF (c := .eq) (by show ¬ (_ = _); omega)) ?_
  refine y_ic (c := 1) (len := 1) (r := (0, 0, 0, 0)) (by decide +kernel) (by decide) (fun y3405 hy3405 => ?_)
  refine y_goto (off := 4) (pc' := 31) (len := 3) (r := (0, 0, 0, 0)) (by decide +kernel) (by decide +kernel) ?_
  refine y_cV (i := .invokevirtual 120) (len := 3) (r := (0, 152, 11, 1079)) (nL := 2) (k := 0) (n := 2) (hs := []) (args := [.inl (some 0), zi y3405]) (rest := []) (l0 := [some (.inl (some 0)), some (zi y3405)]) (by decide +kernel) (Or.inr (Or.inl ⟨_, rfl⟩)) rfl rfl rfl rfl (Nat.le_of_ble_eq_true rfl) (zO hg (tv0 hg) aw0 rfl) rfl (qV_le (by decide) (c_there (d := 0) (by omega))) (fun q3406 hR3406 => ?_)
  obtain rfl := hR3406
  refine y_same (i := .aload_n 0) (len := 1) (r := (0, 0, 0, 0)) (pc' := 35) (ls' := [some (.inl (some 0)), some (zi x), some (zi xk), none]) (st' := [.inl (some 0)]) (by decide +kernel) (fun k q => by cases q) rfl ?_
  refine y_get (j := 36) (len := 3) (r := (11, 6, 2, 405)) (by decide +kernel) hg (tv0 hg) aw0 rfl rfl (g_rU (f := 6) (T2 := 13) hg (tv0 hg) aw0 rfl (by decide)) ?_
  refine y_same (i := .aload_n 0) (len := 1) (r := (0, 0, 0, 0)) (pc' := 39) (ls' := [some (.inl (some 0)), some (zi x), some (zi xk), none]) (st' := [.inl (some 0), .inl (some 13)]) (by decide +kernel) (fun k q => by cases q) rfl ?_
  refine y_get (j := 29) (len := 3) (r := (11, 5, 2, 404)) (by decide +kernel) hg (tv0 hg) aw0 rfl rfl r5 ?_
  refine y_cV (i := .invokevirtual 83) (len := 3) (r := (0, 24, 2, 449)) (nL := 2) (k := 0) (n := 2) (hs := []) (args := [.inl (some 13), .inl (some 2)]) (rest := []) (l0 := [some (.inl (some 13)), some (.inl (some 2))]) (by decide +kernel) (Or.inr (Or.inl ⟨_, rfl⟩)) rfl rfl rfl rfl (Nat.le_of_ble_eq_true rfl) (zO hg (tv13 hg) aw13 rfl) rfl (qV_le (by decide) (e_keep hg rc)) (fun h3407 hR3407 => ?_)
  obtain ⟨τ3407, au3407, hg3407, rc3407, F3407⟩ := hR3407
  obtain ⟨-, ⟨u3407, v3407, hu3407, l23407, b23407⟩, -⟩ := id rc3407
  have uu3407 : (u3407 = 1 ∧ v3407 = 6) ∨ (u3407 = 6 ∧ v3407 = 1) := hu3407
  have ty3407 := ty_u (tyB_of hg3407 hu3407 (tv2 hg3407) b23407.1 b23407.2.1 l23407) hu3407
  have la3407 := lay_u l23407 hu3407
  obtain ⟨⟨⟨xp03407, hp03407, ep03407⟩, ip03407⟩, ⟨xc03407, hc03407, ec03407⟩, ic03407⟩ := b23407.2.2.1
  obtain ⟨⟨⟨xp13407, hp13407, ep13407⟩, ip13407⟩, ⟨xc13407, hc13407, ec13407⟩, ic13407⟩ := b23407.2.2.2
  refine y_same (i := .aload_n 0) (len := 1) (r := (0, 0, 0, 0)) (pc' := 46) (ls' := [some (.inl (some 0)), some (zi x), some (zi xk), none]) (st' := [.inl (some 0)]) (by decide +kernel) (fun k q => by cases q) rfl ?_
  have hv3408 := (F3407 0 5 (by omega)).trans r5
  refine y_get (j := 29) (len := 3) (r := (11, 5, 2, 404)) (by decide +kernel) hg3407 (tv0 hg3407) aw0 rfl rfl hv3408 ?_
  refine y_same (i := .iload_n 1) (len := 1) (r := (0, 0, 0, 0)) (pc' := 50) (ls' := [some (.inl (some 0)), some (zi x), some (zi xk), none]) (st' := [zi x, .inl (some 2)]) (by decide +kernel) (fun k q => by cases q) rfl ?_
  refine y_cA (i := .invokevirtual 105) (len := 3) (r := (0, 108, 9, 1071)) (nL := 2) (k := 3) (n := 2) (hs := []) (args := [.inl (some 2), zi x]) (rest := []) (l0 := [some (.inl (some 2)), some (zi x)]) (by decide +kernel) (Or.inr (Or.inl ⟨_, rfl⟩)) rfl rfl rfl rfl (Nat.le_of_ble_eq_true rfl) (zO hg3407 (tv2 hg3407) aw1000 rfl) rfl (qA_le (by decide) (c_side0 (d := 0) (u := u3407) (v := v3407) hg3407 (by omega) b23407.1 b23407.2.1)) (fun q3409 hR3409 => ?_)
  obtain rfl := hR3409
  refine y_get (j := 129) (len := 3) (r := (8, 1, 2, 20188)) (by decide +kernel) hg3407 ty3407.1.1 aw1001 rfl rfl la3407.1.2.1 ?_
  refine y_same (i := .astore_n 3) (len := 1) (r := (0, 0, 0, 0)) (pc' := 57) (ls' := [some (.inl (some 0)), some (zi x), some (zi xk), some (.inl (some ((2 + u3407 + 3))))]) (st' := []) (by decide +kernel) (fun k q => by cases q) rfl ?_
  refine y_same (i := .aload_n 3) (len := 1) (r := (0, 0, 0, 0)) (pc' := 58) (ls' := [some (.inl (some 0)), some (zi x), some (zi xk), some (.inl (some ((2 + u3407 + 3))))]) (st' := [.inl (some ((2 + u3407 + 3)))]) (by decide +kernel) (fun k q => by cases q) rfl ?_
  refine y_same (i := .iload_n 2) (len := 1) (r := (0, 0, 0, 0)) (pc' := 59) (ls' := [some (.inl (some 0)), some (zi x), some (zi xk), some (.inl (some ((2 + u3407 + 3))))]) (st' := [zi xk, .inl (some ((2 + u3407 + 3)))]) (by decide +kernel) (fun k q => by cases q) rfl ?_
  refine y_cV (i := .invokevirtual 123) (len := 3) (r := (0, 70, 6, 1099)) (nL := 3) (k := 0) (n := 2) (hs := []) (args := [.inl (some ((2 + u3407 + 3))), zi xk]) (rest := []) (l0 := [some (.inl (some ((2 + u3407 + 3)))), some (zi xk), none]) (by decide +kernel) (Or.inr (Or.inl ⟨_, rfl⟩)) rfl rfl rfl rfl (Nat.le_of_ble_eq_true rfl) (zO hg3407 ty3407.1.2.2.2.1 aw1003 rfl) rfl (qV_le (by decide) (e_rm6 (d := 0) (RA := (2 + u3407 + 3)) (IA := (2 + u3407 + 4)) hg3407 ty3407.1.2.2.2.1 ty3407.1.2.2.2.2 (by omega) la3407.1.2.2.2 b23407.2.2.1.2 exk (by omega))) (fun h3410 hR3410 => ?_)
  obtain ⟨hg3410, r3410, F3410⟩ := hR3410
  have rc3410 : RC h3410 ((cur.1.1, cur.1.2.eraseIdx k), (cur.2.1, cur.2.2)) (psh hs cur) := RC_set rc3407 ⟨u3407, v3407, hu3407, ⟨laS_up l23407.1 (fun k j h1 => F3410 k j (by omega)), laS_up l23407.2 (fun k j h1 => F3410 k j (by omega))⟩, rfs_up b23407.1 (F3410 _ _ (by omega)), rfs_up b23407.2.1 (F3410 _ _ (by omega)), ⟨rwC_up b23407.2.2.1.1 (F3410 _ _ (by omega)) (fun j => F3410 _ _ (by omega)), r3410⟩, sdC_up b23407.2.2.2 (fun k j h1 h2 => F3410 k j (by omega))⟩ (fun k j h1 => F3410 k j (by omega))
  obtain ⟨xz, hz, ez⟩ := r3410.1
  rw [List.length_eraseIdx_of_lt (by omega)] at ez
  refine y_same (i := .aload_n 0) (len := 1) (r := (0, 0, 0, 0)) (pc' := 63) (ls' := [some (.inl (some 0)), some (zi x), some (zi xk), some (.inl (some ((2 + u3407 + 3))))]) (st' := [.inl (some 0)]) (by decide +kernel) (fun k q => by cases q) rfl ?_
  refine y_cV (i := .invokevirtual 91) (len := 3) (r := (0, 154, 11, 474)) (nL := 1) (k := 0) (n := 1) (hs := []) (args := [.inl (some 0)]) (rest := []) (l0 := [some (.inl (some 0))]) (by decide +kernel) (Or.inr (Or.inl ⟨_, rfl⟩)) rfl rfl rfl rfl (Nat.le_of_ble_eq_true rfl) (zO hg3410 (tv0 hg3410) aw0 rfl) rfl (qV_le (by decide) (c_forgP (d := 0) hg3410)) (fun h3411 hR3411 => ?_)
  obtain ⟨hg3411, F3411, jx3411, jh3411, je3411⟩ := hR3411
  refine y_same (i := .aload_n 3) (len := 1) (r := (0, 0, 0, 0)) (pc' := 67) (ls' := [some (.inl (some 0)), some (zi x), some (zi xk), some (.inl (some ((2 + u3407 + 3))))]) (st' := [.inl (some ((2 + u3407 + 3)))]) (by decide +kernel) (fun k q => by cases q) rfl ?_
  have hv3412 := (F3411 (2 + u3407 + 3) 1 (by omega)).trans hz
  refine y_get (j := 126) (len := 3) (r := (6, 1, 0, 20168)) (by decide +kernel) hg3411 ty3407.1.2.2.2.1 aw1003 rfl rfl hv3412 ?_
  refine y_rI (len := 1) (r := (0, 0, 0, 0)) (nL := 4) (k := 1) (n9 := 3) (hs := []) (by decide +kernel) rfl rfl ?_
  exact ⟨⟨_, hg3411⟩, _, jh3411, by omega⟩
theorem jp_lforget0 {t k : Nat} {τ : List Nat} {h : zh} {cur : bsT} {hs : List bsT} {x xk : Int32} (hg : hG τ h) (rc : RC h cur hs) (r5 : hsl h 0 5 = some (.inl (some 2))) (hx : x.toInt = 0) (exk : xk.toInt = (k : Int)) (hk : k < cur.1.2.length) : qI 60 278 [some (.inl (some 0)), some (zi x), some (zi xk), some (.inl (some 388)), none] h t (fun y h1 => ci_ h1 35 5 0) := by
  refine qI_le (d := 32) (by decide) (qI_of ?_)
  refine y_same (i := .aload_n 3) (len := 1) (r := (0, 0, 0, 0)) (pc' := 1) (ls' := [some (.inl (some 0)), some (zi x), some (zi xk), some (.inl (some 388)), none]) (st' := [.inl (some 388)]) (by decide +kernel) (fun k q => by cases q) rfl ?_
  refine y_ic (c := 0) (len := 1) (r := (0, 0, 0, 0)) (by decide +kernel) (by decide) (fun y3413 hy3413 => ?_)
  refine y_same (i := .aload_n 0) (len := 1) (r := (0, 0, 0, 0)) (pc' := 3) (ls' := [some (.inl (some 0)), some (zi x), some (zi xk), some (.inl (some 388)), none]) (st' := [.inl (some 0), zi y3413, .inl (some 388)]) (by decide +kernel) (fun k q => by cases q) rfl ?_
  refine y_same (i := .iload_n 1) (len := 1) (r := (0, 0, 0, 0)) (pc' := 4) (ls' := [some (.inl (some 0)), some (zi x), some (zi xk), some (.inl (some 388)), none]) (st' := [zi x, .inl (some 0), zi y3413, .inl (some 388)]) (by decide +kernel) (fun k q => by cases q) rfl ?_
  refine y_same (i := .iload_n 2) (len := 1) (r := (0, 0, 0, 0)) (pc' := 5) (ls' := [some (.inl (some 0)), some (zi x), some (zi xk), some (.inl (some 388)), none]) (st' := [zi xk, zi x, .inl (some 0), zi y3413, .inl (some 388)]) (by decide +kernel) (fun k q => by cases q) rfl ?_
  refine y_cI (i := .invokevirtual 21) (len := 3) (r := (0, 137, 11, 1103)) (nL := 4) (k := 1) (n := 3) (hs := []) (args := [.inl (some 0), zi x, zi xk]) (rest := [zi y3413, .inl (some 388)]) (l0 := [some (.inl (some 0)), some (zi x), some (zi xk), none]) (by decide +kernel) (Or.inr (Or.inl ⟨_, rfl⟩)) rfl rfl rfl rfl (Nat.le_of_ble_eq_true rfl) (zO hg (tv0 hg) aw0 rfl) rfl (qI_le (by decide) (jp_forget0 hg rc r5 hx exk hk)) (fun y3414 h3414 hRy3414 => ?_)
  obtain ⟨⟨τ3414, hg3414⟩, jx, jh, je⟩ := hRy3414
  refine y_i2l2 (len := 1) (r := (0, 0, 0, 0)) (by decide +kernel) ?_
  refine y_las2 (i := 0) (len := 1) (r := (0, 0, 0, 0)) (by decide +kernel) hg3414 (t388 hg3414) aw388 rfl (by omega) (by omega) rfl (fun h3415 hg3415 hw3415 ho3415 => ?_)
  refine y_goto (off := 7) (pc' := 17) (len := 3) (r := (0, 0, 0, 0)) (by decide +kernel) (by decide +kernel) ?_
  refine y_ic (c := 0) (len := 1) (r := (0, 0, 0, 0)) (by decide +kernel) (by decide) (fun y3416 hy3416 => ?_)
  refine y_rI (len := 1) (r := (0, 0, 0, 0)) (nL := 5) (k := 1) (n9 := 4) (hs := [(0, 10, 13, 0)]) (by decide +kernel) rfl rfl ?_
  have hv3417 := (ho3415 35 5 (Or.inl (by omega))).trans jh
  exact ⟨_, hv3417, by omega⟩
theorem jp_forget1 {t k : Nat} {τ : List Nat} {h : zh} {cur : bsT} {hs : List bsT} {x xk : Int32} (hg : hG τ h) (rc : RC h cur hs) (r5 : hsl h 0 5 = some (.inl (some 2))) (hx : x.toInt = 1) (exk : xk.toInt = (k : Int)) (hk : k < cur.2.2.length) : qI 21 137 [some (.inl (some 0)), some (zi x), some (zi xk), none] h t (fun y h1 => (∃ τ1, hG τ1 h1) ∧ ci_ h1 35 5 0) := by
  refine qI_of ?_
  obtain ⟨-, ⟨uz, vz, huz, l2z, b2z⟩, -⟩ := id rc
  have uuz : (uz = 1 ∧ vz = 6) ∨ (uz = 6 ∧ vz = 1) := huz
  have tyz := ty_u (tyB_of hg huz (tv2 hg) b2z.1 b2z.2.1 l2z) huz
  have laz := lay_u l2z huz
  obtain ⟨⟨⟨xp0z, hp0z, ep0z⟩, ip0z⟩, ⟨xc0z, hc0z, ec0z⟩, ic0z⟩ := b2z.2.2.1
  obtain ⟨⟨⟨xp1z, hp1z, ep1z⟩, ip1z⟩, ⟨xc1z, hc1z, ec1z⟩, ic1z⟩ := b2z.2.2.2
  refine y_same (i := .aload_n 0) (len := 1) (r := (0, 0, 0, 0)) (pc' := 1) (ls' := [some (.inl (some 0)), some (zi x), some (zi xk), none]) (st' := [.inl (some 0)]) (by decide +kernel) (fun k q => by cases q) rfl ?_
  refine y_same (i := .iload_n 1) (len := 1) (r := (0, 0, 0, 0)) (pc' := 2) (ls' := [some (.inl (some 0)), some (zi x), some (zi xk), none]) (st' := [zi x, .inl (some 0)]) (by decide +kernel) (fun k q => by cases q) rfl ?_
  refine y_cI (i := .invokestatic 101) (len := 3) (r := (1, 156, 11, 1068)) (nL := 1) (k := 2) (n := 1) (hs := []) (args := [zi x]) (rest := [.inl (some 0)]) (l0 := [some (zi x)]) (by decide +kernel) (Or.inl ⟨_, rfl⟩) rfl rfl rfl rfl (Nat.le_of_ble_eq_true rfl) rfl rfl (qI_le (by decide) (c_isSide (d := 0))) (fun y3418 qy3418 hRy3418 => ?_)
  obtain ⟨rfl, hDy3418⟩ := hRy3418
  have ey3418 : y3418.toInt = 1 := by omega
  refine y_iF (c := .eq) (off := 25) (len := 3) (r := (0, 0, 0, 0)) (by decide +kernel) (acmpF (c := .eq) (by show ¬ (_ = _); omega)) ?_
  refine y_same (i := .aload_n 0) (len := 1) (r := (0, 0, 0, 0)) (pc' := 9) (ls' := [some (.inl (some 0)), some (zi x), some (zi xk), none]) (st' := [.inl (some 0), .inl (some 0)]) (by decide +kernel) (fun k q => by cases q) rfl ?_
  refine y_get (j := 29) (len := 3) (r := (11, 5, 2, 404)) (by decide +kernel) hg (tv0 hg) aw0 rfl rfl r5 ?_
  refine y_same (i := .iload_n 1) (len := 1) (r := (0, 0, 0, 0)) (pc' := 13) (ls' := [some (.inl (some 0)), some (zi x), some (zi xk), none]) (st' := [zi x, .inl (some 2), .inl (some 0)]) (by decide +kernel) (fun k q => by cases q) rfl ?_
  refine y_cA (i := .invokevirtual 105) (len := 3) (r := (0, 108, 9, 1071)) (nL := 2) (k := 3) (n := 2) (hs := []) (args := [.inl (some 2), zi x]) (rest := [.inl (some 0)]) (l0 := [some (.inl (some 2)), some (zi x)]) (by decide +kernel) (Or.inr (Or.inl ⟨_, rfl⟩)) rfl rfl rfl rfl (Nat.le_of_ble_eq_true rfl) (zO hg (tv2 hg) aw1000 rfl) rfl (qA_le (by decide) (c_side1 (d := 0) (u := uz) (v := vz) hg (by omega) b2z.1 b2z.2.1)) (fun q3419 hR3419 => ?_)
  obtain rfl := hR3419
  refine y_get (j := 129) (len := 3) (r := (8, 1, 2, 20188)) (by decide +kernel) hg tyz.2.1 aw1001 rfl rfl laz.2.2.1 ?_
  refine y_same (i := .iload_n 2) (len := 1) (r := (0, 0, 0, 0)) (pc' := 20) (ls' := [some (.inl (some 0)), some (zi x), some (zi xk), none]) (st' := [zi xk, .inl (some ((2 + vz + 3))), .inl (some 0)]) (by decide +kernel) (fun k q => by cases q) rfl ?_
  refine y_cI (i := .invokevirtual 115) (len := 3) (r := (0, 63, 6, 1075)) (nL := 2) (k := 2) (n := 2) (hs := []) (args := [.inl (some ((2 + vz + 3))), zi xk]) (rest := [.inl (some 0)]) (l0 := [some (.inl (some ((2 + vz + 3)))), some (zi xk)]) (by decide +kernel) (Or.inr (Or.inl ⟨_, rfl⟩)) rfl rfl rfl rfl (Nat.le_of_ble_eq_true rfl) (zO hg tyz.2.2.2.2.1 aw1003 rfl) rfl (qI_le (by decide) (c_has6 (d := 0) hg tyz.2.2.2.2.1 hc1z)) (fun y3420 qy3420 hRy3420 => ?_)
  obtain ⟨rfl, hDy3420⟩ := hRy3420
  have ey3420 : y3420.toInt = 1 := by omega
  refine y_iF (c := .eq) (off := 7) (len := 3) (r := (0, 0, 0, 0)) (by decide +kernel) (acmpF (c := .eq) (by show ¬ (_ = _); omega)) ?_
  refine y_ic (c := 1) (len := 1) (r := (0, 0, 0, 0)) (by decide +kernel) (by decide) (fun y3421 hy3421 => ?_)
  refine y_goto (off := 4) (pc' := 31) (len := 3) (r := (0, 0, 0, 0)) (by decide +kernel) (by decide +kernel) ?_
  refine y_cV (i := .invokevirtual 120) (len := 3) (r := (0, 152, 11, 1079)) (nL := 2) (k := 0) (n := 2) (hs := []) (args := [.inl (some 0), zi y3421]) (rest := []) (l0 := [some (.inl (some 0)), some (zi y3421)]) (by decide +kernel) (Or.inr (Or.inl ⟨_, rfl⟩)) rfl rfl rfl rfl (Nat.le_of_ble_eq_true rfl) (zO hg (tv0 hg) aw0 rfl) rfl (qV_le (by decide) (c_there (d := 0) (by omega))) (fun q3422 hR3422 => ?_)
  obtain rfl := hR3422
  refine y_same (i := .aload_n 0) (len := 1) (r := (0, 0, 0, 0)) (pc' := 35) (ls' := [some (.inl (some 0)), some (zi x), some (zi xk), none]) (st' := [.inl (some 0)]) (by decide +kernel) (fun k q => by cases q) rfl ?_
  refine y_get (j := 36) (len := 3) (r := (11, 6, 2, 405)) (by decide +kernel) hg (tv0 hg) aw0 rfl rfl (g_rU (f := 6) (T2 := 13) hg (tv0 hg) aw0 rfl (by decide)) ?_
  refine y_same (i := .aload_n 0) (len := 1) (r := (0, 0, 0, 0)) (pc' := 39) (ls' := [some (.inl (some 0)), some (zi x), some (zi xk), none]) (st' := [.inl (some 0), .inl (some 13)]) (by decide +kernel) (fun k q => by cases q) rfl ?_
  refine y_get (j := 29) (len := 3) (r := (11, 5, 2, 404)) (by decide +kernel) hg (tv0 hg) aw0 rfl rfl r5 ?_
  refine y_cV (i := .invokevirtual 83) (len := 3) (r := (0, 24, 2, 449)) (nL := 2) (k := 0) (n := 2) (hs := []) (args := [.inl (some 13), .inl (some 2)]) (rest := []) (l0 := [some (.inl (some 13)), some (.inl (some 2))]) (by decide +kernel) (Or.inr (Or.inl ⟨_, rfl⟩)) rfl rfl rfl rfl (Nat.le_of_ble_eq_true rfl) (zO hg (tv13 hg) aw13 rfl) rfl (qV_le (by decide) (e_keep hg rc)) (fun h3423 hR3423 => ?_)
  obtain ⟨τ3423, au3423, hg3423, rc3423, F3423⟩ := hR3423
  obtain ⟨-, ⟨u3423, v3423, hu3423, l23423, b23423⟩, -⟩ := id rc3423
  have uu3423 : (u3423 = 1 ∧ v3423 = 6) ∨ (u3423 = 6 ∧ v3423 = 1) := hu3423
  have ty3423 := ty_u (tyB_of hg3423 hu3423 (tv2 hg3423) b23423.1 b23423.2.1 l23423) hu3423
  have la3423 := lay_u l23423 hu3423
  obtain ⟨⟨⟨xp03423, hp03423, ep03423⟩, ip03423⟩, ⟨xc03423, hc03423, ec03423⟩, ic03423⟩ := b23423.2.2.1
  obtain ⟨⟨⟨xp13423, hp13423, ep13423⟩, ip13423⟩, ⟨xc13423, hc13423, ec13423⟩, ic13423⟩ := b23423.2.2.2
  refine y_same (i := .aload_n 0) (len := 1) (r := (0, 0, 0, 0)) (pc' := 46) (ls' := [some (.inl (some 0)), some (zi x), some (zi xk), none]) (st' := [.inl (some 0)]) (by decide +kernel) (fun k q => by cases q) rfl ?_
  have hv3424 := (F3423 0 5 (by omega)).trans r5
  refine y_get (j := 29) (len := 3) (r := (11, 5, 2, 404)) (by decide +kernel) hg3423 (tv0 hg3423) aw0 rfl rfl hv3424 ?_
  refine y_same (i := .iload_n 1) (len := 1) (r := (0, 0, 0, 0)) (pc' := 50) (ls' := [some (.inl (some 0)), some (zi x), some (zi xk), none]) (st' := [zi x, .inl (some 2)]) (by decide +kernel) (fun k q => by cases q) rfl ?_
  refine y_cA (i := .invokevirtual 105) (len := 3) (r := (0, 108, 9, 1071)) (nL := 2) (k := 3) (n := 2) (hs := []) (args := [.inl (some 2), zi x]) (rest := []) (l0 := [some (.inl (some 2)), some (zi x)]) (by decide +kernel) (Or.inr (Or.inl ⟨_, rfl⟩)) rfl rfl rfl rfl (Nat.le_of_ble_eq_true rfl) (zO hg3423 (tv2 hg3423) aw1000 rfl) rfl (qA_le (by decide) (c_side1 (d := 0) (u := u3423) (v := v3423) hg3423 (by omega) b23423.1 b23423.2.1)) (fun q3425 hR3425 => ?_)
  obtain rfl := hR3425
  refine y_get (j := 129) (len := 3) (r := (8, 1, 2, 20188)) (by decide +kernel) hg3423 ty3423.2.1 aw1001 rfl rfl la3423.2.2.1 ?_
  refine y_same (i := .astore_n 3) (len := 1) (r := (0, 0, 0, 0)) (pc' := 57) (ls' := [some (.inl (some 0)), some (zi x), some (zi xk), some (.inl (some ((2 + v3423 + 3))))]) (st' := []) (by decide +kernel) (fun k q => by cases q) rfl ?_
  refine y_same (i := .aload_n 3) (len := 1) (r := (0, 0, 0, 0)) (pc' := 58) (ls' := [some (.inl (some 0)), some (zi x), some (zi xk), some (.inl (some ((2 + v3423 + 3))))]) (st' := [.inl (some ((2 + v3423 + 3)))]) (by decide +kernel) (fun k q => by cases q) rfl ?_
  refine y_same (i := .iload_n 2) (len := 1) (r := (0, 0, 0, 0)) (pc' := 59) (ls' := [some (.inl (some 0)), some (zi x), some (zi xk), some (.inl (some ((2 + v3423 + 3))))]) (st' := [zi xk, .inl (some ((2 + v3423 + 3)))]) (by decide +kernel) (fun k q => by cases q) rfl ?_
  refine y_cV (i := .invokevirtual 123) (len := 3) (r := (0, 70, 6, 1099)) (nL := 3) (k := 0) (n := 2) (hs := []) (args := [.inl (some ((2 + v3423 + 3))), zi xk]) (rest := []) (l0 := [some (.inl (some ((2 + v3423 + 3)))), some (zi xk), none]) (by decide +kernel) (Or.inr (Or.inl ⟨_, rfl⟩)) rfl rfl rfl rfl (Nat.le_of_ble_eq_true rfl) (zO hg3423 ty3423.2.2.2.2.1 aw1003 rfl) rfl (qV_le (by decide) (e_rm6 (d := 0) (RA := (2 + v3423 + 3)) (IA := (2 + v3423 + 4)) hg3423 ty3423.2.2.2.2.1 ty3423.2.2.2.2.2 (by omega) la3423.2.2.2.2 b23423.2.2.2.2 exk (by omega))) (fun h3426 hR3426 => ?_)
  obtain ⟨hg3426, r3426, F3426⟩ := hR3426
  have rc3426 : RC h3426 ((cur.1.1, cur.1.2), (cur.2.1, cur.2.2.eraseIdx k)) (psh hs cur) := RC_set rc3423 ⟨u3423, v3423, hu3423, ⟨laS_up l23423.1 (fun k j h1 => F3426 k j (by omega)), laS_up l23423.2 (fun k j h1 => F3426 k j (by omega))⟩, rfs_up b23423.1 (F3426 _ _ (by omega)), rfs_up b23423.2.1 (F3426 _ _ (by omega)), sdC_up b23423.2.2.1 (fun k j h1 h2 => F3426 k j (by omega)), ⟨rwC_up b23423.2.2.2.1 (F3426 _ _ (by omega)) (fun j => F3426 _ _ (by omega)), r3426⟩⟩ (fun k j h1 => F3426 k j (by omega))
  obtain ⟨xz, hz, ez⟩ := r3426.1
  rw [List.length_eraseIdx_of_lt (by omega)] at ez
  refine y_same (i := .aload_n 0) (len := 1) (r := (0, 0, 0, 0)) (pc' := 63) (ls' := [some (.inl (some 0)), some (zi x), some (zi xk), some (.inl (some ((2 + v3423 + 3))))]) (st' := [.inl (some 0)]) (by decide +kernel) (fun k q => by cases q) rfl ?_
  refine y_cV (i := .invokevirtual 91) (len := 3) (r := (0, 154, 11, 474)) (nL := 1) (k := 0) (n := 1) (hs := []) (args := [.inl (some 0)]) (rest := []) (l0 := [some (.inl (some 0))]) (by decide +kernel) (Or.inr (Or.inl ⟨_, rfl⟩)) rfl rfl rfl rfl (Nat.le_of_ble_eq_true rfl) (zO hg3426 (tv0 hg3426) aw0 rfl) rfl (qV_le (by decide) (c_forgP (d := 0) hg3426)) (fun h3427 hR3427 => ?_)
  obtain ⟨hg3427, F3427, jx3427, jh3427, je3427⟩ := hR3427
  refine y_same (i := .aload_n 3) (len := 1) (r := (0, 0, 0, 0)) (pc' := 67) (ls' := [some (.inl (some 0)), some (zi x), some (zi xk), some (.inl (some ((2 + v3423 + 3))))]) (st' := [.inl (some ((2 + v3423 + 3)))]) (by decide +kernel) (fun k q => by cases q) rfl ?_
  have hv3428 := (F3427 (2 + v3423 + 3) 1 (by omega)).trans hz
  refine y_get (j := 126) (len := 3) (r := (6, 1, 0, 20168)) (by decide +kernel) hg3427 ty3423.2.2.2.2.1 aw1003 rfl rfl hv3428 ?_
  refine y_rI (len := 1) (r := (0, 0, 0, 0)) (nL := 4) (k := 1) (n9 := 3) (hs := []) (by decide +kernel) rfl rfl ?_
  exact ⟨⟨_, hg3427⟩, _, jh3427, by omega⟩
theorem jp_lforget1 {t k : Nat} {τ : List Nat} {h : zh} {cur : bsT} {hs : List bsT} {x xk : Int32} (hg : hG τ h) (rc : RC h cur hs) (r5 : hsl h 0 5 = some (.inl (some 2))) (hx : x.toInt = 1) (exk : xk.toInt = (k : Int)) (hk : k < cur.2.2.length) : qI 60 278 [some (.inl (some 0)), some (zi x), some (zi xk), some (.inl (some 388)), none] h t (fun y h1 => ci_ h1 35 5 0) := by
  refine qI_le (d := 32) (by decide) (qI_of ?_)
  refine y_same (i := .aload_n 3) (len := 1) (r := (0, 0, 0, 0)) (pc' := 1) (ls' := [some (.inl (some 0)), some (zi x), some (zi xk), some (.inl (some 388)), none]) (st' := [.inl (some 388)]) (by decide +kernel) (fun k q => by cases q) rfl ?_
  refine y_ic (c := 0) (len := 1) (r := (0, 0, 0, 0)) (by decide +kernel) (by decide) (fun y3429 hy3429 => ?_)
  refine y_same (i := .aload_n 0) (len := 1) (r := (0, 0, 0, 0)) (pc' := 3) (ls' := [some (.inl (some 0)), some (zi x), some (zi xk), some (.inl (some 388)), none]) (st' := [.inl (some 0), zi y3429, .inl (some 388)]) (by decide +kernel) (fun k q => by cases q) rfl ?_
  refine y_same (i := .iload_n 1) (len := 1) (r := (0, 0, 0, 0)) (pc' := 4) (ls' := [some (.inl (some 0)), some (zi x), some (zi xk), some (.inl (some 388)), none]) (st' := [zi x, .inl (some 0), zi y3429, .inl (some 388)]) (by decide +kernel) (fun k q => by cases q) rfl ?_
  refine y_same (i := .iload_n 2) (len := 1) (r := (0, 0, 0, 0)) (pc' := 5) (ls' := [some (.inl (some 0)), some (zi x), some (zi xk), some (.inl (some 388)), none]) (st' := [zi xk, zi x, .inl (some 0), zi y3429, .inl (some 388)]) (by decide +kernel) (fun k q => by cases q) rfl ?_
  refine y_cI (i := .invokevirtual 21) (len := 3) (r := (0, 137, 11, 1103)) (nL := 4) (k := 1) (n := 3) (hs := []) (args := [.inl (some 0), zi x, zi xk]) (rest := [zi y3429, .inl (some 388)]) (l0 := [some (.inl (some 0)), some (zi x), some (zi xk), none]) (by decide +kernel) (Or.inr (Or.inl ⟨_, rfl⟩)) rfl rfl rfl rfl (Nat.le_of_ble_eq_true rfl) (zO hg (tv0 hg) aw0 rfl) rfl (qI_le (by decide) (jp_forget1 hg rc r5 hx exk hk)) (fun y3430 h3430 hRy3430 => ?_)
  obtain ⟨⟨τ3430, hg3430⟩, jx, jh, je⟩ := hRy3430
  refine y_i2l2 (len := 1) (r := (0, 0, 0, 0)) (by decide +kernel) ?_
  refine y_las2 (i := 0) (len := 1) (r := (0, 0, 0, 0)) (by decide +kernel) hg3430 (t388 hg3430) aw388 rfl (by omega) (by omega) rfl (fun h3431 hg3431 hw3431 ho3431 => ?_)
  refine y_goto (off := 7) (pc' := 17) (len := 3) (r := (0, 0, 0, 0)) (by decide +kernel) (by decide +kernel) ?_
  refine y_ic (c := 0) (len := 1) (r := (0, 0, 0, 0)) (by decide +kernel) (by decide) (fun y3432 hy3432 => ?_)
  refine y_rI (len := 1) (r := (0, 0, 0, 0)) (nL := 5) (k := 1) (n9 := 4) (hs := [(0, 10, 13, 0)]) (by decide +kernel) rfl rfl ?_
  have hv3433 := (ho3431 35 5 (Or.inl (by omega))).trans jh
  exact ⟨_, hv3433, by omega⟩
theorem jp_text {t n T : Nat} {b : Nat → Int} {τ : List Nat} {h : zh} {xn xT : Int32} {cur : bsT} {hs : List bsT} (hg : hG τ h) (rc : RC h cur hs) (r5 : hsl h 0 5 = some (.inl (some 2))) (al : alC h) (hT : hsl h 0 1 = some (zi xT)) (eT : xT.toInt = (T : Int)) (hT2 : T ≤ 200) (en : xn.toInt = (n : Int)) (hn : n ≤ T) (hb : ∀ j, j < n → ∃ x : Int32, hsl h 1 j = some (zi x) ∧ x.toInt = b j) : qI 30 133 [some (.inl (some 0)), some (zi xn), none] h t (fun y h1 => (∃ τ1, hG τ1 h1) ∧ kpPC h h1 ∧ kpPM h h1 ∧ hsl h1 52 31 = hsl h 52 31 ∧ ((∃ r, wAll b n = .inl r) ∧ hsl h1 35 5 = hsl h 35 5 ∨ ci_ h1 35 5 0)) := by
  refine qI_of ?_
  refine y_same (i := .aload_n 0) (len := 1) (r := (0, 0, 0, 0)) (pc' := 1) (ls' := [some (.inl (some 0)), some (zi xn), none]) (st' := [.inl (some 0)]) (by decide +kernel) (fun k q => by cases q) rfl ?_
  refine y_same (i := .iload_n 1) (len := 1) (r := (0, 0, 0, 0)) (pc' := 2) (ls' := [some (.inl (some 0)), some (zi xn), none]) (st' := [zi xn, .inl (some 0)]) (by decide +kernel) (fun k q => by cases q) rfl ?_
  refine y_iF (c := .lt) (off := 15) (len := 3) (r := (0, 0, 0, 0)) (by decide +kernel) (acmpF (c := .lt) (by show _ ≤ _; omega)) ?_
  refine y_same (i := .iload_n 1) (len := 1) (r := (0, 0, 0, 0)) (pc' := 6) (ls' := [some (.inl (some 0)), some (zi xn), none]) (st' := [zi xn, .inl (some 0)]) (by decide +kernel) (fun k q => by cases q) rfl ?_
  refine y_same (i := .aload_n 0) (len := 1) (r := (0, 0, 0, 0)) (pc' := 7) (ls' := [some (.inl (some 0)), some (zi xn), none]) (st' := [.inl (some 0), zi xn, .inl (some 0)]) (by decide +kernel) (fun k q => by cases q) rfl ?_
  refine y_get (j := 13) (len := 3) (r := (11, 1, 0, 400)) (by decide +kernel) hg (tv0 hg) aw0 rfl rfl hT ?_
  refine y_cF (c := .gt) (off := 7) (len := 3) (r := (0, 0, 0, 0)) (by decide +kernel) (acmpF (c := .gt) (by show _ ≤ _; omega)) ?_
  refine y_ic (c := 1) (len := 1) (r := (0, 0, 0, 0)) (by decide +kernel) (by decide) (fun y3434 hy3434 => ?_)
  refine y_goto (off := 4) (pc' := 18) (len := 3) (r := (0, 0, 0, 0)) (by decide +kernel) (by decide +kernel) ?_
  refine y_cV (i := .invokevirtual 70) (len := 3) (r := (0, 153, 11, 852)) (nL := 2) (k := 0) (n := 2) (hs := []) (args := [.inl (some 0), zi y3434]) (rest := []) (l0 := [some (.inl (some 0)), some (zi y3434)]) (by decide +kernel) (Or.inr (Or.inl ⟨_, rfl⟩)) rfl rfl rfl rfl (Nat.le_of_ble_eq_true rfl) (zO hg (tv0 hg) aw0 rfl) rfl (qV_le (by decide) (c_fit (d := 0) (by omega))) (fun q3435 hR3435 => ?_)
  obtain rfl := hR3435
  refine y_same (i := .aload_n 0) (len := 1) (r := (0, 0, 0, 0)) (pc' := 22) (ls' := [some (.inl (some 0)), some (zi xn), none]) (st' := [.inl (some 0)]) (by decide +kernel) (fun k q => by cases q) rfl ?_
  refine y_ic (c := 0) (len := 1) (r := (0, 0, 0, 0)) (by decide +kernel) (by decide) (fun y3436 hy3436 => ?_)
  refine y_put (j := 13) (lo := 0) (hi := 200) (len := 3) (r := (11, 1, 0, 400)) (by decide +kernel) hg (tv0 hg) aw0 rfl rfl (by decide) rfl (by omega) (by omega) rfl (fun h3437 hg3437 hl3437 hs3437 ho3437 => ?_)
  have ho3437 : hO 0 1 h h3437 := ho3437
  have hs3437 : hsl h3437 0 1 = some (zi y3436) := hs3437
  refine y_same (i := .aload_n 0) (len := 1) (r := (0, 0, 0, 0)) (pc' := 27) (ls' := [some (.inl (some 0)), some (zi xn), none]) (st' := [.inl (some 0)]) (by decide +kernel) (fun k q => by cases q) rfl ?_
  refine y_get (j := 43) (len := 3) (r := (11, 7, 2, 406)) (by decide +kernel) hg3437 (tv0 hg3437) aw0 rfl rfl (g_rU (f := 7) (T2 := 15) hg3437 (tv0 hg3437) aw0 rfl (by decide)) ?_
  refine y_same (i := .aload_n 0) (len := 1) (r := (0, 0, 0, 0)) (pc' := 31) (ls' := [some (.inl (some 0)), some (zi xn), none]) (st' := [.inl (some 0), .inl (some 15)]) (by decide +kernel) (fun k q => by cases q) rfl ?_
  refine y_get (j := 9) (len := 3) (r := (11, 0, 2, 399)) (by decide +kernel) hg3437 (tv0 hg3437) aw0 rfl rfl (g_rU (f := 0) (T2 := 1) hg3437 (tv0 hg3437) aw0 rfl (by decide)) ?_
  refine y_same (i := .iload_n 1) (len := 1) (r := (0, 0, 0, 0)) (pc' := 35) (ls' := [some (.inl (some 0)), some (zi xn), none]) (st' := [zi xn, .inl (some 1), .inl (some 15)]) (by decide +kernel) (fun k q => by cases q) rfl ?_
  have al3438 : alC h3437 := ⟨(ho3437 15 0 (Or.inl (by omega))).trans al.1, (ho3437 16 0 (Or.inl (by omega))).trans al.2.1, (ho3437 16 1 (Or.inl (by omega))).trans al.2.2.1, (ho3437 17 0 (Or.inl (by omega))).trans al.2.2.2.1, (ho3437 17 1 (Or.inl (by omega))).trans al.2.2.2.2.1, (ho3437 22 0 (Or.inl (by omega))).trans al.2.2.2.2.2.1, (ho3437 22 1 (Or.inl (by omega))).trans al.2.2.2.2.2.2.1, (ho3437 18 0 (Or.inl (by omega))).trans al.2.2.2.2.2.2.2.1, (ho3437 20 0 (Or.inl (by omega))).trans al.2.2.2.2.2.2.2.2.1, (ho3437 23 0 (Or.inl (by omega))).trans al.2.2.2.2.2.2.2.2.2.1, (ho3437 25 0 (Or.inl (by omega))).trans al.2.2.2.2.2.2.2.2.2.2⟩
  have hb3438 : ∀ j, j < n → ∃ x : Int32, hsl h3437 1 j = some (zi x) ∧ x.toInt = b j := by
    intro j hj
    obtain ⟨x, e1, e2⟩ := hb j hj
    exact ⟨x, (ho3437 1 j (Or.inl (by omega))).trans e1, e2⟩
  have rc03438 : RC h3437 cur hs := (RC_up rc (fun k j h1 => (ho3437 k j (by omega))))
  refine y_cI (i := .invokevirtual 73) (len := 3) (r := (0, 46, 5, 923)) (nL := 3) (k := 2) (n := 3) (hs := []) (args := [.inl (some 15), .inl (some 1), zi xn]) (rest := []) (l0 := [some (.inl (some 15)), some (.inl (some 1)), some (zi xn)]) (by decide +kernel) (Or.inr (Or.inl ⟨_, rfl⟩)) rfl rfl rfl rfl (Nat.le_of_ble_eq_true rfl) (zO hg3437 (tv15 hg3437) aw15 rfl) rfl (qI_le (by decide) (e_read hg3437 al3438 en (by omega) hb3438)) (fun y3438 h3438 hRy3438 => ?_)
  obtain ⟨τ3438, O3438, hD3438⟩ := hRy3438
  have rc3438 : RC h3438 cur hs := RC_upT hg3437 rc03438 (fun k T j hk _ hC => O3438.2.2 k T j hk (show (k ≠ 15 ∨ j < 2) ∧ k ≠ 27 ∧ k ≠ 19 ∧ k ≠ 21 ∧ k ≠ 24 ∧ k ≠ 26 ∧ ((k ≠ 18 ∧ k ≠ 20 ∧ k ≠ 23 ∧ k ≠ 25) ∨ j ≠ 1) by omega))
  rcases hD3438 with ⟨lp3438, lc3438, rp3438, rr3438, e3438, hy3438, ⟨xw3438, hw3438, ew3438⟩, w13438, w23438, w33438, w43438⟩ | ⟨r3438, q3438, e3438, hy3438, ⟨xr3438, hr3438, er3438⟩, ⟨xw3438, hw3438, ew3438⟩⟩
  ·
    refine y_same (i := .istore_n 2) (len := 1) (r := (0, 0, 0, 0)) (pc' := 39) (ls' := [some (.inl (some 0)), some (zi xn), some (zi y3438)]) (st' := []) (by decide +kernel) (fun k q => by cases q) rfl ?_
    refine y_same (i := .aload_n 0) (len := 1) (r := (0, 0, 0, 0)) (pc' := 40) (ls' := [some (.inl (some 0)), some (zi xn), some (zi y3438)]) (st' := [.inl (some 0)]) (by decide +kernel) (fun k q => by cases q) rfl ?_
    refine y_same (i := .aload_n 0) (len := 1) (r := (0, 0, 0, 0)) (pc' := 41) (ls' := [some (.inl (some 0)), some (zi xn), some (zi y3438)]) (st' := [.inl (some 0), .inl (some 0)]) (by decide +kernel) (fun k q => by cases q) rfl ?_
    refine y_get (j := 43) (len := 3) (r := (11, 7, 2, 406)) (by decide +kernel) O3438.2.1 (tv0 O3438.2.1) aw0 rfl rfl (g_rU (f := 7) (T2 := 15) O3438.2.1 (tv0 O3438.2.1) aw0 rfl (by decide)) ?_
    refine y_get (j := 77) (len := 3) (r := (5, 5, 0, 20247)) (by decide +kernel) O3438.2.1 (tv15 O3438.2.1) aw15 rfl rfl hw3438 ?_
    refine y_put (j := 17) (lo := (-2147483648)) (hi := 2147483647) (len := 3) (r := (11, 2, 0, 401)) (by decide +kernel) O3438.2.1 (tv0 O3438.2.1) aw0 rfl rfl (by decide) rfl (qin_full _).1 (qin_full _).2 rfl (fun h3439 hg3439 hl3439 hs3439 ho3439 => ?_)
    have ho3439 : hO 0 2 h3438 h3439 := ho3439
    have hs3439 : hsl h3439 0 2 = some (zi xw3438) := hs3439
    refine y_same (i := .iload_n 2) (len := 1) (r := (0, 0, 0, 0)) (pc' := 51) (ls' := [some (.inl (some 0)), some (zi xn), some (zi y3438)]) (st' := [zi y3438]) (by decide +kernel) (fun k q => by cases q) rfl ?_
    refine y_iT (c := .ne) (off := 14) (pc' := 65) (len := 3) (r := (0, 0, 0, 0)) (by decide +kernel) (acmpT (c := .ne) (by show ¬ (_ = _); omega)) (by decide +kernel) ?_
    refine y_same (i := .aload_n 0) (len := 1) (r := (0, 0, 0, 0)) (pc' := 66) (ls' := [some (.inl (some 0)), some (zi xn), some (zi y3438)]) (st' := [.inl (some 0)]) (by decide +kernel) (fun k q => by cases q) rfl ?_
    refine y_get (j := 36) (len := 3) (r := (11, 6, 2, 405)) (by decide +kernel) hg3439 (tv0 hg3439) aw0 rfl rfl (g_rU (f := 6) (T2 := 13) hg3439 (tv0 hg3439) aw0 rfl (by decide)) ?_
    refine y_same (i := .aload_n 0) (len := 1) (r := (0, 0, 0, 0)) (pc' := 70) (ls' := [some (.inl (some 0)), some (zi xn), some (zi y3438)]) (st' := [.inl (some 0), .inl (some 13)]) (by decide +kernel) (fun k q => by cases q) rfl ?_
    have hv3440 := (ho3437 0 5 (Or.inr (by omega))).trans r5
    have hv3441 := (O3438.2.2 0 0 5 (tv0 hg3437) (show (0 ≠ 15 ∨ 5 < 2) ∧ 0 ≠ 27 ∧ 0 ≠ 19 ∧ 0 ≠ 21 ∧ 0 ≠ 24 ∧ 0 ≠ 26 ∧ ((0 ≠ 18 ∧ 0 ≠ 20 ∧ 0 ≠ 23 ∧ 0 ≠ 25) ∨ 5 ≠ 1) by omega)).trans hv3440
    have hv3442 := (ho3439 0 5 (Or.inr (by omega))).trans hv3441
    refine y_get (j := 29) (len := 3) (r := (11, 5, 2, 404)) (by decide +kernel) hg3439 (tv0 hg3439) aw0 rfl rfl hv3442 ?_
    refine y_cV (i := .invokevirtual 83) (len := 3) (r := (0, 24, 2, 449)) (nL := 2) (k := 0) (n := 2) (hs := []) (args := [.inl (some 13), .inl (some 2)]) (rest := []) (l0 := [some (.inl (some 13)), some (.inl (some 2))]) (by decide +kernel) (Or.inr (Or.inl ⟨_, rfl⟩)) rfl rfl rfl rfl (Nat.le_of_ble_eq_true rfl) (zO hg3439 (tv13 hg3439) aw13 rfl) rfl (qV_le (by decide) (e_keep hg3439 (RC_up rc3438 (fun k j h1 => (ho3439 k j (by omega)))))) (fun h3443 hR3443 => ?_)
    obtain ⟨τ3443, au3443, hg3443, rc3443, F3443⟩ := hR3443
    obtain ⟨-, ⟨u3443, v3443, hu3443, l23443, b23443⟩, -⟩ := id rc3443
    have uu3443 : (u3443 = 1 ∧ v3443 = 6) ∨ (u3443 = 6 ∧ v3443 = 1) := hu3443
    have ty3443 := ty_u (tyB_of hg3443 hu3443 (tv2 hg3443) b23443.1 b23443.2.1 l23443) hu3443
    have la3443 := lay_u l23443 hu3443
    obtain ⟨⟨⟨xp03443, hp03443, ep03443⟩, ip03443⟩, ⟨xc03443, hc03443, ec03443⟩, ic03443⟩ := b23443.2.2.1
    obtain ⟨⟨⟨xp13443, hp13443, ep13443⟩, ip13443⟩, ⟨xc13443, hc13443, ec13443⟩, ic13443⟩ := b23443.2.2.2
    refine y_same (i := .aload_n 0) (len := 1) (r := (0, 0, 0, 0)) (pc' := 77) (ls' := [some (.inl (some 0)), some (zi xn), some (zi y3438)]) (st' := [.inl (some 0)]) (by decide +kernel) (fun k q => by cases q) rfl ?_
    have hv3444 := (F3443 0 5 (by omega)).trans hv3442
    refine y_get (j := 29) (len := 3) (r := (11, 5, 2, 404)) (by decide +kernel) hg3443 (tv0 hg3443) aw0 rfl rfl hv3444 ?_
    refine y_same (i := .aload_n 0) (len := 1) (r := (0, 0, 0, 0)) (pc' := 81) (ls' := [some (.inl (some 0)), some (zi xn), some (zi y3438)]) (st' := [.inl (some 0), .inl (some 2)]) (by decide +kernel) (fun k q => by cases q) rfl ?_
    refine y_get (j := 43) (len := 3) (r := (11, 7, 2, 406)) (by decide +kernel) hg3443 (tv0 hg3443) aw0 rfl rfl (g_rU (f := 7) (T2 := 15) hg3443 (tv0 hg3443) aw0 rfl (by decide)) ?_
    have hv3445 := (ho3437 15 0 (Or.inl (by omega))).trans al.1
    have hv3446 := (O3438.2.2 15 15 0 (tv15 hg3437) (show (15 ≠ 15 ∨ 0 < 2) ∧ 15 ≠ 27 ∧ 15 ≠ 19 ∧ 15 ≠ 21 ∧ 15 ≠ 24 ∧ 15 ≠ 26 ∧ ((15 ≠ 18 ∧ 15 ≠ 20 ∧ 15 ≠ 23 ∧ 15 ≠ 25) ∨ 0 ≠ 1) by omega)).trans hv3445
    have hv3447 := (ho3439 15 0 (Or.inl (by omega))).trans hv3446
    have hv3448 := (F3443 15 0 (by omega)).trans hv3447
    refine y_get (j := 87) (len := 3) (r := (5, 0, 2, 20240)) (by decide +kernel) hg3443 (tv15 hg3443) aw15 rfl rfl hv3448 ?_
    have lB3449 : layC h3443 16 := ⟨⟨((F3443 17 0 (by omega)).trans ((ho3439 17 0 (Or.inl (by omega))).trans ((O3438.2.2 17 1001 0 (tv17 hg3437) (show (17 ≠ 15 ∨ 0 < 2) ∧ 17 ≠ 27 ∧ 17 ≠ 19 ∧ 17 ≠ 21 ∧ 17 ≠ 24 ∧ 17 ≠ 26 ∧ ((17 ≠ 18 ∧ 17 ≠ 20 ∧ 17 ≠ 23 ∧ 17 ≠ 25) ∨ 0 ≠ 1) by omega)).trans (ho3437 17 0 (Or.inl (by omega)))))).trans al.2.2.2.1, ((F3443 17 1 (by omega)).trans ((ho3439 17 1 (Or.inl (by omega))).trans ((O3438.2.2 17 1001 1 (tv17 hg3437) (show (17 ≠ 15 ∨ 1 < 2) ∧ 17 ≠ 27 ∧ 17 ≠ 19 ∧ 17 ≠ 21 ∧ 17 ≠ 24 ∧ 17 ≠ 26 ∧ ((17 ≠ 18 ∧ 17 ≠ 20 ∧ 17 ≠ 23 ∧ 17 ≠ 25) ∨ 1 ≠ 1) by omega)).trans (ho3437 17 1 (Or.inl (by omega)))))).trans al.2.2.2.2.1, ((F3443 18 0 (by omega)).trans ((ho3439 18 0 (Or.inl (by omega))).trans ((O3438.2.2 18 1002 0 (tv18 hg3437) (show (18 ≠ 15 ∨ 0 < 2) ∧ 18 ≠ 27 ∧ 18 ≠ 19 ∧ 18 ≠ 21 ∧ 18 ≠ 24 ∧ 18 ≠ 26 ∧ ((18 ≠ 18 ∧ 18 ≠ 20 ∧ 18 ≠ 23 ∧ 18 ≠ 25) ∨ 0 ≠ 1) by omega)).trans (ho3437 18 0 (Or.inl (by omega)))))).trans al.2.2.2.2.2.2.2.1, ((F3443 20 0 (by omega)).trans ((ho3439 20 0 (Or.inl (by omega))).trans ((O3438.2.2 20 1003 0 (tv20 hg3437) (show (20 ≠ 15 ∨ 0 < 2) ∧ 20 ≠ 27 ∧ 20 ≠ 19 ∧ 20 ≠ 21 ∧ 20 ≠ 24 ∧ 20 ≠ 26 ∧ ((20 ≠ 18 ∧ 20 ≠ 20 ∧ 20 ≠ 23 ∧ 20 ≠ 25) ∨ 0 ≠ 1) by omega)).trans (ho3437 20 0 (Or.inl (by omega)))))).trans al.2.2.2.2.2.2.2.2.1⟩, ((F3443 22 0 (by omega)).trans ((ho3439 22 0 (Or.inl (by omega))).trans ((O3438.2.2 22 1001 0 (tv22 hg3437) (show (22 ≠ 15 ∨ 0 < 2) ∧ 22 ≠ 27 ∧ 22 ≠ 19 ∧ 22 ≠ 21 ∧ 22 ≠ 24 ∧ 22 ≠ 26 ∧ ((22 ≠ 18 ∧ 22 ≠ 20 ∧ 22 ≠ 23 ∧ 22 ≠ 25) ∨ 0 ≠ 1) by omega)).trans (ho3437 22 0 (Or.inl (by omega)))))).trans al.2.2.2.2.2.1, ((F3443 22 1 (by omega)).trans ((ho3439 22 1 (Or.inl (by omega))).trans ((O3438.2.2 22 1001 1 (tv22 hg3437) (show (22 ≠ 15 ∨ 1 < 2) ∧ 22 ≠ 27 ∧ 22 ≠ 19 ∧ 22 ≠ 21 ∧ 22 ≠ 24 ∧ 22 ≠ 26 ∧ ((22 ≠ 18 ∧ 22 ≠ 20 ∧ 22 ≠ 23 ∧ 22 ≠ 25) ∨ 1 ≠ 1) by omega)).trans (ho3437 22 1 (Or.inl (by omega)))))).trans al.2.2.2.2.2.2.1, ((F3443 23 0 (by omega)).trans ((ho3439 23 0 (Or.inl (by omega))).trans ((O3438.2.2 23 1002 0 (tv23 hg3437) (show (23 ≠ 15 ∨ 0 < 2) ∧ 23 ≠ 27 ∧ 23 ≠ 19 ∧ 23 ≠ 21 ∧ 23 ≠ 24 ∧ 23 ≠ 26 ∧ ((23 ≠ 18 ∧ 23 ≠ 20 ∧ 23 ≠ 23 ∧ 23 ≠ 25) ∨ 0 ≠ 1) by omega)).trans (ho3437 23 0 (Or.inl (by omega)))))).trans al.2.2.2.2.2.2.2.2.2.1, ((F3443 25 0 (by omega)).trans ((ho3439 25 0 (Or.inl (by omega))).trans ((O3438.2.2 25 1003 0 (tv25 hg3437) (show (25 ≠ 15 ∨ 0 < 2) ∧ 25 ≠ 27 ∧ 25 ≠ 19 ∧ 25 ≠ 21 ∧ 25 ≠ 24 ∧ 25 ≠ 26 ∧ ((25 ≠ 18 ∧ 25 ≠ 20 ∧ 25 ≠ 23 ∧ 25 ≠ 25) ∨ 0 ≠ 1) by omega)).trans (ho3437 25 0 (Or.inl (by omega)))))).trans al.2.2.2.2.2.2.2.2.2.2⟩
    have bB3449 : bsC h3443 16 1 6 ((lp3438, lc3438), (rp3438, rr3438)) := ⟨((F3443 16 0 (by omega)).trans ((ho3439 16 0 (Or.inl (by omega))).trans ((O3438.2.2 16 1000 0 (tv16 hg3437) (show (16 ≠ 15 ∨ 0 < 2) ∧ 16 ≠ 27 ∧ 16 ≠ 19 ∧ 16 ≠ 21 ∧ 16 ≠ 24 ∧ 16 ≠ 26 ∧ ((16 ≠ 18 ∧ 16 ≠ 20 ∧ 16 ≠ 23 ∧ 16 ≠ 25) ∨ 0 ≠ 1) by omega)).trans (ho3437 16 0 (Or.inl (by omega)))))).trans al.2.1, ((F3443 16 1 (by omega)).trans ((ho3439 16 1 (Or.inl (by omega))).trans ((O3438.2.2 16 1000 1 (tv16 hg3437) (show (16 ≠ 15 ∨ 1 < 2) ∧ 16 ≠ 27 ∧ 16 ≠ 19 ∧ 16 ≠ 21 ∧ 16 ≠ 24 ∧ 16 ≠ 26 ∧ ((16 ≠ 18 ∧ 16 ≠ 20 ∧ 16 ≠ 23 ∧ 16 ≠ 25) ∨ 1 ≠ 1) by omega)).trans (ho3437 16 1 (Or.inl (by omega)))))).trans al.2.2.1, ⟨rwC_up w13438 ((F3443 18 1 (by omega)).trans (ho3439 18 1 (Or.inl (by omega)))) (fun j => ((F3443 19 j (by omega)).trans (ho3439 19 j (Or.inl (by omega))))), rwC_up w23438 ((F3443 20 1 (by omega)).trans (ho3439 20 1 (Or.inl (by omega)))) (fun j => ((F3443 21 j (by omega)).trans (ho3439 21 j (Or.inl (by omega)))))⟩, ⟨rwC_up w33438 ((F3443 23 1 (by omega)).trans (ho3439 23 1 (Or.inl (by omega)))) (fun j => ((F3443 24 j (by omega)).trans (ho3439 24 j (Or.inl (by omega))))), rwC_up w43438 ((F3443 25 1 (by omega)).trans (ho3439 25 1 (Or.inl (by omega)))) (fun j => ((F3443 26 j (by omega)).trans (ho3439 26 j (Or.inl (by omega)))))⟩⟩
    have tB3449 := tyB_of hg3443 (Or.inl ⟨rfl, rfl⟩) (tv16 hg3443) bB3449.1 bB3449.2.1 lB3449
    refine y_cV (i := .invokevirtual 88) (len := 3) (r := (0, 109, 9, 1059)) (nL := 2) (k := 0) (n := 2) (hs := []) (args := [.inl (some 2), .inl (some 16)]) (rest := []) (l0 := [some (.inl (some 2)), some (.inl (some 16))]) (by decide +kernel) (Or.inr (Or.inl ⟨_, rfl⟩)) rfl rfl rfl rfl (Nat.le_of_ble_eq_true rfl) (zO hg3443 (tv2 hg3443) aw1000 rfl) rfl (qV_le (by decide) (e_cpb hg3443 (tv2 hg3443) (tv16 hg3443) (tyB_of hg3443 hu3443 (tv2 hg3443) b23443.1 b23443.2.1 l23443) tB3449 hu3443 (Or.inl ⟨rfl, rfl⟩) l23443 lB3449 b23443.1 b23443.2.1 bB3449 (by omega))) (fun h3449 hR3449 => ?_)
    obtain ⟨hg3449, b3449, l3449, F3449⟩ := hR3449
    have rc3449 : RC h3449 ((lp3438, lc3438), (rp3438, rr3438)) (psh hs cur) := RC_set rc3443 ⟨u3443, v3443, hu3443, l3449, b3449⟩ (fun k j h1 => F3449 k j (by omega))
    refine y_same (i := .aload_n 0) (len := 1) (r := (0, 0, 0, 0)) (pc' := 91) (ls' := [some (.inl (some 0)), some (zi xn), some (zi y3438)]) (st' := [.inl (some 0)]) (by decide +kernel) (fun k q => by cases q) rfl ?_
    refine y_cV (i := .invokevirtual 91) (len := 3) (r := (0, 154, 11, 474)) (nL := 1) (k := 0) (n := 1) (hs := []) (args := [.inl (some 0)]) (rest := []) (l0 := [some (.inl (some 0))]) (by decide +kernel) (Or.inr (Or.inl ⟨_, rfl⟩)) rfl rfl rfl rfl (Nat.le_of_ble_eq_true rfl) (zO hg3449 (tv0 hg3449) aw0 rfl) rfl (qV_le (by decide) (c_forgP (d := 0) hg3449)) (fun h3450 hR3450 => ?_)
    obtain ⟨hg3450, F3450, jx3450, jh3450, je3450⟩ := hR3450
    refine y_same (i := .aload_n 0) (len := 1) (r := (0, 0, 0, 0)) (pc' := 95) (ls' := [some (.inl (some 0)), some (zi xn), some (zi y3438)]) (st' := [.inl (some 0)]) (by decide +kernel) (fun k q => by cases q) rfl ?_
    have hv3451 := (F3449 0 5 (by omega)).trans hv3444
    have hv3452 := (F3450 0 5 (by omega)).trans hv3451
    refine y_get (j := 29) (len := 3) (r := (11, 5, 2, 404)) (by decide +kernel) hg3450 (tv0 hg3450) aw0 rfl rfl hv3452 ?_
    refine y_cI (i := .invokevirtual 94) (len := 3) (r := (0, 111, 9, 478)) (nL := 1) (k := 1) (n := 1) (hs := []) (args := [.inl (some 2)]) (rest := []) (l0 := [some (.inl (some 2))]) (by decide +kernel) (Or.inr (Or.inl ⟨_, rfl⟩)) rfl rfl rfl rfl (Nat.le_of_ble_eq_true rfl) (zO hg3450 (tv2 hg3450) aw1000 rfl) rfl (qI_le (by decide) (c_cnt (d := 0) hg3450 (RC_up rc3449 (fun k j h1 => (F3450 k j (by omega)))))) (fun y3453 qy3453 hRy3453 => ?_)
    obtain ⟨rfl, ey3453⟩ := hRy3453
    refine y_rI (len := 1) (r := (0, 0, 0, 0)) (nL := 3) (k := 1) (n9 := 2) (hs := []) (by decide +kernel) rfl rfl ?_
    exact ⟨⟨_, hg3450⟩, ⟨fun k => ((F3450 36 k (by omega)).trans ((F3449 36 k (by omega)).trans ((F3443 36 k (by omega)).trans ((ho3439 36 k (Or.inl (by omega))).trans ((O3438.2.2 36 36 k (tv36 hg3437) (show (36 ≠ 15 ∨ k < 2) ∧ 36 ≠ 27 ∧ 36 ≠ 19 ∧ 36 ≠ 21 ∧ 36 ≠ 24 ∧ 36 ≠ 26 ∧ ((36 ≠ 18 ∧ 36 ≠ 20 ∧ 36 ≠ 23 ∧ 36 ≠ 25) ∨ k ≠ 1) by omega)).trans (ho3437 36 k (Or.inl (by omega)))))))), ((F3450 35 0 (by omega)).trans ((F3449 35 0 (by omega)).trans ((F3443 35 0 (by omega)).trans ((ho3439 35 0 (Or.inl (by omega))).trans ((O3438.2.2 35 35 0 (tv35 hg3437) (show (35 ≠ 15 ∨ 0 < 2) ∧ 35 ≠ 27 ∧ 35 ≠ 19 ∧ 35 ≠ 21 ∧ 35 ≠ 24 ∧ 35 ≠ 26 ∧ ((35 ≠ 18 ∧ 35 ≠ 20 ∧ 35 ≠ 23 ∧ 35 ≠ 25) ∨ 0 ≠ 1) by omega)).trans (ho3437 35 0 (Or.inl (by omega)))))))), ((F3450 35 6 (by omega)).trans ((F3449 35 6 (by omega)).trans ((F3443 35 6 (by omega)).trans ((ho3439 35 6 (Or.inl (by omega))).trans ((O3438.2.2 35 35 6 (tv35 hg3437) (show (35 ≠ 15 ∨ 6 < 2) ∧ 35 ≠ 27 ∧ 35 ≠ 19 ∧ 35 ≠ 21 ∧ 35 ≠ 24 ∧ 35 ≠ 26 ∧ ((35 ≠ 18 ∧ 35 ≠ 20 ∧ 35 ≠ 23 ∧ 35 ≠ 25) ∨ 6 ≠ 1) by omega)).trans (ho3437 35 6 (Or.inl (by omega)))))))), ((F3450 35 8 (by omega)).trans ((F3449 35 8 (by omega)).trans ((F3443 35 8 (by omega)).trans ((ho3439 35 8 (Or.inl (by omega))).trans ((O3438.2.2 35 35 8 (tv35 hg3437) (show (35 ≠ 15 ∨ 8 < 2) ∧ 35 ≠ 27 ∧ 35 ≠ 19 ∧ 35 ≠ 21 ∧ 35 ≠ 24 ∧ 35 ≠ 26 ∧ ((35 ≠ 18 ∧ 35 ≠ 20 ∧ 35 ≠ 23 ∧ 35 ≠ 25) ∨ 8 ≠ 1) by omega)).trans (ho3437 35 8 (Or.inl (by omega)))))))), ((F3450 38 2 (by omega)).trans ((F3449 38 2 (by omega)).trans ((F3443 38 2 (by omega)).trans ((ho3439 38 2 (Or.inl (by omega))).trans ((O3438.2.2 38 38 2 (tv38 hg3437) (show (38 ≠ 15 ∨ 2 < 2) ∧ 38 ≠ 27 ∧ 38 ≠ 19 ∧ 38 ≠ 21 ∧ 38 ≠ 24 ∧ 38 ≠ 26 ∧ ((38 ≠ 18 ∧ 38 ≠ 20 ∧ 38 ≠ 23 ∧ 38 ≠ 25) ∨ 2 ≠ 1) by omega)).trans (ho3437 38 2 (Or.inl (by omega))))))))⟩, ⟨((F3450 52 27 (by omega)).trans ((F3449 52 27 (by omega)).trans ((F3443 52 27 (by omega)).trans ((ho3439 52 27 (Or.inl (by omega))).trans ((O3438.2.2 52 52 27 (t52 hg3437) (show (52 ≠ 15 ∨ 27 < 2) ∧ 52 ≠ 27 ∧ 52 ≠ 19 ∧ 52 ≠ 21 ∧ 52 ≠ 24 ∧ 52 ≠ 26 ∧ ((52 ≠ 18 ∧ 52 ≠ 20 ∧ 52 ≠ 23 ∧ 52 ≠ 25) ∨ 27 ≠ 1) by omega)).trans (ho3437 52 27 (Or.inl (by omega)))))))), ((F3450 52 29 (by omega)).trans ((F3449 52 29 (by omega)).trans ((F3443 52 29 (by omega)).trans ((ho3439 52 29 (Or.inl (by omega))).trans ((O3438.2.2 52 52 29 (t52 hg3437) (show (52 ≠ 15 ∨ 29 < 2) ∧ 52 ≠ 27 ∧ 52 ≠ 19 ∧ 52 ≠ 21 ∧ 52 ≠ 24 ∧ 52 ≠ 26 ∧ ((52 ≠ 18 ∧ 52 ≠ 20 ∧ 52 ≠ 23 ∧ 52 ≠ 25) ∨ 29 ≠ 1) by omega)).trans (ho3437 52 29 (Or.inl (by omega)))))))), ((F3450 52 32 (by omega)).trans ((F3449 52 32 (by omega)).trans ((F3443 52 32 (by omega)).trans ((ho3439 52 32 (Or.inl (by omega))).trans ((O3438.2.2 52 52 32 (t52 hg3437) (show (52 ≠ 15 ∨ 32 < 2) ∧ 52 ≠ 27 ∧ 52 ≠ 19 ∧ 52 ≠ 21 ∧ 52 ≠ 24 ∧ 52 ≠ 26 ∧ ((52 ≠ 18 ∧ 52 ≠ 20 ∧ 52 ≠ 23 ∧ 52 ≠ 25) ∨ 32 ≠ 1) by omega)).trans (ho3437 52 32 (Or.inl (by omega))))))))⟩, ((F3450 52 31 (by omega)).trans ((F3449 52 31 (by omega)).trans ((F3443 52 31 (by omega)).trans ((ho3439 52 31 (Or.inl (by omega))).trans ((O3438.2.2 52 52 31 (t52 hg3437) (show (52 ≠ 15 ∨ 31 < 2) ∧ 52 ≠ 27 ∧ 52 ≠ 19 ∧ 52 ≠ 21 ∧ 52 ≠ 24 ∧ 52 ≠ 26 ∧ ((52 ≠ 18 ∧ 52 ≠ 20 ∧ 52 ≠ 23 ∧ 52 ≠ 25) ∨ 31 ≠ 1) by omega)).trans (ho3437 52 31 (Or.inl (by omega)))))))), Or.inr ⟨_, jh3450, by omega⟩⟩
  ·
    refine y_same (i := .istore_n 2) (len := 1) (r := (0, 0, 0, 0)) (pc' := 39) (ls' := [some (.inl (some 0)), some (zi xn), some (zi y3438)]) (st' := []) (by decide +kernel) (fun k q => by cases q) rfl ?_
    refine y_same (i := .aload_n 0) (len := 1) (r := (0, 0, 0, 0)) (pc' := 40) (ls' := [some (.inl (some 0)), some (zi xn), some (zi y3438)]) (st' := [.inl (some 0)]) (by decide +kernel) (fun k q => by cases q) rfl ?_
    refine y_same (i := .aload_n 0) (len := 1) (r := (0, 0, 0, 0)) (pc' := 41) (ls' := [some (.inl (some 0)), some (zi xn), some (zi y3438)]) (st' := [.inl (some 0), .inl (some 0)]) (by decide +kernel) (fun k q => by cases q) rfl ?_
    refine y_get (j := 43) (len := 3) (r := (11, 7, 2, 406)) (by decide +kernel) O3438.2.1 (tv0 O3438.2.1) aw0 rfl rfl (g_rU (f := 7) (T2 := 15) O3438.2.1 (tv0 O3438.2.1) aw0 rfl (by decide)) ?_
    refine y_get (j := 77) (len := 3) (r := (5, 5, 0, 20247)) (by decide +kernel) O3438.2.1 (tv15 O3438.2.1) aw15 rfl rfl hw3438 ?_
    refine y_put (j := 17) (lo := (-2147483648)) (hi := 2147483647) (len := 3) (r := (11, 2, 0, 401)) (by decide +kernel) O3438.2.1 (tv0 O3438.2.1) aw0 rfl rfl (by decide) rfl (qin_full _).1 (qin_full _).2 rfl (fun h3454 hg3454 hl3454 hs3454 ho3454 => ?_)
    have ho3454 : hO 0 2 h3438 h3454 := ho3454
    have hs3454 : hsl h3454 0 2 = some (zi xw3438) := hs3454
    refine y_same (i := .iload_n 2) (len := 1) (r := (0, 0, 0, 0)) (pc' := 51) (ls' := [some (.inl (some 0)), some (zi xn), some (zi y3438)]) (st' := [zi y3438]) (by decide +kernel) (fun k q => by cases q) rfl ?_
    refine y_iF (c := .ne) (off := 14) (len := 3) (r := (0, 0, 0, 0)) (by decide +kernel) (acmpF (c := .ne) (by show _ = _; omega)) ?_
    refine y_same (i := .aload_n 0) (len := 1) (r := (0, 0, 0, 0)) (pc' := 55) (ls' := [some (.inl (some 0)), some (zi xn), some (zi y3438)]) (st' := [.inl (some 0)]) (by decide +kernel) (fun k q => by cases q) rfl ?_
    refine y_get (j := 43) (len := 3) (r := (11, 7, 2, 406)) (by decide +kernel) hg3454 (tv0 hg3454) aw0 rfl rfl (g_rU (f := 7) (T2 := 15) hg3454 (tv0 hg3454) aw0 rfl (by decide)) ?_
    have hv3455 := (ho3454 15 4 (Or.inl (by omega))).trans hr3438
    refine y_get (j := 80) (len := 3) (r := (5, 4, 0, 20245)) (by decide +kernel) hg3454 (tv15 hg3454) aw15 rfl rfl hv3455 ?_
    refine y_bi (c := 10) (len := 2) (r := (0, 0, 0, 0)) (by decide +kernel) (by decide) (fun y3456 hy3456 => ?_)
    refine y_bp (i := .isub) (f := fun x y => x - y) (len := 1) (r := (0, 0, 0, 0)) (by decide +kernel) rfl rfl (fun y3457 hy3457 => ?_)
    refine y_rI (len := 1) (r := (0, 0, 0, 0)) (nL := 3) (k := 1) (n9 := 2) (hs := []) (by decide +kernel) rfl rfl ?_
    exact ⟨⟨_, hg3454⟩, ⟨fun k => ((ho3454 36 k (Or.inl (by omega))).trans ((O3438.2.2 36 36 k (tv36 hg3437) (show (36 ≠ 15 ∨ k < 2) ∧ 36 ≠ 27 ∧ 36 ≠ 19 ∧ 36 ≠ 21 ∧ 36 ≠ 24 ∧ 36 ≠ 26 ∧ ((36 ≠ 18 ∧ 36 ≠ 20 ∧ 36 ≠ 23 ∧ 36 ≠ 25) ∨ k ≠ 1) by omega)).trans (ho3437 36 k (Or.inl (by omega))))), ((ho3454 35 0 (Or.inl (by omega))).trans ((O3438.2.2 35 35 0 (tv35 hg3437) (show (35 ≠ 15 ∨ 0 < 2) ∧ 35 ≠ 27 ∧ 35 ≠ 19 ∧ 35 ≠ 21 ∧ 35 ≠ 24 ∧ 35 ≠ 26 ∧ ((35 ≠ 18 ∧ 35 ≠ 20 ∧ 35 ≠ 23 ∧ 35 ≠ 25) ∨ 0 ≠ 1) by omega)).trans (ho3437 35 0 (Or.inl (by omega))))), ((ho3454 35 6 (Or.inl (by omega))).trans ((O3438.2.2 35 35 6 (tv35 hg3437) (show (35 ≠ 15 ∨ 6 < 2) ∧ 35 ≠ 27 ∧ 35 ≠ 19 ∧ 35 ≠ 21 ∧ 35 ≠ 24 ∧ 35 ≠ 26 ∧ ((35 ≠ 18 ∧ 35 ≠ 20 ∧ 35 ≠ 23 ∧ 35 ≠ 25) ∨ 6 ≠ 1) by omega)).trans (ho3437 35 6 (Or.inl (by omega))))), ((ho3454 35 8 (Or.inl (by omega))).trans ((O3438.2.2 35 35 8 (tv35 hg3437) (show (35 ≠ 15 ∨ 8 < 2) ∧ 35 ≠ 27 ∧ 35 ≠ 19 ∧ 35 ≠ 21 ∧ 35 ≠ 24 ∧ 35 ≠ 26 ∧ ((35 ≠ 18 ∧ 35 ≠ 20 ∧ 35 ≠ 23 ∧ 35 ≠ 25) ∨ 8 ≠ 1) by omega)).trans (ho3437 35 8 (Or.inl (by omega))))), ((ho3454 38 2 (Or.inl (by omega))).trans ((O3438.2.2 38 38 2 (tv38 hg3437) (show (38 ≠ 15 ∨ 2 < 2) ∧ 38 ≠ 27 ∧ 38 ≠ 19 ∧ 38 ≠ 21 ∧ 38 ≠ 24 ∧ 38 ≠ 26 ∧ ((38 ≠ 18 ∧ 38 ≠ 20 ∧ 38 ≠ 23 ∧ 38 ≠ 25) ∨ 2 ≠ 1) by omega)).trans (ho3437 38 2 (Or.inl (by omega)))))⟩, ⟨((ho3454 52 27 (Or.inl (by omega))).trans ((O3438.2.2 52 52 27 (t52 hg3437) (show (52 ≠ 15 ∨ 27 < 2) ∧ 52 ≠ 27 ∧ 52 ≠ 19 ∧ 52 ≠ 21 ∧ 52 ≠ 24 ∧ 52 ≠ 26 ∧ ((52 ≠ 18 ∧ 52 ≠ 20 ∧ 52 ≠ 23 ∧ 52 ≠ 25) ∨ 27 ≠ 1) by omega)).trans (ho3437 52 27 (Or.inl (by omega))))), ((ho3454 52 29 (Or.inl (by omega))).trans ((O3438.2.2 52 52 29 (t52 hg3437) (show (52 ≠ 15 ∨ 29 < 2) ∧ 52 ≠ 27 ∧ 52 ≠ 19 ∧ 52 ≠ 21 ∧ 52 ≠ 24 ∧ 52 ≠ 26 ∧ ((52 ≠ 18 ∧ 52 ≠ 20 ∧ 52 ≠ 23 ∧ 52 ≠ 25) ∨ 29 ≠ 1) by omega)).trans (ho3437 52 29 (Or.inl (by omega))))), ((ho3454 52 32 (Or.inl (by omega))).trans ((O3438.2.2 52 52 32 (t52 hg3437) (show (52 ≠ 15 ∨ 32 < 2) ∧ 52 ≠ 27 ∧ 52 ≠ 19 ∧ 52 ≠ 21 ∧ 52 ≠ 24 ∧ 52 ≠ 26 ∧ ((52 ≠ 18 ∧ 52 ≠ 20 ∧ 52 ≠ 23 ∧ 52 ≠ 25) ∨ 32 ≠ 1) by omega)).trans (ho3437 52 32 (Or.inl (by omega)))))⟩, ((ho3454 52 31 (Or.inl (by omega))).trans ((O3438.2.2 52 52 31 (t52 hg3437) (show (52 ≠ 15 ∨ 31 < 2) ∧ 52 ≠ 27 ∧ 52 ≠ 19 ∧ 52 ≠ 21 ∧ 52 ≠ 24 ∧ 52 ≠ 26 ∧ ((52 ≠ 18 ∧ 52 ≠ 20 ∧ 52 ≠ 23 ∧ 52 ≠ 25) ∨ 31 ≠ 1) by omega)).trans (ho3437 52 31 (Or.inl (by omega))))), Or.inl ⟨⟨_, e3438⟩, ((ho3454 35 5 (Or.inl (by omega))).trans ((O3438.2.2 35 35 5 (tv35 hg3437) (show (35 ≠ 15 ∨ 5 < 2) ∧ 35 ≠ 27 ∧ 35 ≠ 19 ∧ 35 ≠ 21 ∧ 35 ≠ 24 ∧ 35 ≠ 26 ∧ ((35 ≠ 18 ∧ 35 ≠ 20 ∧ 35 ≠ 23 ∧ 35 ≠ 25) ∨ 5 ≠ 1) by omega)).trans (ho3437 35 5 (Or.inl (by omega)))))⟩⟩
theorem jp_ltext {t n T : Nat} {b : Nat → Int} {τ : List Nat} {h : zh} {xn xT : Int32} {cur : bsT} {hs : List bsT} (hg : hG τ h) (rc : RC h cur hs) (r5 : hsl h 0 5 = some (.inl (some 2))) (al : alC h) (hT : hsl h 0 1 = some (zi xT)) (eT : xT.toInt = (T : Int)) (hT2 : T ≤ 200) (en : xn.toInt = (n : Int)) (hn : n ≤ T) (hb : ∀ j, j < n → ∃ x : Int32, hsl h 1 j = some (zi x) ∧ x.toInt = b j) : qI 60 276 [some (.inl (some 0)), some (zi xn), some (.inl (some 388)), none] h t (fun y h1 => kpPC h h1 ∧ kpPM h h1 ∧ hsl h1 52 31 = hsl h 52 31 ∧ ((∃ r, wAll b n = .inl r) ∧ hsl h1 35 5 = hsl h 35 5 ∨ ci_ h1 35 5 0)) := by
  refine qI_le (d := 32) (by decide) (qI_of ?_)
  refine y_same (i := .aload_n 2) (len := 1) (r := (0, 0, 0, 0)) (pc' := 1) (ls' := [some (.inl (some 0)), some (zi xn), some (.inl (some 388)), none]) (st' := [.inl (some 388)]) (by decide +kernel) (fun k q => by cases q) rfl ?_
  refine y_ic (c := 0) (len := 1) (r := (0, 0, 0, 0)) (by decide +kernel) (by decide) (fun y3458 hy3458 => ?_)
  refine y_same (i := .aload_n 0) (len := 1) (r := (0, 0, 0, 0)) (pc' := 3) (ls' := [some (.inl (some 0)), some (zi xn), some (.inl (some 388)), none]) (st' := [.inl (some 0), zi y3458, .inl (some 388)]) (by decide +kernel) (fun k q => by cases q) rfl ?_
  refine y_same (i := .iload_n 1) (len := 1) (r := (0, 0, 0, 0)) (pc' := 4) (ls' := [some (.inl (some 0)), some (zi xn), some (.inl (some 388)), none]) (st' := [zi xn, .inl (some 0), zi y3458, .inl (some 388)]) (by decide +kernel) (fun k q => by cases q) rfl ?_
  refine y_cI (i := .invokevirtual 7) (len := 3) (r := (0, 133, 11, 848)) (nL := 3) (k := 1) (n := 2) (hs := []) (args := [.inl (some 0), zi xn]) (rest := [zi y3458, .inl (some 388)]) (l0 := [some (.inl (some 0)), some (zi xn), none]) (by decide +kernel) (Or.inr (Or.inl ⟨_, rfl⟩)) rfl rfl rfl rfl (Nat.le_of_ble_eq_true rfl) (zO hg (tv0 hg) aw0 rfl) rfl (qI_le (by decide) (jp_text hg rc r5 al hT eT hT2 en hn hb)) (fun y3459 h3459 hRy3459 => ?_)
  obtain ⟨⟨τ3459, hg3459⟩, k1, k2, k3, k4⟩ := hRy3459
  refine y_i2l2 (len := 1) (r := (0, 0, 0, 0)) (by decide +kernel) ?_
  refine y_las2 (i := 0) (len := 1) (r := (0, 0, 0, 0)) (by decide +kernel) hg3459 (t388 hg3459) aw388 rfl (by omega) (by omega) rfl (fun h3460 hg3460 hw3460 ho3460 => ?_)
  refine y_goto (off := 6) (pc' := 15) (len := 3) (r := (0, 0, 0, 0)) (by decide +kernel) (by decide +kernel) ?_
  refine y_ic (c := 0) (len := 1) (r := (0, 0, 0, 0)) (by decide +kernel) (by decide) (fun y3461 hy3461 => ?_)
  refine y_rI (len := 1) (r := (0, 0, 0, 0)) (nL := 4) (k := 1) (n9 := 3) (hs := [(0, 9, 12, 1)]) (by decide +kernel) rfl rfl ?_
  refine ⟨⟨fun k => (ho3460 36 k (Or.inl (by omega))).trans (k1.1 k), (ho3460 35 0 (Or.inl (by omega))).trans k1.2.1, (ho3460 35 6 (Or.inl (by omega))).trans k1.2.2.1, (ho3460 35 8 (Or.inl (by omega))).trans k1.2.2.2.1, (ho3460 38 2 (Or.inl (by omega))).trans k1.2.2.2.2⟩, ⟨(ho3460 52 27 (Or.inl (by omega))).trans k2.1, (ho3460 52 29 (Or.inl (by omega))).trans k2.2.1, (ho3460 52 32 (Or.inl (by omega))).trans k2.2.2⟩, (ho3460 52 31 (Or.inl (by omega))).trans k3, ?_⟩
  rcases k4 with ⟨q1, q2⟩ | q1
  · exact Or.inl ⟨q1, (ho3460 35 5 (Or.inl (by omega))).trans q2⟩
  · exact Or.inr (ci_up q1 (ho3460 35 5 (Or.inl (by omega))))
