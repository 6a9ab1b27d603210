/-! the provers' flags, lowered by an act -/
theorem c_forgR {d t : Nat} {τ : List Nat} {h : zh} (hg : hG τ h) : qV (d + 1) 154 [some (.inl (some 0))] h t (fun h1 => hG τ h1 ∧ (∀ k j, ((k ≠ 28 ∧ k ≠ 35 ∧ k ≠ 42) ∨ j ≠ 5) → hsl h1 k j = hsl h k j) ∧ ci_ h1 28 5 0) := by
  refine qV_of ?_
  refine y_same (i := .aload_n 0) (len := 1) (r := (0, 0, 0, 0)) (pc' := 1) (ls' := [some (.inl (some 0))]) (st' := [.inl (some 0)]) (by decide +kernel) (fun k q => by cases q) rfl ?_
  refine y_get (j := 52) (len := 3) (r := (11, 8, 2, 407)) (by decide +kernel) hg (tv0 hg) aw0 rfl rfl (g_rU (f := 8) (T2 := 28) hg (tv0 hg) aw0 rfl (by decide)) ?_
  refine y_ic (c := 0) (len := 1) (r := (0, 0, 0, 0)) (by decide +kernel) (by decide) (fun y3352 hy3352 => ?_)
  refine y_put (j := 238) (lo := 0) (hi := 1) (len := 3) (r := (4, 5, 1, 20288)) (by decide +kernel) hg (tv28 hg) aw28 rfl rfl (by decide) rfl (by omega) (by omega) (zfit_b (by omega) (by omega)).1 (fun h3353 hg3353 hl3353 hs3353 ho3353 => ?_)
  have ho3353 : hO 28 5 h h3353 := ho3353
  have hs3353 : hsl h3353 28 5 = some (zi y3352) := hs3353
  refine y_same (i := .aload_n 0) (len := 1) (r := (0, 0, 0, 0)) (pc' := 9) (ls' := [some (.inl (some 0))]) (st' := [.inl (some 0)]) (by decide +kernel) (fun k q => by cases q) rfl ?_
  refine y_get (j := 56) (len := 3) (r := (11, 9, 2, 408)) (by decide +kernel) hg3353 (tv0 hg3353) aw0 rfl rfl (g_rU (f := 9) (T2 := 35) hg3353 (tv0 hg3353) aw0 rfl (by decide)) ?_
  refine y_ic (c := 0) (len := 1) (r := (0, 0, 0, 0)) (by decide +kernel) (by decide) (fun y3354 hy3354 => ?_)
  refine y_put (j := 238) (lo := 0) (hi := 1) (len := 3) (r := (4, 5, 1, 20288)) (by decide +kernel) hg3353 (tv35 hg3353) aw35 rfl rfl (by decide) rfl (by omega) (by omega) (zfit_b (by omega) (by omega)).1 (fun h3355 hg3355 hl3355 hs3355 ho3355 => ?_)
  have ho3355 : hO 35 5 h3353 h3355 := ho3355
  have hs3355 : hsl h3355 35 5 = some (zi y3354) := hs3355
  refine y_same (i := .aload_n 0) (len := 1) (r := (0, 0, 0, 0)) (pc' := 17) (ls' := [some (.inl (some 0))]) (st' := [.inl (some 0)]) (by decide +kernel) (fun k q => by cases q) rfl ?_
  refine y_get (j := 62) (len := 3) (r := (11, 10, 2, 409)) (by decide +kernel) hg3355 (tv0 hg3355) aw0 rfl rfl (g_rU (f := 10) (T2 := 42) hg3355 (tv0 hg3355) aw0 rfl (by decide)) ?_
  refine y_ic (c := 0) (len := 1) (r := (0, 0, 0, 0)) (by decide +kernel) (by decide) (fun y3356 hy3356 => ?_)
  refine y_put (j := 242) (lo := 0) (hi := 1) (len := 3) (r := (10, 5, 1, 20365)) (by decide +kernel) hg3355 (tv42 hg3355) aw42 rfl rfl (by decide) rfl (by omega) (by omega) (zfit_b (by omega) (by omega)).1 (fun h3357 hg3357 hl3357 hs3357 ho3357 => ?_)
  have ho3357 : hO 42 5 h3355 h3357 := ho3357
  have hs3357 : hsl h3357 42 5 = some (zi y3356) := hs3357
  refine y_rV (len := 1) (r := (0, 0, 0, 0)) (nL := 1) (n9 := 1) (hs := []) (by decide +kernel) rfl ?_
  have hv3358 := (ho3355 28 5 (Or.inl (by omega))).trans hs3353
  have hv3359 := (ho3357 28 5 (Or.inl (by omega))).trans hv3358
  exact ⟨hg3357, fun k j hC => ((ho3357 k j (by omega)).trans ((ho3355 k j (by omega)).trans (ho3353 k j (by omega)))), ⟨_, hv3359, by omega⟩⟩
theorem jr_turnC {t : Nat} {τ : List Nat} {h : zh} {cur : bsT} {hs : List bsT} (hg : hG τ h) (rc : RC h cur hs) (r5 : hsl h 0 5 = some (.inl (some 2))) : qI 60 135 [some (.inl (some 0))] h t (fun y h1 => ci_ h1 28 5 0) := by
  refine qI_le (d := 21) (by decide) (qI_of ?_)
  refine y_same (i := .aload_n 0) (len := 1) (r := (0, 0, 0, 0)) (pc' := 1) (ls' := [some (.inl (some 0))]) (st' := [.inl (some 0)]) (by decide +kernel) (fun k q => by cases q) rfl ?_
  refine y_get (j := 36) (len := 3) (r := (11, 6, 2, 405)) (by decide +kernel) hg (tv0 hg) aw0 rfl rfl (g_rU (f := 6) (T2 := 13) hg (tv0 hg) aw0 rfl (by decide)) ?_
  refine y_same (i := .aload_n 0) (len := 1) (r := (0, 0, 0, 0)) (pc' := 5) (ls' := [some (.inl (some 0))]) (st' := [.inl (some 0), .inl (some 13)]) (by decide +kernel) (fun k q => by cases q) rfl ?_
  refine y_get (j := 29) (len := 3) (r := (11, 5, 2, 404)) (by decide +kernel) hg (tv0 hg) aw0 rfl rfl r5 ?_
  refine y_cV (i := .invokevirtual 83) (len := 3) (r := (0, 24, 2, 449)) (nL := 2) (k := 0) (n := 2) (hs := []) (args := [.inl (some 13), .inl (some 2)]) (rest := []) (l0 := [some (.inl (some 13)), some (.inl (some 2))]) (by decide +kernel) (Or.inr (Or.inl ⟨_, rfl⟩)) rfl rfl rfl rfl (Nat.le_of_ble_eq_true rfl) (zO hg (tv13 hg) aw13 rfl) rfl (qV_le (by decide) (e_keep hg rc)) (fun h3360 hR3360 => ?_)
  obtain ⟨τ3360, au3360, hg3360, rc3360, F3360⟩ := hR3360
  obtain ⟨-, ⟨u3360, v3360, hu3360, l23360, b23360⟩, -⟩ := id rc3360
  have uu3360 : (u3360 = 1 ∧ v3360 = 6) ∨ (u3360 = 6 ∧ v3360 = 1) := hu3360
  have ty3360 := ty_u (tyB_of hg3360 hu3360 (tv2 hg3360) b23360.1 b23360.2.1 l23360) hu3360
  have la3360 := lay_u l23360 hu3360
  obtain ⟨⟨⟨xp03360, hp03360, ep03360⟩, ip03360⟩, ⟨xc03360, hc03360, ec03360⟩, ic03360⟩ := b23360.2.2.1
  obtain ⟨⟨⟨xp13360, hp13360, ep13360⟩, ip13360⟩, ⟨xc13360, hc13360, ec13360⟩, ic13360⟩ := b23360.2.2.2
  refine y_same (i := .aload_n 0) (len := 1) (r := (0, 0, 0, 0)) (pc' := 12) (ls' := [some (.inl (some 0))]) (st' := [.inl (some 0)]) (by decide +kernel) (fun k q => by cases q) rfl ?_
  have hv3361 := (F3360 0 5 (by omega)).trans r5
  refine y_get (j := 29) (len := 3) (r := (11, 5, 2, 404)) (by decide +kernel) hg3360 (tv0 hg3360) aw0 rfl rfl hv3361 ?_
  refine y_cV (i := .invokevirtual 98) (len := 3) (r := (0, 110, 9, 470)) (nL := 2) (k := 0) (n := 1) (hs := []) (args := [.inl (some 2)]) (rest := []) (l0 := [some (.inl (some 2)), none]) (by decide +kernel) (Or.inr (Or.inl ⟨_, rfl⟩)) rfl rfl rfl rfl (Nat.le_of_ble_eq_true rfl) (zO hg3360 (tv2 hg3360) aw1000 rfl) rfl (qV_le (by decide) (c_exc (d := 0) hg3360 ty3360.1.1 ty3360.2.1 b23360.1 b23360.2.1)) (fun h3362 hR3362 => ?_)
  obtain ⟨hg3362, x03362, x13362, F3362⟩ := hR3362
  have rc3362 : RC h3362 (cur.2, cur.1) (psh hs cur) := RC_set rc3360 ⟨v3360, u3360, uv_sw hu3360, layC_up l23360 (fun k j h1 h2 => F3362 k j (by omega)), x03362, x13362, sdC_up b23360.2.2.2 (fun k j h1 h2 => F3362 k j (by omega)), sdC_up b23360.2.2.1 (fun k j h1 h2 => F3362 k j (by omega))⟩ (fun k j h1 => F3362 k j (by omega))
  refine y_same (i := .aload_n 0) (len := 1) (r := (0, 0, 0, 0)) (pc' := 19) (ls' := [some (.inl (some 0))]) (st' := [.inl (some 0)]) (by decide +kernel) (fun k q => by cases q) rfl ?_
  refine y_cV (i := .invokevirtual 91) (len := 3) (r := (0, 154, 11, 474)) (nL := 1) (k := 0) (n := 1) (hs := []) (args := [.inl (some 0)]) (rest := []) (l0 := [some (.inl (some 0))]) (by decide +kernel) (Or.inr (Or.inl ⟨_, rfl⟩)) rfl rfl rfl rfl (Nat.le_of_ble_eq_true rfl) (zO hg3362 (tv0 hg3362) aw0 rfl) rfl (qV_le (by decide) (c_forgR (d := 0) hg3362)) (fun h3363 hR3363 => ?_)
  obtain ⟨hg3363, F3363, jx3363, jh3363, je3363⟩ := hR3363
  refine y_same (i := .aload_n 0) (len := 1) (r := (0, 0, 0, 0)) (pc' := 23) (ls' := [some (.inl (some 0))]) (st' := [.inl (some 0)]) (by decide +kernel) (fun k q => by cases q) rfl ?_
  have hv3364 := (F3362 0 5 (by omega)).trans hv3361
  have hv3365 := (F3363 0 5 (by omega)).trans hv3364
  refine y_get (j := 29) (len := 3) (r := (11, 5, 2, 404)) (by decide +kernel) hg3363 (tv0 hg3363) aw0 rfl rfl hv3365 ?_
  refine y_cI (i := .invokevirtual 94) (len := 3) (r := (0, 111, 9, 478)) (nL := 1) (k := 1) (n := 1) (hs := []) (args := [.inl (some 2)]) (rest := []) (l0 := [some (.inl (some 2))]) (by decide +kernel) (Or.inr (Or.inl ⟨_, rfl⟩)) rfl rfl rfl rfl (Nat.le_of_ble_eq_true rfl) (zO hg3363 (tv2 hg3363) aw1000 rfl) rfl (qI_le (by decide) (c_cnt (d := 0) hg3363 (RC_up rc3362 (fun k j h1 => (F3363 k j (by omega)))))) (fun y3366 qy3366 hRy3366 => ?_)
  obtain ⟨rfl, ey3366⟩ := hRy3366
  refine y_rI (len := 1) (r := (0, 0, 0, 0)) (nL := 1) (k := 1) (n9 := 1) (hs := []) (by decide +kernel) rfl rfl ?_
  exact ⟨_, jh3363, by omega⟩
theorem jr_undoC {t : Nat} {τ : List Nat} {h : zh} {cur : bsT} {hs : List bsT} (hg : hG τ h) (rc : RC h cur hs) (r5 : hsl h 0 5 = some (.inl (some 2))) : qI 60 138 [some (.inl (some 0))] h t (fun y h1 => (hs = [] ∧ h = h1) ∨ ci_ h1 28 5 0) := by
  refine qI_le (d := 21) (by decide) (qI_of ?_)
  refine y_same (i := .aload_n 0) (len := 1) (r := (0, 0, 0, 0)) (pc' := 1) (ls' := [some (.inl (some 0))]) (st' := [.inl (some 0)]) (by decide +kernel) (fun k q => by cases q) rfl ?_
  refine y_get (j := 36) (len := 3) (r := (11, 6, 2, 405)) (by decide +kernel) hg (tv0 hg) aw0 rfl rfl (g_rU (f := 6) (T2 := 13) hg (tv0 hg) aw0 rfl (by decide)) ?_
  refine y_same (i := .aload_n 0) (len := 1) (r := (0, 0, 0, 0)) (pc' := 5) (ls' := [some (.inl (some 0))]) (st' := [.inl (some 0), .inl (some 13)]) (by decide +kernel) (fun k q => by cases q) rfl ?_
  refine y_get (j := 29) (len := 3) (r := (11, 5, 2, 404)) (by decide +kernel) hg (tv0 hg) aw0 rfl rfl r5 ?_
  refine y_cI (i := .invokevirtual 132) (len := 3) (r := (0, 25, 2, 486)) (nL := 3) (k := 2) (n := 2) (hs := []) (args := [.inl (some 13), .inl (some 2)]) (rest := []) (l0 := [some (.inl (some 13)), some (.inl (some 2)), none]) (by decide +kernel) (Or.inr (Or.inl ⟨_, rfl⟩)) rfl rfl rfl rfl (Nat.le_of_ble_eq_true rfl) (zO hg (tv13 hg) aw13 rfl) rfl (qI_le (by decide) (e_back hg rc)) (fun y3367 h3367 hRy3367 => ?_)
  rcases hRy3367 with ⟨hn3367, hy3367, he3367⟩ | ⟨hs3367, bb3367, eh3367, hy3367, hg3367, rc3367, F3367⟩
  ·
    subst he3367
    refine y_iF (c := .ne) (off := 5) (len := 3) (r := (0, 0, 0, 0)) (by decide +kernel) (acmpF (c := .ne) (by show _ = _; omega)) ?_
    refine y_ic (c := (-1)) (len := 1) (r := (0, 0, 0, 0)) (by decide +kernel) (by decide) (fun y3368 hy3368 => ?_)
    refine y_rI (len := 1) (r := (0, 0, 0, 0)) (nL := 1) (k := 1) (n9 := 1) (hs := []) (by decide +kernel) rfl rfl ?_
    exact Or.inl ⟨by assumption, rfl⟩
  ·
    obtain ⟨-, -, -, -, -, -, -, -, ⟨xk3367, hk3367, ek3367⟩, -⟩ := id rc3367
    refine y_iT (c := .ne) (off := 5) (pc' := 16) (len := 3) (r := (0, 0, 0, 0)) (by decide +kernel) (acmpT (c := .ne) (by show ¬ (_ = _); omega)) (by decide +kernel) ?_
    refine y_same (i := .aload_n 0) (len := 1) (r := (0, 0, 0, 0)) (pc' := 17) (ls' := [some (.inl (some 0))]) (st' := [.inl (some 0)]) (by decide +kernel) (fun k q => by cases q) rfl ?_
    refine y_cV (i := .invokevirtual 91) (len := 3) (r := (0, 154, 11, 474)) (nL := 1) (k := 0) (n := 1) (hs := []) (args := [.inl (some 0)]) (rest := []) (l0 := [some (.inl (some 0))]) (by decide +kernel) (Or.inr (Or.inl ⟨_, rfl⟩)) rfl rfl rfl rfl (Nat.le_of_ble_eq_true rfl) (zO hg3367 (tv0 hg3367) aw0 rfl) rfl (qV_le (by decide) (c_forgR (d := 0) hg3367)) (fun h3369 hR3369 => ?_)
    obtain ⟨hg3369, F3369, jx3369, jh3369, je3369⟩ := hR3369
    refine y_same (i := .aload_n 0) (len := 1) (r := (0, 0, 0, 0)) (pc' := 21) (ls' := [some (.inl (some 0))]) (st' := [.inl (some 0)]) (by decide +kernel) (fun k q => by cases q) rfl ?_
    refine y_get (j := 36) (len := 3) (r := (11, 6, 2, 405)) (by decide +kernel) hg3369 (tv0 hg3369) aw0 rfl rfl (g_rU (f := 6) (T2 := 13) hg3369 (tv0 hg3369) aw0 rfl (by decide)) ?_
    have hv3370 := (F3369 13 2 (by omega)).trans hk3367
    refine y_get (j := 136) (len := 3) (r := (2, 2, 0, 20223)) (by decide +kernel) hg3369 (tv13 hg3369) aw13 rfl rfl hv3370 ?_
    refine y_rI (len := 1) (r := (0, 0, 0, 0)) (nL := 1) (k := 1) (n9 := 1) (hs := []) (by decide +kernel) rfl rfl ?_
    exact Or.inr ⟨_, jh3369, by omega⟩
theorem jr_drop0 {t k : Nat} {τ : List Nat} {h : zh} {cur : bsT} {hs : List bsT} {x xk : Int32} (hg : hG τ h) (rc : RC h cur hs) (r5 : hsl h 0 5 = some (.inl (some 2))) (hx : x.toInt = 0) (exk : xk.toInt = (k : Int)) (hk : k < cur.1.1.length) : qI 21 136 [some (.inl (some 0)), some (zi x), some (zi xk), none] h t (fun y h1 => (∃ τ1, hG τ1 h1) ∧ ci_ h1 28 5 0) := by
  refine qI_of ?_
  obtain ⟨-, ⟨uz, vz, huz, l2z, b2z⟩, -⟩ := id rc
  have uuz : (uz = 1 ∧ vz = 6) ∨ (uz = 6 ∧ vz = 1) := huz
  have tyz := ty_u (tyB_of hg huz (tv2 hg) b2z.1 b2z.2.1 l2z) huz
  have laz := lay_u l2z huz
  obtain ⟨⟨⟨xp0z, hp0z, ep0z⟩, ip0z⟩, ⟨xc0z, hc0z, ec0z⟩, ic0z⟩ := b2z.2.2.1
  obtain ⟨⟨⟨xp1z, hp1z, ep1z⟩, ip1z⟩, ⟨xc1z, hc1z, ec1z⟩, ic1z⟩ := b2z.2.2.2
  refine y_same (i := .aload_n 0) (len := 1) (r := (0, 0, 0, 0)) (pc' := 1) (ls' := [some (.inl (some 0)), some (zi x), some (zi xk), none]) (st' := [.inl (some 0)]) (by decide +kernel) (fun k q => by cases q) rfl ?_
  refine y_same (i := .iload_n 1) (len := 1) (r := (0, 0, 0, 0)) (pc' := 2) (ls' := [some (.inl (some 0)), some (zi x), some (zi xk), none]) (st' := [zi x, .inl (some 0)]) (by decide +kernel) (fun k q => by cases q) rfl ?_
  refine y_cI (i := .invokestatic 101) (len := 3) (r := (1, 156, 11, 1068)) (nL := 1) (k := 2) (n := 1) (hs := []) (args := [zi x]) (rest := [.inl (some 0)]) (l0 := [some (zi x)]) (by decide +kernel) (Or.inl ⟨_, rfl⟩) rfl rfl rfl rfl (Nat.le_of_ble_eq_true rfl) rfl rfl (qI_le (by decide) (c_isSide (d := 0))) (fun y3371 qy3371 hRy3371 => ?_)
  obtain ⟨rfl, hDy3371⟩ := hRy3371
  have ey3371 : y3371.toInt = 1 := by omega
  refine y_iF (c := .eq) (off := 25) (len := 3) (r := (0, 0, 0, 0)) (by decide +kernel) (acmpF (c := .eq) (by show ¬ (_ = _); omega)) ?_
  refine y_same (i := .aload_n 0) (len := 1) (r := (0, 0, 0, 0)) (pc' := 9) (ls' := [some (.inl (some 0)), some (zi x), some (zi xk), none]) (st' := [.inl (some 0), .inl (some 0)]) (by decide +kernel) (fun k q => by cases q) rfl ?_
  refine y_get (j := 29) (len := 3) (r := (11, 5, 2, 404)) (by decide +kernel) hg (tv0 hg) aw0 rfl rfl r5 ?_
  refine y_same (i := .iload_n 1) (len := 1) (r := (0, 0, 0, 0)) (pc' := 13) (ls' := [some (.inl (some 0)), some (zi x), some (zi xk), none]) (st' := [zi x, .inl (some 2), .inl (some 0)]) (by decide +kernel) (fun k q => by cases q) rfl ?_
  refine y_cA (i := .invokevirtual 105) (len := 3) (r := (0, 108, 9, 1071)) (nL := 2) (k := 3) (n := 2) (hs := []) (args := [.inl (some 2), zi x]) (rest := [.inl (some 0)]) (l0 := [some (.inl (some 2)), some (zi x)]) (by decide +kernel) (Or.inr (Or.inl ⟨_, rfl⟩)) rfl rfl rfl rfl (Nat.le_of_ble_eq_true rfl) (zO hg (tv2 hg) aw1000 rfl) rfl (qA_le (by decide) (c_side0 (d := 0) (u := uz) (v := vz) hg (by omega) b2z.1 b2z.2.1)) (fun q3372 hR3372 => ?_)
  obtain rfl := hR3372
  refine y_get (j := 109) (len := 3) (r := (8, 0, 2, 20182)) (by decide +kernel) hg tyz.1.1 aw1001 rfl rfl laz.1.1 ?_
  refine y_same (i := .iload_n 2) (len := 1) (r := (0, 0, 0, 0)) (pc' := 20) (ls' := [some (.inl (some 0)), some (zi x), some (zi xk), none]) (st' := [zi xk, .inl (some ((2 + uz + 1))), .inl (some 0)]) (by decide +kernel) (fun k q => by cases q) rfl ?_
  refine y_cI (i := .invokevirtual 115) (len := 3) (r := (0, 63, 6, 1075)) (nL := 2) (k := 2) (n := 2) (hs := []) (args := [.inl (some ((2 + uz + 1))), zi xk]) (rest := [.inl (some 0)]) (l0 := [some (.inl (some ((2 + uz + 1)))), some (zi xk)]) (by decide +kernel) (Or.inr (Or.inl ⟨_, rfl⟩)) rfl rfl rfl rfl (Nat.le_of_ble_eq_true rfl) (zO hg tyz.1.2.1 aw1002 rfl) rfl (qI_le (by decide) (c_has5 (d := 0) hg tyz.1.2.1 hp0z)) (fun y3373 qy3373 hRy3373 => ?_)
  obtain ⟨rfl, hDy3373⟩ := hRy3373
  have ey3373 : y3373.toInt = 1 := by omega
  refine y_iF (c := .eq) (off := 7) (len := 3) (r := (0, 0, 0, 0)) (by decide +kernel) (acmpF (c := .eq) (by show ¬ (_ = _); omega)) ?_
  refine y_ic (c := 1) (len := 1) (r := (0, 0, 0, 0)) (by decide +kernel) (by decide) (fun y3374 hy3374 => ?_)
  refine y_goto (off := 4) (pc' := 31) (len := 3) (r := (0, 0, 0, 0)) (by decide +kernel) (by decide +kernel) ?_
  refine y_cV (i := .invokevirtual 120) (len := 3) (r := (0, 152, 11, 1079)) (nL := 2) (k := 0) (n := 2) (hs := []) (args := [.inl (some 0), zi y3374]) (rest := []) (l0 := [some (.inl (some 0)), some (zi y3374)]) (by decide +kernel) (Or.inr (Or.inl ⟨_, rfl⟩)) rfl rfl rfl rfl (Nat.le_of_ble_eq_true rfl) (zO hg (tv0 hg) aw0 rfl) rfl (qV_le (by decide) (c_there (d := 0) (by omega))) (fun q3375 hR3375 => ?_)
  obtain rfl := hR3375
  refine y_same (i := .aload_n 0) (len := 1) (r := (0, 0, 0, 0)) (pc' := 35) (ls' := [some (.inl (some 0)), some (zi x), some (zi xk), none]) (st' := [.inl (some 0)]) (by decide +kernel) (fun k q => by cases q) rfl ?_
  refine y_get (j := 36) (len := 3) (r := (11, 6, 2, 405)) (by decide +kernel) hg (tv0 hg) aw0 rfl rfl (g_rU (f := 6) (T2 := 13) hg (tv0 hg) aw0 rfl (by decide)) ?_
  refine y_same (i := .aload_n 0) (len := 1) (r := (0, 0, 0, 0)) (pc' := 39) (ls' := [some (.inl (some 0)), some (zi x), some (zi xk), none]) (st' := [.inl (some 0), .inl (some 13)]) (by decide +kernel) (fun k q => by cases q) rfl ?_
  refine y_get (j := 29) (len := 3) (r := (11, 5, 2, 404)) (by decide +kernel) hg (tv0 hg) aw0 rfl rfl r5 ?_
  refine y_cV (i := .invokevirtual 83) (len := 3) (r := (0, 24, 2, 449)) (nL := 2) (k := 0) (n := 2) (hs := []) (args := [.inl (some 13), .inl (some 2)]) (rest := []) (l0 := [some (.inl (some 13)), some (.inl (some 2))]) (by decide +kernel) (Or.inr (Or.inl ⟨_, rfl⟩)) rfl rfl rfl rfl (Nat.le_of_ble_eq_true rfl) (zO hg (tv13 hg) aw13 rfl) rfl (qV_le (by decide) (e_keep hg rc)) (fun h3376 hR3376 => ?_)
  obtain ⟨τ3376, au3376, hg3376, rc3376, F3376⟩ := hR3376
  obtain ⟨-, ⟨u3376, v3376, hu3376, l23376, b23376⟩, -⟩ := id rc3376
  have uu3376 : (u3376 = 1 ∧ v3376 = 6) ∨ (u3376 = 6 ∧ v3376 = 1) := hu3376
  have ty3376 := ty_u (tyB_of hg3376 hu3376 (tv2 hg3376) b23376.1 b23376.2.1 l23376) hu3376
  have la3376 := lay_u l23376 hu3376
  obtain ⟨⟨⟨xp03376, hp03376, ep03376⟩, ip03376⟩, ⟨xc03376, hc03376, ec03376⟩, ic03376⟩ := b23376.2.2.1
  obtain ⟨⟨⟨xp13376, hp13376, ep13376⟩, ip13376⟩, ⟨xc13376, hc13376, ec13376⟩, ic13376⟩ := b23376.2.2.2
  refine y_same (i := .aload_n 0) (len := 1) (r := (0, 0, 0, 0)) (pc' := 46) (ls' := [some (.inl (some 0)), some (zi x), some (zi xk), none]) (st' := [.inl (some 0)]) (by decide +kernel) (fun k q => by cases q) rfl ?_
  have hv3377 := (F3376 0 5 (by omega)).trans r5
  refine y_get (j := 29) (len := 3) (r := (11, 5, 2, 404)) (by decide +kernel) hg3376 (tv0 hg3376) aw0 rfl rfl hv3377 ?_
  refine y_same (i := .iload_n 1) (len := 1) (r := (0, 0, 0, 0)) (pc' := 50) (ls' := [some (.inl (some 0)), some (zi x), some (zi xk), none]) (st' := [zi x, .inl (some 2)]) (by decide +kernel) (fun k q => by cases q) rfl ?_
  refine y_cA (i := .invokevirtual 105) (len := 3) (r := (0, 108, 9, 1071)) (nL := 2) (k := 3) (n := 2) (hs := []) (args := [.inl (some 2), zi x]) (rest := []) (l0 := [some (.inl (some 2)), some (zi x)]) (by decide +kernel) (Or.inr (Or.inl ⟨_, rfl⟩)) rfl rfl rfl rfl (Nat.le_of_ble_eq_true rfl) (zO hg3376 (tv2 hg3376) aw1000 rfl) rfl (qA_le (by decide) (c_side0 (d := 0) (u := u3376) (v := v3376) hg3376 (by omega) b23376.1 b23376.2.1)) (fun q3378 hR3378 => ?_)
  obtain rfl := hR3378
  refine y_get (j := 109) (len := 3) (r := (8, 0, 2, 20182)) (by decide +kernel) hg3376 ty3376.1.1 aw1001 rfl rfl la3376.1.1 ?_
  refine y_same (i := .astore_n 3) (len := 1) (r := (0, 0, 0, 0)) (pc' := 57) (ls' := [some (.inl (some 0)), some (zi x), some (zi xk), some (.inl (some ((2 + u3376 + 1))))]) (st' := []) (by decide +kernel) (fun k q => by cases q) rfl ?_
  refine y_same (i := .aload_n 3) (len := 1) (r := (0, 0, 0, 0)) (pc' := 58) (ls' := [some (.inl (some 0)), some (zi x), some (zi xk), some (.inl (some ((2 + u3376 + 1))))]) (st' := [.inl (some ((2 + u3376 + 1)))]) (by decide +kernel) (fun k q => by cases q) rfl ?_
  refine y_same (i := .iload_n 2) (len := 1) (r := (0, 0, 0, 0)) (pc' := 59) (ls' := [some (.inl (some 0)), some (zi x), some (zi xk), some (.inl (some ((2 + u3376 + 1))))]) (st' := [zi xk, .inl (some ((2 + u3376 + 1)))]) (by decide +kernel) (fun k q => by cases q) rfl ?_
  refine y_cV (i := .invokevirtual 123) (len := 3) (r := (0, 70, 6, 1099)) (nL := 3) (k := 0) (n := 2) (hs := []) (args := [.inl (some ((2 + u3376 + 1))), zi xk]) (rest := []) (l0 := [some (.inl (some ((2 + u3376 + 1)))), some (zi xk), none]) (by decide +kernel) (Or.inr (Or.inl ⟨_, rfl⟩)) rfl rfl rfl rfl (Nat.le_of_ble_eq_true rfl) (zO hg3376 ty3376.1.2.1 aw1002 rfl) rfl (qV_le (by decide) (e_rm5 (d := 0) (RA := (2 + u3376 + 1)) (IA := (2 + u3376 + 2)) hg3376 ty3376.1.2.1 ty3376.1.2.2.1 (by omega) la3376.1.2.2.1 b23376.2.2.1.1 exk (by omega))) (fun h3379 hR3379 => ?_)
  obtain ⟨hg3379, r3379, F3379⟩ := hR3379
  have rc3379 : RC h3379 ((cur.1.1.eraseIdx k, cur.1.2), (cur.2.1, cur.2.2)) (psh hs cur) := RC_set rc3376 ⟨u3376, v3376, hu3376, ⟨laS_up l23376.1 (fun k j h1 => F3379 k j (by omega)), laS_up l23376.2 (fun k j h1 => F3379 k j (by omega))⟩, rfs_up b23376.1 (F3379 _ _ (by omega)), rfs_up b23376.2.1 (F3379 _ _ (by omega)), ⟨r3379, rwC_up b23376.2.2.1.2 (F3379 _ _ (by omega)) (fun j => F3379 _ _ (by omega))⟩, sdC_up b23376.2.2.2 (fun k j h1 h2 => F3379 k j (by omega))⟩ (fun k j h1 => F3379 k j (by omega))
  obtain ⟨xz, hz, ez⟩ := r3379.1
  rw [List.length_eraseIdx_of_lt (by omega)] at ez
  refine y_same (i := .aload_n 0) (len := 1) (r := (0, 0, 0, 0)) (pc' := 63) (ls' := [some (.inl (some 0)), some (zi x), some (zi xk), some (.inl (some ((2 + u3376 + 1))))]) (st' := [.inl (some 0)]) (by decide +kernel) (fun k q => by cases q) rfl ?_
  refine y_cV (i := .invokevirtual 91) (len := 3) (r := (0, 154, 11, 474)) (nL := 1) (k := 0) (n := 1) (hs := []) (args := [.inl (some 0)]) (rest := []) (l0 := [some (.inl (some 0))]) (by decide +kernel) (Or.inr (Or.inl ⟨_, rfl⟩)) rfl rfl rfl rfl (Nat.le_of_ble_eq_true rfl) (zO hg3379 (tv0 hg3379) aw0 rfl) rfl (qV_le (by decide) (c_forgR (d := 0) hg3379)) (fun h3380 hR3380 => ?_)
  obtain ⟨hg3380, F3380, jx3380, jh3380, je3380⟩ := hR3380
  refine y_same (i := .aload_n 3) (len := 1) (r := (0, 0, 0, 0)) (pc' := 67) (ls' := [some (.inl (some 0)), some (zi x), some (zi xk), some (.inl (some ((2 + u3376 + 1))))]) (st' := [.inl (some ((2 + u3376 + 1)))]) (by decide +kernel) (fun k q => by cases q) rfl ?_
  have hv3381 := (F3380 (2 + u3376 + 1) 1 (by omega)).trans hz
  refine y_get (j := 126) (len := 3) (r := (6, 1, 0, 20168)) (by decide +kernel) hg3380 ty3376.1.2.1 aw1002 rfl rfl hv3381 ?_
  refine y_rI (len := 1) (r := (0, 0, 0, 0)) (nL := 4) (k := 1) (n9 := 3) (hs := []) (by decide +kernel) rfl rfl ?_
  exact ⟨⟨_, hg3380⟩, _, jh3380, by omega⟩
theorem jr_ldrop0 {t k : Nat} {τ : List Nat} {h : zh} {cur : bsT} {hs : List bsT} {x xk : Int32} (hg : hG τ h) (rc : RC h cur hs) (r5 : hsl h 0 5 = some (.inl (some 2))) (hx : x.toInt = 0) (exk : xk.toInt = (k : Int)) (hk : k < cur.1.1.length) : qI 60 277 [some (.inl (some 0)), some (zi x), some (zi xk), some (.inl (some 388)), none] h t (fun y h1 => ci_ h1 28 5 0) := by
  refine qI_le (d := 32) (by decide) (qI_of ?_)
  refine y_same (i := .aload_n 3) (len := 1) (r := (0, 0, 0, 0)) (pc' := 1) (ls' := [some (.inl (some 0)), some (zi x), some (zi xk), some (.inl (some 388)), none]) (st' := [.inl (some 388)]) (by decide +kernel) (fun k q => by cases q) rfl ?_
  refine y_ic (c := 0) (len := 1) (r := (0, 0, 0, 0)) (by decide +kernel) (by decide) (fun y3382 hy3382 => ?_)
  refine y_same (i := .aload_n 0) (len := 1) (r := (0, 0, 0, 0)) (pc' := 3) (ls' := [some (.inl (some 0)), some (zi x), some (zi xk), some (.inl (some 388)), none]) (st' := [.inl (some 0), zi y3382, .inl (some 388)]) (by decide +kernel) (fun k q => by cases q) rfl ?_
  refine y_same (i := .iload_n 1) (len := 1) (r := (0, 0, 0, 0)) (pc' := 4) (ls' := [some (.inl (some 0)), some (zi x), some (zi xk), some (.inl (some 388)), none]) (st' := [zi x, .inl (some 0), zi y3382, .inl (some 388)]) (by decide +kernel) (fun k q => by cases q) rfl ?_
  refine y_same (i := .iload_n 2) (len := 1) (r := (0, 0, 0, 0)) (pc' := 5) (ls' := [some (.inl (some 0)), some (zi x), some (zi xk), some (.inl (some 388)), none]) (st' := [zi xk, zi x, .inl (some 0), zi y3382, .inl (some 388)]) (by decide +kernel) (fun k q => by cases q) rfl ?_
  refine y_cI (i := .invokevirtual 15) (len := 3) (r := (0, 136, 11, 1064)) (nL := 4) (k := 1) (n := 3) (hs := []) (args := [.inl (some 0), zi x, zi xk]) (rest := [zi y3382, .inl (some 388)]) (l0 := [some (.inl (some 0)), some (zi x), some (zi xk), none]) (by decide +kernel) (Or.inr (Or.inl ⟨_, rfl⟩)) rfl rfl rfl rfl (Nat.le_of_ble_eq_true rfl) (zO hg (tv0 hg) aw0 rfl) rfl (qI_le (by decide) (jr_drop0 hg rc r5 hx exk hk)) (fun y3383 h3383 hRy3383 => ?_)
  obtain ⟨⟨τ3383, hg3383⟩, jx, jh, je⟩ := hRy3383
  refine y_i2l2 (len := 1) (r := (0, 0, 0, 0)) (by decide +kernel) ?_
  refine y_las2 (i := 0) (len := 1) (r := (0, 0, 0, 0)) (by decide +kernel) hg3383 (t388 hg3383) aw388 rfl (by omega) (by omega) rfl (fun h3384 hg3384 hw3384 ho3384 => ?_)
  refine y_goto (off := 7) (pc' := 17) (len := 3) (r := (0, 0, 0, 0)) (by decide +kernel) (by decide +kernel) ?_
  refine y_ic (c := 0) (len := 1) (r := (0, 0, 0, 0)) (by decide +kernel) (by decide) (fun y3385 hy3385 => ?_)
  refine y_rI (len := 1) (r := (0, 0, 0, 0)) (nL := 5) (k := 1) (n9 := 4) (hs := [(0, 10, 13, 0)]) (by decide +kernel) rfl rfl ?_
  have hv3386 := (ho3384 28 5 (Or.inl (by omega))).trans jh
  exact ⟨_, hv3386, by omega⟩
theorem jr_drop1 {t k : Nat} {τ : List Nat} {h : zh} {cur : bsT} {hs : List bsT} {x xk : Int32} (hg : hG τ h) (rc : RC h cur hs) (r5 : hsl h 0 5 = some (.inl (some 2))) (hx : x.toInt = 1) (exk : xk.toInt = (k : Int)) (hk : k < cur.2.1.length) : qI 21 136 [some (.inl (some 0)), some (zi x), some (zi xk), none] h t (fun y h1 => (∃ τ1, hG τ1 h1) ∧ ci_ h1 28 5 0) := by
  refine qI_of ?_
  obtain ⟨-, ⟨uz, vz, huz, l2z, b2z⟩, -⟩ := id rc
  have uuz : (uz = 1 ∧ vz = 6) ∨ (uz = 6 ∧ vz = 1) := huz
  have tyz := ty_u (tyB_of hg huz (tv2 hg) b2z.1 b2z.2.1 l2z) huz
  have laz := lay_u l2z huz
  obtain ⟨⟨⟨xp0z, hp0z, ep0z⟩, ip0z⟩, ⟨xc0z, hc0z, ec0z⟩, ic0z⟩ := b2z.2.2.1
  obtain ⟨⟨⟨xp1z, hp1z, ep1z⟩, ip1z⟩, ⟨xc1z, hc1z, ec1z⟩, ic1z⟩ := b2z.2.2.2
  refine y_same (i := .aload_n 0) (len := 1) (r := (0, 0, 0, 0)) (pc' := 1) (ls' := [some (.inl (some 0)), some (zi x), some (zi xk), none]) (st' := [.inl (some 0)]) (by decide +kernel) (fun k q => by cases q) rfl ?_
  refine y_same (i := .iload_n 1) (len := 1) (r := (0, 0, 0, 0)) (pc' := 2) (ls' := [some (.inl (some 0)), some (zi x), some (zi xk), none]) (st' := [zi x, .inl (some 0)]) (by decide +kernel) (fun k q => by cases q) rfl ?_
  refine y_cI (i := .invokestatic 101) (len := 3) (r := (1, 156, 11, 1068)) (nL := 1) (k := 2) (n := 1) (hs := []) (args := [zi x]) (rest := [.inl (some 0)]) (l0 := [some (zi x)]) (by decide +kernel) (Or.inl ⟨_, rfl⟩) rfl rfl rfl rfl (Nat.le_of_ble_eq_true rfl) rfl rfl (qI_le (by decide) (c_isSide (d := 0))) (fun y3387 qy3387 hRy3387 => ?_)
  obtain ⟨rfl, hDy3387⟩ := hRy3387
  have ey3387 : y3387.toInt = 1 := by omega
  refine y_iF (c := .eq) (off := 25) (len := 3) (r := (0, 0, 0, 0)) (by decide +kernel) (acmpF (c := .eq) (by show ¬ (_ = _); omega)) ?_
  refine y_same (i := .aload_n 0) (len := 1) (r := (0, 0, 0, 0)) (pc' := 9) (ls' := [some (.inl (some 0)), some (zi x), some (zi xk), none]) (st' := [.inl (some 0), .inl (some 0)]) (by decide +kernel) (fun k q => by cases q) rfl ?_
  refine y_get (j := 29) (len := 3) (r := (11, 5, 2, 404)) (by decide +kernel) hg (tv0 hg) aw0 rfl rfl r5 ?_
  refine y_same (i := .iload_n 1) (len := 1) (r := (0, 0, 0, 0)) (pc' := 13) (ls' := [some (.inl (some 0)), some (zi x), some (zi xk), none]) (st' := [zi x, .inl (some 2), .inl (some 0)]) (by decide +kernel) (fun k q => by cases q) rfl ?_
  refine y_cA (i := .invokevirtual 105) (len := 3) (r := (0, 108, 9, 1071)) (nL := 2) (k := 3) (n := 2) (hs := []) (args := [.inl (some 2), zi x]) (rest := [.inl (some 0)]) (l0 := [some (.inl (some 2)), some (zi x)]) (by decide +kernel) (Or.inr (Or.inl ⟨_, rfl⟩)) rfl rfl rfl rfl (Nat.le_of_ble_eq_true rfl) (zO hg (tv2 hg) aw1000 rfl) rfl (qA_le (by decide) (c_side1 (d := 0) (u := uz) (v := vz) hg (by omega) b2z.1 b2z.2.1)) (fun q3388 hR3388 => ?_)
  obtain rfl := hR3388
  refine y_get (j := 109) (len := 3) (r := (8, 0, 2, 20182)) (by decide +kernel) hg tyz.2.1 aw1001 rfl rfl laz.2.1 ?_
  refine y_same (i := .iload_n 2) (len := 1) (r := (0, 0, 0, 0)) (pc' := 20) (ls' := [some (.inl (some 0)), some (zi x), some (zi xk), none]) (st' := [zi xk, .inl (some ((2 + vz + 1))), .inl (some 0)]) (by decide +kernel) (fun k q => by cases q) rfl ?_
  refine y_cI (i := .invokevirtual 115) (len := 3) (r := (0, 63, 6, 1075)) (nL := 2) (k := 2) (n := 2) (hs := []) (args := [.inl (some ((2 + vz + 1))), zi xk]) (rest := [.inl (some 0)]) (l0 := [some (.inl (some ((2 + vz + 1)))), some (zi xk)]) (by decide +kernel) (Or.inr (Or.inl ⟨_, rfl⟩)) rfl rfl rfl rfl (Nat.le_of_ble_eq_true rfl) (zO hg tyz.2.2.1 aw1002 rfl) rfl (qI_le (by decide) (c_has5 (d := 0) hg tyz.2.2.1 hp1z)) (fun y3389 qy3389 hRy3389 => ?_)
  obtain ⟨rfl, hDy3389⟩ := hRy3389
  have ey3389 : y3389.toInt = 1 := by omega
  refine y_iF (c := .eq) (off := 7) (len := 3) (r := (0, 0, 0, 0)) (by decide +kernel) (acmpF (c := .eq) (by show ¬ (_ = _); omega)) ?_
  refine y_ic (c := 1) (len := 1) (r := (0, 0, 0, 0)) (by decide +kernel) (by decide) (fun y3390 hy3390 => ?_)
  refine y_goto (off := 4) (pc' := 31) (len := 3) (r := (0, 0, 0, 0)) (by decide +kernel) (by decide +kernel) ?_
  refine y_cV (i := .invokevirtual 120) (len := 3) (r := (0, 152, 11, 1079)) (nL := 2) (k := 0) (n := 2) (hs := []) (args := [.inl (some 0), zi y3390]) (rest := []) (l0 := [some (.inl (some 0)), some (zi y3390)]) (by decide +kernel) (Or.inr (Or.inl ⟨_, rfl⟩)) rfl rfl rfl rfl (Nat.le_of_ble_eq_true rfl) (zO hg (tv0 hg) aw0 rfl) rfl (qV_le (by decide) (c_there (d := 0) (by omega))) (fun q3391 hR3391 => ?_)
  obtain rfl := hR3391
  refine y_same (i := .aload_n 0) (len := 1) (r := (0, 0, 0, 0)) (pc' := 35) (ls' := [some (.inl (some 0)), some (zi x), some (zi xk), none]) (st' := [.inl (some 0)]) (by decide +kernel) (fun k q => by cases q) rfl ?_
  refine y_get (j := 36) (len := 3) (r := (11, 6, 2, 405)) (by decide +kernel) hg (tv0 hg) aw0 rfl rfl (g_rU (f := 6) (T2 := 13) hg (tv0 hg) aw0 rfl (by decide)) ?_
  refine y_same (i := .aload_n 0) (len := 1) (r := (0, 0, 0, 0)) (pc' := 39) (ls' := [some (.inl (some 0)), some (zi x), some (zi xk), none]) (st' := [.inl (some 0), .inl (some 13)]) (by decide +kernel) (fun k q => by cases q) rfl ?_
  refine y_get (j := 29) (len := 3) (r := (11, 5, 2, 404)) (by decide +kernel) hg (tv0 hg) aw0 rfl rfl r5 ?_
  refine y_cV (i := .invokevirtual 83) (len := 3) (r := (0, 24, 2, 449)) (nL := 2) (k := 0) (n := 2) (hs := []) (args := [.inl (some 13), .inl (some 2)]) (rest := []) (l0 := [some (.inl (some 13)), some (.inl (some 2))]) (by decide +kernel) (Or.inr (Or.inl ⟨_, rfl⟩)) rfl rfl rfl rfl (Nat.le_of_ble_eq_true rfl) (zO hg (tv13 hg) aw13 rfl) rfl (qV_le (by decide) (e_keep hg rc)) (fun h3392 hR3392 => ?_)
  obtain ⟨τ3392, au3392, hg3392, rc3392, F3392⟩ := hR3392
  obtain ⟨-, ⟨u3392, v3392, hu3392, l23392, b23392⟩, -⟩ := id rc3392
  have uu3392 : (u3392 = 1 ∧ v3392 = 6) ∨ (u3392 = 6 ∧ v3392 = 1) := hu3392
  have ty3392 := ty_u (tyB_of hg3392 hu3392 (tv2 hg3392) b23392.1 b23392.2.1 l23392) hu3392
  have la3392 := lay_u l23392 hu3392
  obtain ⟨⟨⟨xp03392, hp03392, ep03392⟩, ip03392⟩, ⟨xc03392, hc03392, ec03392⟩, ic03392⟩ := b23392.2.2.1
  obtain ⟨⟨⟨xp13392, hp13392, ep13392⟩, ip13392⟩, ⟨xc13392, hc13392, ec13392⟩, ic13392⟩ := b23392.2.2.2
  refine y_same (i := .aload_n 0) (len := 1) (r := (0, 0, 0, 0)) (pc' := 46) (ls' := [some (.inl (some 0)), some (zi x), some (zi xk), none]) (st' := [.inl (some 0)]) (by decide +kernel) (fun k q => by cases q) rfl ?_
  have hv3393 := (F3392 0 5 (by omega)).trans r5
  refine y_get (j := 29) (len := 3) (r := (11, 5, 2, 404)) (by decide +kernel) hg3392 (tv0 hg3392) aw0 rfl rfl hv3393 ?_
  refine y_same (i := .iload_n 1) (len := 1) (r := (0, 0, 0, 0)) (pc' := 50) (ls' := [some (.inl (some 0)), some (zi x), some (zi xk), none]) (st' := [zi x, .inl (some 2)]) (by decide +kernel) (fun k q => by cases q) rfl ?_
  refine y_cA (i := .invokevirtual 105) (len := 3) (r := (0, 108, 9, 1071)) (nL := 2) (k := 3) (n := 2) (hs := []) (args := [.inl (some 2), zi x]) (rest := []) (l0 := [some (.inl (some 2)), some (zi x)]) (by decide +kernel) (Or.inr (Or.inl ⟨_, rfl⟩)) rfl rfl rfl rfl (Nat.le_of_ble_eq_true rfl) (zO hg3392 (tv2 hg3392) aw1000 rfl) rfl (qA_le (by decide) (c_side1 (d := 0) (u := u3392) (v := v3392) hg3392 (by omega) b23392.1 b23392.2.1)) (fun q3394 hR3394 => ?_)
  obtain rfl := hR3394
  refine y_get (j := 109) (len := 3) (r := (8, 0, 2, 20182)) (by decide +kernel) hg3392 ty3392.2.1 aw1001 rfl rfl la3392.2.1 ?_
  refine y_same (i := .astore_n 3) (len := 1) (r := (0, 0, 0, 0)) (pc' := 57) (ls' := [some (.inl (some 0)), some (zi x), some (zi xk), some (.inl (some ((2 + v3392 + 1))))]) (st' := []) (by decide +kernel) (fun k q => by cases q) rfl ?_
  refine y_same (i := .aload_n 3) (len := 1) (r := (0, 0, 0, 0)) (pc' := 58) (ls' := [some (.inl (some 0)), some (zi x), some (zi xk), some (.inl (some ((2 + v3392 + 1))))]) (st' := [.inl (some ((2 + v3392 + 1)))]) (by decide +kernel) (fun k q => by cases q) rfl ?_
  refine y_same (i := .iload_n 2) (len := 1) (r := (0, 0, 0, 0)) (pc' := 59) (ls' := [some (.inl (some 0)), some (zi x), some (zi xk), some (.inl (some ((2 + v3392 + 1))))]) (st' := [zi xk, .inl (some ((2 + v3392 + 1)))]) (by decide +kernel) (fun k q => by cases q) rfl ?_
  refine y_cV (i := .invokevirtual 123) (len := 3) (r := (0, 70, 6, 1099)) (nL := 3) (k := 0) (n := 2) (hs := []) (args := [.inl (some ((2 + v3392 + 1))), zi xk]) (rest := []) (l0 := [some (.inl (some ((2 + v3392 + 1)))), some (zi xk), none]) (by decide +kernel) (Or.inr (Or.inl ⟨_, rfl⟩)) rfl rfl rfl rfl (Nat.le_of_ble_eq_true rfl) (zO hg3392 ty3392.2.2.1 aw1002 rfl) rfl (qV_le (by decide) (e_rm5 (d := 0) (RA := (2 + v3392 + 1)) (IA := (2 + v3392 + 2)) hg3392 ty3392.2.2.1 ty3392.2.2.2.1 (by omega) la3392.2.2.2.1 b23392.2.2.2.1 exk (by omega))) (fun h3395 hR3395 => ?_)
  obtain ⟨hg3395, r3395, F3395⟩ := hR3395
  have rc3395 : RC h3395 ((cur.1.1, cur.1.2), (cur.2.1.eraseIdx k, cur.2.2)) (psh hs cur) := RC_set rc3392 ⟨u3392, v3392, hu3392, ⟨laS_up l23392.1 (fun k j h1 => F3395 k j (by omega)), laS_up l23392.2 (fun k j h1 => F3395 k j (by omega))⟩, rfs_up b23392.1 (F3395 _ _ (by omega)), rfs_up b23392.2.1 (F3395 _ _ (by omega)), sdC_up b23392.2.2.1 (fun k j h1 h2 => F3395 k j (by omega)), ⟨r3395, rwC_up b23392.2.2.2.2 (F3395 _ _ (by omega)) (fun j => F3395 _ _ (by omega))⟩⟩ (fun k j h1 => F3395 k j (by omega))
  obtain ⟨xz, hz, ez⟩ := r3395.1
  rw [List.length_eraseIdx_of_lt (by omega)] at ez
  refine y_same (i := .aload_n 0) (len := 1) (r := (0, 0, 0, 0)) (pc' := 63) (ls' := [some (.inl (some 0)), some (zi x), some (zi xk), some (.inl (some ((2 + v3392 + 1))))]) (st' := [.inl (some 0)]) (by decide +kernel) (fun k q => by cases q) rfl ?_
  refine y_cV (i := .invokevirtual 91) (len := 3) (r := (0, 154, 11, 474)) (nL := 1) (k := 0) (n := 1) (hs := []) (args := [.inl (some 0)]) (rest := []) (l0 := [some (.inl (some 0))]) (by decide +kernel) (Or.inr (Or.inl ⟨_, rfl⟩)) rfl rfl rfl rfl (Nat.le_of_ble_eq_true rfl) (zO hg3395 (tv0 hg3395) aw0 rfl) rfl (qV_le (by decide) (c_forgR (d := 0) hg3395)) (fun h3396 hR3396 => ?_)
  obtain ⟨hg3396, F3396, jx3396, jh3396, je3396⟩ := hR3396
  refine y_same (i := .aload_n 3) (len := 1) (r := (0, 0, 0, 0)) (pc' := 67) (ls' := [some (.inl (some 0)), some (zi x), some (zi xk), some (.inl (some ((2 + v3392 + 1))))]) (st' := [.inl (some ((2 + v3392 + 1)))]) (by decide +kernel) (fun k q => by cases q) rfl ?_
  have hv3397 := (F3396 (2 + v3392 + 1) 1 (by omega)).trans hz
  refine y_get (j := 126) (len := 3) (r := (6, 1, 0, 20168)) (by decide +kernel) hg3396 ty3392.2.2.1 aw1002 rfl rfl hv3397 ?_
  refine y_rI (len := 1) (r := (0, 0, 0, 0)) (nL := 4) (k := 1) (n9 := 3) (hs := []) (by decide +kernel) rfl rfl ?_
  exact ⟨⟨_, hg3396⟩, _, jh3396, by omega⟩
theorem jr_ldrop1 {t k : Nat} {τ : List Nat} {h : zh} {cur : bsT} {hs : List bsT} {x xk : Int32} (hg : hG τ h) (rc : RC h cur hs) (r5 : hsl h 0 5 = some (.inl (some 2))) (hx : x.toInt = 1) (exk : xk.toInt = (k : Int)) (hk : k < cur.2.1.length) : qI 60 277 [some (.inl (some 0)), some (zi x), some (zi xk), some (.inl (some 388)), none] h t (fun y h1 => ci_ h1 28 5 0) := by
  refine qI_le (d := 32) (by decide) (qI_of ?_)
  refine y_same (i := .aload_n 3) (len := 1) (r := (0, 0, 0, 0)) (pc' := 1) (ls' := [some (.inl (some 0)), some (zi x), some (zi xk), some (.inl (some 388)), none]) (st' := [.inl (some 388)]) (by decide +kernel) (fun k q => by cases q) rfl ?_
  refine y_ic (c := 0) (len := 1) (r := (0, 0, 0, 0)) (by decide +kernel) (by decide) (fun y3398 hy3398 => ?_)
  refine y_same (i := .aload_n 0) (len := 1) (r := (0, 0, 0, 0)) (pc' := 3) (ls' := [some (.inl (some 0)), some (zi x), some (zi xk), some (.inl (some 388)), none]) (st' := [.inl (some 0), zi y3398, .inl (some 388)]) (by decide +kernel) (fun k q => by cases q) rfl ?_
  refine y_same (i := .iload_n 1) (len := 1) (r := (0, 0, 0, 0)) (pc' := 4) (ls' := [some (.inl (some 0)), some (zi x), some (zi xk), some (.inl (some 388)), none]) (st' := [zi x, .inl (some 0), zi y3398, .inl (some 388)]) (by decide +kernel) (fun k q => by cases q) rfl ?_
  refine y_same (i := .iload_n 2) (len := 1) (r := (0, 0, 0, 0)) (pc' := 5) (ls' := [some (.inl (some 0)), some (zi x), some (zi xk), some (.inl (some 388)), none]) (st' := [zi xk, zi x, .inl (some 0), zi y3398, .inl (some 388)]) (by decide +kernel) (fun k q => by cases q) rfl ?_
  refine y_cI (i := .invokevirtual 15) (len := 3) (r := (0, 136, 11, 1064)) (nL := 4) (k := 1) (n := 3) (hs := []) (args := [.inl (some 0), zi x, zi xk]) (rest := [zi y3398, .inl (some 388)]) (l0 := [some (.inl (some 0)), some (zi x), some (zi xk), none]) (by decide +kernel) (Or.inr (Or.inl ⟨_, rfl⟩)) rfl rfl rfl rfl (Nat.le_of_ble_eq_true rfl) (zO hg (tv0 hg) aw0 rfl) rfl (qI_le (by decide) (jr_drop1 hg rc r5 hx exk hk)) (fun y3399 h3399 hRy3399 => ?_)
  obtain ⟨⟨τ3399, hg3399⟩, jx, jh, je⟩ := hRy3399
  refine y_i2l2 (len := 1) (r := (0, 0, 0, 0)) (by decide +kernel) ?_
  refine y_las2 (i := 0) (len := 1) (r := (0, 0, 0, 0)) (by decide +kernel) hg3399 (t388 hg3399) aw388 rfl (by omega) (by omega) rfl (fun h3400 hg3400 hw3400 ho3400 => ?_)
  refine y_goto (off := 7) (pc' := 17) (len := 3) (r := (0, 0, 0, 0)) (by decide +kernel) (by decide +kernel) ?_
  refine y_ic (c := 0) (len := 1) (r := (0, 0, 0, 0)) (by decide +kernel) (by decide) (fun y3401 hy3401 => ?_)
  refine y_rI (len := 1) (r := (0, 0, 0, 0)) (nL := 5) (k := 1) (n9 := 4) (hs := [(0, 10, 13, 0)]) (by decide +kernel) rfl rfl ?_
  have hv3402 := (ho3400 28 5 (Or.inl (by omega))).trans jh
  exact ⟨_, hv3402, by omega⟩
theorem jr_forget0 {t k : Nat} {τ : List Nat} {h : zh} {cur : bsT} {hs : List bsT} {x xk : Int32} (hg : hG τ h) (rc : RC h cur hs) (r5 : hsl h 0 5 = some (.inl (some 2))) (hx : x.toInt = 0) (exk : xk.toInt = (k : Int)) (hk : k < cur.1.2.length) : qI 21 137 [some (.inl (some 0)), some (zi x), some (zi xk), none] h t (fun y h1 => (∃ τ1, hG τ1 h1) ∧ ci_ h1 28 5 0) := by
  refine qI_of ?_
  obtain ⟨-, ⟨uz, vz, huz, l2z, b2z⟩, -⟩ := id rc
  have uuz : (uz = 1 ∧ vz = 6) ∨ (uz = 6 ∧ vz = 1) := huz
  have tyz := ty_u (tyB_of hg huz (tv2 hg) b2z.1 b2z.2.1 l2z) huz
  have laz := lay_u l2z huz
  obtain ⟨⟨⟨xp0z, hp0z, ep0z⟩, ip0z⟩, ⟨xc0z, hc0z, ec0z⟩, ic0z⟩ := b2z.2.2.1
  obtain ⟨⟨⟨xp1z, hp1z, ep1z⟩, ip1z⟩, ⟨xc1z, hc1z, ec1z⟩, ic1z⟩ := b2z.2.2.2
  refine y_same (i := .aload_n 0) (len := 1) (r := (0, 0, 0, 0)) (pc' := 1) (ls' := [some (.inl (some 0)), some (zi x), some (zi xk), none]) (st' := [.inl (some 0)]) (by decide +kernel) (fun k q => by cases q) rfl ?_
  refine y_same (i := .iload_n 1) (len := 1) (r := (0, 0, 0, 0)) (pc' := 2) (ls' := [some (.inl (some 0)), some (zi x), some (zi xk), none]) (st' := [zi x, .inl (some 0)]) (by decide +kernel) (fun k q => by cases q) rfl ?_
  refine y_cI (i := .invokestatic 101) (len := 3) (r := (1, 156, 11, 1068)) (nL := 1) (k := 2) (n := 1) (hs := []) (args := [zi x]) (rest := [.inl (some 0)]) (l0 := [some (zi x)]) (by decide +kernel) (Or.inl ⟨_, rfl⟩) rfl rfl rfl rfl (Nat.le_of_ble_eq_true rfl) rfl rfl (qI_le (by decide) (c_isSide (d := 0))) (fun y3403 qy3403 hRy3403 => ?_)
  obtain ⟨rfl, hDy3403⟩ := hRy3403
  have ey3403 : y3403.toInt = 1 := by omega
  refine y_iF (c := .eq) (off := 25) (len := 3) (r := (0, 0, 0, 0)) (by decide +kernel) (acmpF (c := .eq) (by show ¬ (_ = _); omega)) ?_
  refine y_same (i := .aload_n 0) (len := 1) (r := (0, 0, 0, 0)) (pc' := 9) (ls' := [some (.inl (some 0)), some (zi x), some (zi xk), none]) (st' := [.inl (some 0), .inl (some 0)]) (by decide +kernel) (fun k q => by cases q) rfl ?_
  refine y_get (j := 29) (len := 3) (r := (11, 5, 2, 404)) (by decide +kernel) hg (tv0 hg) aw0 rfl rfl r5 ?_
  refine y_same (i := .iload_n 1) (len := 1) (r := (0, 0, 0, 0)) (pc' := 13) (ls' := [some (.inl (some 0)), some (zi x), some (zi xk), none]) (st' := [zi x, .inl (some 2), .inl (some 0)]) (by decide +kernel) (fun k q => by cases q) rfl ?_
  refine y_cA (i := .invokevirtual 105) (len := 3) (r := (0, 108, 9, 1071)) (nL := 2) (k := 3) (n := 2) (hs := []) (args := [.inl (some 2), zi x]) (rest := [.inl (some 0)]) (l0 := [some (.inl (some 2)), some (zi x)]) (by decide +kernel) (Or.inr (Or.inl ⟨_, rfl⟩)) rfl rfl rfl rfl (Nat.le_of_ble_eq_true rfl) (zO hg (tv2 hg) aw1000 rfl) rfl (qA_le (by decide) (c_side0 (d := 0) (u := uz) (v := vz) hg (by omega) b2z.1 b2z.2.1)) (fun q3404 hR3404 => ?_)
  obtain rfl := hR3404
  refine y_get (j := 129) (len := 3) (r := (8, 1, 2, 20188)) (by decide +kernel) hg tyz.1.1 aw1001 rfl rfl laz.1.2.1 ?_
  refine y_same (i := .iload_n 2) (len := 1) (r := (0, 0, 0, 0)) (pc' := 20) (ls' := [some (.inl (some 0)), some (zi x), some (zi xk), none]) (st' := [zi xk, .inl (some ((2 + uz + 3))), .inl (some 0)]) (by decide +kernel) (fun k q => by cases q) rfl ?_
  refine y_cI (i := .invokevirtual 115) (len := 3) (r := (0, 63, 6, 1075)) (nL := 2) (k := 2) (n := 2) (hs := []) (args := [.inl (some ((2 + uz + 3))), zi xk]) (rest := [.inl (some 0)]) (l0 := [some (.inl (some ((2 + uz + 3)))), some (zi xk)]) (by decide +kernel) (Or.inr (Or.inl ⟨_, rfl⟩)) rfl rfl rfl rfl (Nat.le_of_ble_eq_true rfl) (zO hg tyz.1.2.2.2.1 aw1003 rfl) rfl (qI_le (by decide) (c_has6 (d := 0) hg tyz.1.2.2.2.1 hc0z)) (fun y3405 qy3405 hRy3405 => ?_)
  obtain ⟨rfl, hDy3405⟩ := hRy3405
  have ey3405 : y3405.toInt = 1 := by omega
  refine y_iF (c := .eq) (off := 7) (len := 3) (r := (0, 0, 0, 0)) (by decide +kernel) (acmpF (c := .eq) (by show ¬ (_ = _); omega)) ?_
  refine y_ic (c := 1) (len := 1) (r := (0, 0, 0, 0)) (by decide +kernel) (by decide) (fun y3406 hy3406 => ?_)
  refine y_goto (off := 4) (pc' := 31) (len := 3) (r := (0, 0, 0, 0)) (by decide +kernel) (by decide +kernel) ?_
  refine y_cV (i := .invokevirtual 120) (len := 3) (r := (0, 152, 11, 1079)) (nL := 2) (k := 0) (n := 2) (hs := []) (args := [.inl (some 0), zi y3406]) (rest := []) (l0 := [some (.inl (some 0)), some (zi y3406)]) (by decide +kernel) (Or.inr (Or.inl ⟨_, rfl⟩)) rfl rfl rfl rfl (Nat.le_of_ble_eq_true rfl) (zO hg (tv0 hg) aw0 rfl) rfl (qV_le (by decide) (c_there (d := 0) (by omega))) (fun q3407 hR3407 => ?_)
  obtain rfl := hR3407
  refine y_same (i := .aload_n 0) (len := 1) (r := (0, 0, 0, 0)) (pc' := 35) (ls' := [some (.inl (some 0)), some (zi x), some (zi xk), none]) (st' := [.inl (some 0)]) (by decide +kernel) (fun k q => by cases q) rfl ?_
  refine y_get (j := 36) (len := 3) (r := (11, 6, 2, 405)) (by decide +kernel) hg (tv0 hg) aw0 rfl rfl (g_rU (f := 6) (T2 := 13) hg (tv0 hg) aw0 rfl (by decide)) ?_
  refine y_same (i := .aload_n 0) (len := 1) (r := (0, 0, 0, 0)) (pc' := 39) (ls' := [some (.inl (some 0)), some (zi x), some (zi xk), none]) (st' := [.inl (some 0), .inl (some 13)]) (by decide +kernel) (fun k q => by cases q) rfl ?_
  refine y_get (j := 29) (len := 3) (r := (11, 5, 2, 404)) (by decide +kernel) hg (tv0 hg) aw0 rfl rfl r5 ?_
  refine y_cV (i := .invokevirtual 83) (len := 3) (r := (0, 24, 2, 449)) (nL := 2) (k := 0) (n := 2) (hs := []) (args := [.inl (some 13), .inl (some 2)]) (rest := []) (l0 := [some (.inl (some 13)), some (.inl (some 2))]) (by decide +kernel) (Or.inr (Or.inl ⟨_, rfl⟩)) rfl rfl rfl rfl (Nat.le_of_ble_eq_true rfl) (zO hg (tv13 hg) aw13 rfl) rfl (qV_le (by decide) (e_keep hg rc)) (fun h3408 hR3408 => ?_)
  obtain ⟨τ3408, au3408, hg3408, rc3408, F3408⟩ := hR3408
  obtain ⟨-, ⟨u3408, v3408, hu3408, l23408, b23408⟩, -⟩ := id rc3408
  have uu3408 : (u3408 = 1 ∧ v3408 = 6) ∨ (u3408 = 6 ∧ v3408 = 1) := hu3408
  have ty3408 := ty_u (tyB_of hg3408 hu3408 (tv2 hg3408) b23408.1 b23408.2.1 l23408) hu3408
  have la3408 := lay_u l23408 hu3408
  obtain ⟨⟨⟨xp03408, hp03408, ep03408⟩, ip03408⟩, ⟨xc03408, hc03408, ec03408⟩, ic03408⟩ := b23408.2.2.1
  obtain ⟨⟨⟨xp13408, hp13408, ep13408⟩, ip13408⟩, ⟨xc13408, hc13408, ec13408⟩, ic13408⟩ := b23408.2.2.2
  refine y_same (i := .aload_n 0) (len := 1) (r := (0, 0, 0, 0)) (pc' := 46) (ls' := [some (.inl (some 0)), some (zi x), some (zi xk), none]) (st' := [.inl (some 0)]) (by decide +kernel) (fun k q => by cases q) rfl ?_
  have hv3409 := (F3408 0 5 (by omega)).trans r5
  refine y_get (j := 29) (len := 3) (r := (11, 5, 2, 404)) (by decide +kernel) hg3408 (tv0 hg3408) aw0 rfl rfl hv3409 ?_
  refine y_same (i := .iload_n 1) (len := 1) (r := (0, 0, 0, 0)) (pc' := 50) (ls' := [some (.inl (some 0)), some (zi x), some (zi xk), none]) (st' := [zi x, .inl (some 2)]) (by decide +kernel) (fun k q => by cases q) rfl ?_
  refine y_cA (i := .invokevirtual 105) (len := 3) (r := (0, 108, 9, 1071)) (nL := 2) (k := 3) (n := 2) (hs := []) (args := [.inl (some 2), zi x]) (rest := []) (l0 := [some (.inl (some 2)), some (zi x)]) (by decide +kernel) (Or.inr (Or.inl ⟨_, rfl⟩)) rfl rfl rfl rfl (Nat.le_of_ble_eq_true rfl) (zO hg3408 (tv2 hg3408) aw1000 rfl) rfl (qA_le (by decide) (c_side0 (d := 0) (u := u3408) (v := v3408) hg3408 (by omega) b23408.1 b23408.2.1)) (fun q3410 hR3410 => ?_)
  obtain rfl := hR3410
  refine y_get (j := 129) (len := 3) (r := (8, 1, 2, 20188)) (by decide +kernel) hg3408 ty3408.1.1 aw1001 rfl rfl la3408.1.2.1 ?_
  refine y_same (i := .astore_n 3) (len := 1) (r := (0, 0, 0, 0)) (pc' := 57) (ls' := [some (.inl (some 0)), some (zi x), some (zi xk), some (.inl (some ((2 + u3408 + 3))))]) (st' := []) (by decide +kernel) (fun k q => by cases q) rfl ?_
  refine y_same (i := .aload_n 3) (len := 1) (r := (0, 0, 0, 0)) (pc' := 58) (ls' := [some (.inl (some 0)), some (zi x), some (zi xk), some (.inl (some ((2 + u3408 + 3))))]) (st' := [.inl (some ((2 + u3408 + 3)))]) (by decide +kernel) (fun k q => by cases q) rfl ?_
  refine y_same (i := .iload_n 2) (len := 1) (r := (0, 0, 0, 0)) (pc' := 59) (ls' := [some (.inl (some 0)), some (zi x), some (zi xk), some (.inl (some ((2 + u3408 + 3))))]) (st' := [zi xk, .inl (some ((2 + u3408 + 3)))]) (by decide +kernel) (fun k q => by cases q) rfl ?_
  refine y_cV (i := .invokevirtual 123) (len := 3) (r := (0, 70, 6, 1099)) (nL := 3) (k := 0) (n := 2) (hs := []) (args := [.inl (some ((2 + u3408 + 3))), zi xk]) (rest := []) (l0 := [some (.inl (some ((2 + u3408 + 3)))), some (zi xk), none]) (by decide +kernel) (Or.inr (Or.inl ⟨_, rfl⟩)) rfl rfl rfl rfl (Nat.le_of_ble_eq_true rfl) (zO hg3408 ty3408.1.2.2.2.1 aw1003 rfl) rfl (qV_le (by decide) (e_rm6 (d := 0) (RA := (2 + u3408 + 3)) (IA := (2 + u3408 + 4)) hg3408 ty3408.1.2.2.2.1 ty3408.1.2.2.2.2 (by omega) la3408.1.2.2.2 b23408.2.2.1.2 exk (by omega))) (fun h3411 hR3411 => ?_)
  obtain ⟨hg3411, r3411, F3411⟩ := hR3411
  have rc3411 : RC h3411 ((cur.1.1, cur.1.2.eraseIdx k), (cur.2.1, cur.2.2)) (psh hs cur) := RC_set rc3408 ⟨u3408, v3408, hu3408, ⟨laS_up l23408.1 (fun k j h1 => F3411 k j (by omega)), laS_up l23408.2 (fun k j h1 => F3411 k j (by omega))⟩, rfs_up b23408.1 (F3411 _ _ (by omega)), rfs_up b23408.2.1 (F3411 _ _ (by omega)), ⟨rwC_up b23408.2.2.1.1 (F3411 _ _ (by omega)) (fun j => F3411 _ _ (by omega)), r3411⟩, sdC_up b23408.2.2.2 (fun k j h1 h2 => F3411 k j (by omega))⟩ (fun k j h1 => F3411 k j (by omega))
  obtain ⟨xz, hz, ez⟩ := r3411.1
  rw [List.length_eraseIdx_of_lt (by omega)] at ez
  refine y_same (i := .aload_n 0) (len := 1) (r := (0, 0, 0, 0)) (pc' := 63) (ls' := [some (.inl (some 0)), some (zi x), some (zi xk), some (.inl (some ((2 + u3408 + 3))))]) (st' := [.inl (some 0)]) (by decide +kernel) (fun k q => by cases q) rfl ?_
  refine y_cV (i := .invokevirtual 91) (len := 3) (r := (0, 154, 11, 474)) (nL := 1) (k := 0) (n := 1) (hs := []) (args := [.inl (some 0)]) (rest := []) (l0 := [some (.inl (some 0))]) (by decide +kernel) (Or.inr (Or.inl ⟨_, rfl⟩)) rfl rfl rfl rfl (Nat.le_of_ble_eq_true rfl) (zO hg3411 (tv0 hg3411) aw0 rfl) rfl (qV_le (by decide) (c_forgR (d := 0) hg3411)) (fun h3412 hR3412 => ?_)
  obtain ⟨hg3412, F3412, jx3412, jh3412, je3412⟩ := hR3412
  refine y_same (i := .aload_n 3) (len := 1) (r := (0, 0, 0, 0)) (pc' := 67) (ls' := [some (.inl (some 0)), some (zi x), some (zi xk), some (.inl (some ((2 + u3408 + 3))))]) (st' := [.inl (some ((2 + u3408 + 3)))]) (by decide +kernel) (fun k q => by cases q) rfl ?_
  have hv3413 := (F3412 (2 + u3408 + 3) 1 (by omega)).trans hz
  refine y_get (j := 126) (len := 3) (r := (6, 1, 0, 20168)) (by decide +kernel) hg3412 ty3408.1.2.2.2.1 aw1003 rfl rfl hv3413 ?_
  refine y_rI (len := 1) (r := (0, 0, 0, 0)) (nL := 4) (k := 1) (n9 := 3) (hs := []) (by decide +kernel) rfl rfl ?_
  exact ⟨⟨_, hg3412⟩, _, jh3412, by omega⟩
theorem jr_lforget0 {t k : Nat} {τ : List Nat} {h : zh} {cur : bsT} {hs : List bsT} {x xk : Int32} (hg : hG τ h) (rc : RC h cur hs) (r5 : hsl h 0 5 = some (.inl (some 2))) (hx : x.toInt = 0) (exk : xk.toInt = (k : Int)) (hk : k < cur.1.2.length) : qI 60 278 [some (.inl (some 0)), some (zi x), some (zi xk), some (.inl (some 388)), none] h t (fun y h1 => ci_ h1 28 5 0) := by
  refine qI_le (d := 32) (by decide) (qI_of ?_)
  refine y_same (i := .aload_n 3) (len := 1) (r := (0, 0, 0, 0)) (pc' := 1) (ls' := [some (.inl (some 0)), some (zi x), some (zi xk), some (.inl (some 388)), none]) (st' := [.inl (some 388)]) (by decide +kernel) (fun k q => by cases q) rfl ?_
  refine y_ic (c := 0) (len := 1) (r := (0, 0, 0, 0)) (by decide +kernel) (by decide) (fun y3414 hy3414 => ?_)
  refine y_same (i := .aload_n 0) (len := 1) (r := (0, 0, 0, 0)) (pc' := 3) (ls' := [some (.inl (some 0)), some (zi x), some (zi xk), some (.inl (some 388)), none]) (st' := [.inl (some 0), zi y3414, .inl (some 388)]) (by decide +kernel) (fun k q => by cases q) rfl ?_
  refine y_same (i := .iload_n 1) (len := 1) (r := (0, 0, 0, 0)) (pc' := 4) (ls' := [some (.inl (some 0)), some (zi x), some (zi xk), some (.inl (some 388)), none]) (st' := [zi x, .inl (some 0), zi y3414, .inl (some 388)]) (by decide +kernel) (fun k q => by cases q) rfl ?_
  refine y_same (i := .iload_n 2) (len := 1) (r := (0, 0, 0, 0)) (pc' := 5) (ls' := [some (.inl (some 0)), some (zi x), some (zi xk), some (.inl (some 388)), none]) (st' := [zi xk, zi x, .inl (some 0), zi y3414, .inl (some 388)]) (by decide +kernel) (fun k q => by cases q) rfl ?_
  refine y_cI (i := .invokevirtual 21) (len := 3) (r := (0, 137, 11, 1103)) (nL := 4) (k := 1) (n := 3) (hs := []) (args := [.inl (some 0), zi x, zi xk]) (rest := [zi y3414, .inl (some 388)]) (l0 := [some (.inl (some 0)), some (zi x), some (zi xk), none]) (by decide +kernel) (Or.inr (Or.inl ⟨_, rfl⟩)) rfl rfl rfl rfl (Nat.le_of_ble_eq_true rfl) (zO hg (tv0 hg) aw0 rfl) rfl (qI_le (by decide) (jr_forget0 hg rc r5 hx exk hk)) (fun y3415 h3415 hRy3415 => ?_)
  obtain ⟨⟨τ3415, hg3415⟩, jx, jh, je⟩ := hRy3415
  refine y_i2l2 (len := 1) (r := (0, 0, 0, 0)) (by decide +kernel) ?_
  refine y_las2 (i := 0) (len := 1) (r := (0, 0, 0, 0)) (by decide +kernel) hg3415 (t388 hg3415) aw388 rfl (by omega) (by omega) rfl (fun h3416 hg3416 hw3416 ho3416 => ?_)
  refine y_goto (off := 7) (pc' := 17) (len := 3) (r := (0, 0, 0, 0)) (by decide +kernel) (by decide +kernel) ?_
  refine y_ic (c := 0) (len := 1) (r := (0, 0, 0, 0)) (by decide +kernel) (by decide) (fun y3417 hy3417 => ?_)
  refine y_rI (len := 1) (r := (0, 0, 0, 0)) (nL := 5) (k := 1) (n9 := 4) (hs := [(0, 10, 13, 0)]) (by decide +kernel) rfl rfl ?_
  have hv3418 := (ho3416 28 5 (Or.inl (by omega))).trans jh
  exact ⟨_, hv3418, by omega⟩
theorem jr_forget1 {t k : Nat} {τ : List Nat} {h : zh} {cur : bsT} {hs : List bsT} {x xk : Int32} (hg : hG τ h) (rc : RC h cur hs) (r5 : hsl h 0 5 = some (.inl (some 2))) (hx : x.toInt = 1) (exk : xk.toInt = (k : Int)) (hk : k < cur.2.2.length) : qI 21 137 [some (.inl (some 0)), some (zi x), some (zi xk), none] h t (fun y h1 => (∃ τ1, hG τ1 h1) ∧ ci_ h1 28 5 0) := by
  refine qI_of ?_
  obtain ⟨-, ⟨uz, vz, huz, l2z, b2z⟩, -⟩ := id rc
  have uuz : (uz = 1 ∧ vz = 6) ∨ (uz = 6 ∧ vz = 1) := huz
  have tyz := ty_u (tyB_of hg huz (tv2 hg) b2z.1 b2z.2.1 l2z) huz
  have laz := lay_u l2z huz
  obtain ⟨⟨⟨xp0z, hp0z, ep0z⟩, ip0z⟩, ⟨xc0z, hc0z, ec0z⟩, ic0z⟩ := b2z.2.2.1
  obtain ⟨⟨⟨xp1z, hp1z, ep1z⟩, ip1z⟩, ⟨xc1z, hc1z, ec1z⟩, ic1z⟩ := b2z.2.2.2
  refine y_same (i := .aload_n 0) (len := 1) (r := (0, 0, 0, 0)) (pc' := 1) (ls' := [some (.inl (some 0)), some (zi x), some (zi xk), none]) (st' := [.inl (some 0)]) (by decide +kernel) (fun k q => by cases q) rfl ?_
  refine y_same (i := .iload_n 1) (len := 1) (r := (0, 0, 0, 0)) (pc' := 2) (ls' := [some (.inl (some 0)), some (zi x), some (zi xk), none]) (st' := [zi x, .inl (some 0)]) (by decide +kernel) (fun k q => by cases q) rfl ?_
  refine y_cI (i := .invokestatic 101) (len := 3) (r := (1, 156, 11, 1068)) (nL := 1) (k := 2) (n := 1) (hs := []) (args := [zi x]) (rest := [.inl (some 0)]) (l0 := [some (zi x)]) (by decide +kernel) (Or.inl ⟨_, rfl⟩) rfl rfl rfl rfl (Nat.le_of_ble_eq_true rfl) rfl rfl (qI_le (by decide) (c_isSide (d := 0))) (fun y3419 qy3419 hRy3419 => ?_)
  obtain ⟨rfl, hDy3419⟩ := hRy3419
  have ey3419 : y3419.toInt = 1 := by omega
  refine y_iF (c := .eq) (off := 25) (len := 3) (r := (0, 0, 0, 0)) (by decide +kernel) (acmpF (c := .eq) (by show ¬ (_ = _); omega)) ?_
  refine y_same (i := .aload_n 0) (len := 1) (r := (0, 0, 0, 0)) (pc' := 9) (ls' := [some (.inl (some 0)), some (zi x), some (zi xk), none]) (st' := [.inl (some 0), .inl (some 0)]) (by decide +kernel) (fun k q => by cases q) rfl ?_
  refine y_get (j := 29) (len := 3) (r := (11, 5, 2, 404)) (by decide +kernel) hg (tv0 hg) aw0 rfl rfl r5 ?_
  refine y_same (i := .iload_n 1) (len := 1) (r := (0, 0, 0, 0)) (pc' := 13) (ls' := [some (.inl (some 0)), some (zi x), some (zi xk), none]) (st' := [zi x, .inl (some 2), .inl (some 0)]) (by decide +kernel) (fun k q => by cases q) rfl ?_
  refine y_cA (i := .invokevirtual 105) (len := 3) (r := (0, 108, 9, 1071)) (nL := 2) (k := 3) (n := 2) (hs := []) (args := [.inl (some 2), zi x]) (rest := [.inl (some 0)]) (l0 := [some (.inl (some 2)), some (zi x)]) (by decide +kernel) (Or.inr (Or.inl ⟨_, rfl⟩)) rfl rfl rfl rfl (Nat.le_of_ble_eq_true rfl) (zO hg (tv2 hg) aw1000 rfl) rfl (qA_le (by decide) (c_side1 (d := 0) (u := uz) (v := vz) hg (by omega) b2z.1 b2z.2.1)) (fun q3420 hR3420 => ?_)
  obtain rfl := hR3420
  refine y_get (j := 129) (len := 3) (r := (8, 1, 2, 20188)) (by decide +kernel) hg tyz.2.1 aw1001 rfl rfl laz.2.2.1 ?_
  refine y_same (i := .iload_n 2) (len := 1) (r := (0, 0, 0, 0)) (pc' := 20) (ls' := [some (.inl (some 0)), some (zi x), some (zi xk), none]) (st' := [zi xk, .inl (some ((2 + vz + 3))), .inl (some 0)]) (by decide +kernel) (fun k q => by cases q) rfl ?_
  refine y_cI (i := .invokevirtual 115) (len := 3) (r := (0, 63, 6, 1075)) (nL := 2) (k := 2) (n := 2) (hs := []) (args := [.inl (some ((2 + vz + 3))), zi xk]) (rest := [.inl (some 0)]) (l0 := [some (.inl (some ((2 + vz + 3)))), some (zi xk)]) (by decide +kernel) (Or.inr (Or.inl ⟨_, rfl⟩)) rfl rfl rfl rfl (Nat.le_of_ble_eq_true rfl) (zO hg tyz.2.2.2.2.1 aw1003 rfl) rfl (qI_le (by decide) (c_has6 (d := 0) hg tyz.2.2.2.2.1 hc1z)) (fun y3421 qy3421 hRy3421 => ?_)
  obtain ⟨rfl, hDy3421⟩ := hRy3421
  have ey3421 : y3421.toInt = 1 := by omega
  refine y_iF (c := .eq) (off := 7) (len := 3) (r := (0, 0, 0, 0)) (by decide +kernel) (acmpF (c := .eq) (by show ¬ (_ = _); omega)) ?_
  refine y_ic (c := 1) (len := 1) (r := (0, 0, 0, 0)) (by decide +kernel) (by decide) (fun y3422 hy3422 => ?_)
  refine y_goto (off := 4) (pc' := 31) (len := 3) (r := (0, 0, 0, 0)) (by decide +kernel) (by decide +kernel) ?_
  refine y_cV (i := .invokevirtual 120) (len := 3) (r := (0, 152, 11, 1079)) (nL := 2) (k := 0) (n := 2) (hs := []) (args := [.inl (some 0), zi y3422]) (rest := []) (l0 := [some (.inl (some 0)), some (zi y3422)]) (by decide +kernel) (Or.inr (Or.inl ⟨_, rfl⟩)) rfl rfl rfl rfl (Nat.le_of_ble_eq_true rfl) (zO hg (tv0 hg) aw0 rfl) rfl (qV_le (by decide) (c_there (d := 0) (by omega))) (fun q3423 hR3423 => ?_)
  obtain rfl := hR3423
  refine y_same (i := .aload_n 0) (len := 1) (r := (0, 0, 0, 0)) (pc' := 35) (ls' := [some (.inl (some 0)), some (zi x), some (zi xk), none]) (st' := [.inl (some 0)]) (by decide +kernel) (fun k q => by cases q) rfl ?_
  refine y_get (j := 36) (len := 3) (r := (11, 6, 2, 405)) (by decide +kernel) hg (tv0 hg) aw0 rfl rfl (g_rU (f := 6) (T2 := 13) hg (tv0 hg) aw0 rfl (by decide)) ?_
  refine y_same (i := .aload_n 0) (len := 1) (r := (0, 0, 0, 0)) (pc' := 39) (ls' := [some (.inl (some 0)), some (zi x), some (zi xk), none]) (st' := [.inl (some 0), .inl (some 13)]) (by decide +kernel) (fun k q => by cases q) rfl ?_
  refine y_get (j := 29) (len := 3) (r := (11, 5, 2, 404)) (by decide +kernel) hg (tv0 hg) aw0 rfl rfl r5 ?_
  refine y_cV (i := .invokevirtual 83) (len := 3) (r := (0, 24, 2, 449)) (nL := 2) (k := 0) (n := 2) (hs := []) (args := [.inl (some 13), .inl (some 2)]) (rest := []) (l0 := [some (.inl (some 13)), some (.inl (some 2))]) (by decide +kernel) (Or.inr (Or.inl ⟨_, rfl⟩)) rfl rfl rfl rfl (Nat.le_of_ble_eq_true rfl) (zO hg (tv13 hg) aw13 rfl) rfl (qV_le (by decide) (e_keep hg rc)) (fun h3424 hR3424 => ?_)
  obtain ⟨τ3424, au3424, hg3424, rc3424, F3424⟩ := hR3424
  obtain ⟨-, ⟨u3424, v3424, hu3424, l23424, b23424⟩, -⟩ := id rc3424
  have uu3424 : (u3424 = 1 ∧ v3424 = 6) ∨ (u3424 = 6 ∧ v3424 = 1) := hu3424
  have ty3424 := ty_u (tyB_of hg3424 hu3424 (tv2 hg3424) b23424.1 b23424.2.1 l23424) hu3424
  have la3424 := lay_u l23424 hu3424
  obtain ⟨⟨⟨xp03424, hp03424, ep03424⟩, ip03424⟩, ⟨xc03424, hc03424, ec03424⟩, ic03424⟩ := b23424.2.2.1
  obtain ⟨⟨⟨xp13424, hp13424, ep13424⟩, ip13424⟩, ⟨xc13424, hc13424, ec13424⟩, ic13424⟩ := b23424.2.2.2
  refine y_same (i := .aload_n 0) (len := 1) (r := (0, 0, 0, 0)) (pc' := 46) (ls' := [some (.inl (some 0)), some (zi x), some (zi xk), none]) (st' := [.inl (some 0)]) (by decide +kernel) (fun k q => by cases q) rfl ?_
  have hv3425 := (F3424 0 5 (by omega)).trans r5
  refine y_get (j := 29) (len := 3) (r := (11, 5, 2, 404)) (by decide +kernel) hg3424 (tv0 hg3424) aw0 rfl rfl hv3425 ?_
  refine y_same (i := .iload_n 1) (len := 1) (r := (0, 0, 0, 0)) (pc' := 50) (ls' := [some (.inl (some 0)), some (zi x), some (zi xk), none]) (st' := [zi x, .inl (some 2)]) (by decide +kernel) (fun k q => by cases q) rfl ?_
  refine y_cA (i := .invokevirtual 105) (len := 3) (r := (0, 108, 9, 1071)) (nL := 2) (k := 3) (n := 2) (hs := []) (args := [.inl (some 2), zi x]) (rest := []) (l0 := [some (.inl (some 2)), some (zi x)]) (by decide +kernel) (Or.inr (Or.inl ⟨_, rfl⟩)) rfl rfl rfl rfl (Nat.le_of_ble_eq_true rfl) (zO hg3424 (tv2 hg3424) aw1000 rfl) rfl (qA_le (by decide) (c_side1 (d := 0) (u := u3424) (v := v3424) hg3424 (by omega) b23424.1 b23424.2.1)) (fun q3426 hR3426 => ?_)
  obtain rfl := hR3426
  refine y_get (j := 129) (len := 3) (r := (8, 1, 2, 20188)) (by decide +kernel) hg3424 ty3424.2.1 aw1001 rfl rfl la3424.2.2.1 ?_
  refine y_same (i := .astore_n 3) (len := 1) (r := (0, 0, 0, 0)) (pc' := 57) (ls' := [some (.inl (some 0)), some (zi x), some (zi xk), some (.inl (some ((2 + v3424 + 3))))]) (st' := []) (by decide +kernel) (fun k q => by cases q) rfl ?_
  refine y_same (i := .aload_n 3) (len := 1) (r := (0, 0, 0, 0)) (pc' := 58) (ls' := [some (.inl (some 0)), some (zi x), some (zi xk), some (.inl (some ((2 + v3424 + 3))))]) (st' := [.inl (some ((2 + v3424 + 3)))]) (by decide +kernel) (fun k q => by cases q) rfl ?_
  refine y_same (i := .iload_n 2) (len := 1) (r := (0, 0, 0, 0)) (pc' := 59) (ls' := [some (.inl (some 0)), some (zi x), some (zi xk), some (.inl (some ((2 + v3424 + 3))))]) (st' := [zi xk, .inl (some ((2 + v3424 + 3)))]) (by decide +kernel) (fun k q => by cases q) rfl ?_
  refine y_cV (i := .invokevirtual 123) (len := 3) (r := (0, 70, 6, 1099)) (nL := 3) (k := 0) (n := 2) (hs := []) (args := [.inl (some ((2 + v3424 + 3))), zi xk]) (rest := []) (l0 := [some (.inl (some ((2 + v3424 + 3)))), some (zi xk), none]) (by decide +kernel) (Or.inr (Or.inl ⟨_, rfl⟩)) rfl rfl rfl rfl (Nat.le_of_ble_eq_true rfl) (zO hg3424 ty3424.2.2.2.2.1 aw1003 rfl) rfl (qV_le (by decide) (e_rm6 (d := 0) (RA := (2 + v3424 + 3)) (IA := (2 + v3424 + 4)) hg3424 ty3424.2.2.2.2.1 ty3424.2.2.2.2.2 (by omega) la3424.2.2.2.2 b23424.2.2.2.2 exk (by omega))) (fun h3427 hR3427 => ?_)
  obtain ⟨hg3427, r3427, F3427⟩ := hR3427
  have rc3427 : RC h3427 ((cur.1.1, cur.1.2), (cur.2.1, cur.2.2.eraseIdx k)) (psh hs cur) := RC_set rc3424 ⟨u3424, v3424, hu3424, ⟨laS_up l23424.1 (fun k j h1 => F3427 k j (by omega)), laS_up l23424.2 (fun k j h1 => F3427 k j (by omega))⟩, rfs_up b23424.1 (F3427 _ _ (by omega)), rfs_up b23424.2.1 (F3427 _ _ (by omega)), sdC_up b23424.2.2.1 (fun k j h1 h2 => F3427 k j (by omega)), ⟨rwC_up b23424.2.2.2.1 (F3427 _ _ (by omega)) (fun j => F3427 _ _ (by omega)), r3427⟩⟩ (fun k j h1 => F3427 k j (by omega))
  obtain ⟨xz, hz, ez⟩ := r3427.1
  rw [List.length_eraseIdx_of_lt (by omega)] at ez
  refine y_same (i := .aload_n 0) (len := 1) (r := (0, 0, 0, 0)) (pc' := 63) (ls' := [some (.inl (some 0)), some (zi x), some (zi xk), some (.inl (some ((2 + v3424 + 3))))]) (st' := [.inl (some 0)]) (by decide +kernel) (fun k q => by cases q) rfl ?_
  refine y_cV (i := .invokevirtual 91) (len := 3) (r := (0, 154, 11, 474)) (nL := 1) (k := 0) (n := 1) (hs := []) (args := [.inl (some 0)]) (rest := []) (l0 := [some (.inl (some 0))]) (by decide +kernel) (Or.inr (Or.inl ⟨_, rfl⟩)) rfl rfl rfl rfl (Nat.le_of_ble_eq_true rfl) (zO hg3427 (tv0 hg3427) aw0 rfl) rfl (qV_le (by decide) (c_forgR (d := 0) hg3427)) (fun h3428 hR3428 => ?_)
  obtain ⟨hg3428, F3428, jx3428, jh3428, je3428⟩ := hR3428
  refine y_same (i := .aload_n 3) (len := 1) (r := (0, 0, 0, 0)) (pc' := 67) (ls' := [some (.inl (some 0)), some (zi x), some (zi xk), some (.inl (some ((2 + v3424 + 3))))]) (st' := [.inl (some ((2 + v3424 + 3)))]) (by decide +kernel) (fun k q => by cases q) rfl ?_
  have hv3429 := (F3428 (2 + v3424 + 3) 1 (by omega)).trans hz
  refine y_get (j := 126) (len := 3) (r := (6, 1, 0, 20168)) (by decide +kernel) hg3428 ty3424.2.2.2.2.1 aw1003 rfl rfl hv3429 ?_
  refine y_rI (len := 1) (r := (0, 0, 0, 0)) (nL := 4) (k := 1) (n9 := 3) (hs := []) (by decide +kernel) rfl rfl ?_
  exact ⟨⟨_, hg3428⟩, _, jh3428, by omega⟩
theorem jr_lforget1 {t k : Nat} {τ : List Nat} {h : zh} {cur : bsT} {hs : List bsT} {x xk : Int32} (hg : hG τ h) (rc : RC h cur hs) (r5 : hsl h 0 5 = some (.inl (some 2))) (hx : x.toInt = 1) (exk : xk.toInt = (k : Int)) (hk : k < cur.2.2.length) : qI 60 278 [some (.inl (some 0)), some (zi x), some (zi xk), some (.inl (some 388)), none] h t (fun y h1 => ci_ h1 28 5 0) := by
  refine qI_le (d := 32) (by decide) (qI_of ?_)
  refine y_same (i := .aload_n 3) (len := 1) (r := (0, 0, 0, 0)) (pc' := 1) (ls' := [some (.inl (some 0)), some (zi x), some (zi xk), some (.inl (some 388)), none]) (st' := [.inl (some 388)]) (by decide +kernel) (fun k q => by cases q) rfl ?_
  refine y_ic (c := 0) (len := 1) (r := (0, 0, 0, 0)) (by decide +kernel) (by decide) (fun y3430 hy3430 => ?_)
  refine y_same (i := .aload_n 0) (len := 1) (r := (0, 0, 0, 0)) (pc' := 3) (ls' := [some (.inl (some 0)), some (zi x), some (zi xk), some (.inl (some 388)), none]) (st' := [.inl (some 0), zi y3430, .inl (some 388)]) (by decide +kernel) (fun k q => by cases q) rfl ?_
  refine y_same (i := .iload_n 1) (len := 1) (r := (0, 0, 0, 0)) (pc' := 4) (ls' := [some (.inl (some 0)), some (zi x), some (zi xk), some (.inl (some 388)), none]) (st' := [zi x, .inl (some 0), zi y3430, .inl (some 388)]) (by decide +kernel) (fun k q => by cases q) rfl ?_
  refine y_same (i := .iload_n 2) (len := 1) (r := (0, 0, 0, 0)) (pc' := 5) (ls' := [some (.inl (some 0)), some (zi x), some (zi xk), some (.inl (some 388)), none]) (st' := [zi xk, zi x, .inl (some 0), zi y3430, .inl (some 388)]) (by decide +kernel) (fun k q => by cases q) rfl ?_
  refine y_cI (i := .invokevirtual 21) (len := 3) (r := (0, 137, 11, 1103)) (nL := 4) (k := 1) (n := 3) (hs := []) (args := [.inl (some 0), zi x, zi xk]) (rest := [zi y3430, .inl (some 388)]) (l0 := [some (.inl (some 0)), some (zi x), some (zi xk), none]) (by decide +kernel) (Or.inr (Or.inl ⟨_, rfl⟩)) rfl rfl rfl rfl (Nat.le_of_ble_eq_true rfl) (zO hg (tv0 hg) aw0 rfl) rfl (qI_le (by decide) (jr_forget1 hg rc r5 hx exk hk)) (fun y3431 h3431 hRy3431 => ?_)
  obtain ⟨⟨τ3431, hg3431⟩, jx, jh, je⟩ := hRy3431
  refine y_i2l2 (len := 1) (r := (0, 0, 0, 0)) (by decide +kernel) ?_
  refine y_las2 (i := 0) (len := 1) (r := (0, 0, 0, 0)) (by decide +kernel) hg3431 (t388 hg3431) aw388 rfl (by omega) (by omega) rfl (fun h3432 hg3432 hw3432 ho3432 => ?_)
  refine y_goto (off := 7) (pc' := 17) (len := 3) (r := (0, 0, 0, 0)) (by decide +kernel) (by decide +kernel) ?_
  refine y_ic (c := 0) (len := 1) (r := (0, 0, 0, 0)) (by decide +kernel) (by decide) (fun y3433 hy3433 => ?_)
  refine y_rI (len := 1) (r := (0, 0, 0, 0)) (nL := 5) (k := 1) (n9 := 4) (hs := [(0, 10, 13, 0)]) (by decide +kernel) rfl rfl ?_
  have hv3434 := (ho3432 28 5 (Or.inl (by omega))).trans jh
  exact ⟨_, hv3434, by omega⟩
theorem jr_text {t n T : Nat} {b : Nat → Int} {τ : List Nat} {h : zh} {xn xT : Int32} {cur : bsT} {hs : List bsT} (hg : hG τ h) (rc : RC h cur hs) (r5 : hsl h 0 5 = some (.inl (some 2))) (al : alC h) (hT : hsl h 0 1 = some (zi xT)) (eT : xT.toInt = (T : Int)) (hT2 : T ≤ 200) (en : xn.toInt = (n : Int)) (hn : n ≤ T) (hb : ∀ j, j < n → ∃ x : Int32, hsl h 1 j = some (zi x) ∧ x.toInt = b j) : qI 30 133 [some (.inl (some 0)), some (zi xn), none] h t (fun y h1 => (∃ τ1, hG τ1 h1) ∧ kpPC h h1 ∧ kpPM h h1 ∧ hsl h1 52 31 = hsl h 52 31 ∧ ((∃ r, wAll b n = .inl r) ∧ hsl h1 28 5 = hsl h 28 5 ∨ ci_ h1 28 5 0)) := by
  refine qI_of ?_
  refine y_same (i := .aload_n 0) (len := 1) (r := (0, 0, 0, 0)) (pc' := 1) (ls' := [some (.inl (some 0)), some (zi xn), none]) (st' := [.inl (some 0)]) (by decide +kernel) (fun k q => by cases q) rfl ?_
  refine y_same (i := .iload_n 1) (len := 1) (r := (0, 0, 0, 0)) (pc' := 2) (ls' := [some (.inl (some 0)), some (zi xn), none]) (st' := [zi xn, .inl (some 0)]) (by decide +kernel) (fun k q => by cases q) rfl ?_
  refine y_iF (c := .lt) (off := 15) (len := 3) (r := (0, 0, 0, 0)) (by decide +kernel) (acmpF (c := .lt) (by show _ ≤ _; omega)) ?_
  refine y_same (i := .iload_n 1) (len := 1) (r := (0, 0, 0, 0)) (pc' := 6) (ls' := [some (.inl (some 0)), some (zi xn), none]) (st' := [zi xn, .inl (some 0)]) (by decide +kernel) (fun k q => by cases q) rfl ?_
  refine y_same (i := .aload_n 0) (len := 1) (r := (0, 0, 0, 0)) (pc' := 7) (ls' := [some (.inl (some 0)), some (zi xn), none]) (st' := [.inl (some 0), zi xn, .inl (some 0)]) (by decide +kernel) (fun k q => by cases q) rfl ?_
  refine y_get (j := 13) (len := 3) (r := (11, 1, 0, 400)) (by decide +kernel) hg (tv0 hg) aw0 rfl rfl hT ?_
  refine y_cF (c := .gt) (off := 7) (len := 3) (r := (0, 0, 0, 0)) (by decide +kernel) (acmpF (c := .gt) (by show _ ≤ _; omega)) ?_
  refine y_ic (c := 1) (len := 1) (r := (0, 0, 0, 0)) (by decide +kernel) (by decide) (fun y3435 hy3435 => ?_)
  refine y_goto (off := 4) (pc' := 18) (len := 3) (r := (0, 0, 0, 0)) (by decide +kernel) (by decide +kernel) ?_
  refine y_cV (i := .invokevirtual 70) (len := 3) (r := (0, 153, 11, 852)) (nL := 2) (k := 0) (n := 2) (hs := []) (args := [.inl (some 0), zi y3435]) (rest := []) (l0 := [some (.inl (some 0)), some (zi y3435)]) (by decide +kernel) (Or.inr (Or.inl ⟨_, rfl⟩)) rfl rfl rfl rfl (Nat.le_of_ble_eq_true rfl) (zO hg (tv0 hg) aw0 rfl) rfl (qV_le (by decide) (c_fit (d := 0) (by omega))) (fun q3436 hR3436 => ?_)
  obtain rfl := hR3436
  refine y_same (i := .aload_n 0) (len := 1) (r := (0, 0, 0, 0)) (pc' := 22) (ls' := [some (.inl (some 0)), some (zi xn), none]) (st' := [.inl (some 0)]) (by decide +kernel) (fun k q => by cases q) rfl ?_
  refine y_ic (c := 0) (len := 1) (r := (0, 0, 0, 0)) (by decide +kernel) (by decide) (fun y3437 hy3437 => ?_)
  refine y_put (j := 13) (lo := 0) (hi := 200) (len := 3) (r := (11, 1, 0, 400)) (by decide +kernel) hg (tv0 hg) aw0 rfl rfl (by decide) rfl (by omega) (by omega) rfl (fun h3438 hg3438 hl3438 hs3438 ho3438 => ?_)
  have ho3438 : hO 0 1 h h3438 := ho3438
  have hs3438 : hsl h3438 0 1 = some (zi y3437) := hs3438
  refine y_same (i := .aload_n 0) (len := 1) (r := (0, 0, 0, 0)) (pc' := 27) (ls' := [some (.inl (some 0)), some (zi xn), none]) (st' := [.inl (some 0)]) (by decide +kernel) (fun k q => by cases q) rfl ?_
  refine y_get (j := 43) (len := 3) (r := (11, 7, 2, 406)) (by decide +kernel) hg3438 (tv0 hg3438) aw0 rfl rfl (g_rU (f := 7) (T2 := 15) hg3438 (tv0 hg3438) aw0 rfl (by decide)) ?_
  refine y_same (i := .aload_n 0) (len := 1) (r := (0, 0, 0, 0)) (pc' := 31) (ls' := [some (.inl (some 0)), some (zi xn), none]) (st' := [.inl (some 0), .inl (some 15)]) (by decide +kernel) (fun k q => by cases q) rfl ?_
  refine y_get (j := 9) (len := 3) (r := (11, 0, 2, 399)) (by decide +kernel) hg3438 (tv0 hg3438) aw0 rfl rfl (g_rU (f := 0) (T2 := 1) hg3438 (tv0 hg3438) aw0 rfl (by decide)) ?_
  refine y_same (i := .iload_n 1) (len := 1) (r := (0, 0, 0, 0)) (pc' := 35) (ls' := [some (.inl (some 0)), some (zi xn), none]) (st' := [zi xn, .inl (some 1), .inl (some 15)]) (by decide +kernel) (fun k q => by cases q) rfl ?_
  have al3439 : alC h3438 := ⟨(ho3438 15 0 (Or.inl (by omega))).trans al.1, (ho3438 16 0 (Or.inl (by omega))).trans al.2.1, (ho3438 16 1 (Or.inl (by omega))).trans al.2.2.1, (ho3438 17 0 (Or.inl (by omega))).trans al.2.2.2.1, (ho3438 17 1 (Or.inl (by omega))).trans al.2.2.2.2.1, (ho3438 22 0 (Or.inl (by omega))).trans al.2.2.2.2.2.1, (ho3438 22 1 (Or.inl (by omega))).trans al.2.2.2.2.2.2.1, (ho3438 18 0 (Or.inl (by omega))).trans al.2.2.2.2.2.2.2.1, (ho3438 20 0 (Or.inl (by omega))).trans al.2.2.2.2.2.2.2.2.1, (ho3438 23 0 (Or.inl (by omega))).trans al.2.2.2.2.2.2.2.2.2.1, (ho3438 25 0 (Or.inl (by omega))).trans al.2.2.2.2.2.2.2.2.2.2⟩
  have hb3439 : ∀ j, j < n → ∃ x : Int32, hsl h3438 1 j = some (zi x) ∧ x.toInt = b j := by
    intro j hj
    obtain ⟨x, e1, e2⟩ := hb j hj
    exact ⟨x, (ho3438 1 j (Or.inl (by omega))).trans e1, e2⟩
  have rc03439 : RC h3438 cur hs := (RC_up rc (fun k j h1 => (ho3438 k j (by omega))))
  refine y_cI (i := .invokevirtual 73) (len := 3) (r := (0, 46, 5, 923)) (nL := 3) (k := 2) (n := 3) (hs := []) (args := [.inl (some 15), .inl (some 1), zi xn]) (rest := []) (l0 := [some (.inl (some 15)), some (.inl (some 1)), some (zi xn)]) (by decide +kernel) (Or.inr (Or.inl ⟨_, rfl⟩)) rfl rfl rfl rfl (Nat.le_of_ble_eq_true rfl) (zO hg3438 (tv15 hg3438) aw15 rfl) rfl (qI_le (by decide) (e_read hg3438 al3439 en (by omega) hb3439)) (fun y3439 h3439 hRy3439 => ?_)
  obtain ⟨τ3439, O3439, hD3439⟩ := hRy3439
  have rc3439 : RC h3439 cur hs := RC_upT hg3438 rc03439 (fun k T j hk _ hC => O3439.2.2 k T j hk (show (k ≠ 15 ∨ j < 2) ∧ k ≠ 27 ∧ k ≠ 19 ∧ k ≠ 21 ∧ k ≠ 24 ∧ k ≠ 26 ∧ ((k ≠ 18 ∧ k ≠ 20 ∧ k ≠ 23 ∧ k ≠ 25) ∨ j ≠ 1) by omega))
  rcases hD3439 with ⟨lp3439, lc3439, rp3439, rr3439, e3439, hy3439, ⟨xw3439, hw3439, ew3439⟩, w13439, w23439, w33439, w43439⟩ | ⟨r3439, q3439, e3439, hy3439, ⟨xr3439, hr3439, er3439⟩, ⟨xw3439, hw3439, ew3439⟩⟩
  ·
    refine y_same (i := .istore_n 2) (len := 1) (r := (0, 0, 0, 0)) (pc' := 39) (ls' := [some (.inl (some 0)), some (zi xn), some (zi y3439)]) (st' := []) (by decide +kernel) (fun k q => by cases q) rfl ?_
    refine y_same (i := .aload_n 0) (len := 1) (r := (0, 0, 0, 0)) (pc' := 40) (ls' := [some (.inl (some 0)), some (zi xn), some (zi y3439)]) (st' := [.inl (some 0)]) (by decide +kernel) (fun k q => by cases q) rfl ?_
    refine y_same (i := .aload_n 0) (len := 1) (r := (0, 0, 0, 0)) (pc' := 41) (ls' := [some (.inl (some 0)), some (zi xn), some (zi y3439)]) (st' := [.inl (some 0), .inl (some 0)]) (by decide +kernel) (fun k q => by cases q) rfl ?_
    refine y_get (j := 43) (len := 3) (r := (11, 7, 2, 406)) (by decide +kernel) O3439.2.1 (tv0 O3439.2.1) aw0 rfl rfl (g_rU (f := 7) (T2 := 15) O3439.2.1 (tv0 O3439.2.1) aw0 rfl (by decide)) ?_
    refine y_get (j := 77) (len := 3) (r := (5, 5, 0, 20247)) (by decide +kernel) O3439.2.1 (tv15 O3439.2.1) aw15 rfl rfl hw3439 ?_
    refine y_put (j := 17) (lo := (-2147483648)) (hi := 2147483647) (len := 3) (r := (11, 2, 0, 401)) (by decide +kernel) O3439.2.1 (tv0 O3439.2.1) aw0 rfl rfl (by decide) rfl (qin_full _).1 (qin_full _).2 rfl (fun h3440 hg3440 hl3440 hs3440 ho3440 => ?_)
    have ho3440 : hO 0 2 h3439 h3440 := ho3440
    have hs3440 : hsl h3440 0 2 = some (zi xw3439) := hs3440
    refine y_same (i := .iload_n 2) (len := 1) (r := (0, 0, 0, 0)) (pc' := 51) (ls' := [some (.inl (some 0)), some (zi xn), some (zi y3439)]) (st' := [zi y3439]) (by decide +kernel) (fun k q => by cases q) rfl ?_
    refine y_iT (c := .ne) (off := 14) (pc' := 65) (len := 3) (r := (0, 0, 0, 0)) (by decide +kernel) (acmpT (c := .ne) (by show ¬ (_ = _); omega)) (by decide +kernel) ?_
    refine y_same (i := .aload_n 0) (len := 1) (r := (0, 0, 0, 0)) (pc' := 66) (ls' := [some (.inl (some 0)), some (zi xn), some (zi y3439)]) (st' := [.inl (some 0)]) (by decide +kernel) (fun k q => by cases q) rfl ?_
    refine y_get (j := 36) (len := 3) (r := (11, 6, 2, 405)) (by decide +kernel) hg3440 (tv0 hg3440) aw0 rfl rfl (g_rU (f := 6) (T2 := 13) hg3440 (tv0 hg3440) aw0 rfl (by decide)) ?_
    refine y_same (i := .aload_n 0) (len := 1) (r := (0, 0, 0, 0)) (pc' := 70) (ls' := [some (.inl (some 0)), some (zi xn), some (zi y3439)]) (st' := [.inl (some 0), .inl (some 13)]) (by decide +kernel) (fun k q => by cases q) rfl ?_
    have hv3441 := (ho3438 0 5 (Or.inr (by omega))).trans r5
    have hv3442 := (O3439.2.2 0 0 5 (tv0 hg3438) (show (0 ≠ 15 ∨ 5 < 2) ∧ 0 ≠ 27 ∧ 0 ≠ 19 ∧ 0 ≠ 21 ∧ 0 ≠ 24 ∧ 0 ≠ 26 ∧ ((0 ≠ 18 ∧ 0 ≠ 20 ∧ 0 ≠ 23 ∧ 0 ≠ 25) ∨ 5 ≠ 1) by omega)).trans hv3441
    have hv3443 := (ho3440 0 5 (Or.inr (by omega))).trans hv3442
    refine y_get (j := 29) (len := 3) (r := (11, 5, 2, 404)) (by decide +kernel) hg3440 (tv0 hg3440) aw0 rfl rfl hv3443 ?_
    refine y_cV (i := .invokevirtual 83) (len := 3) (r := (0, 24, 2, 449)) (nL := 2) (k := 0) (n := 2) (hs := []) (args := [.inl (some 13), .inl (some 2)]) (rest := []) (l0 := [some (.inl (some 13)), some (.inl (some 2))]) (by decide +kernel) (Or.inr (Or.inl ⟨_, rfl⟩)) rfl rfl rfl rfl (Nat.le_of_ble_eq_true rfl) (zO hg3440 (tv13 hg3440) aw13 rfl) rfl (qV_le (by decide) (e_keep hg3440 (RC_up rc3439 (fun k j h1 => (ho3440 k j (by omega)))))) (fun h3444 hR3444 => ?_)
    obtain ⟨τ3444, au3444, hg3444, rc3444, F3444⟩ := hR3444
    obtain ⟨-, ⟨u3444, v3444, hu3444, l23444, b23444⟩, -⟩ := id rc3444
    have uu3444 : (u3444 = 1 ∧ v3444 = 6) ∨ (u3444 = 6 ∧ v3444 = 1) := hu3444
    have ty3444 := ty_u (tyB_of hg3444 hu3444 (tv2 hg3444) b23444.1 b23444.2.1 l23444) hu3444
    have la3444 := lay_u l23444 hu3444
    obtain ⟨⟨⟨xp03444, hp03444, ep03444⟩, ip03444⟩, ⟨xc03444, hc03444, ec03444⟩, ic03444⟩ := b23444.2.2.1
    obtain ⟨⟨⟨xp13444, hp13444, ep13444⟩, ip13444⟩, ⟨xc13444, hc13444, ec13444⟩, ic13444⟩ := b23444.2.2.2
    refine y_same (i := .aload_n 0) (len := 1) (r := (0, 0, 0, 0)) (pc' := 77) (ls' := [some (.inl (some 0)), some (zi xn), some (zi y3439)]) (st' := [.inl (some 0)]) (by decide +kernel) (fun k q => by cases q) rfl ?_
    have hv3445 := (F3444 0 5 (by omega)).trans hv3443
    refine y_get (j := 29) (len := 3) (r := (11, 5, 2, 404)) (by decide +kernel) hg3444 (tv0 hg3444) aw0 rfl rfl hv3445 ?_
    refine y_same (i := .aload_n 0) (len := 1) (r := (0, 0, 0, 0)) (pc' := 81) (ls' := [some (.inl (some 0)), some (zi xn), some (zi y3439)]) (st' := [.inl (some 0), .inl (some 2)]) (by decide +kernel) (fun k q => by cases q) rfl ?_
    refine y_get (j := 43) (len := 3) (r := (11, 7, 2, 406)) (by decide +kernel) hg3444 (tv0 hg3444) aw0 rfl rfl (g_rU (f := 7) (T2 := 15) hg3444 (tv0 hg3444) aw0 rfl (by decide)) ?_
    have hv3446 := (ho3438 15 0 (Or.inl (by omega))).trans al.1
    have hv3447 := (O3439.2.2 15 15 0 (tv15 hg3438) (show (15 ≠ 15 ∨ 0 < 2) ∧ 15 ≠ 27 ∧ 15 ≠ 19 ∧ 15 ≠ 21 ∧ 15 ≠ 24 ∧ 15 ≠ 26 ∧ ((15 ≠ 18 ∧ 15 ≠ 20 ∧ 15 ≠ 23 ∧ 15 ≠ 25) ∨ 0 ≠ 1) by omega)).trans hv3446
    have hv3448 := (ho3440 15 0 (Or.inl (by omega))).trans hv3447
    have hv3449 := (F3444 15 0 (by omega)).trans hv3448
    refine y_get (j := 87) (len := 3) (r := (5, 0, 2, 20240)) (by decide +kernel) hg3444 (tv15 hg3444) aw15 rfl rfl hv3449 ?_
    have lB3450 : layC h3444 16 := ⟨⟨((F3444 17 0 (by omega)).trans ((ho3440 17 0 (Or.inl (by omega))).trans ((O3439.2.2 17 1001 0 (tv17 hg3438) (show (17 ≠ 15 ∨ 0 < 2) ∧ 17 ≠ 27 ∧ 17 ≠ 19 ∧ 17 ≠ 21 ∧ 17 ≠ 24 ∧ 17 ≠ 26 ∧ ((17 ≠ 18 ∧ 17 ≠ 20 ∧ 17 ≠ 23 ∧ 17 ≠ 25) ∨ 0 ≠ 1) by omega)).trans (ho3438 17 0 (Or.inl (by omega)))))).trans al.2.2.2.1, ((F3444 17 1 (by omega)).trans ((ho3440 17 1 (Or.inl (by omega))).trans ((O3439.2.2 17 1001 1 (tv17 hg3438) (show (17 ≠ 15 ∨ 1 < 2) ∧ 17 ≠ 27 ∧ 17 ≠ 19 ∧ 17 ≠ 21 ∧ 17 ≠ 24 ∧ 17 ≠ 26 ∧ ((17 ≠ 18 ∧ 17 ≠ 20 ∧ 17 ≠ 23 ∧ 17 ≠ 25) ∨ 1 ≠ 1) by omega)).trans (ho3438 17 1 (Or.inl (by omega)))))).trans al.2.2.2.2.1, ((F3444 18 0 (by omega)).trans ((ho3440 18 0 (Or.inl (by omega))).trans ((O3439.2.2 18 1002 0 (tv18 hg3438) (show (18 ≠ 15 ∨ 0 < 2) ∧ 18 ≠ 27 ∧ 18 ≠ 19 ∧ 18 ≠ 21 ∧ 18 ≠ 24 ∧ 18 ≠ 26 ∧ ((18 ≠ 18 ∧ 18 ≠ 20 ∧ 18 ≠ 23 ∧ 18 ≠ 25) ∨ 0 ≠ 1) by omega)).trans (ho3438 18 0 (Or.inl (by omega)))))).trans al.2.2.2.2.2.2.2.1, ((F3444 20 0 (by omega)).trans ((ho3440 20 0 (Or.inl (by omega))).trans ((O3439.2.2 20 1003 0 (tv20 hg3438) (show (20 ≠ 15 ∨ 0 < 2) ∧ 20 ≠ 27 ∧ 20 ≠ 19 ∧ 20 ≠ 21 ∧ 20 ≠ 24 ∧ 20 ≠ 26 ∧ ((20 ≠ 18 ∧ 20 ≠ 20 ∧ 20 ≠ 23 ∧ 20 ≠ 25) ∨ 0 ≠ 1) by omega)).trans (ho3438 20 0 (Or.inl (by omega)))))).trans al.2.2.2.2.2.2.2.2.1⟩, ((F3444 22 0 (by omega)).trans ((ho3440 22 0 (Or.inl (by omega))).trans ((O3439.2.2 22 1001 0 (tv22 hg3438) (show (22 ≠ 15 ∨ 0 < 2) ∧ 22 ≠ 27 ∧ 22 ≠ 19 ∧ 22 ≠ 21 ∧ 22 ≠ 24 ∧ 22 ≠ 26 ∧ ((22 ≠ 18 ∧ 22 ≠ 20 ∧ 22 ≠ 23 ∧ 22 ≠ 25) ∨ 0 ≠ 1) by omega)).trans (ho3438 22 0 (Or.inl (by omega)))))).trans al.2.2.2.2.2.1, ((F3444 22 1 (by omega)).trans ((ho3440 22 1 (Or.inl (by omega))).trans ((O3439.2.2 22 1001 1 (tv22 hg3438) (show (22 ≠ 15 ∨ 1 < 2) ∧ 22 ≠ 27 ∧ 22 ≠ 19 ∧ 22 ≠ 21 ∧ 22 ≠ 24 ∧ 22 ≠ 26 ∧ ((22 ≠ 18 ∧ 22 ≠ 20 ∧ 22 ≠ 23 ∧ 22 ≠ 25) ∨ 1 ≠ 1) by omega)).trans (ho3438 22 1 (Or.inl (by omega)))))).trans al.2.2.2.2.2.2.1, ((F3444 23 0 (by omega)).trans ((ho3440 23 0 (Or.inl (by omega))).trans ((O3439.2.2 23 1002 0 (tv23 hg3438) (show (23 ≠ 15 ∨ 0 < 2) ∧ 23 ≠ 27 ∧ 23 ≠ 19 ∧ 23 ≠ 21 ∧ 23 ≠ 24 ∧ 23 ≠ 26 ∧ ((23 ≠ 18 ∧ 23 ≠ 20 ∧ 23 ≠ 23 ∧ 23 ≠ 25) ∨ 0 ≠ 1) by omega)).trans (ho3438 23 0 (Or.inl (by omega)))))).trans al.2.2.2.2.2.2.2.2.2.1, ((F3444 25 0 (by omega)).trans ((ho3440 25 0 (Or.inl (by omega))).trans ((O3439.2.2 25 1003 0 (tv25 hg3438) (show (25 ≠ 15 ∨ 0 < 2) ∧ 25 ≠ 27 ∧ 25 ≠ 19 ∧ 25 ≠ 21 ∧ 25 ≠ 24 ∧ 25 ≠ 26 ∧ ((25 ≠ 18 ∧ 25 ≠ 20 ∧ 25 ≠ 23 ∧ 25 ≠ 25) ∨ 0 ≠ 1) by omega)).trans (ho3438 25 0 (Or.inl (by omega)))))).trans al.2.2.2.2.2.2.2.2.2.2⟩
    have bB3450 : bsC h3444 16 1 6 ((lp3439, lc3439), (rp3439, rr3439)) := ⟨((F3444 16 0 (by omega)).trans ((ho3440 16 0 (Or.inl (by omega))).trans ((O3439.2.2 16 1000 0 (tv16 hg3438) (show (16 ≠ 15 ∨ 0 < 2) ∧ 16 ≠ 27 ∧ 16 ≠ 19 ∧ 16 ≠ 21 ∧ 16 ≠ 24 ∧ 16 ≠ 26 ∧ ((16 ≠ 18 ∧ 16 ≠ 20 ∧ 16 ≠ 23 ∧ 16 ≠ 25) ∨ 0 ≠ 1) by omega)).trans (ho3438 16 0 (Or.inl (by omega)))))).trans al.2.1, ((F3444 16 1 (by omega)).trans ((ho3440 16 1 (Or.inl (by omega))).trans ((O3439.2.2 16 1000 1 (tv16 hg3438) (show (16 ≠ 15 ∨ 1 < 2) ∧ 16 ≠ 27 ∧ 16 ≠ 19 ∧ 16 ≠ 21 ∧ 16 ≠ 24 ∧ 16 ≠ 26 ∧ ((16 ≠ 18 ∧ 16 ≠ 20 ∧ 16 ≠ 23 ∧ 16 ≠ 25) ∨ 1 ≠ 1) by omega)).trans (ho3438 16 1 (Or.inl (by omega)))))).trans al.2.2.1, ⟨rwC_up w13439 ((F3444 18 1 (by omega)).trans (ho3440 18 1 (Or.inl (by omega)))) (fun j => ((F3444 19 j (by omega)).trans (ho3440 19 j (Or.inl (by omega))))), rwC_up w23439 ((F3444 20 1 (by omega)).trans (ho3440 20 1 (Or.inl (by omega)))) (fun j => ((F3444 21 j (by omega)).trans (ho3440 21 j (Or.inl (by omega)))))⟩, ⟨rwC_up w33439 ((F3444 23 1 (by omega)).trans (ho3440 23 1 (Or.inl (by omega)))) (fun j => ((F3444 24 j (by omega)).trans (ho3440 24 j (Or.inl (by omega))))), rwC_up w43439 ((F3444 25 1 (by omega)).trans (ho3440 25 1 (Or.inl (by omega)))) (fun j => ((F3444 26 j (by omega)).trans (ho3440 26 j (Or.inl (by omega)))))⟩⟩
    have tB3450 := tyB_of hg3444 (Or.inl ⟨rfl, rfl⟩) (tv16 hg3444) bB3450.1 bB3450.2.1 lB3450
    refine y_cV (i := .invokevirtual 88) (len := 3) (r := (0, 109, 9, 1059)) (nL := 2) (k := 0) (n := 2) (hs := []) (args := [.inl (some 2), .inl (some 16)]) (rest := []) (l0 := [some (.inl (some 2)), some (.inl (some 16))]) (by decide +kernel) (Or.inr (Or.inl ⟨_, rfl⟩)) rfl rfl rfl rfl (Nat.le_of_ble_eq_true rfl) (zO hg3444 (tv2 hg3444) aw1000 rfl) rfl (qV_le (by decide) (e_cpb hg3444 (tv2 hg3444) (tv16 hg3444) (tyB_of hg3444 hu3444 (tv2 hg3444) b23444.1 b23444.2.1 l23444) tB3450 hu3444 (Or.inl ⟨rfl, rfl⟩) l23444 lB3450 b23444.1 b23444.2.1 bB3450 (by omega))) (fun h3450 hR3450 => ?_)
    obtain ⟨hg3450, b3450, l3450, F3450⟩ := hR3450
    have rc3450 : RC h3450 ((lp3439, lc3439), (rp3439, rr3439)) (psh hs cur) := RC_set rc3444 ⟨u3444, v3444, hu3444, l3450, b3450⟩ (fun k j h1 => F3450 k j (by omega))
    refine y_same (i := .aload_n 0) (len := 1) (r := (0, 0, 0, 0)) (pc' := 91) (ls' := [some (.inl (some 0)), some (zi xn), some (zi y3439)]) (st' := [.inl (some 0)]) (by decide +kernel) (fun k q => by cases q) rfl ?_
    refine y_cV (i := .invokevirtual 91) (len := 3) (r := (0, 154, 11, 474)) (nL := 1) (k := 0) (n := 1) (hs := []) (args := [.inl (some 0)]) (rest := []) (l0 := [some (.inl (some 0))]) (by decide +kernel) (Or.inr (Or.inl ⟨_, rfl⟩)) rfl rfl rfl rfl (Nat.le_of_ble_eq_true rfl) (zO hg3450 (tv0 hg3450) aw0 rfl) rfl (qV_le (by decide) (c_forgR (d := 0) hg3450)) (fun h3451 hR3451 => ?_)
    obtain ⟨hg3451, F3451, jx3451, jh3451, je3451⟩ := hR3451
    refine y_same (i := .aload_n 0) (len := 1) (r := (0, 0, 0, 0)) (pc' := 95) (ls' := [some (.inl (some 0)), some (zi xn), some (zi y3439)]) (st' := [.inl (some 0)]) (by decide +kernel) (fun k q => by cases q) rfl ?_
    have hv3452 := (F3450 0 5 (by omega)).trans hv3445
    have hv3453 := (F3451 0 5 (by omega)).trans hv3452
    refine y_get (j := 29) (len := 3) (r := (11, 5, 2, 404)) (by decide +kernel) hg3451 (tv0 hg3451) aw0 rfl rfl hv3453 ?_
    refine y_cI (i := .invokevirtual 94) (len := 3) (r := (0, 111, 9, 478)) (nL := 1) (k := 1) (n := 1) (hs := []) (args := [.inl (some 2)]) (rest := []) (l0 := [some (.inl (some 2))]) (by decide +kernel) (Or.inr (Or.inl ⟨_, rfl⟩)) rfl rfl rfl rfl (Nat.le_of_ble_eq_true rfl) (zO hg3451 (tv2 hg3451) aw1000 rfl) rfl (qI_le (by decide) (c_cnt (d := 0) hg3451 (RC_up rc3450 (fun k j h1 => (F3451 k j (by omega)))))) (fun y3454 qy3454 hRy3454 => ?_)
    obtain ⟨rfl, ey3454⟩ := hRy3454
    refine y_rI (len := 1) (r := (0, 0, 0, 0)) (nL := 3) (k := 1) (n9 := 2) (hs := []) (by decide +kernel) rfl rfl ?_
    exact ⟨⟨_, hg3451⟩, ⟨fun k => ((F3451 36 k (by omega)).trans ((F3450 36 k (by omega)).trans ((F3444 36 k (by omega)).trans ((ho3440 36 k (Or.inl (by omega))).trans ((O3439.2.2 36 36 k (tv36 hg3438) (show (36 ≠ 15 ∨ k < 2) ∧ 36 ≠ 27 ∧ 36 ≠ 19 ∧ 36 ≠ 21 ∧ 36 ≠ 24 ∧ 36 ≠ 26 ∧ ((36 ≠ 18 ∧ 36 ≠ 20 ∧ 36 ≠ 23 ∧ 36 ≠ 25) ∨ k ≠ 1) by omega)).trans (ho3438 36 k (Or.inl (by omega)))))))), ((F3451 35 0 (by omega)).trans ((F3450 35 0 (by omega)).trans ((F3444 35 0 (by omega)).trans ((ho3440 35 0 (Or.inl (by omega))).trans ((O3439.2.2 35 35 0 (tv35 hg3438) (show (35 ≠ 15 ∨ 0 < 2) ∧ 35 ≠ 27 ∧ 35 ≠ 19 ∧ 35 ≠ 21 ∧ 35 ≠ 24 ∧ 35 ≠ 26 ∧ ((35 ≠ 18 ∧ 35 ≠ 20 ∧ 35 ≠ 23 ∧ 35 ≠ 25) ∨ 0 ≠ 1) by omega)).trans (ho3438 35 0 (Or.inl (by omega)))))))), ((F3451 35 6 (by omega)).trans ((F3450 35 6 (by omega)).trans ((F3444 35 6 (by omega)).trans ((ho3440 35 6 (Or.inl (by omega))).trans ((O3439.2.2 35 35 6 (tv35 hg3438) (show (35 ≠ 15 ∨ 6 < 2) ∧ 35 ≠ 27 ∧ 35 ≠ 19 ∧ 35 ≠ 21 ∧ 35 ≠ 24 ∧ 35 ≠ 26 ∧ ((35 ≠ 18 ∧ 35 ≠ 20 ∧ 35 ≠ 23 ∧ 35 ≠ 25) ∨ 6 ≠ 1) by omega)).trans (ho3438 35 6 (Or.inl (by omega)))))))), ((F3451 35 8 (by omega)).trans ((F3450 35 8 (by omega)).trans ((F3444 35 8 (by omega)).trans ((ho3440 35 8 (Or.inl (by omega))).trans ((O3439.2.2 35 35 8 (tv35 hg3438) (show (35 ≠ 15 ∨ 8 < 2) ∧ 35 ≠ 27 ∧ 35 ≠ 19 ∧ 35 ≠ 21 ∧ 35 ≠ 24 ∧ 35 ≠ 26 ∧ ((35 ≠ 18 ∧ 35 ≠ 20 ∧ 35 ≠ 23 ∧ 35 ≠ 25) ∨ 8 ≠ 1) by omega)).trans (ho3438 35 8 (Or.inl (by omega)))))))), ((F3451 38 2 (by omega)).trans ((F3450 38 2 (by omega)).trans ((F3444 38 2 (by omega)).trans ((ho3440 38 2 (Or.inl (by omega))).trans ((O3439.2.2 38 38 2 (tv38 hg3438) (show (38 ≠ 15 ∨ 2 < 2) ∧ 38 ≠ 27 ∧ 38 ≠ 19 ∧ 38 ≠ 21 ∧ 38 ≠ 24 ∧ 38 ≠ 26 ∧ ((38 ≠ 18 ∧ 38 ≠ 20 ∧ 38 ≠ 23 ∧ 38 ≠ 25) ∨ 2 ≠ 1) by omega)).trans (ho3438 38 2 (Or.inl (by omega))))))))⟩, ⟨((F3451 52 27 (by omega)).trans ((F3450 52 27 (by omega)).trans ((F3444 52 27 (by omega)).trans ((ho3440 52 27 (Or.inl (by omega))).trans ((O3439.2.2 52 52 27 (t52 hg3438) (show (52 ≠ 15 ∨ 27 < 2) ∧ 52 ≠ 27 ∧ 52 ≠ 19 ∧ 52 ≠ 21 ∧ 52 ≠ 24 ∧ 52 ≠ 26 ∧ ((52 ≠ 18 ∧ 52 ≠ 20 ∧ 52 ≠ 23 ∧ 52 ≠ 25) ∨ 27 ≠ 1) by omega)).trans (ho3438 52 27 (Or.inl (by omega)))))))), ((F3451 52 29 (by omega)).trans ((F3450 52 29 (by omega)).trans ((F3444 52 29 (by omega)).trans ((ho3440 52 29 (Or.inl (by omega))).trans ((O3439.2.2 52 52 29 (t52 hg3438) (show (52 ≠ 15 ∨ 29 < 2) ∧ 52 ≠ 27 ∧ 52 ≠ 19 ∧ 52 ≠ 21 ∧ 52 ≠ 24 ∧ 52 ≠ 26 ∧ ((52 ≠ 18 ∧ 52 ≠ 20 ∧ 52 ≠ 23 ∧ 52 ≠ 25) ∨ 29 ≠ 1) by omega)).trans (ho3438 52 29 (Or.inl (by omega)))))))), ((F3451 52 32 (by omega)).trans ((F3450 52 32 (by omega)).trans ((F3444 52 32 (by omega)).trans ((ho3440 52 32 (Or.inl (by omega))).trans ((O3439.2.2 52 52 32 (t52 hg3438) (show (52 ≠ 15 ∨ 32 < 2) ∧ 52 ≠ 27 ∧ 52 ≠ 19 ∧ 52 ≠ 21 ∧ 52 ≠ 24 ∧ 52 ≠ 26 ∧ ((52 ≠ 18 ∧ 52 ≠ 20 ∧ 52 ≠ 23 ∧ 52 ≠ 25) ∨ 32 ≠ 1) by omega)).trans (ho3438 52 32 (Or.inl (by omega))))))))⟩, ((F3451 52 31 (by omega)).trans ((F3450 52 31 (by omega)).trans ((F3444 52 31 (by omega)).trans ((ho3440 52 31 (Or.inl (by omega))).trans ((O3439.2.2 52 52 31 (t52 hg3438) (show (52 ≠ 15 ∨ 31 < 2) ∧ 52 ≠ 27 ∧ 52 ≠ 19 ∧ 52 ≠ 21 ∧ 52 ≠ 24 ∧ 52 ≠ 26 ∧ ((52 ≠ 18 ∧ 52 ≠ 20 ∧ 52 ≠ 23 ∧ 52 ≠ 25) ∨ 31 ≠ 1) by omega)).trans (ho3438 52 31 (Or.inl (by omega)))))))), Or.inr ⟨_, jh3451, by omega⟩⟩
  ·
    refine y_same (i := .istore_n 2) (len := 1) (r := (0, 0, 0, 0)) (pc' := 39) (ls' := [some (.inl (some 0)), some (zi xn), some (zi y3439)]) (st' := []) (by decide +kernel) (fun k q => by cases q) rfl ?_
    refine y_same (i := .aload_n 0) (len := 1) (r := (0, 0, 0, 0)) (pc' := 40) (ls' := [some (.inl (some 0)), some (zi xn), some (zi y3439)]) (st' := [.inl (some 0)]) (by decide +kernel) (fun k q => by cases q) rfl ?_
    refine y_same (i := .aload_n 0) (len := 1) (r := (0, 0, 0, 0)) (pc' := 41) (ls' := [some (.inl (some 0)), some (zi xn), some (zi y3439)]) (st' := [.inl (some 0), .inl (some 0)]) (by decide +kernel) (fun k q => by cases q) rfl ?_
    refine y_get (j := 43) (len := 3) (r := (11, 7, 2, 406)) (by decide +kernel) O3439.2.1 (tv0 O3439.2.1) aw0 rfl rfl (g_rU (f := 7) (T2 := 15) O3439.2.1 (tv0 O3439.2.1) aw0 rfl (by decide)) ?_
    refine y_get (j := 77) (len := 3) (r := (5, 5, 0, 20247)) (by decide +kernel) O3439.2.1 (tv15 O3439.2.1) aw15 rfl rfl hw3439 ?_
    refine y_put (j := 17) (lo := (-2147483648)) (hi := 2147483647) (len := 3) (r := (11, 2, 0, 401)) (by decide +kernel) O3439.2.1 (tv0 O3439.2.1) aw0 rfl rfl (by decide) rfl (qin_full _).1 (qin_full _).2 rfl (fun h3455 hg3455 hl3455 hs3455 ho3455 => ?_)
    have ho3455 : hO 0 2 h3439 h3455 := ho3455
    have hs3455 : hsl h3455 0 2 = some (zi xw3439) := hs3455
    refine y_same (i := .iload_n 2) (len := 1) (r := (0, 0, 0, 0)) (pc' := 51) (ls' := [some (.inl (some 0)), some (zi xn), some (zi y3439)]) (st' := [zi y3439]) (by decide +kernel) (fun k q => by cases q) rfl ?_
    refine y_iF (c := .ne) (off := 14) (len := 3) (r := (0, 0, 0, 0)) (by decide +kernel) (acmpF (c := .ne) (by show _ = _; omega)) ?_
    refine y_same (i := .aload_n 0) (len := 1) (r := (0, 0, 0, 0)) (pc' := 55) (ls' := [some (.inl (some 0)), some (zi xn), some (zi y3439)]) (st' := [.inl (some 0)]) (by decide +kernel) (fun k q => by cases q) rfl ?_
    refine y_get (j := 43) (len := 3) (r := (11, 7, 2, 406)) (by decide +kernel) hg3455 (tv0 hg3455) aw0 rfl rfl (g_rU (f := 7) (T2 := 15) hg3455 (tv0 hg3455) aw0 rfl (by decide)) ?_
    have hv3456 := (ho3455 15 4 (Or.inl (by omega))).trans hr3439
    refine y_get (j := 80) (len := 3) (r := (5, 4, 0, 20245)) (by decide +kernel) hg3455 (tv15 hg3455) aw15 rfl rfl hv3456 ?_
    refine y_bi (c := 10) (len := 2) (r := (0, 0, 0, 0)) (by decide +kernel) (by decide) (fun y3457 hy3457 => ?_)
    refine y_bp (i := .isub) (f := fun x y => x - y) (len := 1) (r := (0, 0, 0, 0)) (by decide +kernel) rfl rfl (fun y3458 hy3458 => ?_)
    refine y_rI (len := 1) (r := (0, 0, 0, 0)) (nL := 3) (k := 1) (n9 := 2) (hs := []) (by decide +kernel) rfl rfl ?_
    exact ⟨⟨_, hg3455⟩, ⟨fun k => ((ho3455 36 k (Or.inl (by omega))).trans ((O3439.2.2 36 36 k (tv36 hg3438) (show (36 ≠ 15 ∨ k < 2) ∧ 36 ≠ 27 ∧ 36 ≠ 19 ∧ 36 ≠ 21 ∧ 36 ≠ 24 ∧ 36 ≠ 26 ∧ ((36 ≠ 18 ∧ 36 ≠ 20 ∧ 36 ≠ 23 ∧ 36 ≠ 25) ∨ k ≠ 1) by omega)).trans (ho3438 36 k (Or.inl (by omega))))), ((ho3455 35 0 (Or.inl (by omega))).trans ((O3439.2.2 35 35 0 (tv35 hg3438) (show (35 ≠ 15 ∨ 0 < 2) ∧ 35 ≠ 27 ∧ 35 ≠ 19 ∧ 35 ≠ 21 ∧ 35 ≠ 24 ∧ 35 ≠ 26 ∧ ((35 ≠ 18 ∧ 35 ≠ 20 ∧ 35 ≠ 23 ∧ 35 ≠ 25) ∨ 0 ≠ 1) by omega)).trans (ho3438 35 0 (Or.inl (by omega))))), ((ho3455 35 6 (Or.inl (by omega))).trans ((O3439.2.2 35 35 6 (tv35 hg3438) (show (35 ≠ 15 ∨ 6 < 2) ∧ 35 ≠ 27 ∧ 35 ≠ 19 ∧ 35 ≠ 21 ∧ 35 ≠ 24 ∧ 35 ≠ 26 ∧ ((35 ≠ 18 ∧ 35 ≠ 20 ∧ 35 ≠ 23 ∧ 35 ≠ 25) ∨ 6 ≠ 1) by omega)).trans (ho3438 35 6 (Or.inl (by omega))))), ((ho3455 35 8 (Or.inl (by omega))).trans ((O3439.2.2 35 35 8 (tv35 hg3438) (show (35 ≠ 15 ∨ 8 < 2) ∧ 35 ≠ 27 ∧ 35 ≠ 19 ∧ 35 ≠ 21 ∧ 35 ≠ 24 ∧ 35 ≠ 26 ∧ ((35 ≠ 18 ∧ 35 ≠ 20 ∧ 35 ≠ 23 ∧ 35 ≠ 25) ∨ 8 ≠ 1) by omega)).trans (ho3438 35 8 (Or.inl (by omega))))), ((ho3455 38 2 (Or.inl (by omega))).trans ((O3439.2.2 38 38 2 (tv38 hg3438) (show (38 ≠ 15 ∨ 2 < 2) ∧ 38 ≠ 27 ∧ 38 ≠ 19 ∧ 38 ≠ 21 ∧ 38 ≠ 24 ∧ 38 ≠ 26 ∧ ((38 ≠ 18 ∧ 38 ≠ 20 ∧ 38 ≠ 23 ∧ 38 ≠ 25) ∨ 2 ≠ 1) by omega)).trans (ho3438 38 2 (Or.inl (by omega)))))⟩, ⟨((ho3455 52 27 (Or.inl (by omega))).trans ((O3439.2.2 52 52 27 (t52 hg3438) (show (52 ≠ 15 ∨ 27 < 2) ∧ 52 ≠ 27 ∧ 52 ≠ 19 ∧ 52 ≠ 21 ∧ 52 ≠ 24 ∧ 52 ≠ 26 ∧ ((52 ≠ 18 ∧ 52 ≠ 20 ∧ 52 ≠ 23 ∧ 52 ≠ 25) ∨ 27 ≠ 1) by omega)).trans (ho3438 52 27 (Or.inl (by omega))))), ((ho3455 52 29 (Or.inl (by omega))).trans ((O3439.2.2 52 52 29 (t52 hg3438) (show (52 ≠ 15 ∨ 29 < 2) ∧ 52 ≠ 27 ∧ 52 ≠ 19 ∧ 52 ≠ 21 ∧ 52 ≠ 24 ∧ 52 ≠ 26 ∧ ((52 ≠ 18 ∧ 52 ≠ 20 ∧ 52 ≠ 23 ∧ 52 ≠ 25) ∨ 29 ≠ 1) by omega)).trans (ho3438 52 29 (Or.inl (by omega))))), ((ho3455 52 32 (Or.inl (by omega))).trans ((O3439.2.2 52 52 32 (t52 hg3438) (show (52 ≠ 15 ∨ 32 < 2) ∧ 52 ≠ 27 ∧ 52 ≠ 19 ∧ 52 ≠ 21 ∧ 52 ≠ 24 ∧ 52 ≠ 26 ∧ ((52 ≠ 18 ∧ 52 ≠ 20 ∧ 52 ≠ 23 ∧ 52 ≠ 25) ∨ 32 ≠ 1) by omega)).trans (ho3438 52 32 (Or.inl (by omega)))))⟩, ((ho3455 52 31 (Or.inl (by omega))).trans ((O3439.2.2 52 52 31 (t52 hg3438) (show (52 ≠ 15 ∨ 31 < 2) ∧ 52 ≠ 27 ∧ 52 ≠ 19 ∧ 52 ≠ 21 ∧ 52 ≠ 24 ∧ 52 ≠ 26 ∧ ((52 ≠ 18 ∧ 52 ≠ 20 ∧ 52 ≠ 23 ∧ 52 ≠ 25) ∨ 31 ≠ 1) by omega)).trans (ho3438 52 31 (Or.inl (by omega))))), Or.inl ⟨⟨_, e3439⟩, ((ho3455 28 5 (Or.inl (by omega))).trans ((O3439.2.2 28 28 5 (tv28 hg3438) (show (28 ≠ 15 ∨ 5 < 2) ∧ 28 ≠ 27 ∧ 28 ≠ 19 ∧ 28 ≠ 21 ∧ 28 ≠ 24 ∧ 28 ≠ 26 ∧ ((28 ≠ 18 ∧ 28 ≠ 20 ∧ 28 ≠ 23 ∧ 28 ≠ 25) ∨ 5 ≠ 1) by omega)).trans (ho3438 28 5 (Or.inl (by omega)))))⟩⟩
theorem jr_ltext {t n T : Nat} {b : Nat → Int} {τ : List Nat} {h : zh} {xn xT : Int32} {cur : bsT} {hs : List bsT} (hg : hG τ h) (rc : RC h cur hs) (r5 : hsl h 0 5 = some (.inl (some 2))) (al : alC h) (hT : hsl h 0 1 = some (zi xT)) (eT : xT.toInt = (T : Int)) (hT2 : T ≤ 200) (en : xn.toInt = (n : Int)) (hn : n ≤ T) (hb : ∀ j, j < n → ∃ x : Int32, hsl h 1 j = some (zi x) ∧ x.toInt = b j) : qI 60 276 [some (.inl (some 0)), some (zi xn), some (.inl (some 388)), none] h t (fun y h1 => kpPC h h1 ∧ kpPM h h1 ∧ hsl h1 52 31 = hsl h 52 31 ∧ ((∃ r, wAll b n = .inl r) ∧ hsl h1 28 5 = hsl h 28 5 ∨ ci_ h1 28 5 0)) := by
  refine qI_le (d := 32) (by decide) (qI_of ?_)
  refine y_same (i := .aload_n 2) (len := 1) (r := (0, 0, 0, 0)) (pc' := 1) (ls' := [some (.inl (some 0)), some (zi xn), some (.inl (some 388)), none]) (st' := [.inl (some 388)]) (by decide +kernel) (fun k q => by cases q) rfl ?_
  refine y_ic (c := 0) (len := 1) (r := (0, 0, 0, 0)) (by decide +kernel) (by decide) (fun y3459 hy3459 => ?_)
  refine y_same (i := .aload_n 0) (len := 1) (r := (0, 0, 0, 0)) (pc' := 3) (ls' := [some (.inl (some 0)), some (zi xn), some (.inl (some 388)), none]) (st' := [.inl (some 0), zi y3459, .inl (some 388)]) (by decide +kernel) (fun k q => by cases q) rfl ?_
  refine y_same (i := .iload_n 1) (len := 1) (r := (0, 0, 0, 0)) (pc' := 4) (ls' := [some (.inl (some 0)), some (zi xn), some (.inl (some 388)), none]) (st' := [zi xn, .inl (some 0), zi y3459, .inl (some 388)]) (by decide +kernel) (fun k q => by cases q) rfl ?_
  refine y_cI (i := .invokevirtual 7) (len := 3) (r := (0, 133, 11, 848)) (nL := 3) (k := 1) (n := 2) (hs := []) (args := [.inl (some 0), zi xn]) (rest := [zi y3459, .inl (some 388)]) (l0 := [some (.inl (some 0)), some (zi xn), none]) (by decide +kernel) (Or.inr (Or.inl ⟨_, rfl⟩)) rfl rfl rfl rfl (Nat.le_of_ble_eq_true rfl) (zO hg (tv0 hg) aw0 rfl) rfl (qI_le (by decide) (jr_text hg rc r5 al hT eT hT2 en hn hb)) (fun y3460 h3460 hRy3460 => ?_)
  obtain ⟨⟨τ3460, hg3460⟩, k1, k2, k3, k4⟩ := hRy3460
  refine y_i2l2 (len := 1) (r := (0, 0, 0, 0)) (by decide +kernel) ?_
  refine y_las2 (i := 0) (len := 1) (r := (0, 0, 0, 0)) (by decide +kernel) hg3460 (t388 hg3460) aw388 rfl (by omega) (by omega) rfl (fun h3461 hg3461 hw3461 ho3461 => ?_)
  refine y_goto (off := 6) (pc' := 15) (len := 3) (r := (0, 0, 0, 0)) (by decide +kernel) (by decide +kernel) ?_
  refine y_ic (c := 0) (len := 1) (r := (0, 0, 0, 0)) (by decide +kernel) (by decide) (fun y3462 hy3462 => ?_)
  refine y_rI (len := 1) (r := (0, 0, 0, 0)) (nL := 4) (k := 1) (n9 := 3) (hs := [(0, 9, 12, 1)]) (by decide +kernel) rfl rfl ?_
  refine ⟨⟨fun k => (ho3461 36 k (Or.inl (by omega))).trans (k1.1 k), (ho3461 35 0 (Or.inl (by omega))).trans k1.2.1, (ho3461 35 6 (Or.inl (by omega))).trans k1.2.2.1, (ho3461 35 8 (Or.inl (by omega))).trans k1.2.2.2.1, (ho3461 38 2 (Or.inl (by omega))).trans k1.2.2.2.2⟩, ⟨(ho3461 52 27 (Or.inl (by omega))).trans k2.1, (ho3461 52 29 (Or.inl (by omega))).trans k2.2.1, (ho3461 52 32 (Or.inl (by omega))).trans k2.2.2⟩, (ho3461 52 31 (Or.inl (by omega))).trans k3, ?_⟩
  rcases k4 with ⟨q1, q2⟩ | q1
  · exact Or.inl ⟨q1, (ho3461 28 5 (Or.inl (by omega))).trans q2⟩
  · exact Or.inr (ci_up q1 (ho3461 28 5 (Or.inl (by omega))))
