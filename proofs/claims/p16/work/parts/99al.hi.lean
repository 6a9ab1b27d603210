/-! the answers that an act forgets -/
theorem qE_det {d mi : Nat} {l0 : List (Option zv)} {h : zh} {t : Nat} {x x' : zo × zh × Nat} (a : qE d mi l0 h t x) (b : qE d mi l0 h t x') : x = x' := by
  obtain ⟨n, a⟩ := a
  obtain ⟨m, b⟩ := b
  exact Option.some.inj ((a (max n m) (Nat.le_max_left _ _)).symm.trans (b (max n m) (Nat.le_max_right _ _)))
theorem qI_at {d mi : Nat} {l0 : List (Option zv)} {h h1 : zh} {t t1 : Nat} {y : Int32} {R : Int32 → zh → Prop} (a : qE d mi l0 h t (.inl (some (zi y)), h1, t1)) (b : qI d mi l0 h t R) : R y h1 := by
  obtain ⟨y', h', e, r⟩ := b
  have e9 := qE_det a e
  cases e9
  exact r
theorem qX_at {d mi : Nat} {l0 : List (Option zv)} {h h1 : zh} {t t1 t2 : Nat} {y : Int32} {R : Int32 → zh → Prop} (a : qE d mi l0 h t (.inl (some (zi y)), h1, t1)) (b : ∃ (y : Int32) (h1 : zh), qE d mi l0 h t (.inl (some (zi y)), h1, t2) ∧ R y h1) : R y h1 := by
  obtain ⟨y', h', e, r⟩ := b
  have e9 := qE_det a e
  cases e9
  exact r
def kpJC (h h1 : zh) : Prop := hsl h1 44 0 = hsl h 44 0 ∧ (∀ j, 5 < j → j < 11 → hsl h1 42 j = hsl h 42 j) ∧ ∀ j, hsl h1 51 j = hsl h 51 j
def kpJM (h h1 : zh) : Prop := (∀ j, 40 < j → j < 46 → hsl h1 52 j = hsl h 52 j) ∧ ∀ j, hsl h1 387 j = hsl h 387 j
theorem c01 {h : zh} {a j : Nat} (x : ci_ h a j 0) (y : ci_ h a j 1) : False := by
  obtain ⟨u, e1, e2⟩ := x
  obtain ⟨v, e3, e4⟩ := y
  have e5 := e1.symm.trans e3
  cases e5
  omega
theorem JC_kp {h h1 : zh} {cur : bsT} (k : kpJC h h1) (f : hsl h1 42 5 = hsl h 42 5) (j : JC h cur) : JC h1 cur := ⟨ci_up j.1 k.1, fun q => (by
  obtain ⟨a1, a2, a3, a4, a5, a6⟩ := j.2 (ci_up q f.symm)
  exact ⟨ci_up a1 (k.2.1 6 (by omega) (by omega)), ci_up a2 (k.2.1 7 (by omega) (by omega)), kx_up a3 (k.2.1 8 (by omega) (by omega)), kx_up a4 (k.2.1 9 (by omega) (by omega)), kx_up a5 (k.2.1 10 (by omega) (by omega)), fun v h1 h2 => kx_up (a6 v h1 h2) (k.2.2 v)⟩)⟩
theorem JC_0 {h h1 : zh} {cur cur' : bsT} (k : kpJC h h1) (f : ci_ h1 42 5 0) (j : JC h cur) : JC h1 cur' := ⟨ci_up j.1 k.1, fun q => (c01 f q).elim⟩
theorem JM_kp {h h1 : zh} {cur : bsT} (k : kpJM h h1) (f : hsl h1 52 47 = hsl h 52 47) (j : JM h cur) : JM h1 cur := fun q => rcM_up (j (ci_up q f.symm)) (fun a b hC => by
  rcases hC with ⟨e, e2, e3⟩ | e
  · subst e
    exact k.1 b e2 e3
  · subst e
    exact k.2 b)
theorem JM_0 {h1 : zh} {cur' : bsT} (f : ci_ h1 52 47 0) : JM h1 cur' := fun q => (c01 f q).elim
theorem frC_kC {h h1 : zh} (f : frC h h1) : kpJC h h1 := ⟨f 44 0 (by omega), fun j h1 _ => f 42 j (by omega), fun j => f 51 j (by omega)⟩
theorem frC_kM {h h1 : zh} (f : frC h h1) : kpJM h h1 ∧ hsl h1 52 47 = hsl h 52 47 := ⟨⟨fun j _ _ => f 52 j (by omega), fun j => f 387 j (by omega)⟩, f 52 47 (by omega)⟩
theorem frM_kC {h h1 : zh} (f : frM h h1) : kpJC h h1 ∧ hsl h1 42 5 = hsl h 42 5 := ⟨⟨f 44 0 (by omega), fun j _ _ => f 42 j (by omega), fun j => f 51 j (by omega)⟩, f 42 5 (by omega)⟩
theorem frM_kM {h h1 : zh} (f : frM h h1) : kpJM h h1 := ⟨fun j h1 h2 => f 52 j (by omega), fun j => f 387 j (by omega)⟩
theorem c_forgJ {d t : Nat} {τ : List Nat} {h : zh} (hg : hG τ h) : qV (d + 1) 154 [some (.inl (some 0))] h t (fun h1 => hG τ h1 ∧ (∀ k j, ((k ≠ 28 ∧ k ≠ 35 ∧ k ≠ 42) ∨ j ≠ 5) → hsl h1 k j = hsl h k j) ∧ ci_ h1 42 5 0) := by
  refine qV_of ?_
  refine y_same (i := .aload_n 0) (len := 1) (r := (0, 0, 0, 0)) (pc' := 1) (ls' := [some (.inl (some 0))]) (st' := [.inl (some 0)]) (by decide +kernel) (fun k q => by cases q) rfl ?_
  refine y_get (j := 52) (len := 3) (r := (11, 8, 2, 407)) (by decide +kernel) hg (tv0 hg) aw0 rfl rfl (g_rU (f := 8) (T2 := 28) hg (tv0 hg) aw0 rfl (by decide)) ?_
  refine y_ic (c := 0) (len := 1) (r := (0, 0, 0, 0)) (by decide +kernel) (by decide) (fun y3352 hy3352 => ?_)
  refine y_put (j := 238) (lo := 0) (hi := 1) (len := 3) (r := (4, 5, 1, 20288)) (by decide +kernel) hg (tv28 hg) aw28 rfl rfl (by decide) rfl (by omega) (by omega) (zfit_b (by omega) (by omega)).1 (fun h3353 hg3353 hl3353 hs3353 ho3353 => ?_)
  have ho3353 : hO 28 5 h h3353 := ho3353
  have hs3353 : hsl h3353 28 5 = some (zi y3352) := hs3353
  refine y_same (i := .aload_n 0) (len := 1) (r := (0, 0, 0, 0)) (pc' := 9) (ls' := [some (.inl (some 0))]) (st' := [.inl (some 0)]) (by decide +kernel) (fun k q => by cases q) rfl ?_
  refine y_get (j := 56) (len := 3) (r := (11, 9, 2, 408)) (by decide +kernel) hg3353 (tv0 hg3353) aw0 rfl rfl (g_rU (f := 9) (T2 := 35) hg3353 (tv0 hg3353) aw0 rfl (by decide)) ?_
  refine y_ic (c := 0) (len := 1) (r := (0, 0, 0, 0)) (by decide +kernel) (by decide) (fun y3354 hy3354 => ?_)
  refine y_put (j := 238) (lo := 0) (hi := 1) (len := 3) (r := (4, 5, 1, 20288)) (by decide +kernel) hg3353 (tv35 hg3353) aw35 rfl rfl (by decide) rfl (by omega) (by omega) (zfit_b (by omega) (by omega)).1 (fun h3355 hg3355 hl3355 hs3355 ho3355 => ?_)
  have ho3355 : hO 35 5 h3353 h3355 := ho3355
  have hs3355 : hsl h3355 35 5 = some (zi y3354) := hs3355
  refine y_same (i := .aload_n 0) (len := 1) (r := (0, 0, 0, 0)) (pc' := 17) (ls' := [some (.inl (some 0))]) (st' := [.inl (some 0)]) (by decide +kernel) (fun k q => by cases q) rfl ?_
  refine y_get (j := 62) (len := 3) (r := (11, 10, 2, 409)) (by decide +kernel) hg3355 (tv0 hg3355) aw0 rfl rfl (g_rU (f := 10) (T2 := 42) hg3355 (tv0 hg3355) aw0 rfl (by decide)) ?_
  refine y_ic (c := 0) (len := 1) (r := (0, 0, 0, 0)) (by decide +kernel) (by decide) (fun y3356 hy3356 => ?_)
  refine y_put (j := 242) (lo := 0) (hi := 1) (len := 3) (r := (10, 5, 1, 20365)) (by decide +kernel) hg3355 (tv42 hg3355) aw42 rfl rfl (by decide) rfl (by omega) (by omega) (zfit_b (by omega) (by omega)).1 (fun h3357 hg3357 hl3357 hs3357 ho3357 => ?_)
  have ho3357 : hO 42 5 h3355 h3357 := ho3357
  have hs3357 : hsl h3357 42 5 = some (zi y3356) := hs3357
  refine y_rV (len := 1) (r := (0, 0, 0, 0)) (nL := 1) (n9 := 1) (hs := []) (by decide +kernel) rfl ?_
  exact ⟨hg3357, fun k j hC => ((ho3357 k j (by omega)).trans ((ho3355 k j (by omega)).trans (ho3353 k j (by omega)))), ⟨_, hs3357, by omega⟩⟩
theorem j_turnC {t : Nat} {τ : List Nat} {h : zh} {cur : bsT} {hs : List bsT} (hg : hG τ h) (rc : RC h cur hs) (r5 : hsl h 0 5 = some (.inl (some 2))) : qI 60 135 [some (.inl (some 0))] h t (fun y h1 => ci_ h1 42 5 0) := by
  refine qI_le (d := 21) (by decide) (qI_of ?_)
  refine y_same (i := .aload_n 0) (len := 1) (r := (0, 0, 0, 0)) (pc' := 1) (ls' := [some (.inl (some 0))]) (st' := [.inl (some 0)]) (by decide +kernel) (fun k q => by cases q) rfl ?_
  refine y_get (j := 36) (len := 3) (r := (11, 6, 2, 405)) (by decide +kernel) hg (tv0 hg) aw0 rfl rfl (g_rU (f := 6) (T2 := 13) hg (tv0 hg) aw0 rfl (by decide)) ?_
  refine y_same (i := .aload_n 0) (len := 1) (r := (0, 0, 0, 0)) (pc' := 5) (ls' := [some (.inl (some 0))]) (st' := [.inl (some 0), .inl (some 13)]) (by decide +kernel) (fun k q => by cases q) rfl ?_
  refine y_get (j := 29) (len := 3) (r := (11, 5, 2, 404)) (by decide +kernel) hg (tv0 hg) aw0 rfl rfl r5 ?_
  refine y_cV (i := .invokevirtual 83) (len := 3) (r := (0, 24, 2, 449)) (nL := 2) (k := 0) (n := 2) (hs := []) (args := [.inl (some 13), .inl (some 2)]) (rest := []) (l0 := [some (.inl (some 13)), some (.inl (some 2))]) (by decide +kernel) (Or.inr (Or.inl ⟨_, rfl⟩)) rfl rfl rfl rfl (Nat.le_of_ble_eq_true rfl) (zO hg (tv13 hg) aw13 rfl) rfl (qV_le (by decide) (e_keep hg rc)) (fun h3358 hR3358 => ?_)
  obtain ⟨τ3358, au3358, hg3358, rc3358, F3358⟩ := hR3358
  obtain ⟨-, ⟨u3358, v3358, hu3358, l23358, b23358⟩, -⟩ := id rc3358
  have uu3358 : (u3358 = 1 ∧ v3358 = 6) ∨ (u3358 = 6 ∧ v3358 = 1) := hu3358
  have ty3358 := ty_u (tyB_of hg3358 hu3358 (tv2 hg3358) b23358.1 b23358.2.1 l23358) hu3358
  have la3358 := lay_u l23358 hu3358
  obtain ⟨⟨⟨xp03358, hp03358, ep03358⟩, ip03358⟩, ⟨xc03358, hc03358, ec03358⟩, ic03358⟩ := b23358.2.2.1
  obtain ⟨⟨⟨xp13358, hp13358, ep13358⟩, ip13358⟩, ⟨xc13358, hc13358, ec13358⟩, ic13358⟩ := b23358.2.2.2
  refine y_same (i := .aload_n 0) (len := 1) (r := (0, 0, 0, 0)) (pc' := 12) (ls' := [some (.inl (some 0))]) (st' := [.inl (some 0)]) (by decide +kernel) (fun k q => by cases q) rfl ?_
  have hv3359 := (F3358 0 5 (by omega)).trans r5
  refine y_get (j := 29) (len := 3) (r := (11, 5, 2, 404)) (by decide +kernel) hg3358 (tv0 hg3358) aw0 rfl rfl hv3359 ?_
  refine y_cV (i := .invokevirtual 98) (len := 3) (r := (0, 110, 9, 470)) (nL := 2) (k := 0) (n := 1) (hs := []) (args := [.inl (some 2)]) (rest := []) (l0 := [some (.inl (some 2)), none]) (by decide +kernel) (Or.inr (Or.inl ⟨_, rfl⟩)) rfl rfl rfl rfl (Nat.le_of_ble_eq_true rfl) (zO hg3358 (tv2 hg3358) aw1000 rfl) rfl (qV_le (by decide) (c_exc (d := 0) hg3358 ty3358.1.1 ty3358.2.1 b23358.1 b23358.2.1)) (fun h3360 hR3360 => ?_)
  obtain ⟨hg3360, x03360, x13360, F3360⟩ := hR3360
  have rc3360 : RC h3360 (cur.2, cur.1) (psh hs cur) := RC_set rc3358 ⟨v3358, u3358, uv_sw hu3358, layC_up l23358 (fun k j h1 h2 => F3360 k j (by omega)), x03360, x13360, sdC_up b23358.2.2.2 (fun k j h1 h2 => F3360 k j (by omega)), sdC_up b23358.2.2.1 (fun k j h1 h2 => F3360 k j (by omega))⟩ (fun k j h1 => F3360 k j (by omega))
  refine y_same (i := .aload_n 0) (len := 1) (r := (0, 0, 0, 0)) (pc' := 19) (ls' := [some (.inl (some 0))]) (st' := [.inl (some 0)]) (by decide +kernel) (fun k q => by cases q) rfl ?_
  refine y_cV (i := .invokevirtual 91) (len := 3) (r := (0, 154, 11, 474)) (nL := 1) (k := 0) (n := 1) (hs := []) (args := [.inl (some 0)]) (rest := []) (l0 := [some (.inl (some 0))]) (by decide +kernel) (Or.inr (Or.inl ⟨_, rfl⟩)) rfl rfl rfl rfl (Nat.le_of_ble_eq_true rfl) (zO hg3360 (tv0 hg3360) aw0 rfl) rfl (qV_le (by decide) (c_forgJ (d := 0) hg3360)) (fun h3361 hR3361 => ?_)
  obtain ⟨hg3361, F3361, jx3361, jh3361, je3361⟩ := hR3361
  refine y_same (i := .aload_n 0) (len := 1) (r := (0, 0, 0, 0)) (pc' := 23) (ls' := [some (.inl (some 0))]) (st' := [.inl (some 0)]) (by decide +kernel) (fun k q => by cases q) rfl ?_
  have hv3362 := (F3360 0 5 (by omega)).trans hv3359
  have hv3363 := (F3361 0 5 (by omega)).trans hv3362
  refine y_get (j := 29) (len := 3) (r := (11, 5, 2, 404)) (by decide +kernel) hg3361 (tv0 hg3361) aw0 rfl rfl hv3363 ?_
  refine y_cI (i := .invokevirtual 94) (len := 3) (r := (0, 111, 9, 478)) (nL := 1) (k := 1) (n := 1) (hs := []) (args := [.inl (some 2)]) (rest := []) (l0 := [some (.inl (some 2))]) (by decide +kernel) (Or.inr (Or.inl ⟨_, rfl⟩)) rfl rfl rfl rfl (Nat.le_of_ble_eq_true rfl) (zO hg3361 (tv2 hg3361) aw1000 rfl) rfl (qI_le (by decide) (c_cnt (d := 0) hg3361 (RC_up rc3360 (fun k j h1 => (F3361 k j (by omega)))))) (fun y3364 qy3364 hRy3364 => ?_)
  obtain ⟨rfl, ey3364⟩ := hRy3364
  refine y_rI (len := 1) (r := (0, 0, 0, 0)) (nL := 1) (k := 1) (n9 := 1) (hs := []) (by decide +kernel) rfl rfl ?_
  exact ⟨_, jh3361, by omega⟩
theorem j_undoC {t : Nat} {τ : List Nat} {h : zh} {cur : bsT} {hs : List bsT} (hg : hG τ h) (rc : RC h cur hs) (r5 : hsl h 0 5 = some (.inl (some 2))) : qI 60 138 [some (.inl (some 0))] h t (fun y h1 => (hs = [] ∧ h = h1) ∨ ci_ h1 42 5 0) := by
  refine qI_le (d := 21) (by decide) (qI_of ?_)
  refine y_same (i := .aload_n 0) (len := 1) (r := (0, 0, 0, 0)) (pc' := 1) (ls' := [some (.inl (some 0))]) (st' := [.inl (some 0)]) (by decide +kernel) (fun k q => by cases q) rfl ?_
  refine y_get (j := 36) (len := 3) (r := (11, 6, 2, 405)) (by decide +kernel) hg (tv0 hg) aw0 rfl rfl (g_rU (f := 6) (T2 := 13) hg (tv0 hg) aw0 rfl (by decide)) ?_
  refine y_same (i := .aload_n 0) (len := 1) (r := (0, 0, 0, 0)) (pc' := 5) (ls' := [some (.inl (some 0))]) (st' := [.inl (some 0), .inl (some 13)]) (by decide +kernel) (fun k q => by cases q) rfl ?_
  refine y_get (j := 29) (len := 3) (r := (11, 5, 2, 404)) (by decide +kernel) hg (tv0 hg) aw0 rfl rfl r5 ?_
  refine y_cI (i := .invokevirtual 132) (len := 3) (r := (0, 25, 2, 486)) (nL := 3) (k := 2) (n := 2) (hs := []) (args := [.inl (some 13), .inl (some 2)]) (rest := []) (l0 := [some (.inl (some 13)), some (.inl (some 2)), none]) (by decide +kernel) (Or.inr (Or.inl ⟨_, rfl⟩)) rfl rfl rfl rfl (Nat.le_of_ble_eq_true rfl) (zO hg (tv13 hg) aw13 rfl) rfl (qI_le (by decide) (e_back hg rc)) (fun y3365 h3365 hRy3365 => ?_)
  rcases hRy3365 with ⟨hn3365, hy3365, he3365⟩ | ⟨hs3365, bb3365, eh3365, hy3365, hg3365, rc3365, F3365⟩
  ·
    subst he3365
    refine y_iF (c := .ne) (off := 5) (len := 3) (r := (0, 0, 0, 0)) (by decide +kernel) (acmpF (c := .ne) (by show _ = _; omega)) ?_
    refine y_ic (c := (-1)) (len := 1) (r := (0, 0, 0, 0)) (by decide +kernel) (by decide) (fun y3366 hy3366 => ?_)
    refine y_rI (len := 1) (r := (0, 0, 0, 0)) (nL := 1) (k := 1) (n9 := 1) (hs := []) (by decide +kernel) rfl rfl ?_
    exact Or.inl ⟨by assumption, rfl⟩
  ·
    obtain ⟨-, -, -, -, -, -, -, -, ⟨xk3365, hk3365, ek3365⟩, -⟩ := id rc3365
    refine y_iT (c := .ne) (off := 5) (pc' := 16) (len := 3) (r := (0, 0, 0, 0)) (by decide +kernel) (acmpT (c := .ne) (by show ¬ (_ = _); omega)) (by decide +kernel) ?_
    refine y_same (i := .aload_n 0) (len := 1) (r := (0, 0, 0, 0)) (pc' := 17) (ls' := [some (.inl (some 0))]) (st' := [.inl (some 0)]) (by decide +kernel) (fun k q => by cases q) rfl ?_
    refine y_cV (i := .invokevirtual 91) (len := 3) (r := (0, 154, 11, 474)) (nL := 1) (k := 0) (n := 1) (hs := []) (args := [.inl (some 0)]) (rest := []) (l0 := [some (.inl (some 0))]) (by decide +kernel) (Or.inr (Or.inl ⟨_, rfl⟩)) rfl rfl rfl rfl (Nat.le_of_ble_eq_true rfl) (zO hg3365 (tv0 hg3365) aw0 rfl) rfl (qV_le (by decide) (c_forgJ (d := 0) hg3365)) (fun h3367 hR3367 => ?_)
    obtain ⟨hg3367, F3367, jx3367, jh3367, je3367⟩ := hR3367
    refine y_same (i := .aload_n 0) (len := 1) (r := (0, 0, 0, 0)) (pc' := 21) (ls' := [some (.inl (some 0))]) (st' := [.inl (some 0)]) (by decide +kernel) (fun k q => by cases q) rfl ?_
    refine y_get (j := 36) (len := 3) (r := (11, 6, 2, 405)) (by decide +kernel) hg3367 (tv0 hg3367) aw0 rfl rfl (g_rU (f := 6) (T2 := 13) hg3367 (tv0 hg3367) aw0 rfl (by decide)) ?_
    have hv3368 := (F3367 13 2 (by omega)).trans hk3365
    refine y_get (j := 136) (len := 3) (r := (2, 2, 0, 20223)) (by decide +kernel) hg3367 (tv13 hg3367) aw13 rfl rfl hv3368 ?_
    refine y_rI (len := 1) (r := (0, 0, 0, 0)) (nL := 1) (k := 1) (n9 := 1) (hs := []) (by decide +kernel) rfl rfl ?_
    exact Or.inr ⟨_, jh3367, by omega⟩
theorem j_drop0 {t k : Nat} {τ : List Nat} {h : zh} {cur : bsT} {hs : List bsT} {x xk : Int32} (hg : hG τ h) (rc : RC h cur hs) (r5 : hsl h 0 5 = some (.inl (some 2))) (hx : x.toInt = 0) (exk : xk.toInt = (k : Int)) (hk : k < cur.1.1.length) : qI 21 136 [some (.inl (some 0)), some (zi x), some (zi xk), none] h t (fun y h1 => (∃ τ1, hG τ1 h1) ∧ ci_ h1 42 5 0) := by
  refine qI_of ?_
  obtain ⟨-, ⟨uz, vz, huz, l2z, b2z⟩, -⟩ := id rc
  have uuz : (uz = 1 ∧ vz = 6) ∨ (uz = 6 ∧ vz = 1) := huz
  have tyz := ty_u (tyB_of hg huz (tv2 hg) b2z.1 b2z.2.1 l2z) huz
  have laz := lay_u l2z huz
  obtain ⟨⟨⟨xp0z, hp0z, ep0z⟩, ip0z⟩, ⟨xc0z, hc0z, ec0z⟩, ic0z⟩ := b2z.2.2.1
  obtain ⟨⟨⟨xp1z, hp1z, ep1z⟩, ip1z⟩, ⟨xc1z, hc1z, ec1z⟩, ic1z⟩ := b2z.2.2.2
  refine y_same (i := .aload_n 0) (len := 1) (r := (0, 0, 0, 0)) (pc' := 1) (ls' := [some (.inl (some 0)), some (zi x), some (zi xk), none]) (st' := [.inl (some 0)]) (by decide +kernel) (fun k q => by cases q) rfl ?_
  refine y_same (i := .iload_n 1) (len := 1) (r := (0, 0, 0, 0)) (pc' := 2) (ls' := [some (.inl (some 0)), some (zi x), some (zi xk), none]) (st' := [zi x, .inl (some 0)]) (by decide +kernel) (fun k q => by cases q) rfl ?_
  refine y_cI (i := .invokestatic 101) (len := 3) (r := (1, 156, 11, 1068)) (nL := 1) (k := 2) (n := 1) (hs := []) (args := [zi x]) (rest := [.inl (some 0)]) (l0 := [some (zi x)]) (by decide +kernel) (Or.inl ⟨_, rfl⟩) rfl rfl rfl rfl (Nat.le_of_ble_eq_true rfl) rfl rfl (qI_le (by decide) (c_isSide (d := 0))) (fun y3369 qy3369 hRy3369 => ?_)
  obtain ⟨rfl, hDy3369⟩ := hRy3369
  have ey3369 : y3369.toInt = 1 := by omega
  refine y_iF (c := .eq) (off := 25) (len := 3) (r := (0, 0, 0, 0)) (by decide +kernel) (acmpF (c := .eq) (by show ¬ (_ = _); omega)) ?_
  refine y_same (i := .aload_n 0) (len := 1) (r := (0, 0, 0, 0)) (pc' := 9) (ls' := [some (.inl (some 0)), some (zi x), some (zi xk), none]) (st' := [.inl (some 0), .inl (some 0)]) (by decide +kernel) (fun k q => by cases q) rfl ?_
  refine y_get (j := 29) (len := 3) (r := (11, 5, 2, 404)) (by decide +kernel) hg (tv0 hg) aw0 rfl rfl r5 ?_
  refine y_same (i := .iload_n 1) (len := 1) (r := (0, 0, 0, 0)) (pc' := 13) (ls' := [some (.inl (some 0)), some (zi x), some (zi xk), none]) (st' := [zi x, .inl (some 2), .inl (some 0)]) (by decide +kernel) (fun k q => by cases q) rfl ?_
  refine y_cA (i := .invokevirtual 105) (len := 3) (r := (0, 108, 9, 1071)) (nL := 2) (k := 3) (n := 2) (hs := []) (args := [.inl (some 2), zi x]) (rest := [.inl (some 0)]) (l0 := [some (.inl (some 2)), some (zi x)]) (by decide +kernel) (Or.inr (Or.inl ⟨_, rfl⟩)) rfl rfl rfl rfl (Nat.le_of_ble_eq_true rfl) (zO hg (tv2 hg) aw1000 rfl) rfl (qA_le (by decide) (c_side0 (d := 0) (u := uz) (v := vz) hg (by omega) b2z.1 b2z.2.1)) (fun q3370 hR3370 => ?_)
  obtain rfl := hR3370
  refine y_get (j := 109) (len := 3) (r := (8, 0, 2, 20182)) (by decide +kernel) hg tyz.1.1 aw1001 rfl rfl laz.1.1 ?_
  refine y_same (i := .iload_n 2) (len := 1) (r := (0, 0, 0, 0)) (pc' := 20) (ls' := [some (.inl (some 0)), some (zi x), some (zi xk), none]) (st' := [zi xk, .inl (some ((2 + uz + 1))), .inl (some 0)]) (by decide +kernel) (fun k q => by cases q) rfl ?_
  refine y_cI (i := .invokevirtual 115) (len := 3) (r := (0, 63, 6, 1075)) (nL := 2) (k := 2) (n := 2) (hs := []) (args := [.inl (some ((2 + uz + 1))), zi xk]) (rest := [.inl (some 0)]) (l0 := [some (.inl (some ((2 + uz + 1)))), some (zi xk)]) (by decide +kernel) (Or.inr (Or.inl ⟨_, rfl⟩)) rfl rfl rfl rfl (Nat.le_of_ble_eq_true rfl) (zO hg tyz.1.2.1 aw1002 rfl) rfl (qI_le (by decide) (c_has5 (d := 0) hg tyz.1.2.1 hp0z)) (fun y3371 qy3371 hRy3371 => ?_)
  obtain ⟨rfl, hDy3371⟩ := hRy3371
  have ey3371 : y3371.toInt = 1 := by omega
  refine y_iF (c := .eq) (off := 7) (len := 3) (r := (0, 0, 0, 0)) (by decide +kernel) (acmpF (c := .eq) (by show ¬ (_ = _); omega)) ?_
  refine y_ic (c := 1) (len := 1) (r := (0, 0, 0, 0)) (by decide +kernel) (by decide) (fun y3372 hy3372 => ?_)
  refine y_goto (off := 4) (pc' := 31) (len := 3) (r := (0, 0, 0, 0)) (by decide +kernel) (by decide +kernel) ?_
  refine y_cV (i := .invokevirtual 120) (len := 3) (r := (0, 152, 11, 1079)) (nL := 2) (k := 0) (n := 2) (hs := []) (args := [.inl (some 0), zi y3372]) (rest := []) (l0 := [some (.inl (some 0)), some (zi y3372)]) (by decide +kernel) (Or.inr (Or.inl ⟨_, rfl⟩)) rfl rfl rfl rfl (Nat.le_of_ble_eq_true rfl) (zO hg (tv0 hg) aw0 rfl) rfl (qV_le (by decide) (c_there (d := 0) (by omega))) (fun q3373 hR3373 => ?_)
  obtain rfl := hR3373
  refine y_same (i := .aload_n 0) (len := 1) (r := (0, 0, 0, 0)) (pc' := 35) (ls' := [some (.inl (some 0)), some (zi x), some (zi xk), none]) (st' := [.inl (some 0)]) (by decide +kernel) (fun k q => by cases q) rfl ?_
  refine y_get (j := 36) (len := 3) (r := (11, 6, 2, 405)) (by decide +kernel) hg (tv0 hg) aw0 rfl rfl (g_rU (f := 6) (T2 := 13) hg (tv0 hg) aw0 rfl (by decide)) ?_
  refine y_same (i := .aload_n 0) (len := 1) (r := (0, 0, 0, 0)) (pc' := 39) (ls' := [some (.inl (some 0)), some (zi x), some (zi xk), none]) (st' := [.inl (some 0), .inl (some 13)]) (by decide +kernel) (fun k q => by cases q) rfl ?_
  refine y_get (j := 29) (len := 3) (r := (11, 5, 2, 404)) (by decide +kernel) hg (tv0 hg) aw0 rfl rfl r5 ?_
  refine y_cV (i := .invokevirtual 83) (len := 3) (r := (0, 24, 2, 449)) (nL := 2) (k := 0) (n := 2) (hs := []) (args := [.inl (some 13), .inl (some 2)]) (rest := []) (l0 := [some (.inl (some 13)), some (.inl (some 2))]) (by decide +kernel) (Or.inr (Or.inl ⟨_, rfl⟩)) rfl rfl rfl rfl (Nat.le_of_ble_eq_true rfl) (zO hg (tv13 hg) aw13 rfl) rfl (qV_le (by decide) (e_keep hg rc)) (fun h3374 hR3374 => ?_)
  obtain ⟨τ3374, au3374, hg3374, rc3374, F3374⟩ := hR3374
  obtain ⟨-, ⟨u3374, v3374, hu3374, l23374, b23374⟩, -⟩ := id rc3374
  have uu3374 : (u3374 = 1 ∧ v3374 = 6) ∨ (u3374 = 6 ∧ v3374 = 1) := hu3374
  have ty3374 := ty_u (tyB_of hg3374 hu3374 (tv2 hg3374) b23374.1 b23374.2.1 l23374) hu3374
  have la3374 := lay_u l23374 hu3374
  obtain ⟨⟨⟨xp03374, hp03374, ep03374⟩, ip03374⟩, ⟨xc03374, hc03374, ec03374⟩, ic03374⟩ := b23374.2.2.1
  obtain ⟨⟨⟨xp13374, hp13374, ep13374⟩, ip13374⟩, ⟨xc13374, hc13374, ec13374⟩, ic13374⟩ := b23374.2.2.2
  refine y_same (i := .aload_n 0) (len := 1) (r := (0, 0, 0, 0)) (pc' := 46) (ls' := [some (.inl (some 0)), some (zi x), some (zi xk), none]) (st' := [.inl (some 0)]) (by decide +kernel) (fun k q => by cases q) rfl ?_
  have hv3375 := (F3374 0 5 (by omega)).trans r5
  refine y_get (j := 29) (len := 3) (r := (11, 5, 2, 404)) (by decide +kernel) hg3374 (tv0 hg3374) aw0 rfl rfl hv3375 ?_
  refine y_same (i := .iload_n 1) (len := 1) (r := (0, 0, 0, 0)) (pc' := 50) (ls' := [some (.inl (some 0)), some (zi x), some (zi xk), none]) (st' := [zi x, .inl (some 2)]) (by decide +kernel) (fun k q => by cases q) rfl ?_
  refine y_cA (i := .invokevirtual 105) (len := 3) (r := (0, 108, 9, 1071)) (nL := 2) (k := 3) (n := 2) (hs := []) (args := [.inl (some 2), zi x]) (rest := []) (l0 := [some (.inl (some 2)), some (zi x)]) (by decide +kernel) (Or.inr (Or.inl ⟨_, rfl⟩)) rfl rfl rfl rfl (Nat.le_of_ble_eq_true rfl) (zO hg3374 (tv2 hg3374) aw1000 rfl) rfl (qA_le (by decide) (c_side0 (d := 0) (u := u3374) (v := v3374) hg3374 (by omega) b23374.1 b23374.2.1)) (fun q3376 hR3376 => ?_)
  obtain rfl := hR3376
  refine y_get (j := 109) (len := 3) (r := (8, 0, 2, 20182)) (by decide +kernel) hg3374 ty3374.1.1 aw1001 rfl rfl la3374.1.1 ?_
  refine y_same (i := .astore_n 3) (len := 1) (r := (0, 0, 0, 0)) (pc' := 57) (ls' := [some (.inl (some 0)), some (zi x), some (zi xk), some (.inl (some ((2 + u3374 + 1))))]) (st' := []) (by decide +kernel) (fun k q => by cases q) rfl ?_
  refine y_same (i := .aload_n 3) (len := 1) (r := (0, 0, 0, 0)) (pc' := 58) (ls' := [some (.inl (some 0)), some (zi x), some (zi xk), some (.inl (some ((2 + u3374 + 1))))]) (st' := [.inl (some ((2 + u3374 + 1)))]) (by decide +kernel) (fun k q => by cases q) rfl ?_
  refine y_same (i := .iload_n 2) (len := 1) (r := (0, 0, 0, 0)) (pc' := 59) (ls' := [some (.inl (some 0)), some (zi x), some (zi xk), some (.inl (some ((2 + u3374 + 1))))]) (st' := [zi xk, .inl (some ((2 + u3374 + 1)))]) (by decide +kernel) (fun k q => by cases q) rfl ?_
  refine y_cV (i := .invokevirtual 123) (len := 3) (r := (0, 70, 6, 1099)) (nL := 3) (k := 0) (n := 2) (hs := []) (args := [.inl (some ((2 + u3374 + 1))), zi xk]) (rest := []) (l0 := [some (.inl (some ((2 + u3374 + 1)))), some (zi xk), none]) (by decide +kernel) (Or.inr (Or.inl ⟨_, rfl⟩)) rfl rfl rfl rfl (Nat.le_of_ble_eq_true rfl) (zO hg3374 ty3374.1.2.1 aw1002 rfl) rfl (qV_le (by decide) (e_rm5 (d := 0) (RA := (2 + u3374 + 1)) (IA := (2 + u3374 + 2)) hg3374 ty3374.1.2.1 ty3374.1.2.2.1 (by omega) la3374.1.2.2.1 b23374.2.2.1.1 exk (by omega))) (fun h3377 hR3377 => ?_)
  obtain ⟨hg3377, r3377, F3377⟩ := hR3377
  have rc3377 : RC h3377 ((cur.1.1.eraseIdx k, cur.1.2), (cur.2.1, cur.2.2)) (psh hs cur) := RC_set rc3374 ⟨u3374, v3374, hu3374, ⟨laS_up l23374.1 (fun k j h1 => F3377 k j (by omega)), laS_up l23374.2 (fun k j h1 => F3377 k j (by omega))⟩, rfs_up b23374.1 (F3377 _ _ (by omega)), rfs_up b23374.2.1 (F3377 _ _ (by omega)), ⟨r3377, rwC_up b23374.2.2.1.2 (F3377 _ _ (by omega)) (fun j => F3377 _ _ (by omega))⟩, sdC_up b23374.2.2.2 (fun k j h1 h2 => F3377 k j (by omega))⟩ (fun k j h1 => F3377 k j (by omega))
  obtain ⟨xz, hz, ez⟩ := r3377.1
  rw [List.length_eraseIdx_of_lt (by omega)] at ez
  refine y_same (i := .aload_n 0) (len := 1) (r := (0, 0, 0, 0)) (pc' := 63) (ls' := [some (.inl (some 0)), some (zi x), some (zi xk), some (.inl (some ((2 + u3374 + 1))))]) (st' := [.inl (some 0)]) (by decide +kernel) (fun k q => by cases q) rfl ?_
  refine y_cV (i := .invokevirtual 91) (len := 3) (r := (0, 154, 11, 474)) (nL := 1) (k := 0) (n := 1) (hs := []) (args := [.inl (some 0)]) (rest := []) (l0 := [some (.inl (some 0))]) (by decide +kernel) (Or.inr (Or.inl ⟨_, rfl⟩)) rfl rfl rfl rfl (Nat.le_of_ble_eq_true rfl) (zO hg3377 (tv0 hg3377) aw0 rfl) rfl (qV_le (by decide) (c_forgJ (d := 0) hg3377)) (fun h3378 hR3378 => ?_)
  obtain ⟨hg3378, F3378, jx3378, jh3378, je3378⟩ := hR3378
  refine y_same (i := .aload_n 3) (len := 1) (r := (0, 0, 0, 0)) (pc' := 67) (ls' := [some (.inl (some 0)), some (zi x), some (zi xk), some (.inl (some ((2 + u3374 + 1))))]) (st' := [.inl (some ((2 + u3374 + 1)))]) (by decide +kernel) (fun k q => by cases q) rfl ?_
  have hv3379 := (F3378 (2 + u3374 + 1) 1 (by omega)).trans hz
  refine y_get (j := 126) (len := 3) (r := (6, 1, 0, 20168)) (by decide +kernel) hg3378 ty3374.1.2.1 aw1002 rfl rfl hv3379 ?_
  refine y_rI (len := 1) (r := (0, 0, 0, 0)) (nL := 4) (k := 1) (n9 := 3) (hs := []) (by decide +kernel) rfl rfl ?_
  exact ⟨⟨_, hg3378⟩, _, jh3378, by omega⟩
theorem j_ldrop0 {t k : Nat} {τ : List Nat} {h : zh} {cur : bsT} {hs : List bsT} {x xk : Int32} (hg : hG τ h) (rc : RC h cur hs) (r5 : hsl h 0 5 = some (.inl (some 2))) (hx : x.toInt = 0) (exk : xk.toInt = (k : Int)) (hk : k < cur.1.1.length) : qI 60 277 [some (.inl (some 0)), some (zi x), some (zi xk), some (.inl (some 388)), none] h t (fun y h1 => ci_ h1 42 5 0) := by
  refine qI_le (d := 32) (by decide) (qI_of ?_)
  refine y_same (i := .aload_n 3) (len := 1) (r := (0, 0, 0, 0)) (pc' := 1) (ls' := [some (.inl (some 0)), some (zi x), some (zi xk), some (.inl (some 388)), none]) (st' := [.inl (some 388)]) (by decide +kernel) (fun k q => by cases q) rfl ?_
  refine y_ic (c := 0) (len := 1) (r := (0, 0, 0, 0)) (by decide +kernel) (by decide) (fun y3380 hy3380 => ?_)
  refine y_same (i := .aload_n 0) (len := 1) (r := (0, 0, 0, 0)) (pc' := 3) (ls' := [some (.inl (some 0)), some (zi x), some (zi xk), some (.inl (some 388)), none]) (st' := [.inl (some 0), zi y3380, .inl (some 388)]) (by decide +kernel) (fun k q => by cases q) rfl ?_
  refine y_same (i := .iload_n 1) (len := 1) (r := (0, 0, 0, 0)) (pc' := 4) (ls' := [some (.inl (some 0)), some (zi x), some (zi xk), some (.inl (some 388)), none]) (st' := [zi x, .inl (some 0), zi y3380, .inl (some 388)]) (by decide +kernel) (fun k q => by cases q) rfl ?_
  refine y_same (i := .iload_n 2) (len := 1) (r := (0, 0, 0, 0)) (pc' := 5) (ls' := [some (.inl (some 0)), some (zi x), some (zi xk), some (.inl (some 388)), none]) (st' := [zi xk, zi x, .inl (some 0), zi y3380, .inl (some 388)]) (by decide +kernel) (fun k q => by cases q) rfl ?_
  refine y_cI (i := .invokevirtual 15) (len := 3) (r := (0, 136, 11, 1064)) (nL := 4) (k := 1) (n := 3) (hs := []) (args := [.inl (some 0), zi x, zi xk]) (rest := [zi y3380, .inl (some 388)]) (l0 := [some (.inl (some 0)), some (zi x), some (zi xk), none]) (by decide +kernel) (Or.inr (Or.inl ⟨_, rfl⟩)) rfl rfl rfl rfl (Nat.le_of_ble_eq_true rfl) (zO hg (tv0 hg) aw0 rfl) rfl (qI_le (by decide) (j_drop0 hg rc r5 hx exk hk)) (fun y3381 h3381 hRy3381 => ?_)
  obtain ⟨⟨τ3381, hg3381⟩, jx, jh, je⟩ := hRy3381
  refine y_i2l2 (len := 1) (r := (0, 0, 0, 0)) (by decide +kernel) ?_
  refine y_las2 (i := 0) (len := 1) (r := (0, 0, 0, 0)) (by decide +kernel) hg3381 (t388 hg3381) aw388 rfl (by omega) (by omega) rfl (fun h3382 hg3382 hw3382 ho3382 => ?_)
  refine y_goto (off := 7) (pc' := 17) (len := 3) (r := (0, 0, 0, 0)) (by decide +kernel) (by decide +kernel) ?_
  refine y_ic (c := 0) (len := 1) (r := (0, 0, 0, 0)) (by decide +kernel) (by decide) (fun y3383 hy3383 => ?_)
  refine y_rI (len := 1) (r := (0, 0, 0, 0)) (nL := 5) (k := 1) (n9 := 4) (hs := [(0, 10, 13, 0)]) (by decide +kernel) rfl rfl ?_
  have hv3384 := (ho3382 42 5 (Or.inl (by omega))).trans jh
  exact ⟨_, hv3384, by omega⟩
theorem j_drop1 {t k : Nat} {τ : List Nat} {h : zh} {cur : bsT} {hs : List bsT} {x xk : Int32} (hg : hG τ h) (rc : RC h cur hs) (r5 : hsl h 0 5 = some (.inl (some 2))) (hx : x.toInt = 1) (exk : xk.toInt = (k : Int)) (hk : k < cur.2.1.length) : qI 21 136 [some (.inl (some 0)), some (zi x), some (zi xk), none] h t (fun y h1 => (∃ τ1, hG τ1 h1) ∧ ci_ h1 42 5 0) := by
  refine qI_of ?_
  obtain ⟨-, ⟨uz, vz, huz, l2z, b2z⟩, -⟩ := id rc
  have uuz : (uz = 1 ∧ vz = 6) ∨ (uz = 6 ∧ vz = 1) := huz
  have tyz := ty_u (tyB_of hg huz (tv2 hg) b2z.1 b2z.2.1 l2z) huz
  have laz := lay_u l2z huz
  obtain ⟨⟨⟨xp0z, hp0z, ep0z⟩, ip0z⟩, ⟨xc0z, hc0z, ec0z⟩, ic0z⟩ := b2z.2.2.1
  obtain ⟨⟨⟨xp1z, hp1z, ep1z⟩, ip1z⟩, ⟨xc1z, hc1z, ec1z⟩, ic1z⟩ := b2z.2.2.2
  refine y_same (i := .aload_n 0) (len := 1) (r := (0, 0, 0, 0)) (pc' := 1) (ls' := [some (.inl (some 0)), some (zi x), some (zi xk), none]) (st' := [.inl (some 0)]) (by decide +kernel) (fun k q => by cases q) rfl ?_
  refine y_same (i := .iload_n 1) (len := 1) (r := (0, 0, 0, 0)) (pc' := 2) (ls' := [some (.inl (some 0)), some (zi x), some (zi xk), none]) (st' := [zi x, .inl (some 0)]) (by decide +kernel) (fun k q => by cases q) rfl ?_
  refine y_cI (i := .invokestatic 101) (len := 3) (r := (1, 156, 11, 1068)) (nL := 1) (k := 2) (n := 1) (hs := []) (args := [zi x]) (rest := [.inl (some 0)]) (l0 := [some (zi x)]) (by decide +kernel) (Or.inl ⟨_, rfl⟩) rfl rfl rfl rfl (Nat.le_of_ble_eq_true rfl) rfl rfl (qI_le (by decide) (c_isSide (d := 0))) (fun y3385 qy3385 hRy3385 => ?_)
  obtain ⟨rfl, hDy3385⟩ := hRy3385
  have ey3385 : y3385.toInt = 1 := by omega
  refine y_iF (c := .eq) (off := 25) (len := 3) (r := (0, 0, 0, 0)) (by decide +kernel) (acmpF (c := .eq) (by show ¬ (_ = _); omega)) ?_
  refine y_same (i := .aload_n 0) (len := 1) (r := (0, 0, 0, 0)) (pc' := 9) (ls' := [some (.inl (some 0)), some (zi x), some (zi xk), none]) (st' := [.inl (some 0), .inl (some 0)]) (by decide +kernel) (fun k q => by cases q) rfl ?_
  refine y_get (j := 29) (len := 3) (r := (11, 5, 2, 404)) (by decide +kernel) hg (tv0 hg) aw0 rfl rfl r5 ?_
  refine y_same (i := .iload_n 1) (len := 1) (r := (0, 0, 0, 0)) (pc' := 13) (ls' := [some (.inl (some 0)), some (zi x), some (zi xk), none]) (st' := [zi x, .inl (some 2), .inl (some 0)]) (by decide +kernel) (fun k q => by cases q) rfl ?_
  refine y_cA (i := .invokevirtual 105) (len := 3) (r := (0, 108, 9, 1071)) (nL := 2) (k := 3) (n := 2) (hs := []) (args := [.inl (some 2), zi x]) (rest := [.inl (some 0)]) (l0 := [some (.inl (some 2)), some (zi x)]) (by decide +kernel) (Or.inr (Or.inl ⟨_, rfl⟩)) rfl rfl rfl rfl (Nat.le_of_ble_eq_true rfl) (zO hg (tv2 hg) aw1000 rfl) rfl (qA_le (by decide) (c_side1 (d := 0) (u := uz) (v := vz) hg (by omega) b2z.1 b2z.2.1)) (fun q3386 hR3386 => ?_)
  obtain rfl := hR3386
  refine y_get (j := 109) (len := 3) (r := (8, 0, 2, 20182)) (by decide +kernel) hg tyz.2.1 aw1001 rfl rfl laz.2.1 ?_
  refine y_same (i := .iload_n 2) (len := 1) (r := (0, 0, 0, 0)) (pc' := 20) (ls' := [some (.inl (some 0)), some (zi x), some (zi xk), none]) (st' := [zi xk, .inl (some ((2 + vz + 1))), .inl (some 0)]) (by decide +kernel) (fun k q => by cases q) rfl ?_
  refine y_cI (i := .invokevirtual 115) (len := 3) (r := (0, 63, 6, 1075)) (nL := 2) (k := 2) (n := 2) (hs := []) (args := [.inl (some ((2 + vz + 1))), zi xk]) (rest := [.inl (some 0)]) (l0 := [some (.inl (some ((2 + vz + 1)))), some (zi xk)]) (by decide +kernel) (Or.inr (Or.inl ⟨_, rfl⟩)) rfl rfl rfl rfl (Nat.le_of_ble_eq_true rfl) (zO hg tyz.2.2.1 aw1002 rfl) rfl (qI_le (by decide) (c_has5 (d := 0) hg tyz.2.2.1 hp1z)) (fun y3387 qy3387 hRy3387 => ?_)
  obtain ⟨rfl, hDy3387⟩ := hRy3387
  have ey3387 : y3387.toInt = 1 := by omega
  refine y_iF (c := .eq) (off := 7) (len := 3) (r := (0, 0, 0, 0)) (by decide +kernel) (acmpF (c := .eq) (by show ¬ (_ = _); omega)) ?_
  refine y_ic (c := 1) (len := 1) (r := (0, 0, 0, 0)) (by decide +kernel) (by decide) (fun y3388 hy3388 => ?_)
  refine y_goto (off := 4) (pc' := 31) (len := 3) (r := (0, 0, 0, 0)) (by decide +kernel) (by decide +kernel) ?_
  refine y_cV (i := .invokevirtual 120) (len := 3) (r := (0, 152, 11, 1079)) (nL := 2) (k := 0) (n := 2) (hs := []) (args := [.inl (some 0), zi y3388]) (rest := []) (l0 := [some (.inl (some 0)), some (zi y3388)]) (by decide +kernel) (Or.inr (Or.inl ⟨_, rfl⟩)) rfl rfl rfl rfl (Nat.le_of_ble_eq_true rfl) (zO hg (tv0 hg) aw0 rfl) rfl (qV_le (by decide) (c_there (d := 0) (by omega))) (fun q3389 hR3389 => ?_)
  obtain rfl := hR3389
  refine y_same (i := .aload_n 0) (len := 1) (r := (0, 0, 0, 0)) (pc' := 35) (ls' := [some (.inl (some 0)), some (zi x), some (zi xk), none]) (st' := [.inl (some 0)]) (by decide +kernel) (fun k q => by cases q) rfl ?_
  refine y_get (j := 36) (len := 3) (r := (11, 6, 2, 405)) (by decide +kernel) hg (tv0 hg) aw0 rfl rfl (g_rU (f := 6) (T2 := 13) hg (tv0 hg) aw0 rfl (by decide)) ?_
  refine y_same (i := .aload_n 0) (len := 1) (r := (0, 0, 0, 0)) (pc' := 39) (ls' := [some (.inl (some 0)), some (zi x), some (zi xk), none]) (st' := [.inl (some 0), .inl (some 13)]) (by decide +kernel) (fun k q => by cases q) rfl ?_
  refine y_get (j := 29) (len := 3) (r := (11, 5, 2, 404)) (by decide +kernel) hg (tv0 hg) aw0 rfl rfl r5 ?_
  refine y_cV (i := .invokevirtual 83) (len := 3) (r := (0, 24, 2, 449)) (nL := 2) (k := 0) (n := 2) (hs := []) (args := [.inl (some 13), .inl (some 2)]) (rest := []) (l0 := [some (.inl (some 13)), some (.inl (some 2))]) (by decide +kernel) (Or.inr (Or.inl ⟨_, rfl⟩)) rfl rfl rfl rfl (Nat.le_of_ble_eq_true rfl) (zO hg (tv13 hg) aw13 rfl) rfl (qV_le (by decide) (e_keep hg rc)) (fun h3390 hR3390 => ?_)
  obtain ⟨τ3390, au3390, hg3390, rc3390, F3390⟩ := hR3390
  obtain ⟨-, ⟨u3390, v3390, hu3390, l23390, b23390⟩, -⟩ := id rc3390
  have uu3390 : (u3390 = 1 ∧ v3390 = 6) ∨ (u3390 = 6 ∧ v3390 = 1) := hu3390
  have ty3390 := ty_u (tyB_of hg3390 hu3390 (tv2 hg3390) b23390.1 b23390.2.1 l23390) hu3390
  have la3390 := lay_u l23390 hu3390
  obtain ⟨⟨⟨xp03390, hp03390, ep03390⟩, ip03390⟩, ⟨xc03390, hc03390, ec03390⟩, ic03390⟩ := b23390.2.2.1
  obtain ⟨⟨⟨xp13390, hp13390, ep13390⟩, ip13390⟩, ⟨xc13390, hc13390, ec13390⟩, ic13390⟩ := b23390.2.2.2
  refine y_same (i := .aload_n 0) (len := 1) (r := (0, 0, 0, 0)) (pc' := 46) (ls' := [some (.inl (some 0)), some (zi x), some (zi xk), none]) (st' := [.inl (some 0)]) (by decide +kernel) (fun k q => by cases q) rfl ?_
  have hv3391 := (F3390 0 5 (by omega)).trans r5
  refine y_get (j := 29) (len := 3) (r := (11, 5, 2, 404)) (by decide +kernel) hg3390 (tv0 hg3390) aw0 rfl rfl hv3391 ?_
  refine y_same (i := .iload_n 1) (len := 1) (r := (0, 0, 0, 0)) (pc' := 50) (ls' := [some (.inl (some 0)), some (zi x), some (zi xk), none]) (st' := [zi x, .inl (some 2)]) (by decide +kernel) (fun k q => by cases q) rfl ?_
  refine y_cA (i := .invokevirtual 105) (len := 3) (r := (0, 108, 9, 1071)) (nL := 2) (k := 3) (n := 2) (hs := []) (args := [.inl (some 2), zi x]) (rest := []) (l0 := [some (.inl (some 2)), some (zi x)]) (by decide +kernel) (Or.inr (Or.inl ⟨_, rfl⟩)) rfl rfl rfl rfl (Nat.le_of_ble_eq_true rfl) (zO hg3390 (tv2 hg3390) aw1000 rfl) rfl (qA_le (by decide) (c_side1 (d := 0) (u := u3390) (v := v3390) hg3390 (by omega) b23390.1 b23390.2.1)) (fun q3392 hR3392 => ?_)
  obtain rfl := hR3392
  refine y_get (j := 109) (len := 3) (r := (8, 0, 2, 20182)) (by decide +kernel) hg3390 ty3390.2.1 aw1001 rfl rfl la3390.2.1 ?_
  refine y_same (i := .astore_n 3) (len := 1) (r := (0, 0, 0, 0)) (pc' := 57) (ls' := [some (.inl (some 0)), some (zi x), some (zi xk), some (.inl (some ((2 + v3390 + 1))))]) (st' := []) (by decide +kernel) (fun k q => by cases q) rfl ?_
  refine y_same (i := .aload_n 3) (len := 1) (r := (0, 0, 0, 0)) (pc' := 58) (ls' := [some (.inl (some 0)), some (zi x), some (zi xk), some (.inl (some ((2 + v3390 + 1))))]) (st' := [.inl (some ((2 + v3390 + 1)))]) (by decide +kernel) (fun k q => by cases q) rfl ?_
  refine y_same (i := .iload_n 2) (len := 1) (r := (0, 0, 0, 0)) (pc' := 59) (ls' := [some (.inl (some 0)), some (zi x), some (zi xk), some (.inl (some ((2 + v3390 + 1))))]) (st' := [zi xk, .inl (some ((2 + v3390 + 1)))]) (by decide +kernel) (fun k q => by cases q) rfl ?_
  refine y_cV (i := .invokevirtual 123) (len := 3) (r := (0, 70, 6, 1099)) (nL := 3) (k := 0) (n := 2) (hs := []) (args := [.inl (some ((2 + v3390 + 1))), zi xk]) (rest := []) (l0 := [some (.inl (some ((2 + v3390 + 1)))), some (zi xk), none]) (by decide +kernel) (Or.inr (Or.inl ⟨_, rfl⟩)) rfl rfl rfl rfl (Nat.le_of_ble_eq_true rfl) (zO hg3390 ty3390.2.2.1 aw1002 rfl) rfl (qV_le (by decide) (e_rm5 (d := 0) (RA := (2 + v3390 + 1)) (IA := (2 + v3390 + 2)) hg3390 ty3390.2.2.1 ty3390.2.2.2.1 (by omega) la3390.2.2.2.1 b23390.2.2.2.1 exk (by omega))) (fun h3393 hR3393 => ?_)
  obtain ⟨hg3393, r3393, F3393⟩ := hR3393
  have rc3393 : RC h3393 ((cur.1.1, cur.1.2), (cur.2.1.eraseIdx k, cur.2.2)) (psh hs cur) := RC_set rc3390 ⟨u3390, v3390, hu3390, ⟨laS_up l23390.1 (fun k j h1 => F3393 k j (by omega)), laS_up l23390.2 (fun k j h1 => F3393 k j (by omega))⟩, rfs_up b23390.1 (F3393 _ _ (by omega)), rfs_up b23390.2.1 (F3393 _ _ (by omega)), sdC_up b23390.2.2.1 (fun k j h1 h2 => F3393 k j (by omega)), ⟨r3393, rwC_up b23390.2.2.2.2 (F3393 _ _ (by omega)) (fun j => F3393 _ _ (by omega))⟩⟩ (fun k j h1 => F3393 k j (by omega))
  obtain ⟨xz, hz, ez⟩ := r3393.1
  rw [List.length_eraseIdx_of_lt (by omega)] at ez
  refine y_same (i := .aload_n 0) (len := 1) (r := (0, 0, 0, 0)) (pc' := 63) (ls' := [some (.inl (some 0)), some (zi x), some (zi xk), some (.inl (some ((2 + v3390 + 1))))]) (st' := [.inl (some 0)]) (by decide +kernel) (fun k q => by cases q) rfl ?_
  refine y_cV (i := .invokevirtual 91) (len := 3) (r := (0, 154, 11, 474)) (nL := 1) (k := 0) (n := 1) (hs := []) (args := [.inl (some 0)]) (rest := []) (l0 := [some (.inl (some 0))]) (by decide +kernel) (Or.inr (Or.inl ⟨_, rfl⟩)) rfl rfl rfl rfl (Nat.le_of_ble_eq_true rfl) (zO hg3393 (tv0 hg3393) aw0 rfl) rfl (qV_le (by decide) (c_forgJ (d := 0) hg3393)) (fun h3394 hR3394 => ?_)
  obtain ⟨hg3394, F3394, jx3394, jh3394, je3394⟩ := hR3394
  refine y_same (i := .aload_n 3) (len := 1) (r := (0, 0, 0, 0)) (pc' := 67) (ls' := [some (.inl (some 0)), some (zi x), some (zi xk), some (.inl (some ((2 + v3390 + 1))))]) (st' := [.inl (some ((2 + v3390 + 1)))]) (by decide +kernel) (fun k q => by cases q) rfl ?_
  have hv3395 := (F3394 (2 + v3390 + 1) 1 (by omega)).trans hz
  refine y_get (j := 126) (len := 3) (r := (6, 1, 0, 20168)) (by decide +kernel) hg3394 ty3390.2.2.1 aw1002 rfl rfl hv3395 ?_
  refine y_rI (len := 1) (r := (0, 0, 0, 0)) (nL := 4) (k := 1) (n9 := 3) (hs := []) (by decide +kernel) rfl rfl ?_
  exact ⟨⟨_, hg3394⟩, _, jh3394, by omega⟩
theorem j_ldrop1 {t k : Nat} {τ : List Nat} {h : zh} {cur : bsT} {hs : List bsT} {x xk : Int32} (hg : hG τ h) (rc : RC h cur hs) (r5 : hsl h 0 5 = some (.inl (some 2))) (hx : x.toInt = 1) (exk : xk.toInt = (k : Int)) (hk : k < cur.2.1.length) : qI 60 277 [some (.inl (some 0)), some (zi x), some (zi xk), some (.inl (some 388)), none] h t (fun y h1 => ci_ h1 42 5 0) := by
  refine qI_le (d := 32) (by decide) (qI_of ?_)
  refine y_same (i := .aload_n 3) (len := 1) (r := (0, 0, 0, 0)) (pc' := 1) (ls' := [some (.inl (some 0)), some (zi x), some (zi xk), some (.inl (some 388)), none]) (st' := [.inl (some 388)]) (by decide +kernel) (fun k q => by cases q) rfl ?_
  refine y_ic (c := 0) (len := 1) (r := (0, 0, 0, 0)) (by decide +kernel) (by decide) (fun y3396 hy3396 => ?_)
  refine y_same (i := .aload_n 0) (len := 1) (r := (0, 0, 0, 0)) (pc' := 3) (ls' := [some (.inl (some 0)), some (zi x), some (zi xk), some (.inl (some 388)), none]) (st' := [.inl (some 0), zi y3396, .inl (some 388)]) (by decide +kernel) (fun k q => by cases q) rfl ?_
  refine y_same (i := .iload_n 1) (len := 1) (r := (0, 0, 0, 0)) (pc' := 4) (ls' := [some (.inl (some 0)), some (zi x), some (zi xk), some (.inl (some 388)), none]) (st' := [zi x, .inl (some 0), zi y3396, .inl (some 388)]) (by decide +kernel) (fun k q => by cases q) rfl ?_
  refine y_same (i := .iload_n 2) (len := 1) (r := (0, 0, 0, 0)) (pc' := 5) (ls' := [some (.inl (some 0)), some (zi x), some (zi xk), some (.inl (some 388)), none]) (st' := [zi xk, zi x, .inl (some 0), zi y3396, .inl (some 388)]) (by decide +kernel) (fun k q => by cases q) rfl ?_
  refine y_cI (i := .invokevirtual 15) (len := 3) (r := (0, 136, 11, 1064)) (nL := 4) (k := 1) (n := 3) (hs := []) (args := [.inl (some 0), zi x, zi xk]) (rest := [zi y3396, .inl (some 388)]) (l0 := [some (.inl (some 0)), some (zi x), some (zi xk), none]) (by decide +kernel) (Or.inr (Or.inl ⟨_, rfl⟩)) rfl rfl rfl rfl (Nat.le_of_ble_eq_true rfl) (zO hg (tv0 hg) aw0 rfl) rfl (qI_le (by decide) (j_drop1 hg rc r5 hx exk hk)) (fun y3397 h3397 hRy3397 => ?_)
  obtain ⟨⟨τ3397, hg3397⟩, jx, jh, je⟩ := hRy3397
  refine y_i2l2 (len := 1) (r := (0, 0, 0, 0)) (by decide +kernel) ?_
  refine y_las2 (i := 0) (len := 1) (r := (0, 0, 0, 0)) (by decide +kernel) hg3397 (t388 hg3397) aw388 rfl (by omega) (by omega) rfl (fun h3398 hg3398 hw3398 ho3398 => ?_)
  refine y_goto (off := 7) (pc' := 17) (len := 3) (r := (0, 0, 0, 0)) (by decide +kernel) (by decide +kernel) ?_
  refine y_ic (c := 0) (len := 1) (r := (0, 0, 0, 0)) (by decide +kernel) (by decide) (fun y3399 hy3399 => ?_)
  refine y_rI (len := 1) (r := (0, 0, 0, 0)) (nL := 5) (k := 1) (n9 := 4) (hs := [(0, 10, 13, 0)]) (by decide +kernel) rfl rfl ?_
  have hv3400 := (ho3398 42 5 (Or.inl (by omega))).trans jh
  exact ⟨_, hv3400, by omega⟩
theorem j_forget0 {t k : Nat} {τ : List Nat} {h : zh} {cur : bsT} {hs : List bsT} {x xk : Int32} (hg : hG τ h) (rc : RC h cur hs) (r5 : hsl h 0 5 = some (.inl (some 2))) (hx : x.toInt = 0) (exk : xk.toInt = (k : Int)) (hk : k < cur.1.2.length) : qI 21 137 [some (.inl (some 0)), some (zi x), some (zi xk), none] h t (fun y h1 => (∃ τ1, hG τ1 h1) ∧ ci_ h1 42 5 0) := by
  refine qI_of ?_
  obtain ⟨-, ⟨uz, vz, huz, l2z, b2z⟩, -⟩ := id rc
  have uuz : (uz = 1 ∧ vz = 6) ∨ (uz = 6 ∧ vz = 1) := huz
  have tyz := ty_u (tyB_of hg huz (tv2 hg) b2z.1 b2z.2.1 l2z) huz
  have laz := lay_u l2z huz
  obtain ⟨⟨⟨xp0z, hp0z, ep0z⟩, ip0z⟩, ⟨xc0z, hc0z, ec0z⟩, ic0z⟩ := b2z.2.2.1
  obtain ⟨⟨⟨xp1z, hp1z, ep1z⟩, ip1z⟩, ⟨xc1z, hc1z, ec1z⟩, ic1z⟩ := b2z.2.2.2
  refine y_same (i := .aload_n 0) (len := 1) (r := (0, 0, 0, 0)) (pc' := 1) (ls' := [some (.inl (some 0)), some (zi x), some (zi xk), none]) (st' := [.inl (some 0)]) (by decide +kernel) (fun k q => by cases q) rfl ?_
  refine y_same (i := .iload_n 1) (len := 1) (r := (0, 0, 0, 0)) (pc' := 2) (ls' := [some (.inl (some 0)), some (zi x), some (zi xk), none]) (st' := [zi x, .inl (some 0)]) (by decide +kernel) (fun k q => by cases q) rfl ?_
  refine y_cI (i := .invokestatic 101) (len := 3) (r := (1, 156, 11, 1068)) (nL := 1) (k := 2) (n := 1) (hs := []) (args := [zi x]) (rest := [.inl (some 0)]) (l0 := [some (zi x)]) (by decide +kernel) (Or.inl ⟨_, rfl⟩) rfl rfl rfl rfl (Nat.le_of_ble_eq_true rfl) rfl rfl (qI_le (by decide) (c_isSide (d := 0))) (fun y3401 qy3401 hRy3401 => ?_)
  obtain ⟨rfl, hDy3401⟩ := hRy3401
  have ey3401 : y3401.toInt = 1 := by omega
  refine y_iF (c := .eq) (off := 25) (len := 3) (r := (0, 0, 0, 0)) (by decide +kernel) (acmpF (c := .eq) (by show ¬ (_ = _); omega)) ?_
  refine y_same (i := .aload_n 0) (len := 1) (r := (0, 0, 0, 0)) (pc' := 9) (ls' := [some (.inl (some 0)), some (zi x), some (zi xk), none]) (st' := [.inl (some 0), .inl (some 0)]) (by decide +kernel) (fun k q => by cases q) rfl ?_
  refine y_get (j := 29) (len := 3) (r := (11, 5, 2, 404)) (by decide +kernel) hg (tv0 hg) aw0 rfl rfl r5 ?_
  refine y_same (i := .iload_n 1) (len := 1) (r := (0, 0, 0, 0)) (pc' := 13) (ls' := [some (.inl (some 0)), some (zi x), some (zi xk), none]) (st' := [zi x, .inl (some 2), .inl (some 0)]) (by decide +kernel) (fun k q => by cases q) rfl ?_
  refine y_cA (i := .invokevirtual 105) (len := 3) (r := (0, 108, 9, 1071)) (nL := 2) (k := 3) (n := 2) (hs := []) (args := [.inl (some 2), zi x]) (rest := [.inl (some 0)]) (l0 := [some (.inl (some 2)), some (zi x)]) (by decide +kernel) (Or.inr (Or.inl ⟨_, rfl⟩)) rfl rfl rfl rfl (Nat.le_of_ble_eq_true rfl) (zO hg (tv2 hg) aw1000 rfl) rfl (qA_le (by decide) (c_side0 (d := 0) (u := uz) (v := vz) hg (by omega) b2z.1 b2z.2.1)) (fun q3402 hR3402 => ?_)
  obtain rfl := hR3402
  refine y_get (j := 129) (len := 3) (r := (8, 1, 2, 20188)) (by decide +kernel) hg tyz.1.1 aw1001 rfl rfl laz.1.2.1 ?_
  refine y_same (i := .iload_n 2) (len := 1) (r := (0, 0, 0, 0)) (pc' := 20) (ls' := [some (.inl (some 0)), some (zi x), some (zi xk), none]) (st' := [zi xk, .inl (some ((2 + uz + 3))), .inl (some 0)]) (by decide +kernel) (fun k q => by cases q) rfl ?_
  refine y_cI (i := .invokevirtual 115) (len := 3) (r := (0, 63, 6, 1075)) (nL := 2) (k := 2) (n := 2) (hs := []) (args := [.inl (some ((2 + uz + 3))), zi xk]) (rest := [.inl (some 0)]) (l0 := [some (.inl (some ((2 + uz + 3)))), some (zi xk)]) (by decide +kernel) (Or.inr (Or.inl ⟨_, rfl⟩)) rfl rfl rfl rfl (Nat.le_of_ble_eq_true rfl) (zO hg tyz.1.2.2.2.1 aw1003 rfl) rfl (qI_le (by decide) (c_has6 (d := 0) hg tyz.1.2.2.2.1 hc0z)) (fun y3403 qy3403 hRy3403 => ?_)
  obtain ⟨rfl, hDy3403⟩ := hRy3403
  have ey3403 : y3403.toInt = 1 := by omega
  refine y_iF (c := .eq) (off := 7) (len := 3) (r := (0, 0, 0, 0)) (by decide +kernel) (acmpF (c := .eq) (by show ¬ (_ = _); omega)) ?_
  refine y_ic (c := 1) (len := 1) (r := (0, 0, 0, 0)) (by decide +kernel) (by decide) (fun y3404 hy3404 => ?_)
  refine y_goto (off := 4) (pc' := 31) (len := 3) (r := (0, 0, 0, 0)) (by decide +kernel) (by decide +kernel) ?_
  refine y_cV (i := .invokevirtual 120) (len := 3) (r := (0, 152, 11, 1079)) (nL := 2) (k := 0) (n := 2) (hs := []) (args := [.inl (some 0), zi y3404]) (rest := []) (l0 := [some (.inl (some 0)), some (zi y3404)]) (by decide +kernel) (Or.inr (Or.inl ⟨_, rfl⟩)) rfl rfl rfl rfl (Nat.le_of_ble_eq_true rfl) (zO hg (tv0 hg) aw0 rfl) rfl (qV_le (by decide) (c_there (d := 0) (by omega))) (fun q3405 hR3405 => ?_)
  obtain rfl := hR3405
  refine y_same (i := .aload_n 0) (len := 1) (r := (0, 0, 0, 0)) (pc' := 35) (ls' := [some (.inl (some 0)), some (zi x), some (zi xk), none]) (st' := [.inl (some 0)]) (by decide +kernel) (fun k q => by cases q) rfl ?_
  refine y_get (j := 36) (len := 3) (r := (11, 6, 2, 405)) (by decide +kernel) hg (tv0 hg) aw0 rfl rfl (g_rU (f := 6) (T2 := 13) hg (tv0 hg) aw0 rfl (by decide)) ?_
  refine y_same (i := .aload_n 0) (len := 1) (r := (0, 0, 0, 0)) (pc' := 39) (ls' := [some (.inl (some 0)), some (zi x), some (zi xk), none]) (st' := [.inl (some 0), .inl (some 13)]) (by decide +kernel) (fun k q => by cases q) rfl ?_
  refine y_get (j := 29) (len := 3) (r := (11, 5, 2, 404)) (by decide +kernel) hg (tv0 hg) aw0 rfl rfl r5 ?_
  refine y_cV (i := .invokevirtual 83) (len := 3) (r := (0, 24, 2, 449)) (nL := 2) (k := 0) (n := 2) (hs := []) (args := [.inl (some 13), .inl (some 2)]) (rest := []) (l0 := [some (.inl (some 13)), some (.inl (some 2))]) (by decide +kernel) (Or.inr (Or.inl ⟨_, rfl⟩)) rfl rfl rfl rfl (Nat.le_of_ble_eq_true rfl) (zO hg (tv13 hg) aw13 rfl) rfl (qV_le (by decide) (e_keep hg rc)) (fun h3406 hR3406 => ?_)
  obtain ⟨τ3406, au3406, hg3406, rc3406, F3406⟩ := hR3406
  obtain ⟨-, ⟨u3406, v3406, hu3406, l23406, b23406⟩, -⟩ := id rc3406
  have uu3406 : (u3406 = 1 ∧ v3406 = 6) ∨ (u3406 = 6 ∧ v3406 = 1) := hu3406
  have ty3406 := ty_u (tyB_of hg3406 hu3406 (tv2 hg3406) b23406.1 b23406.2.1 l23406) hu3406
  have la3406 := lay_u l23406 hu3406
  obtain ⟨⟨⟨xp03406, hp03406, ep03406⟩, ip03406⟩, ⟨xc03406, hc03406, ec03406⟩, ic03406⟩ := b23406.2.2.1
  obtain ⟨⟨⟨xp13406, hp13406, ep13406⟩, ip13406⟩, ⟨xc13406, hc13406, ec13406⟩, ic13406⟩ := b23406.2.2.2
  refine y_same (i := .aload_n 0) (len := 1) (r := (0, 0, 0, 0)) (pc' := 46) (ls' := [some (.inl (some 0)), some (zi x), some (zi xk), none]) (st' := [.inl (some 0)]) (by decide +kernel) (fun k q => by cases q) rfl ?_
  have hv3407 := (F3406 0 5 (by omega)).trans r5
  refine y_get (j := 29) (len := 3) (r := (11, 5, 2, 404)) (by decide +kernel) hg3406 (tv0 hg3406) aw0 rfl rfl hv3407 ?_
  refine y_same (i := .iload_n 1) (len := 1) (r := (0, 0, 0, 0)) (pc' := 50) (ls' := [some (.inl (some 0)), some (zi x), some (zi xk), none]) (st' := [zi x, .inl (some 2)]) (by decide +kernel) (fun k q => by cases q) rfl ?_
  refine y_cA (i := .invokevirtual 105) (len := 3) (r := (0, 108, 9, 1071)) (nL := 2) (k := 3) (n := 2) (hs := []) (args := [.inl (some 2), zi x]) (rest := []) (l0 := [some (.inl (some 2)), some (zi x)]) (by decide +kernel) (Or.inr (Or.inl ⟨_, rfl⟩)) rfl rfl rfl rfl (Nat.le_of_ble_eq_true rfl) (zO hg3406 (tv2 hg3406) aw1000 rfl) rfl (qA_le (by decide) (c_side0 (d := 0) (u := u3406) (v := v3406) hg3406 (by omega) b23406.1 b23406.2.1)) (fun q3408 hR3408 => ?_)
  obtain rfl := hR3408
  refine y_get (j := 129) (len := 3) (r := (8, 1, 2, 20188)) (by decide +kernel) hg3406 ty3406.1.1 aw1001 rfl rfl la3406.1.2.1 ?_
  refine y_same (i := .astore_n 3) (len := 1) (r := (0, 0, 0, 0)) (pc' := 57) (ls' := [some (.inl (some 0)), some (zi x), some (zi xk), some (.inl (some ((2 + u3406 + 3))))]) (st' := []) (by decide +kernel) (fun k q => by cases q) rfl ?_
  refine y_same (i := .aload_n 3) (len := 1) (r := (0, 0, 0, 0)) (pc' := 58) (ls' := [some (.inl (some 0)), some (zi x), some (zi xk), some (.inl (some ((2 + u3406 + 3))))]) (st' := [.inl (some ((2 + u3406 + 3)))]) (by decide +kernel) (fun k q => by cases q) rfl ?_
  refine y_same (i := .iload_n 2) (len := 1) (r := (0, 0, 0, 0)) (pc' := 59) (ls' := [some (.inl (some 0)), some (zi x), some (zi xk), some (.inl (some ((2 + u3406 + 3))))]) (st' := [zi xk, .inl (some ((2 + u3406 + 3)))]) (by decide +kernel) (fun k q => by cases q) rfl ?_
  refine y_cV (i := .invokevirtual 123) (len := 3) (r := (0, 70, 6, 1099)) (nL := 3) (k := 0) (n := 2) (hs := []) (args := [.inl (some ((2 + u3406 + 3))), zi xk]) (rest := []) (l0 := [some (.inl (some ((2 + u3406 + 3)))), some (zi xk), none]) (by decide +kernel) (Or.inr (Or.inl ⟨_, rfl⟩)) rfl rfl rfl rfl (Nat.le_of_ble_eq_true rfl) (zO hg3406 ty3406.1.2.2.2.1 aw1003 rfl) rfl (qV_le (by decide) (e_rm6 (d := 0) (RA := (2 + u3406 + 3)) (IA := (2 + u3406 + 4)) hg3406 ty3406.1.2.2.2.1 ty3406.1.2.2.2.2 (by omega) la3406.1.2.2.2 b23406.2.2.1.2 exk (by omega))) (fun h3409 hR3409 => ?_)
  obtain ⟨hg3409, r3409, F3409⟩ := hR3409
  have rc3409 : RC h3409 ((cur.1.1, cur.1.2.eraseIdx k), (cur.2.1, cur.2.2)) (psh hs cur) := RC_set rc3406 ⟨u3406, v3406, hu3406, ⟨laS_up l23406.1 (fun k j h1 => F3409 k j (by omega)), laS_up l23406.2 (fun k j h1 => F3409 k j (by omega))⟩, rfs_up b23406.1 (F3409 _ _ (by omega)), rfs_up b23406.2.1 (F3409 _ _ (by omega)), ⟨rwC_up b23406.2.2.1.1 (F3409 _ _ (by omega)) (fun j => F3409 _ _ (by omega)), r3409⟩, sdC_up b23406.2.2.2 (fun k j h1 h2 => F3409 k j (by omega))⟩ (fun k j h1 => F3409 k j (by omega))
  obtain ⟨xz, hz, ez⟩ := r3409.1
  rw [List.length_eraseIdx_of_lt (by omega)] at ez
  refine y_same (i := .aload_n 0) (len := 1) (r := (0, 0, 0, 0)) (pc' := 63) (ls' := [some (.inl (some 0)), some (zi x), some (zi xk), some (.inl (some ((2 + u3406 + 3))))]) (st' := [.inl (some 0)]) (by decide +kernel) (fun k q => by cases q) rfl ?_
  refine y_cV (i := .invokevirtual 91) (len := 3) (r := (0, 154, 11, 474)) (nL := 1) (k := 0) (n := 1) (hs := []) (args := [.inl (some 0)]) (rest := []) (l0 := [some (.inl (some 0))]) (by decide +kernel) (Or.inr (Or.inl ⟨_, rfl⟩)) rfl rfl rfl rfl (Nat.le_of_ble_eq_true rfl) (zO hg3409 (tv0 hg3409) aw0 rfl) rfl (qV_le (by decide) (c_forgJ (d := 0) hg3409)) (fun h3410 hR3410 => ?_)
  obtain ⟨hg3410, F3410, jx3410, jh3410, je3410⟩ := hR3410
  refine y_same (i := .aload_n 3) (len := 1) (r := (0, 0, 0, 0)) (pc' := 67) (ls' := [some (.inl (some 0)), some (zi x), some (zi xk), some (.inl (some ((2 + u3406 + 3))))]) (st' := [.inl (some ((2 + u3406 + 3)))]) (by decide +kernel) (fun k q => by cases q) rfl ?_
  have hv3411 := (F3410 (2 + u3406 + 3) 1 (by omega)).trans hz
  refine y_get (j := 126) (len := 3) (r := (6, 1, 0, 20168)) (by decide +kernel) hg3410 ty3406.1.2.2.2.1 aw1003 rfl rfl hv3411 ?_
  refine y_rI (len := 1) (r := (0, 0, 0, 0)) (nL := 4) (k := 1) (n9 := 3) (hs := []) (by decide +kernel) rfl rfl ?_
  exact ⟨⟨_, hg3410⟩, _, jh3410, by omega⟩
theorem j_lforget0 {t k : Nat} {τ : List Nat} {h : zh} {cur : bsT} {hs : List bsT} {x xk : Int32} (hg : hG τ h) (rc : RC h cur hs) (r5 : hsl h 0 5 = some (.inl (some 2))) (hx : x.toInt = 0) (exk : xk.toInt = (k : Int)) (hk : k < cur.1.2.length) : qI 60 278 [some (.inl (some 0)), some (zi x), some (zi xk), some (.inl (some 388)), none] h t (fun y h1 => ci_ h1 42 5 0) := by
  refine qI_le (d := 32) (by decide) (qI_of ?_)
  refine y_same (i := .aload_n 3) (len := 1) (r := (0, 0, 0, 0)) (pc' := 1) (ls' := [some (.inl (some 0)), some (zi x), some (zi xk), some (.inl (some 388)), none]) (st' := [.inl (some 388)]) (by decide +kernel) (fun k q => by cases q) rfl ?_
  refine y_ic (c := 0) (len := 1) (r := (0, 0, 0, 0)) (by decide +kernel) (by decide) (fun y3412 hy3412 => ?_)
  refine y_same (i := .aload_n 0) (len := 1) (r := (0, 0, 0, 0)) (pc' := 3) (ls' := [some (.inl (some 0)), some (zi x), some (zi xk), some (.inl (some 388)), none]) (st' := [.inl (some 0), zi y3412, .inl (some 388)]) (by decide +kernel) (fun k q => by cases q) rfl ?_
  refine y_same (i := .iload_n 1) (len := 1) (r := (0, 0, 0, 0)) (pc' := 4) (ls' := [some (.inl (some 0)), some (zi x), some (zi xk), some (.inl (some 388)), none]) (st' := [zi x, .inl (some 0), zi y3412, .inl (some 388)]) (by decide +kernel) (fun k q => by cases q) rfl ?_
  refine y_same (i := .iload_n 2) (len := 1) (r := (0, 0, 0, 0)) (pc' := 5) (ls' := [some (.inl (some 0)), some (zi x), some (zi xk), some (.inl (some 388)), none]) (st' := [zi xk, zi x, .inl (some 0), zi y3412, .inl (some 388)]) (by decide +kernel) (fun k q => by cases q) rfl ?_
  refine y_cI (i := .invokevirtual 21) (len := 3) (r := (0, 137, 11, 1103)) (nL := 4) (k := 1) (n := 3) (hs := []) (args := [.inl (some 0), zi x, zi xk]) (rest := [zi y3412, .inl (some 388)]) (l0 := [some (.inl (some 0)), some (zi x), some (zi xk), none]) (by decide +kernel) (Or.inr (Or.inl ⟨_, rfl⟩)) rfl rfl rfl rfl (Nat.le_of_ble_eq_true rfl) (zO hg (tv0 hg) aw0 rfl) rfl (qI_le (by decide) (j_forget0 hg rc r5 hx exk hk)) (fun y3413 h3413 hRy3413 => ?_)
  obtain ⟨⟨τ3413, hg3413⟩, jx, jh, je⟩ := hRy3413
  refine y_i2l2 (len := 1) (r := (0, 0, 0, 0)) (by decide +kernel) ?_
  refine y_las2 (i := 0) (len := 1) (r := (0, 0, 0, 0)) (by decide +kernel) hg3413 (t388 hg3413) aw388 rfl (by omega) (by omega) rfl (fun h3414 hg3414 hw3414 ho3414 => ?_)
  refine y_goto (off := 7) (pc' := 17) (len := 3) (r := (0, 0, 0, 0)) (by decide +kernel) (by decide +kernel) ?_
  refine y_ic (c := 0) (len := 1) (r := (0, 0, 0, 0)) (by decide +kernel) (by decide) (fun y3415 hy3415 => ?_)
  refine y_rI (len := 1) (r := (0, 0, 0, 0)) (nL := 5) (k := 1) (n9 := 4) (hs := [(0, 10, 13, 0)]) (by decide +kernel) rfl rfl ?_
  have hv3416 := (ho3414 42 5 (Or.inl (by omega))).trans jh
  exact ⟨_, hv3416, by omega⟩
theorem j_forget1 {t k : Nat} {τ : List Nat} {h : zh} {cur : bsT} {hs : List bsT} {x xk : Int32} (hg : hG τ h) (rc : RC h cur hs) (r5 : hsl h 0 5 = some (.inl (some 2))) (hx : x.toInt = 1) (exk : xk.toInt = (k : Int)) (hk : k < cur.2.2.length) : qI 21 137 [some (.inl (some 0)), some (zi x), some (zi xk), none] h t (fun y h1 => (∃ τ1, hG τ1 h1) ∧ ci_ h1 42 5 0) := by
  refine qI_of ?_
  obtain ⟨-, ⟨uz, vz, huz, l2z, b2z⟩, -⟩ := id rc
  have uuz : (uz = 1 ∧ vz = 6) ∨ (uz = 6 ∧ vz = 1) := huz
  have tyz := ty_u (tyB_of hg huz (tv2 hg) b2z.1 b2z.2.1 l2z) huz
  have laz := lay_u l2z huz
  obtain ⟨⟨⟨xp0z, hp0z, ep0z⟩, ip0z⟩, ⟨xc0z, hc0z, ec0z⟩, ic0z⟩ := b2z.2.2.1
  obtain ⟨⟨⟨xp1z, hp1z, ep1z⟩, ip1z⟩, ⟨xc1z, hc1z, ec1z⟩, ic1z⟩ := b2z.2.2.2
  refine y_same (i := .aload_n 0) (len := 1) (r := (0, 0, 0, 0)) (pc' := 1) (ls' := [some (.inl (some 0)), some (zi x), some (zi xk), none]) (st' := [.inl (some 0)]) (by decide +kernel) (fun k q => by cases q) rfl ?_
  refine y_same (i := .iload_n 1) (len := 1) (r := (0, 0, 0, 0)) (pc' := 2) (ls' := [some (.inl (some 0)), some (zi x), some (zi xk), none]) (st' := [zi x, .inl (some 0)]) (by decide +kernel) (fun k q => by cases q) rfl ?_
  refine y_cI (i := .invokestatic 101) (len := 3) (r := (1, 156, 11, 1068)) (nL := 1) (k := 2) (n := 1) (hs := []) (args := [zi x]) (rest := [.inl (some 0)]) (l0 := [some (zi x)]) (by decide +kernel) (Or.inl ⟨_, rfl⟩) rfl rfl rfl rfl (Nat.le_of_ble_eq_true rfl) rfl rfl (qI_le (by decide) (c_isSide (d := 0))) (fun y3417 qy3417 hRy3417 => ?_)
  obtain ⟨rfl, hDy3417⟩ := hRy3417
  have ey3417 : y3417.toInt = 1 := by omega
  refine y_iF (c := .eq) (off := 25) (len := 3) (r := (0, 0, 0, 0)) (by decide +kernel) (acmpF (c := .eq) (by show ¬ (_ = _); omega)) ?_
  refine y_same (i := .aload_n 0) (len := 1) (r := (0, 0, 0, 0)) (pc' := 9) (ls' := [some (.inl (some 0)), some (zi x), some (zi xk), none]) (st' := [.inl (some 0), .inl (some 0)]) (by decide +kernel) (fun k q => by cases q) rfl ?_
  refine y_get (j := 29) (len := 3) (r := (11, 5, 2, 404)) (by decide +kernel) hg (tv0 hg) aw0 rfl rfl r5 ?_
  refine y_same (i := .iload_n 1) (len := 1) (r := (0, 0, 0, 0)) (pc' := 13) (ls' := [some (.inl (some 0)), some (zi x), some (zi xk), none]) (st' := [zi x, .inl (some 2), .inl (some 0)]) (by decide +kernel) (fun k q => by cases q) rfl ?_
  refine y_cA (i := .invokevirtual 105) (len := 3) (r := (0, 108, 9, 1071)) (nL := 2) (k := 3) (n := 2) (hs := []) (args := [.inl (some 2), zi x]) (rest := [.inl (some 0)]) (l0 := [some (.inl (some 2)), some (zi x)]) (by decide +kernel) (Or.inr (Or.inl ⟨_, rfl⟩)) rfl rfl rfl rfl (Nat.le_of_ble_eq_true rfl) (zO hg (tv2 hg) aw1000 rfl) rfl (qA_le (by decide) (c_side1 (d := 0) (u := uz) (v := vz) hg (by omega) b2z.1 b2z.2.1)) (fun q3418 hR3418 => ?_)
  obtain rfl := hR3418
  refine y_get (j := 129) (len := 3) (r := (8, 1, 2, 20188)) (by decide +kernel) hg tyz.2.1 aw1001 rfl rfl laz.2.2.1 ?_
  refine y_same (i := .iload_n 2) (len := 1) (r := (0, 0, 0, 0)) (pc' := 20) (ls' := [some (.inl (some 0)), some (zi x), some (zi xk), none]) (st' := [zi xk, .inl (some ((2 + vz + 3))), .inl (some 0)]) (by decide +kernel) (fun k q => by cases q) rfl ?_
  refine y_cI (i := .invokevirtual 115) (len := 3) (r := (0, 63, 6, 1075)) (nL := 2) (k := 2) (n := 2) (hs := []) (args := [.inl (some ((2 + vz + 3))), zi xk]) (rest := [.inl (some 0)]) (l0 := [some (.inl (some ((2 + vz + 3)))), some (zi xk)]) (by decide +kernel) (Or.inr (Or.inl ⟨_, rfl⟩)) rfl rfl rfl rfl (Nat.le_of_ble_eq_true rfl) (zO hg tyz.2.2.2.2.1 aw1003 rfl) rfl (qI_le (by decide) (c_has6 (d := 0) hg tyz.2.2.2.2.1 hc1z)) (fun y3419 qy3419 hRy3419 => ?_)
  obtain ⟨rfl, hDy3419⟩ := hRy3419
  have ey3419 : y3419.toInt = 1 := by omega
  refine y_iF (c := .eq) (off := 7) (len := 3) (r := (0, 0, 0, 0)) (by decide +kernel) (acmpF (c := .eq) (by show ¬ (_ = _); omega)) ?_
  refine y_ic (c := 1) (len := 1) (r := (0, 0, 0, 0)) (by decide +kernel) (by decide) (fun y3420 hy3420 => ?_)
  refine y_goto (off := 4) (pc' := 31) (len := 3) (r := (0, 0, 0, 0)) (by decide +kernel) (by decide +kernel) ?_
  refine y_cV (i := .invokevirtual 120) (len := 3) (r := (0, 152, 11, 1079)) (nL := 2) (k := 0) (n := 2) (hs := []) (args := [.inl (some 0), zi y3420]) (rest := []) (l0 := [some (.inl (some 0)), some (zi y3420)]) (by decide +kernel) (Or.inr (Or.inl ⟨_, rfl⟩)) rfl rfl rfl rfl (Nat.le_of_ble_eq_true rfl) (zO hg (tv0 hg) aw0 rfl) rfl (qV_le (by decide) (c_there (d := 0) (by omega))) (fun q3421 hR3421 => ?_)
  obtain rfl := hR3421
  refine y_same (i := .aload_n 0) (len := 1) (r := (0, 0, 0, 0)) (pc' := 35) (ls' := [some (.inl (some 0)), some (zi x), some (zi xk), none]) (st' := [.inl (some 0)]) (by decide +kernel) (fun k q => by cases q) rfl ?_
  refine y_get (j := 36) (len := 3) (r := (11, 6, 2, 405)) (by decide +kernel) hg (tv0 hg) aw0 rfl rfl (g_rU (f := 6) (T2 := 13) hg (tv0 hg) aw0 rfl (by decide)) ?_
  refine y_same (i := .aload_n 0) (len := 1) (r := (0, 0, 0, 0)) (pc' := 39) (ls' := [some (.inl (some 0)), some (zi x), some (zi xk), none]) (st' := [.inl (some 0), .inl (some 13)]) (by decide +kernel) (fun k q => by cases q) rfl ?_
  refine y_get (j := 29) (len := 3) (r := (11, 5, 2, 404)) (by decide +kernel) hg (tv0 hg) aw0 rfl rfl r5 ?_
  refine y_cV (i := .invokevirtual 83) (len := 3) (r := (0, 24, 2, 449)) (nL := 2) (k := 0) (n := 2) (hs := []) (args := [.inl (some 13), .inl (some 2)]) (rest := []) (l0 := [some (.inl (some 13)), some (.inl (some 2))]) (by decide +kernel) (Or.inr (Or.inl ⟨_, rfl⟩)) rfl rfl rfl rfl (Nat.le_of_ble_eq_true rfl) (zO hg (tv13 hg) aw13 rfl) rfl (qV_le (by decide) (e_keep hg rc)) (fun h3422 hR3422 => ?_)
  obtain ⟨τ3422, au3422, hg3422, rc3422, F3422⟩ := hR3422
  obtain ⟨-, ⟨u3422, v3422, hu3422, l23422, b23422⟩, -⟩ := id rc3422
  have uu3422 : (u3422 = 1 ∧ v3422 = 6) ∨ (u3422 = 6 ∧ v3422 = 1) := hu3422
  have ty3422 := ty_u (tyB_of hg3422 hu3422 (tv2 hg3422) b23422.1 b23422.2.1 l23422) hu3422
  have la3422 := lay_u l23422 hu3422
  obtain ⟨⟨⟨xp03422, hp03422, ep03422⟩, ip03422⟩, ⟨xc03422, hc03422, ec03422⟩, ic03422⟩ := b23422.2.2.1
  obtain ⟨⟨⟨xp13422, hp13422, ep13422⟩, ip13422⟩, ⟨xc13422, hc13422, ec13422⟩, ic13422⟩ := b23422.2.2.2
  refine y_same (i := .aload_n 0) (len := 1) (r := (0, 0, 0, 0)) (pc' := 46) (ls' := [some (.inl (some 0)), some (zi x), some (zi xk), none]) (st' := [.inl (some 0)]) (by decide +kernel) (fun k q => by cases q) rfl ?_
  have hv3423 := (F3422 0 5 (by omega)).trans r5
  refine y_get (j := 29) (len := 3) (r := (11, 5, 2, 404)) (by decide +kernel) hg3422 (tv0 hg3422) aw0 rfl rfl hv3423 ?_
  refine y_same (i := .iload_n 1) (len := 1) (r := (0, 0, 0, 0)) (pc' := 50) (ls' := [some (.inl (some 0)), some (zi x), some (zi xk), none]) (st' := [zi x, .inl (some 2)]) (by decide +kernel) (fun k q => by cases q) rfl ?_
  refine y_cA (i := .invokevirtual 105) (len := 3) (r := (0, 108, 9, 1071)) (nL := 2) (k := 3) (n := 2) (hs := []) (args := [.inl (some 2), zi x]) (rest := []) (l0 := [some (.inl (some 2)), some (zi x)]) (by decide +kernel) (Or.inr (Or.inl ⟨_, rfl⟩)) rfl rfl rfl rfl (Nat.le_of_ble_eq_true rfl) (zO hg3422 (tv2 hg3422) aw1000 rfl) rfl (qA_le (by decide) (c_side1 (d := 0) (u := u3422) (v := v3422) hg3422 (by omega) b23422.1 b23422.2.1)) (fun q3424 hR3424 => ?_)
  obtain rfl := hR3424
  refine y_get (j := 129) (len := 3) (r := (8, 1, 2, 20188)) (by decide +kernel) hg3422 ty3422.2.1 aw1001 rfl rfl la3422.2.2.1 ?_
  refine y_same (i := .astore_n 3) (len := 1) (r := (0, 0, 0, 0)) (pc' := 57) (ls' := [some (.inl (some 0)), some (zi x), some (zi xk), some (.inl (some ((2 + v3422 + 3))))]) (st' := []) (by decide +kernel) (fun k q => by cases q) rfl ?_
  refine y_same (i := .aload_n 3) (len := 1) (r := (0, 0, 0, 0)) (pc' := 58) (ls' := [some (.inl (some 0)), some (zi x), some (zi xk), some (.inl (some ((2 + v3422 + 3))))]) (st' := [.inl (some ((2 + v3422 + 3)))]) (by decide +kernel) (fun k q => by cases q) rfl ?_
  refine y_same (i := .iload_n 2) (len := 1) (r := (0, 0, 0, 0)) (pc' := 59) (ls' := [some (.inl (some 0)), some (zi x), some (zi xk), some (.inl (some ((2 + v3422 + 3))))]) (st' := [zi xk, .inl (some ((2 + v3422 + 3)))]) (by decide +kernel) (fun k q => by cases q) rfl ?_
  refine y_cV (i := .invokevirtual 123) (len := 3) (r := (0, 70, 6, 1099)) (nL := 3) (k := 0) (n := 2) (hs := []) (args := [.inl (some ((2 + v3422 + 3))), zi xk]) (rest := []) (l0 := [some (.inl (some ((2 + v3422 + 3)))), some (zi xk), none]) (by decide +kernel) (Or.inr (Or.inl ⟨_, rfl⟩)) rfl rfl rfl rfl (Nat.le_of_ble_eq_true rfl) (zO hg3422 ty3422.2.2.2.2.1 aw1003 rfl) rfl (qV_le (by decide) (e_rm6 (d := 0) (RA := (2 + v3422 + 3)) (IA := (2 + v3422 + 4)) hg3422 ty3422.2.2.2.2.1 ty3422.2.2.2.2.2 (by omega) la3422.2.2.2.2 b23422.2.2.2.2 exk (by omega))) (fun h3425 hR3425 => ?_)
  obtain ⟨hg3425, r3425, F3425⟩ := hR3425
  have rc3425 : RC h3425 ((cur.1.1, cur.1.2), (cur.2.1, cur.2.2.eraseIdx k)) (psh hs cur) := RC_set rc3422 ⟨u3422, v3422, hu3422, ⟨laS_up l23422.1 (fun k j h1 => F3425 k j (by omega)), laS_up l23422.2 (fun k j h1 => F3425 k j (by omega))⟩, rfs_up b23422.1 (F3425 _ _ (by omega)), rfs_up b23422.2.1 (F3425 _ _ (by omega)), sdC_up b23422.2.2.1 (fun k j h1 h2 => F3425 k j (by omega)), ⟨rwC_up b23422.2.2.2.1 (F3425 _ _ (by omega)) (fun j => F3425 _ _ (by omega)), r3425⟩⟩ (fun k j h1 => F3425 k j (by omega))
  obtain ⟨xz, hz, ez⟩ := r3425.1
  rw [List.length_eraseIdx_of_lt (by omega)] at ez
  refine y_same (i := .aload_n 0) (len := 1) (r := (0, 0, 0, 0)) (pc' := 63) (ls' := [some (.inl (some 0)), some (zi x), some (zi xk), some (.inl (some ((2 + v3422 + 3))))]) (st' := [.inl (some 0)]) (by decide +kernel) (fun k q => by cases q) rfl ?_
  refine y_cV (i := .invokevirtual 91) (len := 3) (r := (0, 154, 11, 474)) (nL := 1) (k := 0) (n := 1) (hs := []) (args := [.inl (some 0)]) (rest := []) (l0 := [some (.inl (some 0))]) (by decide +kernel) (Or.inr (Or.inl ⟨_, rfl⟩)) rfl rfl rfl rfl (Nat.le_of_ble_eq_true rfl) (zO hg3425 (tv0 hg3425) aw0 rfl) rfl (qV_le (by decide) (c_forgJ (d := 0) hg3425)) (fun h3426 hR3426 => ?_)
  obtain ⟨hg3426, F3426, jx3426, jh3426, je3426⟩ := hR3426
  refine y_same (i := .aload_n 3) (len := 1) (r := (0, 0, 0, 0)) (pc' := 67) (ls' := [some (.inl (some 0)), some (zi x), some (zi xk), some (.inl (some ((2 + v3422 + 3))))]) (st' := [.inl (some ((2 + v3422 + 3)))]) (by decide +kernel) (fun k q => by cases q) rfl ?_
  have hv3427 := (F3426 (2 + v3422 + 3) 1 (by omega)).trans hz
  refine y_get (j := 126) (len := 3) (r := (6, 1, 0, 20168)) (by decide +kernel) hg3426 ty3422.2.2.2.2.1 aw1003 rfl rfl hv3427 ?_
  refine y_rI (len := 1) (r := (0, 0, 0, 0)) (nL := 4) (k := 1) (n9 := 3) (hs := []) (by decide +kernel) rfl rfl ?_
  exact ⟨⟨_, hg3426⟩, _, jh3426, by omega⟩
theorem j_lforget1 {t k : Nat} {τ : List Nat} {h : zh} {cur : bsT} {hs : List bsT} {x xk : Int32} (hg : hG τ h) (rc : RC h cur hs) (r5 : hsl h 0 5 = some (.inl (some 2))) (hx : x.toInt = 1) (exk : xk.toInt = (k : Int)) (hk : k < cur.2.2.length) : qI 60 278 [some (.inl (some 0)), some (zi x), some (zi xk), some (.inl (some 388)), none] h t (fun y h1 => ci_ h1 42 5 0) := by
  refine qI_le (d := 32) (by decide) (qI_of ?_)
  refine y_same (i := .aload_n 3) (len := 1) (r := (0, 0, 0, 0)) (pc' := 1) (ls' := [some (.inl (some 0)), some (zi x), some (zi xk), some (.inl (some 388)), none]) (st' := [.inl (some 388)]) (by decide +kernel) (fun k q => by cases q) rfl ?_
  refine y_ic (c := 0) (len := 1) (r := (0, 0, 0, 0)) (by decide +kernel) (by decide) (fun y3428 hy3428 => ?_)
  refine y_same (i := .aload_n 0) (len := 1) (r := (0, 0, 0, 0)) (pc' := 3) (ls' := [some (.inl (some 0)), some (zi x), some (zi xk), some (.inl (some 388)), none]) (st' := [.inl (some 0), zi y3428, .inl (some 388)]) (by decide +kernel) (fun k q => by cases q) rfl ?_
  refine y_same (i := .iload_n 1) (len := 1) (r := (0, 0, 0, 0)) (pc' := 4) (ls' := [some (.inl (some 0)), some (zi x), some (zi xk), some (.inl (some 388)), none]) (st' := [zi x, .inl (some 0), zi y3428, .inl (some 388)]) (by decide +kernel) (fun k q => by cases q) rfl ?_
  refine y_same (i := .iload_n 2) (len := 1) (r := (0, 0, 0, 0)) (pc' := 5) (ls' := [some (.inl (some 0)), some (zi x), some (zi xk), some (.inl (some 388)), none]) (st' := [zi xk, zi x, .inl (some 0), zi y3428, .inl (some 388)]) (by decide +kernel) (fun k q => by cases q) rfl ?_
  refine y_cI (i := .invokevirtual 21) (len := 3) (r := (0, 137, 11, 1103)) (nL := 4) (k := 1) (n := 3) (hs := []) (args := [.inl (some 0), zi x, zi xk]) (rest := [zi y3428, .inl (some 388)]) (l0 := [some (.inl (some 0)), some (zi x), some (zi xk), none]) (by decide +kernel) (Or.inr (Or.inl ⟨_, rfl⟩)) rfl rfl rfl rfl (Nat.le_of_ble_eq_true rfl) (zO hg (tv0 hg) aw0 rfl) rfl (qI_le (by decide) (j_forget1 hg rc r5 hx exk hk)) (fun y3429 h3429 hRy3429 => ?_)
  obtain ⟨⟨τ3429, hg3429⟩, jx, jh, je⟩ := hRy3429
  refine y_i2l2 (len := 1) (r := (0, 0, 0, 0)) (by decide +kernel) ?_
  refine y_las2 (i := 0) (len := 1) (r := (0, 0, 0, 0)) (by decide +kernel) hg3429 (t388 hg3429) aw388 rfl (by omega) (by omega) rfl (fun h3430 hg3430 hw3430 ho3430 => ?_)
  refine y_goto (off := 7) (pc' := 17) (len := 3) (r := (0, 0, 0, 0)) (by decide +kernel) (by decide +kernel) ?_
  refine y_ic (c := 0) (len := 1) (r := (0, 0, 0, 0)) (by decide +kernel) (by decide) (fun y3431 hy3431 => ?_)
  refine y_rI (len := 1) (r := (0, 0, 0, 0)) (nL := 5) (k := 1) (n9 := 4) (hs := [(0, 10, 13, 0)]) (by decide +kernel) rfl rfl ?_
  have hv3432 := (ho3430 42 5 (Or.inl (by omega))).trans jh
  exact ⟨_, hv3432, by omega⟩
theorem j_text {t n T : Nat} {b : Nat → Int} {τ : List Nat} {h : zh} {xn xT : Int32} {cur : bsT} {hs : List bsT} (hg : hG τ h) (rc : RC h cur hs) (r5 : hsl h 0 5 = some (.inl (some 2))) (al : alC h) (hT : hsl h 0 1 = some (zi xT)) (eT : xT.toInt = (T : Int)) (hT2 : T ≤ 200) (en : xn.toInt = (n : Int)) (hn : n ≤ T) (hb : ∀ j, j < n → ∃ x : Int32, hsl h 1 j = some (zi x) ∧ x.toInt = b j) : qI 30 133 [some (.inl (some 0)), some (zi xn), none] h t (fun y h1 => (∃ τ1, hG τ1 h1) ∧ kpJC h h1 ∧ kpJM h h1 ∧ hsl h1 52 47 = hsl h 52 47 ∧ ((∃ r, wAll b n = .inl r) ∧ hsl h1 42 5 = hsl h 42 5 ∨ ci_ h1 42 5 0)) := by
  refine qI_of ?_
  refine y_same (i := .aload_n 0) (len := 1) (r := (0, 0, 0, 0)) (pc' := 1) (ls' := [some (.inl (some 0)), some (zi xn), none]) (st' := [.inl (some 0)]) (by decide +kernel) (fun k q => by cases q) rfl ?_
  refine y_same (i := .iload_n 1) (len := 1) (r := (0, 0, 0, 0)) (pc' := 2) (ls' := [some (.inl (some 0)), some (zi xn), none]) (st' := [zi xn, .inl (some 0)]) (by decide +kernel) (fun k q => by cases q) rfl ?_
  refine y_iF (c := .lt) (off := 15) (len := 3) (r := (0, 0, 0, 0)) (by decide +kernel) (acmpF (c := .lt) (by show _ ≤ _; omega)) ?_
  refine y_same (i := .iload_n 1) (len := 1) (r := (0, 0, 0, 0)) (pc' := 6) (ls' := [some (.inl (some 0)), some (zi xn), none]) (st' := [zi xn, .inl (some 0)]) (by decide +kernel) (fun k q => by cases q) rfl ?_
  refine y_same (i := .aload_n 0) (len := 1) (r := (0, 0, 0, 0)) (pc' := 7) (ls' := [some (.inl (some 0)), some (zi xn), none]) (st' := [.inl (some 0), zi xn, .inl (some 0)]) (by decide +kernel) (fun k q => by cases q) rfl ?_
  refine y_get (j := 13) (len := 3) (r := (11, 1, 0, 400)) (by decide +kernel) hg (tv0 hg) aw0 rfl rfl hT ?_
  refine y_cF (c := .gt) (off := 7) (len := 3) (r := (0, 0, 0, 0)) (by decide +kernel) (acmpF (c := .gt) (by show _ ≤ _; omega)) ?_
  refine y_ic (c := 1) (len := 1) (r := (0, 0, 0, 0)) (by decide +kernel) (by decide) (fun y3433 hy3433 => ?_)
  refine y_goto (off := 4) (pc' := 18) (len := 3) (r := (0, 0, 0, 0)) (by decide +kernel) (by decide +kernel) ?_
  refine y_cV (i := .invokevirtual 70) (len := 3) (r := (0, 153, 11, 852)) (nL := 2) (k := 0) (n := 2) (hs := []) (args := [.inl (some 0), zi y3433]) (rest := []) (l0 := [some (.inl (some 0)), some (zi y3433)]) (by decide +kernel) (Or.inr (Or.inl ⟨_, rfl⟩)) rfl rfl rfl rfl (Nat.le_of_ble_eq_true rfl) (zO hg (tv0 hg) aw0 rfl) rfl (qV_le (by decide) (c_fit (d := 0) (by omega))) (fun q3434 hR3434 => ?_)
  obtain rfl := hR3434
  refine y_same (i := .aload_n 0) (len := 1) (r := (0, 0, 0, 0)) (pc' := 22) (ls' := [some (.inl (some 0)), some (zi xn), none]) (st' := [.inl (some 0)]) (by decide +kernel) (fun k q => by cases q) rfl ?_
  refine y_ic (c := 0) (len := 1) (r := (0, 0, 0, 0)) (by decide +kernel) (by decide) (fun y3435 hy3435 => ?_)
  refine y_put (j := 13) (lo := 0) (hi := 200) (len := 3) (r := (11, 1, 0, 400)) (by decide +kernel) hg (tv0 hg) aw0 rfl rfl (by decide) rfl (by omega) (by omega) rfl (fun h3436 hg3436 hl3436 hs3436 ho3436 => ?_)
  have ho3436 : hO 0 1 h h3436 := ho3436
  have hs3436 : hsl h3436 0 1 = some (zi y3435) := hs3436
  refine y_same (i := .aload_n 0) (len := 1) (r := (0, 0, 0, 0)) (pc' := 27) (ls' := [some (.inl (some 0)), some (zi xn), none]) (st' := [.inl (some 0)]) (by decide +kernel) (fun k q => by cases q) rfl ?_
  refine y_get (j := 43) (len := 3) (r := (11, 7, 2, 406)) (by decide +kernel) hg3436 (tv0 hg3436) aw0 rfl rfl (g_rU (f := 7) (T2 := 15) hg3436 (tv0 hg3436) aw0 rfl (by decide)) ?_
  refine y_same (i := .aload_n 0) (len := 1) (r := (0, 0, 0, 0)) (pc' := 31) (ls' := [some (.inl (some 0)), some (zi xn), none]) (st' := [.inl (some 0), .inl (some 15)]) (by decide +kernel) (fun k q => by cases q) rfl ?_
  refine y_get (j := 9) (len := 3) (r := (11, 0, 2, 399)) (by decide +kernel) hg3436 (tv0 hg3436) aw0 rfl rfl (g_rU (f := 0) (T2 := 1) hg3436 (tv0 hg3436) aw0 rfl (by decide)) ?_
  refine y_same (i := .iload_n 1) (len := 1) (r := (0, 0, 0, 0)) (pc' := 35) (ls' := [some (.inl (some 0)), some (zi xn), none]) (st' := [zi xn, .inl (some 1), .inl (some 15)]) (by decide +kernel) (fun k q => by cases q) rfl ?_
  have al3437 : alC h3436 := ⟨(ho3436 15 0 (Or.inl (by omega))).trans al.1, (ho3436 16 0 (Or.inl (by omega))).trans al.2.1, (ho3436 16 1 (Or.inl (by omega))).trans al.2.2.1, (ho3436 17 0 (Or.inl (by omega))).trans al.2.2.2.1, (ho3436 17 1 (Or.inl (by omega))).trans al.2.2.2.2.1, (ho3436 22 0 (Or.inl (by omega))).trans al.2.2.2.2.2.1, (ho3436 22 1 (Or.inl (by omega))).trans al.2.2.2.2.2.2.1, (ho3436 18 0 (Or.inl (by omega))).trans al.2.2.2.2.2.2.2.1, (ho3436 20 0 (Or.inl (by omega))).trans al.2.2.2.2.2.2.2.2.1, (ho3436 23 0 (Or.inl (by omega))).trans al.2.2.2.2.2.2.2.2.2.1, (ho3436 25 0 (Or.inl (by omega))).trans al.2.2.2.2.2.2.2.2.2.2⟩
  have hb3437 : ∀ j, j < n → ∃ x : Int32, hsl h3436 1 j = some (zi x) ∧ x.toInt = b j := by
    intro j hj
    obtain ⟨x, e1, e2⟩ := hb j hj
    exact ⟨x, (ho3436 1 j (Or.inl (by omega))).trans e1, e2⟩
  have rc03437 : RC h3436 cur hs := (RC_up rc (fun k j h1 => (ho3436 k j (by omega))))
  refine y_cI (i := .invokevirtual 73) (len := 3) (r := (0, 46, 5, 923)) (nL := 3) (k := 2) (n := 3) (hs := []) (args := [.inl (some 15), .inl (some 1), zi xn]) (rest := []) (l0 := [some (.inl (some 15)), some (.inl (some 1)), some (zi xn)]) (by decide +kernel) (Or.inr (Or.inl ⟨_, rfl⟩)) rfl rfl rfl rfl (Nat.le_of_ble_eq_true rfl) (zO hg3436 (tv15 hg3436) aw15 rfl) rfl (qI_le (by decide) (e_read hg3436 al3437 en (by omega) hb3437)) (fun y3437 h3437 hRy3437 => ?_)
  obtain ⟨τ3437, O3437, hD3437⟩ := hRy3437
  have rc3437 : RC h3437 cur hs := RC_upT hg3436 rc03437 (fun k T j hk _ hC => O3437.2.2 k T j hk (show (k ≠ 15 ∨ j < 2) ∧ k ≠ 27 ∧ k ≠ 19 ∧ k ≠ 21 ∧ k ≠ 24 ∧ k ≠ 26 ∧ ((k ≠ 18 ∧ k ≠ 20 ∧ k ≠ 23 ∧ k ≠ 25) ∨ j ≠ 1) by omega))
  rcases hD3437 with ⟨lp3437, lc3437, rp3437, rr3437, e3437, hy3437, ⟨xw3437, hw3437, ew3437⟩, w13437, w23437, w33437, w43437⟩ | ⟨r3437, q3437, e3437, hy3437, ⟨xr3437, hr3437, er3437⟩, ⟨xw3437, hw3437, ew3437⟩⟩
  ·
    refine y_same (i := .istore_n 2) (len := 1) (r := (0, 0, 0, 0)) (pc' := 39) (ls' := [some (.inl (some 0)), some (zi xn), some (zi y3437)]) (st' := []) (by decide +kernel) (fun k q => by cases q) rfl ?_
    refine y_same (i := .aload_n 0) (len := 1) (r := (0, 0, 0, 0)) (pc' := 40) (ls' := [some (.inl (some 0)), some (zi xn), some (zi y3437)]) (st' := [.inl (some 0)]) (by decide +kernel) (fun k q => by cases q) rfl ?_
    refine y_same (i := .aload_n 0) (len := 1) (r := (0, 0, 0, 0)) (pc' := 41) (ls' := [some (.inl (some 0)), some (zi xn), some (zi y3437)]) (st' := [.inl (some 0), .inl (some 0)]) (by decide +kernel) (fun k q => by cases q) rfl ?_
    refine y_get (j := 43) (len := 3) (r := (11, 7, 2, 406)) (by decide +kernel) O3437.2.1 (tv0 O3437.2.1) aw0 rfl rfl (g_rU (f := 7) (T2 := 15) O3437.2.1 (tv0 O3437.2.1) aw0 rfl (by decide)) ?_
    refine y_get (j := 77) (len := 3) (r := (5, 5, 0, 20247)) (by decide +kernel) O3437.2.1 (tv15 O3437.2.1) aw15 rfl rfl hw3437 ?_
    refine y_put (j := 17) (lo := (-2147483648)) (hi := 2147483647) (len := 3) (r := (11, 2, 0, 401)) (by decide +kernel) O3437.2.1 (tv0 O3437.2.1) aw0 rfl rfl (by decide) rfl (qin_full _).1 (qin_full _).2 rfl (fun h3438 hg3438 hl3438 hs3438 ho3438 => ?_)
    have ho3438 : hO 0 2 h3437 h3438 := ho3438
    have hs3438 : hsl h3438 0 2 = some (zi xw3437) := hs3438
    refine y_same (i := .iload_n 2) (len := 1) (r := (0, 0, 0, 0)) (pc' := 51) (ls' := [some (.inl (some 0)), some (zi xn), some (zi y3437)]) (st' := [zi y3437]) (by decide +kernel) (fun k q => by cases q) rfl ?_
    refine y_iT (c := .ne) (off := 14) (pc' := 65) (len := 3) (r := (0, 0, 0, 0)) (by decide +kernel) (acmpT (c := .ne) (by show ¬ (_ = _); omega)) (by decide +kernel) ?_
    refine y_same (i := .aload_n 0) (len := 1) (r := (0, 0, 0, 0)) (pc' := 66) (ls' := [some (.inl (some 0)), some (zi xn), some (zi y3437)]) (st' := [.inl (some 0)]) (by decide +kernel) (fun k q => by cases q) rfl ?_
    refine y_get (j := 36) (len := 3) (r := (11, 6, 2, 405)) (by decide +kernel) hg3438 (tv0 hg3438) aw0 rfl rfl (g_rU (f := 6) (T2 := 13) hg3438 (tv0 hg3438) aw0 rfl (by decide)) ?_
    refine y_same (i := .aload_n 0) (len := 1) (r := (0, 0, 0, 0)) (pc' := 70) (ls' := [some (.inl (some 0)), some (zi xn), some (zi y3437)]) (st' := [.inl (some 0), .inl (some 13)]) (by decide +kernel) (fun k q => by cases q) rfl ?_
    have hv3439 := (ho3436 0 5 (Or.inr (by omega))).trans r5
    have hv3440 := (O3437.2.2 0 0 5 (tv0 hg3436) (show (0 ≠ 15 ∨ 5 < 2) ∧ 0 ≠ 27 ∧ 0 ≠ 19 ∧ 0 ≠ 21 ∧ 0 ≠ 24 ∧ 0 ≠ 26 ∧ ((0 ≠ 18 ∧ 0 ≠ 20 ∧ 0 ≠ 23 ∧ 0 ≠ 25) ∨ 5 ≠ 1) by omega)).trans hv3439
    have hv3441 := (ho3438 0 5 (Or.inr (by omega))).trans hv3440
    refine y_get (j := 29) (len := 3) (r := (11, 5, 2, 404)) (by decide +kernel) hg3438 (tv0 hg3438) aw0 rfl rfl hv3441 ?_
    refine y_cV (i := .invokevirtual 83) (len := 3) (r := (0, 24, 2, 449)) (nL := 2) (k := 0) (n := 2) (hs := []) (args := [.inl (some 13), .inl (some 2)]) (rest := []) (l0 := [some (.inl (some 13)), some (.inl (some 2))]) (by decide +kernel) (Or.inr (Or.inl ⟨_, rfl⟩)) rfl rfl rfl rfl (Nat.le_of_ble_eq_true rfl) (zO hg3438 (tv13 hg3438) aw13 rfl) rfl (qV_le (by decide) (e_keep hg3438 (RC_up rc3437 (fun k j h1 => (ho3438 k j (by omega)))))) (fun h3442 hR3442 => ?_)
    obtain ⟨τ3442, au3442, hg3442, rc3442, F3442⟩ := hR3442
    obtain ⟨-, ⟨u3442, v3442, hu3442, l23442, b23442⟩, -⟩ := id rc3442
    have uu3442 : (u3442 = 1 ∧ v3442 = 6) ∨ (u3442 = 6 ∧ v3442 = 1) := hu3442
    have ty3442 := ty_u (tyB_of hg3442 hu3442 (tv2 hg3442) b23442.1 b23442.2.1 l23442) hu3442
    have la3442 := lay_u l23442 hu3442
    obtain ⟨⟨⟨xp03442, hp03442, ep03442⟩, ip03442⟩, ⟨xc03442, hc03442, ec03442⟩, ic03442⟩ := b23442.2.2.1
    obtain ⟨⟨⟨xp13442, hp13442, ep13442⟩, ip13442⟩, ⟨xc13442, hc13442, ec13442⟩, ic13442⟩ := b23442.2.2.2
    refine y_same (i := .aload_n 0) (len := 1) (r := (0, 0, 0, 0)) (pc' := 77) (ls' := [some (.inl (some 0)), some (zi xn), some (zi y3437)]) (st' := [.inl (some 0)]) (by decide +kernel) (fun k q => by cases q) rfl ?_
    have hv3443 := (F3442 0 5 (by omega)).trans hv3441
    refine y_get (j := 29) (len := 3) (r := (11, 5, 2, 404)) (by decide +kernel) hg3442 (tv0 hg3442) aw0 rfl rfl hv3443 ?_
    refine y_same (i := .aload_n 0) (len := 1) (r := (0, 0, 0, 0)) (pc' := 81) (ls' := [some (.inl (some 0)), some (zi xn), some (zi y3437)]) (st' := [.inl (some 0), .inl (some 2)]) (by decide +kernel) (fun k q => by cases q) rfl ?_
    refine y_get (j := 43) (len := 3) (r := (11, 7, 2, 406)) (by decide +kernel) hg3442 (tv0 hg3442) aw0 rfl rfl (g_rU (f := 7) (T2 := 15) hg3442 (tv0 hg3442) aw0 rfl (by decide)) ?_
    have hv3444 := (ho3436 15 0 (Or.inl (by omega))).trans al.1
    have hv3445 := (O3437.2.2 15 15 0 (tv15 hg3436) (show (15 ≠ 15 ∨ 0 < 2) ∧ 15 ≠ 27 ∧ 15 ≠ 19 ∧ 15 ≠ 21 ∧ 15 ≠ 24 ∧ 15 ≠ 26 ∧ ((15 ≠ 18 ∧ 15 ≠ 20 ∧ 15 ≠ 23 ∧ 15 ≠ 25) ∨ 0 ≠ 1) by omega)).trans hv3444
    have hv3446 := (ho3438 15 0 (Or.inl (by omega))).trans hv3445
    have hv3447 := (F3442 15 0 (by omega)).trans hv3446
    refine y_get (j := 87) (len := 3) (r := (5, 0, 2, 20240)) (by decide +kernel) hg3442 (tv15 hg3442) aw15 rfl rfl hv3447 ?_
    have lB3448 : layC h3442 16 := ⟨⟨((F3442 17 0 (by omega)).trans ((ho3438 17 0 (Or.inl (by omega))).trans ((O3437.2.2 17 1001 0 (tv17 hg3436) (show (17 ≠ 15 ∨ 0 < 2) ∧ 17 ≠ 27 ∧ 17 ≠ 19 ∧ 17 ≠ 21 ∧ 17 ≠ 24 ∧ 17 ≠ 26 ∧ ((17 ≠ 18 ∧ 17 ≠ 20 ∧ 17 ≠ 23 ∧ 17 ≠ 25) ∨ 0 ≠ 1) by omega)).trans (ho3436 17 0 (Or.inl (by omega)))))).trans al.2.2.2.1, ((F3442 17 1 (by omega)).trans ((ho3438 17 1 (Or.inl (by omega))).trans ((O3437.2.2 17 1001 1 (tv17 hg3436) (show (17 ≠ 15 ∨ 1 < 2) ∧ 17 ≠ 27 ∧ 17 ≠ 19 ∧ 17 ≠ 21 ∧ 17 ≠ 24 ∧ 17 ≠ 26 ∧ ((17 ≠ 18 ∧ 17 ≠ 20 ∧ 17 ≠ 23 ∧ 17 ≠ 25) ∨ 1 ≠ 1) by omega)).trans (ho3436 17 1 (Or.inl (by omega)))))).trans al.2.2.2.2.1, ((F3442 18 0 (by omega)).trans ((ho3438 18 0 (Or.inl (by omega))).trans ((O3437.2.2 18 1002 0 (tv18 hg3436) (show (18 ≠ 15 ∨ 0 < 2) ∧ 18 ≠ 27 ∧ 18 ≠ 19 ∧ 18 ≠ 21 ∧ 18 ≠ 24 ∧ 18 ≠ 26 ∧ ((18 ≠ 18 ∧ 18 ≠ 20 ∧ 18 ≠ 23 ∧ 18 ≠ 25) ∨ 0 ≠ 1) by omega)).trans (ho3436 18 0 (Or.inl (by omega)))))).trans al.2.2.2.2.2.2.2.1, ((F3442 20 0 (by omega)).trans ((ho3438 20 0 (Or.inl (by omega))).trans ((O3437.2.2 20 1003 0 (tv20 hg3436) (show (20 ≠ 15 ∨ 0 < 2) ∧ 20 ≠ 27 ∧ 20 ≠ 19 ∧ 20 ≠ 21 ∧ 20 ≠ 24 ∧ 20 ≠ 26 ∧ ((20 ≠ 18 ∧ 20 ≠ 20 ∧ 20 ≠ 23 ∧ 20 ≠ 25) ∨ 0 ≠ 1) by omega)).trans (ho3436 20 0 (Or.inl (by omega)))))).trans al.2.2.2.2.2.2.2.2.1⟩, ((F3442 22 0 (by omega)).trans ((ho3438 22 0 (Or.inl (by omega))).trans ((O3437.2.2 22 1001 0 (tv22 hg3436) (show (22 ≠ 15 ∨ 0 < 2) ∧ 22 ≠ 27 ∧ 22 ≠ 19 ∧ 22 ≠ 21 ∧ 22 ≠ 24 ∧ 22 ≠ 26 ∧ ((22 ≠ 18 ∧ 22 ≠ 20 ∧ 22 ≠ 23 ∧ 22 ≠ 25) ∨ 0 ≠ 1) by omega)).trans (ho3436 22 0 (Or.inl (by omega)))))).trans al.2.2.2.2.2.1, ((F3442 22 1 (by omega)).trans ((ho3438 22 1 (Or.inl (by omega))).trans ((O3437.2.2 22 1001 1 (tv22 hg3436) (show (22 ≠ 15 ∨ 1 < 2) ∧ 22 ≠ 27 ∧ 22 ≠ 19 ∧ 22 ≠ 21 ∧ 22 ≠ 24 ∧ 22 ≠ 26 ∧ ((22 ≠ 18 ∧ 22 ≠ 20 ∧ 22 ≠ 23 ∧ 22 ≠ 25) ∨ 1 ≠ 1) by omega)).trans (ho3436 22 1 (Or.inl (by omega)))))).trans al.2.2.2.2.2.2.1, ((F3442 23 0 (by omega)).trans ((ho3438 23 0 (Or.inl (by omega))).trans ((O3437.2.2 23 1002 0 (tv23 hg3436) (show (23 ≠ 15 ∨ 0 < 2) ∧ 23 ≠ 27 ∧ 23 ≠ 19 ∧ 23 ≠ 21 ∧ 23 ≠ 24 ∧ 23 ≠ 26 ∧ ((23 ≠ 18 ∧ 23 ≠ 20 ∧ 23 ≠ 23 ∧ 23 ≠ 25) ∨ 0 ≠ 1) by omega)).trans (ho3436 23 0 (Or.inl (by omega)))))).trans al.2.2.2.2.2.2.2.2.2.1, ((F3442 25 0 (by omega)).trans ((ho3438 25 0 (Or.inl (by omega))).trans ((O3437.2.2 25 1003 0 (tv25 hg3436) (show (25 ≠ 15 ∨ 0 < 2) ∧ 25 ≠ 27 ∧ 25 ≠ 19 ∧ 25 ≠ 21 ∧ 25 ≠ 24 ∧ 25 ≠ 26 ∧ ((25 ≠ 18 ∧ 25 ≠ 20 ∧ 25 ≠ 23 ∧ 25 ≠ 25) ∨ 0 ≠ 1) by omega)).trans (ho3436 25 0 (Or.inl (by omega)))))).trans al.2.2.2.2.2.2.2.2.2.2⟩
    have bB3448 : bsC h3442 16 1 6 ((lp3437, lc3437), (rp3437, rr3437)) := ⟨((F3442 16 0 (by omega)).trans ((ho3438 16 0 (Or.inl (by omega))).trans ((O3437.2.2 16 1000 0 (tv16 hg3436) (show (16 ≠ 15 ∨ 0 < 2) ∧ 16 ≠ 27 ∧ 16 ≠ 19 ∧ 16 ≠ 21 ∧ 16 ≠ 24 ∧ 16 ≠ 26 ∧ ((16 ≠ 18 ∧ 16 ≠ 20 ∧ 16 ≠ 23 ∧ 16 ≠ 25) ∨ 0 ≠ 1) by omega)).trans (ho3436 16 0 (Or.inl (by omega)))))).trans al.2.1, ((F3442 16 1 (by omega)).trans ((ho3438 16 1 (Or.inl (by omega))).trans ((O3437.2.2 16 1000 1 (tv16 hg3436) (show (16 ≠ 15 ∨ 1 < 2) ∧ 16 ≠ 27 ∧ 16 ≠ 19 ∧ 16 ≠ 21 ∧ 16 ≠ 24 ∧ 16 ≠ 26 ∧ ((16 ≠ 18 ∧ 16 ≠ 20 ∧ 16 ≠ 23 ∧ 16 ≠ 25) ∨ 1 ≠ 1) by omega)).trans (ho3436 16 1 (Or.inl (by omega)))))).trans al.2.2.1, ⟨rwC_up w13437 ((F3442 18 1 (by omega)).trans (ho3438 18 1 (Or.inl (by omega)))) (fun j => ((F3442 19 j (by omega)).trans (ho3438 19 j (Or.inl (by omega))))), rwC_up w23437 ((F3442 20 1 (by omega)).trans (ho3438 20 1 (Or.inl (by omega)))) (fun j => ((F3442 21 j (by omega)).trans (ho3438 21 j (Or.inl (by omega)))))⟩, ⟨rwC_up w33437 ((F3442 23 1 (by omega)).trans (ho3438 23 1 (Or.inl (by omega)))) (fun j => ((F3442 24 j (by omega)).trans (ho3438 24 j (Or.inl (by omega))))), rwC_up w43437 ((F3442 25 1 (by omega)).trans (ho3438 25 1 (Or.inl (by omega)))) (fun j => ((F3442 26 j (by omega)).trans (ho3438 26 j (Or.inl (by omega)))))⟩⟩
    have tB3448 := tyB_of hg3442 (Or.inl ⟨rfl, rfl⟩) (tv16 hg3442) bB3448.1 bB3448.2.1 lB3448
    refine y_cV (i := .invokevirtual 88) (len := 3) (r := (0, 109, 9, 1059)) (nL := 2) (k := 0) (n := 2) (hs := []) (args := [.inl (some 2), .inl (some 16)]) (rest := []) (l0 := [some (.inl (some 2)), some (.inl (some 16))]) (by decide +kernel) (Or.inr (Or.inl ⟨_, rfl⟩)) rfl rfl rfl rfl (Nat.le_of_ble_eq_true rfl) (zO hg3442 (tv2 hg3442) aw1000 rfl) rfl (qV_le (by decide) (e_cpb hg3442 (tv2 hg3442) (tv16 hg3442) (tyB_of hg3442 hu3442 (tv2 hg3442) b23442.1 b23442.2.1 l23442) tB3448 hu3442 (Or.inl ⟨rfl, rfl⟩) l23442 lB3448 b23442.1 b23442.2.1 bB3448 (by omega))) (fun h3448 hR3448 => ?_)
    obtain ⟨hg3448, b3448, l3448, F3448⟩ := hR3448
    have rc3448 : RC h3448 ((lp3437, lc3437), (rp3437, rr3437)) (psh hs cur) := RC_set rc3442 ⟨u3442, v3442, hu3442, l3448, b3448⟩ (fun k j h1 => F3448 k j (by omega))
    refine y_same (i := .aload_n 0) (len := 1) (r := (0, 0, 0, 0)) (pc' := 91) (ls' := [some (.inl (some 0)), some (zi xn), some (zi y3437)]) (st' := [.inl (some 0)]) (by decide +kernel) (fun k q => by cases q) rfl ?_
    refine y_cV (i := .invokevirtual 91) (len := 3) (r := (0, 154, 11, 474)) (nL := 1) (k := 0) (n := 1) (hs := []) (args := [.inl (some 0)]) (rest := []) (l0 := [some (.inl (some 0))]) (by decide +kernel) (Or.inr (Or.inl ⟨_, rfl⟩)) rfl rfl rfl rfl (Nat.le_of_ble_eq_true rfl) (zO hg3448 (tv0 hg3448) aw0 rfl) rfl (qV_le (by decide) (c_forgJ (d := 0) hg3448)) (fun h3449 hR3449 => ?_)
    obtain ⟨hg3449, F3449, jx3449, jh3449, je3449⟩ := hR3449
    refine y_same (i := .aload_n 0) (len := 1) (r := (0, 0, 0, 0)) (pc' := 95) (ls' := [some (.inl (some 0)), some (zi xn), some (zi y3437)]) (st' := [.inl (some 0)]) (by decide +kernel) (fun k q => by cases q) rfl ?_
    have hv3450 := (F3448 0 5 (by omega)).trans hv3443
    have hv3451 := (F3449 0 5 (by omega)).trans hv3450
    refine y_get (j := 29) (len := 3) (r := (11, 5, 2, 404)) (by decide +kernel) hg3449 (tv0 hg3449) aw0 rfl rfl hv3451 ?_
    refine y_cI (i := .invokevirtual 94) (len := 3) (r := (0, 111, 9, 478)) (nL := 1) (k := 1) (n := 1) (hs := []) (args := [.inl (some 2)]) (rest := []) (l0 := [some (.inl (some 2))]) (by decide +kernel) (Or.inr (Or.inl ⟨_, rfl⟩)) rfl rfl rfl rfl (Nat.le_of_ble_eq_true rfl) (zO hg3449 (tv2 hg3449) aw1000 rfl) rfl (qI_le (by decide) (c_cnt (d := 0) hg3449 (RC_up rc3448 (fun k j h1 => (F3449 k j (by omega)))))) (fun y3452 qy3452 hRy3452 => ?_)
    obtain ⟨rfl, ey3452⟩ := hRy3452
    refine y_rI (len := 1) (r := (0, 0, 0, 0)) (nL := 3) (k := 1) (n9 := 2) (hs := []) (by decide +kernel) rfl rfl ?_
    exact ⟨⟨_, hg3449⟩, ⟨((F3449 44 0 (by omega)).trans ((F3448 44 0 (by omega)).trans ((F3442 44 0 (by omega)).trans ((ho3438 44 0 (Or.inl (by omega))).trans ((O3437.2.2 44 44 0 (tv44 hg3436) (show (44 ≠ 15 ∨ 0 < 2) ∧ 44 ≠ 27 ∧ 44 ≠ 19 ∧ 44 ≠ 21 ∧ 44 ≠ 24 ∧ 44 ≠ 26 ∧ ((44 ≠ 18 ∧ 44 ≠ 20 ∧ 44 ≠ 23 ∧ 44 ≠ 25) ∨ 0 ≠ 1) by omega)).trans (ho3436 44 0 (Or.inl (by omega)))))))), fun j h1 h2 => ((F3449 42 j (by omega)).trans ((F3448 42 j (by omega)).trans ((F3442 42 j (by omega)).trans ((ho3438 42 j (Or.inl (by omega))).trans ((O3437.2.2 42 42 j (tv42 hg3436) (show (42 ≠ 15 ∨ j < 2) ∧ 42 ≠ 27 ∧ 42 ≠ 19 ∧ 42 ≠ 21 ∧ 42 ≠ 24 ∧ 42 ≠ 26 ∧ ((42 ≠ 18 ∧ 42 ≠ 20 ∧ 42 ≠ 23 ∧ 42 ≠ 25) ∨ j ≠ 1) by omega)).trans (ho3436 42 j (Or.inl (by omega)))))))), fun j => ((F3449 51 j (by omega)).trans ((F3448 51 j (by omega)).trans ((F3442 51 j (by omega)).trans ((ho3438 51 j (Or.inl (by omega))).trans ((O3437.2.2 51 51 j (tv51 hg3436) (show (51 ≠ 15 ∨ j < 2) ∧ 51 ≠ 27 ∧ 51 ≠ 19 ∧ 51 ≠ 21 ∧ 51 ≠ 24 ∧ 51 ≠ 26 ∧ ((51 ≠ 18 ∧ 51 ≠ 20 ∧ 51 ≠ 23 ∧ 51 ≠ 25) ∨ j ≠ 1) by omega)).trans (ho3436 51 j (Or.inl (by omega))))))))⟩, ⟨fun j h1 h2 => ((F3449 52 j (by omega)).trans ((F3448 52 j (by omega)).trans ((F3442 52 j (by omega)).trans ((ho3438 52 j (Or.inl (by omega))).trans ((O3437.2.2 52 52 j (t52 hg3436) (show (52 ≠ 15 ∨ j < 2) ∧ 52 ≠ 27 ∧ 52 ≠ 19 ∧ 52 ≠ 21 ∧ 52 ≠ 24 ∧ 52 ≠ 26 ∧ ((52 ≠ 18 ∧ 52 ≠ 20 ∧ 52 ≠ 23 ∧ 52 ≠ 25) ∨ j ≠ 1) by omega)).trans (ho3436 52 j (Or.inl (by omega)))))))), fun j => ((F3449 387 j (by omega)).trans ((F3448 387 j (by omega)).trans ((F3442 387 j (by omega)).trans ((ho3438 387 j (Or.inl (by omega))).trans ((O3437.2.2 387 387 j (tu387 hg3436) (show (387 ≠ 15 ∨ j < 2) ∧ 387 ≠ 27 ∧ 387 ≠ 19 ∧ 387 ≠ 21 ∧ 387 ≠ 24 ∧ 387 ≠ 26 ∧ ((387 ≠ 18 ∧ 387 ≠ 20 ∧ 387 ≠ 23 ∧ 387 ≠ 25) ∨ j ≠ 1) by omega)).trans (ho3436 387 j (Or.inl (by omega))))))))⟩, ((F3449 52 47 (by omega)).trans ((F3448 52 47 (by omega)).trans ((F3442 52 47 (by omega)).trans ((ho3438 52 47 (Or.inl (by omega))).trans ((O3437.2.2 52 52 47 (t52 hg3436) (show (52 ≠ 15 ∨ 47 < 2) ∧ 52 ≠ 27 ∧ 52 ≠ 19 ∧ 52 ≠ 21 ∧ 52 ≠ 24 ∧ 52 ≠ 26 ∧ ((52 ≠ 18 ∧ 52 ≠ 20 ∧ 52 ≠ 23 ∧ 52 ≠ 25) ∨ 47 ≠ 1) by omega)).trans (ho3436 52 47 (Or.inl (by omega)))))))), Or.inr ⟨_, jh3449, by omega⟩⟩
  ·
    refine y_same (i := .istore_n 2) (len := 1) (r := (0, 0, 0, 0)) (pc' := 39) (ls' := [some (.inl (some 0)), some (zi xn), some (zi y3437)]) (st' := []) (by decide +kernel) (fun k q => by cases q) rfl ?_
    refine y_same (i := .aload_n 0) (len := 1) (r := (0, 0, 0, 0)) (pc' := 40) (ls' := [some (.inl (some 0)), some (zi xn), some (zi y3437)]) (st' := [.inl (some 0)]) (by decide +kernel) (fun k q => by cases q) rfl ?_
    refine y_same (i := .aload_n 0) (len := 1) (r := (0, 0, 0, 0)) (pc' := 41) (ls' := [some (.inl (some 0)), some (zi xn), some (zi y3437)]) (st' := [.inl (some 0), .inl (some 0)]) (by decide +kernel) (fun k q => by cases q) rfl ?_
    refine y_get (j := 43) (len := 3) (r := (11, 7, 2, 406)) (by decide +kernel) O3437.2.1 (tv0 O3437.2.1) aw0 rfl rfl (g_rU (f := 7) (T2 := 15) O3437.2.1 (tv0 O3437.2.1) aw0 rfl (by decide)) ?_
    refine y_get (j := 77) (len := 3) (r := (5, 5, 0, 20247)) (by decide +kernel) O3437.2.1 (tv15 O3437.2.1) aw15 rfl rfl hw3437 ?_
    refine y_put (j := 17) (lo := (-2147483648)) (hi := 2147483647) (len := 3) (r := (11, 2, 0, 401)) (by decide +kernel) O3437.2.1 (tv0 O3437.2.1) aw0 rfl rfl (by decide) rfl (qin_full _).1 (qin_full _).2 rfl (fun h3453 hg3453 hl3453 hs3453 ho3453 => ?_)
    have ho3453 : hO 0 2 h3437 h3453 := ho3453
    have hs3453 : hsl h3453 0 2 = some (zi xw3437) := hs3453
    refine y_same (i := .iload_n 2) (len := 1) (r := (0, 0, 0, 0)) (pc' := 51) (ls' := [some (.inl (some 0)), some (zi xn), some (zi y3437)]) (st' := [zi y3437]) (by decide +kernel) (fun k q => by cases q) rfl ?_
    refine y_iF (c := .ne) (off := 14) (len := 3) (r := (0, 0, 0, 0)) (by decide +kernel) (acmpF (c := .ne) (by show _ = _; omega)) ?_
    refine y_same (i := .aload_n 0) (len := 1) (r := (0, 0, 0, 0)) (pc' := 55) (ls' := [some (.inl (some 0)), some (zi xn), some (zi y3437)]) (st' := [.inl (some 0)]) (by decide +kernel) (fun k q => by cases q) rfl ?_
    refine y_get (j := 43) (len := 3) (r := (11, 7, 2, 406)) (by decide +kernel) hg3453 (tv0 hg3453) aw0 rfl rfl (g_rU (f := 7) (T2 := 15) hg3453 (tv0 hg3453) aw0 rfl (by decide)) ?_
    have hv3454 := (ho3453 15 4 (Or.inl (by omega))).trans hr3437
    refine y_get (j := 80) (len := 3) (r := (5, 4, 0, 20245)) (by decide +kernel) hg3453 (tv15 hg3453) aw15 rfl rfl hv3454 ?_
    refine y_bi (c := 10) (len := 2) (r := (0, 0, 0, 0)) (by decide +kernel) (by decide) (fun y3455 hy3455 => ?_)
    refine y_bp (i := .isub) (f := fun x y => x - y) (len := 1) (r := (0, 0, 0, 0)) (by decide +kernel) rfl rfl (fun y3456 hy3456 => ?_)
    refine y_rI (len := 1) (r := (0, 0, 0, 0)) (nL := 3) (k := 1) (n9 := 2) (hs := []) (by decide +kernel) rfl rfl ?_
    exact ⟨⟨_, hg3453⟩, ⟨((ho3453 44 0 (Or.inl (by omega))).trans ((O3437.2.2 44 44 0 (tv44 hg3436) (show (44 ≠ 15 ∨ 0 < 2) ∧ 44 ≠ 27 ∧ 44 ≠ 19 ∧ 44 ≠ 21 ∧ 44 ≠ 24 ∧ 44 ≠ 26 ∧ ((44 ≠ 18 ∧ 44 ≠ 20 ∧ 44 ≠ 23 ∧ 44 ≠ 25) ∨ 0 ≠ 1) by omega)).trans (ho3436 44 0 (Or.inl (by omega))))), fun j h1 h2 => ((ho3453 42 j (Or.inl (by omega))).trans ((O3437.2.2 42 42 j (tv42 hg3436) (show (42 ≠ 15 ∨ j < 2) ∧ 42 ≠ 27 ∧ 42 ≠ 19 ∧ 42 ≠ 21 ∧ 42 ≠ 24 ∧ 42 ≠ 26 ∧ ((42 ≠ 18 ∧ 42 ≠ 20 ∧ 42 ≠ 23 ∧ 42 ≠ 25) ∨ j ≠ 1) by omega)).trans (ho3436 42 j (Or.inl (by omega))))), fun j => ((ho3453 51 j (Or.inl (by omega))).trans ((O3437.2.2 51 51 j (tv51 hg3436) (show (51 ≠ 15 ∨ j < 2) ∧ 51 ≠ 27 ∧ 51 ≠ 19 ∧ 51 ≠ 21 ∧ 51 ≠ 24 ∧ 51 ≠ 26 ∧ ((51 ≠ 18 ∧ 51 ≠ 20 ∧ 51 ≠ 23 ∧ 51 ≠ 25) ∨ j ≠ 1) by omega)).trans (ho3436 51 j (Or.inl (by omega)))))⟩, ⟨fun j h1 h2 => ((ho3453 52 j (Or.inl (by omega))).trans ((O3437.2.2 52 52 j (t52 hg3436) (show (52 ≠ 15 ∨ j < 2) ∧ 52 ≠ 27 ∧ 52 ≠ 19 ∧ 52 ≠ 21 ∧ 52 ≠ 24 ∧ 52 ≠ 26 ∧ ((52 ≠ 18 ∧ 52 ≠ 20 ∧ 52 ≠ 23 ∧ 52 ≠ 25) ∨ j ≠ 1) by omega)).trans (ho3436 52 j (Or.inl (by omega))))), fun j => ((ho3453 387 j (Or.inl (by omega))).trans ((O3437.2.2 387 387 j (tu387 hg3436) (show (387 ≠ 15 ∨ j < 2) ∧ 387 ≠ 27 ∧ 387 ≠ 19 ∧ 387 ≠ 21 ∧ 387 ≠ 24 ∧ 387 ≠ 26 ∧ ((387 ≠ 18 ∧ 387 ≠ 20 ∧ 387 ≠ 23 ∧ 387 ≠ 25) ∨ j ≠ 1) by omega)).trans (ho3436 387 j (Or.inl (by omega)))))⟩, ((ho3453 52 47 (Or.inl (by omega))).trans ((O3437.2.2 52 52 47 (t52 hg3436) (show (52 ≠ 15 ∨ 47 < 2) ∧ 52 ≠ 27 ∧ 52 ≠ 19 ∧ 52 ≠ 21 ∧ 52 ≠ 24 ∧ 52 ≠ 26 ∧ ((52 ≠ 18 ∧ 52 ≠ 20 ∧ 52 ≠ 23 ∧ 52 ≠ 25) ∨ 47 ≠ 1) by omega)).trans (ho3436 52 47 (Or.inl (by omega))))), Or.inl ⟨⟨_, e3437⟩, ((ho3453 42 5 (Or.inl (by omega))).trans ((O3437.2.2 42 42 5 (tv42 hg3436) (show (42 ≠ 15 ∨ 5 < 2) ∧ 42 ≠ 27 ∧ 42 ≠ 19 ∧ 42 ≠ 21 ∧ 42 ≠ 24 ∧ 42 ≠ 26 ∧ ((42 ≠ 18 ∧ 42 ≠ 20 ∧ 42 ≠ 23 ∧ 42 ≠ 25) ∨ 5 ≠ 1) by omega)).trans (ho3436 42 5 (Or.inl (by omega)))))⟩⟩
theorem j_ltext {t n T : Nat} {b : Nat → Int} {τ : List Nat} {h : zh} {xn xT : Int32} {cur : bsT} {hs : List bsT} (hg : hG τ h) (rc : RC h cur hs) (r5 : hsl h 0 5 = some (.inl (some 2))) (al : alC h) (hT : hsl h 0 1 = some (zi xT)) (eT : xT.toInt = (T : Int)) (hT2 : T ≤ 200) (en : xn.toInt = (n : Int)) (hn : n ≤ T) (hb : ∀ j, j < n → ∃ x : Int32, hsl h 1 j = some (zi x) ∧ x.toInt = b j) : qI 60 276 [some (.inl (some 0)), some (zi xn), some (.inl (some 388)), none] h t (fun y h1 => kpJC h h1 ∧ kpJM h h1 ∧ hsl h1 52 47 = hsl h 52 47 ∧ ((∃ r, wAll b n = .inl r) ∧ hsl h1 42 5 = hsl h 42 5 ∨ ci_ h1 42 5 0)) := by
  refine qI_le (d := 32) (by decide) (qI_of ?_)
  refine y_same (i := .aload_n 2) (len := 1) (r := (0, 0, 0, 0)) (pc' := 1) (ls' := [some (.inl (some 0)), some (zi xn), some (.inl (some 388)), none]) (st' := [.inl (some 388)]) (by decide +kernel) (fun k q => by cases q) rfl ?_
  refine y_ic (c := 0) (len := 1) (r := (0, 0, 0, 0)) (by decide +kernel) (by decide) (fun y3457 hy3457 => ?_)
  refine y_same (i := .aload_n 0) (len := 1) (r := (0, 0, 0, 0)) (pc' := 3) (ls' := [some (.inl (some 0)), some (zi xn), some (.inl (some 388)), none]) (st' := [.inl (some 0), zi y3457, .inl (some 388)]) (by decide +kernel) (fun k q => by cases q) rfl ?_
  refine y_same (i := .iload_n 1) (len := 1) (r := (0, 0, 0, 0)) (pc' := 4) (ls' := [some (.inl (some 0)), some (zi xn), some (.inl (some 388)), none]) (st' := [zi xn, .inl (some 0), zi y3457, .inl (some 388)]) (by decide +kernel) (fun k q => by cases q) rfl ?_
  refine y_cI (i := .invokevirtual 7) (len := 3) (r := (0, 133, 11, 848)) (nL := 3) (k := 1) (n := 2) (hs := []) (args := [.inl (some 0), zi xn]) (rest := [zi y3457, .inl (some 388)]) (l0 := [some (.inl (some 0)), some (zi xn), none]) (by decide +kernel) (Or.inr (Or.inl ⟨_, rfl⟩)) rfl rfl rfl rfl (Nat.le_of_ble_eq_true rfl) (zO hg (tv0 hg) aw0 rfl) rfl (qI_le (by decide) (j_text hg rc r5 al hT eT hT2 en hn hb)) (fun y3458 h3458 hRy3458 => ?_)
  obtain ⟨⟨τ3458, hg3458⟩, k1, k2, k3, k4⟩ := hRy3458
  refine y_i2l2 (len := 1) (r := (0, 0, 0, 0)) (by decide +kernel) ?_
  refine y_las2 (i := 0) (len := 1) (r := (0, 0, 0, 0)) (by decide +kernel) hg3458 (t388 hg3458) aw388 rfl (by omega) (by omega) rfl (fun h3459 hg3459 hw3459 ho3459 => ?_)
  refine y_goto (off := 6) (pc' := 15) (len := 3) (r := (0, 0, 0, 0)) (by decide +kernel) (by decide +kernel) ?_
  refine y_ic (c := 0) (len := 1) (r := (0, 0, 0, 0)) (by decide +kernel) (by decide) (fun y3460 hy3460 => ?_)
  refine y_rI (len := 1) (r := (0, 0, 0, 0)) (nL := 4) (k := 1) (n9 := 3) (hs := [(0, 9, 12, 1)]) (by decide +kernel) rfl rfl ?_
  refine ⟨⟨(ho3459 44 0 (Or.inl (by omega))).trans k1.1, fun j h1 h2 => (ho3459 42 j (Or.inl (by omega))).trans (k1.2.1 j h1 h2), fun j => (ho3459 51 j (Or.inl (by omega))).trans (k1.2.2 j)⟩, ⟨fun j h1 h2 => (ho3459 52 j (Or.inl (by omega))).trans (k2.1 j h1 h2), fun j => (ho3459 387 j (Or.inl (by omega))).trans (k2.2 j)⟩, (ho3459 52 47 (Or.inl (by omega))).trans k3, ?_⟩
  rcases k4 with ⟨q1, q2⟩ | q1
  · exact Or.inl ⟨q1, (ho3459 42 5 (Or.inl (by omega))).trans q2⟩
  · exact Or.inr (ci_up q1 (ho3459 42 5 (Or.inl (by omega))))
