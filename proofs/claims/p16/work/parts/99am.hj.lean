/-! the answers that the model's acts forget -/
theorem m_remJ {t : Nat} {τ : List Nat} {h : zh} {cur : bsT} {hs : List bsT} (hg : hG τ h) (rm : RM h cur hs) : qV 5 186 [some (.inl (some 52)), none] h t (fun h1 => ci_ h1 52 47 0) := by
  obtain ⟨b, r57, ⟨xc, hc, ec⟩, hl, hh⟩ := id rm
  have ec' : ∃ c : Nat, c = hs.length ∧ xc.toInt = (c : Int) := ⟨_, rfl, ec⟩
  obtain ⟨c, c9, ec⟩ := ec'
  refine qV_of ?_
  rcases Decidable.em (c = 10) with q | q
  ·
    refine y_same (i := .aload_n 0) (len := 1) (r := (0, 0, 0, 0)) (pc' := 1) (ls' := [some (.inl (some 52)), none]) (st' := [.inl (some 52)]) (by decide +kernel) (fun k q => by cases q) rfl ?_
    refine y_ic (c := 0) (len := 1) (r := (0, 0, 0, 0)) (by decide +kernel) (by decide) (fun y3471 hy3471 => ?_)
    refine y_put (j := 220) (lo := 0) (hi := 1) (len := 3) (r := (12, 31, 1, 1359)) (by decide +kernel) hg (t52 hg) at52 rfl rfl (by decide) rfl (by omega) (by omega) (zfit_b (by omega) (by omega)).1 (fun h3472 hg3472 hl3472 hs3472 ho3472 => ?_)
    have ho3472 : hO 52 31 h h3472 := ho3472
    have hs3472 : hsl h3472 52 31 = some (zi y3471) := hs3472
    refine y_same (i := .aload_n 0) (len := 1) (r := (0, 0, 0, 0)) (pc' := 6) (ls' := [some (.inl (some 52)), none]) (st' := [.inl (some 52)]) (by decide +kernel) (fun k q => by cases q) rfl ?_
    refine y_ic (c := 0) (len := 1) (r := (0, 0, 0, 0)) (by decide +kernel) (by decide) (fun y3473 hy3473 => ?_)
    refine y_put (j := 224) (lo := 0) (hi := 1) (len := 3) (r := (12, 47, 1, 1375)) (by decide +kernel) hg3472 (t52 hg3472) at52 rfl rfl (by decide) rfl (by omega) (by omega) (zfit_b (by omega) (by omega)).1 (fun h3474 hg3474 hl3474 hs3474 ho3474 => ?_)
    have ho3474 : hO 52 47 h3472 h3474 := ho3474
    have hs3474 : hsl h3474 52 47 = some (zi y3473) := hs3474
    refine y_same (i := .aload_n 0) (len := 1) (r := (0, 0, 0, 0)) (pc' := 11) (ls' := [some (.inl (some 52)), none]) (st' := [.inl (some 52)]) (by decide +kernel) (fun k q => by cases q) rfl ?_
    have hv3475 := (ho3472 52 12 (Or.inr (by omega))).trans hc
    have hv3476 := (ho3474 52 12 (Or.inr (by omega))).trans hv3475
    refine y_get (j := 227) (len := 3) (r := (12, 12, 0, 1340)) (by decide +kernel) hg3474 (t52 hg3474) at52 rfl rfl hv3476 ?_
    refine y_bi (c := 10) (len := 2) (r := (0, 0, 0, 0)) (by decide +kernel) (by decide) (fun y3477 hy3477 => ?_)
    refine y_cF (c := .ne) (off := 46) (len := 3) (r := (0, 0, 0, 0)) (by decide +kernel) (acmpF (c := .ne) (by show _ = _; omega)) ?_
    refine y_ic (c := 1) (len := 1) (r := (0, 0, 0, 0)) (by decide +kernel) (by decide) (fun y3478 hy3478 => ?_)
    refine y_same (i := .istore_n 1) (len := 1) (r := (0, 0, 0, 0)) (pc' := 21) (ls' := [some (.inl (some 52)), some (zi y3478)]) (st' := []) (by decide +kernel) (fun k q => by cases q) rfl ?_
    refine rem_l (τ := τ) (h0 := h3474) (fun k hk => rfs_up (r57 k hk) ((ho3474 57 k (by omega)).trans (ho3472 57 k (by omega)))) (fun he xe ge b1 b2 => ?_) 9 h3474 1 y3478 hg3474 (fun j i hj => by omega) (fun j i _ => rfl) (fun k i _ => rfl) (by omega) (by omega) (by omega) (by omega)
    have hc2 : hsl he 52 12 = some (zi xc) := (b2 52 12 (by omega)).trans (((ho3474 52 12 (by omega)).trans (ho3472 52 12 (by omega))).trans hc)
    refine y_same (i := .aload_n 0) (len := 1) (r := (0, 0, 0, 0)) (pc' := 53) (ls' := [some (.inl (some 52)), some (zi xe)]) (st' := [.inl (some 52)]) (by decide +kernel) (fun k q => by cases q) rfl ?_
    refine y_same (i := .dup) (len := 1) (r := (0, 0, 0, 0)) (pc' := 54) (ls' := [some (.inl (some 52)), some (zi xe)]) (st' := [.inl (some 52), .inl (some 52)]) (by decide +kernel) (fun k q => by cases q) rfl ?_
    refine y_get (j := 227) (len := 3) (r := (12, 12, 0, 1340)) (by decide +kernel) ge (t52 ge) at52 rfl rfl hc2 ?_
    refine y_ic (c := 1) (len := 1) (r := (0, 0, 0, 0)) (by decide +kernel) (by decide) (fun y3461 hy3461 => ?_)
    refine y_sub (len := 1) (r := (0, 0, 0, 0)) (by decide +kernel) (by omega) (by omega) (fun y3462 hy3462 => ?_)
    refine y_put (j := 227) (lo := 0) (hi := 10) (len := 3) (r := (12, 12, 0, 1340)) (by decide +kernel) ge (t52 ge) at52 rfl rfl (by decide) rfl (by omega) (by omega) rfl (fun h3463 hg3463 hl3463 hs3463 ho3463 => ?_)
    have ho3463 : hO 52 12 he h3463 := ho3463
    have hs3463 : hsl h3463 52 12 = some (zi y3462) := hs3463
    refine qX_V (rem_2 (c := 9) hg3463 (fun k hk => rfs_up (r57 k hk) ((ho3463 57 k (by omega)).trans ((b2 57 k (by omega)).trans ((ho3474 57 k (by omega)).trans (ho3472 57 k (by omega)))))) hs3463 (by omega) (by omega)) (fun h1 hR => ?_)
    obtain ⟨g1, c1, c2, F⟩ := hR
    exact ⟨_, (F 52 47 (by omega)).trans ((ho3463 52 47 (by omega)).trans ((b2 52 47 (by omega)).trans hs3474)), by omega⟩
  ·
    refine y_same (i := .aload_n 0) (len := 1) (r := (0, 0, 0, 0)) (pc' := 1) (ls' := [some (.inl (some 52)), none]) (st' := [.inl (some 52)]) (by decide +kernel) (fun k q => by cases q) rfl ?_
    refine y_ic (c := 0) (len := 1) (r := (0, 0, 0, 0)) (by decide +kernel) (by decide) (fun y3464 hy3464 => ?_)
    refine y_put (j := 220) (lo := 0) (hi := 1) (len := 3) (r := (12, 31, 1, 1359)) (by decide +kernel) hg (t52 hg) at52 rfl rfl (by decide) rfl (by omega) (by omega) (zfit_b (by omega) (by omega)).1 (fun h3465 hg3465 hl3465 hs3465 ho3465 => ?_)
    have ho3465 : hO 52 31 h h3465 := ho3465
    have hs3465 : hsl h3465 52 31 = some (zi y3464) := hs3465
    refine y_same (i := .aload_n 0) (len := 1) (r := (0, 0, 0, 0)) (pc' := 6) (ls' := [some (.inl (some 52)), none]) (st' := [.inl (some 52)]) (by decide +kernel) (fun k q => by cases q) rfl ?_
    refine y_ic (c := 0) (len := 1) (r := (0, 0, 0, 0)) (by decide +kernel) (by decide) (fun y3466 hy3466 => ?_)
    refine y_put (j := 224) (lo := 0) (hi := 1) (len := 3) (r := (12, 47, 1, 1375)) (by decide +kernel) hg3465 (t52 hg3465) at52 rfl rfl (by decide) rfl (by omega) (by omega) (zfit_b (by omega) (by omega)).1 (fun h3467 hg3467 hl3467 hs3467 ho3467 => ?_)
    have ho3467 : hO 52 47 h3465 h3467 := ho3467
    have hs3467 : hsl h3467 52 47 = some (zi y3466) := hs3467
    refine y_same (i := .aload_n 0) (len := 1) (r := (0, 0, 0, 0)) (pc' := 11) (ls' := [some (.inl (some 52)), none]) (st' := [.inl (some 52)]) (by decide +kernel) (fun k q => by cases q) rfl ?_
    have hv3468 := (ho3465 52 12 (Or.inr (by omega))).trans hc
    have hv3469 := (ho3467 52 12 (Or.inr (by omega))).trans hv3468
    refine y_get (j := 227) (len := 3) (r := (12, 12, 0, 1340)) (by decide +kernel) hg3467 (t52 hg3467) at52 rfl rfl hv3469 ?_
    refine y_bi (c := 10) (len := 2) (r := (0, 0, 0, 0)) (by decide +kernel) (by decide) (fun y3470 hy3470 => ?_)
    refine y_cT (c := .ne) (off := 46) (pc' := 62) (len := 3) (r := (0, 0, 0, 0)) (by decide +kernel) (acmpT (c := .ne) (by show ¬ (_ = _); omega)) (by decide +kernel) ?_
    refine qX_V (rem_2 (c := c) hg3467 (fun k hk => rfs_up (r57 k hk) ((ho3467 57 k (by omega)).trans (ho3465 57 k (by omega)))) hv3469 (by omega) (by omega)) (fun h1 hR => ?_)
    obtain ⟨g1, c1, c2, F⟩ := hR
    exact ⟨_, (F 52 47 (by omega)).trans hs3467, by omega⟩
theorem m_remB {t : Nat} {τ : List Nat} {h : zh} {cur : bsT} {hs : List bsT} (hg : hG τ h) (rm : RM h cur hs) : qV 5 186 [some (.inl (some 52)), none] h t (fun h1 => (hG τ h1 ∧ RM h1 cur (psh hs cur) ∧ ∀ k j, ((k < 58 ∨ 67 < k) ∧ (k ≠ 52 ∨ (j ≠ 12 ∧ j ≠ 31 ∧ j ≠ 47))) → hsl h1 k j = hsl h k j) ∧ ci_ h1 52 47 0) := by
  obtain ⟨h1, e1, a⟩ := m_rem (t := t) hg rm
  obtain ⟨h2, e2, b⟩ := m_remJ (t := t) hg rm
  have e9 := qE_det e1 e2
  cases e9
  exact ⟨h1, e1, a, b⟩
theorem j_turnM {t : Nat} {τ : List Nat} {h : zh} {cur : bsT} {hs : List bsT} (hg : hG τ h) (rm : RM h cur hs) : qI 60 188 [some (.inl (some 52)), none, none] h t (fun y h1 => ci_ h1 52 47 0) := by
  refine qI_le (d := 21) (by decide) (qI_of ?_)
  refine y_same (i := .aload_n 0) (len := 1) (r := (0, 0, 0, 0)) (pc' := 1) (ls' := [some (.inl (some 52)), none, none]) (st' := [.inl (some 52)]) (by decide +kernel) (fun k q => by cases q) rfl ?_
  refine y_ic (c := 0) (len := 1) (r := (0, 0, 0, 0)) (by decide +kernel) (by decide) (fun y3479 hy3479 => ?_)
  refine y_put (j := 92) (lo := (-2147483648)) (hi := 2147483647) (len := 3) (r := (12, 0, 0, 1328)) (by decide +kernel) hg (t52 hg) at52 rfl rfl (by decide) rfl (qin_full _).1 (qin_full _).2 rfl (fun h3480 hg3480 hl3480 hs3480 ho3480 => ?_)
  have ho3480 : hO 52 0 h h3480 := ho3480
  have hs3480 : hsl h3480 52 0 = some (zi y3479) := hs3480
  refine y_same (i := .aload_n 0) (len := 1) (r := (0, 0, 0, 0)) (pc' := 6) (ls' := [some (.inl (some 52)), none, none]) (st' := [.inl (some 52)]) (by decide +kernel) (fun k q => by cases q) rfl ?_
  refine y_cV (i := .invokevirtual 213) (len := 3) (r := (0, 186, 12, 1568)) (nL := 2) (k := 0) (n := 1) (hs := []) (args := [.inl (some 52)]) (rest := []) (l0 := [some (.inl (some 52)), none]) (by decide +kernel) (Or.inr (Or.inl ⟨_, rfl⟩)) rfl rfl rfl rfl (Nat.le_of_ble_eq_true rfl) (z52 hg3480) rfl (qV_le (by decide) (m_remB hg3480 (RM_up rm (fun k j h1 => (ho3480 k j (by omega)))))) (fun h3481 hR3481 => ?_)
  obtain ⟨⟨hg3481, rm3481, F3481⟩, jx3481, jh3481, je3481⟩ := hR3481
  have le3481 := len55 hg3481 rm3481.1
  obtain ⟨⟨xp03481, hp03481, ep03481⟩, ⟨xc03481, hc03481, ec03481⟩, ip03481, ic03481⟩ := rm3481.1.1
  obtain ⟨⟨xp13481, hp13481, ep13481⟩, ⟨xc13481, hc13481, ec13481⟩, ip13481, ic13481⟩ := rm3481.1.2
  refine y_ic (c := 0) (len := 1) (r := (0, 0, 0, 0)) (by decide +kernel) (by decide) (fun y3482 hy3482 => ?_)
  refine y_same (i := .istore_n 1) (len := 1) (r := (0, 0, 0, 0)) (pc' := 11) (ls' := [some (.inl (some 52)), some (zi y3482), none]) (st' := []) (by decide +kernel) (fun k q => by cases q) rfl ?_
  refine mt_l (τ := τ) (h0 := h3481) (fun he xe le ge b1 b2 => ?_) 46 h3481 0 y3482 _ hg3481 (fun j hj => absurd hj (Nat.not_lt_zero j)) (fun j _ _ => ⟨rfl, rfl⟩) (fun k i _ => rfl) (by omega) (by omega) (by omega)
  have rz : RM he (cur.2, cur.1) (psh hs cur) := RM_set rm3481 ⟨sdM_to rm3481.1.2 le3481.2.2.1 le3481.2.2.2 (fun j hj => by rw [Nat.zero_add]; exact (b1 j hj).1), sdM_to rm3481.1.1 le3481.1 le3481.2.1 (fun j hj => by rw [Nat.zero_add]; exact (b1 j hj).2)⟩ (fun k j hC => b2 k j (by omega))
  have lz := len55 ge rz.1
  simp only at lz
  obtain ⟨⟨xp0z, hp0z, ep0z⟩, ⟨xc0z, hc0z, ec0z⟩, ip0z, ic0z⟩ := rz.1.1
  obtain ⟨⟨xp1z, hp1z, ep1z⟩, ⟨xc1z, hc1z, ec1z⟩, ip1z, ic1z⟩ := rz.1.2
  simp only at ep0z ep1z
  refine y_same (i := .aload_n 0) (len := 1) (r := (0, 0, 0, 0)) (pc' := 56) (ls' := [some (.inl (some 52)), some (zi xe), le]) (st' := [.inl (some 52)]) (by decide +kernel) (fun k q => by cases q) rfl ?_
  refine y_get (j := 20) (len := 3) (r := (12, 9, 2, 1337)) (by decide +kernel) ge (t52 ge) at52 rfl rfl (g_r52 (f := 9) (T2 := 55) ge rfl (by decide)).1 ?_
  refine y_ic (c := 0) (len := 1) (r := (0, 0, 0, 0)) (by decide +kernel) (by decide) (fun y3483 hy3483 => ?_)
  refine y_cI (i := .invokestatic 143) (len := 3) (r := (1, 166, 12, 1543)) (nL := 2) (k := 1) (n := 2) (hs := []) (args := [.inl (some 55), zi y3483]) (rest := []) (l0 := [some (.inl (some 55)), some (zi y3483)]) (by decide +kernel) (Or.inl ⟨_, rfl⟩) rfl rfl rfl rfl (Nat.le_of_ble_eq_true rfl) rfl rfl (qI_le (by decide) (m_parts (d := 0) (s := 0) ge (by omega) (by omega) hp0z)) (fun y3484 qy3484 hRy3484 => ?_)
  obtain ⟨rfl, rfl⟩ := hRy3484
  refine y_same (i := .aload_n 0) (len := 1) (r := (0, 0, 0, 0)) (pc' := 64) (ls' := [some (.inl (some 52)), some (zi xe), le]) (st' := [.inl (some 52), zi xp0z]) (by decide +kernel) (fun k q => by cases q) rfl ?_
  refine y_get (j := 20) (len := 3) (r := (12, 9, 2, 1337)) (by decide +kernel) ge (t52 ge) at52 rfl rfl (g_r52 (f := 9) (T2 := 55) ge rfl (by decide)).1 ?_
  refine y_ic (c := 1) (len := 1) (r := (0, 0, 0, 0)) (by decide +kernel) (by decide) (fun y3485 hy3485 => ?_)
  refine y_cI (i := .invokestatic 143) (len := 3) (r := (1, 166, 12, 1543)) (nL := 2) (k := 1) (n := 2) (hs := []) (args := [.inl (some 55), zi y3485]) (rest := [zi xp0z]) (l0 := [some (.inl (some 55)), some (zi y3485)]) (by decide +kernel) (Or.inl ⟨_, rfl⟩) rfl rfl rfl rfl (Nat.le_of_ble_eq_true rfl) rfl rfl (qI_le (by decide) (m_parts (d := 0) (s := 1) ge (by omega) (by omega) hp1z)) (fun y3486 qy3486 hRy3486 => ?_)
  obtain ⟨rfl, rfl⟩ := hRy3486
  refine y_add (len := 1) (r := (0, 0, 0, 0)) (by decide +kernel) (by omega) (by omega) (fun y3487 hy3487 => ?_)
  refine y_rI (len := 1) (r := (0, 0, 0, 0)) (nL := 3) (k := 1) (n9 := 1) (hs := []) (by decide +kernel) rfl rfl ?_
  exact ⟨_, (b2 52 47 (by omega)).trans jh3481, by omega⟩
theorem j_undoM {t : Nat} {τ : List Nat} {h : zh} {cur : bsT} {hs : List bsT} (hg : hG τ h) (rm : RM h cur hs) : qI 60 187 [some (.inl (some 52))] h t (fun y h1 => (hs = [] ∧ hsl h1 52 47 = hsl h 52 47) ∨ ci_ h1 52 47 0) := by
  obtain ⟨b0, r57, ⟨xc, hc, ec⟩, hl, hh⟩ := id rm
  refine qI_le (d := 21) (by decide) (qI_of ?_)
  rcases List.eq_nil_or_concat hs with e | ⟨hs', b, e⟩
  · subst e
    have ec : xc.toInt = 0 := ec
    refine y_same (i := .aload_n 0) (len := 1) (r := (0, 0, 0, 0)) (pc' := 1) (ls' := [some (.inl (some 52))]) (st' := [.inl (some 52)]) (by decide +kernel) (fun k q => by cases q) rfl ?_
    refine y_ic (c := 0) (len := 1) (r := (0, 0, 0, 0)) (by decide +kernel) (by decide) (fun y3488 hy3488 => ?_)
    refine y_put (j := 92) (lo := (-2147483648)) (hi := 2147483647) (len := 3) (r := (12, 0, 0, 1328)) (by decide +kernel) hg (t52 hg) at52 rfl rfl (by decide) rfl (qin_full _).1 (qin_full _).2 rfl (fun h3489 hg3489 hl3489 hs3489 ho3489 => ?_)
    have ho3489 : hO 52 0 h h3489 := ho3489
    have hs3489 : hsl h3489 52 0 = some (zi y3488) := hs3489
    refine y_same (i := .aload_n 0) (len := 1) (r := (0, 0, 0, 0)) (pc' := 6) (ls' := [some (.inl (some 52))]) (st' := [.inl (some 52)]) (by decide +kernel) (fun k q => by cases q) rfl ?_
    have hv3490 := (ho3489 52 12 (Or.inr (by omega))).trans hc
    refine y_get (j := 227) (len := 3) (r := (12, 12, 0, 1340)) (by decide +kernel) hg3489 (t52 hg3489) at52 rfl rfl hv3490 ?_
    refine y_iF (c := .ne) (off := 5) (len := 3) (r := (0, 0, 0, 0)) (by decide +kernel) (acmpF (c := .ne) (by show _ = _; omega)) ?_
    refine y_ic (c := (-1)) (len := 1) (r := (0, 0, 0, 0)) (by decide +kernel) (by decide) (fun y3491 hy3491 => ?_)
    refine y_rI (len := 1) (r := (0, 0, 0, 0)) (nL := 1) (k := 1) (n9 := 1) (hs := []) (by decide +kernel) rfl rfl ?_
    exact Or.inl ⟨rfl, (ho3489 52 47 (by omega))⟩
  · rw [List.concat_eq_append] at e
    subst e
    have hlen : (hs' ++ [b]).length = hs'.length + 1 := by rw [List.length_append]; rfl
    refine y_same (i := .aload_n 0) (len := 1) (r := (0, 0, 0, 0)) (pc' := 1) (ls' := [some (.inl (some 52))]) (st' := [.inl (some 52)]) (by decide +kernel) (fun k q => by cases q) rfl ?_
    refine y_ic (c := 0) (len := 1) (r := (0, 0, 0, 0)) (by decide +kernel) (by decide) (fun y3492 hy3492 => ?_)
    refine y_put (j := 92) (lo := (-2147483648)) (hi := 2147483647) (len := 3) (r := (12, 0, 0, 1328)) (by decide +kernel) hg (t52 hg) at52 rfl rfl (by decide) rfl (qin_full _).1 (qin_full _).2 rfl (fun h3493 hg3493 hl3493 hs3493 ho3493 => ?_)
    have ho3493 : hO 52 0 h h3493 := ho3493
    have hs3493 : hsl h3493 52 0 = some (zi y3492) := hs3493
    refine y_same (i := .aload_n 0) (len := 1) (r := (0, 0, 0, 0)) (pc' := 6) (ls' := [some (.inl (some 52))]) (st' := [.inl (some 52)]) (by decide +kernel) (fun k q => by cases q) rfl ?_
    have hv3494 := (ho3493 52 12 (Or.inr (by omega))).trans hc
    refine y_get (j := 227) (len := 3) (r := (12, 12, 0, 1340)) (by decide +kernel) hg3493 (t52 hg3493) at52 rfl rfl hv3494 ?_
    refine y_iT (c := .ne) (off := 5) (pc' := 14) (len := 3) (r := (0, 0, 0, 0)) (by decide +kernel) (acmpT (c := .ne) (by show ¬ (_ = _); omega)) (by decide +kernel) ?_
    refine y_same (i := .aload_n 0) (len := 1) (r := (0, 0, 0, 0)) (pc' := 15) (ls' := [some (.inl (some 52))]) (st' := [.inl (some 52)]) (by decide +kernel) (fun k q => by cases q) rfl ?_
    refine y_same (i := .dup) (len := 1) (r := (0, 0, 0, 0)) (pc' := 16) (ls' := [some (.inl (some 52))]) (st' := [.inl (some 52), .inl (some 52)]) (by decide +kernel) (fun k q => by cases q) rfl ?_
    refine y_get (j := 227) (len := 3) (r := (12, 12, 0, 1340)) (by decide +kernel) hg3493 (t52 hg3493) at52 rfl rfl hv3494 ?_
    refine y_ic (c := 1) (len := 1) (r := (0, 0, 0, 0)) (by decide +kernel) (by decide) (fun y3495 hy3495 => ?_)
    refine y_sub (len := 1) (r := (0, 0, 0, 0)) (by decide +kernel) (by omega) (by omega) (fun y3496 hy3496 => ?_)
    refine y_put (j := 227) (lo := 0) (hi := 10) (len := 3) (r := (12, 12, 0, 1340)) (by decide +kernel) hg3493 (t52 hg3493) at52 rfl rfl (by decide) rfl (by omega) (by omega) rfl (fun h3497 hg3497 hl3497 hs3497 ho3497 => ?_)
    have ho3497 : hO 52 12 h3493 h3497 := ho3497
    have hs3497 : hsl h3497 52 12 = some (zi y3496) := hs3497
    refine y_same (i := .aload_n 0) (len := 1) (r := (0, 0, 0, 0)) (pc' := 25) (ls' := [some (.inl (some 52))]) (st' := [.inl (some 52)]) (by decide +kernel) (fun k q => by cases q) rfl ?_
    refine y_get (j := 28) (len := 3) (r := (12, 11, 2, 1339)) (by decide +kernel) hg3497 (t52 hg3497) at52 rfl rfl (g_r52 (f := 11) (T2 := 57) hg3497 rfl (by decide)).1 ?_
    refine y_same (i := .aload_n 0) (len := 1) (r := (0, 0, 0, 0)) (pc' := 29) (ls' := [some (.inl (some 52))]) (st' := [.inl (some 52), .inl (some 57)]) (by decide +kernel) (fun k q => by cases q) rfl ?_
    refine y_get (j := 227) (len := 3) (r := (12, 12, 0, 1340)) (by decide +kernel) hg3497 (t52 hg3497) at52 rfl rfl hs3497 ?_
    refine y_aal (i := ((hs'.length + 1) - 1)) (len := 1) (r := (0, 0, 0, 0)) (by decide +kernel) hg3497 (tv57 hg3497) av57 rfl (by omega) (((ho3497 57 ((hs'.length + 1) - 1) (by omega)).trans (ho3493 57 ((hs'.length + 1) - 1) (by omega))).trans (r57 ((hs'.length + 1) - 1) (by omega))) ?_
    refine y_same (i := .aload_n 0) (len := 1) (r := (0, 0, 0, 0)) (pc' := 34) (ls' := [some (.inl (some 52))]) (st' := [.inl (some 52), .inl (some ((58 + ((hs'.length + 1) - 1))))]) (by decide +kernel) (fun k q => by cases q) rfl ?_
    refine y_get (j := 20) (len := 3) (r := (12, 9, 2, 1337)) (by decide +kernel) hg3497 (t52 hg3497) at52 rfl rfl (g_r52 (f := 9) (T2 := 55) hg3497 rfl (by decide)).1 ?_
    refine y_bi (c := 92) (len := 2) (r := (0, 0, 0, 0)) (by decide +kernel) (by decide) (fun y3498 hy3498 => ?_)
    refine y_cV (i := .invokestatic 216) (len := 3) (r := (1, 185, 12, 1572)) (nL := 4) (k := 0) (n := 3) (hs := []) (args := [.inl (some ((58 + ((hs'.length + 1) - 1)))), .inl (some 55), zi y3498]) (rest := []) (l0 := [some (.inl (some ((58 + ((hs'.length + 1) - 1))))), some (.inl (some 55)), some (zi y3498), none]) (by decide +kernel) (Or.inl ⟨_, rfl⟩) rfl rfl rfl rfl (Nat.le_of_ble_eq_true rfl) rfl rfl (qV_le (by decide) (e_mcp (d := 0) hg3497 (tvP (k := ((hs'.length + 1) - 1)) hg3497 (by omega)) (tv55 hg3497) av1011 av55 rfl (by omega) (by omega))) (fun h3499 hR3499 => ?_)
    obtain ⟨hg3499, C3499, F3499⟩ := hR3499
    refine y_same (i := .aload_n 0) (len := 1) (r := (0, 0, 0, 0)) (pc' := 43) (ls' := [some (.inl (some 52))]) (st' := [.inl (some 52)]) (by decide +kernel) (fun k q => by cases q) rfl ?_
    refine y_ic (c := 0) (len := 1) (r := (0, 0, 0, 0)) (by decide +kernel) (by decide) (fun y3500 hy3500 => ?_)
    refine y_put (j := 220) (lo := 0) (hi := 1) (len := 3) (r := (12, 31, 1, 1359)) (by decide +kernel) hg3499 (t52 hg3499) at52 rfl rfl (by decide) rfl (by omega) (by omega) (zfit_b (by omega) (by omega)).1 (fun h3501 hg3501 hl3501 hs3501 ho3501 => ?_)
    have ho3501 : hO 52 31 h3499 h3501 := ho3501
    have hs3501 : hsl h3501 52 31 = some (zi y3500) := hs3501
    refine y_same (i := .aload_n 0) (len := 1) (r := (0, 0, 0, 0)) (pc' := 48) (ls' := [some (.inl (some 52))]) (st' := [.inl (some 52)]) (by decide +kernel) (fun k q => by cases q) rfl ?_
    refine y_ic (c := 0) (len := 1) (r := (0, 0, 0, 0)) (by decide +kernel) (by decide) (fun y3502 hy3502 => ?_)
    refine y_put (j := 224) (lo := 0) (hi := 1) (len := 3) (r := (12, 47, 1, 1375)) (by decide +kernel) hg3501 (t52 hg3501) at52 rfl rfl (by decide) rfl (by omega) (by omega) (zfit_b (by omega) (by omega)).1 (fun h3503 hg3503 hl3503 hs3503 ho3503 => ?_)
    have ho3503 : hO 52 47 h3501 h3503 := ho3503
    have hs3503 : hsl h3503 52 47 = some (zi y3502) := hs3503
    refine y_same (i := .aload_n 0) (len := 1) (r := (0, 0, 0, 0)) (pc' := 53) (ls' := [some (.inl (some 52))]) (st' := [.inl (some 52)]) (by decide +kernel) (fun k q => by cases q) rfl ?_
    have hv3504 := (F3499 52 12 (by omega)).trans hs3497
    have hv3505 := (ho3501 52 12 (Or.inr (by omega))).trans hv3504
    have hv3506 := (ho3503 52 12 (Or.inr (by omega))).trans hv3505
    refine y_get (j := 227) (len := 3) (r := (12, 12, 0, 1340)) (by decide +kernel) hg3503 (t52 hg3503) at52 rfl rfl hv3506 ?_
    refine y_rI (len := 1) (r := (0, 0, 0, 0)) (nL := 1) (k := 1) (n9 := 1) (hs := []) (by decide +kernel) rfl rfl ?_
    exact Or.inr ⟨_, hs3503, by omega⟩
theorem j_dropM0 {t k : Nat} {τ : List Nat} {h : zh} {cur : bsT} {hs : List bsT} {x xk : Int32} (hg : hG τ h) (rm : RM h cur hs) (hx : x.toInt = 0) (exk : xk.toInt = (k : Int)) (hk : k < cur.1.1.length) : qI 60 190 [some (.inl (some 52)), some (zi x), some (zi xk)] h t (fun y h1 => ci_ h1 52 47 0) := by
  refine qI_le (d := 21) (by decide) (qI_of ?_)
  have lz := len55 hg rm.1
  obtain ⟨⟨xp0z, hp0z, ep0z⟩, ⟨xc0z, hc0z, ec0z⟩, ip0z, ic0z⟩ := rm.1.1
  obtain ⟨⟨xp1z, hp1z, ep1z⟩, ⟨xc1z, hc1z, ec1z⟩, ip1z, ic1z⟩ := rm.1.2
  refine y_same (i := .aload_n 0) (len := 1) (r := (0, 0, 0, 0)) (pc' := 1) (ls' := [some (.inl (some 52)), some (zi x), some (zi xk)]) (st' := [.inl (some 52)]) (by decide +kernel) (fun k q => by cases q) rfl ?_
  refine y_ic (c := 0) (len := 1) (r := (0, 0, 0, 0)) (by decide +kernel) (by decide) (fun y3507 hy3507 => ?_)
  refine y_put (j := 92) (lo := (-2147483648)) (hi := 2147483647) (len := 3) (r := (12, 0, 0, 1328)) (by decide +kernel) hg (t52 hg) at52 rfl rfl (by decide) rfl (qin_full _).1 (qin_full _).2 rfl (fun h3508 hg3508 hl3508 hs3508 ho3508 => ?_)
  have ho3508 : hO 52 0 h h3508 := ho3508
  have hs3508 : hsl h3508 52 0 = some (zi y3507) := hs3508
  refine y_same (i := .aload_n 0) (len := 1) (r := (0, 0, 0, 0)) (pc' := 6) (ls' := [some (.inl (some 52)), some (zi x), some (zi xk)]) (st' := [.inl (some 52)]) (by decide +kernel) (fun k q => by cases q) rfl ?_
  refine y_same (i := .iload_n 1) (len := 1) (r := (0, 0, 0, 0)) (pc' := 7) (ls' := [some (.inl (some 52)), some (zi x), some (zi xk)]) (st' := [zi x, .inl (some 52)]) (by decide +kernel) (fun k q => by cases q) rfl ?_
  refine y_ic (c := 0) (len := 1) (r := (0, 0, 0, 0)) (by decide +kernel) (by decide) (fun y3509 hy3509 => ?_)
  refine y_ic (c := 1) (len := 1) (r := (0, 0, 0, 0)) (by decide +kernel) (by decide) (fun y3510 hy3510 => ?_)
  refine y_cI (i := .invokestatic 200) (len := 3) (r := (1, 162, 12, 1486)) (nL := 3) (k := 2) (n := 3) (hs := []) (args := [zi x, zi y3509, zi y3510]) (rest := [.inl (some 52)]) (l0 := [some (zi x), some (zi y3509), some (zi y3510)]) (by decide +kernel) (Or.inl ⟨_, rfl⟩) rfl rfl rfl rfl (Nat.le_of_ble_eq_true rfl) rfl rfl (qI_le (by decide) (m_in (d := 0) (by omega) (by omega))) (fun y3511 qy3511 hRy3511 => ?_)
  obtain ⟨rfl, hy3511⟩ := hRy3511
  refine y_iF (c := .eq) (off := 29) (len := 3) (r := (0, 0, 0, 0)) (by decide +kernel) (acmpF (c := .eq) (by show ¬ (_ = _); omega)) ?_
  refine y_same (i := .iload_n 2) (len := 1) (r := (0, 0, 0, 0)) (pc' := 16) (ls' := [some (.inl (some 52)), some (zi x), some (zi xk)]) (st' := [zi xk, .inl (some 52)]) (by decide +kernel) (fun k q => by cases q) rfl ?_
  refine y_ic (c := 0) (len := 1) (r := (0, 0, 0, 0)) (by decide +kernel) (by decide) (fun y3512 hy3512 => ?_)
  refine y_same (i := .aload_n 0) (len := 1) (r := (0, 0, 0, 0)) (pc' := 18) (ls' := [some (.inl (some 52)), some (zi x), some (zi xk)]) (st' := [.inl (some 52), zi y3512, zi xk, .inl (some 52)]) (by decide +kernel) (fun k q => by cases q) rfl ?_
  refine y_get (j := 20) (len := 3) (r := (12, 9, 2, 1337)) (by decide +kernel) hg3508 (t52 hg3508) at52 rfl rfl (g_r52 (f := 9) (T2 := 55) hg3508 rfl (by decide)).1 ?_
  refine y_ic (c := 1) (len := 1) (r := (0, 0, 0, 0)) (by decide +kernel) (by decide) (fun y3513 hy3513 => ?_)
  refine y_ic (c := 0) (len := 1) (r := (0, 0, 0, 0)) (by decide +kernel) (by decide) (fun y3514 hy3514 => ?_)
  refine y_same (i := .iload_n 1) (len := 1) (r := (0, 0, 0, 0)) (pc' := 24) (ls' := [some (.inl (some 52)), some (zi x), some (zi xk)]) (st' := [zi x, zi y3514, zi y3513, .inl (some 55), zi y3512, zi xk, .inl (some 52)]) (by decide +kernel) (fun k q => by cases q) rfl ?_
  refine y_cI (i := .invokestatic 230) (len := 3) (r := (1, 164, 12, 1591)) (nL := 2) (k := 1) (n := 2) (hs := []) (args := [zi y3514, zi x]) (rest := [zi y3513, .inl (some 55), zi y3512, zi xk, .inl (some 52)]) (l0 := [some (zi y3514), some (zi x)]) (by decide +kernel) (Or.inl ⟨_, rfl⟩) rfl rfl rfl rfl (Nat.le_of_ble_eq_true rfl) rfl rfl (qI_le (by decide) (e_more (d := 0))) (fun y3515 qy3515 hRy3515 => ?_)
  obtain ⟨rfl, my3515, ny3515⟩ := hRy3515
  have ey3515 : y3515.toInt = 0 := by omega
  refine y_cI (i := .invokestatic 233) (len := 3) (r := (1, 163, 12, 1594)) (nL := 2) (k := 1) (n := 2) (hs := []) (args := [zi y3513, zi y3515]) (rest := [.inl (some 55), zi y3512, zi xk, .inl (some 52)]) (l0 := [some (zi y3513), some (zi y3515)]) (by decide +kernel) (Or.inl ⟨_, rfl⟩) rfl rfl rfl rfl (Nat.le_of_ble_eq_true rfl) rfl rfl (qI_le (by decide) (e_less (d := 0))) (fun y3516 qy3516 hRy3516 => ?_)
  obtain ⟨rfl, my3516, ny3516⟩ := hRy3516
  have ey3516 : y3516.toInt = 0 := by omega
  have hv3518 := (ho3508 55 0 (Or.inl (by omega))).trans hp0z
  refine y_cI (i := .invokestatic 143) (len := 3) (r := (1, 166, 12, 1543)) (nL := 2) (k := 1) (n := 2) (hs := []) (args := [.inl (some 55), zi y3516]) (rest := [zi y3512, zi xk, .inl (some 52)]) (l0 := [some (.inl (some 55)), some (zi y3516)]) (by decide +kernel) (Or.inl ⟨_, rfl⟩) rfl rfl rfl rfl (Nat.le_of_ble_eq_true rfl) rfl rfl (qI_le (by decide) (m_parts (d := 0) (s := 0) hg3508 (by omega) (by omega) hv3518)) (fun y3517 qy3517 hRy3517 => ?_)
  obtain ⟨rfl, rfl⟩ := hRy3517
  refine y_ic (c := 1) (len := 1) (r := (0, 0, 0, 0)) (by decide +kernel) (by decide) (fun y3519 hy3519 => ?_)
  refine y_sub (len := 1) (r := (0, 0, 0, 0)) (by decide +kernel) (by omega) (by omega) (fun y3520 hy3520 => ?_)
  refine y_cI (i := .invokestatic 200) (len := 3) (r := (1, 162, 12, 1486)) (nL := 3) (k := 2) (n := 3) (hs := []) (args := [zi xk, zi y3512, zi y3520]) (rest := [.inl (some 52)]) (l0 := [some (zi xk), some (zi y3512), some (zi y3520)]) (by decide +kernel) (Or.inl ⟨_, rfl⟩) rfl rfl rfl rfl (Nat.le_of_ble_eq_true rfl) rfl rfl (qI_le (by decide) (m_in (d := 0) (by omega) (by omega))) (fun y3521 qy3521 hRy3521 => ?_)
  obtain ⟨rfl, hy3521⟩ := hRy3521
  refine y_iT (c := .ne) (off := 7) (pc' := 45) (len := 3) (r := (0, 0, 0, 0)) (by decide +kernel) (acmpT (c := .ne) (by show ¬ (_ = _); omega)) (by decide +kernel) ?_
  refine y_ic (c := 0) (len := 1) (r := (0, 0, 0, 0)) (by decide +kernel) (by decide) (fun y3522 hy3522 => ?_)
  refine y_ic (c := 1) (len := 1) (r := (0, 0, 0, 0)) (by decide +kernel) (by decide) (fun y3523 hy3523 => ?_)
  refine y_ic (c := 0) (len := 1) (r := (0, 0, 0, 0)) (by decide +kernel) (by decide) (fun y3524 hy3524 => ?_)
  refine y_cI (i := .invokevirtual 204) (len := 3) (r := (0, 161, 12, 1489)) (nL := 4) (k := 2) (n := 4) (hs := []) (args := [.inl (some 52), zi y3522, zi y3523, zi y3524]) (rest := []) (l0 := [some (.inl (some 52)), some (zi y3522), some (zi y3523), some (zi y3524)]) (by decide +kernel) (Or.inr (Or.inl ⟨_, rfl⟩)) rfl rfl rfl rfl (Nat.le_of_ble_eq_true rfl) (z52 hg3508) rfl (qI_le (by decide) (m_bad (d := 0) hg3508 (by omega) hs3508 (by omega))) (fun y3525 qy3525 hRy3525 => ?_)
  obtain ⟨rfl, hy3525⟩ := hRy3525
  refine y_iT (c := .eq) (off := 5) (pc' := 56) (len := 3) (r := (0, 0, 0, 0)) (by decide +kernel) (acmpT (c := .eq) (by show _ = _; omega)) (by decide +kernel) ?_
  refine y_same (i := .aload_n 0) (len := 1) (r := (0, 0, 0, 0)) (pc' := 57) (ls' := [some (.inl (some 52)), some (zi x), some (zi xk)]) (st' := [.inl (some 52)]) (by decide +kernel) (fun k q => by cases q) rfl ?_
  refine y_cV (i := .invokevirtual 213) (len := 3) (r := (0, 186, 12, 1568)) (nL := 2) (k := 0) (n := 1) (hs := []) (args := [.inl (some 52)]) (rest := []) (l0 := [some (.inl (some 52)), none]) (by decide +kernel) (Or.inr (Or.inl ⟨_, rfl⟩)) rfl rfl rfl rfl (Nat.le_of_ble_eq_true rfl) (z52 hg3508) rfl (qV_le (by decide) (m_remB hg3508 (RM_up rm (fun k j h1 => (ho3508 k j (by omega)))))) (fun h3526 hR3526 => ?_)
  obtain ⟨⟨hg3526, rm3526, F3526⟩, jx3526, jh3526, je3526⟩ := hR3526
  have le3526 := len55 hg3526 rm3526.1
  obtain ⟨⟨xp03526, hp03526, ep03526⟩, ⟨xc03526, hc03526, ec03526⟩, ip03526, ic03526⟩ := rm3526.1.1
  obtain ⟨⟨xp13526, hp13526, ep13526⟩, ⟨xc13526, hc13526, ec13526⟩, ip13526, ic13526⟩ := rm3526.1.2
  refine y_same (i := .aload_n 0) (len := 1) (r := (0, 0, 0, 0)) (pc' := 61) (ls' := [some (.inl (some 52)), some (zi x), some (zi xk)]) (st' := [.inl (some 52)]) (by decide +kernel) (fun k q => by cases q) rfl ?_
  refine y_same (i := .iload_n 1) (len := 1) (r := (0, 0, 0, 0)) (pc' := 62) (ls' := [some (.inl (some 52)), some (zi x), some (zi xk)]) (st' := [zi x, .inl (some 52)]) (by decide +kernel) (fun k q => by cases q) rfl ?_
  refine y_same (i := .iload_n 2) (len := 1) (r := (0, 0, 0, 0)) (pc' := 63) (ls' := [some (.inl (some 52)), some (zi x), some (zi xk)]) (st' := [zi xk, zi x, .inl (some 52)]) (by decide +kernel) (fun k q => by cases q) rfl ?_
  refine y_cI (i := .invokestatic 147) (len := 3) (r := (1, 168, 12, 1546)) (nL := 2) (k := 1) (n := 2) (hs := []) (args := [zi x, zi xk]) (rest := [.inl (some 52)]) (l0 := [some (zi x), some (zi xk)]) (by decide +kernel) (Or.inl ⟨_, rfl⟩) rfl rfl rfl rfl (Nat.le_of_ble_eq_true rfl) rfl rfl (qI_le (by decide) (m_partAt (d := 0) (s := 0) (k := k) (by omega) (by omega) exk (by omega))) (fun y3527 qy3527 hRy3527 => ?_)
  obtain ⟨rfl, hy3527⟩ := hRy3527
  refine y_same (i := .aload_n 0) (len := 1) (r := (0, 0, 0, 0)) (pc' := 67) (ls' := [some (.inl (some 52)), some (zi x), some (zi xk)]) (st' := [.inl (some 52), zi y3527, .inl (some 52)]) (by decide +kernel) (fun k q => by cases q) rfl ?_
  refine y_get (j := 20) (len := 3) (r := (12, 9, 2, 1337)) (by decide +kernel) hg3526 (t52 hg3526) at52 rfl rfl (g_r52 (f := 9) (T2 := 55) hg3526 rfl (by decide)).1 ?_
  refine y_same (i := .iload_n 1) (len := 1) (r := (0, 0, 0, 0)) (pc' := 71) (ls' := [some (.inl (some 52)), some (zi x), some (zi xk)]) (st' := [zi x, .inl (some 55), zi y3527, .inl (some 52)]) (by decide +kernel) (fun k q => by cases q) rfl ?_
  refine y_cI (i := .invokestatic 143) (len := 3) (r := (1, 166, 12, 1543)) (nL := 2) (k := 1) (n := 2) (hs := []) (args := [.inl (some 55), zi x]) (rest := [zi y3527, .inl (some 52)]) (l0 := [some (.inl (some 55)), some (zi x)]) (by decide +kernel) (Or.inl ⟨_, rfl⟩) rfl rfl rfl rfl (Nat.le_of_ble_eq_true rfl) rfl rfl (qI_le (by decide) (m_parts (d := 0) (s := 0) hg3526 (by omega) (by omega) hp03526)) (fun y3528 qy3528 hRy3528 => ?_)
  obtain ⟨rfl, rfl⟩ := hRy3528
  refine y_same (i := .iload_n 2) (len := 1) (r := (0, 0, 0, 0)) (pc' := 75) (ls' := [some (.inl (some 52)), some (zi x), some (zi xk)]) (st' := [zi xk, zi xp03526, zi y3527, .inl (some 52)]) (by decide +kernel) (fun k q => by cases q) rfl ?_
  refine y_sub (len := 1) (r := (0, 0, 0, 0)) (by decide +kernel) (by omega) (by omega) (fun y3529 hy3529 => ?_)
  refine y_cV (i := .invokevirtual 236) (len := 3) (r := (0, 189, 12, 1597)) (nL := 4) (k := 0) (n := 3) (hs := []) (args := [.inl (some 52), zi y3527, zi y3529]) (rest := []) (l0 := [some (.inl (some 52)), some (zi y3527), some (zi y3529), none]) (by decide +kernel) (Or.inr (Or.inl ⟨_, rfl⟩)) rfl rfl rfl rfl (Nat.le_of_ble_eq_true rfl) (z52 hg3526) rfl (qV_le (by decide) (m_closes (f := (2 + 4 * k)) (m := (cur.1.1.length - k)) hg3526 (by omega) (by omega) (by omega) (by omega))) (fun h3530 hR3530 => ?_)
  obtain ⟨hg3530, a3530, F3530⟩ := hR3530
  refine y_same (i := .aload_n 0) (len := 1) (r := (0, 0, 0, 0)) (pc' := 80) (ls' := [some (.inl (some 52)), some (zi x), some (zi xk)]) (st' := [.inl (some 52)]) (by decide +kernel) (fun k q => by cases q) rfl ?_
  refine y_get (j := 20) (len := 3) (r := (12, 9, 2, 1337)) (by decide +kernel) hg3530 (t52 hg3530) at52 rfl rfl (g_r52 (f := 9) (T2 := 55) hg3530 rfl (by decide)).1 ?_
  refine y_bi (c := 46) (len := 2) (r := (0, 0, 0, 0)) (by decide +kernel) (by decide) (fun y3531 hy3531 => ?_)
  refine y_same (i := .iload_n 1) (len := 1) (r := (0, 0, 0, 0)) (pc' := 86) (ls' := [some (.inl (some 52)), some (zi x), some (zi xk)]) (st' := [zi x, zi y3531, .inl (some 55)]) (by decide +kernel) (fun k q => by cases q) rfl ?_
  refine y_mul (c := 46) (len := 1) (r := (0, 0, 0, 0)) (by decide +kernel) (by omega) (by omega) (by omega) (fun y3532 hy3532 => ?_)
  refine y_same (i := .dup2) (len := 1) (r := (0, 0, 0, 0)) (pc' := 88) (ls' := [some (.inl (some 52)), some (zi x), some (zi xk)]) (st' := [zi y3532, .inl (some 55), zi y3532, .inl (some 55)]) (by decide +kernel) (fun k q => by cases q) rfl ?_
  have hv3533 := (F3530 55 0 (by omega)).trans hp03526
  refine y_ial (i := 0) (len := 1) (r := (0, 0, 0, 0)) (by decide +kernel) hg3530 (tv55 hg3530) av55 (by omega) hv3533 ?_
  refine y_ic (c := 1) (len := 1) (r := (0, 0, 0, 0)) (by decide +kernel) (by decide) (fun y3534 hy3534 => ?_)
  refine y_sub (len := 1) (r := (0, 0, 0, 0)) (by decide +kernel) (by omega) (by omega) (fun y3535 hy3535 => ?_)
  refine y_ias (i := 0) (len := 1) (r := (0, 0, 0, 0)) (by decide +kernel) hg3530 (tv55 hg3530) av55 rfl (by omega) (by omega) (sr92 _ (by omega)) (by omega) (by omega) (fun h3536 hg3536 hl3536 hs3536 ho3536 => ?_)
  refine y_same (i := .aload_n 0) (len := 1) (r := (0, 0, 0, 0)) (pc' := 93) (ls' := [some (.inl (some 52)), some (zi x), some (zi xk)]) (st' := [.inl (some 52)]) (by decide +kernel) (fun k q => by cases q) rfl ?_
  refine y_get (j := 20) (len := 3) (r := (12, 9, 2, 1337)) (by decide +kernel) hg3536 (t52 hg3536) at52 rfl rfl (g_r52 (f := 9) (T2 := 55) hg3536 rfl (by decide)).1 ?_
  refine y_same (i := .iload_n 1) (len := 1) (r := (0, 0, 0, 0)) (pc' := 97) (ls' := [some (.inl (some 52)), some (zi x), some (zi xk)]) (st' := [zi x, .inl (some 55)]) (by decide +kernel) (fun k q => by cases q) rfl ?_
  refine y_cI (i := .invokestatic 143) (len := 3) (r := (1, 166, 12, 1543)) (nL := 2) (k := 1) (n := 2) (hs := []) (args := [.inl (some 55), zi x]) (rest := []) (l0 := [some (.inl (some 55)), some (zi x)]) (by decide +kernel) (Or.inl ⟨_, rfl⟩) rfl rfl rfl rfl (Nat.le_of_ble_eq_true rfl) rfl rfl (qI_le (by decide) (m_parts (d := 0) (s := 0) hg3536 (by omega) (by omega) hs3536)) (fun y3537 qy3537 hRy3537 => ?_)
  obtain ⟨rfl, rfl⟩ := hRy3537
  refine y_rI (len := 1) (r := (0, 0, 0, 0)) (nL := 3) (k := 1) (n9 := 3) (hs := []) (by decide +kernel) rfl rfl ?_
  have hv3538 := (F3530 52 47 (by omega)).trans jh3526
  have hv3539 := (ho3536 52 47 (Or.inl (by omega))).trans hv3538
  exact ⟨_, hv3539, by omega⟩
theorem j_dropM1 {t k : Nat} {τ : List Nat} {h : zh} {cur : bsT} {hs : List bsT} {x xk : Int32} (hg : hG τ h) (rm : RM h cur hs) (hx : x.toInt = 1) (exk : xk.toInt = (k : Int)) (hk : k < cur.2.1.length) : qI 60 190 [some (.inl (some 52)), some (zi x), some (zi xk)] h t (fun y h1 => ci_ h1 52 47 0) := by
  refine qI_le (d := 21) (by decide) (qI_of ?_)
  have lz := len55 hg rm.1
  obtain ⟨⟨xp0z, hp0z, ep0z⟩, ⟨xc0z, hc0z, ec0z⟩, ip0z, ic0z⟩ := rm.1.1
  obtain ⟨⟨xp1z, hp1z, ep1z⟩, ⟨xc1z, hc1z, ec1z⟩, ip1z, ic1z⟩ := rm.1.2
  refine y_same (i := .aload_n 0) (len := 1) (r := (0, 0, 0, 0)) (pc' := 1) (ls' := [some (.inl (some 52)), some (zi x), some (zi xk)]) (st' := [.inl (some 52)]) (by decide +kernel) (fun k q => by cases q) rfl ?_
  refine y_ic (c := 0) (len := 1) (r := (0, 0, 0, 0)) (by decide +kernel) (by decide) (fun y3540 hy3540 => ?_)
  refine y_put (j := 92) (lo := (-2147483648)) (hi := 2147483647) (len := 3) (r := (12, 0, 0, 1328)) (by decide +kernel) hg (t52 hg) at52 rfl rfl (by decide) rfl (qin_full _).1 (qin_full _).2 rfl (fun h3541 hg3541 hl3541 hs3541 ho3541 => ?_)
  have ho3541 : hO 52 0 h h3541 := ho3541
  have hs3541 : hsl h3541 52 0 = some (zi y3540) := hs3541
  refine y_same (i := .aload_n 0) (len := 1) (r := (0, 0, 0, 0)) (pc' := 6) (ls' := [some (.inl (some 52)), some (zi x), some (zi xk)]) (st' := [.inl (some 52)]) (by decide +kernel) (fun k q => by cases q) rfl ?_
  refine y_same (i := .iload_n 1) (len := 1) (r := (0, 0, 0, 0)) (pc' := 7) (ls' := [some (.inl (some 52)), some (zi x), some (zi xk)]) (st' := [zi x, .inl (some 52)]) (by decide +kernel) (fun k q => by cases q) rfl ?_
  refine y_ic (c := 0) (len := 1) (r := (0, 0, 0, 0)) (by decide +kernel) (by decide) (fun y3542 hy3542 => ?_)
  refine y_ic (c := 1) (len := 1) (r := (0, 0, 0, 0)) (by decide +kernel) (by decide) (fun y3543 hy3543 => ?_)
  refine y_cI (i := .invokestatic 200) (len := 3) (r := (1, 162, 12, 1486)) (nL := 3) (k := 2) (n := 3) (hs := []) (args := [zi x, zi y3542, zi y3543]) (rest := [.inl (some 52)]) (l0 := [some (zi x), some (zi y3542), some (zi y3543)]) (by decide +kernel) (Or.inl ⟨_, rfl⟩) rfl rfl rfl rfl (Nat.le_of_ble_eq_true rfl) rfl rfl (qI_le (by decide) (m_in (d := 0) (by omega) (by omega))) (fun y3544 qy3544 hRy3544 => ?_)
  obtain ⟨rfl, hy3544⟩ := hRy3544
  refine y_iF (c := .eq) (off := 29) (len := 3) (r := (0, 0, 0, 0)) (by decide +kernel) (acmpF (c := .eq) (by show ¬ (_ = _); omega)) ?_
  refine y_same (i := .iload_n 2) (len := 1) (r := (0, 0, 0, 0)) (pc' := 16) (ls' := [some (.inl (some 52)), some (zi x), some (zi xk)]) (st' := [zi xk, .inl (some 52)]) (by decide +kernel) (fun k q => by cases q) rfl ?_
  refine y_ic (c := 0) (len := 1) (r := (0, 0, 0, 0)) (by decide +kernel) (by decide) (fun y3545 hy3545 => ?_)
  refine y_same (i := .aload_n 0) (len := 1) (r := (0, 0, 0, 0)) (pc' := 18) (ls' := [some (.inl (some 52)), some (zi x), some (zi xk)]) (st' := [.inl (some 52), zi y3545, zi xk, .inl (some 52)]) (by decide +kernel) (fun k q => by cases q) rfl ?_
  refine y_get (j := 20) (len := 3) (r := (12, 9, 2, 1337)) (by decide +kernel) hg3541 (t52 hg3541) at52 rfl rfl (g_r52 (f := 9) (T2 := 55) hg3541 rfl (by decide)).1 ?_
  refine y_ic (c := 1) (len := 1) (r := (0, 0, 0, 0)) (by decide +kernel) (by decide) (fun y3546 hy3546 => ?_)
  refine y_ic (c := 0) (len := 1) (r := (0, 0, 0, 0)) (by decide +kernel) (by decide) (fun y3547 hy3547 => ?_)
  refine y_same (i := .iload_n 1) (len := 1) (r := (0, 0, 0, 0)) (pc' := 24) (ls' := [some (.inl (some 52)), some (zi x), some (zi xk)]) (st' := [zi x, zi y3547, zi y3546, .inl (some 55), zi y3545, zi xk, .inl (some 52)]) (by decide +kernel) (fun k q => by cases q) rfl ?_
  refine y_cI (i := .invokestatic 230) (len := 3) (r := (1, 164, 12, 1591)) (nL := 2) (k := 1) (n := 2) (hs := []) (args := [zi y3547, zi x]) (rest := [zi y3546, .inl (some 55), zi y3545, zi xk, .inl (some 52)]) (l0 := [some (zi y3547), some (zi x)]) (by decide +kernel) (Or.inl ⟨_, rfl⟩) rfl rfl rfl rfl (Nat.le_of_ble_eq_true rfl) rfl rfl (qI_le (by decide) (e_more (d := 0))) (fun y3548 qy3548 hRy3548 => ?_)
  obtain ⟨rfl, my3548, ny3548⟩ := hRy3548
  have ey3548 : y3548.toInt = 1 := by omega
  refine y_cI (i := .invokestatic 233) (len := 3) (r := (1, 163, 12, 1594)) (nL := 2) (k := 1) (n := 2) (hs := []) (args := [zi y3546, zi y3548]) (rest := [.inl (some 55), zi y3545, zi xk, .inl (some 52)]) (l0 := [some (zi y3546), some (zi y3548)]) (by decide +kernel) (Or.inl ⟨_, rfl⟩) rfl rfl rfl rfl (Nat.le_of_ble_eq_true rfl) rfl rfl (qI_le (by decide) (e_less (d := 0))) (fun y3549 qy3549 hRy3549 => ?_)
  obtain ⟨rfl, my3549, ny3549⟩ := hRy3549
  have ey3549 : y3549.toInt = 1 := by omega
  have hv3551 := (ho3541 55 46 (Or.inl (by omega))).trans hp1z
  refine y_cI (i := .invokestatic 143) (len := 3) (r := (1, 166, 12, 1543)) (nL := 2) (k := 1) (n := 2) (hs := []) (args := [.inl (some 55), zi y3549]) (rest := [zi y3545, zi xk, .inl (some 52)]) (l0 := [some (.inl (some 55)), some (zi y3549)]) (by decide +kernel) (Or.inl ⟨_, rfl⟩) rfl rfl rfl rfl (Nat.le_of_ble_eq_true rfl) rfl rfl (qI_le (by decide) (m_parts (d := 0) (s := 1) hg3541 (by omega) (by omega) hv3551)) (fun y3550 qy3550 hRy3550 => ?_)
  obtain ⟨rfl, rfl⟩ := hRy3550
  refine y_ic (c := 1) (len := 1) (r := (0, 0, 0, 0)) (by decide +kernel) (by decide) (fun y3552 hy3552 => ?_)
  refine y_sub (len := 1) (r := (0, 0, 0, 0)) (by decide +kernel) (by omega) (by omega) (fun y3553 hy3553 => ?_)
  refine y_cI (i := .invokestatic 200) (len := 3) (r := (1, 162, 12, 1486)) (nL := 3) (k := 2) (n := 3) (hs := []) (args := [zi xk, zi y3545, zi y3553]) (rest := [.inl (some 52)]) (l0 := [some (zi xk), some (zi y3545), some (zi y3553)]) (by decide +kernel) (Or.inl ⟨_, rfl⟩) rfl rfl rfl rfl (Nat.le_of_ble_eq_true rfl) rfl rfl (qI_le (by decide) (m_in (d := 0) (by omega) (by omega))) (fun y3554 qy3554 hRy3554 => ?_)
  obtain ⟨rfl, hy3554⟩ := hRy3554
  refine y_iT (c := .ne) (off := 7) (pc' := 45) (len := 3) (r := (0, 0, 0, 0)) (by decide +kernel) (acmpT (c := .ne) (by show ¬ (_ = _); omega)) (by decide +kernel) ?_
  refine y_ic (c := 0) (len := 1) (r := (0, 0, 0, 0)) (by decide +kernel) (by decide) (fun y3555 hy3555 => ?_)
  refine y_ic (c := 1) (len := 1) (r := (0, 0, 0, 0)) (by decide +kernel) (by decide) (fun y3556 hy3556 => ?_)
  refine y_ic (c := 0) (len := 1) (r := (0, 0, 0, 0)) (by decide +kernel) (by decide) (fun y3557 hy3557 => ?_)
  refine y_cI (i := .invokevirtual 204) (len := 3) (r := (0, 161, 12, 1489)) (nL := 4) (k := 2) (n := 4) (hs := []) (args := [.inl (some 52), zi y3555, zi y3556, zi y3557]) (rest := []) (l0 := [some (.inl (some 52)), some (zi y3555), some (zi y3556), some (zi y3557)]) (by decide +kernel) (Or.inr (Or.inl ⟨_, rfl⟩)) rfl rfl rfl rfl (Nat.le_of_ble_eq_true rfl) (z52 hg3541) rfl (qI_le (by decide) (m_bad (d := 0) hg3541 (by omega) hs3541 (by omega))) (fun y3558 qy3558 hRy3558 => ?_)
  obtain ⟨rfl, hy3558⟩ := hRy3558
  refine y_iT (c := .eq) (off := 5) (pc' := 56) (len := 3) (r := (0, 0, 0, 0)) (by decide +kernel) (acmpT (c := .eq) (by show _ = _; omega)) (by decide +kernel) ?_
  refine y_same (i := .aload_n 0) (len := 1) (r := (0, 0, 0, 0)) (pc' := 57) (ls' := [some (.inl (some 52)), some (zi x), some (zi xk)]) (st' := [.inl (some 52)]) (by decide +kernel) (fun k q => by cases q) rfl ?_
  refine y_cV (i := .invokevirtual 213) (len := 3) (r := (0, 186, 12, 1568)) (nL := 2) (k := 0) (n := 1) (hs := []) (args := [.inl (some 52)]) (rest := []) (l0 := [some (.inl (some 52)), none]) (by decide +kernel) (Or.inr (Or.inl ⟨_, rfl⟩)) rfl rfl rfl rfl (Nat.le_of_ble_eq_true rfl) (z52 hg3541) rfl (qV_le (by decide) (m_remB hg3541 (RM_up rm (fun k j h1 => (ho3541 k j (by omega)))))) (fun h3559 hR3559 => ?_)
  obtain ⟨⟨hg3559, rm3559, F3559⟩, jx3559, jh3559, je3559⟩ := hR3559
  have le3559 := len55 hg3559 rm3559.1
  obtain ⟨⟨xp03559, hp03559, ep03559⟩, ⟨xc03559, hc03559, ec03559⟩, ip03559, ic03559⟩ := rm3559.1.1
  obtain ⟨⟨xp13559, hp13559, ep13559⟩, ⟨xc13559, hc13559, ec13559⟩, ip13559, ic13559⟩ := rm3559.1.2
  refine y_same (i := .aload_n 0) (len := 1) (r := (0, 0, 0, 0)) (pc' := 61) (ls' := [some (.inl (some 52)), some (zi x), some (zi xk)]) (st' := [.inl (some 52)]) (by decide +kernel) (fun k q => by cases q) rfl ?_
  refine y_same (i := .iload_n 1) (len := 1) (r := (0, 0, 0, 0)) (pc' := 62) (ls' := [some (.inl (some 52)), some (zi x), some (zi xk)]) (st' := [zi x, .inl (some 52)]) (by decide +kernel) (fun k q => by cases q) rfl ?_
  refine y_same (i := .iload_n 2) (len := 1) (r := (0, 0, 0, 0)) (pc' := 63) (ls' := [some (.inl (some 52)), some (zi x), some (zi xk)]) (st' := [zi xk, zi x, .inl (some 52)]) (by decide +kernel) (fun k q => by cases q) rfl ?_
  refine y_cI (i := .invokestatic 147) (len := 3) (r := (1, 168, 12, 1546)) (nL := 2) (k := 1) (n := 2) (hs := []) (args := [zi x, zi xk]) (rest := [.inl (some 52)]) (l0 := [some (zi x), some (zi xk)]) (by decide +kernel) (Or.inl ⟨_, rfl⟩) rfl rfl rfl rfl (Nat.le_of_ble_eq_true rfl) rfl rfl (qI_le (by decide) (m_partAt (d := 0) (s := 1) (k := k) (by omega) (by omega) exk (by omega))) (fun y3560 qy3560 hRy3560 => ?_)
  obtain ⟨rfl, hy3560⟩ := hRy3560
  refine y_same (i := .aload_n 0) (len := 1) (r := (0, 0, 0, 0)) (pc' := 67) (ls' := [some (.inl (some 52)), some (zi x), some (zi xk)]) (st' := [.inl (some 52), zi y3560, .inl (some 52)]) (by decide +kernel) (fun k q => by cases q) rfl ?_
  refine y_get (j := 20) (len := 3) (r := (12, 9, 2, 1337)) (by decide +kernel) hg3559 (t52 hg3559) at52 rfl rfl (g_r52 (f := 9) (T2 := 55) hg3559 rfl (by decide)).1 ?_
  refine y_same (i := .iload_n 1) (len := 1) (r := (0, 0, 0, 0)) (pc' := 71) (ls' := [some (.inl (some 52)), some (zi x), some (zi xk)]) (st' := [zi x, .inl (some 55), zi y3560, .inl (some 52)]) (by decide +kernel) (fun k q => by cases q) rfl ?_
  refine y_cI (i := .invokestatic 143) (len := 3) (r := (1, 166, 12, 1543)) (nL := 2) (k := 1) (n := 2) (hs := []) (args := [.inl (some 55), zi x]) (rest := [zi y3560, .inl (some 52)]) (l0 := [some (.inl (some 55)), some (zi x)]) (by decide +kernel) (Or.inl ⟨_, rfl⟩) rfl rfl rfl rfl (Nat.le_of_ble_eq_true rfl) rfl rfl (qI_le (by decide) (m_parts (d := 0) (s := 1) hg3559 (by omega) (by omega) hp13559)) (fun y3561 qy3561 hRy3561 => ?_)
  obtain ⟨rfl, rfl⟩ := hRy3561
  refine y_same (i := .iload_n 2) (len := 1) (r := (0, 0, 0, 0)) (pc' := 75) (ls' := [some (.inl (some 52)), some (zi x), some (zi xk)]) (st' := [zi xk, zi xp13559, zi y3560, .inl (some 52)]) (by decide +kernel) (fun k q => by cases q) rfl ?_
  refine y_sub (len := 1) (r := (0, 0, 0, 0)) (by decide +kernel) (by omega) (by omega) (fun y3562 hy3562 => ?_)
  refine y_cV (i := .invokevirtual 236) (len := 3) (r := (0, 189, 12, 1597)) (nL := 4) (k := 0) (n := 3) (hs := []) (args := [.inl (some 52), zi y3560, zi y3562]) (rest := []) (l0 := [some (.inl (some 52)), some (zi y3560), some (zi y3562), none]) (by decide +kernel) (Or.inr (Or.inl ⟨_, rfl⟩)) rfl rfl rfl rfl (Nat.le_of_ble_eq_true rfl) (z52 hg3559) rfl (qV_le (by decide) (m_closes (f := (48 + 4 * k)) (m := (cur.2.1.length - k)) hg3559 (by omega) (by omega) (by omega) (by omega))) (fun h3563 hR3563 => ?_)
  obtain ⟨hg3563, a3563, F3563⟩ := hR3563
  refine y_same (i := .aload_n 0) (len := 1) (r := (0, 0, 0, 0)) (pc' := 80) (ls' := [some (.inl (some 52)), some (zi x), some (zi xk)]) (st' := [.inl (some 52)]) (by decide +kernel) (fun k q => by cases q) rfl ?_
  refine y_get (j := 20) (len := 3) (r := (12, 9, 2, 1337)) (by decide +kernel) hg3563 (t52 hg3563) at52 rfl rfl (g_r52 (f := 9) (T2 := 55) hg3563 rfl (by decide)).1 ?_
  refine y_bi (c := 46) (len := 2) (r := (0, 0, 0, 0)) (by decide +kernel) (by decide) (fun y3564 hy3564 => ?_)
  refine y_same (i := .iload_n 1) (len := 1) (r := (0, 0, 0, 0)) (pc' := 86) (ls' := [some (.inl (some 52)), some (zi x), some (zi xk)]) (st' := [zi x, zi y3564, .inl (some 55)]) (by decide +kernel) (fun k q => by cases q) rfl ?_
  refine y_mul (c := 46) (len := 1) (r := (0, 0, 0, 0)) (by decide +kernel) (by omega) (by omega) (by omega) (fun y3565 hy3565 => ?_)
  refine y_same (i := .dup2) (len := 1) (r := (0, 0, 0, 0)) (pc' := 88) (ls' := [some (.inl (some 52)), some (zi x), some (zi xk)]) (st' := [zi y3565, .inl (some 55), zi y3565, .inl (some 55)]) (by decide +kernel) (fun k q => by cases q) rfl ?_
  have hv3566 := (F3563 55 46 (by omega)).trans hp13559
  refine y_ial (i := 46) (len := 1) (r := (0, 0, 0, 0)) (by decide +kernel) hg3563 (tv55 hg3563) av55 (by omega) hv3566 ?_
  refine y_ic (c := 1) (len := 1) (r := (0, 0, 0, 0)) (by decide +kernel) (by decide) (fun y3567 hy3567 => ?_)
  refine y_sub (len := 1) (r := (0, 0, 0, 0)) (by decide +kernel) (by omega) (by omega) (fun y3568 hy3568 => ?_)
  refine y_ias (i := 46) (len := 1) (r := (0, 0, 0, 0)) (by decide +kernel) hg3563 (tv55 hg3563) av55 rfl (by omega) (by omega) (sr92 _ (by omega)) (by omega) (by omega) (fun h3569 hg3569 hl3569 hs3569 ho3569 => ?_)
  refine y_same (i := .aload_n 0) (len := 1) (r := (0, 0, 0, 0)) (pc' := 93) (ls' := [some (.inl (some 52)), some (zi x), some (zi xk)]) (st' := [.inl (some 52)]) (by decide +kernel) (fun k q => by cases q) rfl ?_
  refine y_get (j := 20) (len := 3) (r := (12, 9, 2, 1337)) (by decide +kernel) hg3569 (t52 hg3569) at52 rfl rfl (g_r52 (f := 9) (T2 := 55) hg3569 rfl (by decide)).1 ?_
  refine y_same (i := .iload_n 1) (len := 1) (r := (0, 0, 0, 0)) (pc' := 97) (ls' := [some (.inl (some 52)), some (zi x), some (zi xk)]) (st' := [zi x, .inl (some 55)]) (by decide +kernel) (fun k q => by cases q) rfl ?_
  refine y_cI (i := .invokestatic 143) (len := 3) (r := (1, 166, 12, 1543)) (nL := 2) (k := 1) (n := 2) (hs := []) (args := [.inl (some 55), zi x]) (rest := []) (l0 := [some (.inl (some 55)), some (zi x)]) (by decide +kernel) (Or.inl ⟨_, rfl⟩) rfl rfl rfl rfl (Nat.le_of_ble_eq_true rfl) rfl rfl (qI_le (by decide) (m_parts (d := 0) (s := 1) hg3569 (by omega) (by omega) hs3569)) (fun y3570 qy3570 hRy3570 => ?_)
  obtain ⟨rfl, rfl⟩ := hRy3570
  refine y_rI (len := 1) (r := (0, 0, 0, 0)) (nL := 3) (k := 1) (n9 := 3) (hs := []) (by decide +kernel) rfl rfl ?_
  have hv3571 := (F3563 52 47 (by omega)).trans jh3559
  have hv3572 := (ho3569 52 47 (Or.inl (by omega))).trans hv3571
  exact ⟨_, hv3572, by omega⟩
theorem j_dropT0 {t : Nat} {τ : List Nat} {h : zh} {cur : bsT} {hs : List bsT} {x xk : Int32} (hg : hG τ h) (rm : RM h cur hs) (hx : x.toInt = 0) (hk : ¬ (0 ≤ xk.toInt ∧ xk.toInt < (cur.1.1.length : Int))) : qI 60 190 [some (.inl (some 52)), some (zi x), some (zi xk)] h t (fun y h1 => hsl h1 52 47 = hsl h 52 47) := by
  refine qI_le (d := 21) (by decide) (qI_of ?_)
  have lz := len55 hg rm.1
  obtain ⟨⟨xp0z, hp0z, ep0z⟩, ⟨xc0z, hc0z, ec0z⟩, ip0z, ic0z⟩ := rm.1.1
  obtain ⟨⟨xp1z, hp1z, ep1z⟩, ⟨xc1z, hc1z, ec1z⟩, ip1z, ic1z⟩ := rm.1.2
  refine y_same (i := .aload_n 0) (len := 1) (r := (0, 0, 0, 0)) (pc' := 1) (ls' := [some (.inl (some 52)), some (zi x), some (zi xk)]) (st' := [.inl (some 52)]) (by decide +kernel) (fun k q => by cases q) rfl ?_
  refine y_ic (c := 0) (len := 1) (r := (0, 0, 0, 0)) (by decide +kernel) (by decide) (fun y3573 hy3573 => ?_)
  refine y_put (j := 92) (lo := (-2147483648)) (hi := 2147483647) (len := 3) (r := (12, 0, 0, 1328)) (by decide +kernel) hg (t52 hg) at52 rfl rfl (by decide) rfl (qin_full _).1 (qin_full _).2 rfl (fun h3574 hg3574 hl3574 hs3574 ho3574 => ?_)
  have ho3574 : hO 52 0 h h3574 := ho3574
  have hs3574 : hsl h3574 52 0 = some (zi y3573) := hs3574
  refine y_same (i := .aload_n 0) (len := 1) (r := (0, 0, 0, 0)) (pc' := 6) (ls' := [some (.inl (some 52)), some (zi x), some (zi xk)]) (st' := [.inl (some 52)]) (by decide +kernel) (fun k q => by cases q) rfl ?_
  refine y_same (i := .iload_n 1) (len := 1) (r := (0, 0, 0, 0)) (pc' := 7) (ls' := [some (.inl (some 52)), some (zi x), some (zi xk)]) (st' := [zi x, .inl (some 52)]) (by decide +kernel) (fun k q => by cases q) rfl ?_
  refine y_ic (c := 0) (len := 1) (r := (0, 0, 0, 0)) (by decide +kernel) (by decide) (fun y3575 hy3575 => ?_)
  refine y_ic (c := 1) (len := 1) (r := (0, 0, 0, 0)) (by decide +kernel) (by decide) (fun y3576 hy3576 => ?_)
  refine y_cI (i := .invokestatic 200) (len := 3) (r := (1, 162, 12, 1486)) (nL := 3) (k := 2) (n := 3) (hs := []) (args := [zi x, zi y3575, zi y3576]) (rest := [.inl (some 52)]) (l0 := [some (zi x), some (zi y3575), some (zi y3576)]) (by decide +kernel) (Or.inl ⟨_, rfl⟩) rfl rfl rfl rfl (Nat.le_of_ble_eq_true rfl) rfl rfl (qI_le (by decide) (m_in (d := 0) (by omega) (by omega))) (fun y3577 qy3577 hRy3577 => ?_)
  obtain ⟨rfl, hy3577⟩ := hRy3577
  refine y_iF (c := .eq) (off := 29) (len := 3) (r := (0, 0, 0, 0)) (by decide +kernel) (acmpF (c := .eq) (by show ¬ (_ = _); omega)) ?_
  refine y_same (i := .iload_n 2) (len := 1) (r := (0, 0, 0, 0)) (pc' := 16) (ls' := [some (.inl (some 52)), some (zi x), some (zi xk)]) (st' := [zi xk, .inl (some 52)]) (by decide +kernel) (fun k q => by cases q) rfl ?_
  refine y_ic (c := 0) (len := 1) (r := (0, 0, 0, 0)) (by decide +kernel) (by decide) (fun y3578 hy3578 => ?_)
  refine y_same (i := .aload_n 0) (len := 1) (r := (0, 0, 0, 0)) (pc' := 18) (ls' := [some (.inl (some 52)), some (zi x), some (zi xk)]) (st' := [.inl (some 52), zi y3578, zi xk, .inl (some 52)]) (by decide +kernel) (fun k q => by cases q) rfl ?_
  refine y_get (j := 20) (len := 3) (r := (12, 9, 2, 1337)) (by decide +kernel) hg3574 (t52 hg3574) at52 rfl rfl (g_r52 (f := 9) (T2 := 55) hg3574 rfl (by decide)).1 ?_
  refine y_ic (c := 1) (len := 1) (r := (0, 0, 0, 0)) (by decide +kernel) (by decide) (fun y3579 hy3579 => ?_)
  refine y_ic (c := 0) (len := 1) (r := (0, 0, 0, 0)) (by decide +kernel) (by decide) (fun y3580 hy3580 => ?_)
  refine y_same (i := .iload_n 1) (len := 1) (r := (0, 0, 0, 0)) (pc' := 24) (ls' := [some (.inl (some 52)), some (zi x), some (zi xk)]) (st' := [zi x, zi y3580, zi y3579, .inl (some 55), zi y3578, zi xk, .inl (some 52)]) (by decide +kernel) (fun k q => by cases q) rfl ?_
  refine y_cI (i := .invokestatic 230) (len := 3) (r := (1, 164, 12, 1591)) (nL := 2) (k := 1) (n := 2) (hs := []) (args := [zi y3580, zi x]) (rest := [zi y3579, .inl (some 55), zi y3578, zi xk, .inl (some 52)]) (l0 := [some (zi y3580), some (zi x)]) (by decide +kernel) (Or.inl ⟨_, rfl⟩) rfl rfl rfl rfl (Nat.le_of_ble_eq_true rfl) rfl rfl (qI_le (by decide) (e_more (d := 0))) (fun y3581 qy3581 hRy3581 => ?_)
  obtain ⟨rfl, my3581, ny3581⟩ := hRy3581
  have ey3581 : y3581.toInt = 0 := by omega
  refine y_cI (i := .invokestatic 233) (len := 3) (r := (1, 163, 12, 1594)) (nL := 2) (k := 1) (n := 2) (hs := []) (args := [zi y3579, zi y3581]) (rest := [.inl (some 55), zi y3578, zi xk, .inl (some 52)]) (l0 := [some (zi y3579), some (zi y3581)]) (by decide +kernel) (Or.inl ⟨_, rfl⟩) rfl rfl rfl rfl (Nat.le_of_ble_eq_true rfl) rfl rfl (qI_le (by decide) (e_less (d := 0))) (fun y3582 qy3582 hRy3582 => ?_)
  obtain ⟨rfl, my3582, ny3582⟩ := hRy3582
  have ey3582 : y3582.toInt = 0 := by omega
  have hv3584 := (ho3574 55 0 (Or.inl (by omega))).trans hp0z
  refine y_cI (i := .invokestatic 143) (len := 3) (r := (1, 166, 12, 1543)) (nL := 2) (k := 1) (n := 2) (hs := []) (args := [.inl (some 55), zi y3582]) (rest := [zi y3578, zi xk, .inl (some 52)]) (l0 := [some (.inl (some 55)), some (zi y3582)]) (by decide +kernel) (Or.inl ⟨_, rfl⟩) rfl rfl rfl rfl (Nat.le_of_ble_eq_true rfl) rfl rfl (qI_le (by decide) (m_parts (d := 0) (s := 0) hg3574 (by omega) (by omega) hv3584)) (fun y3583 qy3583 hRy3583 => ?_)
  obtain ⟨rfl, rfl⟩ := hRy3583
  refine y_ic (c := 1) (len := 1) (r := (0, 0, 0, 0)) (by decide +kernel) (by decide) (fun y3585 hy3585 => ?_)
  refine y_sub (len := 1) (r := (0, 0, 0, 0)) (by decide +kernel) (by omega) (by omega) (fun y3586 hy3586 => ?_)
  refine y_cI (i := .invokestatic 200) (len := 3) (r := (1, 162, 12, 1486)) (nL := 3) (k := 2) (n := 3) (hs := []) (args := [zi xk, zi y3578, zi y3586]) (rest := [.inl (some 52)]) (l0 := [some (zi xk), some (zi y3578), some (zi y3586)]) (by decide +kernel) (Or.inl ⟨_, rfl⟩) rfl rfl rfl rfl (Nat.le_of_ble_eq_true rfl) rfl rfl (qI_le (by decide) (m_in0 (d := 0) (by omega))) (fun y3587 qy3587 hRy3587 => ?_)
  obtain ⟨rfl, hy3587⟩ := hRy3587
  refine y_iF (c := .ne) (off := 7) (len := 3) (r := (0, 0, 0, 0)) (by decide +kernel) (acmpF (c := .ne) (by show _ = _; omega)) ?_
  refine y_ic (c := 1) (len := 1) (r := (0, 0, 0, 0)) (by decide +kernel) (by decide) (fun y3588 hy3588 => ?_)
  refine y_goto (off := 4) (pc' := 46) (len := 3) (r := (0, 0, 0, 0)) (by decide +kernel) (by decide +kernel) ?_
  refine y_ic (c := 1) (len := 1) (r := (0, 0, 0, 0)) (by decide +kernel) (by decide) (fun y3589 hy3589 => ?_)
  refine y_ic (c := 0) (len := 1) (r := (0, 0, 0, 0)) (by decide +kernel) (by decide) (fun y3590 hy3590 => ?_)
  refine y_cI (i := .invokevirtual 204) (len := 3) (r := (0, 161, 12, 1489)) (nL := 4) (k := 2) (n := 4) (hs := []) (args := [.inl (some 52), zi y3588, zi y3589, zi y3590]) (rest := []) (l0 := [some (.inl (some 52)), some (zi y3588), some (zi y3589), some (zi y3590)]) (by decide +kernel) (Or.inr (Or.inl ⟨_, rfl⟩)) rfl rfl rfl rfl (Nat.le_of_ble_eq_true rfl) (z52 hg3574) rfl (qI_le (by decide) (m_bad1 (d := 0) (e := 0) hg3574 (by omega) (by omega) (by omega) (by omega) hs3574 (by omega))) (fun y3591 h3591 hRy3591 => ?_)
  obtain ⟨hg3591, hy3591, ⟨z3591, hz3591, ez3591⟩, F3591⟩ := hRy3591
  refine y_iF (c := .eq) (off := 5) (len := 3) (r := (0, 0, 0, 0)) (by decide +kernel) (acmpF (c := .eq) (by show ¬ (_ = _); omega)) ?_
  refine y_ic (c := 0) (len := 1) (r := (0, 0, 0, 0)) (by decide +kernel) (by decide) (fun y3592 hy3592 => ?_)
  refine y_rI (len := 1) (r := (0, 0, 0, 0)) (nL := 3) (k := 1) (n9 := 3) (hs := []) (by decide +kernel) rfl rfl ?_
  exact ((F3591 52 47 (by omega)).trans (ho3574 52 47 (by omega)))
theorem j_dropT1 {t : Nat} {τ : List Nat} {h : zh} {cur : bsT} {hs : List bsT} {x xk : Int32} (hg : hG τ h) (rm : RM h cur hs) (hx : x.toInt = 1) (hk : ¬ (0 ≤ xk.toInt ∧ xk.toInt < (cur.2.1.length : Int))) : qI 60 190 [some (.inl (some 52)), some (zi x), some (zi xk)] h t (fun y h1 => hsl h1 52 47 = hsl h 52 47) := by
  refine qI_le (d := 21) (by decide) (qI_of ?_)
  have lz := len55 hg rm.1
  obtain ⟨⟨xp0z, hp0z, ep0z⟩, ⟨xc0z, hc0z, ec0z⟩, ip0z, ic0z⟩ := rm.1.1
  obtain ⟨⟨xp1z, hp1z, ep1z⟩, ⟨xc1z, hc1z, ec1z⟩, ip1z, ic1z⟩ := rm.1.2
  refine y_same (i := .aload_n 0) (len := 1) (r := (0, 0, 0, 0)) (pc' := 1) (ls' := [some (.inl (some 52)), some (zi x), some (zi xk)]) (st' := [.inl (some 52)]) (by decide +kernel) (fun k q => by cases q) rfl ?_
  refine y_ic (c := 0) (len := 1) (r := (0, 0, 0, 0)) (by decide +kernel) (by decide) (fun y3593 hy3593 => ?_)
  refine y_put (j := 92) (lo := (-2147483648)) (hi := 2147483647) (len := 3) (r := (12, 0, 0, 1328)) (by decide +kernel) hg (t52 hg) at52 rfl rfl (by decide) rfl (qin_full _).1 (qin_full _).2 rfl (fun h3594 hg3594 hl3594 hs3594 ho3594 => ?_)
  have ho3594 : hO 52 0 h h3594 := ho3594
  have hs3594 : hsl h3594 52 0 = some (zi y3593) := hs3594
  refine y_same (i := .aload_n 0) (len := 1) (r := (0, 0, 0, 0)) (pc' := 6) (ls' := [some (.inl (some 52)), some (zi x), some (zi xk)]) (st' := [.inl (some 52)]) (by decide +kernel) (fun k q => by cases q) rfl ?_
  refine y_same (i := .iload_n 1) (len := 1) (r := (0, 0, 0, 0)) (pc' := 7) (ls' := [some (.inl (some 52)), some (zi x), some (zi xk)]) (st' := [zi x, .inl (some 52)]) (by decide +kernel) (fun k q => by cases q) rfl ?_
  refine y_ic (c := 0) (len := 1) (r := (0, 0, 0, 0)) (by decide +kernel) (by decide) (fun y3595 hy3595 => ?_)
  refine y_ic (c := 1) (len := 1) (r := (0, 0, 0, 0)) (by decide +kernel) (by decide) (fun y3596 hy3596 => ?_)
  refine y_cI (i := .invokestatic 200) (len := 3) (r := (1, 162, 12, 1486)) (nL := 3) (k := 2) (n := 3) (hs := []) (args := [zi x, zi y3595, zi y3596]) (rest := [.inl (some 52)]) (l0 := [some (zi x), some (zi y3595), some (zi y3596)]) (by decide +kernel) (Or.inl ⟨_, rfl⟩) rfl rfl rfl rfl (Nat.le_of_ble_eq_true rfl) rfl rfl (qI_le (by decide) (m_in (d := 0) (by omega) (by omega))) (fun y3597 qy3597 hRy3597 => ?_)
  obtain ⟨rfl, hy3597⟩ := hRy3597
  refine y_iF (c := .eq) (off := 29) (len := 3) (r := (0, 0, 0, 0)) (by decide +kernel) (acmpF (c := .eq) (by show ¬ (_ = _); omega)) ?_
  refine y_same (i := .iload_n 2) (len := 1) (r := (0, 0, 0, 0)) (pc' := 16) (ls' := [some (.inl (some 52)), some (zi x), some (zi xk)]) (st' := [zi xk, .inl (some 52)]) (by decide +kernel) (fun k q => by cases q) rfl ?_
  refine y_ic (c := 0) (len := 1) (r := (0, 0, 0, 0)) (by decide +kernel) (by decide) (fun y3598 hy3598 => ?_)
  refine y_same (i := .aload_n 0) (len := 1) (r := (0, 0, 0, 0)) (pc' := 18) (ls' := [some (.inl (some 52)), some (zi x), some (zi xk)]) (st' := [.inl (some 52), zi y3598, zi xk, .inl (some 52)]) (by decide +kernel) (fun k q => by cases q) rfl ?_
  refine y_get (j := 20) (len := 3) (r := (12, 9, 2, 1337)) (by decide +kernel) hg3594 (t52 hg3594) at52 rfl rfl (g_r52 (f := 9) (T2 := 55) hg3594 rfl (by decide)).1 ?_
  refine y_ic (c := 1) (len := 1) (r := (0, 0, 0, 0)) (by decide +kernel) (by decide) (fun y3599 hy3599 => ?_)
  refine y_ic (c := 0) (len := 1) (r := (0, 0, 0, 0)) (by decide +kernel) (by decide) (fun y3600 hy3600 => ?_)
  refine y_same (i := .iload_n 1) (len := 1) (r := (0, 0, 0, 0)) (pc' := 24) (ls' := [some (.inl (some 52)), some (zi x), some (zi xk)]) (st' := [zi x, zi y3600, zi y3599, .inl (some 55), zi y3598, zi xk, .inl (some 52)]) (by decide +kernel) (fun k q => by cases q) rfl ?_
  refine y_cI (i := .invokestatic 230) (len := 3) (r := (1, 164, 12, 1591)) (nL := 2) (k := 1) (n := 2) (hs := []) (args := [zi y3600, zi x]) (rest := [zi y3599, .inl (some 55), zi y3598, zi xk, .inl (some 52)]) (l0 := [some (zi y3600), some (zi x)]) (by decide +kernel) (Or.inl ⟨_, rfl⟩) rfl rfl rfl rfl (Nat.le_of_ble_eq_true rfl) rfl rfl (qI_le (by decide) (e_more (d := 0))) (fun y3601 qy3601 hRy3601 => ?_)
  obtain ⟨rfl, my3601, ny3601⟩ := hRy3601
  have ey3601 : y3601.toInt = 1 := by omega
  refine y_cI (i := .invokestatic 233) (len := 3) (r := (1, 163, 12, 1594)) (nL := 2) (k := 1) (n := 2) (hs := []) (args := [zi y3599, zi y3601]) (rest := [.inl (some 55), zi y3598, zi xk, .inl (some 52)]) (l0 := [some (zi y3599), some (zi y3601)]) (by decide +kernel) (Or.inl ⟨_, rfl⟩) rfl rfl rfl rfl (Nat.le_of_ble_eq_true rfl) rfl rfl (qI_le (by decide) (e_less (d := 0))) (fun y3602 qy3602 hRy3602 => ?_)
  obtain ⟨rfl, my3602, ny3602⟩ := hRy3602
  have ey3602 : y3602.toInt = 1 := by omega
  have hv3604 := (ho3594 55 46 (Or.inl (by omega))).trans hp1z
  refine y_cI (i := .invokestatic 143) (len := 3) (r := (1, 166, 12, 1543)) (nL := 2) (k := 1) (n := 2) (hs := []) (args := [.inl (some 55), zi y3602]) (rest := [zi y3598, zi xk, .inl (some 52)]) (l0 := [some (.inl (some 55)), some (zi y3602)]) (by decide +kernel) (Or.inl ⟨_, rfl⟩) rfl rfl rfl rfl (Nat.le_of_ble_eq_true rfl) rfl rfl (qI_le (by decide) (m_parts (d := 0) (s := 1) hg3594 (by omega) (by omega) hv3604)) (fun y3603 qy3603 hRy3603 => ?_)
  obtain ⟨rfl, rfl⟩ := hRy3603
  refine y_ic (c := 1) (len := 1) (r := (0, 0, 0, 0)) (by decide +kernel) (by decide) (fun y3605 hy3605 => ?_)
  refine y_sub (len := 1) (r := (0, 0, 0, 0)) (by decide +kernel) (by omega) (by omega) (fun y3606 hy3606 => ?_)
  refine y_cI (i := .invokestatic 200) (len := 3) (r := (1, 162, 12, 1486)) (nL := 3) (k := 2) (n := 3) (hs := []) (args := [zi xk, zi y3598, zi y3606]) (rest := [.inl (some 52)]) (l0 := [some (zi xk), some (zi y3598), some (zi y3606)]) (by decide +kernel) (Or.inl ⟨_, rfl⟩) rfl rfl rfl rfl (Nat.le_of_ble_eq_true rfl) rfl rfl (qI_le (by decide) (m_in0 (d := 0) (by omega))) (fun y3607 qy3607 hRy3607 => ?_)
  obtain ⟨rfl, hy3607⟩ := hRy3607
  refine y_iF (c := .ne) (off := 7) (len := 3) (r := (0, 0, 0, 0)) (by decide +kernel) (acmpF (c := .ne) (by show _ = _; omega)) ?_
  refine y_ic (c := 1) (len := 1) (r := (0, 0, 0, 0)) (by decide +kernel) (by decide) (fun y3608 hy3608 => ?_)
  refine y_goto (off := 4) (pc' := 46) (len := 3) (r := (0, 0, 0, 0)) (by decide +kernel) (by decide +kernel) ?_
  refine y_ic (c := 1) (len := 1) (r := (0, 0, 0, 0)) (by decide +kernel) (by decide) (fun y3609 hy3609 => ?_)
  refine y_ic (c := 0) (len := 1) (r := (0, 0, 0, 0)) (by decide +kernel) (by decide) (fun y3610 hy3610 => ?_)
  refine y_cI (i := .invokevirtual 204) (len := 3) (r := (0, 161, 12, 1489)) (nL := 4) (k := 2) (n := 4) (hs := []) (args := [.inl (some 52), zi y3608, zi y3609, zi y3610]) (rest := []) (l0 := [some (.inl (some 52)), some (zi y3608), some (zi y3609), some (zi y3610)]) (by decide +kernel) (Or.inr (Or.inl ⟨_, rfl⟩)) rfl rfl rfl rfl (Nat.le_of_ble_eq_true rfl) (z52 hg3594) rfl (qI_le (by decide) (m_bad1 (d := 0) (e := 0) hg3594 (by omega) (by omega) (by omega) (by omega) hs3594 (by omega))) (fun y3611 h3611 hRy3611 => ?_)
  obtain ⟨hg3611, hy3611, ⟨z3611, hz3611, ez3611⟩, F3611⟩ := hRy3611
  refine y_iF (c := .eq) (off := 5) (len := 3) (r := (0, 0, 0, 0)) (by decide +kernel) (acmpF (c := .eq) (by show ¬ (_ = _); omega)) ?_
  refine y_ic (c := 0) (len := 1) (r := (0, 0, 0, 0)) (by decide +kernel) (by decide) (fun y3612 hy3612 => ?_)
  refine y_rI (len := 1) (r := (0, 0, 0, 0)) (nL := 3) (k := 1) (n9 := 3) (hs := []) (by decide +kernel) rfl rfl ?_
  exact ((F3611 52 47 (by omega)).trans (ho3594 52 47 (by omega)))
theorem j_dropT {t : Nat} {τ : List Nat} {h : zh} {cur : bsT} {hs : List bsT} {x xk : Int32} (hg : hG τ h) (rm : RM h cur hs) (hx : ¬ (x.toInt = 0 ∨ x.toInt = 1)) : qI 60 190 [some (.inl (some 52)), some (zi x), some (zi xk)] h t (fun y h1 => hsl h1 52 47 = hsl h 52 47) := by
  refine qI_le (d := 21) (by decide) (qI_of ?_)
  have lz := len55 hg rm.1
  obtain ⟨⟨xp0z, hp0z, ep0z⟩, ⟨xc0z, hc0z, ec0z⟩, ip0z, ic0z⟩ := rm.1.1
  obtain ⟨⟨xp1z, hp1z, ep1z⟩, ⟨xc1z, hc1z, ec1z⟩, ip1z, ic1z⟩ := rm.1.2
  refine y_same (i := .aload_n 0) (len := 1) (r := (0, 0, 0, 0)) (pc' := 1) (ls' := [some (.inl (some 52)), some (zi x), some (zi xk)]) (st' := [.inl (some 52)]) (by decide +kernel) (fun k q => by cases q) rfl ?_
  refine y_ic (c := 0) (len := 1) (r := (0, 0, 0, 0)) (by decide +kernel) (by decide) (fun y3613 hy3613 => ?_)
  refine y_put (j := 92) (lo := (-2147483648)) (hi := 2147483647) (len := 3) (r := (12, 0, 0, 1328)) (by decide +kernel) hg (t52 hg) at52 rfl rfl (by decide) rfl (qin_full _).1 (qin_full _).2 rfl (fun h3614 hg3614 hl3614 hs3614 ho3614 => ?_)
  have ho3614 : hO 52 0 h h3614 := ho3614
  have hs3614 : hsl h3614 52 0 = some (zi y3613) := hs3614
  refine y_same (i := .aload_n 0) (len := 1) (r := (0, 0, 0, 0)) (pc' := 6) (ls' := [some (.inl (some 52)), some (zi x), some (zi xk)]) (st' := [.inl (some 52)]) (by decide +kernel) (fun k q => by cases q) rfl ?_
  refine y_same (i := .iload_n 1) (len := 1) (r := (0, 0, 0, 0)) (pc' := 7) (ls' := [some (.inl (some 52)), some (zi x), some (zi xk)]) (st' := [zi x, .inl (some 52)]) (by decide +kernel) (fun k q => by cases q) rfl ?_
  refine y_ic (c := 0) (len := 1) (r := (0, 0, 0, 0)) (by decide +kernel) (by decide) (fun y3615 hy3615 => ?_)
  refine y_ic (c := 1) (len := 1) (r := (0, 0, 0, 0)) (by decide +kernel) (by decide) (fun y3616 hy3616 => ?_)
  refine y_cI (i := .invokestatic 200) (len := 3) (r := (1, 162, 12, 1486)) (nL := 3) (k := 2) (n := 3) (hs := []) (args := [zi x, zi y3615, zi y3616]) (rest := [.inl (some 52)]) (l0 := [some (zi x), some (zi y3615), some (zi y3616)]) (by decide +kernel) (Or.inl ⟨_, rfl⟩) rfl rfl rfl rfl (Nat.le_of_ble_eq_true rfl) rfl rfl (qI_le (by decide) (m_in0 (d := 0) (by omega))) (fun y3617 qy3617 hRy3617 => ?_)
  obtain ⟨rfl, hy3617⟩ := hRy3617
  refine y_iT (c := .eq) (off := 29) (pc' := 41) (len := 3) (r := (0, 0, 0, 0)) (by decide +kernel) (acmpT (c := .eq) (by show _ = _; omega)) (by decide +kernel) ?_
  refine y_ic (c := 1) (len := 1) (r := (0, 0, 0, 0)) (by decide +kernel) (by decide) (fun y3618 hy3618 => ?_)
  refine y_goto (off := 4) (pc' := 46) (len := 3) (r := (0, 0, 0, 0)) (by decide +kernel) (by decide +kernel) ?_
  refine y_ic (c := 1) (len := 1) (r := (0, 0, 0, 0)) (by decide +kernel) (by decide) (fun y3619 hy3619 => ?_)
  refine y_ic (c := 0) (len := 1) (r := (0, 0, 0, 0)) (by decide +kernel) (by decide) (fun y3620 hy3620 => ?_)
  refine y_cI (i := .invokevirtual 204) (len := 3) (r := (0, 161, 12, 1489)) (nL := 4) (k := 2) (n := 4) (hs := []) (args := [.inl (some 52), zi y3618, zi y3619, zi y3620]) (rest := []) (l0 := [some (.inl (some 52)), some (zi y3618), some (zi y3619), some (zi y3620)]) (by decide +kernel) (Or.inr (Or.inl ⟨_, rfl⟩)) rfl rfl rfl rfl (Nat.le_of_ble_eq_true rfl) (z52 hg3614) rfl (qI_le (by decide) (m_bad1 (d := 0) (e := 0) hg3614 (by omega) (by omega) (by omega) (by omega) hs3614 (by omega))) (fun y3621 h3621 hRy3621 => ?_)
  obtain ⟨hg3621, hy3621, ⟨z3621, hz3621, ez3621⟩, F3621⟩ := hRy3621
  refine y_iF (c := .eq) (off := 5) (len := 3) (r := (0, 0, 0, 0)) (by decide +kernel) (acmpF (c := .eq) (by show ¬ (_ = _); omega)) ?_
  refine y_ic (c := 0) (len := 1) (r := (0, 0, 0, 0)) (by decide +kernel) (by decide) (fun y3622 hy3622 => ?_)
  refine y_rI (len := 1) (r := (0, 0, 0, 0)) (nL := 3) (k := 1) (n9 := 3) (hs := []) (by decide +kernel) rfl rfl ?_
  exact ((F3621 52 47 (by omega)).trans (ho3614 52 47 (by omega)))
theorem j_dropX {t : Nat} {τ : List Nat} {h : zh} {cur : bsT} {hs : List bsT} {x xk : Int32} (hg : hG τ h) (rm : RM h cur hs) (hb : ¬ ((x.toInt = 0 ∧ 0 ≤ xk.toInt ∧ xk.toInt < (cur.1.1.length : Int)) ∨ (x.toInt = 1 ∧ 0 ≤ xk.toInt ∧ xk.toInt < (cur.2.1.length : Int)))) : qI 60 190 [some (.inl (some 52)), some (zi x), some (zi xk)] h t (fun y h1 => hsl h1 52 47 = hsl h 52 47) := by
  rcases Decidable.em (x.toInt = 0) with q | q
  · exact j_dropT0 hg rm q (by omega)
  · rcases Decidable.em (x.toInt = 1) with q1 | q1
    · exact j_dropT1 hg rm q1 (by omega)
    · exact j_dropT hg rm (by omega)
theorem j_forgetM0 {t k : Nat} {τ : List Nat} {h : zh} {cur : bsT} {hs : List bsT} {x xk : Int32} (hg : hG τ h) (rm : RM h cur hs) (hx : x.toInt = 0) (exk : xk.toInt = (k : Int)) (hk : k < cur.1.2.length) : qI 60 191 [some (.inl (some 52)), some (zi x), some (zi xk)] h t (fun y h1 => ci_ h1 52 47 0) := by
  refine qI_le (d := 21) (by decide) (qI_of ?_)
  have lz := len55 hg rm.1
  obtain ⟨⟨xp0z, hp0z, ep0z⟩, ⟨xc0z, hc0z, ec0z⟩, ip0z, ic0z⟩ := rm.1.1
  obtain ⟨⟨xp1z, hp1z, ep1z⟩, ⟨xc1z, hc1z, ec1z⟩, ip1z, ic1z⟩ := rm.1.2
  refine y_same (i := .aload_n 0) (len := 1) (r := (0, 0, 0, 0)) (pc' := 1) (ls' := [some (.inl (some 52)), some (zi x), some (zi xk)]) (st' := [.inl (some 52)]) (by decide +kernel) (fun k q => by cases q) rfl ?_
  refine y_ic (c := 0) (len := 1) (r := (0, 0, 0, 0)) (by decide +kernel) (by decide) (fun y3623 hy3623 => ?_)
  refine y_put (j := 92) (lo := (-2147483648)) (hi := 2147483647) (len := 3) (r := (12, 0, 0, 1328)) (by decide +kernel) hg (t52 hg) at52 rfl rfl (by decide) rfl (qin_full _).1 (qin_full _).2 rfl (fun h3624 hg3624 hl3624 hs3624 ho3624 => ?_)
  have ho3624 : hO 52 0 h h3624 := ho3624
  have hs3624 : hsl h3624 52 0 = some (zi y3623) := hs3624
  refine y_same (i := .aload_n 0) (len := 1) (r := (0, 0, 0, 0)) (pc' := 6) (ls' := [some (.inl (some 52)), some (zi x), some (zi xk)]) (st' := [.inl (some 52)]) (by decide +kernel) (fun k q => by cases q) rfl ?_
  refine y_same (i := .iload_n 1) (len := 1) (r := (0, 0, 0, 0)) (pc' := 7) (ls' := [some (.inl (some 52)), some (zi x), some (zi xk)]) (st' := [zi x, .inl (some 52)]) (by decide +kernel) (fun k q => by cases q) rfl ?_
  refine y_ic (c := 0) (len := 1) (r := (0, 0, 0, 0)) (by decide +kernel) (by decide) (fun y3625 hy3625 => ?_)
  refine y_ic (c := 1) (len := 1) (r := (0, 0, 0, 0)) (by decide +kernel) (by decide) (fun y3626 hy3626 => ?_)
  refine y_cI (i := .invokestatic 200) (len := 3) (r := (1, 162, 12, 1486)) (nL := 3) (k := 2) (n := 3) (hs := []) (args := [zi x, zi y3625, zi y3626]) (rest := [.inl (some 52)]) (l0 := [some (zi x), some (zi y3625), some (zi y3626)]) (by decide +kernel) (Or.inl ⟨_, rfl⟩) rfl rfl rfl rfl (Nat.le_of_ble_eq_true rfl) rfl rfl (qI_le (by decide) (m_in (d := 0) (by omega) (by omega))) (fun y3627 qy3627 hRy3627 => ?_)
  obtain ⟨rfl, hy3627⟩ := hRy3627
  refine y_iF (c := .eq) (off := 29) (len := 3) (r := (0, 0, 0, 0)) (by decide +kernel) (acmpF (c := .eq) (by show ¬ (_ = _); omega)) ?_
  refine y_same (i := .iload_n 2) (len := 1) (r := (0, 0, 0, 0)) (pc' := 16) (ls' := [some (.inl (some 52)), some (zi x), some (zi xk)]) (st' := [zi xk, .inl (some 52)]) (by decide +kernel) (fun k q => by cases q) rfl ?_
  refine y_ic (c := 0) (len := 1) (r := (0, 0, 0, 0)) (by decide +kernel) (by decide) (fun y3628 hy3628 => ?_)
  refine y_same (i := .aload_n 0) (len := 1) (r := (0, 0, 0, 0)) (pc' := 18) (ls' := [some (.inl (some 52)), some (zi x), some (zi xk)]) (st' := [.inl (some 52), zi y3628, zi xk, .inl (some 52)]) (by decide +kernel) (fun k q => by cases q) rfl ?_
  refine y_get (j := 20) (len := 3) (r := (12, 9, 2, 1337)) (by decide +kernel) hg3624 (t52 hg3624) at52 rfl rfl (g_r52 (f := 9) (T2 := 55) hg3624 rfl (by decide)).1 ?_
  refine y_ic (c := 1) (len := 1) (r := (0, 0, 0, 0)) (by decide +kernel) (by decide) (fun y3629 hy3629 => ?_)
  refine y_ic (c := 0) (len := 1) (r := (0, 0, 0, 0)) (by decide +kernel) (by decide) (fun y3630 hy3630 => ?_)
  refine y_same (i := .iload_n 1) (len := 1) (r := (0, 0, 0, 0)) (pc' := 24) (ls' := [some (.inl (some 52)), some (zi x), some (zi xk)]) (st' := [zi x, zi y3630, zi y3629, .inl (some 55), zi y3628, zi xk, .inl (some 52)]) (by decide +kernel) (fun k q => by cases q) rfl ?_
  refine y_cI (i := .invokestatic 230) (len := 3) (r := (1, 164, 12, 1591)) (nL := 2) (k := 1) (n := 2) (hs := []) (args := [zi y3630, zi x]) (rest := [zi y3629, .inl (some 55), zi y3628, zi xk, .inl (some 52)]) (l0 := [some (zi y3630), some (zi x)]) (by decide +kernel) (Or.inl ⟨_, rfl⟩) rfl rfl rfl rfl (Nat.le_of_ble_eq_true rfl) rfl rfl (qI_le (by decide) (e_more (d := 0))) (fun y3631 qy3631 hRy3631 => ?_)
  obtain ⟨rfl, my3631, ny3631⟩ := hRy3631
  have ey3631 : y3631.toInt = 0 := by omega
  refine y_cI (i := .invokestatic 233) (len := 3) (r := (1, 163, 12, 1594)) (nL := 2) (k := 1) (n := 2) (hs := []) (args := [zi y3629, zi y3631]) (rest := [.inl (some 55), zi y3628, zi xk, .inl (some 52)]) (l0 := [some (zi y3629), some (zi y3631)]) (by decide +kernel) (Or.inl ⟨_, rfl⟩) rfl rfl rfl rfl (Nat.le_of_ble_eq_true rfl) rfl rfl (qI_le (by decide) (e_less (d := 0))) (fun y3632 qy3632 hRy3632 => ?_)
  obtain ⟨rfl, my3632, ny3632⟩ := hRy3632
  have ey3632 : y3632.toInt = 0 := by omega
  have hv3634 := (ho3624 55 1 (Or.inl (by omega))).trans hc0z
  refine y_cI (i := .invokestatic 155) (len := 3) (r := (1, 167, 12, 1560)) (nL := 2) (k := 1) (n := 2) (hs := []) (args := [.inl (some 55), zi y3632]) (rest := [zi y3628, zi xk, .inl (some 52)]) (l0 := [some (.inl (some 55)), some (zi y3632)]) (by decide +kernel) (Or.inl ⟨_, rfl⟩) rfl rfl rfl rfl (Nat.le_of_ble_eq_true rfl) rfl rfl (qI_le (by decide) (m_claims (d := 0) (s := 0) hg3624 (by omega) (by omega) hv3634)) (fun y3633 qy3633 hRy3633 => ?_)
  obtain ⟨rfl, rfl⟩ := hRy3633
  refine y_ic (c := 1) (len := 1) (r := (0, 0, 0, 0)) (by decide +kernel) (by decide) (fun y3635 hy3635 => ?_)
  refine y_sub (len := 1) (r := (0, 0, 0, 0)) (by decide +kernel) (by omega) (by omega) (fun y3636 hy3636 => ?_)
  refine y_cI (i := .invokestatic 200) (len := 3) (r := (1, 162, 12, 1486)) (nL := 3) (k := 2) (n := 3) (hs := []) (args := [zi xk, zi y3628, zi y3636]) (rest := [.inl (some 52)]) (l0 := [some (zi xk), some (zi y3628), some (zi y3636)]) (by decide +kernel) (Or.inl ⟨_, rfl⟩) rfl rfl rfl rfl (Nat.le_of_ble_eq_true rfl) rfl rfl (qI_le (by decide) (m_in (d := 0) (by omega) (by omega))) (fun y3637 qy3637 hRy3637 => ?_)
  obtain ⟨rfl, hy3637⟩ := hRy3637
  refine y_iT (c := .ne) (off := 7) (pc' := 45) (len := 3) (r := (0, 0, 0, 0)) (by decide +kernel) (acmpT (c := .ne) (by show ¬ (_ = _); omega)) (by decide +kernel) ?_
  refine y_ic (c := 0) (len := 1) (r := (0, 0, 0, 0)) (by decide +kernel) (by decide) (fun y3638 hy3638 => ?_)
  refine y_ic (c := 1) (len := 1) (r := (0, 0, 0, 0)) (by decide +kernel) (by decide) (fun y3639 hy3639 => ?_)
  refine y_ic (c := 0) (len := 1) (r := (0, 0, 0, 0)) (by decide +kernel) (by decide) (fun y3640 hy3640 => ?_)
  refine y_cI (i := .invokevirtual 204) (len := 3) (r := (0, 161, 12, 1489)) (nL := 4) (k := 2) (n := 4) (hs := []) (args := [.inl (some 52), zi y3638, zi y3639, zi y3640]) (rest := []) (l0 := [some (.inl (some 52)), some (zi y3638), some (zi y3639), some (zi y3640)]) (by decide +kernel) (Or.inr (Or.inl ⟨_, rfl⟩)) rfl rfl rfl rfl (Nat.le_of_ble_eq_true rfl) (z52 hg3624) rfl (qI_le (by decide) (m_bad (d := 0) hg3624 (by omega) hs3624 (by omega))) (fun y3641 qy3641 hRy3641 => ?_)
  obtain ⟨rfl, hy3641⟩ := hRy3641
  refine y_iT (c := .eq) (off := 5) (pc' := 56) (len := 3) (r := (0, 0, 0, 0)) (by decide +kernel) (acmpT (c := .eq) (by show _ = _; omega)) (by decide +kernel) ?_
  refine y_same (i := .aload_n 0) (len := 1) (r := (0, 0, 0, 0)) (pc' := 57) (ls' := [some (.inl (some 52)), some (zi x), some (zi xk)]) (st' := [.inl (some 52)]) (by decide +kernel) (fun k q => by cases q) rfl ?_
  refine y_cV (i := .invokevirtual 213) (len := 3) (r := (0, 186, 12, 1568)) (nL := 2) (k := 0) (n := 1) (hs := []) (args := [.inl (some 52)]) (rest := []) (l0 := [some (.inl (some 52)), none]) (by decide +kernel) (Or.inr (Or.inl ⟨_, rfl⟩)) rfl rfl rfl rfl (Nat.le_of_ble_eq_true rfl) (z52 hg3624) rfl (qV_le (by decide) (m_remB hg3624 (RM_up rm (fun k j h1 => (ho3624 k j (by omega)))))) (fun h3642 hR3642 => ?_)
  obtain ⟨⟨hg3642, rm3642, F3642⟩, jx3642, jh3642, je3642⟩ := hR3642
  have le3642 := len55 hg3642 rm3642.1
  obtain ⟨⟨xp03642, hp03642, ep03642⟩, ⟨xc03642, hc03642, ec03642⟩, ip03642, ic03642⟩ := rm3642.1.1
  obtain ⟨⟨xp13642, hp13642, ep13642⟩, ⟨xc13642, hc13642, ec13642⟩, ip13642, ic13642⟩ := rm3642.1.2
  refine y_same (i := .aload_n 0) (len := 1) (r := (0, 0, 0, 0)) (pc' := 61) (ls' := [some (.inl (some 52)), some (zi x), some (zi xk)]) (st' := [.inl (some 52)]) (by decide +kernel) (fun k q => by cases q) rfl ?_
  refine y_same (i := .iload_n 1) (len := 1) (r := (0, 0, 0, 0)) (pc' := 62) (ls' := [some (.inl (some 52)), some (zi x), some (zi xk)]) (st' := [zi x, .inl (some 52)]) (by decide +kernel) (fun k q => by cases q) rfl ?_
  refine y_same (i := .iload_n 2) (len := 1) (r := (0, 0, 0, 0)) (pc' := 63) (ls' := [some (.inl (some 52)), some (zi x), some (zi xk)]) (st' := [zi xk, zi x, .inl (some 52)]) (by decide +kernel) (fun k q => by cases q) rfl ?_
  refine y_cI (i := .invokestatic 158) (len := 3) (r := (1, 169, 12, 1563)) (nL := 2) (k := 1) (n := 2) (hs := []) (args := [zi x, zi xk]) (rest := [.inl (some 52)]) (l0 := [some (zi x), some (zi xk)]) (by decide +kernel) (Or.inl ⟨_, rfl⟩) rfl rfl rfl rfl (Nat.le_of_ble_eq_true rfl) rfl rfl (qI_le (by decide) (m_claimAt (d := 0) (s := 0) (k := k) (by omega) (by omega) exk (by omega))) (fun y3643 qy3643 hRy3643 => ?_)
  obtain ⟨rfl, hy3643⟩ := hRy3643
  refine y_same (i := .aload_n 0) (len := 1) (r := (0, 0, 0, 0)) (pc' := 67) (ls' := [some (.inl (some 52)), some (zi x), some (zi xk)]) (st' := [.inl (some 52), zi y3643, .inl (some 52)]) (by decide +kernel) (fun k q => by cases q) rfl ?_
  refine y_get (j := 20) (len := 3) (r := (12, 9, 2, 1337)) (by decide +kernel) hg3642 (t52 hg3642) at52 rfl rfl (g_r52 (f := 9) (T2 := 55) hg3642 rfl (by decide)).1 ?_
  refine y_same (i := .iload_n 1) (len := 1) (r := (0, 0, 0, 0)) (pc' := 71) (ls' := [some (.inl (some 52)), some (zi x), some (zi xk)]) (st' := [zi x, .inl (some 55), zi y3643, .inl (some 52)]) (by decide +kernel) (fun k q => by cases q) rfl ?_
  refine y_cI (i := .invokestatic 155) (len := 3) (r := (1, 167, 12, 1560)) (nL := 2) (k := 1) (n := 2) (hs := []) (args := [.inl (some 55), zi x]) (rest := [zi y3643, .inl (some 52)]) (l0 := [some (.inl (some 55)), some (zi x)]) (by decide +kernel) (Or.inl ⟨_, rfl⟩) rfl rfl rfl rfl (Nat.le_of_ble_eq_true rfl) rfl rfl (qI_le (by decide) (m_claims (d := 0) (s := 0) hg3642 (by omega) (by omega) hc03642)) (fun y3644 qy3644 hRy3644 => ?_)
  obtain ⟨rfl, rfl⟩ := hRy3644
  refine y_same (i := .iload_n 2) (len := 1) (r := (0, 0, 0, 0)) (pc' := 75) (ls' := [some (.inl (some 52)), some (zi x), some (zi xk)]) (st' := [zi xk, zi xc03642, zi y3643, .inl (some 52)]) (by decide +kernel) (fun k q => by cases q) rfl ?_
  refine y_sub (len := 1) (r := (0, 0, 0, 0)) (by decide +kernel) (by omega) (by omega) (fun y3645 hy3645 => ?_)
  refine y_cV (i := .invokevirtual 236) (len := 3) (r := (0, 189, 12, 1597)) (nL := 4) (k := 0) (n := 3) (hs := []) (args := [.inl (some 52), zi y3643, zi y3645]) (rest := []) (l0 := [some (.inl (some 52)), some (zi y3643), some (zi y3645), none]) (by decide +kernel) (Or.inr (Or.inl ⟨_, rfl⟩)) rfl rfl rfl rfl (Nat.le_of_ble_eq_true rfl) (z52 hg3642) rfl (qV_le (by decide) (m_closes (f := (22 + 4 * k)) (m := (cur.1.2.length - k)) hg3642 (by omega) (by omega) (by omega) (by omega))) (fun h3646 hR3646 => ?_)
  obtain ⟨hg3646, a3646, F3646⟩ := hR3646
  refine y_same (i := .aload_n 0) (len := 1) (r := (0, 0, 0, 0)) (pc' := 80) (ls' := [some (.inl (some 52)), some (zi x), some (zi xk)]) (st' := [.inl (some 52)]) (by decide +kernel) (fun k q => by cases q) rfl ?_
  refine y_get (j := 20) (len := 3) (r := (12, 9, 2, 1337)) (by decide +kernel) hg3646 (t52 hg3646) at52 rfl rfl (g_r52 (f := 9) (T2 := 55) hg3646 rfl (by decide)).1 ?_
  refine y_bi (c := 46) (len := 2) (r := (0, 0, 0, 0)) (by decide +kernel) (by decide) (fun y3647 hy3647 => ?_)
  refine y_same (i := .iload_n 1) (len := 1) (r := (0, 0, 0, 0)) (pc' := 86) (ls' := [some (.inl (some 52)), some (zi x), some (zi xk)]) (st' := [zi x, zi y3647, .inl (some 55)]) (by decide +kernel) (fun k q => by cases q) rfl ?_
  refine y_mul (c := 46) (len := 1) (r := (0, 0, 0, 0)) (by decide +kernel) (by omega) (by omega) (by omega) (fun y3648 hy3648 => ?_)
  refine y_ic (c := 1) (len := 1) (r := (0, 0, 0, 0)) (by decide +kernel) (by decide) (fun y3649 hy3649 => ?_)
  refine y_add (len := 1) (r := (0, 0, 0, 0)) (by decide +kernel) (by omega) (by omega) (fun y3650 hy3650 => ?_)
  refine y_same (i := .dup2) (len := 1) (r := (0, 0, 0, 0)) (pc' := 90) (ls' := [some (.inl (some 52)), some (zi x), some (zi xk)]) (st' := [zi y3650, .inl (some 55), zi y3650, .inl (some 55)]) (by decide +kernel) (fun k q => by cases q) rfl ?_
  have hv3651 := (F3646 55 1 (by omega)).trans hc03642
  refine y_ial (i := 1) (len := 1) (r := (0, 0, 0, 0)) (by decide +kernel) hg3646 (tv55 hg3646) av55 (by omega) hv3651 ?_
  refine y_ic (c := 1) (len := 1) (r := (0, 0, 0, 0)) (by decide +kernel) (by decide) (fun y3652 hy3652 => ?_)
  refine y_sub (len := 1) (r := (0, 0, 0, 0)) (by decide +kernel) (by omega) (by omega) (fun y3653 hy3653 => ?_)
  refine y_ias (i := 1) (len := 1) (r := (0, 0, 0, 0)) (by decide +kernel) hg3646 (tv55 hg3646) av55 rfl (by omega) (by omega) (sr92 _ (by omega)) (by omega) (by omega) (fun h3654 hg3654 hl3654 hs3654 ho3654 => ?_)
  refine y_same (i := .aload_n 0) (len := 1) (r := (0, 0, 0, 0)) (pc' := 95) (ls' := [some (.inl (some 52)), some (zi x), some (zi xk)]) (st' := [.inl (some 52)]) (by decide +kernel) (fun k q => by cases q) rfl ?_
  refine y_get (j := 20) (len := 3) (r := (12, 9, 2, 1337)) (by decide +kernel) hg3654 (t52 hg3654) at52 rfl rfl (g_r52 (f := 9) (T2 := 55) hg3654 rfl (by decide)).1 ?_
  refine y_same (i := .iload_n 1) (len := 1) (r := (0, 0, 0, 0)) (pc' := 99) (ls' := [some (.inl (some 52)), some (zi x), some (zi xk)]) (st' := [zi x, .inl (some 55)]) (by decide +kernel) (fun k q => by cases q) rfl ?_
  refine y_cI (i := .invokestatic 155) (len := 3) (r := (1, 167, 12, 1560)) (nL := 2) (k := 1) (n := 2) (hs := []) (args := [.inl (some 55), zi x]) (rest := []) (l0 := [some (.inl (some 55)), some (zi x)]) (by decide +kernel) (Or.inl ⟨_, rfl⟩) rfl rfl rfl rfl (Nat.le_of_ble_eq_true rfl) rfl rfl (qI_le (by decide) (m_claims (d := 0) (s := 0) hg3654 (by omega) (by omega) hs3654)) (fun y3655 qy3655 hRy3655 => ?_)
  obtain ⟨rfl, rfl⟩ := hRy3655
  refine y_rI (len := 1) (r := (0, 0, 0, 0)) (nL := 3) (k := 1) (n9 := 3) (hs := []) (by decide +kernel) rfl rfl ?_
  have hv3656 := (F3646 52 47 (by omega)).trans jh3642
  have hv3657 := (ho3654 52 47 (Or.inl (by omega))).trans hv3656
  exact ⟨_, hv3657, by omega⟩
theorem j_forgetM1 {t k : Nat} {τ : List Nat} {h : zh} {cur : bsT} {hs : List bsT} {x xk : Int32} (hg : hG τ h) (rm : RM h cur hs) (hx : x.toInt = 1) (exk : xk.toInt = (k : Int)) (hk : k < cur.2.2.length) : qI 60 191 [some (.inl (some 52)), some (zi x), some (zi xk)] h t (fun y h1 => ci_ h1 52 47 0) := by
  refine qI_le (d := 21) (by decide) (qI_of ?_)
  have lz := len55 hg rm.1
  obtain ⟨⟨xp0z, hp0z, ep0z⟩, ⟨xc0z, hc0z, ec0z⟩, ip0z, ic0z⟩ := rm.1.1
  obtain ⟨⟨xp1z, hp1z, ep1z⟩, ⟨xc1z, hc1z, ec1z⟩, ip1z, ic1z⟩ := rm.1.2
  refine y_same (i := .aload_n 0) (len := 1) (r := (0, 0, 0, 0)) (pc' := 1) (ls' := [some (.inl (some 52)), some (zi x), some (zi xk)]) (st' := [.inl (some 52)]) (by decide +kernel) (fun k q => by cases q) rfl ?_
  refine y_ic (c := 0) (len := 1) (r := (0, 0, 0, 0)) (by decide +kernel) (by decide) (fun y3658 hy3658 => ?_)
  refine y_put (j := 92) (lo := (-2147483648)) (hi := 2147483647) (len := 3) (r := (12, 0, 0, 1328)) (by decide +kernel) hg (t52 hg) at52 rfl rfl (by decide) rfl (qin_full _).1 (qin_full _).2 rfl (fun h3659 hg3659 hl3659 hs3659 ho3659 => ?_)
  have ho3659 : hO 52 0 h h3659 := ho3659
  have hs3659 : hsl h3659 52 0 = some (zi y3658) := hs3659
  refine y_same (i := .aload_n 0) (len := 1) (r := (0, 0, 0, 0)) (pc' := 6) (ls' := [some (.inl (some 52)), some (zi x), some (zi xk)]) (st' := [.inl (some 52)]) (by decide +kernel) (fun k q => by cases q) rfl ?_
  refine y_same (i := .iload_n 1) (len := 1) (r := (0, 0, 0, 0)) (pc' := 7) (ls' := [some (.inl (some 52)), some (zi x), some (zi xk)]) (st' := [zi x, .inl (some 52)]) (by decide +kernel) (fun k q => by cases q) rfl ?_
  refine y_ic (c := 0) (len := 1) (r := (0, 0, 0, 0)) (by decide +kernel) (by decide) (fun y3660 hy3660 => ?_)
  refine y_ic (c := 1) (len := 1) (r := (0, 0, 0, 0)) (by decide +kernel) (by decide) (fun y3661 hy3661 => ?_)
  refine y_cI (i := .invokestatic 200) (len := 3) (r := (1, 162, 12, 1486)) (nL := 3) (k := 2) (n := 3) (hs := []) (args := [zi x, zi y3660, zi y3661]) (rest := [.inl (some 52)]) (l0 := [some (zi x), some (zi y3660), some (zi y3661)]) (by decide +kernel) (Or.inl ⟨_, rfl⟩) rfl rfl rfl rfl (Nat.le_of_ble_eq_true rfl) rfl rfl (qI_le (by decide) (m_in (d := 0) (by omega) (by omega))) (fun y3662 qy3662 hRy3662 => ?_)
  obtain ⟨rfl, hy3662⟩ := hRy3662
  refine y_iF (c := .eq) (off := 29) (len := 3) (r := (0, 0, 0, 0)) (by decide +kernel) (acmpF (c := .eq) (by show ¬ (_ = _); omega)) ?_
  refine y_same (i := .iload_n 2) (len := 1) (r := (0, 0, 0, 0)) (pc' := 16) (ls' := [some (.inl (some 52)), some (zi x), some (zi xk)]) (st' := [zi xk, .inl (some 52)]) (by decide +kernel) (fun k q => by cases q) rfl ?_
  refine y_ic (c := 0) (len := 1) (r := (0, 0, 0, 0)) (by decide +kernel) (by decide) (fun y3663 hy3663 => ?_)
  refine y_same (i := .aload_n 0) (len := 1) (r := (0, 0, 0, 0)) (pc' := 18) (ls' := [some (.inl (some 52)), some (zi x), some (zi xk)]) (st' := [.inl (some 52), zi y3663, zi xk, .inl (some 52)]) (by decide +kernel) (fun k q => by cases q) rfl ?_
  refine y_get (j := 20) (len := 3) (r := (12, 9, 2, 1337)) (by decide +kernel) hg3659 (t52 hg3659) at52 rfl rfl (g_r52 (f := 9) (T2 := 55) hg3659 rfl (by decide)).1 ?_
  refine y_ic (c := 1) (len := 1) (r := (0, 0, 0, 0)) (by decide +kernel) (by decide) (fun y3664 hy3664 => ?_)
  refine y_ic (c := 0) (len := 1) (r := (0, 0, 0, 0)) (by decide +kernel) (by decide) (fun y3665 hy3665 => ?_)
  refine y_same (i := .iload_n 1) (len := 1) (r := (0, 0, 0, 0)) (pc' := 24) (ls' := [some (.inl (some 52)), some (zi x), some (zi xk)]) (st' := [zi x, zi y3665, zi y3664, .inl (some 55), zi y3663, zi xk, .inl (some 52)]) (by decide +kernel) (fun k q => by cases q) rfl ?_
  refine y_cI (i := .invokestatic 230) (len := 3) (r := (1, 164, 12, 1591)) (nL := 2) (k := 1) (n := 2) (hs := []) (args := [zi y3665, zi x]) (rest := [zi y3664, .inl (some 55), zi y3663, zi xk, .inl (some 52)]) (l0 := [some (zi y3665), some (zi x)]) (by decide +kernel) (Or.inl ⟨_, rfl⟩) rfl rfl rfl rfl (Nat.le_of_ble_eq_true rfl) rfl rfl (qI_le (by decide) (e_more (d := 0))) (fun y3666 qy3666 hRy3666 => ?_)
  obtain ⟨rfl, my3666, ny3666⟩ := hRy3666
  have ey3666 : y3666.toInt = 1 := by omega
  refine y_cI (i := .invokestatic 233) (len := 3) (r := (1, 163, 12, 1594)) (nL := 2) (k := 1) (n := 2) (hs := []) (args := [zi y3664, zi y3666]) (rest := [.inl (some 55), zi y3663, zi xk, .inl (some 52)]) (l0 := [some (zi y3664), some (zi y3666)]) (by decide +kernel) (Or.inl ⟨_, rfl⟩) rfl rfl rfl rfl (Nat.le_of_ble_eq_true rfl) rfl rfl (qI_le (by decide) (e_less (d := 0))) (fun y3667 qy3667 hRy3667 => ?_)
  obtain ⟨rfl, my3667, ny3667⟩ := hRy3667
  have ey3667 : y3667.toInt = 1 := by omega
  have hv3669 := (ho3659 55 47 (Or.inl (by omega))).trans hc1z
  refine y_cI (i := .invokestatic 155) (len := 3) (r := (1, 167, 12, 1560)) (nL := 2) (k := 1) (n := 2) (hs := []) (args := [.inl (some 55), zi y3667]) (rest := [zi y3663, zi xk, .inl (some 52)]) (l0 := [some (.inl (some 55)), some (zi y3667)]) (by decide +kernel) (Or.inl ⟨_, rfl⟩) rfl rfl rfl rfl (Nat.le_of_ble_eq_true rfl) rfl rfl (qI_le (by decide) (m_claims (d := 0) (s := 1) hg3659 (by omega) (by omega) hv3669)) (fun y3668 qy3668 hRy3668 => ?_)
  obtain ⟨rfl, rfl⟩ := hRy3668
  refine y_ic (c := 1) (len := 1) (r := (0, 0, 0, 0)) (by decide +kernel) (by decide) (fun y3670 hy3670 => ?_)
  refine y_sub (len := 1) (r := (0, 0, 0, 0)) (by decide +kernel) (by omega) (by omega) (fun y3671 hy3671 => ?_)
  refine y_cI (i := .invokestatic 200) (len := 3) (r := (1, 162, 12, 1486)) (nL := 3) (k := 2) (n := 3) (hs := []) (args := [zi xk, zi y3663, zi y3671]) (rest := [.inl (some 52)]) (l0 := [some (zi xk), some (zi y3663), some (zi y3671)]) (by decide +kernel) (Or.inl ⟨_, rfl⟩) rfl rfl rfl rfl (Nat.le_of_ble_eq_true rfl) rfl rfl (qI_le (by decide) (m_in (d := 0) (by omega) (by omega))) (fun y3672 qy3672 hRy3672 => ?_)
  obtain ⟨rfl, hy3672⟩ := hRy3672
  refine y_iT (c := .ne) (off := 7) (pc' := 45) (len := 3) (r := (0, 0, 0, 0)) (by decide +kernel) (acmpT (c := .ne) (by show ¬ (_ = _); omega)) (by decide +kernel) ?_
  refine y_ic (c := 0) (len := 1) (r := (0, 0, 0, 0)) (by decide +kernel) (by decide) (fun y3673 hy3673 => ?_)
  refine y_ic (c := 1) (len := 1) (r := (0, 0, 0, 0)) (by decide +kernel) (by decide) (fun y3674 hy3674 => ?_)
  refine y_ic (c := 0) (len := 1) (r := (0, 0, 0, 0)) (by decide +kernel) (by decide) (fun y3675 hy3675 => ?_)
  refine y_cI (i := .invokevirtual 204) (len := 3) (r := (0, 161, 12, 1489)) (nL := 4) (k := 2) (n := 4) (hs := []) (args := [.inl (some 52), zi y3673, zi y3674, zi y3675]) (rest := []) (l0 := [some (.inl (some 52)), some (zi y3673), some (zi y3674), some (zi y3675)]) (by decide +kernel) (Or.inr (Or.inl ⟨_, rfl⟩)) rfl rfl rfl rfl (Nat.le_of_ble_eq_true rfl) (z52 hg3659) rfl (qI_le (by decide) (m_bad (d := 0) hg3659 (by omega) hs3659 (by omega))) (fun y3676 qy3676 hRy3676 => ?_)
  obtain ⟨rfl, hy3676⟩ := hRy3676
  refine y_iT (c := .eq) (off := 5) (pc' := 56) (len := 3) (r := (0, 0, 0, 0)) (by decide +kernel) (acmpT (c := .eq) (by show _ = _; omega)) (by decide +kernel) ?_
  refine y_same (i := .aload_n 0) (len := 1) (r := (0, 0, 0, 0)) (pc' := 57) (ls' := [some (.inl (some 52)), some (zi x), some (zi xk)]) (st' := [.inl (some 52)]) (by decide +kernel) (fun k q => by cases q) rfl ?_
  refine y_cV (i := .invokevirtual 213) (len := 3) (r := (0, 186, 12, 1568)) (nL := 2) (k := 0) (n := 1) (hs := []) (args := [.inl (some 52)]) (rest := []) (l0 := [some (.inl (some 52)), none]) (by decide +kernel) (Or.inr (Or.inl ⟨_, rfl⟩)) rfl rfl rfl rfl (Nat.le_of_ble_eq_true rfl) (z52 hg3659) rfl (qV_le (by decide) (m_remB hg3659 (RM_up rm (fun k j h1 => (ho3659 k j (by omega)))))) (fun h3677 hR3677 => ?_)
  obtain ⟨⟨hg3677, rm3677, F3677⟩, jx3677, jh3677, je3677⟩ := hR3677
  have le3677 := len55 hg3677 rm3677.1
  obtain ⟨⟨xp03677, hp03677, ep03677⟩, ⟨xc03677, hc03677, ec03677⟩, ip03677, ic03677⟩ := rm3677.1.1
  obtain ⟨⟨xp13677, hp13677, ep13677⟩, ⟨xc13677, hc13677, ec13677⟩, ip13677, ic13677⟩ := rm3677.1.2
  refine y_same (i := .aload_n 0) (len := 1) (r := (0, 0, 0, 0)) (pc' := 61) (ls' := [some (.inl (some 52)), some (zi x), some (zi xk)]) (st' := [.inl (some 52)]) (by decide +kernel) (fun k q => by cases q) rfl ?_
  refine y_same (i := .iload_n 1) (len := 1) (r := (0, 0, 0, 0)) (pc' := 62) (ls' := [some (.inl (some 52)), some (zi x), some (zi xk)]) (st' := [zi x, .inl (some 52)]) (by decide +kernel) (fun k q => by cases q) rfl ?_
  refine y_same (i := .iload_n 2) (len := 1) (r := (0, 0, 0, 0)) (pc' := 63) (ls' := [some (.inl (some 52)), some (zi x), some (zi xk)]) (st' := [zi xk, zi x, .inl (some 52)]) (by decide +kernel) (fun k q => by cases q) rfl ?_
  refine y_cI (i := .invokestatic 158) (len := 3) (r := (1, 169, 12, 1563)) (nL := 2) (k := 1) (n := 2) (hs := []) (args := [zi x, zi xk]) (rest := [.inl (some 52)]) (l0 := [some (zi x), some (zi xk)]) (by decide +kernel) (Or.inl ⟨_, rfl⟩) rfl rfl rfl rfl (Nat.le_of_ble_eq_true rfl) rfl rfl (qI_le (by decide) (m_claimAt (d := 0) (s := 1) (k := k) (by omega) (by omega) exk (by omega))) (fun y3678 qy3678 hRy3678 => ?_)
  obtain ⟨rfl, hy3678⟩ := hRy3678
  refine y_same (i := .aload_n 0) (len := 1) (r := (0, 0, 0, 0)) (pc' := 67) (ls' := [some (.inl (some 52)), some (zi x), some (zi xk)]) (st' := [.inl (some 52), zi y3678, .inl (some 52)]) (by decide +kernel) (fun k q => by cases q) rfl ?_
  refine y_get (j := 20) (len := 3) (r := (12, 9, 2, 1337)) (by decide +kernel) hg3677 (t52 hg3677) at52 rfl rfl (g_r52 (f := 9) (T2 := 55) hg3677 rfl (by decide)).1 ?_
  refine y_same (i := .iload_n 1) (len := 1) (r := (0, 0, 0, 0)) (pc' := 71) (ls' := [some (.inl (some 52)), some (zi x), some (zi xk)]) (st' := [zi x, .inl (some 55), zi y3678, .inl (some 52)]) (by decide +kernel) (fun k q => by cases q) rfl ?_
  refine y_cI (i := .invokestatic 155) (len := 3) (r := (1, 167, 12, 1560)) (nL := 2) (k := 1) (n := 2) (hs := []) (args := [.inl (some 55), zi x]) (rest := [zi y3678, .inl (some 52)]) (l0 := [some (.inl (some 55)), some (zi x)]) (by decide +kernel) (Or.inl ⟨_, rfl⟩) rfl rfl rfl rfl (Nat.le_of_ble_eq_true rfl) rfl rfl (qI_le (by decide) (m_claims (d := 0) (s := 1) hg3677 (by omega) (by omega) hc13677)) (fun y3679 qy3679 hRy3679 => ?_)
  obtain ⟨rfl, rfl⟩ := hRy3679
  refine y_same (i := .iload_n 2) (len := 1) (r := (0, 0, 0, 0)) (pc' := 75) (ls' := [some (.inl (some 52)), some (zi x), some (zi xk)]) (st' := [zi xk, zi xc13677, zi y3678, .inl (some 52)]) (by decide +kernel) (fun k q => by cases q) rfl ?_
  refine y_sub (len := 1) (r := (0, 0, 0, 0)) (by decide +kernel) (by omega) (by omega) (fun y3680 hy3680 => ?_)
  refine y_cV (i := .invokevirtual 236) (len := 3) (r := (0, 189, 12, 1597)) (nL := 4) (k := 0) (n := 3) (hs := []) (args := [.inl (some 52), zi y3678, zi y3680]) (rest := []) (l0 := [some (.inl (some 52)), some (zi y3678), some (zi y3680), none]) (by decide +kernel) (Or.inr (Or.inl ⟨_, rfl⟩)) rfl rfl rfl rfl (Nat.le_of_ble_eq_true rfl) (z52 hg3677) rfl (qV_le (by decide) (m_closes (f := (68 + 4 * k)) (m := (cur.2.2.length - k)) hg3677 (by omega) (by omega) (by omega) (by omega))) (fun h3681 hR3681 => ?_)
  obtain ⟨hg3681, a3681, F3681⟩ := hR3681
  refine y_same (i := .aload_n 0) (len := 1) (r := (0, 0, 0, 0)) (pc' := 80) (ls' := [some (.inl (some 52)), some (zi x), some (zi xk)]) (st' := [.inl (some 52)]) (by decide +kernel) (fun k q => by cases q) rfl ?_
  refine y_get (j := 20) (len := 3) (r := (12, 9, 2, 1337)) (by decide +kernel) hg3681 (t52 hg3681) at52 rfl rfl (g_r52 (f := 9) (T2 := 55) hg3681 rfl (by decide)).1 ?_
  refine y_bi (c := 46) (len := 2) (r := (0, 0, 0, 0)) (by decide +kernel) (by decide) (fun y3682 hy3682 => ?_)
  refine y_same (i := .iload_n 1) (len := 1) (r := (0, 0, 0, 0)) (pc' := 86) (ls' := [some (.inl (some 52)), some (zi x), some (zi xk)]) (st' := [zi x, zi y3682, .inl (some 55)]) (by decide +kernel) (fun k q => by cases q) rfl ?_
  refine y_mul (c := 46) (len := 1) (r := (0, 0, 0, 0)) (by decide +kernel) (by omega) (by omega) (by omega) (fun y3683 hy3683 => ?_)
  refine y_ic (c := 1) (len := 1) (r := (0, 0, 0, 0)) (by decide +kernel) (by decide) (fun y3684 hy3684 => ?_)
  refine y_add (len := 1) (r := (0, 0, 0, 0)) (by decide +kernel) (by omega) (by omega) (fun y3685 hy3685 => ?_)
  refine y_same (i := .dup2) (len := 1) (r := (0, 0, 0, 0)) (pc' := 90) (ls' := [some (.inl (some 52)), some (zi x), some (zi xk)]) (st' := [zi y3685, .inl (some 55), zi y3685, .inl (some 55)]) (by decide +kernel) (fun k q => by cases q) rfl ?_
  have hv3686 := (F3681 55 47 (by omega)).trans hc13677
  refine y_ial (i := 47) (len := 1) (r := (0, 0, 0, 0)) (by decide +kernel) hg3681 (tv55 hg3681) av55 (by omega) hv3686 ?_
  refine y_ic (c := 1) (len := 1) (r := (0, 0, 0, 0)) (by decide +kernel) (by decide) (fun y3687 hy3687 => ?_)
  refine y_sub (len := 1) (r := (0, 0, 0, 0)) (by decide +kernel) (by omega) (by omega) (fun y3688 hy3688 => ?_)
  refine y_ias (i := 47) (len := 1) (r := (0, 0, 0, 0)) (by decide +kernel) hg3681 (tv55 hg3681) av55 rfl (by omega) (by omega) (sr92 _ (by omega)) (by omega) (by omega) (fun h3689 hg3689 hl3689 hs3689 ho3689 => ?_)
  refine y_same (i := .aload_n 0) (len := 1) (r := (0, 0, 0, 0)) (pc' := 95) (ls' := [some (.inl (some 52)), some (zi x), some (zi xk)]) (st' := [.inl (some 52)]) (by decide +kernel) (fun k q => by cases q) rfl ?_
  refine y_get (j := 20) (len := 3) (r := (12, 9, 2, 1337)) (by decide +kernel) hg3689 (t52 hg3689) at52 rfl rfl (g_r52 (f := 9) (T2 := 55) hg3689 rfl (by decide)).1 ?_
  refine y_same (i := .iload_n 1) (len := 1) (r := (0, 0, 0, 0)) (pc' := 99) (ls' := [some (.inl (some 52)), some (zi x), some (zi xk)]) (st' := [zi x, .inl (some 55)]) (by decide +kernel) (fun k q => by cases q) rfl ?_
  refine y_cI (i := .invokestatic 155) (len := 3) (r := (1, 167, 12, 1560)) (nL := 2) (k := 1) (n := 2) (hs := []) (args := [.inl (some 55), zi x]) (rest := []) (l0 := [some (.inl (some 55)), some (zi x)]) (by decide +kernel) (Or.inl ⟨_, rfl⟩) rfl rfl rfl rfl (Nat.le_of_ble_eq_true rfl) rfl rfl (qI_le (by decide) (m_claims (d := 0) (s := 1) hg3689 (by omega) (by omega) hs3689)) (fun y3690 qy3690 hRy3690 => ?_)
  obtain ⟨rfl, rfl⟩ := hRy3690
  refine y_rI (len := 1) (r := (0, 0, 0, 0)) (nL := 3) (k := 1) (n9 := 3) (hs := []) (by decide +kernel) rfl rfl ?_
  have hv3691 := (F3681 52 47 (by omega)).trans jh3677
  have hv3692 := (ho3689 52 47 (Or.inl (by omega))).trans hv3691
  exact ⟨_, hv3692, by omega⟩
theorem j_forgetT0 {t : Nat} {τ : List Nat} {h : zh} {cur : bsT} {hs : List bsT} {x xk : Int32} (hg : hG τ h) (rm : RM h cur hs) (hx : x.toInt = 0) (hk : ¬ (0 ≤ xk.toInt ∧ xk.toInt < (cur.1.2.length : Int))) : qI 60 191 [some (.inl (some 52)), some (zi x), some (zi xk)] h t (fun y h1 => hsl h1 52 47 = hsl h 52 47) := by
  refine qI_le (d := 21) (by decide) (qI_of ?_)
  have lz := len55 hg rm.1
  obtain ⟨⟨xp0z, hp0z, ep0z⟩, ⟨xc0z, hc0z, ec0z⟩, ip0z, ic0z⟩ := rm.1.1
  obtain ⟨⟨xp1z, hp1z, ep1z⟩, ⟨xc1z, hc1z, ec1z⟩, ip1z, ic1z⟩ := rm.1.2
  refine y_same (i := .aload_n 0) (len := 1) (r := (0, 0, 0, 0)) (pc' := 1) (ls' := [some (.inl (some 52)), some (zi x), some (zi xk)]) (st' := [.inl (some 52)]) (by decide +kernel) (fun k q => by cases q) rfl ?_
  refine y_ic (c := 0) (len := 1) (r := (0, 0, 0, 0)) (by decide +kernel) (by decide) (fun y3693 hy3693 => ?_)
  refine y_put (j := 92) (lo := (-2147483648)) (hi := 2147483647) (len := 3) (r := (12, 0, 0, 1328)) (by decide +kernel) hg (t52 hg) at52 rfl rfl (by decide) rfl (qin_full _).1 (qin_full _).2 rfl (fun h3694 hg3694 hl3694 hs3694 ho3694 => ?_)
  have ho3694 : hO 52 0 h h3694 := ho3694
  have hs3694 : hsl h3694 52 0 = some (zi y3693) := hs3694
  refine y_same (i := .aload_n 0) (len := 1) (r := (0, 0, 0, 0)) (pc' := 6) (ls' := [some (.inl (some 52)), some (zi x), some (zi xk)]) (st' := [.inl (some 52)]) (by decide +kernel) (fun k q => by cases q) rfl ?_
  refine y_same (i := .iload_n 1) (len := 1) (r := (0, 0, 0, 0)) (pc' := 7) (ls' := [some (.inl (some 52)), some (zi x), some (zi xk)]) (st' := [zi x, .inl (some 52)]) (by decide +kernel) (fun k q => by cases q) rfl ?_
  refine y_ic (c := 0) (len := 1) (r := (0, 0, 0, 0)) (by decide +kernel) (by decide) (fun y3695 hy3695 => ?_)
  refine y_ic (c := 1) (len := 1) (r := (0, 0, 0, 0)) (by decide +kernel) (by decide) (fun y3696 hy3696 => ?_)
  refine y_cI (i := .invokestatic 200) (len := 3) (r := (1, 162, 12, 1486)) (nL := 3) (k := 2) (n := 3) (hs := []) (args := [zi x, zi y3695, zi y3696]) (rest := [.inl (some 52)]) (l0 := [some (zi x), some (zi y3695), some (zi y3696)]) (by decide +kernel) (Or.inl ⟨_, rfl⟩) rfl rfl rfl rfl (Nat.le_of_ble_eq_true rfl) rfl rfl (qI_le (by decide) (m_in (d := 0) (by omega) (by omega))) (fun y3697 qy3697 hRy3697 => ?_)
  obtain ⟨rfl, hy3697⟩ := hRy3697
  refine y_iF (c := .eq) (off := 29) (len := 3) (r := (0, 0, 0, 0)) (by decide +kernel) (acmpF (c := .eq) (by show ¬ (_ = _); omega)) ?_
  refine y_same (i := .iload_n 2) (len := 1) (r := (0, 0, 0, 0)) (pc' := 16) (ls' := [some (.inl (some 52)), some (zi x), some (zi xk)]) (st' := [zi xk, .inl (some 52)]) (by decide +kernel) (fun k q => by cases q) rfl ?_
  refine y_ic (c := 0) (len := 1) (r := (0, 0, 0, 0)) (by decide +kernel) (by decide) (fun y3698 hy3698 => ?_)
  refine y_same (i := .aload_n 0) (len := 1) (r := (0, 0, 0, 0)) (pc' := 18) (ls' := [some (.inl (some 52)), some (zi x), some (zi xk)]) (st' := [.inl (some 52), zi y3698, zi xk, .inl (some 52)]) (by decide +kernel) (fun k q => by cases q) rfl ?_
  refine y_get (j := 20) (len := 3) (r := (12, 9, 2, 1337)) (by decide +kernel) hg3694 (t52 hg3694) at52 rfl rfl (g_r52 (f := 9) (T2 := 55) hg3694 rfl (by decide)).1 ?_
  refine y_ic (c := 1) (len := 1) (r := (0, 0, 0, 0)) (by decide +kernel) (by decide) (fun y3699 hy3699 => ?_)
  refine y_ic (c := 0) (len := 1) (r := (0, 0, 0, 0)) (by decide +kernel) (by decide) (fun y3700 hy3700 => ?_)
  refine y_same (i := .iload_n 1) (len := 1) (r := (0, 0, 0, 0)) (pc' := 24) (ls' := [some (.inl (some 52)), some (zi x), some (zi xk)]) (st' := [zi x, zi y3700, zi y3699, .inl (some 55), zi y3698, zi xk, .inl (some 52)]) (by decide +kernel) (fun k q => by cases q) rfl ?_
  refine y_cI (i := .invokestatic 230) (len := 3) (r := (1, 164, 12, 1591)) (nL := 2) (k := 1) (n := 2) (hs := []) (args := [zi y3700, zi x]) (rest := [zi y3699, .inl (some 55), zi y3698, zi xk, .inl (some 52)]) (l0 := [some (zi y3700), some (zi x)]) (by decide +kernel) (Or.inl ⟨_, rfl⟩) rfl rfl rfl rfl (Nat.le_of_ble_eq_true rfl) rfl rfl (qI_le (by decide) (e_more (d := 0))) (fun y3701 qy3701 hRy3701 => ?_)
  obtain ⟨rfl, my3701, ny3701⟩ := hRy3701
  have ey3701 : y3701.toInt = 0 := by omega
  refine y_cI (i := .invokestatic 233) (len := 3) (r := (1, 163, 12, 1594)) (nL := 2) (k := 1) (n := 2) (hs := []) (args := [zi y3699, zi y3701]) (rest := [.inl (some 55), zi y3698, zi xk, .inl (some 52)]) (l0 := [some (zi y3699), some (zi y3701)]) (by decide +kernel) (Or.inl ⟨_, rfl⟩) rfl rfl rfl rfl (Nat.le_of_ble_eq_true rfl) rfl rfl (qI_le (by decide) (e_less (d := 0))) (fun y3702 qy3702 hRy3702 => ?_)
  obtain ⟨rfl, my3702, ny3702⟩ := hRy3702
  have ey3702 : y3702.toInt = 0 := by omega
  have hv3704 := (ho3694 55 1 (Or.inl (by omega))).trans hc0z
  refine y_cI (i := .invokestatic 155) (len := 3) (r := (1, 167, 12, 1560)) (nL := 2) (k := 1) (n := 2) (hs := []) (args := [.inl (some 55), zi y3702]) (rest := [zi y3698, zi xk, .inl (some 52)]) (l0 := [some (.inl (some 55)), some (zi y3702)]) (by decide +kernel) (Or.inl ⟨_, rfl⟩) rfl rfl rfl rfl (Nat.le_of_ble_eq_true rfl) rfl rfl (qI_le (by decide) (m_claims (d := 0) (s := 0) hg3694 (by omega) (by omega) hv3704)) (fun y3703 qy3703 hRy3703 => ?_)
  obtain ⟨rfl, rfl⟩ := hRy3703
  refine y_ic (c := 1) (len := 1) (r := (0, 0, 0, 0)) (by decide +kernel) (by decide) (fun y3705 hy3705 => ?_)
  refine y_sub (len := 1) (r := (0, 0, 0, 0)) (by decide +kernel) (by omega) (by omega) (fun y3706 hy3706 => ?_)
  refine y_cI (i := .invokestatic 200) (len := 3) (r := (1, 162, 12, 1486)) (nL := 3) (k := 2) (n := 3) (hs := []) (args := [zi xk, zi y3698, zi y3706]) (rest := [.inl (some 52)]) (l0 := [some (zi xk), some (zi y3698), some (zi y3706)]) (by decide +kernel) (Or.inl ⟨_, rfl⟩) rfl rfl rfl rfl (Nat.le_of_ble_eq_true rfl) rfl rfl (qI_le (by decide) (m_in0 (d := 0) (by omega))) (fun y3707 qy3707 hRy3707 => ?_)
  obtain ⟨rfl, hy3707⟩ := hRy3707
  refine y_iF (c := .ne) (off := 7) (len := 3) (r := (0, 0, 0, 0)) (by decide +kernel) (acmpF (c := .ne) (by show _ = _; omega)) ?_
  refine y_ic (c := 1) (len := 1) (r := (0, 0, 0, 0)) (by decide +kernel) (by decide) (fun y3708 hy3708 => ?_)
  refine y_goto (off := 4) (pc' := 46) (len := 3) (r := (0, 0, 0, 0)) (by decide +kernel) (by decide +kernel) ?_
  refine y_ic (c := 1) (len := 1) (r := (0, 0, 0, 0)) (by decide +kernel) (by decide) (fun y3709 hy3709 => ?_)
  refine y_ic (c := 0) (len := 1) (r := (0, 0, 0, 0)) (by decide +kernel) (by decide) (fun y3710 hy3710 => ?_)
  refine y_cI (i := .invokevirtual 204) (len := 3) (r := (0, 161, 12, 1489)) (nL := 4) (k := 2) (n := 4) (hs := []) (args := [.inl (some 52), zi y3708, zi y3709, zi y3710]) (rest := []) (l0 := [some (.inl (some 52)), some (zi y3708), some (zi y3709), some (zi y3710)]) (by decide +kernel) (Or.inr (Or.inl ⟨_, rfl⟩)) rfl rfl rfl rfl (Nat.le_of_ble_eq_true rfl) (z52 hg3694) rfl (qI_le (by decide) (m_bad1 (d := 0) (e := 0) hg3694 (by omega) (by omega) (by omega) (by omega) hs3694 (by omega))) (fun y3711 h3711 hRy3711 => ?_)
  obtain ⟨hg3711, hy3711, ⟨z3711, hz3711, ez3711⟩, F3711⟩ := hRy3711
  refine y_iF (c := .eq) (off := 5) (len := 3) (r := (0, 0, 0, 0)) (by decide +kernel) (acmpF (c := .eq) (by show ¬ (_ = _); omega)) ?_
  refine y_ic (c := 0) (len := 1) (r := (0, 0, 0, 0)) (by decide +kernel) (by decide) (fun y3712 hy3712 => ?_)
  refine y_rI (len := 1) (r := (0, 0, 0, 0)) (nL := 3) (k := 1) (n9 := 3) (hs := []) (by decide +kernel) rfl rfl ?_
  exact ((F3711 52 47 (by omega)).trans (ho3694 52 47 (by omega)))
theorem j_forgetT1 {t : Nat} {τ : List Nat} {h : zh} {cur : bsT} {hs : List bsT} {x xk : Int32} (hg : hG τ h) (rm : RM h cur hs) (hx : x.toInt = 1) (hk : ¬ (0 ≤ xk.toInt ∧ xk.toInt < (cur.2.2.length : Int))) : qI 60 191 [some (.inl (some 52)), some (zi x), some (zi xk)] h t (fun y h1 => hsl h1 52 47 = hsl h 52 47) := by
  refine qI_le (d := 21) (by decide) (qI_of ?_)
  have lz := len55 hg rm.1
  obtain ⟨⟨xp0z, hp0z, ep0z⟩, ⟨xc0z, hc0z, ec0z⟩, ip0z, ic0z⟩ := rm.1.1
  obtain ⟨⟨xp1z, hp1z, ep1z⟩, ⟨xc1z, hc1z, ec1z⟩, ip1z, ic1z⟩ := rm.1.2
  refine y_same (i := .aload_n 0) (len := 1) (r := (0, 0, 0, 0)) (pc' := 1) (ls' := [some (.inl (some 52)), some (zi x), some (zi xk)]) (st' := [.inl (some 52)]) (by decide +kernel) (fun k q => by cases q) rfl ?_
  refine y_ic (c := 0) (len := 1) (r := (0, 0, 0, 0)) (by decide +kernel) (by decide) (fun y3713 hy3713 => ?_)
  refine y_put (j := 92) (lo := (-2147483648)) (hi := 2147483647) (len := 3) (r := (12, 0, 0, 1328)) (by decide +kernel) hg (t52 hg) at52 rfl rfl (by decide) rfl (qin_full _).1 (qin_full _).2 rfl (fun h3714 hg3714 hl3714 hs3714 ho3714 => ?_)
  have ho3714 : hO 52 0 h h3714 := ho3714
  have hs3714 : hsl h3714 52 0 = some (zi y3713) := hs3714
  refine y_same (i := .aload_n 0) (len := 1) (r := (0, 0, 0, 0)) (pc' := 6) (ls' := [some (.inl (some 52)), some (zi x), some (zi xk)]) (st' := [.inl (some 52)]) (by decide +kernel) (fun k q => by cases q) rfl ?_
  refine y_same (i := .iload_n 1) (len := 1) (r := (0, 0, 0, 0)) (pc' := 7) (ls' := [some (.inl (some 52)), some (zi x), some (zi xk)]) (st' := [zi x, .inl (some 52)]) (by decide +kernel) (fun k q => by cases q) rfl ?_
  refine y_ic (c := 0) (len := 1) (r := (0, 0, 0, 0)) (by decide +kernel) (by decide) (fun y3715 hy3715 => ?_)
  refine y_ic (c := 1) (len := 1) (r := (0, 0, 0, 0)) (by decide +kernel) (by decide) (fun y3716 hy3716 => ?_)
  refine y_cI (i := .invokestatic 200) (len := 3) (r := (1, 162, 12, 1486)) (nL := 3) (k := 2) (n := 3) (hs := []) (args := [zi x, zi y3715, zi y3716]) (rest := [.inl (some 52)]) (l0 := [some (zi x), some (zi y3715), some (zi y3716)]) (by decide +kernel) (Or.inl ⟨_, rfl⟩) rfl rfl rfl rfl (Nat.le_of_ble_eq_true rfl) rfl rfl (qI_le (by decide) (m_in (d := 0) (by omega) (by omega))) (fun y3717 qy3717 hRy3717 => ?_)
  obtain ⟨rfl, hy3717⟩ := hRy3717
  refine y_iF (c := .eq) (off := 29) (len := 3) (r := (0, 0, 0, 0)) (by decide +kernel) (acmpF (c := .eq) (by show ¬ (_ = _); omega)) ?_
  refine y_same (i := .iload_n 2) (len := 1) (r := (0, 0, 0, 0)) (pc' := 16) (ls' := [some (.inl (some 52)), some (zi x), some (zi xk)]) (st' := [zi xk, .inl (some 52)]) (by decide +kernel) (fun k q => by cases q) rfl ?_
  refine y_ic (c := 0) (len := 1) (r := (0, 0, 0, 0)) (by decide +kernel) (by decide) (fun y3718 hy3718 => ?_)
  refine y_same (i := .aload_n 0) (len := 1) (r := (0, 0, 0, 0)) (pc' := 18) (ls' := [some (.inl (some 52)), some (zi x), some (zi xk)]) (st' := [.inl (some 52), zi y3718, zi xk, .inl (some 52)]) (by decide +kernel) (fun k q => by cases q) rfl ?_
  refine y_get (j := 20) (len := 3) (r := (12, 9, 2, 1337)) (by decide +kernel) hg3714 (t52 hg3714) at52 rfl rfl (g_r52 (f := 9) (T2 := 55) hg3714 rfl (by decide)).1 ?_
  refine y_ic (c := 1) (len := 1) (r := (0, 0, 0, 0)) (by decide +kernel) (by decide) (fun y3719 hy3719 => ?_)
  refine y_ic (c := 0) (len := 1) (r := (0, 0, 0, 0)) (by decide +kernel) (by decide) (fun y3720 hy3720 => ?_)
  refine y_same (i := .iload_n 1) (len := 1) (r := (0, 0, 0, 0)) (pc' := 24) (ls' := [some (.inl (some 52)), some (zi x), some (zi xk)]) (st' := [zi x, zi y3720, zi y3719, .inl (some 55), zi y3718, zi xk, .inl (some 52)]) (by decide +kernel) (fun k q => by cases q) rfl ?_
  refine y_cI (i := .invokestatic 230) (len := 3) (r := (1, 164, 12, 1591)) (nL := 2) (k := 1) (n := 2) (hs := []) (args := [zi y3720, zi x]) (rest := [zi y3719, .inl (some 55), zi y3718, zi xk, .inl (some 52)]) (l0 := [some (zi y3720), some (zi x)]) (by decide +kernel) (Or.inl ⟨_, rfl⟩) rfl rfl rfl rfl (Nat.le_of_ble_eq_true rfl) rfl rfl (qI_le (by decide) (e_more (d := 0))) (fun y3721 qy3721 hRy3721 => ?_)
  obtain ⟨rfl, my3721, ny3721⟩ := hRy3721
  have ey3721 : y3721.toInt = 1 := by omega
  refine y_cI (i := .invokestatic 233) (len := 3) (r := (1, 163, 12, 1594)) (nL := 2) (k := 1) (n := 2) (hs := []) (args := [zi y3719, zi y3721]) (rest := [.inl (some 55), zi y3718, zi xk, .inl (some 52)]) (l0 := [some (zi y3719), some (zi y3721)]) (by decide +kernel) (Or.inl ⟨_, rfl⟩) rfl rfl rfl rfl (Nat.le_of_ble_eq_true rfl) rfl rfl (qI_le (by decide) (e_less (d := 0))) (fun y3722 qy3722 hRy3722 => ?_)
  obtain ⟨rfl, my3722, ny3722⟩ := hRy3722
  have ey3722 : y3722.toInt = 1 := by omega
  have hv3724 := (ho3714 55 47 (Or.inl (by omega))).trans hc1z
  refine y_cI (i := .invokestatic 155) (len := 3) (r := (1, 167, 12, 1560)) (nL := 2) (k := 1) (n := 2) (hs := []) (args := [.inl (some 55), zi y3722]) (rest := [zi y3718, zi xk, .inl (some 52)]) (l0 := [some (.inl (some 55)), some (zi y3722)]) (by decide +kernel) (Or.inl ⟨_, rfl⟩) rfl rfl rfl rfl (Nat.le_of_ble_eq_true rfl) rfl rfl (qI_le (by decide) (m_claims (d := 0) (s := 1) hg3714 (by omega) (by omega) hv3724)) (fun y3723 qy3723 hRy3723 => ?_)
  obtain ⟨rfl, rfl⟩ := hRy3723
  refine y_ic (c := 1) (len := 1) (r := (0, 0, 0, 0)) (by decide +kernel) (by decide) (fun y3725 hy3725 => ?_)
  refine y_sub (len := 1) (r := (0, 0, 0, 0)) (by decide +kernel) (by omega) (by omega) (fun y3726 hy3726 => ?_)
  refine y_cI (i := .invokestatic 200) (len := 3) (r := (1, 162, 12, 1486)) (nL := 3) (k := 2) (n := 3) (hs := []) (args := [zi xk, zi y3718, zi y3726]) (rest := [.inl (some 52)]) (l0 := [some (zi xk), some (zi y3718), some (zi y3726)]) (by decide +kernel) (Or.inl ⟨_, rfl⟩) rfl rfl rfl rfl (Nat.le_of_ble_eq_true rfl) rfl rfl (qI_le (by decide) (m_in0 (d := 0) (by omega))) (fun y3727 qy3727 hRy3727 => ?_)
  obtain ⟨rfl, hy3727⟩ := hRy3727
  refine y_iF (c := .ne) (off := 7) (len := 3) (r := (0, 0, 0, 0)) (by decide +kernel) (acmpF (c := .ne) (by show _ = _; omega)) ?_
  refine y_ic (c := 1) (len := 1) (r := (0, 0, 0, 0)) (by decide +kernel) (by decide) (fun y3728 hy3728 => ?_)
  refine y_goto (off := 4) (pc' := 46) (len := 3) (r := (0, 0, 0, 0)) (by decide +kernel) (by decide +kernel) ?_
  refine y_ic (c := 1) (len := 1) (r := (0, 0, 0, 0)) (by decide +kernel) (by decide) (fun y3729 hy3729 => ?_)
  refine y_ic (c := 0) (len := 1) (r := (0, 0, 0, 0)) (by decide +kernel) (by decide) (fun y3730 hy3730 => ?_)
  refine y_cI (i := .invokevirtual 204) (len := 3) (r := (0, 161, 12, 1489)) (nL := 4) (k := 2) (n := 4) (hs := []) (args := [.inl (some 52), zi y3728, zi y3729, zi y3730]) (rest := []) (l0 := [some (.inl (some 52)), some (zi y3728), some (zi y3729), some (zi y3730)]) (by decide +kernel) (Or.inr (Or.inl ⟨_, rfl⟩)) rfl rfl rfl rfl (Nat.le_of_ble_eq_true rfl) (z52 hg3714) rfl (qI_le (by decide) (m_bad1 (d := 0) (e := 0) hg3714 (by omega) (by omega) (by omega) (by omega) hs3714 (by omega))) (fun y3731 h3731 hRy3731 => ?_)
  obtain ⟨hg3731, hy3731, ⟨z3731, hz3731, ez3731⟩, F3731⟩ := hRy3731
  refine y_iF (c := .eq) (off := 5) (len := 3) (r := (0, 0, 0, 0)) (by decide +kernel) (acmpF (c := .eq) (by show ¬ (_ = _); omega)) ?_
  refine y_ic (c := 0) (len := 1) (r := (0, 0, 0, 0)) (by decide +kernel) (by decide) (fun y3732 hy3732 => ?_)
  refine y_rI (len := 1) (r := (0, 0, 0, 0)) (nL := 3) (k := 1) (n9 := 3) (hs := []) (by decide +kernel) rfl rfl ?_
  exact ((F3731 52 47 (by omega)).trans (ho3714 52 47 (by omega)))
theorem j_forgetT {t : Nat} {τ : List Nat} {h : zh} {cur : bsT} {hs : List bsT} {x xk : Int32} (hg : hG τ h) (rm : RM h cur hs) (hx : ¬ (x.toInt = 0 ∨ x.toInt = 1)) : qI 60 191 [some (.inl (some 52)), some (zi x), some (zi xk)] h t (fun y h1 => hsl h1 52 47 = hsl h 52 47) := by
  refine qI_le (d := 21) (by decide) (qI_of ?_)
  have lz := len55 hg rm.1
  obtain ⟨⟨xp0z, hp0z, ep0z⟩, ⟨xc0z, hc0z, ec0z⟩, ip0z, ic0z⟩ := rm.1.1
  obtain ⟨⟨xp1z, hp1z, ep1z⟩, ⟨xc1z, hc1z, ec1z⟩, ip1z, ic1z⟩ := rm.1.2
  refine y_same (i := .aload_n 0) (len := 1) (r := (0, 0, 0, 0)) (pc' := 1) (ls' := [some (.inl (some 52)), some (zi x), some (zi xk)]) (st' := [.inl (some 52)]) (by decide +kernel) (fun k q => by cases q) rfl ?_
  refine y_ic (c := 0) (len := 1) (r := (0, 0, 0, 0)) (by decide +kernel) (by decide) (fun y3733 hy3733 => ?_)
  refine y_put (j := 92) (lo := (-2147483648)) (hi := 2147483647) (len := 3) (r := (12, 0, 0, 1328)) (by decide +kernel) hg (t52 hg) at52 rfl rfl (by decide) rfl (qin_full _).1 (qin_full _).2 rfl (fun h3734 hg3734 hl3734 hs3734 ho3734 => ?_)
  have ho3734 : hO 52 0 h h3734 := ho3734
  have hs3734 : hsl h3734 52 0 = some (zi y3733) := hs3734
  refine y_same (i := .aload_n 0) (len := 1) (r := (0, 0, 0, 0)) (pc' := 6) (ls' := [some (.inl (some 52)), some (zi x), some (zi xk)]) (st' := [.inl (some 52)]) (by decide +kernel) (fun k q => by cases q) rfl ?_
  refine y_same (i := .iload_n 1) (len := 1) (r := (0, 0, 0, 0)) (pc' := 7) (ls' := [some (.inl (some 52)), some (zi x), some (zi xk)]) (st' := [zi x, .inl (some 52)]) (by decide +kernel) (fun k q => by cases q) rfl ?_
  refine y_ic (c := 0) (len := 1) (r := (0, 0, 0, 0)) (by decide +kernel) (by decide) (fun y3735 hy3735 => ?_)
  refine y_ic (c := 1) (len := 1) (r := (0, 0, 0, 0)) (by decide +kernel) (by decide) (fun y3736 hy3736 => ?_)
  refine y_cI (i := .invokestatic 200) (len := 3) (r := (1, 162, 12, 1486)) (nL := 3) (k := 2) (n := 3) (hs := []) (args := [zi x, zi y3735, zi y3736]) (rest := [.inl (some 52)]) (l0 := [some (zi x), some (zi y3735), some (zi y3736)]) (by decide +kernel) (Or.inl ⟨_, rfl⟩) rfl rfl rfl rfl (Nat.le_of_ble_eq_true rfl) rfl rfl (qI_le (by decide) (m_in0 (d := 0) (by omega))) (fun y3737 qy3737 hRy3737 => ?_)
  obtain ⟨rfl, hy3737⟩ := hRy3737
  refine y_iT (c := .eq) (off := 29) (pc' := 41) (len := 3) (r := (0, 0, 0, 0)) (by decide +kernel) (acmpT (c := .eq) (by show _ = _; omega)) (by decide +kernel) ?_
  refine y_ic (c := 1) (len := 1) (r := (0, 0, 0, 0)) (by decide +kernel) (by decide) (fun y3738 hy3738 => ?_)
  refine y_goto (off := 4) (pc' := 46) (len := 3) (r := (0, 0, 0, 0)) (by decide +kernel) (by decide +kernel) ?_
  refine y_ic (c := 1) (len := 1) (r := (0, 0, 0, 0)) (by decide +kernel) (by decide) (fun y3739 hy3739 => ?_)
  refine y_ic (c := 0) (len := 1) (r := (0, 0, 0, 0)) (by decide +kernel) (by decide) (fun y3740 hy3740 => ?_)
  refine y_cI (i := .invokevirtual 204) (len := 3) (r := (0, 161, 12, 1489)) (nL := 4) (k := 2) (n := 4) (hs := []) (args := [.inl (some 52), zi y3738, zi y3739, zi y3740]) (rest := []) (l0 := [some (.inl (some 52)), some (zi y3738), some (zi y3739), some (zi y3740)]) (by decide +kernel) (Or.inr (Or.inl ⟨_, rfl⟩)) rfl rfl rfl rfl (Nat.le_of_ble_eq_true rfl) (z52 hg3734) rfl (qI_le (by decide) (m_bad1 (d := 0) (e := 0) hg3734 (by omega) (by omega) (by omega) (by omega) hs3734 (by omega))) (fun y3741 h3741 hRy3741 => ?_)
  obtain ⟨hg3741, hy3741, ⟨z3741, hz3741, ez3741⟩, F3741⟩ := hRy3741
  refine y_iF (c := .eq) (off := 5) (len := 3) (r := (0, 0, 0, 0)) (by decide +kernel) (acmpF (c := .eq) (by show ¬ (_ = _); omega)) ?_
  refine y_ic (c := 0) (len := 1) (r := (0, 0, 0, 0)) (by decide +kernel) (by decide) (fun y3742 hy3742 => ?_)
  refine y_rI (len := 1) (r := (0, 0, 0, 0)) (nL := 3) (k := 1) (n9 := 3) (hs := []) (by decide +kernel) rfl rfl ?_
  exact ((F3741 52 47 (by omega)).trans (ho3734 52 47 (by omega)))
theorem j_forgetX {t : Nat} {τ : List Nat} {h : zh} {cur : bsT} {hs : List bsT} {x xk : Int32} (hg : hG τ h) (rm : RM h cur hs) (hb : ¬ ((x.toInt = 0 ∧ 0 ≤ xk.toInt ∧ xk.toInt < (cur.1.2.length : Int)) ∨ (x.toInt = 1 ∧ 0 ≤ xk.toInt ∧ xk.toInt < (cur.2.2.length : Int)))) : qI 60 191 [some (.inl (some 52)), some (zi x), some (zi xk)] h t (fun y h1 => hsl h1 52 47 = hsl h 52 47) := by
  rcases Decidable.em (x.toInt = 0) with q | q
  · exact j_forgetT0 hg rm q (by omega)
  · rcases Decidable.em (x.toInt = 1) with q1 | q1
    · exact j_forgetT1 hg rm q1 (by omega)
    · exact j_forgetT hg rm (by omega)
theorem j_textM {t n T : Nat} {b : Nat → Int} {τ : List Nat} {h : zh} {xn xT : Int32} {cur : bsT} {hs : List bsT} (hg : hG τ h) (rm : RM h cur hs) (hT : hsl h 52 2 = some (zi xT)) (eT : xT.toInt = (T : Int)) (hT2 : T ≤ 200) (en : xn.toInt = (n : Int)) (hn : n ≤ T) (hb : ∀ j, j < n → ∃ x : Int32, hsl h 54 j = some (zi x) ∧ x.toInt = b j) (hb0 : ∀ j, j < n → 0 ≤ b j) : qI 60 183 [some (.inl (some 52)), some (zi xn), none] h t (fun y h1 => kpJC h h1 ∧ hsl h1 42 5 = hsl h 42 5 ∧ kpJM h h1 ∧ ((∃ r, wAll b n = .inl r) ∧ hsl h1 52 47 = hsl h 52 47 ∨ ci_ h1 52 47 0)) := by
  refine qI_of ?_
  refine y_same (i := .aload_n 0) (len := 1) (r := (0, 0, 0, 0)) (pc' := 1) (ls' := [some (.inl (some 52)), some (zi xn), none]) (st' := [.inl (some 52)]) (by decide +kernel) (fun k q => by cases q) rfl ?_
  refine y_ic (c := 0) (len := 1) (r := (0, 0, 0, 0)) (by decide +kernel) (by decide) (fun y3743 hy3743 => ?_)
  refine y_put (j := 92) (lo := (-2147483648)) (hi := 2147483647) (len := 3) (r := (12, 0, 0, 1328)) (by decide +kernel) hg (t52 hg) at52 rfl rfl (by decide) rfl (qin_full _).1 (qin_full _).2 rfl (fun h3744 hg3744 hl3744 hs3744 ho3744 => ?_)
  have ho3744 : hO 52 0 h h3744 := ho3744
  have hs3744 : hsl h3744 52 0 = some (zi y3743) := hs3744
  refine y_same (i := .aload_n 0) (len := 1) (r := (0, 0, 0, 0)) (pc' := 6) (ls' := [some (.inl (some 52)), some (zi xn), none]) (st' := [.inl (some 52)]) (by decide +kernel) (fun k q => by cases q) rfl ?_
  refine y_same (i := .iload_n 1) (len := 1) (r := (0, 0, 0, 0)) (pc' := 7) (ls' := [some (.inl (some 52)), some (zi xn), none]) (st' := [zi xn, .inl (some 52)]) (by decide +kernel) (fun k q => by cases q) rfl ?_
  refine y_ic (c := 0) (len := 1) (r := (0, 0, 0, 0)) (by decide +kernel) (by decide) (fun y3745 hy3745 => ?_)
  refine y_same (i := .aload_n 0) (len := 1) (r := (0, 0, 0, 0)) (pc' := 9) (ls' := [some (.inl (some 52)), some (zi xn), none]) (st' := [.inl (some 52), zi y3745, zi xn, .inl (some 52)]) (by decide +kernel) (fun k q => by cases q) rfl ?_
  have hv3746 := (ho3744 52 2 (Or.inr (by omega))).trans hT
  refine y_get (j := 95) (len := 3) (r := (12, 2, 0, 1330)) (by decide +kernel) hg3744 (t52 hg3744) at52 rfl rfl hv3746 ?_
  refine y_cI (i := .invokestatic 200) (len := 3) (r := (1, 162, 12, 1486)) (nL := 3) (k := 2) (n := 3) (hs := []) (args := [zi xn, zi y3745, zi xT]) (rest := [.inl (some 52)]) (l0 := [some (zi xn), some (zi y3745), some (zi xT)]) (by decide +kernel) (Or.inl ⟨_, rfl⟩) rfl rfl rfl rfl (Nat.le_of_ble_eq_true rfl) rfl rfl (qI_le (by decide) (m_in (d := 0) (by omega) (by omega))) (fun y3747 qy3747 hRy3747 => ?_)
  obtain ⟨rfl, hy3747⟩ := hRy3747
  refine y_iT (c := .ne) (off := 7) (pc' := 22) (len := 3) (r := (0, 0, 0, 0)) (by decide +kernel) (acmpT (c := .ne) (by show ¬ (_ = _); omega)) (by decide +kernel) ?_
  refine y_ic (c := 0) (len := 1) (r := (0, 0, 0, 0)) (by decide +kernel) (by decide) (fun y3748 hy3748 => ?_)
  refine y_ic (c := 1) (len := 1) (r := (0, 0, 0, 0)) (by decide +kernel) (by decide) (fun y3749 hy3749 => ?_)
  refine y_ic (c := 1) (len := 1) (r := (0, 0, 0, 0)) (by decide +kernel) (by decide) (fun y3750 hy3750 => ?_)
  refine y_cI (i := .invokevirtual 204) (len := 3) (r := (0, 161, 12, 1489)) (nL := 4) (k := 2) (n := 4) (hs := []) (args := [.inl (some 52), zi y3748, zi y3749, zi y3750]) (rest := []) (l0 := [some (.inl (some 52)), some (zi y3748), some (zi y3749), some (zi y3750)]) (by decide +kernel) (Or.inr (Or.inl ⟨_, rfl⟩)) rfl rfl rfl rfl (Nat.le_of_ble_eq_true rfl) (z52 hg3744) rfl (qI_le (by decide) (m_bad (d := 0) hg3744 (by omega) hs3744 (by omega))) (fun y3751 qy3751 hRy3751 => ?_)
  obtain ⟨rfl, hy3751⟩ := hRy3751
  refine y_iT (c := .eq) (off := 5) (pc' := 33) (len := 3) (r := (0, 0, 0, 0)) (by decide +kernel) (acmpT (c := .eq) (by show _ = _; omega)) (by decide +kernel) ?_
  refine y_same (i := .aload_n 0) (len := 1) (r := (0, 0, 0, 0)) (pc' := 34) (ls' := [some (.inl (some 52)), some (zi xn), none]) (st' := [.inl (some 52)]) (by decide +kernel) (fun k q => by cases q) rfl ?_
  refine y_ic (c := 0) (len := 1) (r := (0, 0, 0, 0)) (by decide +kernel) (by decide) (fun y3752 hy3752 => ?_)
  refine y_put (j := 95) (lo := 0) (hi := 200) (len := 3) (r := (12, 2, 0, 1330)) (by decide +kernel) hg3744 (t52 hg3744) at52 rfl rfl (by decide) rfl (by omega) (by omega) rfl (fun h3753 hg3753 hl3753 hs3753 ho3753 => ?_)
  have ho3753 : hO 52 2 h3744 h3753 := ho3753
  have hs3753 : hsl h3753 52 2 = some (zi y3752) := hs3753
  refine y_same (i := .aload_n 0) (len := 1) (r := (0, 0, 0, 0)) (pc' := 39) (ls' := [some (.inl (some 52)), some (zi xn), none]) (st' := [.inl (some 52)]) (by decide +kernel) (fun k q => by cases q) rfl ?_
  refine y_same (i := .iload_n 1) (len := 1) (r := (0, 0, 0, 0)) (pc' := 40) (ls' := [some (.inl (some 52)), some (zi xn), none]) (st' := [zi xn, .inl (some 52)]) (by decide +kernel) (fun k q => by cases q) rfl ?_
  refine y_put (j := 98) (lo := 0) (hi := 200) (len := 3) (r := (12, 3, 0, 1331)) (by decide +kernel) hg3753 (t52 hg3753) at52 rfl rfl (by decide) rfl (by omega) (by omega) rfl (fun h3754 hg3754 hl3754 hs3754 ho3754 => ?_)
  have ho3754 : hO 52 3 h3753 h3754 := ho3754
  have hs3754 : hsl h3754 52 3 = some (zi xn) := hs3754
  refine y_same (i := .aload_n 0) (len := 1) (r := (0, 0, 0, 0)) (pc' := 44) (ls' := [some (.inl (some 52)), some (zi xn), none]) (st' := [.inl (some 52)]) (by decide +kernel) (fun k q => by cases q) rfl ?_
  refine y_ic (c := 0) (len := 1) (r := (0, 0, 0, 0)) (by decide +kernel) (by decide) (fun y3755 hy3755 => ?_)
  refine y_put (j := 101) (lo := 0) (hi := 200) (len := 3) (r := (12, 4, 0, 1332)) (by decide +kernel) hg3754 (t52 hg3754) at52 rfl rfl (by decide) rfl (by omega) (by omega) rfl (fun h3756 hg3756 hl3756 hs3756 ho3756 => ?_)
  have ho3756 : hO 52 4 h3754 h3756 := ho3756
  have hs3756 : hsl h3756 52 4 = some (zi y3755) := hs3756
  refine y_same (i := .aload_n 0) (len := 1) (r := (0, 0, 0, 0)) (pc' := 49) (ls' := [some (.inl (some 52)), some (zi xn), none]) (st' := [.inl (some 52)]) (by decide +kernel) (fun k q => by cases q) rfl ?_
  refine y_ic (c := 0) (len := 1) (r := (0, 0, 0, 0)) (by decide +kernel) (by decide) (fun y3757 hy3757 => ?_)
  refine y_put (j := 108) (lo := 0) (hi := 2) (len := 3) (r := (12, 6, 0, 1334)) (by decide +kernel) hg3756 (t52 hg3756) at52 rfl rfl (by decide) rfl (by omega) (by omega) rfl (fun h3758 hg3758 hl3758 hs3758 ho3758 => ?_)
  have ho3758 : hO 52 6 h3756 h3758 := ho3758
  have hs3758 : hsl h3758 52 6 = some (zi y3757) := hs3758
  refine y_same (i := .aload_n 0) (len := 1) (r := (0, 0, 0, 0)) (pc' := 54) (ls' := [some (.inl (some 52)), some (zi xn), none]) (st' := [.inl (some 52)]) (by decide +kernel) (fun k q => by cases q) rfl ?_
  refine y_ic (c := (-1)) (len := 1) (r := (0, 0, 0, 0)) (by decide +kernel) (by decide) (fun y3759 hy3759 => ?_)
  refine y_put (j := 111) (lo := (-2147483648)) (hi := 2147483647) (len := 3) (r := (12, 7, 0, 1335)) (by decide +kernel) hg3758 (t52 hg3758) at52 rfl rfl (by decide) rfl (qin_full _).1 (qin_full _).2 rfl (fun h3760 hg3760 hl3760 hs3760 ho3760 => ?_)
  have ho3760 : hO 52 7 h3758 h3760 := ho3760
  have hs3760 : hsl h3760 52 7 = some (zi y3759) := hs3760
  refine y_ic (c := 0) (len := 1) (r := (0, 0, 0, 0)) (by decide +kernel) (by decide) (fun y3761 hy3761 => ?_)
  refine y_same (i := .istore_n 2) (len := 1) (r := (0, 0, 0, 0)) (pc' := 60) (ls' := [some (.inl (some 52)), some (zi xn), some (zi y3761)]) (st' := []) (by decide +kernel) (fun k q => by cases q) rfl ?_
  refine mc_l 92 τ h3760 hg3760 0 y3761 (by omega) (fun j hj => absurd hj (Nat.not_lt_zero j)) rfl (fun hz1 xz Oz hz => ?_)
  have hv3762 := (ho3756 52 3 (Or.inr (by omega))).trans hs3754
  have hv3763 := (ho3758 52 3 (Or.inr (by omega))).trans hv3762
  have hv3764 := (ho3760 52 3 (Or.inr (by omega))).trans hv3763
  have hv3765 := (Oz.2.2 52 52 3 (t52 hg3760) (show 52 ≠ 56 by omega)).trans hv3764
  have hv3766 := (ho3758 52 4 (Or.inr (by omega))).trans hs3756
  have hv3767 := (ho3760 52 4 (Or.inr (by omega))).trans hv3766
  have hv3768 := (Oz.2.2 52 52 4 (t52 hg3760) (show 52 ≠ 56 by omega)).trans hv3767
  have hv3769 := (ho3760 52 6 (Or.inr (by omega))).trans hs3758
  have hv3770 := (Oz.2.2 52 52 6 (t52 hg3760) (show 52 ≠ 56 by omega)).trans hv3769
  have hv3771 := (Oz.2.2 52 52 7 (t52 hg3760) (show 52 ≠ 56 by omega)).trans hs3760
  have rd0 : rdM hz1 n 0 b := by
    refine ⟨⟨_, hv3765, by omega⟩, ⟨_, hv3768, by omega⟩, fun j hj => ?_, by omega⟩
    obtain ⟨x, e1, e2⟩ := hb j hj
    exact ⟨x, ((Oz.2.2 54 54 j (tu54 hg3760) (show 54 ≠ 56 by omega)).trans ((ho3760 54 j (Or.inl (by omega))).trans ((ho3758 54 j (Or.inl (by omega))).trans ((ho3756 54 j (Or.inl (by omega))).trans ((ho3754 54 j (Or.inl (by omega))).trans ((ho3753 54 j (Or.inl (by omega))).trans (ho3744 54 j (Or.inl (by omega))))))))).trans e1, e2⟩
  have ft0 : ftM hz1 0 (-1) := ⟨⟨_, hv3770, by omega⟩, ⟨_, hv3771, by omega⟩⟩
  obtain ⟨⟨xnz, hnz, enz⟩, ⟨xaz, haz, eaz⟩, hbz, -⟩ := id rd0
  obtain ⟨⟨xfz, hfz, efz⟩, xwz, hwz, ewz⟩ := id ft0
  refine y_same (i := .aload_n 0) (len := 1) (r := (0, 0, 0, 0)) (pc' := 80) (ls' := [some (.inl (some 52)), some (zi xn), some (zi xz)]) (st' := [.inl (some 52)]) (by decide +kernel) (fun k q => by cases q) rfl ?_
  refine y_ic (c := 0) (len := 1) (r := (0, 0, 0, 0)) (by decide +kernel) (by decide) (fun y3772 hy3772 => ?_)
  refine y_cV (i := .invokevirtual 208) (len := 3) (r := (0, 182, 12, 1493)) (nL := 2) (k := 0) (n := 2) (hs := []) (args := [.inl (some 52), zi y3772]) (rest := []) (l0 := [some (.inl (some 52)), some (zi y3772)]) (by decide +kernel) (Or.inr (Or.inl ⟨_, rfl⟩)) rfl rfl rfl rfl (Nat.le_of_ble_eq_true rfl) (z52 Oz.2.1) rfl (qV_le (by decide) (m_side0 Oz.2.1 rd0 (by omega) ft0 (rwM_0 (by decide) (by decide) hz) (by omega))) (fun h3773 hR3773 => ?_)
  obtain ⟨τ3773, O3773, hD3773⟩ := hR3773
  rcases hD3773 with ⟨a3773, ps3773, cs3773, e3773, le3773, rd3773, ft3773, w3773⟩ | ⟨r3773, q3773, a3773, e3773, lr3773, le3773, rd3773, ft3773⟩
  ·
    obtain ⟨⟨xn3773y, hn3773y, en3773y⟩, ⟨xa3773y, ha3773y, ea3773y⟩, hb3773y, -⟩ := id rd3773
    obtain ⟨⟨xf3773y, hf3773y, ef3773y⟩, xw3773y, hw3773y, ew3773y⟩ := id ft3773
    refine y_same (i := .aload_n 0) (len := 1) (r := (0, 0, 0, 0)) (pc' := 85) (ls' := [some (.inl (some 52)), some (zi xn), some (zi xz)]) (st' := [.inl (some 52)]) (by decide +kernel) (fun k q => by cases q) rfl ?_
    refine y_same (i := .ldc 211) (len := 2) (r := (1, 21, 1567, 0)) (pc' := 87) (ls' := [some (.inl (some 52)), some (zi xn), some (zi xz)]) (st' := [.inl (some 2000021), .inl (some 52)]) (by decide +kernel) (fun k q => by cases q) rfl ?_
    refine y_cV (i := .invokevirtual 165) (len := 3) (r := (0, 176, 12, 1525)) (nL := 2) (k := 0) (n := 2) (hs := []) (args := [.inl (some 52), .inl (some 2000021)]) (rest := []) (l0 := [some (.inl (some 52)), some (.inl (some 2000021))]) (by decide +kernel) (Or.inr (Or.inl ⟨_, rfl⟩)) rfl rfl rfl rfl (Nat.le_of_ble_eq_true rfl) (z52 O3773.2.1) rfl (qV_le (by decide) (m_must21 O3773.2.1 rd3773 (by omega) ft3773)) (fun h3774 hR3774 => ?_)
    obtain ⟨τ3774, O3774, hD3774⟩ := hR3774
    rcases hD3774 with ⟨a3774, e3774, le3774, r3774, f3774⟩ | ⟨e3774, r3774, f3774⟩
    ·
      obtain ⟨⟨xn3774y, hn3774y, en3774y⟩, ⟨xa3774y, ha3774y, ea3774y⟩, hb3774y, -⟩ := id r3774
      obtain ⟨⟨xf3774y, hf3774y, ef3774y⟩, xw3774y, hw3774y, ew3774y⟩ := id f3774
      refine y_same (i := .aload_n 0) (len := 1) (r := (0, 0, 0, 0)) (pc' := 91) (ls' := [some (.inl (some 52)), some (zi xn), some (zi xz)]) (st' := [.inl (some 52)]) (by decide +kernel) (fun k q => by cases q) rfl ?_
      refine y_ic (c := 1) (len := 1) (r := (0, 0, 0, 0)) (by decide +kernel) (by decide) (fun y3775 hy3775 => ?_)
      refine y_cV (i := .invokevirtual 208) (len := 3) (r := (0, 182, 12, 1493)) (nL := 2) (k := 0) (n := 2) (hs := []) (args := [.inl (some 52), zi y3775]) (rest := []) (l0 := [some (.inl (some 52)), some (zi y3775)]) (by decide +kernel) (Or.inr (Or.inl ⟨_, rfl⟩)) rfl rfl rfl rfl (Nat.le_of_ble_eq_true rfl) (z52 O3774.2.1) rfl (qV_le (by decide) (m_side1 O3774.2.1 r3774 (by omega) f3774 (rwM1_up (rwM_0 (by decide) (by decide) hz) (fun j hj => ((O3774.2.2 56 56 j (tu56 O3773.2.1) (show 56 ≠ 52 ∨ (j ≠ 4 ∧ j ≠ 6 ∧ j ≠ 7) by omega)).trans (O3773.2.2 56 56 j (tu56 Oz.2.1) (show (56 ≠ 52 ∨ (j ≠ 4 ∧ j ≠ 6 ∧ j ≠ 7)) ∧ (56 ≠ 56 ∨ 46 ≤ j) by omega))))) (by omega))) (fun h3776 hR3776 => ?_)
      obtain ⟨τ3776, O3776, hD3776⟩ := hR3776
      rcases hD3776 with ⟨a3776, ps3776, cs3776, e3776, le3776, rd3776, ft3776, w3776⟩ | ⟨r3776, q3776, a3776, e3776, lr3776, le3776, rd3776, ft3776⟩
      ·
        obtain ⟨⟨xn3776y, hn3776y, en3776y⟩, ⟨xa3776y, ha3776y, ea3776y⟩, hb3776y, -⟩ := id rd3776
        obtain ⟨⟨xf3776y, hf3776y, ef3776y⟩, xw3776y, hw3776y, ew3776y⟩ := id ft3776
        refine y_same (i := .aload_n 0) (len := 1) (r := (0, 0, 0, 0)) (pc' := 96) (ls' := [some (.inl (some 52)), some (zi xn), some (zi xz)]) (st' := [.inl (some 52)]) (by decide +kernel) (fun k q => by cases q) rfl ?_
        refine y_cI (i := .invokevirtual 114) (len := 3) (r := (0, 172, 12, 1502)) (nL := 1) (k := 2) (n := 1) (hs := []) (args := [.inl (some 52)]) (rest := []) (l0 := [some (.inl (some 52))]) (by decide +kernel) (Or.inr (Or.inl ⟨_, rfl⟩)) rfl rfl rfl rfl (Nat.le_of_ble_eq_true rfl) (z52 O3776.2.1) rfl (qI_le (by decide) (m_fine (d := 0) O3776.2.1 ft3776)) (fun y3777 qy3777 hRy3777 => ?_)
        obtain ⟨rfl, gy3777, by3777⟩ := hRy3777
        have hy3777 : y3777.toInt = 1 := gy3777 rfl
        refine y_iF (c := .eq) (off := 20) (len := 3) (r := (0, 0, 0, 0)) (by decide +kernel) (acmpF (c := .eq) (by show ¬ (_ = _); omega)) ?_
        refine y_same (i := .aload_n 0) (len := 1) (r := (0, 0, 0, 0)) (pc' := 103) (ls' := [some (.inl (some 52)), some (zi xn), some (zi xz)]) (st' := [.inl (some 52)]) (by decide +kernel) (fun k q => by cases q) rfl ?_
        refine y_cI (i := .invokevirtual 118) (len := 3) (r := (0, 171, 12, 1506)) (nL := 1) (k := 1) (n := 1) (hs := []) (args := [.inl (some 52)]) (rest := []) (l0 := [some (.inl (some 52))]) (by decide +kernel) (Or.inr (Or.inl ⟨_, rfl⟩)) rfl rfl rfl rfl (Nat.le_of_ble_eq_true rfl) (z52 O3776.2.1) rfl (qI_le (by decide) (m_here O3776.2.1 rd3776 (by omega))) (fun y3778 h3778 hRy3778 => ?_)
        obtain ⟨τ3778, O3778, hy3778, rd3778⟩ := hRy3778
        have sl3778 := sk_le (b := b) (n := n) (a := a3776) (by omega)
        obtain ⟨⟨xn3778, hn3778, en3778⟩, ⟨xa3778, ha3778, ea3778⟩, hb3778, -⟩ := id rd3778
        have Bg : n ≤ (sk b n a3776) → bt b n (sk b n a3776) = -1 := fun q => bt_ge q
        have Bl : (sk b n a3776) < n → bt b n (sk b n a3776) = b (sk b n a3776) := fun q => bt_lt q
        have Bp : (sk b n a3776) < n → 0 ≤ b (sk b n a3776) := fun q => hb0 _ q
        refine y_ic (c := (-1)) (len := 1) (r := (0, 0, 0, 0)) (by decide +kernel) (by decide) (fun y3779 hy3779 => ?_)
        rcases Decidable.em (y3778.toInt = y3779.toInt) with q3780 | q3780
        ·
          refine y_cT (c := .eq) (off := 12) (pc' := 119) (len := 3) (r := (0, 0, 0, 0)) (by decide +kernel) (acmpT (c := .eq) (by show _ = _; omega)) (by decide +kernel) ?_
          refine y_same (i := .aload_n 0) (len := 1) (r := (0, 0, 0, 0)) (pc' := 120) (ls' := [some (.inl (some 52)), some (zi xn), some (zi xz)]) (st' := [.inl (some 52)]) (by decide +kernel) (fun k q => by cases q) rfl ?_
          refine y_same (i := .aload_n 0) (len := 1) (r := (0, 0, 0, 0)) (pc' := 121) (ls' := [some (.inl (some 52)), some (zi xn), some (zi xz)]) (st' := [.inl (some 52), .inl (some 52)]) (by decide +kernel) (fun k q => by cases q) rfl ?_
          have hv3781 := (O3778.2.2 52 52 7 (t52 O3776.2.1) (show 52 ≠ 52 ∨ 7 ≠ 4 by omega)).trans hw3776y
          refine y_get (j := 111) (len := 3) (r := (12, 7, 0, 1335)) (by decide +kernel) O3778.2.1 (t52 O3778.2.1) at52 rfl rfl hv3781 ?_
          refine y_put (j := 13) (lo := (-2147483648)) (hi := 2147483647) (len := 3) (r := (12, 5, 0, 1333)) (by decide +kernel) O3778.2.1 (t52 O3778.2.1) at52 rfl rfl (by decide) rfl (qin_full _).1 (qin_full _).2 rfl (fun h3782 hg3782 hl3782 hs3782 ho3782 => ?_)
          have ho3782 : hO 52 5 h3778 h3782 := ho3782
          have hs3782 : hsl h3782 52 5 = some (zi xw3776y) := hs3782
          refine y_same (i := .aload_n 0) (len := 1) (r := (0, 0, 0, 0)) (pc' := 128) (ls' := [some (.inl (some 52)), some (zi xn), some (zi xz)]) (st' := [.inl (some 52)]) (by decide +kernel) (fun k q => by cases q) rfl ?_
          refine y_cI (i := .invokevirtual 114) (len := 3) (r := (0, 172, 12, 1502)) (nL := 1) (k := 2) (n := 1) (hs := []) (args := [.inl (some 52)]) (rest := []) (l0 := [some (.inl (some 52))]) (by decide +kernel) (Or.inr (Or.inl ⟨_, rfl⟩)) rfl rfl rfl rfl (Nat.le_of_ble_eq_true rfl) (z52 hg3782) rfl (qI_le (by decide) (m_fine (d := 0) hg3782 (ftM_up ft3776 ((ho3782 52 6 (Or.inr (by omega))).trans (O3778.2.2 52 52 6 (t52 O3776.2.1) (show 52 ≠ 52 ∨ 6 ≠ 4 by omega))) ((ho3782 52 7 (Or.inr (by omega))).trans (O3778.2.2 52 52 7 (t52 O3776.2.1) (show 52 ≠ 52 ∨ 7 ≠ 4 by omega)))))) (fun y3783 qy3783 hRy3783 => ?_)
          obtain ⟨rfl, gy3783, by3783⟩ := hRy3783
          have hy3783 : y3783.toInt = 1 := gy3783 rfl
          refine y_iT (c := .ne) (off := 11) (pc' := 142) (len := 3) (r := (0, 0, 0, 0)) (by decide +kernel) (acmpT (c := .ne) (by show ¬ (_ = _); omega)) (by decide +kernel) ?_
          refine y_same (i := .aload_n 0) (len := 1) (r := (0, 0, 0, 0)) (pc' := 143) (ls' := [some (.inl (some 52)), some (zi xn), some (zi xz)]) (st' := [.inl (some 52)]) (by decide +kernel) (fun k q => by cases q) rfl ?_
          have rm3784 : RM h3782 cur hs := RM_upT hg rm (fun k T j hk hC => ((ho3782 k j (by omega)).trans ((O3778.2.2 k T j (O3776.1 _ _ (O3774.1 _ _ (O3773.1 _ _ (Oz.1 _ _ hk)))) (show k ≠ 52 ∨ j ≠ 4 by omega)).trans ((O3776.2.2 k T j (O3774.1 _ _ (O3773.1 _ _ (Oz.1 _ _ hk))) (show (k ≠ 52 ∨ (j ≠ 4 ∧ j ≠ 6 ∧ j ≠ 7)) ∧ (k ≠ 56 ∨ j < 46) by omega)).trans ((O3774.2.2 k T j (O3773.1 _ _ (Oz.1 _ _ hk)) (show k ≠ 52 ∨ (j ≠ 4 ∧ j ≠ 6 ∧ j ≠ 7) by omega)).trans ((O3773.2.2 k T j (Oz.1 _ _ hk) (show (k ≠ 52 ∨ (j ≠ 4 ∧ j ≠ 6 ∧ j ≠ 7)) ∧ (k ≠ 56 ∨ 46 ≤ j) by omega)).trans ((Oz.2.2 k T j hk (show k ≠ 56 by omega)).trans ((ho3760 k j (by omega)).trans ((ho3758 k j (by omega)).trans ((ho3756 k j (by omega)).trans ((ho3754 k j (by omega)).trans ((ho3753 k j (by omega)).trans (ho3744 k j (by omega))))))))))))))
          refine y_cV (i := .invokevirtual 213) (len := 3) (r := (0, 186, 12, 1568)) (nL := 2) (k := 0) (n := 1) (hs := []) (args := [.inl (some 52)]) (rest := []) (l0 := [some (.inl (some 52)), none]) (by decide +kernel) (Or.inr (Or.inl ⟨_, rfl⟩)) rfl rfl rfl rfl (Nat.le_of_ble_eq_true rfl) (z52 hg3782) rfl (qV_le (by decide) (m_remB hg3782 rm3784)) (fun h3784 hR3784 => ?_)
          obtain ⟨⟨hg3784, rn3784, F3784⟩, jx3784, jh3784, je3784⟩ := hR3784
          refine y_same (i := .aload_n 0) (len := 1) (r := (0, 0, 0, 0)) (pc' := 147) (ls' := [some (.inl (some 52)), some (zi xn), some (zi xz)]) (st' := [.inl (some 52)]) (by decide +kernel) (fun k q => by cases q) rfl ?_
          refine y_get (j := 23) (len := 3) (r := (12, 10, 2, 1338)) (by decide +kernel) hg3784 (t52 hg3784) at52 rfl rfl (g_r52 (f := 10) (T2 := 56) hg3784 rfl (by decide)).1 ?_
          refine y_same (i := .aload_n 0) (len := 1) (r := (0, 0, 0, 0)) (pc' := 151) (ls' := [some (.inl (some 52)), some (zi xn), some (zi xz)]) (st' := [.inl (some 52), .inl (some 56)]) (by decide +kernel) (fun k q => by cases q) rfl ?_
          refine y_get (j := 20) (len := 3) (r := (12, 9, 2, 1337)) (by decide +kernel) hg3784 (t52 hg3784) at52 rfl rfl (g_r52 (f := 9) (T2 := 55) hg3784 rfl (by decide)).1 ?_
          refine y_bi (c := 92) (len := 2) (r := (0, 0, 0, 0)) (by decide +kernel) (by decide) (fun y3785 hy3785 => ?_)
          have b03786 : bsM h3784 56 ((ps3773, cs3773), (ps3776, cs3776)) := ⟨rwM_upL w3773 (fun j hj => ((F3784 56 j (by omega)).trans ((ho3782 56 j (Or.inl (by omega))).trans ((O3778.2.2 56 56 j (tu56 O3776.2.1) (show 56 ≠ 52 ∨ j ≠ 4 by omega)).trans ((O3776.2.2 56 56 j (tu56 O3774.2.1) (show (56 ≠ 52 ∨ (j ≠ 4 ∧ j ≠ 6 ∧ j ≠ 7)) ∧ (56 ≠ 56 ∨ j < 46) by omega)).trans (O3774.2.2 56 56 j (tu56 O3773.2.1) (show 56 ≠ 52 ∨ (j ≠ 4 ∧ j ≠ 6 ∧ j ≠ 7) by omega))))))), rwM_upR w3776 (fun j hj hj2 => ((F3784 56 j (by omega)).trans ((ho3782 56 j (Or.inl (by omega))).trans (O3778.2.2 56 56 j (tu56 O3776.2.1) (show 56 ≠ 52 ∨ j ≠ 4 by omega)))))⟩
          refine y_cV (i := .invokestatic 216) (len := 3) (r := (1, 185, 12, 1572)) (nL := 4) (k := 0) (n := 3) (hs := []) (args := [.inl (some 56), .inl (some 55), zi y3785]) (rest := []) (l0 := [some (.inl (some 56)), some (.inl (some 55)), some (zi y3785), none]) (by decide +kernel) (Or.inl ⟨_, rfl⟩) rfl rfl rfl rfl (Nat.le_of_ble_eq_true rfl) rfl rfl (qV_le (by decide) (e_mcp (d := 0) hg3784 (tv56 hg3784) (tv55 hg3784) av56 av55 rfl (by omega) (by omega))) (fun h3786 hR3786 => ?_)
          obtain ⟨hg3786, C3786, F3786⟩ := hR3786
          have rz3786 : RM h3786 ((ps3773, cs3773), (ps3776, cs3776)) (psh hs cur) := RM_set rn3784 (bsM_to b03786 C3786) (fun k j hC => F3786 k j (by omega))
          obtain ⟨xp0, hp0, ep0⟩ := rz3786.1.1.1
          obtain ⟨xp1, hp1, ep1⟩ := rz3786.1.2.1
          have lz := len55 hg3786 rz3786.1
          simp only at lz ep0 ep1
          refine y_same (i := .aload_n 0) (len := 1) (r := (0, 0, 0, 0)) (pc' := 160) (ls' := [some (.inl (some 52)), some (zi xn), some (zi xz)]) (st' := [.inl (some 52)]) (by decide +kernel) (fun k q => by cases q) rfl ?_
          refine y_get (j := 20) (len := 3) (r := (12, 9, 2, 1337)) (by decide +kernel) hg3786 (t52 hg3786) at52 rfl rfl (g_r52 (f := 9) (T2 := 55) hg3786 rfl (by decide)).1 ?_
          refine y_ic (c := 0) (len := 1) (r := (0, 0, 0, 0)) (by decide +kernel) (by decide) (fun y3787 hy3787 => ?_)
          refine y_cI (i := .invokestatic 143) (len := 3) (r := (1, 166, 12, 1543)) (nL := 2) (k := 1) (n := 2) (hs := []) (args := [.inl (some 55), zi y3787]) (rest := []) (l0 := [some (.inl (some 55)), some (zi y3787)]) (by decide +kernel) (Or.inl ⟨_, rfl⟩) rfl rfl rfl rfl (Nat.le_of_ble_eq_true rfl) rfl rfl (qI_le (by decide) (m_parts (d := 0) (s := 0) hg3786 (by omega) (by omega) hp0)) (fun y3788 qy3788 hRy3788 => ?_)
          obtain ⟨rfl, rfl⟩ := hRy3788
          refine y_same (i := .aload_n 0) (len := 1) (r := (0, 0, 0, 0)) (pc' := 168) (ls' := [some (.inl (some 52)), some (zi xn), some (zi xz)]) (st' := [.inl (some 52), zi xp0]) (by decide +kernel) (fun k q => by cases q) rfl ?_
          refine y_get (j := 20) (len := 3) (r := (12, 9, 2, 1337)) (by decide +kernel) hg3786 (t52 hg3786) at52 rfl rfl (g_r52 (f := 9) (T2 := 55) hg3786 rfl (by decide)).1 ?_
          refine y_ic (c := 1) (len := 1) (r := (0, 0, 0, 0)) (by decide +kernel) (by decide) (fun y3789 hy3789 => ?_)
          refine y_cI (i := .invokestatic 143) (len := 3) (r := (1, 166, 12, 1543)) (nL := 2) (k := 1) (n := 2) (hs := []) (args := [.inl (some 55), zi y3789]) (rest := [zi xp0]) (l0 := [some (.inl (some 55)), some (zi y3789)]) (by decide +kernel) (Or.inl ⟨_, rfl⟩) rfl rfl rfl rfl (Nat.le_of_ble_eq_true rfl) rfl rfl (qI_le (by decide) (m_parts (d := 0) (s := 1) hg3786 (by omega) (by omega) hp1)) (fun y3790 qy3790 hRy3790 => ?_)
          obtain ⟨rfl, rfl⟩ := hRy3790
          refine y_add (len := 1) (r := (0, 0, 0, 0)) (by decide +kernel) (by omega) (by omega) (fun y3791 hy3791 => ?_)
          refine y_rI (len := 1) (r := (0, 0, 0, 0)) (nL := 3) (k := 1) (n9 := 2) (hs := []) (by decide +kernel) rfl rfl ?_
          have hv3792 := (F3786 52 47 (by omega)).trans jh3784
          exact ⟨⟨((F3786 44 0 (by omega)).trans ((F3784 44 0 (by omega)).trans ((ho3782 44 0 (Or.inl (by omega))).trans ((O3778.2.2 44 44 0 (tv44 O3776.2.1) (show 44 ≠ 52 ∨ 0 ≠ 4 by omega)).trans ((O3776.2.2 44 44 0 (tv44 O3774.2.1) (show (44 ≠ 52 ∨ (0 ≠ 4 ∧ 0 ≠ 6 ∧ 0 ≠ 7)) ∧ (44 ≠ 56 ∨ 0 < 46) by omega)).trans ((O3774.2.2 44 44 0 (tv44 O3773.2.1) (show 44 ≠ 52 ∨ (0 ≠ 4 ∧ 0 ≠ 6 ∧ 0 ≠ 7) by omega)).trans ((O3773.2.2 44 44 0 (tv44 Oz.2.1) (show (44 ≠ 52 ∨ (0 ≠ 4 ∧ 0 ≠ 6 ∧ 0 ≠ 7)) ∧ (44 ≠ 56 ∨ 46 ≤ 0) by omega)).trans ((Oz.2.2 44 44 0 (tv44 hg3760) (show 44 ≠ 56 by omega)).trans ((ho3760 44 0 (Or.inl (by omega))).trans ((ho3758 44 0 (Or.inl (by omega))).trans ((ho3756 44 0 (Or.inl (by omega))).trans ((ho3754 44 0 (Or.inl (by omega))).trans ((ho3753 44 0 (Or.inl (by omega))).trans (ho3744 44 0 (Or.inl (by omega)))))))))))))))), fun j h1 h2 => ((F3786 42 j (by omega)).trans ((F3784 42 j (by omega)).trans ((ho3782 42 j (Or.inl (by omega))).trans ((O3778.2.2 42 42 j (tv42 O3776.2.1) (show 42 ≠ 52 ∨ j ≠ 4 by omega)).trans ((O3776.2.2 42 42 j (tv42 O3774.2.1) (show (42 ≠ 52 ∨ (j ≠ 4 ∧ j ≠ 6 ∧ j ≠ 7)) ∧ (42 ≠ 56 ∨ j < 46) by omega)).trans ((O3774.2.2 42 42 j (tv42 O3773.2.1) (show 42 ≠ 52 ∨ (j ≠ 4 ∧ j ≠ 6 ∧ j ≠ 7) by omega)).trans ((O3773.2.2 42 42 j (tv42 Oz.2.1) (show (42 ≠ 52 ∨ (j ≠ 4 ∧ j ≠ 6 ∧ j ≠ 7)) ∧ (42 ≠ 56 ∨ 46 ≤ j) by omega)).trans ((Oz.2.2 42 42 j (tv42 hg3760) (show 42 ≠ 56 by omega)).trans ((ho3760 42 j (Or.inl (by omega))).trans ((ho3758 42 j (Or.inl (by omega))).trans ((ho3756 42 j (Or.inl (by omega))).trans ((ho3754 42 j (Or.inl (by omega))).trans ((ho3753 42 j (Or.inl (by omega))).trans (ho3744 42 j (Or.inl (by omega)))))))))))))))), fun j => ((F3786 51 j (by omega)).trans ((F3784 51 j (by omega)).trans ((ho3782 51 j (Or.inl (by omega))).trans ((O3778.2.2 51 51 j (tv51 O3776.2.1) (show 51 ≠ 52 ∨ j ≠ 4 by omega)).trans ((O3776.2.2 51 51 j (tv51 O3774.2.1) (show (51 ≠ 52 ∨ (j ≠ 4 ∧ j ≠ 6 ∧ j ≠ 7)) ∧ (51 ≠ 56 ∨ j < 46) by omega)).trans ((O3774.2.2 51 51 j (tv51 O3773.2.1) (show 51 ≠ 52 ∨ (j ≠ 4 ∧ j ≠ 6 ∧ j ≠ 7) by omega)).trans ((O3773.2.2 51 51 j (tv51 Oz.2.1) (show (51 ≠ 52 ∨ (j ≠ 4 ∧ j ≠ 6 ∧ j ≠ 7)) ∧ (51 ≠ 56 ∨ 46 ≤ j) by omega)).trans ((Oz.2.2 51 51 j (tv51 hg3760) (show 51 ≠ 56 by omega)).trans ((ho3760 51 j (Or.inl (by omega))).trans ((ho3758 51 j (Or.inl (by omega))).trans ((ho3756 51 j (Or.inl (by omega))).trans ((ho3754 51 j (Or.inl (by omega))).trans ((ho3753 51 j (Or.inl (by omega))).trans (ho3744 51 j (Or.inl (by omega))))))))))))))))⟩, ((F3786 42 5 (by omega)).trans ((F3784 42 5 (by omega)).trans ((ho3782 42 5 (Or.inl (by omega))).trans ((O3778.2.2 42 42 5 (tv42 O3776.2.1) (show 42 ≠ 52 ∨ 5 ≠ 4 by omega)).trans ((O3776.2.2 42 42 5 (tv42 O3774.2.1) (show (42 ≠ 52 ∨ (5 ≠ 4 ∧ 5 ≠ 6 ∧ 5 ≠ 7)) ∧ (42 ≠ 56 ∨ 5 < 46) by omega)).trans ((O3774.2.2 42 42 5 (tv42 O3773.2.1) (show 42 ≠ 52 ∨ (5 ≠ 4 ∧ 5 ≠ 6 ∧ 5 ≠ 7) by omega)).trans ((O3773.2.2 42 42 5 (tv42 Oz.2.1) (show (42 ≠ 52 ∨ (5 ≠ 4 ∧ 5 ≠ 6 ∧ 5 ≠ 7)) ∧ (42 ≠ 56 ∨ 46 ≤ 5) by omega)).trans ((Oz.2.2 42 42 5 (tv42 hg3760) (show 42 ≠ 56 by omega)).trans ((ho3760 42 5 (Or.inl (by omega))).trans ((ho3758 42 5 (Or.inl (by omega))).trans ((ho3756 42 5 (Or.inl (by omega))).trans ((ho3754 42 5 (Or.inl (by omega))).trans ((ho3753 42 5 (Or.inl (by omega))).trans (ho3744 42 5 (Or.inl (by omega)))))))))))))))), ⟨fun j h1 h2 => ((F3786 52 j (by omega)).trans ((F3784 52 j (by omega)).trans ((ho3782 52 j (Or.inr (by omega))).trans ((O3778.2.2 52 52 j (t52 O3776.2.1) (show 52 ≠ 52 ∨ j ≠ 4 by omega)).trans ((O3776.2.2 52 52 j (t52 O3774.2.1) (show (52 ≠ 52 ∨ (j ≠ 4 ∧ j ≠ 6 ∧ j ≠ 7)) ∧ (52 ≠ 56 ∨ j < 46) by omega)).trans ((O3774.2.2 52 52 j (t52 O3773.2.1) (show 52 ≠ 52 ∨ (j ≠ 4 ∧ j ≠ 6 ∧ j ≠ 7) by omega)).trans ((O3773.2.2 52 52 j (t52 Oz.2.1) (show (52 ≠ 52 ∨ (j ≠ 4 ∧ j ≠ 6 ∧ j ≠ 7)) ∧ (52 ≠ 56 ∨ 46 ≤ j) by omega)).trans ((Oz.2.2 52 52 j (t52 hg3760) (show 52 ≠ 56 by omega)).trans ((ho3760 52 j (Or.inr (by omega))).trans ((ho3758 52 j (Or.inr (by omega))).trans ((ho3756 52 j (Or.inr (by omega))).trans ((ho3754 52 j (Or.inr (by omega))).trans ((ho3753 52 j (Or.inr (by omega))).trans (ho3744 52 j (Or.inr (by omega)))))))))))))))), fun j => ((F3786 387 j (by omega)).trans ((F3784 387 j (by omega)).trans ((ho3782 387 j (Or.inl (by omega))).trans ((O3778.2.2 387 387 j (tu387 O3776.2.1) (show 387 ≠ 52 ∨ j ≠ 4 by omega)).trans ((O3776.2.2 387 387 j (tu387 O3774.2.1) (show (387 ≠ 52 ∨ (j ≠ 4 ∧ j ≠ 6 ∧ j ≠ 7)) ∧ (387 ≠ 56 ∨ j < 46) by omega)).trans ((O3774.2.2 387 387 j (tu387 O3773.2.1) (show 387 ≠ 52 ∨ (j ≠ 4 ∧ j ≠ 6 ∧ j ≠ 7) by omega)).trans ((O3773.2.2 387 387 j (tu387 Oz.2.1) (show (387 ≠ 52 ∨ (j ≠ 4 ∧ j ≠ 6 ∧ j ≠ 7)) ∧ (387 ≠ 56 ∨ 46 ≤ j) by omega)).trans ((Oz.2.2 387 387 j (tu387 hg3760) (show 387 ≠ 56 by omega)).trans ((ho3760 387 j (Or.inl (by omega))).trans ((ho3758 387 j (Or.inl (by omega))).trans ((ho3756 387 j (Or.inl (by omega))).trans ((ho3754 387 j (Or.inl (by omega))).trans ((ho3753 387 j (Or.inl (by omega))).trans (ho3744 387 j (Or.inl (by omega))))))))))))))))⟩, Or.inr ⟨_, hv3792, by omega⟩⟩
        ·
          refine y_cF (c := .eq) (off := 12) (len := 3) (r := (0, 0, 0, 0)) (by decide +kernel) (acmpF (c := .eq) (by show ¬ (_ = _); omega)) ?_
          refine y_same (i := .aload_n 0) (len := 1) (r := (0, 0, 0, 0)) (pc' := 111) (ls' := [some (.inl (some 52)), some (zi xn), some (zi xz)]) (st' := [.inl (some 52)]) (by decide +kernel) (fun k q => by cases q) rfl ?_
          refine y_ic (c := 1) (len := 1) (r := (0, 0, 0, 0)) (by decide +kernel) (by decide) (fun y3793 hy3793 => ?_)
          refine y_same (i := .aload_n 0) (len := 1) (r := (0, 0, 0, 0)) (pc' := 113) (ls' := [some (.inl (some 52)), some (zi xn), some (zi xz)]) (st' := [.inl (some 52), zi y3793, .inl (some 52)]) (by decide +kernel) (fun k q => by cases q) rfl ?_
          refine y_get (j := 101) (len := 3) (r := (12, 4, 0, 1332)) (by decide +kernel) O3778.2.1 (t52 O3778.2.1) at52 rfl rfl ha3778 ?_
          refine y_cV (i := .invokevirtual 139) (len := 3) (r := (0, 173, 12, 1529)) (nL := 3) (k := 0) (n := 3) (hs := []) (args := [.inl (some 52), zi y3793, zi xa3778]) (rest := []) (l0 := [some (.inl (some 52)), some (zi y3793), some (zi xa3778)]) (by decide +kernel) (Or.inr (Or.inl ⟨_, rfl⟩)) rfl rfl rfl rfl (Nat.le_of_ble_eq_true rfl) (z52 O3778.2.1) rfl (qV_le (by decide) (m_wrong (d := 0) (r := 1) (q := (sk b n a3776)) O3778.2.1 (ftM_up ft3776 (O3778.2.2 52 52 6 (t52 O3776.2.1) (show 52 ≠ 52 ∨ 6 ≠ 4 by omega)) (O3778.2.2 52 52 7 (t52 O3776.2.1) (show 52 ≠ 52 ∨ 7 ≠ 4 by omega))) (by omega) (by omega) (by omega) (by omega))) (fun h3794 hR3794 => ?_)
          obtain ⟨τ3794, O3794, ft3794⟩ := hR3794
          obtain ⟨⟨xf3794, hf3794, ef3794⟩, xw3794, hw3794, ew3794⟩ := id ft3794
          refine y_same (i := .aload_n 0) (len := 1) (r := (0, 0, 0, 0)) (pc' := 120) (ls' := [some (.inl (some 52)), some (zi xn), some (zi xz)]) (st' := [.inl (some 52)]) (by decide +kernel) (fun k q => by cases q) rfl ?_
          refine y_same (i := .aload_n 0) (len := 1) (r := (0, 0, 0, 0)) (pc' := 121) (ls' := [some (.inl (some 52)), some (zi xn), some (zi xz)]) (st' := [.inl (some 52), .inl (some 52)]) (by decide +kernel) (fun k q => by cases q) rfl ?_
          refine y_get (j := 111) (len := 3) (r := (12, 7, 0, 1335)) (by decide +kernel) O3794.2.1 (t52 O3794.2.1) at52 rfl rfl hw3794 ?_
          refine y_put (j := 13) (lo := (-2147483648)) (hi := 2147483647) (len := 3) (r := (12, 5, 0, 1333)) (by decide +kernel) O3794.2.1 (t52 O3794.2.1) at52 rfl rfl (by decide) rfl (qin_full _).1 (qin_full _).2 rfl (fun h3795 hg3795 hl3795 hs3795 ho3795 => ?_)
          have ho3795 : hO 52 5 h3794 h3795 := ho3795
          have hs3795 : hsl h3795 52 5 = some (zi xw3794) := hs3795
          refine y_same (i := .aload_n 0) (len := 1) (r := (0, 0, 0, 0)) (pc' := 128) (ls' := [some (.inl (some 52)), some (zi xn), some (zi xz)]) (st' := [.inl (some 52)]) (by decide +kernel) (fun k q => by cases q) rfl ?_
          refine y_cI (i := .invokevirtual 114) (len := 3) (r := (0, 172, 12, 1502)) (nL := 1) (k := 2) (n := 1) (hs := []) (args := [.inl (some 52)]) (rest := []) (l0 := [some (.inl (some 52))]) (by decide +kernel) (Or.inr (Or.inl ⟨_, rfl⟩)) rfl rfl rfl rfl (Nat.le_of_ble_eq_true rfl) (z52 hg3795) rfl (qI_le (by decide) (m_fine (d := 0) hg3795 (ftM_up ft3794 (ho3795 52 6 (Or.inr (by omega))) (ho3795 52 7 (Or.inr (by omega)))))) (fun y3796 qy3796 hRy3796 => ?_)
          obtain ⟨rfl, gy3796, by3796⟩ := hRy3796
          have hy3796 : y3796.toInt = 0 := by3796 (by omega)
          refine y_iF (c := .ne) (off := 11) (len := 3) (r := (0, 0, 0, 0)) (by decide +kernel) (acmpF (c := .ne) (by show _ = _; omega)) ?_
          refine y_same (i := .aload_n 0) (len := 1) (r := (0, 0, 0, 0)) (pc' := 135) (ls' := [some (.inl (some 52)), some (zi xn), some (zi xz)]) (st' := [.inl (some 52)]) (by decide +kernel) (fun k q => by cases q) rfl ?_
          have hv3797 := (ho3795 52 6 (Or.inr (by omega))).trans hf3794
          refine y_get (j := 108) (len := 3) (r := (12, 6, 0, 1334)) (by decide +kernel) hg3795 (t52 hg3795) at52 rfl rfl hv3797 ?_
          refine y_bi (c := 10) (len := 2) (r := (0, 0, 0, 0)) (by decide +kernel) (by decide) (fun y3798 hy3798 => ?_)
          refine y_bp (i := .isub) (f := fun x y => x - y) (len := 1) (r := (0, 0, 0, 0)) (by decide +kernel) rfl rfl (fun y3799 hy3799 => ?_)
          refine y_rI (len := 1) (r := (0, 0, 0, 0)) (nL := 3) (k := 1) (n9 := 2) (hs := []) (by decide +kernel) rfl rfl ?_
          exact ⟨⟨((ho3795 44 0 (Or.inl (by omega))).trans ((O3794.2.2 44 44 0 (tv44 O3778.2.1) (show 44 ≠ 52 ∨ (0 ≠ 6 ∧ 0 ≠ 7) by omega)).trans ((O3778.2.2 44 44 0 (tv44 O3776.2.1) (show 44 ≠ 52 ∨ 0 ≠ 4 by omega)).trans ((O3776.2.2 44 44 0 (tv44 O3774.2.1) (show (44 ≠ 52 ∨ (0 ≠ 4 ∧ 0 ≠ 6 ∧ 0 ≠ 7)) ∧ (44 ≠ 56 ∨ 0 < 46) by omega)).trans ((O3774.2.2 44 44 0 (tv44 O3773.2.1) (show 44 ≠ 52 ∨ (0 ≠ 4 ∧ 0 ≠ 6 ∧ 0 ≠ 7) by omega)).trans ((O3773.2.2 44 44 0 (tv44 Oz.2.1) (show (44 ≠ 52 ∨ (0 ≠ 4 ∧ 0 ≠ 6 ∧ 0 ≠ 7)) ∧ (44 ≠ 56 ∨ 46 ≤ 0) by omega)).trans ((Oz.2.2 44 44 0 (tv44 hg3760) (show 44 ≠ 56 by omega)).trans ((ho3760 44 0 (Or.inl (by omega))).trans ((ho3758 44 0 (Or.inl (by omega))).trans ((ho3756 44 0 (Or.inl (by omega))).trans ((ho3754 44 0 (Or.inl (by omega))).trans ((ho3753 44 0 (Or.inl (by omega))).trans (ho3744 44 0 (Or.inl (by omega))))))))))))))), fun j h1 h2 => ((ho3795 42 j (Or.inl (by omega))).trans ((O3794.2.2 42 42 j (tv42 O3778.2.1) (show 42 ≠ 52 ∨ (j ≠ 6 ∧ j ≠ 7) by omega)).trans ((O3778.2.2 42 42 j (tv42 O3776.2.1) (show 42 ≠ 52 ∨ j ≠ 4 by omega)).trans ((O3776.2.2 42 42 j (tv42 O3774.2.1) (show (42 ≠ 52 ∨ (j ≠ 4 ∧ j ≠ 6 ∧ j ≠ 7)) ∧ (42 ≠ 56 ∨ j < 46) by omega)).trans ((O3774.2.2 42 42 j (tv42 O3773.2.1) (show 42 ≠ 52 ∨ (j ≠ 4 ∧ j ≠ 6 ∧ j ≠ 7) by omega)).trans ((O3773.2.2 42 42 j (tv42 Oz.2.1) (show (42 ≠ 52 ∨ (j ≠ 4 ∧ j ≠ 6 ∧ j ≠ 7)) ∧ (42 ≠ 56 ∨ 46 ≤ j) by omega)).trans ((Oz.2.2 42 42 j (tv42 hg3760) (show 42 ≠ 56 by omega)).trans ((ho3760 42 j (Or.inl (by omega))).trans ((ho3758 42 j (Or.inl (by omega))).trans ((ho3756 42 j (Or.inl (by omega))).trans ((ho3754 42 j (Or.inl (by omega))).trans ((ho3753 42 j (Or.inl (by omega))).trans (ho3744 42 j (Or.inl (by omega))))))))))))))), fun j => ((ho3795 51 j (Or.inl (by omega))).trans ((O3794.2.2 51 51 j (tv51 O3778.2.1) (show 51 ≠ 52 ∨ (j ≠ 6 ∧ j ≠ 7) by omega)).trans ((O3778.2.2 51 51 j (tv51 O3776.2.1) (show 51 ≠ 52 ∨ j ≠ 4 by omega)).trans ((O3776.2.2 51 51 j (tv51 O3774.2.1) (show (51 ≠ 52 ∨ (j ≠ 4 ∧ j ≠ 6 ∧ j ≠ 7)) ∧ (51 ≠ 56 ∨ j < 46) by omega)).trans ((O3774.2.2 51 51 j (tv51 O3773.2.1) (show 51 ≠ 52 ∨ (j ≠ 4 ∧ j ≠ 6 ∧ j ≠ 7) by omega)).trans ((O3773.2.2 51 51 j (tv51 Oz.2.1) (show (51 ≠ 52 ∨ (j ≠ 4 ∧ j ≠ 6 ∧ j ≠ 7)) ∧ (51 ≠ 56 ∨ 46 ≤ j) by omega)).trans ((Oz.2.2 51 51 j (tv51 hg3760) (show 51 ≠ 56 by omega)).trans ((ho3760 51 j (Or.inl (by omega))).trans ((ho3758 51 j (Or.inl (by omega))).trans ((ho3756 51 j (Or.inl (by omega))).trans ((ho3754 51 j (Or.inl (by omega))).trans ((ho3753 51 j (Or.inl (by omega))).trans (ho3744 51 j (Or.inl (by omega)))))))))))))))⟩, ((ho3795 42 5 (Or.inl (by omega))).trans ((O3794.2.2 42 42 5 (tv42 O3778.2.1) (show 42 ≠ 52 ∨ (5 ≠ 6 ∧ 5 ≠ 7) by omega)).trans ((O3778.2.2 42 42 5 (tv42 O3776.2.1) (show 42 ≠ 52 ∨ 5 ≠ 4 by omega)).trans ((O3776.2.2 42 42 5 (tv42 O3774.2.1) (show (42 ≠ 52 ∨ (5 ≠ 4 ∧ 5 ≠ 6 ∧ 5 ≠ 7)) ∧ (42 ≠ 56 ∨ 5 < 46) by omega)).trans ((O3774.2.2 42 42 5 (tv42 O3773.2.1) (show 42 ≠ 52 ∨ (5 ≠ 4 ∧ 5 ≠ 6 ∧ 5 ≠ 7) by omega)).trans ((O3773.2.2 42 42 5 (tv42 Oz.2.1) (show (42 ≠ 52 ∨ (5 ≠ 4 ∧ 5 ≠ 6 ∧ 5 ≠ 7)) ∧ (42 ≠ 56 ∨ 46 ≤ 5) by omega)).trans ((Oz.2.2 42 42 5 (tv42 hg3760) (show 42 ≠ 56 by omega)).trans ((ho3760 42 5 (Or.inl (by omega))).trans ((ho3758 42 5 (Or.inl (by omega))).trans ((ho3756 42 5 (Or.inl (by omega))).trans ((ho3754 42 5 (Or.inl (by omega))).trans ((ho3753 42 5 (Or.inl (by omega))).trans (ho3744 42 5 (Or.inl (by omega))))))))))))))), ⟨fun j h1 h2 => ((ho3795 52 j (Or.inr (by omega))).trans ((O3794.2.2 52 52 j (t52 O3778.2.1) (show 52 ≠ 52 ∨ (j ≠ 6 ∧ j ≠ 7) by omega)).trans ((O3778.2.2 52 52 j (t52 O3776.2.1) (show 52 ≠ 52 ∨ j ≠ 4 by omega)).trans ((O3776.2.2 52 52 j (t52 O3774.2.1) (show (52 ≠ 52 ∨ (j ≠ 4 ∧ j ≠ 6 ∧ j ≠ 7)) ∧ (52 ≠ 56 ∨ j < 46) by omega)).trans ((O3774.2.2 52 52 j (t52 O3773.2.1) (show 52 ≠ 52 ∨ (j ≠ 4 ∧ j ≠ 6 ∧ j ≠ 7) by omega)).trans ((O3773.2.2 52 52 j (t52 Oz.2.1) (show (52 ≠ 52 ∨ (j ≠ 4 ∧ j ≠ 6 ∧ j ≠ 7)) ∧ (52 ≠ 56 ∨ 46 ≤ j) by omega)).trans ((Oz.2.2 52 52 j (t52 hg3760) (show 52 ≠ 56 by omega)).trans ((ho3760 52 j (Or.inr (by omega))).trans ((ho3758 52 j (Or.inr (by omega))).trans ((ho3756 52 j (Or.inr (by omega))).trans ((ho3754 52 j (Or.inr (by omega))).trans ((ho3753 52 j (Or.inr (by omega))).trans (ho3744 52 j (Or.inr (by omega))))))))))))))), fun j => ((ho3795 387 j (Or.inl (by omega))).trans ((O3794.2.2 387 387 j (tu387 O3778.2.1) (show 387 ≠ 52 ∨ (j ≠ 6 ∧ j ≠ 7) by omega)).trans ((O3778.2.2 387 387 j (tu387 O3776.2.1) (show 387 ≠ 52 ∨ j ≠ 4 by omega)).trans ((O3776.2.2 387 387 j (tu387 O3774.2.1) (show (387 ≠ 52 ∨ (j ≠ 4 ∧ j ≠ 6 ∧ j ≠ 7)) ∧ (387 ≠ 56 ∨ j < 46) by omega)).trans ((O3774.2.2 387 387 j (tu387 O3773.2.1) (show 387 ≠ 52 ∨ (j ≠ 4 ∧ j ≠ 6 ∧ j ≠ 7) by omega)).trans ((O3773.2.2 387 387 j (tu387 Oz.2.1) (show (387 ≠ 52 ∨ (j ≠ 4 ∧ j ≠ 6 ∧ j ≠ 7)) ∧ (387 ≠ 56 ∨ 46 ≤ j) by omega)).trans ((Oz.2.2 387 387 j (tu387 hg3760) (show 387 ≠ 56 by omega)).trans ((ho3760 387 j (Or.inl (by omega))).trans ((ho3758 387 j (Or.inl (by omega))).trans ((ho3756 387 j (Or.inl (by omega))).trans ((ho3754 387 j (Or.inl (by omega))).trans ((ho3753 387 j (Or.inl (by omega))).trans (ho3744 387 j (Or.inl (by omega)))))))))))))))⟩, Or.inl ⟨(by unfold wAll; simp only [e3773, e3774, e3776]; rw [if_neg (show ¬ sk b n a3776 = n by omega)]; exact ⟨_, rfl⟩), ((ho3795 52 47 (Or.inr (by omega))).trans ((O3794.2.2 52 52 47 (t52 O3778.2.1) (show 52 ≠ 52 ∨ (47 ≠ 6 ∧ 47 ≠ 7) by omega)).trans ((O3778.2.2 52 52 47 (t52 O3776.2.1) (show 52 ≠ 52 ∨ 47 ≠ 4 by omega)).trans ((O3776.2.2 52 52 47 (t52 O3774.2.1) (show (52 ≠ 52 ∨ (47 ≠ 4 ∧ 47 ≠ 6 ∧ 47 ≠ 7)) ∧ (52 ≠ 56 ∨ 47 < 46) by omega)).trans ((O3774.2.2 52 52 47 (t52 O3773.2.1) (show 52 ≠ 52 ∨ (47 ≠ 4 ∧ 47 ≠ 6 ∧ 47 ≠ 7) by omega)).trans ((O3773.2.2 52 52 47 (t52 Oz.2.1) (show (52 ≠ 52 ∨ (47 ≠ 4 ∧ 47 ≠ 6 ∧ 47 ≠ 7)) ∧ (52 ≠ 56 ∨ 46 ≤ 47) by omega)).trans ((Oz.2.2 52 52 47 (t52 hg3760) (show 52 ≠ 56 by omega)).trans ((ho3760 52 47 (Or.inr (by omega))).trans ((ho3758 52 47 (Or.inr (by omega))).trans ((ho3756 52 47 (Or.inr (by omega))).trans ((ho3754 52 47 (Or.inr (by omega))).trans ((ho3753 52 47 (Or.inr (by omega))).trans (ho3744 52 47 (Or.inr (by omega)))))))))))))))⟩⟩
      ·
        obtain ⟨⟨xn3776n, hn3776n, en3776n⟩, ⟨xa3776n, ha3776n, ea3776n⟩, hb3776n, -⟩ := id rd3776
        obtain ⟨⟨xf3776n, hf3776n, ef3776n⟩, xw3776n, hw3776n, ew3776n⟩ := id ft3776
        refine y_same (i := .aload_n 0) (len := 1) (r := (0, 0, 0, 0)) (pc' := 96) (ls' := [some (.inl (some 52)), some (zi xn), some (zi xz)]) (st' := [.inl (some 52)]) (by decide +kernel) (fun k q => by cases q) rfl ?_
        refine y_cI (i := .invokevirtual 114) (len := 3) (r := (0, 172, 12, 1502)) (nL := 1) (k := 2) (n := 1) (hs := []) (args := [.inl (some 52)]) (rest := []) (l0 := [some (.inl (some 52))]) (by decide +kernel) (Or.inr (Or.inl ⟨_, rfl⟩)) rfl rfl rfl rfl (Nat.le_of_ble_eq_true rfl) (z52 O3776.2.1) rfl (qI_le (by decide) (m_fine (d := 0) O3776.2.1 ft3776)) (fun y3800 qy3800 hRy3800 => ?_)
        obtain ⟨rfl, gy3800, by3800⟩ := hRy3800
        have hy3800 : y3800.toInt = 0 := by3800 (by omega)
        refine y_iT (c := .eq) (off := 20) (pc' := 119) (len := 3) (r := (0, 0, 0, 0)) (by decide +kernel) (acmpT (c := .eq) (by show _ = _; omega)) (by decide +kernel) ?_
        refine y_same (i := .aload_n 0) (len := 1) (r := (0, 0, 0, 0)) (pc' := 120) (ls' := [some (.inl (some 52)), some (zi xn), some (zi xz)]) (st' := [.inl (some 52)]) (by decide +kernel) (fun k q => by cases q) rfl ?_
        refine y_same (i := .aload_n 0) (len := 1) (r := (0, 0, 0, 0)) (pc' := 121) (ls' := [some (.inl (some 52)), some (zi xn), some (zi xz)]) (st' := [.inl (some 52), .inl (some 52)]) (by decide +kernel) (fun k q => by cases q) rfl ?_
        refine y_get (j := 111) (len := 3) (r := (12, 7, 0, 1335)) (by decide +kernel) O3776.2.1 (t52 O3776.2.1) at52 rfl rfl hw3776n ?_
        refine y_put (j := 13) (lo := (-2147483648)) (hi := 2147483647) (len := 3) (r := (12, 5, 0, 1333)) (by decide +kernel) O3776.2.1 (t52 O3776.2.1) at52 rfl rfl (by decide) rfl (qin_full _).1 (qin_full _).2 rfl (fun h3801 hg3801 hl3801 hs3801 ho3801 => ?_)
        have ho3801 : hO 52 5 h3776 h3801 := ho3801
        have hs3801 : hsl h3801 52 5 = some (zi xw3776n) := hs3801
        refine y_same (i := .aload_n 0) (len := 1) (r := (0, 0, 0, 0)) (pc' := 128) (ls' := [some (.inl (some 52)), some (zi xn), some (zi xz)]) (st' := [.inl (some 52)]) (by decide +kernel) (fun k q => by cases q) rfl ?_
        refine y_cI (i := .invokevirtual 114) (len := 3) (r := (0, 172, 12, 1502)) (nL := 1) (k := 2) (n := 1) (hs := []) (args := [.inl (some 52)]) (rest := []) (l0 := [some (.inl (some 52))]) (by decide +kernel) (Or.inr (Or.inl ⟨_, rfl⟩)) rfl rfl rfl rfl (Nat.le_of_ble_eq_true rfl) (z52 hg3801) rfl (qI_le (by decide) (m_fine (d := 0) hg3801 (ftM_up ft3776 (ho3801 52 6 (Or.inr (by omega))) (ho3801 52 7 (Or.inr (by omega)))))) (fun y3802 qy3802 hRy3802 => ?_)
        obtain ⟨rfl, gy3802, by3802⟩ := hRy3802
        have hy3802 : y3802.toInt = 0 := by3802 (by omega)
        refine y_iF (c := .ne) (off := 11) (len := 3) (r := (0, 0, 0, 0)) (by decide +kernel) (acmpF (c := .ne) (by show _ = _; omega)) ?_
        refine y_same (i := .aload_n 0) (len := 1) (r := (0, 0, 0, 0)) (pc' := 135) (ls' := [some (.inl (some 52)), some (zi xn), some (zi xz)]) (st' := [.inl (some 52)]) (by decide +kernel) (fun k q => by cases q) rfl ?_
        have hv3803 := (ho3801 52 6 (Or.inr (by omega))).trans hf3776n
        refine y_get (j := 108) (len := 3) (r := (12, 6, 0, 1334)) (by decide +kernel) hg3801 (t52 hg3801) at52 rfl rfl hv3803 ?_
        refine y_bi (c := 10) (len := 2) (r := (0, 0, 0, 0)) (by decide +kernel) (by decide) (fun y3804 hy3804 => ?_)
        refine y_bp (i := .isub) (f := fun x y => x - y) (len := 1) (r := (0, 0, 0, 0)) (by decide +kernel) rfl rfl (fun y3805 hy3805 => ?_)
        refine y_rI (len := 1) (r := (0, 0, 0, 0)) (nL := 3) (k := 1) (n9 := 2) (hs := []) (by decide +kernel) rfl rfl ?_
        exact ⟨⟨((ho3801 44 0 (Or.inl (by omega))).trans ((O3776.2.2 44 44 0 (tv44 O3774.2.1) (show (44 ≠ 52 ∨ (0 ≠ 4 ∧ 0 ≠ 6 ∧ 0 ≠ 7)) ∧ (44 ≠ 56 ∨ 0 < 46) by omega)).trans ((O3774.2.2 44 44 0 (tv44 O3773.2.1) (show 44 ≠ 52 ∨ (0 ≠ 4 ∧ 0 ≠ 6 ∧ 0 ≠ 7) by omega)).trans ((O3773.2.2 44 44 0 (tv44 Oz.2.1) (show (44 ≠ 52 ∨ (0 ≠ 4 ∧ 0 ≠ 6 ∧ 0 ≠ 7)) ∧ (44 ≠ 56 ∨ 46 ≤ 0) by omega)).trans ((Oz.2.2 44 44 0 (tv44 hg3760) (show 44 ≠ 56 by omega)).trans ((ho3760 44 0 (Or.inl (by omega))).trans ((ho3758 44 0 (Or.inl (by omega))).trans ((ho3756 44 0 (Or.inl (by omega))).trans ((ho3754 44 0 (Or.inl (by omega))).trans ((ho3753 44 0 (Or.inl (by omega))).trans (ho3744 44 0 (Or.inl (by omega))))))))))))), fun j h1 h2 => ((ho3801 42 j (Or.inl (by omega))).trans ((O3776.2.2 42 42 j (tv42 O3774.2.1) (show (42 ≠ 52 ∨ (j ≠ 4 ∧ j ≠ 6 ∧ j ≠ 7)) ∧ (42 ≠ 56 ∨ j < 46) by omega)).trans ((O3774.2.2 42 42 j (tv42 O3773.2.1) (show 42 ≠ 52 ∨ (j ≠ 4 ∧ j ≠ 6 ∧ j ≠ 7) by omega)).trans ((O3773.2.2 42 42 j (tv42 Oz.2.1) (show (42 ≠ 52 ∨ (j ≠ 4 ∧ j ≠ 6 ∧ j ≠ 7)) ∧ (42 ≠ 56 ∨ 46 ≤ j) by omega)).trans ((Oz.2.2 42 42 j (tv42 hg3760) (show 42 ≠ 56 by omega)).trans ((ho3760 42 j (Or.inl (by omega))).trans ((ho3758 42 j (Or.inl (by omega))).trans ((ho3756 42 j (Or.inl (by omega))).trans ((ho3754 42 j (Or.inl (by omega))).trans ((ho3753 42 j (Or.inl (by omega))).trans (ho3744 42 j (Or.inl (by omega))))))))))))), fun j => ((ho3801 51 j (Or.inl (by omega))).trans ((O3776.2.2 51 51 j (tv51 O3774.2.1) (show (51 ≠ 52 ∨ (j ≠ 4 ∧ j ≠ 6 ∧ j ≠ 7)) ∧ (51 ≠ 56 ∨ j < 46) by omega)).trans ((O3774.2.2 51 51 j (tv51 O3773.2.1) (show 51 ≠ 52 ∨ (j ≠ 4 ∧ j ≠ 6 ∧ j ≠ 7) by omega)).trans ((O3773.2.2 51 51 j (tv51 Oz.2.1) (show (51 ≠ 52 ∨ (j ≠ 4 ∧ j ≠ 6 ∧ j ≠ 7)) ∧ (51 ≠ 56 ∨ 46 ≤ j) by omega)).trans ((Oz.2.2 51 51 j (tv51 hg3760) (show 51 ≠ 56 by omega)).trans ((ho3760 51 j (Or.inl (by omega))).trans ((ho3758 51 j (Or.inl (by omega))).trans ((ho3756 51 j (Or.inl (by omega))).trans ((ho3754 51 j (Or.inl (by omega))).trans ((ho3753 51 j (Or.inl (by omega))).trans (ho3744 51 j (Or.inl (by omega)))))))))))))⟩, ((ho3801 42 5 (Or.inl (by omega))).trans ((O3776.2.2 42 42 5 (tv42 O3774.2.1) (show (42 ≠ 52 ∨ (5 ≠ 4 ∧ 5 ≠ 6 ∧ 5 ≠ 7)) ∧ (42 ≠ 56 ∨ 5 < 46) by omega)).trans ((O3774.2.2 42 42 5 (tv42 O3773.2.1) (show 42 ≠ 52 ∨ (5 ≠ 4 ∧ 5 ≠ 6 ∧ 5 ≠ 7) by omega)).trans ((O3773.2.2 42 42 5 (tv42 Oz.2.1) (show (42 ≠ 52 ∨ (5 ≠ 4 ∧ 5 ≠ 6 ∧ 5 ≠ 7)) ∧ (42 ≠ 56 ∨ 46 ≤ 5) by omega)).trans ((Oz.2.2 42 42 5 (tv42 hg3760) (show 42 ≠ 56 by omega)).trans ((ho3760 42 5 (Or.inl (by omega))).trans ((ho3758 42 5 (Or.inl (by omega))).trans ((ho3756 42 5 (Or.inl (by omega))).trans ((ho3754 42 5 (Or.inl (by omega))).trans ((ho3753 42 5 (Or.inl (by omega))).trans (ho3744 42 5 (Or.inl (by omega))))))))))))), ⟨fun j h1 h2 => ((ho3801 52 j (Or.inr (by omega))).trans ((O3776.2.2 52 52 j (t52 O3774.2.1) (show (52 ≠ 52 ∨ (j ≠ 4 ∧ j ≠ 6 ∧ j ≠ 7)) ∧ (52 ≠ 56 ∨ j < 46) by omega)).trans ((O3774.2.2 52 52 j (t52 O3773.2.1) (show 52 ≠ 52 ∨ (j ≠ 4 ∧ j ≠ 6 ∧ j ≠ 7) by omega)).trans ((O3773.2.2 52 52 j (t52 Oz.2.1) (show (52 ≠ 52 ∨ (j ≠ 4 ∧ j ≠ 6 ∧ j ≠ 7)) ∧ (52 ≠ 56 ∨ 46 ≤ j) by omega)).trans ((Oz.2.2 52 52 j (t52 hg3760) (show 52 ≠ 56 by omega)).trans ((ho3760 52 j (Or.inr (by omega))).trans ((ho3758 52 j (Or.inr (by omega))).trans ((ho3756 52 j (Or.inr (by omega))).trans ((ho3754 52 j (Or.inr (by omega))).trans ((ho3753 52 j (Or.inr (by omega))).trans (ho3744 52 j (Or.inr (by omega))))))))))))), fun j => ((ho3801 387 j (Or.inl (by omega))).trans ((O3776.2.2 387 387 j (tu387 O3774.2.1) (show (387 ≠ 52 ∨ (j ≠ 4 ∧ j ≠ 6 ∧ j ≠ 7)) ∧ (387 ≠ 56 ∨ j < 46) by omega)).trans ((O3774.2.2 387 387 j (tu387 O3773.2.1) (show 387 ≠ 52 ∨ (j ≠ 4 ∧ j ≠ 6 ∧ j ≠ 7) by omega)).trans ((O3773.2.2 387 387 j (tu387 Oz.2.1) (show (387 ≠ 52 ∨ (j ≠ 4 ∧ j ≠ 6 ∧ j ≠ 7)) ∧ (387 ≠ 56 ∨ 46 ≤ j) by omega)).trans ((Oz.2.2 387 387 j (tu387 hg3760) (show 387 ≠ 56 by omega)).trans ((ho3760 387 j (Or.inl (by omega))).trans ((ho3758 387 j (Or.inl (by omega))).trans ((ho3756 387 j (Or.inl (by omega))).trans ((ho3754 387 j (Or.inl (by omega))).trans ((ho3753 387 j (Or.inl (by omega))).trans (ho3744 387 j (Or.inl (by omega)))))))))))))⟩, Or.inl ⟨(by unfold wAll; simp only [e3773, e3774, e3776]; exact ⟨_, rfl⟩), ((ho3801 52 47 (Or.inr (by omega))).trans ((O3776.2.2 52 52 47 (t52 O3774.2.1) (show (52 ≠ 52 ∨ (47 ≠ 4 ∧ 47 ≠ 6 ∧ 47 ≠ 7)) ∧ (52 ≠ 56 ∨ 47 < 46) by omega)).trans ((O3774.2.2 52 52 47 (t52 O3773.2.1) (show 52 ≠ 52 ∨ (47 ≠ 4 ∧ 47 ≠ 6 ∧ 47 ≠ 7) by omega)).trans ((O3773.2.2 52 52 47 (t52 Oz.2.1) (show (52 ≠ 52 ∨ (47 ≠ 4 ∧ 47 ≠ 6 ∧ 47 ≠ 7)) ∧ (52 ≠ 56 ∨ 46 ≤ 47) by omega)).trans ((Oz.2.2 52 52 47 (t52 hg3760) (show 52 ≠ 56 by omega)).trans ((ho3760 52 47 (Or.inr (by omega))).trans ((ho3758 52 47 (Or.inr (by omega))).trans ((ho3756 52 47 (Or.inr (by omega))).trans ((ho3754 52 47 (Or.inr (by omega))).trans ((ho3753 52 47 (Or.inr (by omega))).trans (ho3744 52 47 (Or.inr (by omega)))))))))))))⟩⟩
    ·
      have sl3774 := sk_le (b := b) (n := n) (a := a3773) (by omega)
      obtain ⟨⟨xn3774n, hn3774n, en3774n⟩, ⟨xa3774n, ha3774n, ea3774n⟩, hb3774n, -⟩ := id r3774
      obtain ⟨⟨xf3774n, hf3774n, ef3774n⟩, xw3774n, hw3774n, ew3774n⟩ := id f3774
      refine y_same (i := .aload_n 0) (len := 1) (r := (0, 0, 0, 0)) (pc' := 91) (ls' := [some (.inl (some 52)), some (zi xn), some (zi xz)]) (st' := [.inl (some 52)]) (by decide +kernel) (fun k q => by cases q) rfl ?_
      refine y_ic (c := 1) (len := 1) (r := (0, 0, 0, 0)) (by decide +kernel) (by decide) (fun y3806 hy3806 => ?_)
      refine y_cV (i := .invokevirtual 208) (len := 3) (r := (0, 182, 12, 1493)) (nL := 2) (k := 0) (n := 2) (hs := []) (args := [.inl (some 52), zi y3806]) (rest := []) (l0 := [some (.inl (some 52)), some (zi y3806)]) (by decide +kernel) (Or.inr (Or.inl ⟨_, rfl⟩)) rfl rfl rfl rfl (Nat.le_of_ble_eq_true rfl) (z52 O3774.2.1) rfl (qV_le (by decide) (s_side O3774.2.1 r3774 (by omega) f3774 (by omega))) (fun h3807 hR3807 => ?_)
      obtain ⟨τ3807, O3807, a3807, le3807, rd3807, ft3807⟩ := hR3807
      obtain ⟨⟨xn3807, hn3807, en3807⟩, ⟨xa3807, ha3807, ea3807⟩, hb3807, -⟩ := id rd3807
      obtain ⟨⟨xf3807, hf3807, ef3807⟩, xw3807, hw3807, ew3807⟩ := id ft3807
      refine y_same (i := .aload_n 0) (len := 1) (r := (0, 0, 0, 0)) (pc' := 96) (ls' := [some (.inl (some 52)), some (zi xn), some (zi xz)]) (st' := [.inl (some 52)]) (by decide +kernel) (fun k q => by cases q) rfl ?_
      refine y_cI (i := .invokevirtual 114) (len := 3) (r := (0, 172, 12, 1502)) (nL := 1) (k := 2) (n := 1) (hs := []) (args := [.inl (some 52)]) (rest := []) (l0 := [some (.inl (some 52))]) (by decide +kernel) (Or.inr (Or.inl ⟨_, rfl⟩)) rfl rfl rfl rfl (Nat.le_of_ble_eq_true rfl) (z52 O3807.2.1) rfl (qI_le (by decide) (m_fine (d := 0) O3807.2.1 ft3807)) (fun y3808 qy3808 hRy3808 => ?_)
      obtain ⟨rfl, gy3808, by3808⟩ := hRy3808
      have hy3808 : y3808.toInt = 0 := by3808 (by omega)
      refine y_iT (c := .eq) (off := 20) (pc' := 119) (len := 3) (r := (0, 0, 0, 0)) (by decide +kernel) (acmpT (c := .eq) (by show _ = _; omega)) (by decide +kernel) ?_
      refine y_same (i := .aload_n 0) (len := 1) (r := (0, 0, 0, 0)) (pc' := 120) (ls' := [some (.inl (some 52)), some (zi xn), some (zi xz)]) (st' := [.inl (some 52)]) (by decide +kernel) (fun k q => by cases q) rfl ?_
      refine y_same (i := .aload_n 0) (len := 1) (r := (0, 0, 0, 0)) (pc' := 121) (ls' := [some (.inl (some 52)), some (zi xn), some (zi xz)]) (st' := [.inl (some 52), .inl (some 52)]) (by decide +kernel) (fun k q => by cases q) rfl ?_
      refine y_get (j := 111) (len := 3) (r := (12, 7, 0, 1335)) (by decide +kernel) O3807.2.1 (t52 O3807.2.1) at52 rfl rfl hw3807 ?_
      refine y_put (j := 13) (lo := (-2147483648)) (hi := 2147483647) (len := 3) (r := (12, 5, 0, 1333)) (by decide +kernel) O3807.2.1 (t52 O3807.2.1) at52 rfl rfl (by decide) rfl (qin_full _).1 (qin_full _).2 rfl (fun h3809 hg3809 hl3809 hs3809 ho3809 => ?_)
      have ho3809 : hO 52 5 h3807 h3809 := ho3809
      have hs3809 : hsl h3809 52 5 = some (zi xw3807) := hs3809
      refine y_same (i := .aload_n 0) (len := 1) (r := (0, 0, 0, 0)) (pc' := 128) (ls' := [some (.inl (some 52)), some (zi xn), some (zi xz)]) (st' := [.inl (some 52)]) (by decide +kernel) (fun k q => by cases q) rfl ?_
      refine y_cI (i := .invokevirtual 114) (len := 3) (r := (0, 172, 12, 1502)) (nL := 1) (k := 2) (n := 1) (hs := []) (args := [.inl (some 52)]) (rest := []) (l0 := [some (.inl (some 52))]) (by decide +kernel) (Or.inr (Or.inl ⟨_, rfl⟩)) rfl rfl rfl rfl (Nat.le_of_ble_eq_true rfl) (z52 hg3809) rfl (qI_le (by decide) (m_fine (d := 0) hg3809 (ftM_up ft3807 (ho3809 52 6 (Or.inr (by omega))) (ho3809 52 7 (Or.inr (by omega)))))) (fun y3810 qy3810 hRy3810 => ?_)
      obtain ⟨rfl, gy3810, by3810⟩ := hRy3810
      have hy3810 : y3810.toInt = 0 := by3810 (by omega)
      refine y_iF (c := .ne) (off := 11) (len := 3) (r := (0, 0, 0, 0)) (by decide +kernel) (acmpF (c := .ne) (by show _ = _; omega)) ?_
      refine y_same (i := .aload_n 0) (len := 1) (r := (0, 0, 0, 0)) (pc' := 135) (ls' := [some (.inl (some 52)), some (zi xn), some (zi xz)]) (st' := [.inl (some 52)]) (by decide +kernel) (fun k q => by cases q) rfl ?_
      have hv3811 := (ho3809 52 6 (Or.inr (by omega))).trans hf3807
      refine y_get (j := 108) (len := 3) (r := (12, 6, 0, 1334)) (by decide +kernel) hg3809 (t52 hg3809) at52 rfl rfl hv3811 ?_
      refine y_bi (c := 10) (len := 2) (r := (0, 0, 0, 0)) (by decide +kernel) (by decide) (fun y3812 hy3812 => ?_)
      refine y_bp (i := .isub) (f := fun x y => x - y) (len := 1) (r := (0, 0, 0, 0)) (by decide +kernel) rfl rfl (fun y3813 hy3813 => ?_)
      refine y_rI (len := 1) (r := (0, 0, 0, 0)) (nL := 3) (k := 1) (n9 := 2) (hs := []) (by decide +kernel) rfl rfl ?_
      exact ⟨⟨((ho3809 44 0 (Or.inl (by omega))).trans ((O3807.2.2 44 44 0 (tv44 O3774.2.1) (show 44 ≠ 52 ∨ 0 ≠ 4 by omega)).trans ((O3774.2.2 44 44 0 (tv44 O3773.2.1) (show 44 ≠ 52 ∨ (0 ≠ 4 ∧ 0 ≠ 6 ∧ 0 ≠ 7) by omega)).trans ((O3773.2.2 44 44 0 (tv44 Oz.2.1) (show (44 ≠ 52 ∨ (0 ≠ 4 ∧ 0 ≠ 6 ∧ 0 ≠ 7)) ∧ (44 ≠ 56 ∨ 46 ≤ 0) by omega)).trans ((Oz.2.2 44 44 0 (tv44 hg3760) (show 44 ≠ 56 by omega)).trans ((ho3760 44 0 (Or.inl (by omega))).trans ((ho3758 44 0 (Or.inl (by omega))).trans ((ho3756 44 0 (Or.inl (by omega))).trans ((ho3754 44 0 (Or.inl (by omega))).trans ((ho3753 44 0 (Or.inl (by omega))).trans (ho3744 44 0 (Or.inl (by omega))))))))))))), fun j h1 h2 => ((ho3809 42 j (Or.inl (by omega))).trans ((O3807.2.2 42 42 j (tv42 O3774.2.1) (show 42 ≠ 52 ∨ j ≠ 4 by omega)).trans ((O3774.2.2 42 42 j (tv42 O3773.2.1) (show 42 ≠ 52 ∨ (j ≠ 4 ∧ j ≠ 6 ∧ j ≠ 7) by omega)).trans ((O3773.2.2 42 42 j (tv42 Oz.2.1) (show (42 ≠ 52 ∨ (j ≠ 4 ∧ j ≠ 6 ∧ j ≠ 7)) ∧ (42 ≠ 56 ∨ 46 ≤ j) by omega)).trans ((Oz.2.2 42 42 j (tv42 hg3760) (show 42 ≠ 56 by omega)).trans ((ho3760 42 j (Or.inl (by omega))).trans ((ho3758 42 j (Or.inl (by omega))).trans ((ho3756 42 j (Or.inl (by omega))).trans ((ho3754 42 j (Or.inl (by omega))).trans ((ho3753 42 j (Or.inl (by omega))).trans (ho3744 42 j (Or.inl (by omega))))))))))))), fun j => ((ho3809 51 j (Or.inl (by omega))).trans ((O3807.2.2 51 51 j (tv51 O3774.2.1) (show 51 ≠ 52 ∨ j ≠ 4 by omega)).trans ((O3774.2.2 51 51 j (tv51 O3773.2.1) (show 51 ≠ 52 ∨ (j ≠ 4 ∧ j ≠ 6 ∧ j ≠ 7) by omega)).trans ((O3773.2.2 51 51 j (tv51 Oz.2.1) (show (51 ≠ 52 ∨ (j ≠ 4 ∧ j ≠ 6 ∧ j ≠ 7)) ∧ (51 ≠ 56 ∨ 46 ≤ j) by omega)).trans ((Oz.2.2 51 51 j (tv51 hg3760) (show 51 ≠ 56 by omega)).trans ((ho3760 51 j (Or.inl (by omega))).trans ((ho3758 51 j (Or.inl (by omega))).trans ((ho3756 51 j (Or.inl (by omega))).trans ((ho3754 51 j (Or.inl (by omega))).trans ((ho3753 51 j (Or.inl (by omega))).trans (ho3744 51 j (Or.inl (by omega)))))))))))))⟩, ((ho3809 42 5 (Or.inl (by omega))).trans ((O3807.2.2 42 42 5 (tv42 O3774.2.1) (show 42 ≠ 52 ∨ 5 ≠ 4 by omega)).trans ((O3774.2.2 42 42 5 (tv42 O3773.2.1) (show 42 ≠ 52 ∨ (5 ≠ 4 ∧ 5 ≠ 6 ∧ 5 ≠ 7) by omega)).trans ((O3773.2.2 42 42 5 (tv42 Oz.2.1) (show (42 ≠ 52 ∨ (5 ≠ 4 ∧ 5 ≠ 6 ∧ 5 ≠ 7)) ∧ (42 ≠ 56 ∨ 46 ≤ 5) by omega)).trans ((Oz.2.2 42 42 5 (tv42 hg3760) (show 42 ≠ 56 by omega)).trans ((ho3760 42 5 (Or.inl (by omega))).trans ((ho3758 42 5 (Or.inl (by omega))).trans ((ho3756 42 5 (Or.inl (by omega))).trans ((ho3754 42 5 (Or.inl (by omega))).trans ((ho3753 42 5 (Or.inl (by omega))).trans (ho3744 42 5 (Or.inl (by omega))))))))))))), ⟨fun j h1 h2 => ((ho3809 52 j (Or.inr (by omega))).trans ((O3807.2.2 52 52 j (t52 O3774.2.1) (show 52 ≠ 52 ∨ j ≠ 4 by omega)).trans ((O3774.2.2 52 52 j (t52 O3773.2.1) (show 52 ≠ 52 ∨ (j ≠ 4 ∧ j ≠ 6 ∧ j ≠ 7) by omega)).trans ((O3773.2.2 52 52 j (t52 Oz.2.1) (show (52 ≠ 52 ∨ (j ≠ 4 ∧ j ≠ 6 ∧ j ≠ 7)) ∧ (52 ≠ 56 ∨ 46 ≤ j) by omega)).trans ((Oz.2.2 52 52 j (t52 hg3760) (show 52 ≠ 56 by omega)).trans ((ho3760 52 j (Or.inr (by omega))).trans ((ho3758 52 j (Or.inr (by omega))).trans ((ho3756 52 j (Or.inr (by omega))).trans ((ho3754 52 j (Or.inr (by omega))).trans ((ho3753 52 j (Or.inr (by omega))).trans (ho3744 52 j (Or.inr (by omega))))))))))))), fun j => ((ho3809 387 j (Or.inl (by omega))).trans ((O3807.2.2 387 387 j (tu387 O3774.2.1) (show 387 ≠ 52 ∨ j ≠ 4 by omega)).trans ((O3774.2.2 387 387 j (tu387 O3773.2.1) (show 387 ≠ 52 ∨ (j ≠ 4 ∧ j ≠ 6 ∧ j ≠ 7) by omega)).trans ((O3773.2.2 387 387 j (tu387 Oz.2.1) (show (387 ≠ 52 ∨ (j ≠ 4 ∧ j ≠ 6 ∧ j ≠ 7)) ∧ (387 ≠ 56 ∨ 46 ≤ j) by omega)).trans ((Oz.2.2 387 387 j (tu387 hg3760) (show 387 ≠ 56 by omega)).trans ((ho3760 387 j (Or.inl (by omega))).trans ((ho3758 387 j (Or.inl (by omega))).trans ((ho3756 387 j (Or.inl (by omega))).trans ((ho3754 387 j (Or.inl (by omega))).trans ((ho3753 387 j (Or.inl (by omega))).trans (ho3744 387 j (Or.inl (by omega)))))))))))))⟩, Or.inl ⟨(by unfold wAll; simp only [e3773, e3774]; exact ⟨_, rfl⟩), ((ho3809 52 47 (Or.inr (by omega))).trans ((O3807.2.2 52 52 47 (t52 O3774.2.1) (show 52 ≠ 52 ∨ 47 ≠ 4 by omega)).trans ((O3774.2.2 52 52 47 (t52 O3773.2.1) (show 52 ≠ 52 ∨ (47 ≠ 4 ∧ 47 ≠ 6 ∧ 47 ≠ 7) by omega)).trans ((O3773.2.2 52 52 47 (t52 Oz.2.1) (show (52 ≠ 52 ∨ (47 ≠ 4 ∧ 47 ≠ 6 ∧ 47 ≠ 7)) ∧ (52 ≠ 56 ∨ 46 ≤ 47) by omega)).trans ((Oz.2.2 52 52 47 (t52 hg3760) (show 52 ≠ 56 by omega)).trans ((ho3760 52 47 (Or.inr (by omega))).trans ((ho3758 52 47 (Or.inr (by omega))).trans ((ho3756 52 47 (Or.inr (by omega))).trans ((ho3754 52 47 (Or.inr (by omega))).trans ((ho3753 52 47 (Or.inr (by omega))).trans (ho3744 52 47 (Or.inr (by omega)))))))))))))⟩⟩
  ·
    obtain ⟨⟨xn3773n, hn3773n, en3773n⟩, ⟨xa3773n, ha3773n, ea3773n⟩, hb3773n, -⟩ := id rd3773
    obtain ⟨⟨xf3773n, hf3773n, ef3773n⟩, xw3773n, hw3773n, ew3773n⟩ := id ft3773
    refine y_same (i := .aload_n 0) (len := 1) (r := (0, 0, 0, 0)) (pc' := 85) (ls' := [some (.inl (some 52)), some (zi xn), some (zi xz)]) (st' := [.inl (some 52)]) (by decide +kernel) (fun k q => by cases q) rfl ?_
    refine y_same (i := .ldc 211) (len := 2) (r := (1, 21, 1567, 0)) (pc' := 87) (ls' := [some (.inl (some 52)), some (zi xn), some (zi xz)]) (st' := [.inl (some 2000021), .inl (some 52)]) (by decide +kernel) (fun k q => by cases q) rfl ?_
    refine y_cV (i := .invokevirtual 165) (len := 3) (r := (0, 176, 12, 1525)) (nL := 2) (k := 0) (n := 2) (hs := []) (args := [.inl (some 52), .inl (some 2000021)]) (rest := []) (l0 := [some (.inl (some 52)), some (.inl (some 2000021))]) (by decide +kernel) (Or.inr (Or.inl ⟨_, rfl⟩)) rfl rfl rfl rfl (Nat.le_of_ble_eq_true rfl) (z52 O3773.2.1) rfl (qV_le (by decide) (s_must21 O3773.2.1 ft3773 (by omega))) (fun q3814 hR3814 => ?_)
    obtain rfl := hR3814
    refine y_same (i := .aload_n 0) (len := 1) (r := (0, 0, 0, 0)) (pc' := 91) (ls' := [some (.inl (some 52)), some (zi xn), some (zi xz)]) (st' := [.inl (some 52)]) (by decide +kernel) (fun k q => by cases q) rfl ?_
    refine y_ic (c := 1) (len := 1) (r := (0, 0, 0, 0)) (by decide +kernel) (by decide) (fun y3815 hy3815 => ?_)
    refine y_cV (i := .invokevirtual 208) (len := 3) (r := (0, 182, 12, 1493)) (nL := 2) (k := 0) (n := 2) (hs := []) (args := [.inl (some 52), zi y3815]) (rest := []) (l0 := [some (.inl (some 52)), some (zi y3815)]) (by decide +kernel) (Or.inr (Or.inl ⟨_, rfl⟩)) rfl rfl rfl rfl (Nat.le_of_ble_eq_true rfl) (z52 O3773.2.1) rfl (qV_le (by decide) (s_side O3773.2.1 rd3773 (by omega) ft3773 (by omega))) (fun h3816 hR3816 => ?_)
    obtain ⟨τ3816, O3816, a3816, le3816, rd3816, ft3816⟩ := hR3816
    obtain ⟨⟨xn3816, hn3816, en3816⟩, ⟨xa3816, ha3816, ea3816⟩, hb3816, -⟩ := id rd3816
    obtain ⟨⟨xf3816, hf3816, ef3816⟩, xw3816, hw3816, ew3816⟩ := id ft3816
    refine y_same (i := .aload_n 0) (len := 1) (r := (0, 0, 0, 0)) (pc' := 96) (ls' := [some (.inl (some 52)), some (zi xn), some (zi xz)]) (st' := [.inl (some 52)]) (by decide +kernel) (fun k q => by cases q) rfl ?_
    refine y_cI (i := .invokevirtual 114) (len := 3) (r := (0, 172, 12, 1502)) (nL := 1) (k := 2) (n := 1) (hs := []) (args := [.inl (some 52)]) (rest := []) (l0 := [some (.inl (some 52))]) (by decide +kernel) (Or.inr (Or.inl ⟨_, rfl⟩)) rfl rfl rfl rfl (Nat.le_of_ble_eq_true rfl) (z52 O3816.2.1) rfl (qI_le (by decide) (m_fine (d := 0) O3816.2.1 ft3816)) (fun y3817 qy3817 hRy3817 => ?_)
    obtain ⟨rfl, gy3817, by3817⟩ := hRy3817
    have hy3817 : y3817.toInt = 0 := by3817 (by omega)
    refine y_iT (c := .eq) (off := 20) (pc' := 119) (len := 3) (r := (0, 0, 0, 0)) (by decide +kernel) (acmpT (c := .eq) (by show _ = _; omega)) (by decide +kernel) ?_
    refine y_same (i := .aload_n 0) (len := 1) (r := (0, 0, 0, 0)) (pc' := 120) (ls' := [some (.inl (some 52)), some (zi xn), some (zi xz)]) (st' := [.inl (some 52)]) (by decide +kernel) (fun k q => by cases q) rfl ?_
    refine y_same (i := .aload_n 0) (len := 1) (r := (0, 0, 0, 0)) (pc' := 121) (ls' := [some (.inl (some 52)), some (zi xn), some (zi xz)]) (st' := [.inl (some 52), .inl (some 52)]) (by decide +kernel) (fun k q => by cases q) rfl ?_
    refine y_get (j := 111) (len := 3) (r := (12, 7, 0, 1335)) (by decide +kernel) O3816.2.1 (t52 O3816.2.1) at52 rfl rfl hw3816 ?_
    refine y_put (j := 13) (lo := (-2147483648)) (hi := 2147483647) (len := 3) (r := (12, 5, 0, 1333)) (by decide +kernel) O3816.2.1 (t52 O3816.2.1) at52 rfl rfl (by decide) rfl (qin_full _).1 (qin_full _).2 rfl (fun h3818 hg3818 hl3818 hs3818 ho3818 => ?_)
    have ho3818 : hO 52 5 h3816 h3818 := ho3818
    have hs3818 : hsl h3818 52 5 = some (zi xw3816) := hs3818
    refine y_same (i := .aload_n 0) (len := 1) (r := (0, 0, 0, 0)) (pc' := 128) (ls' := [some (.inl (some 52)), some (zi xn), some (zi xz)]) (st' := [.inl (some 52)]) (by decide +kernel) (fun k q => by cases q) rfl ?_
    refine y_cI (i := .invokevirtual 114) (len := 3) (r := (0, 172, 12, 1502)) (nL := 1) (k := 2) (n := 1) (hs := []) (args := [.inl (some 52)]) (rest := []) (l0 := [some (.inl (some 52))]) (by decide +kernel) (Or.inr (Or.inl ⟨_, rfl⟩)) rfl rfl rfl rfl (Nat.le_of_ble_eq_true rfl) (z52 hg3818) rfl (qI_le (by decide) (m_fine (d := 0) hg3818 (ftM_up ft3816 (ho3818 52 6 (Or.inr (by omega))) (ho3818 52 7 (Or.inr (by omega)))))) (fun y3819 qy3819 hRy3819 => ?_)
    obtain ⟨rfl, gy3819, by3819⟩ := hRy3819
    have hy3819 : y3819.toInt = 0 := by3819 (by omega)
    refine y_iF (c := .ne) (off := 11) (len := 3) (r := (0, 0, 0, 0)) (by decide +kernel) (acmpF (c := .ne) (by show _ = _; omega)) ?_
    refine y_same (i := .aload_n 0) (len := 1) (r := (0, 0, 0, 0)) (pc' := 135) (ls' := [some (.inl (some 52)), some (zi xn), some (zi xz)]) (st' := [.inl (some 52)]) (by decide +kernel) (fun k q => by cases q) rfl ?_
    have hv3820 := (ho3818 52 6 (Or.inr (by omega))).trans hf3816
    refine y_get (j := 108) (len := 3) (r := (12, 6, 0, 1334)) (by decide +kernel) hg3818 (t52 hg3818) at52 rfl rfl hv3820 ?_
    refine y_bi (c := 10) (len := 2) (r := (0, 0, 0, 0)) (by decide +kernel) (by decide) (fun y3821 hy3821 => ?_)
    refine y_bp (i := .isub) (f := fun x y => x - y) (len := 1) (r := (0, 0, 0, 0)) (by decide +kernel) rfl rfl (fun y3822 hy3822 => ?_)
    refine y_rI (len := 1) (r := (0, 0, 0, 0)) (nL := 3) (k := 1) (n9 := 2) (hs := []) (by decide +kernel) rfl rfl ?_
    exact ⟨⟨((ho3818 44 0 (Or.inl (by omega))).trans ((O3816.2.2 44 44 0 (tv44 O3773.2.1) (show 44 ≠ 52 ∨ 0 ≠ 4 by omega)).trans ((O3773.2.2 44 44 0 (tv44 Oz.2.1) (show (44 ≠ 52 ∨ (0 ≠ 4 ∧ 0 ≠ 6 ∧ 0 ≠ 7)) ∧ (44 ≠ 56 ∨ 46 ≤ 0) by omega)).trans ((Oz.2.2 44 44 0 (tv44 hg3760) (show 44 ≠ 56 by omega)).trans ((ho3760 44 0 (Or.inl (by omega))).trans ((ho3758 44 0 (Or.inl (by omega))).trans ((ho3756 44 0 (Or.inl (by omega))).trans ((ho3754 44 0 (Or.inl (by omega))).trans ((ho3753 44 0 (Or.inl (by omega))).trans (ho3744 44 0 (Or.inl (by omega)))))))))))), fun j h1 h2 => ((ho3818 42 j (Or.inl (by omega))).trans ((O3816.2.2 42 42 j (tv42 O3773.2.1) (show 42 ≠ 52 ∨ j ≠ 4 by omega)).trans ((O3773.2.2 42 42 j (tv42 Oz.2.1) (show (42 ≠ 52 ∨ (j ≠ 4 ∧ j ≠ 6 ∧ j ≠ 7)) ∧ (42 ≠ 56 ∨ 46 ≤ j) by omega)).trans ((Oz.2.2 42 42 j (tv42 hg3760) (show 42 ≠ 56 by omega)).trans ((ho3760 42 j (Or.inl (by omega))).trans ((ho3758 42 j (Or.inl (by omega))).trans ((ho3756 42 j (Or.inl (by omega))).trans ((ho3754 42 j (Or.inl (by omega))).trans ((ho3753 42 j (Or.inl (by omega))).trans (ho3744 42 j (Or.inl (by omega)))))))))))), fun j => ((ho3818 51 j (Or.inl (by omega))).trans ((O3816.2.2 51 51 j (tv51 O3773.2.1) (show 51 ≠ 52 ∨ j ≠ 4 by omega)).trans ((O3773.2.2 51 51 j (tv51 Oz.2.1) (show (51 ≠ 52 ∨ (j ≠ 4 ∧ j ≠ 6 ∧ j ≠ 7)) ∧ (51 ≠ 56 ∨ 46 ≤ j) by omega)).trans ((Oz.2.2 51 51 j (tv51 hg3760) (show 51 ≠ 56 by omega)).trans ((ho3760 51 j (Or.inl (by omega))).trans ((ho3758 51 j (Or.inl (by omega))).trans ((ho3756 51 j (Or.inl (by omega))).trans ((ho3754 51 j (Or.inl (by omega))).trans ((ho3753 51 j (Or.inl (by omega))).trans (ho3744 51 j (Or.inl (by omega))))))))))))⟩, ((ho3818 42 5 (Or.inl (by omega))).trans ((O3816.2.2 42 42 5 (tv42 O3773.2.1) (show 42 ≠ 52 ∨ 5 ≠ 4 by omega)).trans ((O3773.2.2 42 42 5 (tv42 Oz.2.1) (show (42 ≠ 52 ∨ (5 ≠ 4 ∧ 5 ≠ 6 ∧ 5 ≠ 7)) ∧ (42 ≠ 56 ∨ 46 ≤ 5) by omega)).trans ((Oz.2.2 42 42 5 (tv42 hg3760) (show 42 ≠ 56 by omega)).trans ((ho3760 42 5 (Or.inl (by omega))).trans ((ho3758 42 5 (Or.inl (by omega))).trans ((ho3756 42 5 (Or.inl (by omega))).trans ((ho3754 42 5 (Or.inl (by omega))).trans ((ho3753 42 5 (Or.inl (by omega))).trans (ho3744 42 5 (Or.inl (by omega)))))))))))), ⟨fun j h1 h2 => ((ho3818 52 j (Or.inr (by omega))).trans ((O3816.2.2 52 52 j (t52 O3773.2.1) (show 52 ≠ 52 ∨ j ≠ 4 by omega)).trans ((O3773.2.2 52 52 j (t52 Oz.2.1) (show (52 ≠ 52 ∨ (j ≠ 4 ∧ j ≠ 6 ∧ j ≠ 7)) ∧ (52 ≠ 56 ∨ 46 ≤ j) by omega)).trans ((Oz.2.2 52 52 j (t52 hg3760) (show 52 ≠ 56 by omega)).trans ((ho3760 52 j (Or.inr (by omega))).trans ((ho3758 52 j (Or.inr (by omega))).trans ((ho3756 52 j (Or.inr (by omega))).trans ((ho3754 52 j (Or.inr (by omega))).trans ((ho3753 52 j (Or.inr (by omega))).trans (ho3744 52 j (Or.inr (by omega)))))))))))), fun j => ((ho3818 387 j (Or.inl (by omega))).trans ((O3816.2.2 387 387 j (tu387 O3773.2.1) (show 387 ≠ 52 ∨ j ≠ 4 by omega)).trans ((O3773.2.2 387 387 j (tu387 Oz.2.1) (show (387 ≠ 52 ∨ (j ≠ 4 ∧ j ≠ 6 ∧ j ≠ 7)) ∧ (387 ≠ 56 ∨ 46 ≤ j) by omega)).trans ((Oz.2.2 387 387 j (tu387 hg3760) (show 387 ≠ 56 by omega)).trans ((ho3760 387 j (Or.inl (by omega))).trans ((ho3758 387 j (Or.inl (by omega))).trans ((ho3756 387 j (Or.inl (by omega))).trans ((ho3754 387 j (Or.inl (by omega))).trans ((ho3753 387 j (Or.inl (by omega))).trans (ho3744 387 j (Or.inl (by omega))))))))))))⟩, Or.inl ⟨(by unfold wAll; simp only [e3773]; exact ⟨_, rfl⟩), ((ho3818 52 47 (Or.inr (by omega))).trans ((O3816.2.2 52 52 47 (t52 O3773.2.1) (show 52 ≠ 52 ∨ 47 ≠ 4 by omega)).trans ((O3773.2.2 52 52 47 (t52 Oz.2.1) (show (52 ≠ 52 ∨ (47 ≠ 4 ∧ 47 ≠ 6 ∧ 47 ≠ 7)) ∧ (52 ≠ 56 ∨ 46 ≤ 47) by omega)).trans ((Oz.2.2 52 52 47 (t52 hg3760) (show 52 ≠ 56 by omega)).trans ((ho3760 52 47 (Or.inr (by omega))).trans ((ho3758 52 47 (Or.inr (by omega))).trans ((ho3756 52 47 (Or.inr (by omega))).trans ((ho3754 52 47 (Or.inr (by omega))).trans ((ho3753 52 47 (Or.inr (by omega))).trans (ho3744 52 47 (Or.inr (by omega))))))))))))⟩⟩
