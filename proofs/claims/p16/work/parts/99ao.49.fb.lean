/-! the answers that the model's acts forget -/
theorem m_remP {t : Nat} {τ : List Nat} {h : zh} {cur : bsT} {hs : List bsT} (hg : hG τ h) (rm : RM h cur hs) : qV 5 186 [some (.inl (some 52)), none] h t (fun h1 => ci_ h1 52 31 0) := by
  obtain ⟨b, r57, ⟨xc, hc, ec⟩, hl, hh⟩ := id rm
  have ec' : ∃ c : Nat, c = hs.length ∧ xc.toInt = (c : Int) := ⟨_, rfl, ec⟩
  obtain ⟨c, c9, ec⟩ := ec'
  refine qV_of ?_
  rcases Decidable.em (c = 10) with q | q
  ·
    refine y_same (i := .aload_n 0) (len := 1) (r := (0, 0, 0, 0)) (pc' := 1) (ls' := [some (.inl (some 52)), none]) (st' := [.inl (some 52)]) (by decide +kernel) (fun k q => by cases q) rfl ?_
    refine y_ic (c := 0) (len := 1) (r := (0, 0, 0, 0)) (by decide +kernel) (by decide) (fun y3472 hy3472 => ?_)
    refine y_put (j := 220) (lo := 0) (hi := 1) (len := 3) (r := (12, 31, 1, 1359)) (by decide +kernel) hg (t52 hg) at52 rfl rfl (by decide) rfl (by omega) (by omega) (zfit_b (by omega) (by omega)).1 (fun h3473 hg3473 hl3473 hs3473 ho3473 => ?_)
    have ho3473 : hO 52 31 h h3473 := ho3473
    have hs3473 : hsl h3473 52 31 = some (zi y3472) := hs3473
    refine y_same (i := .aload_n 0) (len := 1) (r := (0, 0, 0, 0)) (pc' := 6) (ls' := [some (.inl (some 52)), none]) (st' := [.inl (some 52)]) (by decide +kernel) (fun k q => by cases q) rfl ?_
    refine y_ic (c := 0) (len := 1) (r := (0, 0, 0, 0)) (by decide +kernel) (by decide) (fun y3474 hy3474 => ?_)
    refine y_put (j := 224) (lo := 0) (hi := 1) (len := 3) (r := (12, 47, 1, 1375)) (by decide +kernel) hg3473 (t52 hg3473) at52 rfl rfl (by decide) rfl (by omega) (by omega) (zfit_b (by omega) (by omega)).1 (fun h3475 hg3475 hl3475 hs3475 ho3475 => ?_)
    have ho3475 : hO 52 47 h3473 h3475 := ho3475
    have hs3475 : hsl h3475 52 47 = some (zi y3474) := hs3475
    refine y_same (i := .aload_n 0) (len := 1) (r := (0, 0, 0, 0)) (pc' := 11) (ls' := [some (.inl (some 52)), none]) (st' := [.inl (some 52)]) (by decide +kernel) (fun k q => by cases q) rfl ?_
    have hv3476 := (ho3473 52 12 (Or.inr (by omega))).trans hc
    have hv3477 := (ho3475 52 12 (Or.inr (by omega))).trans hv3476
    refine y_get (j := 227) (len := 3) (r := (12, 12, 0, 1340)) (by decide +kernel) hg3475 (t52 hg3475) at52 rfl rfl hv3477 ?_
    refine y_bi (c := 10) (len := 2) (r := (0, 0, 0, 0)) (by decide +kernel) (by decide) (fun y3478 hy3478 => ?_)
    refine y_cF (c := .ne) (off := 46) (len := 3) (r := (0, 0, 0, 0)) (by decide +kernel) (acmpF (c := .ne) (by show _ = _; omega)) ?_
    refine y_ic (c := 1) (len := 1) (r := (0, 0, 0, 0)) (by decide +kernel) (by decide) (fun y3479 hy3479 => ?_)
    refine y_same (i := .istore_n 1) (len := 1) (r := (0, 0, 0, 0)) (pc' := 21) (ls' := [some (.inl (some 52)), some (zi y3479)]) (st' := []) (by decide +kernel) (fun k q => by cases q) rfl ?_
    have hv3480 := (ho3475 52 31 (Or.inr (by omega))).trans hs3473
    refine rem_l (τ := τ) (h0 := h3475) (fun k hk => rfs_up (r57 k hk) ((ho3475 57 k (by omega)).trans (ho3473 57 k (by omega)))) (fun he xe ge b1 b2 => ?_) 9 h3475 1 y3479 hg3475 (fun j i hj => by omega) (fun j i _ => rfl) (fun k i _ => rfl) (by omega) (by omega) (by omega) (by omega)
    have hc2 : hsl he 52 12 = some (zi xc) := (b2 52 12 (by omega)).trans (((ho3475 52 12 (by omega)).trans (ho3473 52 12 (by omega))).trans hc)
    refine y_same (i := .aload_n 0) (len := 1) (r := (0, 0, 0, 0)) (pc' := 53) (ls' := [some (.inl (some 52)), some (zi xe)]) (st' := [.inl (some 52)]) (by decide +kernel) (fun k q => by cases q) rfl ?_
    refine y_same (i := .dup) (len := 1) (r := (0, 0, 0, 0)) (pc' := 54) (ls' := [some (.inl (some 52)), some (zi xe)]) (st' := [.inl (some 52), .inl (some 52)]) (by decide +kernel) (fun k q => by cases q) rfl ?_
    refine y_get (j := 227) (len := 3) (r := (12, 12, 0, 1340)) (by decide +kernel) ge (t52 ge) at52 rfl rfl hc2 ?_
    refine y_ic (c := 1) (len := 1) (r := (0, 0, 0, 0)) (by decide +kernel) (by decide) (fun y3462 hy3462 => ?_)
    refine y_sub (len := 1) (r := (0, 0, 0, 0)) (by decide +kernel) (by omega) (by omega) (fun y3463 hy3463 => ?_)
    refine y_put (j := 227) (lo := 0) (hi := 10) (len := 3) (r := (12, 12, 0, 1340)) (by decide +kernel) ge (t52 ge) at52 rfl rfl (by decide) rfl (by omega) (by omega) rfl (fun h3464 hg3464 hl3464 hs3464 ho3464 => ?_)
    have ho3464 : hO 52 12 he h3464 := ho3464
    have hs3464 : hsl h3464 52 12 = some (zi y3463) := hs3464
    refine qX_V (rem_2 (c := 9) hg3464 (fun k hk => rfs_up (r57 k hk) ((ho3464 57 k (by omega)).trans ((b2 57 k (by omega)).trans ((ho3475 57 k (by omega)).trans (ho3473 57 k (by omega)))))) hs3464 (by omega) (by omega)) (fun h1 hR => ?_)
    obtain ⟨g1, c1, c2, F⟩ := hR
    exact ⟨_, (F 52 31 (by omega)).trans ((ho3464 52 31 (by omega)).trans ((b2 52 31 (by omega)).trans hv3480)), by omega⟩
  ·
    refine y_same (i := .aload_n 0) (len := 1) (r := (0, 0, 0, 0)) (pc' := 1) (ls' := [some (.inl (some 52)), none]) (st' := [.inl (some 52)]) (by decide +kernel) (fun k q => by cases q) rfl ?_
    refine y_ic (c := 0) (len := 1) (r := (0, 0, 0, 0)) (by decide +kernel) (by decide) (fun y3465 hy3465 => ?_)
    refine y_put (j := 220) (lo := 0) (hi := 1) (len := 3) (r := (12, 31, 1, 1359)) (by decide +kernel) hg (t52 hg) at52 rfl rfl (by decide) rfl (by omega) (by omega) (zfit_b (by omega) (by omega)).1 (fun h3466 hg3466 hl3466 hs3466 ho3466 => ?_)
    have ho3466 : hO 52 31 h h3466 := ho3466
    have hs3466 : hsl h3466 52 31 = some (zi y3465) := hs3466
    refine y_same (i := .aload_n 0) (len := 1) (r := (0, 0, 0, 0)) (pc' := 6) (ls' := [some (.inl (some 52)), none]) (st' := [.inl (some 52)]) (by decide +kernel) (fun k q => by cases q) rfl ?_
    refine y_ic (c := 0) (len := 1) (r := (0, 0, 0, 0)) (by decide +kernel) (by decide) (fun y3467 hy3467 => ?_)
    refine y_put (j := 224) (lo := 0) (hi := 1) (len := 3) (r := (12, 47, 1, 1375)) (by decide +kernel) hg3466 (t52 hg3466) at52 rfl rfl (by decide) rfl (by omega) (by omega) (zfit_b (by omega) (by omega)).1 (fun h3468 hg3468 hl3468 hs3468 ho3468 => ?_)
    have ho3468 : hO 52 47 h3466 h3468 := ho3468
    have hs3468 : hsl h3468 52 47 = some (zi y3467) := hs3468
    refine y_same (i := .aload_n 0) (len := 1) (r := (0, 0, 0, 0)) (pc' := 11) (ls' := [some (.inl (some 52)), none]) (st' := [.inl (some 52)]) (by decide +kernel) (fun k q => by cases q) rfl ?_
    have hv3469 := (ho3466 52 12 (Or.inr (by omega))).trans hc
    have hv3470 := (ho3468 52 12 (Or.inr (by omega))).trans hv3469
    refine y_get (j := 227) (len := 3) (r := (12, 12, 0, 1340)) (by decide +kernel) hg3468 (t52 hg3468) at52 rfl rfl hv3470 ?_
    refine y_bi (c := 10) (len := 2) (r := (0, 0, 0, 0)) (by decide +kernel) (by decide) (fun y3471 hy3471 => ?_)
    refine y_cT (c := .ne) (off := 46) (pc' := 62) (len := 3) (r := (0, 0, 0, 0)) (by decide +kernel) (acmpT (c := .ne) (by show ¬ (_ = _); omega)) (by decide +kernel) ?_
    have hv3481 := (ho3468 52 31 (Or.inr (by omega))).trans hs3466
    refine qX_V (rem_2 (c := c) hg3468 (fun k hk => rfs_up (r57 k hk) ((ho3468 57 k (by omega)).trans (ho3466 57 k (by omega)))) hv3470 (by omega) (by omega)) (fun h1 hR => ?_)
    obtain ⟨g1, c1, c2, F⟩ := hR
    exact ⟨_, (F 52 31 (by omega)).trans hv3481, by omega⟩
theorem m_remQ {t : Nat} {τ : List Nat} {h : zh} {cur : bsT} {hs : List bsT} (hg : hG τ h) (rm : RM h cur hs) : qV 5 186 [some (.inl (some 52)), none] h t (fun h1 => (hG τ h1 ∧ RM h1 cur (psh hs cur) ∧ ∀ k j, ((k < 58 ∨ 67 < k) ∧ (k ≠ 52 ∨ (j ≠ 12 ∧ j ≠ 31 ∧ j ≠ 47))) → hsl h1 k j = hsl h k j) ∧ ci_ h1 52 31 0) := by
  obtain ⟨h1, e1, a⟩ := m_rem (t := t) hg rm
  obtain ⟨h2, e2, b⟩ := m_remP (t := t) hg rm
  have e9 := qE_det e1 e2
  cases e9
  exact ⟨h1, e1, a, b⟩
theorem jp_turnM {t : Nat} {τ : List Nat} {h : zh} {cur : bsT} {hs : List bsT} (hg : hG τ h) (rm : RM h cur hs) : qI 60 188 [some (.inl (some 52)), none, none] h t (fun y h1 => ci_ h1 52 31 0) := by
  refine qI_le (d := 21) (by decide) (qI_of ?_)
  refine y_same (i := .aload_n 0) (len := 1) (r := (0, 0, 0, 0)) (pc' := 1) (ls' := [some (.inl (some 52)), none, none]) (st' := [.inl (some 52)]) (by decide +kernel) (fun k q => by cases q) rfl ?_
  refine y_ic (c := 0) (len := 1) (r := (0, 0, 0, 0)) (by decide +kernel) (by decide) (fun y3482 hy3482 => ?_)
  refine y_put (j := 92) (lo := (-2147483648)) (hi := 2147483647) (len := 3) (r := (12, 0, 0, 1328)) (by decide +kernel) hg (t52 hg) at52 rfl rfl (by decide) rfl (qin_full _).1 (qin_full _).2 rfl (fun h3483 hg3483 hl3483 hs3483 ho3483 => ?_)
  have ho3483 : hO 52 0 h h3483 := ho3483
  have hs3483 : hsl h3483 52 0 = some (zi y3482) := hs3483
  refine y_same (i := .aload_n 0) (len := 1) (r := (0, 0, 0, 0)) (pc' := 6) (ls' := [some (.inl (some 52)), none, none]) (st' := [.inl (some 52)]) (by decide +kernel) (fun k q => by cases q) rfl ?_
  refine y_cV (i := .invokevirtual 213) (len := 3) (r := (0, 186, 12, 1568)) (nL := 2) (k := 0) (n := 1) (hs := []) (args := [.inl (some 52)]) (rest := []) (l0 := [some (.inl (some 52)), none]) (by decide +kernel) (Or.inr (Or.inl ⟨_, rfl⟩)) rfl rfl rfl rfl (Nat.le_of_ble_eq_true rfl) (z52 hg3483) rfl (qV_le (by decide) (m_remQ hg3483 (RM_up rm (fun k j h1 => (ho3483 k j (by omega)))))) (fun h3484 hR3484 => ?_)
  obtain ⟨⟨hg3484, rm3484, F3484⟩, jx3484, jh3484, je3484⟩ := hR3484
  have le3484 := len55 hg3484 rm3484.1
  obtain ⟨⟨xp03484, hp03484, ep03484⟩, ⟨xc03484, hc03484, ec03484⟩, ip03484, ic03484⟩ := rm3484.1.1
  obtain ⟨⟨xp13484, hp13484, ep13484⟩, ⟨xc13484, hc13484, ec13484⟩, ip13484, ic13484⟩ := rm3484.1.2
  refine y_ic (c := 0) (len := 1) (r := (0, 0, 0, 0)) (by decide +kernel) (by decide) (fun y3485 hy3485 => ?_)
  refine y_same (i := .istore_n 1) (len := 1) (r := (0, 0, 0, 0)) (pc' := 11) (ls' := [some (.inl (some 52)), some (zi y3485), none]) (st' := []) (by decide +kernel) (fun k q => by cases q) rfl ?_
  refine mt_l (τ := τ) (h0 := h3484) (fun he xe le ge b1 b2 => ?_) 46 h3484 0 y3485 _ hg3484 (fun j hj => absurd hj (Nat.not_lt_zero j)) (fun j _ _ => ⟨rfl, rfl⟩) (fun k i _ => rfl) (by omega) (by omega) (by omega)
  have rz : RM he (cur.2, cur.1) (psh hs cur) := RM_set rm3484 ⟨sdM_to rm3484.1.2 le3484.2.2.1 le3484.2.2.2 (fun j hj => by rw [Nat.zero_add]; exact (b1 j hj).1), sdM_to rm3484.1.1 le3484.1 le3484.2.1 (fun j hj => by rw [Nat.zero_add]; exact (b1 j hj).2)⟩ (fun k j hC => b2 k j (by omega))
  have lz := len55 ge rz.1
  simp only at lz
  obtain ⟨⟨xp0z, hp0z, ep0z⟩, ⟨xc0z, hc0z, ec0z⟩, ip0z, ic0z⟩ := rz.1.1
  obtain ⟨⟨xp1z, hp1z, ep1z⟩, ⟨xc1z, hc1z, ec1z⟩, ip1z, ic1z⟩ := rz.1.2
  simp only at ep0z ep1z
  refine y_same (i := .aload_n 0) (len := 1) (r := (0, 0, 0, 0)) (pc' := 56) (ls' := [some (.inl (some 52)), some (zi xe), le]) (st' := [.inl (some 52)]) (by decide +kernel) (fun k q => by cases q) rfl ?_
  refine y_get (j := 20) (len := 3) (r := (12, 9, 2, 1337)) (by decide +kernel) ge (t52 ge) at52 rfl rfl (g_r52 (f := 9) (T2 := 55) ge rfl (by decide)).1 ?_
  refine y_ic (c := 0) (len := 1) (r := (0, 0, 0, 0)) (by decide +kernel) (by decide) (fun y3486 hy3486 => ?_)
  refine y_cI (i := .invokestatic 143) (len := 3) (r := (1, 166, 12, 1543)) (nL := 2) (k := 1) (n := 2) (hs := []) (args := [.inl (some 55), zi y3486]) (rest := []) (l0 := [some (.inl (some 55)), some (zi y3486)]) (by decide +kernel) (Or.inl ⟨_, rfl⟩) rfl rfl rfl rfl (Nat.le_of_ble_eq_true rfl) rfl rfl (qI_le (by decide) (m_parts (d := 0) (s := 0) ge (by omega) (by omega) hp0z)) (fun y3487 qy3487 hRy3487 => ?_)
  obtain ⟨rfl, rfl⟩ := hRy3487
  refine y_same (i := .aload_n 0) (len := 1) (r := (0, 0, 0, 0)) (pc' := 64) (ls' := [some (.inl (some 52)), some (zi xe), le]) (st' := [.inl (some 52), zi xp0z]) (by decide +kernel) (fun k q => by cases q) rfl ?_
  refine y_get (j := 20) (len := 3) (r := (12, 9, 2, 1337)) (by decide +kernel) ge (t52 ge) at52 rfl rfl (g_r52 (f := 9) (T2 := 55) ge rfl (by decide)).1 ?_
  refine y_ic (c := 1) (len := 1) (r := (0, 0, 0, 0)) (by decide +kernel) (by decide) (fun y3488 hy3488 => ?_)
  refine y_cI (i := .invokestatic 143) (len := 3) (r := (1, 166, 12, 1543)) (nL := 2) (k := 1) (n := 2) (hs := []) (args := [.inl (some 55), zi y3488]) (rest := [zi xp0z]) (l0 := [some (.inl (some 55)), some (zi y3488)]) (by decide +kernel) (Or.inl ⟨_, rfl⟩) rfl rfl rfl rfl (Nat.le_of_ble_eq_true rfl) rfl rfl (qI_le (by decide) (m_parts (d := 0) (s := 1) ge (by omega) (by omega) hp1z)) (fun y3489 qy3489 hRy3489 => ?_)
  obtain ⟨rfl, rfl⟩ := hRy3489
  refine y_add (len := 1) (r := (0, 0, 0, 0)) (by decide +kernel) (by omega) (by omega) (fun y3490 hy3490 => ?_)
  refine y_rI (len := 1) (r := (0, 0, 0, 0)) (nL := 3) (k := 1) (n9 := 1) (hs := []) (by decide +kernel) rfl rfl ?_
  exact ⟨_, (b2 52 31 (by omega)).trans jh3484, by omega⟩
theorem jp_undoM {t : Nat} {τ : List Nat} {h : zh} {cur : bsT} {hs : List bsT} (hg : hG τ h) (rm : RM h cur hs) : qI 60 187 [some (.inl (some 52))] h t (fun y h1 => (hs = [] ∧ hsl h1 52 31 = hsl h 52 31) ∨ ci_ h1 52 31 0) := by
  obtain ⟨b0, r57, ⟨xc, hc, ec⟩, hl, hh⟩ := id rm
  refine qI_le (d := 21) (by decide) (qI_of ?_)
  rcases List.eq_nil_or_concat hs with e | ⟨hs', b, e⟩
  · subst e
    have ec : xc.toInt = 0 := ec
    refine y_same (i := .aload_n 0) (len := 1) (r := (0, 0, 0, 0)) (pc' := 1) (ls' := [some (.inl (some 52))]) (st' := [.inl (some 52)]) (by decide +kernel) (fun k q => by cases q) rfl ?_
    refine y_ic (c := 0) (len := 1) (r := (0, 0, 0, 0)) (by decide +kernel) (by decide) (fun y3491 hy3491 => ?_)
    refine y_put (j := 92) (lo := (-2147483648)) (hi := 2147483647) (len := 3) (r := (12, 0, 0, 1328)) (by decide +kernel) hg (t52 hg) at52 rfl rfl (by decide) rfl (qin_full _).1 (qin_full _).2 rfl (fun h3492 hg3492 hl3492 hs3492 ho3492 => ?_)
    have ho3492 : hO 52 0 h h3492 := ho3492
    have hs3492 : hsl h3492 52 0 = some (zi y3491) := hs3492
    refine y_same (i := .aload_n 0) (len := 1) (r := (0, 0, 0, 0)) (pc' := 6) (ls' := [some (.inl (some 52))]) (st' := [.inl (some 52)]) (by decide +kernel) (fun k q => by cases q) rfl ?_
    have hv3493 := (ho3492 52 12 (Or.inr (by omega))).trans hc
    refine y_get (j := 227) (len := 3) (r := (12, 12, 0, 1340)) (by decide +kernel) hg3492 (t52 hg3492) at52 rfl rfl hv3493 ?_
    refine y_iF (c := .ne) (off := 5) (len := 3) (r := (0, 0, 0, 0)) (by decide +kernel) (acmpF (c := .ne) (by show _ = _; omega)) ?_
    refine y_ic (c := (-1)) (len := 1) (r := (0, 0, 0, 0)) (by decide +kernel) (by decide) (fun y3494 hy3494 => ?_)
    refine y_rI (len := 1) (r := (0, 0, 0, 0)) (nL := 1) (k := 1) (n9 := 1) (hs := []) (by decide +kernel) rfl rfl ?_
    exact Or.inl ⟨rfl, (ho3492 52 31 (by omega))⟩
  · rw [List.concat_eq_append] at e
    subst e
    have hlen : (hs' ++ [b]).length = hs'.length + 1 := by rw [List.length_append]; rfl
    refine y_same (i := .aload_n 0) (len := 1) (r := (0, 0, 0, 0)) (pc' := 1) (ls' := [some (.inl (some 52))]) (st' := [.inl (some 52)]) (by decide +kernel) (fun k q => by cases q) rfl ?_
    refine y_ic (c := 0) (len := 1) (r := (0, 0, 0, 0)) (by decide +kernel) (by decide) (fun y3495 hy3495 => ?_)
    refine y_put (j := 92) (lo := (-2147483648)) (hi := 2147483647) (len := 3) (r := (12, 0, 0, 1328)) (by decide +kernel) hg (t52 hg) at52 rfl rfl (by decide) rfl (qin_full _).1 (qin_full _).2 rfl (fun h3496 hg3496 hl3496 hs3496 ho3496 => ?_)
    have ho3496 : hO 52 0 h h3496 := ho3496
    have hs3496 : hsl h3496 52 0 = some (zi y3495) := hs3496
    refine y_same (i := .aload_n 0) (len := 1) (r := (0, 0, 0, 0)) (pc' := 6) (ls' := [some (.inl (some 52))]) (st' := [.inl (some 52)]) (by decide +kernel) (fun k q => by cases q) rfl ?_
    have hv3497 := (ho3496 52 12 (Or.inr (by omega))).trans hc
    refine y_get (j := 227) (len := 3) (r := (12, 12, 0, 1340)) (by decide +kernel) hg3496 (t52 hg3496) at52 rfl rfl hv3497 ?_
    refine y_iT (c := .ne) (off := 5) (pc' := 14) (len := 3) (r := (0, 0, 0, 0)) (by decide +kernel) (acmpT (c := .ne) (by show ¬ (_ = _); omega)) (by decide +kernel) ?_
    refine y_same (i := .aload_n 0) (len := 1) (r := (0, 0, 0, 0)) (pc' := 15) (ls' := [some (.inl (some 52))]) (st' := [.inl (some 52)]) (by decide +kernel) (fun k q => by cases q) rfl ?_
    refine y_same (i := .dup) (len := 1) (r := (0, 0, 0, 0)) (pc' := 16) (ls' := [some (.inl (some 52))]) (st' := [.inl (some 52), .inl (some 52)]) (by decide +kernel) (fun k q => by cases q) rfl ?_
    refine y_get (j := 227) (len := 3) (r := (12, 12, 0, 1340)) (by decide +kernel) hg3496 (t52 hg3496) at52 rfl rfl hv3497 ?_
    refine y_ic (c := 1) (len := 1) (r := (0, 0, 0, 0)) (by decide +kernel) (by decide) (fun y3498 hy3498 => ?_)
    refine y_sub (len := 1) (r := (0, 0, 0, 0)) (by decide +kernel) (by omega) (by omega) (fun y3499 hy3499 => ?_)
    refine y_put (j := 227) (lo := 0) (hi := 10) (len := 3) (r := (12, 12, 0, 1340)) (by decide +kernel) hg3496 (t52 hg3496) at52 rfl rfl (by decide) rfl (by omega) (by omega) rfl (fun h3500 hg3500 hl3500 hs3500 ho3500 => ?_)
    have ho3500 : hO 52 12 h3496 h3500 := ho3500
    have hs3500 : hsl h3500 52 12 = some (zi y3499) := hs3500
    refine y_same (i := .aload_n 0) (len := 1) (r := (0, 0, 0, 0)) (pc' := 25) (ls' := [some (.inl (some 52))]) (st' := [.inl (some 52)]) (by decide +kernel) (fun k q => by cases q) rfl ?_
    refine y_get (j := 28) (len := 3) (r := (12, 11, 2, 1339)) (by decide +kernel) hg3500 (t52 hg3500) at52 rfl rfl (g_r52 (f := 11) (T2 := 57) hg3500 rfl (by decide)).1 ?_
    refine y_same (i := .aload_n 0) (len := 1) (r := (0, 0, 0, 0)) (pc' := 29) (ls' := [some (.inl (some 52))]) (st' := [.inl (some 52), .inl (some 57)]) (by decide +kernel) (fun k q => by cases q) rfl ?_
    refine y_get (j := 227) (len := 3) (r := (12, 12, 0, 1340)) (by decide +kernel) hg3500 (t52 hg3500) at52 rfl rfl hs3500 ?_
    refine y_aal (i := ((hs'.length + 1) - 1)) (len := 1) (r := (0, 0, 0, 0)) (by decide +kernel) hg3500 (tv57 hg3500) av57 rfl (by omega) (((ho3500 57 ((hs'.length + 1) - 1) (by omega)).trans (ho3496 57 ((hs'.length + 1) - 1) (by omega))).trans (r57 ((hs'.length + 1) - 1) (by omega))) ?_
    refine y_same (i := .aload_n 0) (len := 1) (r := (0, 0, 0, 0)) (pc' := 34) (ls' := [some (.inl (some 52))]) (st' := [.inl (some 52), .inl (some ((58 + ((hs'.length + 1) - 1))))]) (by decide +kernel) (fun k q => by cases q) rfl ?_
    refine y_get (j := 20) (len := 3) (r := (12, 9, 2, 1337)) (by decide +kernel) hg3500 (t52 hg3500) at52 rfl rfl (g_r52 (f := 9) (T2 := 55) hg3500 rfl (by decide)).1 ?_
    refine y_bi (c := 92) (len := 2) (r := (0, 0, 0, 0)) (by decide +kernel) (by decide) (fun y3501 hy3501 => ?_)
    refine y_cV (i := .invokestatic 216) (len := 3) (r := (1, 185, 12, 1572)) (nL := 4) (k := 0) (n := 3) (hs := []) (args := [.inl (some ((58 + ((hs'.length + 1) - 1)))), .inl (some 55), zi y3501]) (rest := []) (l0 := [some (.inl (some ((58 + ((hs'.length + 1) - 1))))), some (.inl (some 55)), some (zi y3501), none]) (by decide +kernel) (Or.inl ⟨_, rfl⟩) rfl rfl rfl rfl (Nat.le_of_ble_eq_true rfl) rfl rfl (qV_le (by decide) (e_mcp (d := 0) hg3500 (tvP (k := ((hs'.length + 1) - 1)) hg3500 (by omega)) (tv55 hg3500) av1011 av55 rfl (by omega) (by omega))) (fun h3502 hR3502 => ?_)
    obtain ⟨hg3502, C3502, F3502⟩ := hR3502
    refine y_same (i := .aload_n 0) (len := 1) (r := (0, 0, 0, 0)) (pc' := 43) (ls' := [some (.inl (some 52))]) (st' := [.inl (some 52)]) (by decide +kernel) (fun k q => by cases q) rfl ?_
    refine y_ic (c := 0) (len := 1) (r := (0, 0, 0, 0)) (by decide +kernel) (by decide) (fun y3503 hy3503 => ?_)
    refine y_put (j := 220) (lo := 0) (hi := 1) (len := 3) (r := (12, 31, 1, 1359)) (by decide +kernel) hg3502 (t52 hg3502) at52 rfl rfl (by decide) rfl (by omega) (by omega) (zfit_b (by omega) (by omega)).1 (fun h3504 hg3504 hl3504 hs3504 ho3504 => ?_)
    have ho3504 : hO 52 31 h3502 h3504 := ho3504
    have hs3504 : hsl h3504 52 31 = some (zi y3503) := hs3504
    refine y_same (i := .aload_n 0) (len := 1) (r := (0, 0, 0, 0)) (pc' := 48) (ls' := [some (.inl (some 52))]) (st' := [.inl (some 52)]) (by decide +kernel) (fun k q => by cases q) rfl ?_
    refine y_ic (c := 0) (len := 1) (r := (0, 0, 0, 0)) (by decide +kernel) (by decide) (fun y3505 hy3505 => ?_)
    refine y_put (j := 224) (lo := 0) (hi := 1) (len := 3) (r := (12, 47, 1, 1375)) (by decide +kernel) hg3504 (t52 hg3504) at52 rfl rfl (by decide) rfl (by omega) (by omega) (zfit_b (by omega) (by omega)).1 (fun h3506 hg3506 hl3506 hs3506 ho3506 => ?_)
    have ho3506 : hO 52 47 h3504 h3506 := ho3506
    have hs3506 : hsl h3506 52 47 = some (zi y3505) := hs3506
    refine y_same (i := .aload_n 0) (len := 1) (r := (0, 0, 0, 0)) (pc' := 53) (ls' := [some (.inl (some 52))]) (st' := [.inl (some 52)]) (by decide +kernel) (fun k q => by cases q) rfl ?_
    have hv3507 := (F3502 52 12 (by omega)).trans hs3500
    have hv3508 := (ho3504 52 12 (Or.inr (by omega))).trans hv3507
    have hv3509 := (ho3506 52 12 (Or.inr (by omega))).trans hv3508
    refine y_get (j := 227) (len := 3) (r := (12, 12, 0, 1340)) (by decide +kernel) hg3506 (t52 hg3506) at52 rfl rfl hv3509 ?_
    refine y_rI (len := 1) (r := (0, 0, 0, 0)) (nL := 1) (k := 1) (n9 := 1) (hs := []) (by decide +kernel) rfl rfl ?_
    have hv3510 := (ho3506 52 31 (Or.inr (by omega))).trans hs3504
    exact Or.inr ⟨_, hv3510, by omega⟩
theorem jp_dropM0 {t k : Nat} {τ : List Nat} {h : zh} {cur : bsT} {hs : List bsT} {x xk : Int32} (hg : hG τ h) (rm : RM h cur hs) (hx : x.toInt = 0) (exk : xk.toInt = (k : Int)) (hk : k < cur.1.1.length) : qI 60 190 [some (.inl (some 52)), some (zi x), some (zi xk)] h t (fun y h1 => ci_ h1 52 31 0) := by
  refine qI_le (d := 21) (by decide) (qI_of ?_)
  have lz := len55 hg rm.1
  obtain ⟨⟨xp0z, hp0z, ep0z⟩, ⟨xc0z, hc0z, ec0z⟩, ip0z, ic0z⟩ := rm.1.1
  obtain ⟨⟨xp1z, hp1z, ep1z⟩, ⟨xc1z, hc1z, ec1z⟩, ip1z, ic1z⟩ := rm.1.2
  refine y_same (i := .aload_n 0) (len := 1) (r := (0, 0, 0, 0)) (pc' := 1) (ls' := [some (.inl (some 52)), some (zi x), some (zi xk)]) (st' := [.inl (some 52)]) (by decide +kernel) (fun k q => by cases q) rfl ?_
  refine y_ic (c := 0) (len := 1) (r := (0, 0, 0, 0)) (by decide +kernel) (by decide) (fun y3511 hy3511 => ?_)
  refine y_put (j := 92) (lo := (-2147483648)) (hi := 2147483647) (len := 3) (r := (12, 0, 0, 1328)) (by decide +kernel) hg (t52 hg) at52 rfl rfl (by decide) rfl (qin_full _).1 (qin_full _).2 rfl (fun h3512 hg3512 hl3512 hs3512 ho3512 => ?_)
  have ho3512 : hO 52 0 h h3512 := ho3512
  have hs3512 : hsl h3512 52 0 = some (zi y3511) := hs3512
  refine y_same (i := .aload_n 0) (len := 1) (r := (0, 0, 0, 0)) (pc' := 6) (ls' := [some (.inl (some 52)), some (zi x), some (zi xk)]) (st' := [.inl (some 52)]) (by decide +kernel) (fun k q => by cases q) rfl ?_
  refine y_same (i := .iload_n 1) (len := 1) (r := (0, 0, 0, 0)) (pc' := 7) (ls' := [some (.inl (some 52)), some (zi x), some (zi xk)]) (st' := [zi x, .inl (some 52)]) (by decide +kernel) (fun k q => by cases q) rfl ?_
  refine y_ic (c := 0) (len := 1) (r := (0, 0, 0, 0)) (by decide +kernel) (by decide) (fun y3513 hy3513 => ?_)
  refine y_ic (c := 1) (len := 1) (r := (0, 0, 0, 0)) (by decide +kernel) (by decide) (fun y3514 hy3514 => ?_)
  refine y_cI (i := .invokestatic 200) (len := 3) (r := (1, 162, 12, 1486)) (nL := 3) (k := 2) (n := 3) (hs := []) (args := [zi x, zi y3513, zi y3514]) (rest := [.inl (some 52)]) (l0 := [some (zi x), some (zi y3513), some (zi y3514)]) (by decide +kernel) (Or.inl ⟨_, rfl⟩) rfl rfl rfl rfl (Nat.le_of_ble_eq_true rfl) rfl rfl (qI_le (by decide) (m_in (d := 0) (by omega) (by omega))) (fun y3515 qy3515 hRy3515 => ?_)
  obtain ⟨rfl, hy3515⟩ := hRy3515
  refine y_iF (c := .eq) (off := 29) (len := 3) (r := (0, 0, 0, 0)) (by decide +kernel) (acmpF (c := .eq) (by show ¬ (_ = _); omega)) ?_
  refine y_same (i := .iload_n 2) (len := 1) (r := (0, 0, 0, 0)) (pc' := 16) (ls' := [some (.inl (some 52)), some (zi x), some (zi xk)]) (st' := [zi xk, .inl (some 52)]) (by decide +kernel) (fun k q => by cases q) rfl ?_
  refine y_ic (c := 0) (len := 1) (r := (0, 0, 0, 0)) (by decide +kernel) (by decide) (fun y3516 hy3516 => ?_)
  refine y_same (i := .aload_n 0) (len := 1) (r := (0, 0, 0, 0)) (pc' := 18) (ls' := [some (.inl (some 52)), some (zi x), some (zi xk)]) (st' := [.inl (some 52), zi y3516, zi xk, .inl (some 52)]) (by decide +kernel) (fun k q => by cases q) rfl ?_
  refine y_get (j := 20) (len := 3) (r := (12, 9, 2, 1337)) (by decide +kernel) hg3512 (t52 hg3512) at52 rfl rfl (g_r52 (f := 9) (T2 := 55) hg3512 rfl (by decide)).1 ?_
  refine y_ic (c := 1) (len := 1) (r := (0, 0, 0, 0)) (by decide +kernel) (by decide) (fun y3517 hy3517 => ?_)
  refine y_ic (c := 0) (len := 1) (r := (0, 0, 0, 0)) (by decide +kernel) (by decide) (fun y3518 hy3518 => ?_)
  refine y_same (i := .iload_n 1) (len := 1) (r := (0, 0, 0, 0)) (pc' := 24) (ls' := [some (.inl (some 52)), some (zi x), some (zi xk)]) (st' := [zi x, zi y3518, zi y3517, .inl (some 55), zi y3516, zi xk, .inl (some 52)]) (by decide +kernel) (fun k q => by cases q) rfl ?_
  refine y_cI (i := .invokestatic 230) (len := 3) (r := (1, 164, 12, 1591)) (nL := 2) (k := 1) (n := 2) (hs := []) (args := [zi y3518, zi x]) (rest := [zi y3517, .inl (some 55), zi y3516, zi xk, .inl (some 52)]) (l0 := [some (zi y3518), some (zi x)]) (by decide +kernel) (Or.inl ⟨_, rfl⟩) rfl rfl rfl rfl (Nat.le_of_ble_eq_true rfl) rfl rfl (qI_le (by decide) (e_more (d := 0))) (fun y3519 qy3519 hRy3519 => ?_)
  obtain ⟨rfl, my3519, ny3519⟩ := hRy3519
  have ey3519 : y3519.toInt = 0 := by omega
  refine y_cI (i := .invokestatic 233) (len := 3) (r := (1, 163, 12, 1594)) (nL := 2) (k := 1) (n := 2) (hs := []) (args := [zi y3517, zi y3519]) (rest := [.inl (some 55), zi y3516, zi xk, .inl (some 52)]) (l0 := [some (zi y3517), some (zi y3519)]) (by decide +kernel) (Or.inl ⟨_, rfl⟩) rfl rfl rfl rfl (Nat.le_of_ble_eq_true rfl) rfl rfl (qI_le (by decide) (e_less (d := 0))) (fun y3520 qy3520 hRy3520 => ?_)
  obtain ⟨rfl, my3520, ny3520⟩ := hRy3520
  have ey3520 : y3520.toInt = 0 := by omega
  have hv3522 := (ho3512 55 0 (Or.inl (by omega))).trans hp0z
  refine y_cI (i := .invokestatic 143) (len := 3) (r := (1, 166, 12, 1543)) (nL := 2) (k := 1) (n := 2) (hs := []) (args := [.inl (some 55), zi y3520]) (rest := [zi y3516, zi xk, .inl (some 52)]) (l0 := [some (.inl (some 55)), some (zi y3520)]) (by decide +kernel) (Or.inl ⟨_, rfl⟩) rfl rfl rfl rfl (Nat.le_of_ble_eq_true rfl) rfl rfl (qI_le (by decide) (m_parts (d := 0) (s := 0) hg3512 (by omega) (by omega) hv3522)) (fun y3521 qy3521 hRy3521 => ?_)
  obtain ⟨rfl, rfl⟩ := hRy3521
  refine y_ic (c := 1) (len := 1) (r := (0, 0, 0, 0)) (by decide +kernel) (by decide) (fun y3523 hy3523 => ?_)
  refine y_sub (len := 1) (r := (0, 0, 0, 0)) (by decide +kernel) (by omega) (by omega) (fun y3524 hy3524 => ?_)
  refine y_cI (i := .invokestatic 200) (len := 3) (r := (1, 162, 12, 1486)) (nL := 3) (k := 2) (n := 3) (hs := []) (args := [zi xk, zi y3516, zi y3524]) (rest := [.inl (some 52)]) (l0 := [some (zi xk), some (zi y3516), some (zi y3524)]) (by decide +kernel) (Or.inl ⟨_, rfl⟩) rfl rfl rfl rfl (Nat.le_of_ble_eq_true rfl) rfl rfl (qI_le (by decide) (m_in (d := 0) (by omega) (by omega))) (fun y3525 qy3525 hRy3525 => ?_)
  obtain ⟨rfl, hy3525⟩ := hRy3525
  refine y_iT (c := .ne) (off := 7) (pc' := 45) (len := 3) (r := (0, 0, 0, 0)) (by decide +kernel) (acmpT (c := .ne) (by show ¬ (_ = _); omega)) (by decide +kernel) ?_
  refine y_ic (c := 0) (len := 1) (r := (0, 0, 0, 0)) (by decide +kernel) (by decide) (fun y3526 hy3526 => ?_)
  refine y_ic (c := 1) (len := 1) (r := (0, 0, 0, 0)) (by decide +kernel) (by decide) (fun y3527 hy3527 => ?_)
  refine y_ic (c := 0) (len := 1) (r := (0, 0, 0, 0)) (by decide +kernel) (by decide) (fun y3528 hy3528 => ?_)
  refine y_cI (i := .invokevirtual 204) (len := 3) (r := (0, 161, 12, 1489)) (nL := 4) (k := 2) (n := 4) (hs := []) (args := [.inl (some 52), zi y3526, zi y3527, zi y3528]) (rest := []) (l0 := [some (.inl (some 52)), some (zi y3526), some (zi y3527), some (zi y3528)]) (by decide +kernel) (Or.inr (Or.inl ⟨_, rfl⟩)) rfl rfl rfl rfl (Nat.le_of_ble_eq_true rfl) (z52 hg3512) rfl (qI_le (by decide) (m_bad (d := 0) hg3512 (by omega) hs3512 (by omega))) (fun y3529 qy3529 hRy3529 => ?_)
  obtain ⟨rfl, hy3529⟩ := hRy3529
  refine y_iT (c := .eq) (off := 5) (pc' := 56) (len := 3) (r := (0, 0, 0, 0)) (by decide +kernel) (acmpT (c := .eq) (by show _ = _; omega)) (by decide +kernel) ?_
  refine y_same (i := .aload_n 0) (len := 1) (r := (0, 0, 0, 0)) (pc' := 57) (ls' := [some (.inl (some 52)), some (zi x), some (zi xk)]) (st' := [.inl (some 52)]) (by decide +kernel) (fun k q => by cases q) rfl ?_
  refine y_cV (i := .invokevirtual 213) (len := 3) (r := (0, 186, 12, 1568)) (nL := 2) (k := 0) (n := 1) (hs := []) (args := [.inl (some 52)]) (rest := []) (l0 := [some (.inl (some 52)), none]) (by decide +kernel) (Or.inr (Or.inl ⟨_, rfl⟩)) rfl rfl rfl rfl (Nat.le_of_ble_eq_true rfl) (z52 hg3512) rfl (qV_le (by decide) (m_remQ hg3512 (RM_up rm (fun k j h1 => (ho3512 k j (by omega)))))) (fun h3530 hR3530 => ?_)
  obtain ⟨⟨hg3530, rm3530, F3530⟩, jx3530, jh3530, je3530⟩ := hR3530
  have le3530 := len55 hg3530 rm3530.1
  obtain ⟨⟨xp03530, hp03530, ep03530⟩, ⟨xc03530, hc03530, ec03530⟩, ip03530, ic03530⟩ := rm3530.1.1
  obtain ⟨⟨xp13530, hp13530, ep13530⟩, ⟨xc13530, hc13530, ec13530⟩, ip13530, ic13530⟩ := rm3530.1.2
  refine y_same (i := .aload_n 0) (len := 1) (r := (0, 0, 0, 0)) (pc' := 61) (ls' := [some (.inl (some 52)), some (zi x), some (zi xk)]) (st' := [.inl (some 52)]) (by decide +kernel) (fun k q => by cases q) rfl ?_
  refine y_same (i := .iload_n 1) (len := 1) (r := (0, 0, 0, 0)) (pc' := 62) (ls' := [some (.inl (some 52)), some (zi x), some (zi xk)]) (st' := [zi x, .inl (some 52)]) (by decide +kernel) (fun k q => by cases q) rfl ?_
  refine y_same (i := .iload_n 2) (len := 1) (r := (0, 0, 0, 0)) (pc' := 63) (ls' := [some (.inl (some 52)), some (zi x), some (zi xk)]) (st' := [zi xk, zi x, .inl (some 52)]) (by decide +kernel) (fun k q => by cases q) rfl ?_
  refine y_cI (i := .invokestatic 147) (len := 3) (r := (1, 168, 12, 1546)) (nL := 2) (k := 1) (n := 2) (hs := []) (args := [zi x, zi xk]) (rest := [.inl (some 52)]) (l0 := [some (zi x), some (zi xk)]) (by decide +kernel) (Or.inl ⟨_, rfl⟩) rfl rfl rfl rfl (Nat.le_of_ble_eq_true rfl) rfl rfl (qI_le (by decide) (m_partAt (d := 0) (s := 0) (k := k) (by omega) (by omega) exk (by omega))) (fun y3531 qy3531 hRy3531 => ?_)
  obtain ⟨rfl, hy3531⟩ := hRy3531
  refine y_same (i := .aload_n 0) (len := 1) (r := (0, 0, 0, 0)) (pc' := 67) (ls' := [some (.inl (some 52)), some (zi x), some (zi xk)]) (st' := [.inl (some 52), zi y3531, .inl (some 52)]) (by decide +kernel) (fun k q => by cases q) rfl ?_
  refine y_get (j := 20) (len := 3) (r := (12, 9, 2, 1337)) (by decide +kernel) hg3530 (t52 hg3530) at52 rfl rfl (g_r52 (f := 9) (T2 := 55) hg3530 rfl (by decide)).1 ?_
  refine y_same (i := .iload_n 1) (len := 1) (r := (0, 0, 0, 0)) (pc' := 71) (ls' := [some (.inl (some 52)), some (zi x), some (zi xk)]) (st' := [zi x, .inl (some 55), zi y3531, .inl (some 52)]) (by decide +kernel) (fun k q => by cases q) rfl ?_
  refine y_cI (i := .invokestatic 143) (len := 3) (r := (1, 166, 12, 1543)) (nL := 2) (k := 1) (n := 2) (hs := []) (args := [.inl (some 55), zi x]) (rest := [zi y3531, .inl (some 52)]) (l0 := [some (.inl (some 55)), some (zi x)]) (by decide +kernel) (Or.inl ⟨_, rfl⟩) rfl rfl rfl rfl (Nat.le_of_ble_eq_true rfl) rfl rfl (qI_le (by decide) (m_parts (d := 0) (s := 0) hg3530 (by omega) (by omega) hp03530)) (fun y3532 qy3532 hRy3532 => ?_)
  obtain ⟨rfl, rfl⟩ := hRy3532
  refine y_same (i := .iload_n 2) (len := 1) (r := (0, 0, 0, 0)) (pc' := 75) (ls' := [some (.inl (some 52)), some (zi x), some (zi xk)]) (st' := [zi xk, zi xp03530, zi y3531, .inl (some 52)]) (by decide +kernel) (fun k q => by cases q) rfl ?_
  refine y_sub (len := 1) (r := (0, 0, 0, 0)) (by decide +kernel) (by omega) (by omega) (fun y3533 hy3533 => ?_)
  refine y_cV (i := .invokevirtual 236) (len := 3) (r := (0, 189, 12, 1597)) (nL := 4) (k := 0) (n := 3) (hs := []) (args := [.inl (some 52), zi y3531, zi y3533]) (rest := []) (l0 := [some (.inl (some 52)), some (zi y3531), some (zi y3533), none]) (by decide +kernel) (Or.inr (Or.inl ⟨_, rfl⟩)) rfl rfl rfl rfl (Nat.le_of_ble_eq_true rfl) (z52 hg3530) rfl (qV_le (by decide) (m_closes (f := (2 + 4 * k)) (m := (cur.1.1.length - k)) hg3530 (by omega) (by omega) (by omega) (by omega))) (fun h3534 hR3534 => ?_)
  obtain ⟨hg3534, a3534, F3534⟩ := hR3534
  refine y_same (i := .aload_n 0) (len := 1) (r := (0, 0, 0, 0)) (pc' := 80) (ls' := [some (.inl (some 52)), some (zi x), some (zi xk)]) (st' := [.inl (some 52)]) (by decide +kernel) (fun k q => by cases q) rfl ?_
  refine y_get (j := 20) (len := 3) (r := (12, 9, 2, 1337)) (by decide +kernel) hg3534 (t52 hg3534) at52 rfl rfl (g_r52 (f := 9) (T2 := 55) hg3534 rfl (by decide)).1 ?_
  refine y_bi (c := 46) (len := 2) (r := (0, 0, 0, 0)) (by decide +kernel) (by decide) (fun y3535 hy3535 => ?_)
  refine y_same (i := .iload_n 1) (len := 1) (r := (0, 0, 0, 0)) (pc' := 86) (ls' := [some (.inl (some 52)), some (zi x), some (zi xk)]) (st' := [zi x, zi y3535, .inl (some 55)]) (by decide +kernel) (fun k q => by cases q) rfl ?_
  refine y_mul (c := 46) (len := 1) (r := (0, 0, 0, 0)) (by decide +kernel) (by omega) (by omega) (by omega) (fun y3536 hy3536 => ?_)
  refine y_same (i := .dup2) (len := 1) (r := (0, 0, 0, 0)) (pc' := 88) (ls' := [some (.inl (some 52)), some (zi x), some (zi xk)]) (st' := [zi y3536, .inl (some 55), zi y3536, .inl (some 55)]) (by decide +kernel) (fun k q => by cases q) rfl ?_
  have hv3537 := (F3534 55 0 (by omega)).trans hp03530
  refine y_ial (i := 0) (len := 1) (r := (0, 0, 0, 0)) (by decide +kernel) hg3534 (tv55 hg3534) av55 (by omega) hv3537 ?_
  refine y_ic (c := 1) (len := 1) (r := (0, 0, 0, 0)) (by decide +kernel) (by decide) (fun y3538 hy3538 => ?_)
  refine y_sub (len := 1) (r := (0, 0, 0, 0)) (by decide +kernel) (by omega) (by omega) (fun y3539 hy3539 => ?_)
  refine y_ias (i := 0) (len := 1) (r := (0, 0, 0, 0)) (by decide +kernel) hg3534 (tv55 hg3534) av55 rfl (by omega) (by omega) (sr92 _ (by omega)) (by omega) (by omega) (fun h3540 hg3540 hl3540 hs3540 ho3540 => ?_)
  refine y_same (i := .aload_n 0) (len := 1) (r := (0, 0, 0, 0)) (pc' := 93) (ls' := [some (.inl (some 52)), some (zi x), some (zi xk)]) (st' := [.inl (some 52)]) (by decide +kernel) (fun k q => by cases q) rfl ?_
  refine y_get (j := 20) (len := 3) (r := (12, 9, 2, 1337)) (by decide +kernel) hg3540 (t52 hg3540) at52 rfl rfl (g_r52 (f := 9) (T2 := 55) hg3540 rfl (by decide)).1 ?_
  refine y_same (i := .iload_n 1) (len := 1) (r := (0, 0, 0, 0)) (pc' := 97) (ls' := [some (.inl (some 52)), some (zi x), some (zi xk)]) (st' := [zi x, .inl (some 55)]) (by decide +kernel) (fun k q => by cases q) rfl ?_
  refine y_cI (i := .invokestatic 143) (len := 3) (r := (1, 166, 12, 1543)) (nL := 2) (k := 1) (n := 2) (hs := []) (args := [.inl (some 55), zi x]) (rest := []) (l0 := [some (.inl (some 55)), some (zi x)]) (by decide +kernel) (Or.inl ⟨_, rfl⟩) rfl rfl rfl rfl (Nat.le_of_ble_eq_true rfl) rfl rfl (qI_le (by decide) (m_parts (d := 0) (s := 0) hg3540 (by omega) (by omega) hs3540)) (fun y3541 qy3541 hRy3541 => ?_)
  obtain ⟨rfl, rfl⟩ := hRy3541
  refine y_rI (len := 1) (r := (0, 0, 0, 0)) (nL := 3) (k := 1) (n9 := 3) (hs := []) (by decide +kernel) rfl rfl ?_
  have hv3542 := (F3534 52 31 (by omega)).trans jh3530
  have hv3543 := (ho3540 52 31 (Or.inl (by omega))).trans hv3542
  exact ⟨_, hv3543, by omega⟩
theorem jp_dropM1 {t k : Nat} {τ : List Nat} {h : zh} {cur : bsT} {hs : List bsT} {x xk : Int32} (hg : hG τ h) (rm : RM h cur hs) (hx : x.toInt = 1) (exk : xk.toInt = (k : Int)) (hk : k < cur.2.1.length) : qI 60 190 [some (.inl (some 52)), some (zi x), some (zi xk)] h t (fun y h1 => ci_ h1 52 31 0) := by
  refine qI_le (d := 21) (by decide) (qI_of ?_)
  have lz := len55 hg rm.1
  obtain ⟨⟨xp0z, hp0z, ep0z⟩, ⟨xc0z, hc0z, ec0z⟩, ip0z, ic0z⟩ := rm.1.1
  obtain ⟨⟨xp1z, hp1z, ep1z⟩, ⟨xc1z, hc1z, ec1z⟩, ip1z, ic1z⟩ := rm.1.2
  refine y_same (i := .aload_n 0) (len := 1) (r := (0, 0, 0, 0)) (pc' := 1) (ls' := [some (.inl (some 52)), some (zi x), some (zi xk)]) (st' := [.inl (some 52)]) (by decide +kernel) (fun k q => by cases q) rfl ?_
  refine y_ic (c := 0) (len := 1) (r := (0, 0, 0, 0)) (by decide +kernel) (by decide) (fun y3544 hy3544 => ?_)
  refine y_put (j := 92) (lo := (-2147483648)) (hi := 2147483647) (len := 3) (r := (12, 0, 0, 1328)) (by decide +kernel) hg (t52 hg) at52 rfl rfl (by decide) rfl (qin_full _).1 (qin_full _).2 rfl (fun h3545 hg3545 hl3545 hs3545 ho3545 => ?_)
  have ho3545 : hO 52 0 h h3545 := ho3545
  have hs3545 : hsl h3545 52 0 = some (zi y3544) := hs3545
  refine y_same (i := .aload_n 0) (len := 1) (r := (0, 0, 0, 0)) (pc' := 6) (ls' := [some (.inl (some 52)), some (zi x), some (zi xk)]) (st' := [.inl (some 52)]) (by decide +kernel) (fun k q => by cases q) rfl ?_
  refine y_same (i := .iload_n 1) (len := 1) (r := (0, 0, 0, 0)) (pc' := 7) (ls' := [some (.inl (some 52)), some (zi x), some (zi xk)]) (st' := [zi x, .inl (some 52)]) (by decide +kernel) (fun k q => by cases q) rfl ?_
  refine y_ic (c := 0) (len := 1) (r := (0, 0, 0, 0)) (by decide +kernel) (by decide) (fun y3546 hy3546 => ?_)
  refine y_ic (c := 1) (len := 1) (r := (0, 0, 0, 0)) (by decide +kernel) (by decide) (fun y3547 hy3547 => ?_)
  refine y_cI (i := .invokestatic 200) (len := 3) (r := (1, 162, 12, 1486)) (nL := 3) (k := 2) (n := 3) (hs := []) (args := [zi x, zi y3546, zi y3547]) (rest := [.inl (some 52)]) (l0 := [some (zi x), some (zi y3546), some (zi y3547)]) (by decide +kernel) (Or.inl ⟨_, rfl⟩) rfl rfl rfl rfl (Nat.le_of_ble_eq_true rfl) rfl rfl (qI_le (by decide) (m_in (d := 0) (by omega) (by omega))) (fun y3548 qy3548 hRy3548 => ?_)
  obtain ⟨rfl, hy3548⟩ := hRy3548
  refine y_iF (c := .eq) (off := 29) (len := 3) (r := (0, 0, 0, 0)) (by decide +kernel) (acmpF (c := .eq) (by show ¬ (_ = _); omega)) ?_
  refine y_same (i := .iload_n 2) (len := 1) (r := (0, 0, 0, 0)) (pc' := 16) (ls' := [some (.inl (some 52)), some (zi x), some (zi xk)]) (st' := [zi xk, .inl (some 52)]) (by decide +kernel) (fun k q => by cases q) rfl ?_
  refine y_ic (c := 0) (len := 1) (r := (0, 0, 0, 0)) (by decide +kernel) (by decide) (fun y3549 hy3549 => ?_)
  refine y_same (i := .aload_n 0) (len := 1) (r := (0, 0, 0, 0)) (pc' := 18) (ls' := [some (.inl (some 52)), some (zi x), some (zi xk)]) (st' := [.inl (some 52), zi y3549, zi xk, .inl (some 52)]) (by decide +kernel) (fun k q => by cases q) rfl ?_
  refine y_get (j := 20) (len := 3) (r := (12, 9, 2, 1337)) (by decide +kernel) hg3545 (t52 hg3545) at52 rfl rfl (g_r52 (f := 9) (T2 := 55) hg3545 rfl (by decide)).1 ?_
  refine y_ic (c := 1) (len := 1) (r := (0, 0, 0, 0)) (by decide +kernel) (by decide) (fun y3550 hy3550 => ?_)
  refine y_ic (c := 0) (len := 1) (r := (0, 0, 0, 0)) (by decide +kernel) (by decide) (fun y3551 hy3551 => ?_)
  refine y_same (i := .iload_n 1) (len := 1) (r := (0, 0, 0, 0)) (pc' := 24) (ls' := [some (.inl (some 52)), some (zi x), some (zi xk)]) (st' := [zi x, zi y3551, zi y3550, .inl (some 55), zi y3549, zi xk, .inl (some 52)]) (by decide +kernel) (fun k q => by cases q) rfl ?_
  refine y_cI (i := .invokestatic 230) (len := 3) (r := (1, 164, 12, 1591)) (nL := 2) (k := 1) (n := 2) (hs := []) (args := [zi y3551, zi x]) (rest := [zi y3550, .inl (some 55), zi y3549, zi xk, .inl (some 52)]) (l0 := [some (zi y3551), some (zi x)]) (by decide +kernel) (Or.inl ⟨_, rfl⟩) rfl rfl rfl rfl (Nat.le_of_ble_eq_true rfl) rfl rfl (qI_le (by decide) (e_more (d := 0))) (fun y3552 qy3552 hRy3552 => ?_)
  obtain ⟨rfl, my3552, ny3552⟩ := hRy3552
  have ey3552 : y3552.toInt = 1 := by omega
  refine y_cI (i := .invokestatic 233) (len := 3) (r := (1, 163, 12, 1594)) (nL := 2) (k := 1) (n := 2) (hs := []) (args := [zi y3550, zi y3552]) (rest := [.inl (some 55), zi y3549, zi xk, .inl (some 52)]) (l0 := [some (zi y3550), some (zi y3552)]) (by decide +kernel) (Or.inl ⟨_, rfl⟩) rfl rfl rfl rfl (Nat.le_of_ble_eq_true rfl) rfl rfl (qI_le (by decide) (e_less (d := 0))) (fun y3553 qy3553 hRy3553 => ?_)
  obtain ⟨rfl, my3553, ny3553⟩ := hRy3553
  have ey3553 : y3553.toInt = 1 := by omega
  have hv3555 := (ho3545 55 46 (Or.inl (by omega))).trans hp1z
  refine y_cI (i := .invokestatic 143) (len := 3) (r := (1, 166, 12, 1543)) (nL := 2) (k := 1) (n := 2) (hs := []) (args := [.inl (some 55), zi y3553]) (rest := [zi y3549, zi xk, .inl (some 52)]) (l0 := [some (.inl (some 55)), some (zi y3553)]) (by decide +kernel) (Or.inl ⟨_, rfl⟩) rfl rfl rfl rfl (Nat.le_of_ble_eq_true rfl) rfl rfl (qI_le (by decide) (m_parts (d := 0) (s := 1) hg3545 (by omega) (by omega) hv3555)) (fun y3554 qy3554 hRy3554 => ?_)
  obtain ⟨rfl, rfl⟩ := hRy3554
  refine y_ic (c := 1) (len := 1) (r := (0, 0, 0, 0)) (by decide +kernel) (by decide) (fun y3556 hy3556 => ?_)
  refine y_sub (len := 1) (r := (0, 0, 0, 0)) (by decide +kernel) (by omega) (by omega) (fun y3557 hy3557 => ?_)
  refine y_cI (i := .invokestatic 200) (len := 3) (r := (1, 162, 12, 1486)) (nL := 3) (k := 2) (n := 3) (hs := []) (args := [zi xk, zi y3549, zi y3557]) (rest := [.inl (some 52)]) (l0 := [some (zi xk), some (zi y3549), some (zi y3557)]) (by decide +kernel) (Or.inl ⟨_, rfl⟩) rfl rfl rfl rfl (Nat.le_of_ble_eq_true rfl) rfl rfl (qI_le (by decide) (m_in (d := 0) (by omega) (by omega))) (fun y3558 qy3558 hRy3558 => ?_)
  obtain ⟨rfl, hy3558⟩ := hRy3558
  refine y_iT (c := .ne) (off := 7) (pc' := 45) (len := 3) (r := (0, 0, 0, 0)) (by decide +kernel) (acmpT (c := .ne) (by show ¬ (_ = _); omega)) (by decide +kernel) ?_
  refine y_ic (c := 0) (len := 1) (r := (0, 0, 0, 0)) (by decide +kernel) (by decide) (fun y3559 hy3559 => ?_)
  refine y_ic (c := 1) (len := 1) (r := (0, 0, 0, 0)) (by decide +kernel) (by decide) (fun y3560 hy3560 => ?_)
  refine y_ic (c := 0) (len := 1) (r := (0, 0, 0, 0)) (by decide +kernel) (by decide) (fun y3561 hy3561 => ?_)
  refine y_cI (i := .invokevirtual 204) (len := 3) (r := (0, 161, 12, 1489)) (nL := 4) (k := 2) (n := 4) (hs := []) (args := [.inl (some 52), zi y3559, zi y3560, zi y3561]) (rest := []) (l0 := [some (.inl (some 52)), some (zi y3559), some (zi y3560), some (zi y3561)]) (by decide +kernel) (Or.inr (Or.inl ⟨_, rfl⟩)) rfl rfl rfl rfl (Nat.le_of_ble_eq_true rfl) (z52 hg3545) rfl (qI_le (by decide) (m_bad (d := 0) hg3545 (by omega) hs3545 (by omega))) (fun y3562 qy3562 hRy3562 => ?_)
  obtain ⟨rfl, hy3562⟩ := hRy3562
  refine y_iT (c := .eq) (off := 5) (pc' := 56) (len := 3) (r := (0, 0, 0, 0)) (by decide +kernel) (acmpT (c := .eq) (by show _ = _; omega)) (by decide +kernel) ?_
  refine y_same (i := .aload_n 0) (len := 1) (r := (0, 0, 0, 0)) (pc' := 57) (ls' := [some (.inl (some 52)), some (zi x), some (zi xk)]) (st' := [.inl (some 52)]) (by decide +kernel) (fun k q => by cases q) rfl ?_
  refine y_cV (i := .invokevirtual 213) (len := 3) (r := (0, 186, 12, 1568)) (nL := 2) (k := 0) (n := 1) (hs := []) (args := [.inl (some 52)]) (rest := []) (l0 := [some (.inl (some 52)), none]) (by decide +kernel) (Or.inr (Or.inl ⟨_, rfl⟩)) rfl rfl rfl rfl (Nat.le_of_ble_eq_true rfl) (z52 hg3545) rfl (qV_le (by decide) (m_remQ hg3545 (RM_up rm (fun k j h1 => (ho3545 k j (by omega)))))) (fun h3563 hR3563 => ?_)
  obtain ⟨⟨hg3563, rm3563, F3563⟩, jx3563, jh3563, je3563⟩ := hR3563
  have le3563 := len55 hg3563 rm3563.1
  obtain ⟨⟨xp03563, hp03563, ep03563⟩, ⟨xc03563, hc03563, ec03563⟩, ip03563, ic03563⟩ := rm3563.1.1
  obtain ⟨⟨xp13563, hp13563, ep13563⟩, ⟨xc13563, hc13563, ec13563⟩, ip13563, ic13563⟩ := rm3563.1.2
  refine y_same (i := .aload_n 0) (len := 1) (r := (0, 0, 0, 0)) (pc' := 61) (ls' := [some (.inl (some 52)), some (zi x), some (zi xk)]) (st' := [.inl (some 52)]) (by decide +kernel) (fun k q => by cases q) rfl ?_
  refine y_same (i := .iload_n 1) (len := 1) (r := (0, 0, 0, 0)) (pc' := 62) (ls' := [some (.inl (some 52)), some (zi x), some (zi xk)]) (st' := [zi x, .inl (some 52)]) (by decide +kernel) (fun k q => by cases q) rfl ?_
  refine y_same (i := .iload_n 2) (len := 1) (r := (0, 0, 0, 0)) (pc' := 63) (ls' := [some (.inl (some 52)), some (zi x), some (zi xk)]) (st' := [zi xk, zi x, .inl (some 52)]) (by decide +kernel) (fun k q => by cases q) rfl ?_
  refine y_cI (i := .invokestatic 147) (len := 3) (r := (1, 168, 12, 1546)) (nL := 2) (k := 1) (n := 2) (hs := []) (args := [zi x, zi xk]) (rest := [.inl (some 52)]) (l0 := [some (zi x), some (zi xk)]) (by decide +kernel) (Or.inl ⟨_, rfl⟩) rfl rfl rfl rfl (Nat.le_of_ble_eq_true rfl) rfl rfl (qI_le (by decide) (m_partAt (d := 0) (s := 1) (k := k) (by omega) (by omega) exk (by omega))) (fun y3564 qy3564 hRy3564 => ?_)
  obtain ⟨rfl, hy3564⟩ := hRy3564
  refine y_same (i := .aload_n 0) (len := 1) (r := (0, 0, 0, 0)) (pc' := 67) (ls' := [some (.inl (some 52)), some (zi x), some (zi xk)]) (st' := [.inl (some 52), zi y3564, .inl (some 52)]) (by decide +kernel) (fun k q => by cases q) rfl ?_
  refine y_get (j := 20) (len := 3) (r := (12, 9, 2, 1337)) (by decide +kernel) hg3563 (t52 hg3563) at52 rfl rfl (g_r52 (f := 9) (T2 := 55) hg3563 rfl (by decide)).1 ?_
  refine y_same (i := .iload_n 1) (len := 1) (r := (0, 0, 0, 0)) (pc' := 71) (ls' := [some (.inl (some 52)), some (zi x), some (zi xk)]) (st' := [zi x, .inl (some 55), zi y3564, .inl (some 52)]) (by decide +kernel) (fun k q => by cases q) rfl ?_
  refine y_cI (i := .invokestatic 143) (len := 3) (r := (1, 166, 12, 1543)) (nL := 2) (k := 1) (n := 2) (hs := []) (args := [.inl (some 55), zi x]) (rest := [zi y3564, .inl (some 52)]) (l0 := [some (.inl (some 55)), some (zi x)]) (by decide +kernel) (Or.inl ⟨_, rfl⟩) rfl rfl rfl rfl (Nat.le_of_ble_eq_true rfl) rfl rfl (qI_le (by decide) (m_parts (d := 0) (s := 1) hg3563 (by omega) (by omega) hp13563)) (fun y3565 qy3565 hRy3565 => ?_)
  obtain ⟨rfl, rfl⟩ := hRy3565
  refine y_same (i := .iload_n 2) (len := 1) (r := (0, 0, 0, 0)) (pc' := 75) (ls' := [some (.inl (some 52)), some (zi x), some (zi xk)]) (st' := [zi xk, zi xp13563, zi y3564, .inl (some 52)]) (by decide +kernel) (fun k q => by cases q) rfl ?_
  refine y_sub (len := 1) (r := (0, 0, 0, 0)) (by decide +kernel) (by omega) (by omega) (fun y3566 hy3566 => ?_)
  refine y_cV (i := .invokevirtual 236) (len := 3) (r := (0, 189, 12, 1597)) (nL := 4) (k := 0) (n := 3) (hs := []) (args := [.inl (some 52), zi y3564, zi y3566]) (rest := []) (l0 := [some (.inl (some 52)), some (zi y3564), some (zi y3566), none]) (by decide +kernel) (Or.inr (Or.inl ⟨_, rfl⟩)) rfl rfl rfl rfl (Nat.le_of_ble_eq_true rfl) (z52 hg3563) rfl (qV_le (by decide) (m_closes (f := (48 + 4 * k)) (m := (cur.2.1.length - k)) hg3563 (by omega) (by omega) (by omega) (by omega))) (fun h3567 hR3567 => ?_)
  obtain ⟨hg3567, a3567, F3567⟩ := hR3567
  refine y_same (i := .aload_n 0) (len := 1) (r := (0, 0, 0, 0)) (pc' := 80) (ls' := [some (.inl (some 52)), some (zi x), some (zi xk)]) (st' := [.inl (some 52)]) (by decide +kernel) (fun k q => by cases q) rfl ?_
  refine y_get (j := 20) (len := 3) (r := (12, 9, 2, 1337)) (by decide +kernel) hg3567 (t52 hg3567) at52 rfl rfl (g_r52 (f := 9) (T2 := 55) hg3567 rfl (by decide)).1 ?_
  refine y_bi (c := 46) (len := 2) (r := (0, 0, 0, 0)) (by decide +kernel) (by decide) (fun y3568 hy3568 => ?_)
  refine y_same (i := .iload_n 1) (len := 1) (r := (0, 0, 0, 0)) (pc' := 86) (ls' := [some (.inl (some 52)), some (zi x), some (zi xk)]) (st' := [zi x, zi y3568, .inl (some 55)]) (by decide +kernel) (fun k q => by cases q) rfl ?_
  refine y_mul (c := 46) (len := 1) (r := (0, 0, 0, 0)) (by decide +kernel) (by omega) (by omega) (by omega) (fun y3569 hy3569 => ?_)
  refine y_same (i := .dup2) (len := 1) (r := (0, 0, 0, 0)) (pc' := 88) (ls' := [some (.inl (some 52)), some (zi x), some (zi xk)]) (st' := [zi y3569, .inl (some 55), zi y3569, .inl (some 55)]) (by decide +kernel) (fun k q => by cases q) rfl ?_
  have hv3570 := (F3567 55 46 (by omega)).trans hp13563
  refine y_ial (i := 46) (len := 1) (r := (0, 0, 0, 0)) (by decide +kernel) hg3567 (tv55 hg3567) av55 (by omega) hv3570 ?_
  refine y_ic (c := 1) (len := 1) (r := (0, 0, 0, 0)) (by decide +kernel) (by decide) (fun y3571 hy3571 => ?_)
  refine y_sub (len := 1) (r := (0, 0, 0, 0)) (by decide +kernel) (by omega) (by omega) (fun y3572 hy3572 => ?_)
  refine y_ias (i := 46) (len := 1) (r := (0, 0, 0, 0)) (by decide +kernel) hg3567 (tv55 hg3567) av55 rfl (by omega) (by omega) (sr92 _ (by omega)) (by omega) (by omega) (fun h3573 hg3573 hl3573 hs3573 ho3573 => ?_)
  refine y_same (i := .aload_n 0) (len := 1) (r := (0, 0, 0, 0)) (pc' := 93) (ls' := [some (.inl (some 52)), some (zi x), some (zi xk)]) (st' := [.inl (some 52)]) (by decide +kernel) (fun k q => by cases q) rfl ?_
  refine y_get (j := 20) (len := 3) (r := (12, 9, 2, 1337)) (by decide +kernel) hg3573 (t52 hg3573) at52 rfl rfl (g_r52 (f := 9) (T2 := 55) hg3573 rfl (by decide)).1 ?_
  refine y_same (i := .iload_n 1) (len := 1) (r := (0, 0, 0, 0)) (pc' := 97) (ls' := [some (.inl (some 52)), some (zi x), some (zi xk)]) (st' := [zi x, .inl (some 55)]) (by decide +kernel) (fun k q => by cases q) rfl ?_
  refine y_cI (i := .invokestatic 143) (len := 3) (r := (1, 166, 12, 1543)) (nL := 2) (k := 1) (n := 2) (hs := []) (args := [.inl (some 55), zi x]) (rest := []) (l0 := [some (.inl (some 55)), some (zi x)]) (by decide +kernel) (Or.inl ⟨_, rfl⟩) rfl rfl rfl rfl (Nat.le_of_ble_eq_true rfl) rfl rfl (qI_le (by decide) (m_parts (d := 0) (s := 1) hg3573 (by omega) (by omega) hs3573)) (fun y3574 qy3574 hRy3574 => ?_)
  obtain ⟨rfl, rfl⟩ := hRy3574
  refine y_rI (len := 1) (r := (0, 0, 0, 0)) (nL := 3) (k := 1) (n9 := 3) (hs := []) (by decide +kernel) rfl rfl ?_
  have hv3575 := (F3567 52 31 (by omega)).trans jh3563
  have hv3576 := (ho3573 52 31 (Or.inl (by omega))).trans hv3575
  exact ⟨_, hv3576, by omega⟩
theorem jp_dropT0 {t : Nat} {τ : List Nat} {h : zh} {cur : bsT} {hs : List bsT} {x xk : Int32} (hg : hG τ h) (rm : RM h cur hs) (hx : x.toInt = 0) (hk : ¬ (0 ≤ xk.toInt ∧ xk.toInt < (cur.1.1.length : Int))) : qI 60 190 [some (.inl (some 52)), some (zi x), some (zi xk)] h t (fun y h1 => hsl h1 52 31 = hsl h 52 31) := by
  refine qI_le (d := 21) (by decide) (qI_of ?_)
  have lz := len55 hg rm.1
  obtain ⟨⟨xp0z, hp0z, ep0z⟩, ⟨xc0z, hc0z, ec0z⟩, ip0z, ic0z⟩ := rm.1.1
  obtain ⟨⟨xp1z, hp1z, ep1z⟩, ⟨xc1z, hc1z, ec1z⟩, ip1z, ic1z⟩ := rm.1.2
  refine y_same (i := .aload_n 0) (len := 1) (r := (0, 0, 0, 0)) (pc' := 1) (ls' := [some (.inl (some 52)), some (zi x), some (zi xk)]) (st' := [.inl (some 52)]) (by decide +kernel) (fun k q => by cases q) rfl ?_
  refine y_ic (c := 0) (len := 1) (r := (0, 0, 0, 0)) (by decide +kernel) (by decide) (fun y3577 hy3577 => ?_)
  refine y_put (j := 92) (lo := (-2147483648)) (hi := 2147483647) (len := 3) (r := (12, 0, 0, 1328)) (by decide +kernel) hg (t52 hg) at52 rfl rfl (by decide) rfl (qin_full _).1 (qin_full _).2 rfl (fun h3578 hg3578 hl3578 hs3578 ho3578 => ?_)
  have ho3578 : hO 52 0 h h3578 := ho3578
  have hs3578 : hsl h3578 52 0 = some (zi y3577) := hs3578
  refine y_same (i := .aload_n 0) (len := 1) (r := (0, 0, 0, 0)) (pc' := 6) (ls' := [some (.inl (some 52)), some (zi x), some (zi xk)]) (st' := [.inl (some 52)]) (by decide +kernel) (fun k q => by cases q) rfl ?_
  refine y_same (i := .iload_n 1) (len := 1) (r := (0, 0, 0, 0)) (pc' := 7) (ls' := [some (.inl (some 52)), some (zi x), some (zi xk)]) (st' := [zi x, .inl (some 52)]) (by decide +kernel) (fun k q => by cases q) rfl ?_
  refine y_ic (c := 0) (len := 1) (r := (0, 0, 0, 0)) (by decide +kernel) (by decide) (fun y3579 hy3579 => ?_)
  refine y_ic (c := 1) (len := 1) (r := (0, 0, 0, 0)) (by decide +kernel) (by decide) (fun y3580 hy3580 => ?_)
  refine y_cI (i := .invokestatic 200) (len := 3) (r := (1, 162, 12, 1486)) (nL := 3) (k := 2) (n := 3) (hs := []) (args := [zi x, zi y3579, zi y3580]) (rest := [.inl (some 52)]) (l0 := [some (zi x), some (zi y3579), some (zi y3580)]) (by decide +kernel) (Or.inl ⟨_, rfl⟩) rfl rfl rfl rfl (Nat.le_of_ble_eq_true rfl) rfl rfl (qI_le (by decide) (m_in (d := 0) (by omega) (by omega))) (fun y3581 qy3581 hRy3581 => ?_)
  obtain ⟨rfl, hy3581⟩ := hRy3581
  refine y_iF (c := .eq) (off := 29) (len := 3) (r := (0, 0, 0, 0)) (by decide +kernel) (acmpF (c := .eq) (by show ¬ (_ = _); omega)) ?_
  refine y_same (i := .iload_n 2) (len := 1) (r := (0, 0, 0, 0)) (pc' := 16) (ls' := [some (.inl (some 52)), some (zi x), some (zi xk)]) (st' := [zi xk, .inl (some 52)]) (by decide +kernel) (fun k q => by cases q) rfl ?_
  refine y_ic (c := 0) (len := 1) (r := (0, 0, 0, 0)) (by decide +kernel) (by decide) (fun y3582 hy3582 => ?_)
  refine y_same (i := .aload_n 0) (len := 1) (r := (0, 0, 0, 0)) (pc' := 18) (ls' := [some (.inl (some 52)), some (zi x), some (zi xk)]) (st' := [.inl (some 52), zi y3582, zi xk, .inl (some 52)]) (by decide +kernel) (fun k q => by cases q) rfl ?_
  refine y_get (j := 20) (len := 3) (r := (12, 9, 2, 1337)) (by decide +kernel) hg3578 (t52 hg3578) at52 rfl rfl (g_r52 (f := 9) (T2 := 55) hg3578 rfl (by decide)).1 ?_
  refine y_ic (c := 1) (len := 1) (r := (0, 0, 0, 0)) (by decide +kernel) (by decide) (fun y3583 hy3583 => ?_)
  refine y_ic (c := 0) (len := 1) (r := (0, 0, 0, 0)) (by decide +kernel) (by decide) (fun y3584 hy3584 => ?_)
  refine y_same (i := .iload_n 1) (len := 1) (r := (0, 0, 0, 0)) (pc' := 24) (ls' := [some (.inl (some 52)), some (zi x), some (zi xk)]) (st' := [zi x, zi y3584, zi y3583, .inl (some 55), zi y3582, zi xk, .inl (some 52)]) (by decide +kernel) (fun k q => by cases q) rfl ?_
  refine y_cI (i := .invokestatic 230) (len := 3) (r := (1, 164, 12, 1591)) (nL := 2) (k := 1) (n := 2) (hs := []) (args := [zi y3584, zi x]) (rest := [zi y3583, .inl (some 55), zi y3582, zi xk, .inl (some 52)]) (l0 := [some (zi y3584), some (zi x)]) (by decide +kernel) (Or.inl ⟨_, rfl⟩) rfl rfl rfl rfl (Nat.le_of_ble_eq_true rfl) rfl rfl (qI_le (by decide) (e_more (d := 0))) (fun y3585 qy3585 hRy3585 => ?_)
  obtain ⟨rfl, my3585, ny3585⟩ := hRy3585
  have ey3585 : y3585.toInt = 0 := by omega
  refine y_cI (i := .invokestatic 233) (len := 3) (r := (1, 163, 12, 1594)) (nL := 2) (k := 1) (n := 2) (hs := []) (args := [zi y3583, zi y3585]) (rest := [.inl (some 55), zi y3582, zi xk, .inl (some 52)]) (l0 := [some (zi y3583), some (zi y3585)]) (by decide +kernel) (Or.inl ⟨_, rfl⟩) rfl rfl rfl rfl (Nat.le_of_ble_eq_true rfl) rfl rfl (qI_le (by decide) (e_less (d := 0))) (fun y3586 qy3586 hRy3586 => ?_)
  obtain ⟨rfl, my3586, ny3586⟩ := hRy3586
  have ey3586 : y3586.toInt = 0 := by omega
  have hv3588 := (ho3578 55 0 (Or.inl (by omega))).trans hp0z
  refine y_cI (i := .invokestatic 143) (len := 3) (r := (1, 166, 12, 1543)) (nL := 2) (k := 1) (n := 2) (hs := []) (args := [.inl (some 55), zi y3586]) (rest := [zi y3582, zi xk, .inl (some 52)]) (l0 := [some (.inl (some 55)), some (zi y3586)]) (by decide +kernel) (Or.inl ⟨_, rfl⟩) rfl rfl rfl rfl (Nat.le_of_ble_eq_true rfl) rfl rfl (qI_le (by decide) (m_parts (d := 0) (s := 0) hg3578 (by omega) (by omega) hv3588)) (fun y3587 qy3587 hRy3587 => ?_)
  obtain ⟨rfl, rfl⟩ := hRy3587
  refine y_ic (c := 1) (len := 1) (r := (0, 0, 0, 0)) (by decide +kernel) (by decide) (fun y3589 hy3589 => ?_)
  refine y_sub (len := 1) (r := (0, 0, 0, 0)) (by decide +kernel) (by omega) (by omega) (fun y3590 hy3590 => ?_)
  refine y_cI (i := .invokestatic 200) (len := 3) (r := (1, 162, 12, 1486)) (nL := 3) (k := 2) (n := 3) (hs := []) (args := [zi xk, zi y3582, zi y3590]) (rest := [.inl (some 52)]) (l0 := [some (zi xk), some (zi y3582), some (zi y3590)]) (by decide +kernel) (Or.inl ⟨_, rfl⟩) rfl rfl rfl rfl (Nat.le_of_ble_eq_true rfl) rfl rfl (qI_le (by decide) (m_in0 (d := 0) (by omega))) (fun y3591 qy3591 hRy3591 => ?_)
  obtain ⟨rfl, hy3591⟩ := hRy3591
  refine y_iF (c := .ne) (off := 7) (len := 3) (r := (0, 0, 0, 0)) (by decide +kernel) (acmpF (c := .ne) (by show _ = _; omega)) ?_
  refine y_ic (c := 1) (len := 1) (r := (0, 0, 0, 0)) (by decide +kernel) (by decide) (fun y3592 hy3592 => ?_)
  refine y_goto (off := 4) (pc' := 46) (len := 3) (r := (0, 0, 0, 0)) (by decide +kernel) (by decide +kernel) ?_
  refine y_ic (c := 1) (len := 1) (r := (0, 0, 0, 0)) (by decide +kernel) (by decide) (fun y3593 hy3593 => ?_)
  refine y_ic (c := 0) (len := 1) (r := (0, 0, 0, 0)) (by decide +kernel) (by decide) (fun y3594 hy3594 => ?_)
  refine y_cI (i := .invokevirtual 204) (len := 3) (r := (0, 161, 12, 1489)) (nL := 4) (k := 2) (n := 4) (hs := []) (args := [.inl (some 52), zi y3592, zi y3593, zi y3594]) (rest := []) (l0 := [some (.inl (some 52)), some (zi y3592), some (zi y3593), some (zi y3594)]) (by decide +kernel) (Or.inr (Or.inl ⟨_, rfl⟩)) rfl rfl rfl rfl (Nat.le_of_ble_eq_true rfl) (z52 hg3578) rfl (qI_le (by decide) (m_bad1 (d := 0) (e := 0) hg3578 (by omega) (by omega) (by omega) (by omega) hs3578 (by omega))) (fun y3595 h3595 hRy3595 => ?_)
  obtain ⟨hg3595, hy3595, ⟨z3595, hz3595, ez3595⟩, F3595⟩ := hRy3595
  refine y_iF (c := .eq) (off := 5) (len := 3) (r := (0, 0, 0, 0)) (by decide +kernel) (acmpF (c := .eq) (by show ¬ (_ = _); omega)) ?_
  refine y_ic (c := 0) (len := 1) (r := (0, 0, 0, 0)) (by decide +kernel) (by decide) (fun y3596 hy3596 => ?_)
  refine y_rI (len := 1) (r := (0, 0, 0, 0)) (nL := 3) (k := 1) (n9 := 3) (hs := []) (by decide +kernel) rfl rfl ?_
  exact ((F3595 52 31 (by omega)).trans (ho3578 52 31 (by omega)))
theorem jp_dropT1 {t : Nat} {τ : List Nat} {h : zh} {cur : bsT} {hs : List bsT} {x xk : Int32} (hg : hG τ h) (rm : RM h cur hs) (hx : x.toInt = 1) (hk : ¬ (0 ≤ xk.toInt ∧ xk.toInt < (cur.2.1.length : Int))) : qI 60 190 [some (.inl (some 52)), some (zi x), some (zi xk)] h t (fun y h1 => hsl h1 52 31 = hsl h 52 31) := by
  refine qI_le (d := 21) (by decide) (qI_of ?_)
  have lz := len55 hg rm.1
  obtain ⟨⟨xp0z, hp0z, ep0z⟩, ⟨xc0z, hc0z, ec0z⟩, ip0z, ic0z⟩ := rm.1.1
  obtain ⟨⟨xp1z, hp1z, ep1z⟩, ⟨xc1z, hc1z, ec1z⟩, ip1z, ic1z⟩ := rm.1.2
  refine y_same (i := .aload_n 0) (len := 1) (r := (0, 0, 0, 0)) (pc' := 1) (ls' := [some (.inl (some 52)), some (zi x), some (zi xk)]) (st' := [.inl (some 52)]) (by decide +kernel) (fun k q => by cases q) rfl ?_
  refine y_ic (c := 0) (len := 1) (r := (0, 0, 0, 0)) (by decide +kernel) (by decide) (fun y3597 hy3597 => ?_)
  refine y_put (j := 92) (lo := (-2147483648)) (hi := 2147483647) (len := 3) (r := (12, 0, 0, 1328)) (by decide +kernel) hg (t52 hg) at52 rfl rfl (by decide) rfl (qin_full _).1 (qin_full _).2 rfl (fun h3598 hg3598 hl3598 hs3598 ho3598 => ?_)
  have ho3598 : hO 52 0 h h3598 := ho3598
  have hs3598 : hsl h3598 52 0 = some (zi y3597) := hs3598
  refine y_same (i := .aload_n 0) (len := 1) (r := (0, 0, 0, 0)) (pc' := 6) (ls' := [some (.inl (some 52)), some (zi x), some (zi xk)]) (st' := [.inl (some 52)]) (by decide +kernel) (fun k q => by cases q) rfl ?_
  refine y_same (i := .iload_n 1) (len := 1) (r := (0, 0, 0, 0)) (pc' := 7) (ls' := [some (.inl (some 52)), some (zi x), some (zi xk)]) (st' := [zi x, .inl (some 52)]) (by decide +kernel) (fun k q => by cases q) rfl ?_
  refine y_ic (c := 0) (len := 1) (r := (0, 0, 0, 0)) (by decide +kernel) (by decide) (fun y3599 hy3599 => ?_)
  refine y_ic (c := 1) (len := 1) (r := (0, 0, 0, 0)) (by decide +kernel) (by decide) (fun y3600 hy3600 => ?_)
  refine y_cI (i := .invokestatic 200) (len := 3) (r := (1, 162, 12, 1486)) (nL := 3) (k := 2) (n := 3) (hs := []) (args := [zi x, zi y3599, zi y3600]) (rest := [.inl (some 52)]) (l0 := [some (zi x), some (zi y3599), some (zi y3600)]) (by decide +kernel) (Or.inl ⟨_, rfl⟩) rfl rfl rfl rfl (Nat.le_of_ble_eq_true rfl) rfl rfl (qI_le (by decide) (m_in (d := 0) (by omega) (by omega))) (fun y3601 qy3601 hRy3601 => ?_)
  obtain ⟨rfl, hy3601⟩ := hRy3601
  refine y_iF (c := .eq) (off := 29) (len := 3) (r := (0, 0, 0, 0)) (by decide +kernel) (acmpF (c := .eq) (by show ¬ (_ = _); omega)) ?_
  refine y_same (i := .iload_n 2) (len := 1) (r := (0, 0, 0, 0)) (pc' := 16) (ls' := [some (.inl (some 52)), some (zi x), some (zi xk)]) (st' := [zi xk, .inl (some 52)]) (by decide +kernel) (fun k q => by cases q) rfl ?_
  refine y_ic (c := 0) (len := 1) (r := (0, 0, 0, 0)) (by decide +kernel) (by decide) (fun y3602 hy3602 => ?_)
  refine y_same (i := .aload_n 0) (len := 1) (r := (0, 0, 0, 0)) (pc' := 18) (ls' := [some (.inl (some 52)), some (zi x), some (zi xk)]) (st' := [.inl (some 52), zi y3602, zi xk, .inl (some 52)]) (by decide +kernel) (fun k q => by cases q) rfl ?_
  refine y_get (j := 20) (len := 3) (r := (12, 9, 2, 1337)) (by decide +kernel) hg3598 (t52 hg3598) at52 rfl rfl (g_r52 (f := 9) (T2 := 55) hg3598 rfl (by decide)).1 ?_
  refine y_ic (c := 1) (len := 1) (r := (0, 0, 0, 0)) (by decide +kernel) (by decide) (fun y3603 hy3603 => ?_)
  refine y_ic (c := 0) (len := 1) (r := (0, 0, 0, 0)) (by decide +kernel) (by decide) (fun y3604 hy3604 => ?_)
  refine y_same (i := .iload_n 1) (len := 1) (r := (0, 0, 0, 0)) (pc' := 24) (ls' := [some (.inl (some 52)), some (zi x), some (zi xk)]) (st' := [zi x, zi y3604, zi y3603, .inl (some 55), zi y3602, zi xk, .inl (some 52)]) (by decide +kernel) (fun k q => by cases q) rfl ?_
  refine y_cI (i := .invokestatic 230) (len := 3) (r := (1, 164, 12, 1591)) (nL := 2) (k := 1) (n := 2) (hs := []) (args := [zi y3604, zi x]) (rest := [zi y3603, .inl (some 55), zi y3602, zi xk, .inl (some 52)]) (l0 := [some (zi y3604), some (zi x)]) (by decide +kernel) (Or.inl ⟨_, rfl⟩) rfl rfl rfl rfl (Nat.le_of_ble_eq_true rfl) rfl rfl (qI_le (by decide) (e_more (d := 0))) (fun y3605 qy3605 hRy3605 => ?_)
  obtain ⟨rfl, my3605, ny3605⟩ := hRy3605
  have ey3605 : y3605.toInt = 1 := by omega
  refine y_cI (i := .invokestatic 233) (len := 3) (r := (1, 163, 12, 1594)) (nL := 2) (k := 1) (n := 2) (hs := []) (args := [zi y3603, zi y3605]) (rest := [.inl (some 55), zi y3602, zi xk, .inl (some 52)]) (l0 := [some (zi y3603), some (zi y3605)]) (by decide +kernel) (Or.inl ⟨_, rfl⟩) rfl rfl rfl rfl (Nat.le_of_ble_eq_true rfl) rfl rfl (qI_le (by decide) (e_less (d := 0))) (fun y3606 qy3606 hRy3606 => ?_)
  obtain ⟨rfl, my3606, ny3606⟩ := hRy3606
  have ey3606 : y3606.toInt = 1 := by omega
  have hv3608 := (ho3598 55 46 (Or.inl (by omega))).trans hp1z
  refine y_cI (i := .invokestatic 143) (len := 3) (r := (1, 166, 12, 1543)) (nL := 2) (k := 1) (n := 2) (hs := []) (args := [.inl (some 55), zi y3606]) (rest := [zi y3602, zi xk, .inl (some 52)]) (l0 := [some (.inl (some 55)), some (zi y3606)]) (by decide +kernel) (Or.inl ⟨_, rfl⟩) rfl rfl rfl rfl (Nat.le_of_ble_eq_true rfl) rfl rfl (qI_le (by decide) (m_parts (d := 0) (s := 1) hg3598 (by omega) (by omega) hv3608)) (fun y3607 qy3607 hRy3607 => ?_)
  obtain ⟨rfl, rfl⟩ := hRy3607
  refine y_ic (c := 1) (len := 1) (r := (0, 0, 0, 0)) (by decide +kernel) (by decide) (fun y3609 hy3609 => ?_)
  refine y_sub (len := 1) (r := (0, 0, 0, 0)) (by decide +kernel) (by omega) (by omega) (fun y3610 hy3610 => ?_)
  refine y_cI (i := .invokestatic 200) (len := 3) (r := (1, 162, 12, 1486)) (nL := 3) (k := 2) (n := 3) (hs := []) (args := [zi xk, zi y3602, zi y3610]) (rest := [.inl (some 52)]) (l0 := [some (zi xk), some (zi y3602), some (zi y3610)]) (by decide +kernel) (Or.inl ⟨_, rfl⟩) rfl rfl rfl rfl (Nat.le_of_ble_eq_true rfl) rfl rfl (qI_le (by decide) (m_in0 (d := 0) (by omega))) (fun y3611 qy3611 hRy3611 => ?_)
  obtain ⟨rfl, hy3611⟩ := hRy3611
  refine y_iF (c := .ne) (off := 7) (len := 3) (r := (0, 0, 0, 0)) (by decide +kernel) (acmpF (c := .ne) (by show _ = _; omega)) ?_
  refine y_ic (c := 1) (len := 1) (r := (0, 0, 0, 0)) (by decide +kernel) (by decide) (fun y3612 hy3612 => ?_)
  refine y_goto (off := 4) (pc' := 46) (len := 3) (r := (0, 0, 0, 0)) (by decide +kernel) (by decide +kernel) ?_
  refine y_ic (c := 1) (len := 1) (r := (0, 0, 0, 0)) (by decide +kernel) (by decide) (fun y3613 hy3613 => ?_)
  refine y_ic (c := 0) (len := 1) (r := (0, 0, 0, 0)) (by decide +kernel) (by decide) (fun y3614 hy3614 => ?_)
  refine y_cI (i := .invokevirtual 204) (len := 3) (r := (0, 161, 12, 1489)) (nL := 4) (k := 2) (n := 4) (hs := []) (args := [.inl (some 52), zi y3612, zi y3613, zi y3614]) (rest := []) (l0 := [some (.inl (some 52)), some (zi y3612), some (zi y3613), some (zi y3614)]) (by decide +kernel) (Or.inr (Or.inl ⟨_, rfl⟩)) rfl rfl rfl rfl (Nat.le_of_ble_eq_true rfl) (z52 hg3598) rfl (qI_le (by decide) (m_bad1 (d := 0) (e := 0) hg3598 (by omega) (by omega) (by omega) (by omega) hs3598 (by omega))) (fun y3615 h3615 hRy3615 => ?_)
  obtain ⟨hg3615, hy3615, ⟨z3615, hz3615, ez3615⟩, F3615⟩ := hRy3615
  refine y_iF (c := .eq) (off := 5) (len := 3) (r := (0, 0, 0, 0)) (by decide +kernel) (acmpF (c := .eq) (by show ¬ (_ = _); omega)) ?_
  refine y_ic (c := 0) (len := 1) (r := (0, 0, 0, 0)) (by decide +kernel) (by decide) (fun y3616 hy3616 => ?_)
  refine y_rI (len := 1) (r := (0, 0, 0, 0)) (nL := 3) (k := 1) (n9 := 3) (hs := []) (by decide +kernel) rfl rfl ?_
  exact ((F3615 52 31 (by omega)).trans (ho3598 52 31 (by omega)))
theorem jp_dropT {t : Nat} {τ : List Nat} {h : zh} {cur : bsT} {hs : List bsT} {x xk : Int32} (hg : hG τ h) (rm : RM h cur hs) (hx : ¬ (x.toInt = 0 ∨ x.toInt = 1)) : qI 60 190 [some (.inl (some 52)), some (zi x), some (zi xk)] h t (fun y h1 => hsl h1 52 31 = hsl h 52 31) := by
  refine qI_le (d := 21) (by decide) (qI_of ?_)
  have lz := len55 hg rm.1
  obtain ⟨⟨xp0z, hp0z, ep0z⟩, ⟨xc0z, hc0z, ec0z⟩, ip0z, ic0z⟩ := rm.1.1
  obtain ⟨⟨xp1z, hp1z, ep1z⟩, ⟨xc1z, hc1z, ec1z⟩, ip1z, ic1z⟩ := rm.1.2
  refine y_same (i := .aload_n 0) (len := 1) (r := (0, 0, 0, 0)) (pc' := 1) (ls' := [some (.inl (some 52)), some (zi x), some (zi xk)]) (st' := [.inl (some 52)]) (by decide +kernel) (fun k q => by cases q) rfl ?_
  refine y_ic (c := 0) (len := 1) (r := (0, 0, 0, 0)) (by decide +kernel) (by decide) (fun y3617 hy3617 => ?_)
  refine y_put (j := 92) (lo := (-2147483648)) (hi := 2147483647) (len := 3) (r := (12, 0, 0, 1328)) (by decide +kernel) hg (t52 hg) at52 rfl rfl (by decide) rfl (qin_full _).1 (qin_full _).2 rfl (fun h3618 hg3618 hl3618 hs3618 ho3618 => ?_)
  have ho3618 : hO 52 0 h h3618 := ho3618
  have hs3618 : hsl h3618 52 0 = some (zi y3617) := hs3618
  refine y_same (i := .aload_n 0) (len := 1) (r := (0, 0, 0, 0)) (pc' := 6) (ls' := [some (.inl (some 52)), some (zi x), some (zi xk)]) (st' := [.inl (some 52)]) (by decide +kernel) (fun k q => by cases q) rfl ?_
  refine y_same (i := .iload_n 1) (len := 1) (r := (0, 0, 0, 0)) (pc' := 7) (ls' := [some (.inl (some 52)), some (zi x), some (zi xk)]) (st' := [zi x, .inl (some 52)]) (by decide +kernel) (fun k q => by cases q) rfl ?_
  refine y_ic (c := 0) (len := 1) (r := (0, 0, 0, 0)) (by decide +kernel) (by decide) (fun y3619 hy3619 => ?_)
  refine y_ic (c := 1) (len := 1) (r := (0, 0, 0, 0)) (by decide +kernel) (by decide) (fun y3620 hy3620 => ?_)
  refine y_cI (i := .invokestatic 200) (len := 3) (r := (1, 162, 12, 1486)) (nL := 3) (k := 2) (n := 3) (hs := []) (args := [zi x, zi y3619, zi y3620]) (rest := [.inl (some 52)]) (l0 := [some (zi x), some (zi y3619), some (zi y3620)]) (by decide +kernel) (Or.inl ⟨_, rfl⟩) rfl rfl rfl rfl (Nat.le_of_ble_eq_true rfl) rfl rfl (qI_le (by decide) (m_in0 (d := 0) (by omega))) (fun y3621 qy3621 hRy3621 => ?_)
  obtain ⟨rfl, hy3621⟩ := hRy3621
  refine y_iT (c := .eq) (off := 29) (pc' := 41) (len := 3) (r := (0, 0, 0, 0)) (by decide +kernel) (acmpT (c := .eq) (by show _ = _; omega)) (by decide +kernel) ?_
  refine y_ic (c := 1) (len := 1) (r := (0, 0, 0, 0)) (by decide +kernel) (by decide) (fun y3622 hy3622 => ?_)
  refine y_goto (off := 4) (pc' := 46) (len := 3) (r := (0, 0, 0, 0)) (by decide +kernel) (by decide +kernel) ?_
  refine y_ic (c := 1) (len := 1) (r := (0, 0, 0, 0)) (by decide +kernel) (by decide) (fun y3623 hy3623 => ?_)
  refine y_ic (c := 0) (len := 1) (r := (0, 0, 0, 0)) (by decide +kernel) (by decide) (fun y3624 hy3624 => ?_)
  refine y_cI (i := .invokevirtual 204) (len := 3) (r := (0, 161, 12, 1489)) (nL := 4) (k := 2) (n := 4) (hs := []) (args := [.inl (some 52), zi y3622, zi y3623, zi y3624]) (rest := []) (l0 := [some (.inl (some 52)), some (zi y3622), some (zi y3623), some (zi y3624)]) (by decide +kernel) (Or.inr (Or.inl ⟨_, rfl⟩)) rfl rfl rfl rfl (Nat.le_of_ble_eq_true rfl) (z52 hg3618) rfl (qI_le (by decide) (m_bad1 (d := 0) (e := 0) hg3618 (by omega) (by omega) (by omega) (by omega) hs3618 (by omega))) (fun y3625 h3625 hRy3625 => ?_)
  obtain ⟨hg3625, hy3625, ⟨z3625, hz3625, ez3625⟩, F3625⟩ := hRy3625
  refine y_iF (c := .eq) (off := 5) (len := 3) (r := (0, 0, 0, 0)) (by decide +kernel) (acmpF (c := .eq) (by show ¬ (_ = _); omega)) ?_
  refine y_ic (c := 0) (len := 1) (r := (0, 0, 0, 0)) (by decide +kernel) (by decide) (fun y3626 hy3626 => ?_)
  refine y_rI (len := 1) (r := (0, 0, 0, 0)) (nL := 3) (k := 1) (n9 := 3) (hs := []) (by decide +kernel) rfl rfl ?_
  exact ((F3625 52 31 (by omega)).trans (ho3618 52 31 (by omega)))
theorem jp_dropX {t : Nat} {τ : List Nat} {h : zh} {cur : bsT} {hs : List bsT} {x xk : Int32} (hg : hG τ h) (rm : RM h cur hs) (hb : ¬ ((x.toInt = 0 ∧ 0 ≤ xk.toInt ∧ xk.toInt < (cur.1.1.length : Int)) ∨ (x.toInt = 1 ∧ 0 ≤ xk.toInt ∧ xk.toInt < (cur.2.1.length : Int)))) : qI 60 190 [some (.inl (some 52)), some (zi x), some (zi xk)] h t (fun y h1 => hsl h1 52 31 = hsl h 52 31) := by
  rcases Decidable.em (x.toInt = 0) with q | q
  · exact jp_dropT0 hg rm q (by omega)
  · rcases Decidable.em (x.toInt = 1) with q1 | q1
    · exact jp_dropT1 hg rm q1 (by omega)
    · exact jp_dropT hg rm (by omega)
theorem jp_forgetM0 {t k : Nat} {τ : List Nat} {h : zh} {cur : bsT} {hs : List bsT} {x xk : Int32} (hg : hG τ h) (rm : RM h cur hs) (hx : x.toInt = 0) (exk : xk.toInt = (k : Int)) (hk : k < cur.1.2.length) : qI 60 191 [some (.inl (some 52)), some (zi x), some (zi xk)] h t (fun y h1 => ci_ h1 52 31 0) := by
  refine qI_le (d := 21) (by decide) (qI_of ?_)
  have lz := len55 hg rm.1
  obtain ⟨⟨xp0z, hp0z, ep0z⟩, ⟨xc0z, hc0z, ec0z⟩, ip0z, ic0z⟩ := rm.1.1
  obtain ⟨⟨xp1z, hp1z, ep1z⟩, ⟨xc1z, hc1z, ec1z⟩, ip1z, ic1z⟩ := rm.1.2
  refine y_same (i := .aload_n 0) (len := 1) (r := (0, 0, 0, 0)) (pc' := 1) (ls' := [some (.inl (some 52)), some (zi x), some (zi xk)]) (st' := [.inl (some 52)]) (by decide +kernel) (fun k q => by cases q) rfl ?_
  refine y_ic (c := 0) (len := 1) (r := (0, 0, 0, 0)) (by decide +kernel) (by decide) (fun y3627 hy3627 => ?_)
  refine y_put (j := 92) (lo := (-2147483648)) (hi := 2147483647) (len := 3) (r := (12, 0, 0, 1328)) (by decide +kernel) hg (t52 hg) at52 rfl rfl (by decide) rfl (qin_full _).1 (qin_full _).2 rfl (fun h3628 hg3628 hl3628 hs3628 ho3628 => ?_)
  have ho3628 : hO 52 0 h h3628 := ho3628
  have hs3628 : hsl h3628 52 0 = some (zi y3627) := hs3628
  refine y_same (i := .aload_n 0) (len := 1) (r := (0, 0, 0, 0)) (pc' := 6) (ls' := [some (.inl (some 52)), some (zi x), some (zi xk)]) (st' := [.inl (some 52)]) (by decide +kernel) (fun k q => by cases q) rfl ?_
  refine y_same (i := .iload_n 1) (len := 1) (r := (0, 0, 0, 0)) (pc' := 7) (ls' := [some (.inl (some 52)), some (zi x), some (zi xk)]) (st' := [zi x, .inl (some 52)]) (by decide +kernel) (fun k q => by cases q) rfl ?_
  refine y_ic (c := 0) (len := 1) (r := (0, 0, 0, 0)) (by decide +kernel) (by decide) (fun y3629 hy3629 => ?_)
  refine y_ic (c := 1) (len := 1) (r := (0, 0, 0, 0)) (by decide +kernel) (by decide) (fun y3630 hy3630 => ?_)
  refine y_cI (i := .invokestatic 200) (len := 3) (r := (1, 162, 12, 1486)) (nL := 3) (k := 2) (n := 3) (hs := []) (args := [zi x, zi y3629, zi y3630]) (rest := [.inl (some 52)]) (l0 := [some (zi x), some (zi y3629), some (zi y3630)]) (by decide +kernel) (Or.inl ⟨_, rfl⟩) rfl rfl rfl rfl (Nat.le_of_ble_eq_true rfl) rfl rfl (qI_le (by decide) (m_in (d := 0) (by omega) (by omega))) (fun y3631 qy3631 hRy3631 => ?_)
  obtain ⟨rfl, hy3631⟩ := hRy3631
  refine y_iF (c := .eq) (off := 29) (len := 3) (r := (0, 0, 0, 0)) (by decide +kernel) (acmpF (c := .eq) (by show ¬ (_ = _); omega)) ?_
  refine y_same (i := .iload_n 2) (len := 1) (r := (0, 0, 0, 0)) (pc' := 16) (ls' := [some (.inl (some 52)), some (zi x), some (zi xk)]) (st' := [zi xk, .inl (some 52)]) (by decide +kernel) (fun k q => by cases q) rfl ?_
  refine y_ic (c := 0) (len := 1) (r := (0, 0, 0, 0)) (by decide +kernel) (by decide) (fun y3632 hy3632 => ?_)
  refine y_same (i := .aload_n 0) (len := 1) (r := (0, 0, 0, 0)) (pc' := 18) (ls' := [some (.inl (some 52)), some (zi x), some (zi xk)]) (st' := [.inl (some 52), zi y3632, zi xk, .inl (some 52)]) (by decide +kernel) (fun k q => by cases q) rfl ?_
  refine y_get (j := 20) (len := 3) (r := (12, 9, 2, 1337)) (by decide +kernel) hg3628 (t52 hg3628) at52 rfl rfl (g_r52 (f := 9) (T2 := 55) hg3628 rfl (by decide)).1 ?_
  refine y_ic (c := 1) (len := 1) (r := (0, 0, 0, 0)) (by decide +kernel) (by decide) (fun y3633 hy3633 => ?_)
  refine y_ic (c := 0) (len := 1) (r := (0, 0, 0, 0)) (by decide +kernel) (by decide) (fun y3634 hy3634 => ?_)
  refine y_same (i := .iload_n 1) (len := 1) (r := (0, 0, 0, 0)) (pc' := 24) (ls' := [some (.inl (some 52)), some (zi x), some (zi xk)]) (st' := [zi x, zi y3634, zi y3633, .inl (some 55), zi y3632, zi xk, .inl (some 52)]) (by decide +kernel) (fun k q => by cases q) rfl ?_
  refine y_cI (i := .invokestatic 230) (len := 3) (r := (1, 164, 12, 1591)) (nL := 2) (k := 1) (n := 2) (hs := []) (args := [zi y3634, zi x]) (rest := [zi y3633, .inl (some 55), zi y3632, zi xk, .inl (some 52)]) (l0 := [some (zi y3634), some (zi x)]) (by decide +kernel) (Or.inl ⟨_, rfl⟩) rfl rfl rfl rfl (Nat.le_of_ble_eq_true rfl) rfl rfl (qI_le (by decide) (e_more (d := 0))) (fun y3635 qy3635 hRy3635 => ?_)
  obtain ⟨rfl, my3635, ny3635⟩ := hRy3635
  have ey3635 : y3635.toInt = 0 := by omega
  refine y_cI (i := .invokestatic 233) (len := 3) (r := (1, 163, 12, 1594)) (nL := 2) (k := 1) (n := 2) (hs := []) (args := [zi y3633, zi y3635]) (rest := [.inl (some 55), zi y3632, zi xk, .inl (some 52)]) (l0 := [some (zi y3633), some (zi y3635)]) (by decide +kernel) (Or.inl ⟨_, rfl⟩) rfl rfl rfl rfl (Nat.le_of_ble_eq_true rfl) rfl rfl (qI_le (by decide) (e_less (d := 0))) (fun y3636 qy3636 hRy3636 => ?_)
  obtain ⟨rfl, my3636, ny3636⟩ := hRy3636
  have ey3636 : y3636.toInt = 0 := by omega
  have hv3638 := (ho3628 55 1 (Or.inl (by omega))).trans hc0z
  refine y_cI (i := .invokestatic 155) (len := 3) (r := (1, 167, 12, 1560)) (nL := 2) (k := 1) (n := 2) (hs := []) (args := [.inl (some 55), zi y3636]) (rest := [zi y3632, zi xk, .inl (some 52)]) (l0 := [some (.inl (some 55)), some (zi y3636)]) (by decide +kernel) (Or.inl ⟨_, rfl⟩) rfl rfl rfl rfl (Nat.le_of_ble_eq_true rfl) rfl rfl (qI_le (by decide) (m_claims (d := 0) (s := 0) hg3628 (by omega) (by omega) hv3638)) (fun y3637 qy3637 hRy3637 => ?_)
  obtain ⟨rfl, rfl⟩ := hRy3637
  refine y_ic (c := 1) (len := 1) (r := (0, 0, 0, 0)) (by decide +kernel) (by decide) (fun y3639 hy3639 => ?_)
  refine y_sub (len := 1) (r := (0, 0, 0, 0)) (by decide +kernel) (by omega) (by omega) (fun y3640 hy3640 => ?_)
  refine y_cI (i := .invokestatic 200) (len := 3) (r := (1, 162, 12, 1486)) (nL := 3) (k := 2) (n := 3) (hs := []) (args := [zi xk, zi y3632, zi y3640]) (rest := [.inl (some 52)]) (l0 := [some (zi xk), some (zi y3632), some (zi y3640)]) (by decide +kernel) (Or.inl ⟨_, rfl⟩) rfl rfl rfl rfl (Nat.le_of_ble_eq_true rfl) rfl rfl (qI_le (by decide) (m_in (d := 0) (by omega) (by omega))) (fun y3641 qy3641 hRy3641 => ?_)
  obtain ⟨rfl, hy3641⟩ := hRy3641
  refine y_iT (c := .ne) (off := 7) (pc' := 45) (len := 3) (r := (0, 0, 0, 0)) (by decide +kernel) (acmpT (c := .ne) (by show ¬ (_ = _); omega)) (by decide +kernel) ?_
  refine y_ic (c := 0) (len := 1) (r := (0, 0, 0, 0)) (by decide +kernel) (by decide) (fun y3642 hy3642 => ?_)
  refine y_ic (c := 1) (len := 1) (r := (0, 0, 0, 0)) (by decide +kernel) (by decide) (fun y3643 hy3643 => ?_)
  refine y_ic (c := 0) (len := 1) (r := (0, 0, 0, 0)) (by decide +kernel) (by decide) (fun y3644 hy3644 => ?_)
  refine y_cI (i := .invokevirtual 204) (len := 3) (r := (0, 161, 12, 1489)) (nL := 4) (k := 2) (n := 4) (hs := []) (args := [.inl (some 52), zi y3642, zi y3643, zi y3644]) (rest := []) (l0 := [some (.inl (some 52)), some (zi y3642), some (zi y3643), some (zi y3644)]) (by decide +kernel) (Or.inr (Or.inl ⟨_, rfl⟩)) rfl rfl rfl rfl (Nat.le_of_ble_eq_true rfl) (z52 hg3628) rfl (qI_le (by decide) (m_bad (d := 0) hg3628 (by omega) hs3628 (by omega))) (fun y3645 qy3645 hRy3645 => ?_)
  obtain ⟨rfl, hy3645⟩ := hRy3645
  refine y_iT (c := .eq) (off := 5) (pc' := 56) (len := 3) (r := (0, 0, 0, 0)) (by decide +kernel) (acmpT (c := .eq) (by show _ = _; omega)) (by decide +kernel) ?_
  refine y_same (i := .aload_n 0) (len := 1) (r := (0, 0, 0, 0)) (pc' := 57) (ls' := [some (.inl (some 52)), some (zi x), some (zi xk)]) (st' := [.inl (some 52)]) (by decide +kernel) (fun k q => by cases q) rfl ?_
  refine y_cV (i := .invokevirtual 213) (len := 3) (r := (0, 186, 12, 1568)) (nL := 2) (k := 0) (n := 1) (hs := []) (args := [.inl (some 52)]) (rest := []) (l0 := [some (.inl (some 52)), none]) (by decide +kernel) (Or.inr (Or.inl ⟨_, rfl⟩)) rfl rfl rfl rfl (Nat.le_of_ble_eq_true rfl) (z52 hg3628) rfl (qV_le (by decide) (m_remQ hg3628 (RM_up rm (fun k j h1 => (ho3628 k j (by omega)))))) (fun h3646 hR3646 => ?_)
  obtain ⟨⟨hg3646, rm3646, F3646⟩, jx3646, jh3646, je3646⟩ := hR3646
  have le3646 := len55 hg3646 rm3646.1
  obtain ⟨⟨xp03646, hp03646, ep03646⟩, ⟨xc03646, hc03646, ec03646⟩, ip03646, ic03646⟩ := rm3646.1.1
  obtain ⟨⟨xp13646, hp13646, ep13646⟩, ⟨xc13646, hc13646, ec13646⟩, ip13646, ic13646⟩ := rm3646.1.2
  refine y_same (i := .aload_n 0) (len := 1) (r := (0, 0, 0, 0)) (pc' := 61) (ls' := [some (.inl (some 52)), some (zi x), some (zi xk)]) (st' := [.inl (some 52)]) (by decide +kernel) (fun k q => by cases q) rfl ?_
  refine y_same (i := .iload_n 1) (len := 1) (r := (0, 0, 0, 0)) (pc' := 62) (ls' := [some (.inl (some 52)), some (zi x), some (zi xk)]) (st' := [zi x, .inl (some 52)]) (by decide +kernel) (fun k q => by cases q) rfl ?_
  refine y_same (i := .iload_n 2) (len := 1) (r := (0, 0, 0, 0)) (pc' := 63) (ls' := [some (.inl (some 52)), some (zi x), some (zi xk)]) (st' := [zi xk, zi x, .inl (some 52)]) (by decide +kernel) (fun k q => by cases q) rfl ?_
  refine y_cI (i := .invokestatic 158) (len := 3) (r := (1, 169, 12, 1563)) (nL := 2) (k := 1) (n := 2) (hs := []) (args := [zi x, zi xk]) (rest := [.inl (some 52)]) (l0 := [some (zi x), some (zi xk)]) (by decide +kernel) (Or.inl ⟨_, rfl⟩) rfl rfl rfl rfl (Nat.le_of_ble_eq_true rfl) rfl rfl (qI_le (by decide) (m_claimAt (d := 0) (s := 0) (k := k) (by omega) (by omega) exk (by omega))) (fun y3647 qy3647 hRy3647 => ?_)
  obtain ⟨rfl, hy3647⟩ := hRy3647
  refine y_same (i := .aload_n 0) (len := 1) (r := (0, 0, 0, 0)) (pc' := 67) (ls' := [some (.inl (some 52)), some (zi x), some (zi xk)]) (st' := [.inl (some 52), zi y3647, .inl (some 52)]) (by decide +kernel) (fun k q => by cases q) rfl ?_
  refine y_get (j := 20) (len := 3) (r := (12, 9, 2, 1337)) (by decide +kernel) hg3646 (t52 hg3646) at52 rfl rfl (g_r52 (f := 9) (T2 := 55) hg3646 rfl (by decide)).1 ?_
  refine y_same (i := .iload_n 1) (len := 1) (r := (0, 0, 0, 0)) (pc' := 71) (ls' := [some (.inl (some 52)), some (zi x), some (zi xk)]) (st' := [zi x, .inl (some 55), zi y3647, .inl (some 52)]) (by decide +kernel) (fun k q => by cases q) rfl ?_
  refine y_cI (i := .invokestatic 155) (len := 3) (r := (1, 167, 12, 1560)) (nL := 2) (k := 1) (n := 2) (hs := []) (args := [.inl (some 55), zi x]) (rest := [zi y3647, .inl (some 52)]) (l0 := [some (.inl (some 55)), some (zi x)]) (by decide +kernel) (Or.inl ⟨_, rfl⟩) rfl rfl rfl rfl (Nat.le_of_ble_eq_true rfl) rfl rfl (qI_le (by decide) (m_claims (d := 0) (s := 0) hg3646 (by omega) (by omega) hc03646)) (fun y3648 qy3648 hRy3648 => ?_)
  obtain ⟨rfl, rfl⟩ := hRy3648
  refine y_same (i := .iload_n 2) (len := 1) (r := (0, 0, 0, 0)) (pc' := 75) (ls' := [some (.inl (some 52)), some (zi x), some (zi xk)]) (st' := [zi xk, zi xc03646, zi y3647, .inl (some 52)]) (by decide +kernel) (fun k q => by cases q) rfl ?_
  refine y_sub (len := 1) (r := (0, 0, 0, 0)) (by decide +kernel) (by omega) (by omega) (fun y3649 hy3649 => ?_)
  refine y_cV (i := .invokevirtual 236) (len := 3) (r := (0, 189, 12, 1597)) (nL := 4) (k := 0) (n := 3) (hs := []) (args := [.inl (some 52), zi y3647, zi y3649]) (rest := []) (l0 := [some (.inl (some 52)), some (zi y3647), some (zi y3649), none]) (by decide +kernel) (Or.inr (Or.inl ⟨_, rfl⟩)) rfl rfl rfl rfl (Nat.le_of_ble_eq_true rfl) (z52 hg3646) rfl (qV_le (by decide) (m_closes (f := (22 + 4 * k)) (m := (cur.1.2.length - k)) hg3646 (by omega) (by omega) (by omega) (by omega))) (fun h3650 hR3650 => ?_)
  obtain ⟨hg3650, a3650, F3650⟩ := hR3650
  refine y_same (i := .aload_n 0) (len := 1) (r := (0, 0, 0, 0)) (pc' := 80) (ls' := [some (.inl (some 52)), some (zi x), some (zi xk)]) (st' := [.inl (some 52)]) (by decide +kernel) (fun k q => by cases q) rfl ?_
  refine y_get (j := 20) (len := 3) (r := (12, 9, 2, 1337)) (by decide +kernel) hg3650 (t52 hg3650) at52 rfl rfl (g_r52 (f := 9) (T2 := 55) hg3650 rfl (by decide)).1 ?_
  refine y_bi (c := 46) (len := 2) (r := (0, 0, 0, 0)) (by decide +kernel) (by decide) (fun y3651 hy3651 => ?_)
  refine y_same (i := .iload_n 1) (len := 1) (r := (0, 0, 0, 0)) (pc' := 86) (ls' := [some (.inl (some 52)), some (zi x), some (zi xk)]) (st' := [zi x, zi y3651, .inl (some 55)]) (by decide +kernel) (fun k q => by cases q) rfl ?_
  refine y_mul (c := 46) (len := 1) (r := (0, 0, 0, 0)) (by decide +kernel) (by omega) (by omega) (by omega) (fun y3652 hy3652 => ?_)
  refine y_ic (c := 1) (len := 1) (r := (0, 0, 0, 0)) (by decide +kernel) (by decide) (fun y3653 hy3653 => ?_)
  refine y_add (len := 1) (r := (0, 0, 0, 0)) (by decide +kernel) (by omega) (by omega) (fun y3654 hy3654 => ?_)
  refine y_same (i := .dup2) (len := 1) (r := (0, 0, 0, 0)) (pc' := 90) (ls' := [some (.inl (some 52)), some (zi x), some (zi xk)]) (st' := [zi y3654, .inl (some 55), zi y3654, .inl (some 55)]) (by decide +kernel) (fun k q => by cases q) rfl ?_
  have hv3655 := (F3650 55 1 (by omega)).trans hc03646
  refine y_ial (i := 1) (len := 1) (r := (0, 0, 0, 0)) (by decide +kernel) hg3650 (tv55 hg3650) av55 (by omega) hv3655 ?_
  refine y_ic (c := 1) (len := 1) (r := (0, 0, 0, 0)) (by decide +kernel) (by decide) (fun y3656 hy3656 => ?_)
  refine y_sub (len := 1) (r := (0, 0, 0, 0)) (by decide +kernel) (by omega) (by omega) (fun y3657 hy3657 => ?_)
  refine y_ias (i := 1) (len := 1) (r := (0, 0, 0, 0)) (by decide +kernel) hg3650 (tv55 hg3650) av55 rfl (by omega) (by omega) (sr92 _ (by omega)) (by omega) (by omega) (fun h3658 hg3658 hl3658 hs3658 ho3658 => ?_)
  refine y_same (i := .aload_n 0) (len := 1) (r := (0, 0, 0, 0)) (pc' := 95) (ls' := [some (.inl (some 52)), some (zi x), some (zi xk)]) (st' := [.inl (some 52)]) (by decide +kernel) (fun k q => by cases q) rfl ?_
  refine y_get (j := 20) (len := 3) (r := (12, 9, 2, 1337)) (by decide +kernel) hg3658 (t52 hg3658) at52 rfl rfl (g_r52 (f := 9) (T2 := 55) hg3658 rfl (by decide)).1 ?_
  refine y_same (i := .iload_n 1) (len := 1) (r := (0, 0, 0, 0)) (pc' := 99) (ls' := [some (.inl (some 52)), some (zi x), some (zi xk)]) (st' := [zi x, .inl (some 55)]) (by decide +kernel) (fun k q => by cases q) rfl ?_
  refine y_cI (i := .invokestatic 155) (len := 3) (r := (1, 167, 12, 1560)) (nL := 2) (k := 1) (n := 2) (hs := []) (args := [.inl (some 55), zi x]) (rest := []) (l0 := [some (.inl (some 55)), some (zi x)]) (by decide +kernel) (Or.inl ⟨_, rfl⟩) rfl rfl rfl rfl (Nat.le_of_ble_eq_true rfl) rfl rfl (qI_le (by decide) (m_claims (d := 0) (s := 0) hg3658 (by omega) (by omega) hs3658)) (fun y3659 qy3659 hRy3659 => ?_)
  obtain ⟨rfl, rfl⟩ := hRy3659
  refine y_rI (len := 1) (r := (0, 0, 0, 0)) (nL := 3) (k := 1) (n9 := 3) (hs := []) (by decide +kernel) rfl rfl ?_
  have hv3660 := (F3650 52 31 (by omega)).trans jh3646
  have hv3661 := (ho3658 52 31 (Or.inl (by omega))).trans hv3660
  exact ⟨_, hv3661, by omega⟩
theorem jp_forgetM1 {t k : Nat} {τ : List Nat} {h : zh} {cur : bsT} {hs : List bsT} {x xk : Int32} (hg : hG τ h) (rm : RM h cur hs) (hx : x.toInt = 1) (exk : xk.toInt = (k : Int)) (hk : k < cur.2.2.length) : qI 60 191 [some (.inl (some 52)), some (zi x), some (zi xk)] h t (fun y h1 => ci_ h1 52 31 0) := by
  refine qI_le (d := 21) (by decide) (qI_of ?_)
  have lz := len55 hg rm.1
  obtain ⟨⟨xp0z, hp0z, ep0z⟩, ⟨xc0z, hc0z, ec0z⟩, ip0z, ic0z⟩ := rm.1.1
  obtain ⟨⟨xp1z, hp1z, ep1z⟩, ⟨xc1z, hc1z, ec1z⟩, ip1z, ic1z⟩ := rm.1.2
  refine y_same (i := .aload_n 0) (len := 1) (r := (0, 0, 0, 0)) (pc' := 1) (ls' := [some (.inl (some 52)), some (zi x), some (zi xk)]) (st' := [.inl (some 52)]) (by decide +kernel) (fun k q => by cases q) rfl ?_
  refine y_ic (c := 0) (len := 1) (r := (0, 0, 0, 0)) (by decide +kernel) (by decide) (fun y3662 hy3662 => ?_)
  refine y_put (j := 92) (lo := (-2147483648)) (hi := 2147483647) (len := 3) (r := (12, 0, 0, 1328)) (by decide +kernel) hg (t52 hg) at52 rfl rfl (by decide) rfl (qin_full _).1 (qin_full _).2 rfl (fun h3663 hg3663 hl3663 hs3663 ho3663 => ?_)
  have ho3663 : hO 52 0 h h3663 := ho3663
  have hs3663 : hsl h3663 52 0 = some (zi y3662) := hs3663
  refine y_same (i := .aload_n 0) (len := 1) (r := (0, 0, 0, 0)) (pc' := 6) (ls' := [some (.inl (some 52)), some (zi x), some (zi xk)]) (st' := [.inl (some 52)]) (by decide +kernel) (fun k q => by cases q) rfl ?_
  refine y_same (i := .iload_n 1) (len := 1) (r := (0, 0, 0, 0)) (pc' := 7) (ls' := [some (.inl (some 52)), some (zi x), some (zi xk)]) (st' := [zi x, .inl (some 52)]) (by decide +kernel) (fun k q => by cases q) rfl ?_
  refine y_ic (c := 0) (len := 1) (r := (0, 0, 0, 0)) (by decide +kernel) (by decide) (fun y3664 hy3664 => ?_)
  refine y_ic (c := 1) (len := 1) (r := (0, 0, 0, 0)) (by decide +kernel) (by decide) (fun y3665 hy3665 => ?_)
  refine y_cI (i := .invokestatic 200) (len := 3) (r := (1, 162, 12, 1486)) (nL := 3) (k := 2) (n := 3) (hs := []) (args := [zi x, zi y3664, zi y3665]) (rest := [.inl (some 52)]) (l0 := [some (zi x), some (zi y3664), some (zi y3665)]) (by decide +kernel) (Or.inl ⟨_, rfl⟩) rfl rfl rfl rfl (Nat.le_of_ble_eq_true rfl) rfl rfl (qI_le (by decide) (m_in (d := 0) (by omega) (by omega))) (fun y3666 qy3666 hRy3666 => ?_)
  obtain ⟨rfl, hy3666⟩ := hRy3666
  refine y_iF (c := .eq) (off := 29) (len := 3) (r := (0, 0, 0, 0)) (by decide +kernel) (acmpF (c := .eq) (by show ¬ (_ = _); omega)) ?_
  refine y_same (i := .iload_n 2) (len := 1) (r := (0, 0, 0, 0)) (pc' := 16) (ls' := [some (.inl (some 52)), some (zi x), some (zi xk)]) (st' := [zi xk, .inl (some 52)]) (by decide +kernel) (fun k q => by cases q) rfl ?_
  refine y_ic (c := 0) (len := 1) (r := (0, 0, 0, 0)) (by decide +kernel) (by decide) (fun y3667 hy3667 => ?_)
  refine y_same (i := .aload_n 0) (len := 1) (r := (0, 0, 0, 0)) (pc' := 18) (ls' := [some (.inl (some 52)), some (zi x), some (zi xk)]) (st' := [.inl (some 52), zi y3667, zi xk, .inl (some 52)]) (by decide +kernel) (fun k q => by cases q) rfl ?_
  refine y_get (j := 20) (len := 3) (r := (12, 9, 2, 1337)) (by decide +kernel) hg3663 (t52 hg3663) at52 rfl rfl (g_r52 (f := 9) (T2 := 55) hg3663 rfl (by decide)).1 ?_
  refine y_ic (c := 1) (len := 1) (r := (0, 0, 0, 0)) (by decide +kernel) (by decide) (fun y3668 hy3668 => ?_)
  refine y_ic (c := 0) (len := 1) (r := (0, 0, 0, 0)) (by decide +kernel) (by decide) (fun y3669 hy3669 => ?_)
  refine y_same (i := .iload_n 1) (len := 1) (r := (0, 0, 0, 0)) (pc' := 24) (ls' := [some (.inl (some 52)), some (zi x), some (zi xk)]) (st' := [zi x, zi y3669, zi y3668, .inl (some 55), zi y3667, zi xk, .inl (some 52)]) (by decide +kernel) (fun k q => by cases q) rfl ?_
  refine y_cI (i := .invokestatic 230) (len := 3) (r := (1, 164, 12, 1591)) (nL := 2) (k := 1) (n := 2) (hs := []) (args := [zi y3669, zi x]) (rest := [zi y3668, .inl (some 55), zi y3667, zi xk, .inl (some 52)]) (l0 := [some (zi y3669), some (zi x)]) (by decide +kernel) (Or.inl ⟨_, rfl⟩) rfl rfl rfl rfl (Nat.le_of_ble_eq_true rfl) rfl rfl (qI_le (by decide) (e_more (d := 0))) (fun y3670 qy3670 hRy3670 => ?_)
  obtain ⟨rfl, my3670, ny3670⟩ := hRy3670
  have ey3670 : y3670.toInt = 1 := by omega
  refine y_cI (i := .invokestatic 233) (len := 3) (r := (1, 163, 12, 1594)) (nL := 2) (k := 1) (n := 2) (hs := []) (args := [zi y3668, zi y3670]) (rest := [.inl (some 55), zi y3667, zi xk, .inl (some 52)]) (l0 := [some (zi y3668), some (zi y3670)]) (by decide +kernel) (Or.inl ⟨_, rfl⟩) rfl rfl rfl rfl (Nat.le_of_ble_eq_true rfl) rfl rfl (qI_le (by decide) (e_less (d := 0))) (fun y3671 qy3671 hRy3671 => ?_)
  obtain ⟨rfl, my3671, ny3671⟩ := hRy3671
  have ey3671 : y3671.toInt = 1 := by omega
  have hv3673 := (ho3663 55 47 (Or.inl (by omega))).trans hc1z
  refine y_cI (i := .invokestatic 155) (len := 3) (r := (1, 167, 12, 1560)) (nL := 2) (k := 1) (n := 2) (hs := []) (args := [.inl (some 55), zi y3671]) (rest := [zi y3667, zi xk, .inl (some 52)]) (l0 := [some (.inl (some 55)), some (zi y3671)]) (by decide +kernel) (Or.inl ⟨_, rfl⟩) rfl rfl rfl rfl (Nat.le_of_ble_eq_true rfl) rfl rfl (qI_le (by decide) (m_claims (d := 0) (s := 1) hg3663 (by omega) (by omega) hv3673)) (fun y3672 qy3672 hRy3672 => ?_)
  obtain ⟨rfl, rfl⟩ := hRy3672
  refine y_ic (c := 1) (len := 1) (r := (0, 0, 0, 0)) (by decide +kernel) (by decide) (fun y3674 hy3674 => ?_)
  refine y_sub (len := 1) (r := (0, 0, 0, 0)) (by decide +kernel) (by omega) (by omega) (fun y3675 hy3675 => ?_)
  refine y_cI (i := .invokestatic 200) (len := 3) (r := (1, 162, 12, 1486)) (nL := 3) (k := 2) (n := 3) (hs := []) (args := [zi xk, zi y3667, zi y3675]) (rest := [.inl (some 52)]) (l0 := [some (zi xk), some (zi y3667), some (zi y3675)]) (by decide +kernel) (Or.inl ⟨_, rfl⟩) rfl rfl rfl rfl (Nat.le_of_ble_eq_true rfl) rfl rfl (qI_le (by decide) (m_in (d := 0) (by omega) (by omega))) (fun y3676 qy3676 hRy3676 => ?_)
  obtain ⟨rfl, hy3676⟩ := hRy3676
  refine y_iT (c := .ne) (off := 7) (pc' := 45) (len := 3) (r := (0, 0, 0, 0)) (by decide +kernel) (acmpT (c := .ne) (by show ¬ (_ = _); omega)) (by decide +kernel) ?_
  refine y_ic (c := 0) (len := 1) (r := (0, 0, 0, 0)) (by decide +kernel) (by decide) (fun y3677 hy3677 => ?_)
  refine y_ic (c := 1) (len := 1) (r := (0, 0, 0, 0)) (by decide +kernel) (by decide) (fun y3678 hy3678 => ?_)
  refine y_ic (c := 0) (len := 1) (r := (0, 0, 0, 0)) (by decide +kernel) (by decide) (fun y3679 hy3679 => ?_)
  refine y_cI (i := .invokevirtual 204) (len := 3) (r := (0, 161, 12, 1489)) (nL := 4) (k := 2) (n := 4) (hs := []) (args := [.inl (some 52), zi y3677, zi y3678, zi y3679]) (rest := []) (l0 := [some (.inl (some 52)), some (zi y3677), some (zi y3678), some (zi y3679)]) (by decide +kernel) (Or.inr (Or.inl ⟨_, rfl⟩)) rfl rfl rfl rfl (Nat.le_of_ble_eq_true rfl) (z52 hg3663) rfl (qI_le (by decide) (m_bad (d := 0) hg3663 (by omega) hs3663 (by omega))) (fun y3680 qy3680 hRy3680 => ?_)
  obtain ⟨rfl, hy3680⟩ := hRy3680
  refine y_iT (c := .eq) (off := 5) (pc' := 56) (len := 3) (r := (0, 0, 0, 0)) (by decide +kernel) (acmpT (c := .eq) (by show _ = _; omega)) (by decide +kernel) ?_
  refine y_same (i := .aload_n 0) (len := 1) (r := (0, 0, 0, 0)) (pc' := 57) (ls' := [some (.inl (some 52)), some (zi x), some (zi xk)]) (st' := [.inl (some 52)]) (by decide +kernel) (fun k q => by cases q) rfl ?_
  refine y_cV (i := .invokevirtual 213) (len := 3) (r := (0, 186, 12, 1568)) (nL := 2) (k := 0) (n := 1) (hs := []) (args := [.inl (some 52)]) (rest := []) (l0 := [some (.inl (some 52)), none]) (by decide +kernel) (Or.inr (Or.inl ⟨_, rfl⟩)) rfl rfl rfl rfl (Nat.le_of_ble_eq_true rfl) (z52 hg3663) rfl (qV_le (by decide) (m_remQ hg3663 (RM_up rm (fun k j h1 => (ho3663 k j (by omega)))))) (fun h3681 hR3681 => ?_)
  obtain ⟨⟨hg3681, rm3681, F3681⟩, jx3681, jh3681, je3681⟩ := hR3681
  have le3681 := len55 hg3681 rm3681.1
  obtain ⟨⟨xp03681, hp03681, ep03681⟩, ⟨xc03681, hc03681, ec03681⟩, ip03681, ic03681⟩ := rm3681.1.1
  obtain ⟨⟨xp13681, hp13681, ep13681⟩, ⟨xc13681, hc13681, ec13681⟩, ip13681, ic13681⟩ := rm3681.1.2
  refine y_same (i := .aload_n 0) (len := 1) (r := (0, 0, 0, 0)) (pc' := 61) (ls' := [some (.inl (some 52)), some (zi x), some (zi xk)]) (st' := [.inl (some 52)]) (by decide +kernel) (fun k q => by cases q) rfl ?_
  refine y_same (i := .iload_n 1) (len := 1) (r := (0, 0, 0, 0)) (pc' := 62) (ls' := [some (.inl (some 52)), some (zi x), some (zi xk)]) (st' := [zi x, .inl (some 52)]) (by decide +kernel) (fun k q => by cases q) rfl ?_
  refine y_same (i := .iload_n 2) (len := 1) (r := (0, 0, 0, 0)) (pc' := 63) (ls' := [some (.inl (some 52)), some (zi x), some (zi xk)]) (st' := [zi xk, zi x, .inl (some 52)]) (by decide +kernel) (fun k q => by cases q) rfl ?_
  refine y_cI (i := .invokestatic 158) (len := 3) (r := (1, 169, 12, 1563)) (nL := 2) (k := 1) (n := 2) (hs := []) (args := [zi x, zi xk]) (rest := [.inl (some 52)]) (l0 := [some (zi x), some (zi xk)]) (by decide +kernel) (Or.inl ⟨_, rfl⟩) rfl rfl rfl rfl (Nat.le_of_ble_eq_true rfl) rfl rfl (qI_le (by decide) (m_claimAt (d := 0) (s := 1) (k := k) (by omega) (by omega) exk (by omega))) (fun y3682 qy3682 hRy3682 => ?_)
  obtain ⟨rfl, hy3682⟩ := hRy3682
  refine y_same (i := .aload_n 0) (len := 1) (r := (0, 0, 0, 0)) (pc' := 67) (ls' := [some (.inl (some 52)), some (zi x), some (zi xk)]) (st' := [.inl (some 52), zi y3682, .inl (some 52)]) (by decide +kernel) (fun k q => by cases q) rfl ?_
  refine y_get (j := 20) (len := 3) (r := (12, 9, 2, 1337)) (by decide +kernel) hg3681 (t52 hg3681) at52 rfl rfl (g_r52 (f := 9) (T2 := 55) hg3681 rfl (by decide)).1 ?_
  refine y_same (i := .iload_n 1) (len := 1) (r := (0, 0, 0, 0)) (pc' := 71) (ls' := [some (.inl (some 52)), some (zi x), some (zi xk)]) (st' := [zi x, .inl (some 55), zi y3682, .inl (some 52)]) (by decide +kernel) (fun k q => by cases q) rfl ?_
  refine y_cI (i := .invokestatic 155) (len := 3) (r := (1, 167, 12, 1560)) (nL := 2) (k := 1) (n := 2) (hs := []) (args := [.inl (some 55), zi x]) (rest := [zi y3682, .inl (some 52)]) (l0 := [some (.inl (some 55)), some (zi x)]) (by decide +kernel) (Or.inl ⟨_, rfl⟩) rfl rfl rfl rfl (Nat.le_of_ble_eq_true rfl) rfl rfl (qI_le (by decide) (m_claims (d := 0) (s := 1) hg3681 (by omega) (by omega) hc13681)) (fun y3683 qy3683 hRy3683 => ?_)
  obtain ⟨rfl, rfl⟩ := hRy3683
  refine y_same (i := .iload_n 2) (len := 1) (r := (0, 0, 0, 0)) (pc' := 75) (ls' := [some (.inl (some 52)), some (zi x), some (zi xk)]) (st' := [zi xk, zi xc13681, zi y3682, .inl (some 52)]) (by decide +kernel) (fun k q => by cases q) rfl ?_
  refine y_sub (len := 1) (r := (0, 0, 0, 0)) (by decide +kernel) (by omega) (by omega) (fun y3684 hy3684 => ?_)
  refine y_cV (i := .invokevirtual 236) (len := 3) (r := (0, 189, 12, 1597)) (nL := 4) (k := 0) (n := 3) (hs := []) (args := [.inl (some 52), zi y3682, zi y3684]) (rest := []) (l0 := [some (.inl (some 52)), some (zi y3682), some (zi y3684), none]) (by decide +kernel) (Or.inr (Or.inl ⟨_, rfl⟩)) rfl rfl rfl rfl (Nat.le_of_ble_eq_true rfl) (z52 hg3681) rfl (qV_le (by decide) (m_closes (f := (68 + 4 * k)) (m := (cur.2.2.length - k)) hg3681 (by omega) (by omega) (by omega) (by omega))) (fun h3685 hR3685 => ?_)
  obtain ⟨hg3685, a3685, F3685⟩ := hR3685
  refine y_same (i := .aload_n 0) (len := 1) (r := (0, 0, 0, 0)) (pc' := 80) (ls' := [some (.inl (some 52)), some (zi x), some (zi xk)]) (st' := [.inl (some 52)]) (by decide +kernel) (fun k q => by cases q) rfl ?_
  refine y_get (j := 20) (len := 3) (r := (12, 9, 2, 1337)) (by decide +kernel) hg3685 (t52 hg3685) at52 rfl rfl (g_r52 (f := 9) (T2 := 55) hg3685 rfl (by decide)).1 ?_
  refine y_bi (c := 46) (len := 2) (r := (0, 0, 0, 0)) (by decide +kernel) (by decide) (fun y3686 hy3686 => ?_)
  refine y_same (i := .iload_n 1) (len := 1) (r := (0, 0, 0, 0)) (pc' := 86) (ls' := [some (.inl (some 52)), some (zi x), some (zi xk)]) (st' := [zi x, zi y3686, .inl (some 55)]) (by decide +kernel) (fun k q => by cases q) rfl ?_
  refine y_mul (c := 46) (len := 1) (r := (0, 0, 0, 0)) (by decide +kernel) (by omega) (by omega) (by omega) (fun y3687 hy3687 => ?_)
  refine y_ic (c := 1) (len := 1) (r := (0, 0, 0, 0)) (by decide +kernel) (by decide) (fun y3688 hy3688 => ?_)
  refine y_add (len := 1) (r := (0, 0, 0, 0)) (by decide +kernel) (by omega) (by omega) (fun y3689 hy3689 => ?_)
  refine y_same (i := .dup2) (len := 1) (r := (0, 0, 0, 0)) (pc' := 90) (ls' := [some (.inl (some 52)), some (zi x), some (zi xk)]) (st' := [zi y3689, .inl (some 55), zi y3689, .inl (some 55)]) (by decide +kernel) (fun k q => by cases q) rfl ?_
  have hv3690 := (F3685 55 47 (by omega)).trans hc13681
  refine y_ial (i := 47) (len := 1) (r := (0, 0, 0, 0)) (by decide +kernel) hg3685 (tv55 hg3685) av55 (by omega) hv3690 ?_
  refine y_ic (c := 1) (len := 1) (r := (0, 0, 0, 0)) (by decide +kernel) (by decide) (fun y3691 hy3691 => ?_)
  refine y_sub (len := 1) (r := (0, 0, 0, 0)) (by decide +kernel) (by omega) (by omega) (fun y3692 hy3692 => ?_)
  refine y_ias (i := 47) (len := 1) (r := (0, 0, 0, 0)) (by decide +kernel) hg3685 (tv55 hg3685) av55 rfl (by omega) (by omega) (sr92 _ (by omega)) (by omega) (by omega) (fun h3693 hg3693 hl3693 hs3693 ho3693 => ?_)
  refine y_same (i := .aload_n 0) (len := 1) (r := (0, 0, 0, 0)) (pc' := 95) (ls' := [some (.inl (some 52)), some (zi x), some (zi xk)]) (st' := [.inl (some 52)]) (by decide +kernel) (fun k q => by cases q) rfl ?_
  refine y_get (j := 20) (len := 3) (r := (12, 9, 2, 1337)) (by decide +kernel) hg3693 (t52 hg3693) at52 rfl rfl (g_r52 (f := 9) (T2 := 55) hg3693 rfl (by decide)).1 ?_
  refine y_same (i := .iload_n 1) (len := 1) (r := (0, 0, 0, 0)) (pc' := 99) (ls' := [some (.inl (some 52)), some (zi x), some (zi xk)]) (st' := [zi x, .inl (some 55)]) (by decide +kernel) (fun k q => by cases q) rfl ?_
  refine y_cI (i := .invokestatic 155) (len := 3) (r := (1, 167, 12, 1560)) (nL := 2) (k := 1) (n := 2) (hs := []) (args := [.inl (some 55), zi x]) (rest := []) (l0 := [some (.inl (some 55)), some (zi x)]) (by decide +kernel) (Or.inl ⟨_, rfl⟩) rfl rfl rfl rfl (Nat.le_of_ble_eq_true rfl) rfl rfl (qI_le (by decide) (m_claims (d := 0) (s := 1) hg3693 (by omega) (by omega) hs3693)) (fun y3694 qy3694 hRy3694 => ?_)
  obtain ⟨rfl, rfl⟩ := hRy3694
  refine y_rI (len := 1) (r := (0, 0, 0, 0)) (nL := 3) (k := 1) (n9 := 3) (hs := []) (by decide +kernel) rfl rfl ?_
  have hv3695 := (F3685 52 31 (by omega)).trans jh3681
  have hv3696 := (ho3693 52 31 (Or.inl (by omega))).trans hv3695
  exact ⟨_, hv3696, by omega⟩
theorem jp_forgetT0 {t : Nat} {τ : List Nat} {h : zh} {cur : bsT} {hs : List bsT} {x xk : Int32} (hg : hG τ h) (rm : RM h cur hs) (hx : x.toInt = 0) (hk : ¬ (0 ≤ xk.toInt ∧ xk.toInt < (cur.1.2.length : Int))) : qI 60 191 [some (.inl (some 52)), some (zi x), some (zi xk)] h t (fun y h1 => hsl h1 52 31 = hsl h 52 31) := by
  refine qI_le (d := 21) (by decide) (qI_of ?_)
  have lz := len55 hg rm.1
  obtain ⟨⟨xp0z, hp0z, ep0z⟩, ⟨xc0z, hc0z, ec0z⟩, ip0z, ic0z⟩ := rm.1.1
  obtain ⟨⟨xp1z, hp1z, ep1z⟩, ⟨xc1z, hc1z, ec1z⟩, ip1z, ic1z⟩ := rm.1.2
  refine y_same (i := .aload_n 0) (len := 1) (r := (0, 0, 0, 0)) (pc' := 1) (ls' := [some (.inl (some 52)), some (zi x), some (zi xk)]) (st' := [.inl (some 52)]) (by decide +kernel) (fun k q => by cases q) rfl ?_
  refine y_ic (c := 0) (len := 1) (r := (0, 0, 0, 0)) (by decide +kernel) (by decide) (fun y3697 hy3697 => ?_)
  refine y_put (j := 92) (lo := (-2147483648)) (hi := 2147483647) (len := 3) (r := (12, 0, 0, 1328)) (by decide +kernel) hg (t52 hg) at52 rfl rfl (by decide) rfl (qin_full _).1 (qin_full _).2 rfl (fun h3698 hg3698 hl3698 hs3698 ho3698 => ?_)
  have ho3698 : hO 52 0 h h3698 := ho3698
  have hs3698 : hsl h3698 52 0 = some (zi y3697) := hs3698
  refine y_same (i := .aload_n 0) (len := 1) (r := (0, 0, 0, 0)) (pc' := 6) (ls' := [some (.inl (some 52)), some (zi x), some (zi xk)]) (st' := [.inl (some 52)]) (by decide +kernel) (fun k q => by cases q) rfl ?_
  refine y_same (i := .iload_n 1) (len := 1) (r := (0, 0, 0, 0)) (pc' := 7) (ls' := [some (.inl (some 52)), some (zi x), some (zi xk)]) (st' := [zi x, .inl (some 52)]) (by decide +kernel) (fun k q => by cases q) rfl ?_
  refine y_ic (c := 0) (len := 1) (r := (0, 0, 0, 0)) (by decide +kernel) (by decide) (fun y3699 hy3699 => ?_)
  refine y_ic (c := 1) (len := 1) (r := (0, 0, 0, 0)) (by decide +kernel) (by decide) (fun y3700 hy3700 => ?_)
  refine y_cI (i := .invokestatic 200) (len := 3) (r := (1, 162, 12, 1486)) (nL := 3) (k := 2) (n := 3) (hs := []) (args := [zi x, zi y3699, zi y3700]) (rest := [.inl (some 52)]) (l0 := [some (zi x), some (zi y3699), some (zi y3700)]) (by decide +kernel) (Or.inl ⟨_, rfl⟩) rfl rfl rfl rfl (Nat.le_of_ble_eq_true rfl) rfl rfl (qI_le (by decide) (m_in (d := 0) (by omega) (by omega))) (fun y3701 qy3701 hRy3701 => ?_)
  obtain ⟨rfl, hy3701⟩ := hRy3701
  refine y_iF (c := .eq) (off := 29) (len := 3) (r := (0, 0, 0, 0)) (by decide +kernel) (acmpF (c := .eq) (by show ¬ (_ = _); omega)) ?_
  refine y_same (i := .iload_n 2) (len := 1) (r := (0, 0, 0, 0)) (pc' := 16) (ls' := [some (.inl (some 52)), some (zi x), some (zi xk)]) (st' := [zi xk, .inl (some 52)]) (by decide +kernel) (fun k q => by cases q) rfl ?_
  refine y_ic (c := 0) (len := 1) (r := (0, 0, 0, 0)) (by decide +kernel) (by decide) (fun y3702 hy3702 => ?_)
  refine y_same (i := .aload_n 0) (len := 1) (r := (0, 0, 0, 0)) (pc' := 18) (ls' := [some (.inl (some 52)), some (zi x), some (zi xk)]) (st' := [.inl (some 52), zi y3702, zi xk, .inl (some 52)]) (by decide +kernel) (fun k q => by cases q) rfl ?_
  refine y_get (j := 20) (len := 3) (r := (12, 9, 2, 1337)) (by decide +kernel) hg3698 (t52 hg3698) at52 rfl rfl (g_r52 (f := 9) (T2 := 55) hg3698 rfl (by decide)).1 ?_
  refine y_ic (c := 1) (len := 1) (r := (0, 0, 0, 0)) (by decide +kernel) (by decide) (fun y3703 hy3703 => ?_)
  refine y_ic (c := 0) (len := 1) (r := (0, 0, 0, 0)) (by decide +kernel) (by decide) (fun y3704 hy3704 => ?_)
  refine y_same (i := .iload_n 1) (len := 1) (r := (0, 0, 0, 0)) (pc' := 24) (ls' := [some (.inl (some 52)), some (zi x), some (zi xk)]) (st' := [zi x, zi y3704, zi y3703, .inl (some 55), zi y3702, zi xk, .inl (some 52)]) (by decide +kernel) (fun k q => by cases q) rfl ?_
  refine y_cI (i := .invokestatic 230) (len := 3) (r := (1, 164, 12, 1591)) (nL := 2) (k := 1) (n := 2) (hs := []) (args := [zi y3704, zi x]) (rest := [zi y3703, .inl (some 55), zi y3702, zi xk, .inl (some 52)]) (l0 := [some (zi y3704), some (zi x)]) (by decide +kernel) (Or.inl ⟨_, rfl⟩) rfl rfl rfl rfl (Nat.le_of_ble_eq_true rfl) rfl rfl (qI_le (by decide) (e_more (d := 0))) (fun y3705 qy3705 hRy3705 => ?_)
  obtain ⟨rfl, my3705, ny3705⟩ := hRy3705
  have ey3705 : y3705.toInt = 0 := by omega
  refine y_cI (i := .invokestatic 233) (len := 3) (r := (1, 163, 12, 1594)) (nL := 2) (k := 1) (n := 2) (hs := []) (args := [zi y3703, zi y3705]) (rest := [.inl (some 55), zi y3702, zi xk, .inl (some 52)]) (l0 := [some (zi y3703), some (zi y3705)]) (by decide +kernel) (Or.inl ⟨_, rfl⟩) rfl rfl rfl rfl (Nat.le_of_ble_eq_true rfl) rfl rfl (qI_le (by decide) (e_less (d := 0))) (fun y3706 qy3706 hRy3706 => ?_)
  obtain ⟨rfl, my3706, ny3706⟩ := hRy3706
  have ey3706 : y3706.toInt = 0 := by omega
  have hv3708 := (ho3698 55 1 (Or.inl (by omega))).trans hc0z
  refine y_cI (i := .invokestatic 155) (len := 3) (r := (1, 167, 12, 1560)) (nL := 2) (k := 1) (n := 2) (hs := []) (args := [.inl (some 55), zi y3706]) (rest := [zi y3702, zi xk, .inl (some 52)]) (l0 := [some (.inl (some 55)), some (zi y3706)]) (by decide +kernel) (Or.inl ⟨_, rfl⟩) rfl rfl rfl rfl (Nat.le_of_ble_eq_true rfl) rfl rfl (qI_le (by decide) (m_claims (d := 0) (s := 0) hg3698 (by omega) (by omega) hv3708)) (fun y3707 qy3707 hRy3707 => ?_)
  obtain ⟨rfl, rfl⟩ := hRy3707
  refine y_ic (c := 1) (len := 1) (r := (0, 0, 0, 0)) (by decide +kernel) (by decide) (fun y3709 hy3709 => ?_)
  refine y_sub (len := 1) (r := (0, 0, 0, 0)) (by decide +kernel) (by omega) (by omega) (fun y3710 hy3710 => ?_)
  refine y_cI (i := .invokestatic 200) (len := 3) (r := (1, 162, 12, 1486)) (nL := 3) (k := 2) (n := 3) (hs := []) (args := [zi xk, zi y3702, zi y3710]) (rest := [.inl (some 52)]) (l0 := [some (zi xk), some (zi y3702), some (zi y3710)]) (by decide +kernel) (Or.inl ⟨_, rfl⟩) rfl rfl rfl rfl (Nat.le_of_ble_eq_true rfl) rfl rfl (qI_le (by decide) (m_in0 (d := 0) (by omega))) (fun y3711 qy3711 hRy3711 => ?_)
  obtain ⟨rfl, hy3711⟩ := hRy3711
  refine y_iF (c := .ne) (off := 7) (len := 3) (r := (0, 0, 0, 0)) (by decide +kernel) (acmpF (c := .ne) (by show _ = _; omega)) ?_
  refine y_ic (c := 1) (len := 1) (r := (0, 0, 0, 0)) (by decide +kernel) (by decide) (fun y3712 hy3712 => ?_)
  refine y_goto (off := 4) (pc' := 46) (len := 3) (r := (0, 0, 0, 0)) (by decide +kernel) (by decide +kernel) ?_
  refine y_ic (c := 1) (len := 1) (r := (0, 0, 0, 0)) (by decide +kernel) (by decide) (fun y3713 hy3713 => ?_)
  refine y_ic (c := 0) (len := 1) (r := (0, 0, 0, 0)) (by decide +kernel) (by decide) (fun y3714 hy3714 => ?_)
  refine y_cI (i := .invokevirtual 204) (len := 3) (r := (0, 161, 12, 1489)) (nL := 4) (k := 2) (n := 4) (hs := []) (args := [.inl (some 52), zi y3712, zi y3713, zi y3714]) (rest := []) (l0 := [some (.inl (some 52)), some (zi y3712), some (zi y3713), some (zi y3714)]) (by decide +kernel) (Or.inr (Or.inl ⟨_, rfl⟩)) rfl rfl rfl rfl (Nat.le_of_ble_eq_true rfl) (z52 hg3698) rfl (qI_le (by decide) (m_bad1 (d := 0) (e := 0) hg3698 (by omega) (by omega) (by omega) (by omega) hs3698 (by omega))) (fun y3715 h3715 hRy3715 => ?_)
  obtain ⟨hg3715, hy3715, ⟨z3715, hz3715, ez3715⟩, F3715⟩ := hRy3715
  refine y_iF (c := .eq) (off := 5) (len := 3) (r := (0, 0, 0, 0)) (by decide +kernel) (acmpF (c := .eq) (by show ¬ (_ = _); omega)) ?_
  refine y_ic (c := 0) (len := 1) (r := (0, 0, 0, 0)) (by decide +kernel) (by decide) (fun y3716 hy3716 => ?_)
  refine y_rI (len := 1) (r := (0, 0, 0, 0)) (nL := 3) (k := 1) (n9 := 3) (hs := []) (by decide +kernel) rfl rfl ?_
  exact ((F3715 52 31 (by omega)).trans (ho3698 52 31 (by omega)))
theorem jp_forgetT1 {t : Nat} {τ : List Nat} {h : zh} {cur : bsT} {hs : List bsT} {x xk : Int32} (hg : hG τ h) (rm : RM h cur hs) (hx : x.toInt = 1) (hk : ¬ (0 ≤ xk.toInt ∧ xk.toInt < (cur.2.2.length : Int))) : qI 60 191 [some (.inl (some 52)), some (zi x), some (zi xk)] h t (fun y h1 => hsl h1 52 31 = hsl h 52 31) := by
  refine qI_le (d := 21) (by decide) (qI_of ?_)
  have lz := len55 hg rm.1
  obtain ⟨⟨xp0z, hp0z, ep0z⟩, ⟨xc0z, hc0z, ec0z⟩, ip0z, ic0z⟩ := rm.1.1
  obtain ⟨⟨xp1z, hp1z, ep1z⟩, ⟨xc1z, hc1z, ec1z⟩, ip1z, ic1z⟩ := rm.1.2
  refine y_same (i := .aload_n 0) (len := 1) (r := (0, 0, 0, 0)) (pc' := 1) (ls' := [some (.inl (some 52)), some (zi x), some (zi xk)]) (st' := [.inl (some 52)]) (by decide +kernel) (fun k q => by cases q) rfl ?_
  refine y_ic (c := 0) (len := 1) (r := (0, 0, 0, 0)) (by decide +kernel) (by decide) (fun y3717 hy3717 => ?_)
  refine y_put (j := 92) (lo := (-2147483648)) (hi := 2147483647) (len := 3) (r := (12, 0, 0, 1328)) (by decide +kernel) hg (t52 hg) at52 rfl rfl (by decide) rfl (qin_full _).1 (qin_full _).2 rfl (fun h3718 hg3718 hl3718 hs3718 ho3718 => ?_)
  have ho3718 : hO 52 0 h h3718 := ho3718
  have hs3718 : hsl h3718 52 0 = some (zi y3717) := hs3718
  refine y_same (i := .aload_n 0) (len := 1) (r := (0, 0, 0, 0)) (pc' := 6) (ls' := [some (.inl (some 52)), some (zi x), some (zi xk)]) (st' := [.inl (some 52)]) (by decide +kernel) (fun k q => by cases q) rfl ?_
  refine y_same (i := .iload_n 1) (len := 1) (r := (0, 0, 0, 0)) (pc' := 7) (ls' := [some (.inl (some 52)), some (zi x), some (zi xk)]) (st' := [zi x, .inl (some 52)]) (by decide +kernel) (fun k q => by cases q) rfl ?_
  refine y_ic (c := 0) (len := 1) (r := (0, 0, 0, 0)) (by decide +kernel) (by decide) (fun y3719 hy3719 => ?_)
  refine y_ic (c := 1) (len := 1) (r := (0, 0, 0, 0)) (by decide +kernel) (by decide) (fun y3720 hy3720 => ?_)
  refine y_cI (i := .invokestatic 200) (len := 3) (r := (1, 162, 12, 1486)) (nL := 3) (k := 2) (n := 3) (hs := []) (args := [zi x, zi y3719, zi y3720]) (rest := [.inl (some 52)]) (l0 := [some (zi x), some (zi y3719), some (zi y3720)]) (by decide +kernel) (Or.inl ⟨_, rfl⟩) rfl rfl rfl rfl (Nat.le_of_ble_eq_true rfl) rfl rfl (qI_le (by decide) (m_in (d := 0) (by omega) (by omega))) (fun y3721 qy3721 hRy3721 => ?_)
  obtain ⟨rfl, hy3721⟩ := hRy3721
  refine y_iF (c := .eq) (off := 29) (len := 3) (r := (0, 0, 0, 0)) (by decide +kernel) (acmpF (c := .eq) (by show ¬ (_ = _); omega)) ?_
  refine y_same (i := .iload_n 2) (len := 1) (r := (0, 0, 0, 0)) (pc' := 16) (ls' := [some (.inl (some 52)), some (zi x), some (zi xk)]) (st' := [zi xk, .inl (some 52)]) (by decide +kernel) (fun k q => by cases q) rfl ?_
  refine y_ic (c := 0) (len := 1) (r := (0, 0, 0, 0)) (by decide +kernel) (by decide) (fun y3722 hy3722 => ?_)
  refine y_same (i := .aload_n 0) (len := 1) (r := (0, 0, 0, 0)) (pc' := 18) (ls' := [some (.inl (some 52)), some (zi x), some (zi xk)]) (st' := [.inl (some 52), zi y3722, zi xk, .inl (some 52)]) (by decide +kernel) (fun k q => by cases q) rfl ?_
  refine y_get (j := 20) (len := 3) (r := (12, 9, 2, 1337)) (by decide +kernel) hg3718 (t52 hg3718) at52 rfl rfl (g_r52 (f := 9) (T2 := 55) hg3718 rfl (by decide)).1 ?_
  refine y_ic (c := 1) (len := 1) (r := (0, 0, 0, 0)) (by decide +kernel) (by decide) (fun y3723 hy3723 => ?_)
  refine y_ic (c := 0) (len := 1) (r := (0, 0, 0, 0)) (by decide +kernel) (by decide) (fun y3724 hy3724 => ?_)
  refine y_same (i := .iload_n 1) (len := 1) (r := (0, 0, 0, 0)) (pc' := 24) (ls' := [some (.inl (some 52)), some (zi x), some (zi xk)]) (st' := [zi x, zi y3724, zi y3723, .inl (some 55), zi y3722, zi xk, .inl (some 52)]) (by decide +kernel) (fun k q => by cases q) rfl ?_
  refine y_cI (i := .invokestatic 230) (len := 3) (r := (1, 164, 12, 1591)) (nL := 2) (k := 1) (n := 2) (hs := []) (args := [zi y3724, zi x]) (rest := [zi y3723, .inl (some 55), zi y3722, zi xk, .inl (some 52)]) (l0 := [some (zi y3724), some (zi x)]) (by decide +kernel) (Or.inl ⟨_, rfl⟩) rfl rfl rfl rfl (Nat.le_of_ble_eq_true rfl) rfl rfl (qI_le (by decide) (e_more (d := 0))) (fun y3725 qy3725 hRy3725 => ?_)
  obtain ⟨rfl, my3725, ny3725⟩ := hRy3725
  have ey3725 : y3725.toInt = 1 := by omega
  refine y_cI (i := .invokestatic 233) (len := 3) (r := (1, 163, 12, 1594)) (nL := 2) (k := 1) (n := 2) (hs := []) (args := [zi y3723, zi y3725]) (rest := [.inl (some 55), zi y3722, zi xk, .inl (some 52)]) (l0 := [some (zi y3723), some (zi y3725)]) (by decide +kernel) (Or.inl ⟨_, rfl⟩) rfl rfl rfl rfl (Nat.le_of_ble_eq_true rfl) rfl rfl (qI_le (by decide) (e_less (d := 0))) (fun y3726 qy3726 hRy3726 => ?_)
  obtain ⟨rfl, my3726, ny3726⟩ := hRy3726
  have ey3726 : y3726.toInt = 1 := by omega
  have hv3728 := (ho3718 55 47 (Or.inl (by omega))).trans hc1z
  refine y_cI (i := .invokestatic 155) (len := 3) (r := (1, 167, 12, 1560)) (nL := 2) (k := 1) (n := 2) (hs := []) (args := [.inl (some 55), zi y3726]) (rest := [zi y3722, zi xk, .inl (some 52)]) (l0 := [some (.inl (some 55)), some (zi y3726)]) (by decide +kernel) (Or.inl ⟨_, rfl⟩) rfl rfl rfl rfl (Nat.le_of_ble_eq_true rfl) rfl rfl (qI_le (by decide) (m_claims (d := 0) (s := 1) hg3718 (by omega) (by omega) hv3728)) (fun y3727 qy3727 hRy3727 => ?_)
  obtain ⟨rfl, rfl⟩ := hRy3727
  refine y_ic (c := 1) (len := 1) (r := (0, 0, 0, 0)) (by decide +kernel) (by decide) (fun y3729 hy3729 => ?_)
  refine y_sub (len := 1) (r := (0, 0, 0, 0)) (by decide +kernel) (by omega) (by omega) (fun y3730 hy3730 => ?_)
  refine y_cI (i := .invokestatic 200) (len := 3) (r := (1, 162, 12, 1486)) (nL := 3) (k := 2) (n := 3) (hs := []) (args := [zi xk, zi y3722, zi y3730]) (rest := [.inl (some 52)]) (l0 := [some (zi xk), some (zi y3722), some (zi y3730)]) (by decide +kernel) (Or.inl ⟨_, rfl⟩) rfl rfl rfl rfl (Nat.le_of_ble_eq_true rfl) rfl rfl (qI_le (by decide) (m_in0 (d := 0) (by omega))) (fun y3731 qy3731 hRy3731 => ?_)
  obtain ⟨rfl, hy3731⟩ := hRy3731
  refine y_iF (c := .ne) (off := 7) (len := 3) (r := (0, 0, 0, 0)) (by decide +kernel) (acmpF (c := .ne) (by show _ = _; omega)) ?_
  refine y_ic (c := 1) (len := 1) (r := (0, 0, 0, 0)) (by decide +kernel) (by decide) (fun y3732 hy3732 => ?_)
  refine y_goto (off := 4) (pc' := 46) (len := 3) (r := (0, 0, 0, 0)) (by decide +kernel) (by decide +kernel) ?_
  refine y_ic (c := 1) (len := 1) (r := (0, 0, 0, 0)) (by decide +kernel) (by decide) (fun y3733 hy3733 => ?_)
  refine y_ic (c := 0) (len := 1) (r := (0, 0, 0, 0)) (by decide +kernel) (by decide) (fun y3734 hy3734 => ?_)
  refine y_cI (i := .invokevirtual 204) (len := 3) (r := (0, 161, 12, 1489)) (nL := 4) (k := 2) (n := 4) (hs := []) (args := [.inl (some 52), zi y3732, zi y3733, zi y3734]) (rest := []) (l0 := [some (.inl (some 52)), some (zi y3732), some (zi y3733), some (zi y3734)]) (by decide +kernel) (Or.inr (Or.inl ⟨_, rfl⟩)) rfl rfl rfl rfl (Nat.le_of_ble_eq_true rfl) (z52 hg3718) rfl (qI_le (by decide) (m_bad1 (d := 0) (e := 0) hg3718 (by omega) (by omega) (by omega) (by omega) hs3718 (by omega))) (fun y3735 h3735 hRy3735 => ?_)
  obtain ⟨hg3735, hy3735, ⟨z3735, hz3735, ez3735⟩, F3735⟩ := hRy3735
  refine y_iF (c := .eq) (off := 5) (len := 3) (r := (0, 0, 0, 0)) (by decide +kernel) (acmpF (c := .eq) (by show ¬ (_ = _); omega)) ?_
  refine y_ic (c := 0) (len := 1) (r := (0, 0, 0, 0)) (by decide +kernel) (by decide) (fun y3736 hy3736 => ?_)
  refine y_rI (len := 1) (r := (0, 0, 0, 0)) (nL := 3) (k := 1) (n9 := 3) (hs := []) (by decide +kernel) rfl rfl ?_
  exact ((F3735 52 31 (by omega)).trans (ho3718 52 31 (by omega)))
theorem jp_forgetT {t : Nat} {τ : List Nat} {h : zh} {cur : bsT} {hs : List bsT} {x xk : Int32} (hg : hG τ h) (rm : RM h cur hs) (hx : ¬ (x.toInt = 0 ∨ x.toInt = 1)) : qI 60 191 [some (.inl (some 52)), some (zi x), some (zi xk)] h t (fun y h1 => hsl h1 52 31 = hsl h 52 31) := by
  refine qI_le (d := 21) (by decide) (qI_of ?_)
  have lz := len55 hg rm.1
  obtain ⟨⟨xp0z, hp0z, ep0z⟩, ⟨xc0z, hc0z, ec0z⟩, ip0z, ic0z⟩ := rm.1.1
  obtain ⟨⟨xp1z, hp1z, ep1z⟩, ⟨xc1z, hc1z, ec1z⟩, ip1z, ic1z⟩ := rm.1.2
  refine y_same (i := .aload_n 0) (len := 1) (r := (0, 0, 0, 0)) (pc' := 1) (ls' := [some (.inl (some 52)), some (zi x), some (zi xk)]) (st' := [.inl (some 52)]) (by decide +kernel) (fun k q => by cases q) rfl ?_
  refine y_ic (c := 0) (len := 1) (r := (0, 0, 0, 0)) (by decide +kernel) (by decide) (fun y3737 hy3737 => ?_)
  refine y_put (j := 92) (lo := (-2147483648)) (hi := 2147483647) (len := 3) (r := (12, 0, 0, 1328)) (by decide +kernel) hg (t52 hg) at52 rfl rfl (by decide) rfl (qin_full _).1 (qin_full _).2 rfl (fun h3738 hg3738 hl3738 hs3738 ho3738 => ?_)
  have ho3738 : hO 52 0 h h3738 := ho3738
  have hs3738 : hsl h3738 52 0 = some (zi y3737) := hs3738
  refine y_same (i := .aload_n 0) (len := 1) (r := (0, 0, 0, 0)) (pc' := 6) (ls' := [some (.inl (some 52)), some (zi x), some (zi xk)]) (st' := [.inl (some 52)]) (by decide +kernel) (fun k q => by cases q) rfl ?_
  refine y_same (i := .iload_n 1) (len := 1) (r := (0, 0, 0, 0)) (pc' := 7) (ls' := [some (.inl (some 52)), some (zi x), some (zi xk)]) (st' := [zi x, .inl (some 52)]) (by decide +kernel) (fun k q => by cases q) rfl ?_
  refine y_ic (c := 0) (len := 1) (r := (0, 0, 0, 0)) (by decide +kernel) (by decide) (fun y3739 hy3739 => ?_)
  refine y_ic (c := 1) (len := 1) (r := (0, 0, 0, 0)) (by decide +kernel) (by decide) (fun y3740 hy3740 => ?_)
  refine y_cI (i := .invokestatic 200) (len := 3) (r := (1, 162, 12, 1486)) (nL := 3) (k := 2) (n := 3) (hs := []) (args := [zi x, zi y3739, zi y3740]) (rest := [.inl (some 52)]) (l0 := [some (zi x), some (zi y3739), some (zi y3740)]) (by decide +kernel) (Or.inl ⟨_, rfl⟩) rfl rfl rfl rfl (Nat.le_of_ble_eq_true rfl) rfl rfl (qI_le (by decide) (m_in0 (d := 0) (by omega))) (fun y3741 qy3741 hRy3741 => ?_)
  obtain ⟨rfl, hy3741⟩ := hRy3741
  refine y_iT (c := .eq) (off := 29) (pc' := 41) (len := 3) (r := (0, 0, 0, 0)) (by decide +kernel) (acmpT (c := .eq) (by show _ = _; omega)) (by decide +kernel) ?_
  refine y_ic (c := 1) (len := 1) (r := (0, 0, 0, 0)) (by decide +kernel) (by decide) (fun y3742 hy3742 => ?_)
  refine y_goto (off := 4) (pc' := 46) (len := 3) (r := (0, 0, 0, 0)) (by decide +kernel) (by decide +kernel) ?_
  refine y_ic (c := 1) (len := 1) (r := (0, 0, 0, 0)) (by decide +kernel) (by decide) (fun y3743 hy3743 => ?_)
  refine y_ic (c := 0) (len := 1) (r := (0, 0, 0, 0)) (by decide +kernel) (by decide) (fun y3744 hy3744 => ?_)
  refine y_cI (i := .invokevirtual 204) (len := 3) (r := (0, 161, 12, 1489)) (nL := 4) (k := 2) (n := 4) (hs := []) (args := [.inl (some 52), zi y3742, zi y3743, zi y3744]) (rest := []) (l0 := [some (.inl (some 52)), some (zi y3742), some (zi y3743), some (zi y3744)]) (by decide +kernel) (Or.inr (Or.inl ⟨_, rfl⟩)) rfl rfl rfl rfl (Nat.le_of_ble_eq_true rfl) (z52 hg3738) rfl (qI_le (by decide) (m_bad1 (d := 0) (e := 0) hg3738 (by omega) (by omega) (by omega) (by omega) hs3738 (by omega))) (fun y3745 h3745 hRy3745 => ?_)
  obtain ⟨hg3745, hy3745, ⟨z3745, hz3745, ez3745⟩, F3745⟩ := hRy3745
  refine y_iF (c := .eq) (off := 5) (len := 3) (r := (0, 0, 0, 0)) (by decide +kernel) (acmpF (c := .eq) (by show ¬ (_ = _); omega)) ?_
  refine y_ic (c := 0) (len := 1) (r := (0, 0, 0, 0)) (by decide +kernel) (by decide) (fun y3746 hy3746 => ?_)
  refine y_rI (len := 1) (r := (0, 0, 0, 0)) (nL := 3) (k := 1) (n9 := 3) (hs := []) (by decide +kernel) rfl rfl ?_
  exact ((F3745 52 31 (by omega)).trans (ho3738 52 31 (by omega)))
theorem jp_forgetX {t : Nat} {τ : List Nat} {h : zh} {cur : bsT} {hs : List bsT} {x xk : Int32} (hg : hG τ h) (rm : RM h cur hs) (hb : ¬ ((x.toInt = 0 ∧ 0 ≤ xk.toInt ∧ xk.toInt < (cur.1.2.length : Int)) ∨ (x.toInt = 1 ∧ 0 ≤ xk.toInt ∧ xk.toInt < (cur.2.2.length : Int)))) : qI 60 191 [some (.inl (some 52)), some (zi x), some (zi xk)] h t (fun y h1 => hsl h1 52 31 = hsl h 52 31) := by
  rcases Decidable.em (x.toInt = 0) with q | q
  · exact jp_forgetT0 hg rm q (by omega)
  · rcases Decidable.em (x.toInt = 1) with q1 | q1
    · exact jp_forgetT1 hg rm q1 (by omega)
    · exact jp_forgetT hg rm (by omega)
theorem jp_textM {t n T : Nat} {b : Nat → Int} {τ : List Nat} {h : zh} {xn xT : Int32} {cur : bsT} {hs : List bsT} (hg : hG τ h) (rm : RM h cur hs) (hT : hsl h 52 2 = some (zi xT)) (eT : xT.toInt = (T : Int)) (hT2 : T ≤ 200) (en : xn.toInt = (n : Int)) (hn : n ≤ T) (hb : ∀ j, j < n → ∃ x : Int32, hsl h 54 j = some (zi x) ∧ x.toInt = b j) (hb0 : ∀ j, j < n → 0 ≤ b j) : qI 60 183 [some (.inl (some 52)), some (zi xn), none] h t (fun y h1 => kpPC h h1 ∧ hsl h1 35 5 = hsl h 35 5 ∧ kpPM h h1 ∧ ((∃ r, wAll b n = .inl r) ∧ hsl h1 52 31 = hsl h 52 31 ∨ ci_ h1 52 31 0)) := by
  refine qI_of ?_
  refine y_same (i := .aload_n 0) (len := 1) (r := (0, 0, 0, 0)) (pc' := 1) (ls' := [some (.inl (some 52)), some (zi xn), none]) (st' := [.inl (some 52)]) (by decide +kernel) (fun k q => by cases q) rfl ?_
  refine y_ic (c := 0) (len := 1) (r := (0, 0, 0, 0)) (by decide +kernel) (by decide) (fun y3747 hy3747 => ?_)
  refine y_put (j := 92) (lo := (-2147483648)) (hi := 2147483647) (len := 3) (r := (12, 0, 0, 1328)) (by decide +kernel) hg (t52 hg) at52 rfl rfl (by decide) rfl (qin_full _).1 (qin_full _).2 rfl (fun h3748 hg3748 hl3748 hs3748 ho3748 => ?_)
  have ho3748 : hO 52 0 h h3748 := ho3748
  have hs3748 : hsl h3748 52 0 = some (zi y3747) := hs3748
  refine y_same (i := .aload_n 0) (len := 1) (r := (0, 0, 0, 0)) (pc' := 6) (ls' := [some (.inl (some 52)), some (zi xn), none]) (st' := [.inl (some 52)]) (by decide +kernel) (fun k q => by cases q) rfl ?_
  refine y_same (i := .iload_n 1) (len := 1) (r := (0, 0, 0, 0)) (pc' := 7) (ls' := [some (.inl (some 52)), some (zi xn), none]) (st' := [zi xn, .inl (some 52)]) (by decide +kernel) (fun k q => by cases q) rfl ?_
  refine y_ic (c := 0) (len := 1) (r := (0, 0, 0, 0)) (by decide +kernel) (by decide) (fun y3749 hy3749 => ?_)
  refine y_same (i := .aload_n 0) (len := 1) (r := (0, 0, 0, 0)) (pc' := 9) (ls' := [some (.inl (some 52)), some (zi xn), none]) (st' := [.inl (some 52), zi y3749, zi xn, .inl (some 52)]) (by decide +kernel) (fun k q => by cases q) rfl ?_
  have hv3750 := (ho3748 52 2 (Or.inr (by omega))).trans hT
  refine y_get (j := 95) (len := 3) (r := (12, 2, 0, 1330)) (by decide +kernel) hg3748 (t52 hg3748) at52 rfl rfl hv3750 ?_
  refine y_cI (i := .invokestatic 200) (len := 3) (r := (1, 162, 12, 1486)) (nL := 3) (k := 2) (n := 3) (hs := []) (args := [zi xn, zi y3749, zi xT]) (rest := [.inl (some 52)]) (l0 := [some (zi xn), some (zi y3749), some (zi xT)]) (by decide +kernel) (Or.inl ⟨_, rfl⟩) rfl rfl rfl rfl (Nat.le_of_ble_eq_true rfl) rfl rfl (qI_le (by decide) (m_in (d := 0) (by omega) (by omega))) (fun y3751 qy3751 hRy3751 => ?_)
  obtain ⟨rfl, hy3751⟩ := hRy3751
  refine y_iT (c := .ne) (off := 7) (pc' := 22) (len := 3) (r := (0, 0, 0, 0)) (by decide +kernel) (acmpT (c := .ne) (by show ¬ (_ = _); omega)) (by decide +kernel) ?_
  refine y_ic (c := 0) (len := 1) (r := (0, 0, 0, 0)) (by decide +kernel) (by decide) (fun y3752 hy3752 => ?_)
  refine y_ic (c := 1) (len := 1) (r := (0, 0, 0, 0)) (by decide +kernel) (by decide) (fun y3753 hy3753 => ?_)
  refine y_ic (c := 1) (len := 1) (r := (0, 0, 0, 0)) (by decide +kernel) (by decide) (fun y3754 hy3754 => ?_)
  refine y_cI (i := .invokevirtual 204) (len := 3) (r := (0, 161, 12, 1489)) (nL := 4) (k := 2) (n := 4) (hs := []) (args := [.inl (some 52), zi y3752, zi y3753, zi y3754]) (rest := []) (l0 := [some (.inl (some 52)), some (zi y3752), some (zi y3753), some (zi y3754)]) (by decide +kernel) (Or.inr (Or.inl ⟨_, rfl⟩)) rfl rfl rfl rfl (Nat.le_of_ble_eq_true rfl) (z52 hg3748) rfl (qI_le (by decide) (m_bad (d := 0) hg3748 (by omega) hs3748 (by omega))) (fun y3755 qy3755 hRy3755 => ?_)
  obtain ⟨rfl, hy3755⟩ := hRy3755
  refine y_iT (c := .eq) (off := 5) (pc' := 33) (len := 3) (r := (0, 0, 0, 0)) (by decide +kernel) (acmpT (c := .eq) (by show _ = _; omega)) (by decide +kernel) ?_
  refine y_same (i := .aload_n 0) (len := 1) (r := (0, 0, 0, 0)) (pc' := 34) (ls' := [some (.inl (some 52)), some (zi xn), none]) (st' := [.inl (some 52)]) (by decide +kernel) (fun k q => by cases q) rfl ?_
  refine y_ic (c := 0) (len := 1) (r := (0, 0, 0, 0)) (by decide +kernel) (by decide) (fun y3756 hy3756 => ?_)
  refine y_put (j := 95) (lo := 0) (hi := 200) (len := 3) (r := (12, 2, 0, 1330)) (by decide +kernel) hg3748 (t52 hg3748) at52 rfl rfl (by decide) rfl (by omega) (by omega) rfl (fun h3757 hg3757 hl3757 hs3757 ho3757 => ?_)
  have ho3757 : hO 52 2 h3748 h3757 := ho3757
  have hs3757 : hsl h3757 52 2 = some (zi y3756) := hs3757
  refine y_same (i := .aload_n 0) (len := 1) (r := (0, 0, 0, 0)) (pc' := 39) (ls' := [some (.inl (some 52)), some (zi xn), none]) (st' := [.inl (some 52)]) (by decide +kernel) (fun k q => by cases q) rfl ?_
  refine y_same (i := .iload_n 1) (len := 1) (r := (0, 0, 0, 0)) (pc' := 40) (ls' := [some (.inl (some 52)), some (zi xn), none]) (st' := [zi xn, .inl (some 52)]) (by decide +kernel) (fun k q => by cases q) rfl ?_
  refine y_put (j := 98) (lo := 0) (hi := 200) (len := 3) (r := (12, 3, 0, 1331)) (by decide +kernel) hg3757 (t52 hg3757) at52 rfl rfl (by decide) rfl (by omega) (by omega) rfl (fun h3758 hg3758 hl3758 hs3758 ho3758 => ?_)
  have ho3758 : hO 52 3 h3757 h3758 := ho3758
  have hs3758 : hsl h3758 52 3 = some (zi xn) := hs3758
  refine y_same (i := .aload_n 0) (len := 1) (r := (0, 0, 0, 0)) (pc' := 44) (ls' := [some (.inl (some 52)), some (zi xn), none]) (st' := [.inl (some 52)]) (by decide +kernel) (fun k q => by cases q) rfl ?_
  refine y_ic (c := 0) (len := 1) (r := (0, 0, 0, 0)) (by decide +kernel) (by decide) (fun y3759 hy3759 => ?_)
  refine y_put (j := 101) (lo := 0) (hi := 200) (len := 3) (r := (12, 4, 0, 1332)) (by decide +kernel) hg3758 (t52 hg3758) at52 rfl rfl (by decide) rfl (by omega) (by omega) rfl (fun h3760 hg3760 hl3760 hs3760 ho3760 => ?_)
  have ho3760 : hO 52 4 h3758 h3760 := ho3760
  have hs3760 : hsl h3760 52 4 = some (zi y3759) := hs3760
  refine y_same (i := .aload_n 0) (len := 1) (r := (0, 0, 0, 0)) (pc' := 49) (ls' := [some (.inl (some 52)), some (zi xn), none]) (st' := [.inl (some 52)]) (by decide +kernel) (fun k q => by cases q) rfl ?_
  refine y_ic (c := 0) (len := 1) (r := (0, 0, 0, 0)) (by decide +kernel) (by decide) (fun y3761 hy3761 => ?_)
  refine y_put (j := 108) (lo := 0) (hi := 2) (len := 3) (r := (12, 6, 0, 1334)) (by decide +kernel) hg3760 (t52 hg3760) at52 rfl rfl (by decide) rfl (by omega) (by omega) rfl (fun h3762 hg3762 hl3762 hs3762 ho3762 => ?_)
  have ho3762 : hO 52 6 h3760 h3762 := ho3762
  have hs3762 : hsl h3762 52 6 = some (zi y3761) := hs3762
  refine y_same (i := .aload_n 0) (len := 1) (r := (0, 0, 0, 0)) (pc' := 54) (ls' := [some (.inl (some 52)), some (zi xn), none]) (st' := [.inl (some 52)]) (by decide +kernel) (fun k q => by cases q) rfl ?_
  refine y_ic (c := (-1)) (len := 1) (r := (0, 0, 0, 0)) (by decide +kernel) (by decide) (fun y3763 hy3763 => ?_)
  refine y_put (j := 111) (lo := (-2147483648)) (hi := 2147483647) (len := 3) (r := (12, 7, 0, 1335)) (by decide +kernel) hg3762 (t52 hg3762) at52 rfl rfl (by decide) rfl (qin_full _).1 (qin_full _).2 rfl (fun h3764 hg3764 hl3764 hs3764 ho3764 => ?_)
  have ho3764 : hO 52 7 h3762 h3764 := ho3764
  have hs3764 : hsl h3764 52 7 = some (zi y3763) := hs3764
  refine y_ic (c := 0) (len := 1) (r := (0, 0, 0, 0)) (by decide +kernel) (by decide) (fun y3765 hy3765 => ?_)
  refine y_same (i := .istore_n 2) (len := 1) (r := (0, 0, 0, 0)) (pc' := 60) (ls' := [some (.inl (some 52)), some (zi xn), some (zi y3765)]) (st' := []) (by decide +kernel) (fun k q => by cases q) rfl ?_
  refine mc_l 92 τ h3764 hg3764 0 y3765 (by omega) (fun j hj => absurd hj (Nat.not_lt_zero j)) rfl (fun hz1 xz Oz hz => ?_)
  have hv3766 := (ho3760 52 3 (Or.inr (by omega))).trans hs3758
  have hv3767 := (ho3762 52 3 (Or.inr (by omega))).trans hv3766
  have hv3768 := (ho3764 52 3 (Or.inr (by omega))).trans hv3767
  have hv3769 := (Oz.2.2 52 52 3 (t52 hg3764) (show 52 ≠ 56 by omega)).trans hv3768
  have hv3770 := (ho3762 52 4 (Or.inr (by omega))).trans hs3760
  have hv3771 := (ho3764 52 4 (Or.inr (by omega))).trans hv3770
  have hv3772 := (Oz.2.2 52 52 4 (t52 hg3764) (show 52 ≠ 56 by omega)).trans hv3771
  have hv3773 := (ho3764 52 6 (Or.inr (by omega))).trans hs3762
  have hv3774 := (Oz.2.2 52 52 6 (t52 hg3764) (show 52 ≠ 56 by omega)).trans hv3773
  have hv3775 := (Oz.2.2 52 52 7 (t52 hg3764) (show 52 ≠ 56 by omega)).trans hs3764
  have rd0 : rdM hz1 n 0 b := by
    refine ⟨⟨_, hv3769, by omega⟩, ⟨_, hv3772, by omega⟩, fun j hj => ?_, by omega⟩
    obtain ⟨x, e1, e2⟩ := hb j hj
    exact ⟨x, ((Oz.2.2 54 54 j (tu54 hg3764) (show 54 ≠ 56 by omega)).trans ((ho3764 54 j (Or.inl (by omega))).trans ((ho3762 54 j (Or.inl (by omega))).trans ((ho3760 54 j (Or.inl (by omega))).trans ((ho3758 54 j (Or.inl (by omega))).trans ((ho3757 54 j (Or.inl (by omega))).trans (ho3748 54 j (Or.inl (by omega))))))))).trans e1, e2⟩
  have ft0 : ftM hz1 0 (-1) := ⟨⟨_, hv3774, by omega⟩, ⟨_, hv3775, by omega⟩⟩
  obtain ⟨⟨xnz, hnz, enz⟩, ⟨xaz, haz, eaz⟩, hbz, -⟩ := id rd0
  obtain ⟨⟨xfz, hfz, efz⟩, xwz, hwz, ewz⟩ := id ft0
  refine y_same (i := .aload_n 0) (len := 1) (r := (0, 0, 0, 0)) (pc' := 80) (ls' := [some (.inl (some 52)), some (zi xn), some (zi xz)]) (st' := [.inl (some 52)]) (by decide +kernel) (fun k q => by cases q) rfl ?_
  refine y_ic (c := 0) (len := 1) (r := (0, 0, 0, 0)) (by decide +kernel) (by decide) (fun y3776 hy3776 => ?_)
  refine y_cV (i := .invokevirtual 208) (len := 3) (r := (0, 182, 12, 1493)) (nL := 2) (k := 0) (n := 2) (hs := []) (args := [.inl (some 52), zi y3776]) (rest := []) (l0 := [some (.inl (some 52)), some (zi y3776)]) (by decide +kernel) (Or.inr (Or.inl ⟨_, rfl⟩)) rfl rfl rfl rfl (Nat.le_of_ble_eq_true rfl) (z52 Oz.2.1) rfl (qV_le (by decide) (m_side0 Oz.2.1 rd0 (by omega) ft0 (rwM_0 (by decide) (by decide) hz) (by omega))) (fun h3777 hR3777 => ?_)
  obtain ⟨τ3777, O3777, hD3777⟩ := hR3777
  rcases hD3777 with ⟨a3777, ps3777, cs3777, e3777, le3777, rd3777, ft3777, w3777⟩ | ⟨r3777, q3777, a3777, e3777, lr3777, le3777, rd3777, ft3777⟩
  ·
    obtain ⟨⟨xn3777y, hn3777y, en3777y⟩, ⟨xa3777y, ha3777y, ea3777y⟩, hb3777y, -⟩ := id rd3777
    obtain ⟨⟨xf3777y, hf3777y, ef3777y⟩, xw3777y, hw3777y, ew3777y⟩ := id ft3777
    refine y_same (i := .aload_n 0) (len := 1) (r := (0, 0, 0, 0)) (pc' := 85) (ls' := [some (.inl (some 52)), some (zi xn), some (zi xz)]) (st' := [.inl (some 52)]) (by decide +kernel) (fun k q => by cases q) rfl ?_
    refine y_same (i := .ldc 211) (len := 2) (r := (1, 21, 1567, 0)) (pc' := 87) (ls' := [some (.inl (some 52)), some (zi xn), some (zi xz)]) (st' := [.inl (some 2000021), .inl (some 52)]) (by decide +kernel) (fun k q => by cases q) rfl ?_
    refine y_cV (i := .invokevirtual 165) (len := 3) (r := (0, 176, 12, 1525)) (nL := 2) (k := 0) (n := 2) (hs := []) (args := [.inl (some 52), .inl (some 2000021)]) (rest := []) (l0 := [some (.inl (some 52)), some (.inl (some 2000021))]) (by decide +kernel) (Or.inr (Or.inl ⟨_, rfl⟩)) rfl rfl rfl rfl (Nat.le_of_ble_eq_true rfl) (z52 O3777.2.1) rfl (qV_le (by decide) (m_must21 O3777.2.1 rd3777 (by omega) ft3777)) (fun h3778 hR3778 => ?_)
    obtain ⟨τ3778, O3778, hD3778⟩ := hR3778
    rcases hD3778 with ⟨a3778, e3778, le3778, r3778, f3778⟩ | ⟨e3778, r3778, f3778⟩
    ·
      obtain ⟨⟨xn3778y, hn3778y, en3778y⟩, ⟨xa3778y, ha3778y, ea3778y⟩, hb3778y, -⟩ := id r3778
      obtain ⟨⟨xf3778y, hf3778y, ef3778y⟩, xw3778y, hw3778y, ew3778y⟩ := id f3778
      refine y_same (i := .aload_n 0) (len := 1) (r := (0, 0, 0, 0)) (pc' := 91) (ls' := [some (.inl (some 52)), some (zi xn), some (zi xz)]) (st' := [.inl (some 52)]) (by decide +kernel) (fun k q => by cases q) rfl ?_
      refine y_ic (c := 1) (len := 1) (r := (0, 0, 0, 0)) (by decide +kernel) (by decide) (fun y3779 hy3779 => ?_)
      refine y_cV (i := .invokevirtual 208) (len := 3) (r := (0, 182, 12, 1493)) (nL := 2) (k := 0) (n := 2) (hs := []) (args := [.inl (some 52), zi y3779]) (rest := []) (l0 := [some (.inl (some 52)), some (zi y3779)]) (by decide +kernel) (Or.inr (Or.inl ⟨_, rfl⟩)) rfl rfl rfl rfl (Nat.le_of_ble_eq_true rfl) (z52 O3778.2.1) rfl (qV_le (by decide) (m_side1 O3778.2.1 r3778 (by omega) f3778 (rwM1_up (rwM_0 (by decide) (by decide) hz) (fun j hj => ((O3778.2.2 56 56 j (tu56 O3777.2.1) (show 56 ≠ 52 ∨ (j ≠ 4 ∧ j ≠ 6 ∧ j ≠ 7) by omega)).trans (O3777.2.2 56 56 j (tu56 Oz.2.1) (show (56 ≠ 52 ∨ (j ≠ 4 ∧ j ≠ 6 ∧ j ≠ 7)) ∧ (56 ≠ 56 ∨ 46 ≤ j) by omega))))) (by omega))) (fun h3780 hR3780 => ?_)
      obtain ⟨τ3780, O3780, hD3780⟩ := hR3780
      rcases hD3780 with ⟨a3780, ps3780, cs3780, e3780, le3780, rd3780, ft3780, w3780⟩ | ⟨r3780, q3780, a3780, e3780, lr3780, le3780, rd3780, ft3780⟩
      ·
        obtain ⟨⟨xn3780y, hn3780y, en3780y⟩, ⟨xa3780y, ha3780y, ea3780y⟩, hb3780y, -⟩ := id rd3780
        obtain ⟨⟨xf3780y, hf3780y, ef3780y⟩, xw3780y, hw3780y, ew3780y⟩ := id ft3780
        refine y_same (i := .aload_n 0) (len := 1) (r := (0, 0, 0, 0)) (pc' := 96) (ls' := [some (.inl (some 52)), some (zi xn), some (zi xz)]) (st' := [.inl (some 52)]) (by decide +kernel) (fun k q => by cases q) rfl ?_
        refine y_cI (i := .invokevirtual 114) (len := 3) (r := (0, 172, 12, 1502)) (nL := 1) (k := 2) (n := 1) (hs := []) (args := [.inl (some 52)]) (rest := []) (l0 := [some (.inl (some 52))]) (by decide +kernel) (Or.inr (Or.inl ⟨_, rfl⟩)) rfl rfl rfl rfl (Nat.le_of_ble_eq_true rfl) (z52 O3780.2.1) rfl (qI_le (by decide) (m_fine (d := 0) O3780.2.1 ft3780)) (fun y3781 qy3781 hRy3781 => ?_)
        obtain ⟨rfl, gy3781, by3781⟩ := hRy3781
        have hy3781 : y3781.toInt = 1 := gy3781 rfl
        refine y_iF (c := .eq) (off := 20) (len := 3) (r := (0, 0, 0, 0)) (by decide +kernel) (acmpF (c := .eq) (by show ¬ (_ = _); omega)) ?_
        refine y_same (i := .aload_n 0) (len := 1) (r := (0, 0, 0, 0)) (pc' := 103) (ls' := [some (.inl (some 52)), some (zi xn), some (zi xz)]) (st' := [.inl (some 52)]) (by decide +kernel) (fun k q => by cases q) rfl ?_
        refine y_cI (i := .invokevirtual 118) (len := 3) (r := (0, 171, 12, 1506)) (nL := 1) (k := 1) (n := 1) (hs := []) (args := [.inl (some 52)]) (rest := []) (l0 := [some (.inl (some 52))]) (by decide +kernel) (Or.inr (Or.inl ⟨_, rfl⟩)) rfl rfl rfl rfl (Nat.le_of_ble_eq_true rfl) (z52 O3780.2.1) rfl (qI_le (by decide) (m_here O3780.2.1 rd3780 (by omega))) (fun y3782 h3782 hRy3782 => ?_)
        obtain ⟨τ3782, O3782, hy3782, rd3782⟩ := hRy3782
        have sl3782 := sk_le (b := b) (n := n) (a := a3780) (by omega)
        obtain ⟨⟨xn3782, hn3782, en3782⟩, ⟨xa3782, ha3782, ea3782⟩, hb3782, -⟩ := id rd3782
        have Bg : n ≤ (sk b n a3780) → bt b n (sk b n a3780) = -1 := fun q => bt_ge q
        have Bl : (sk b n a3780) < n → bt b n (sk b n a3780) = b (sk b n a3780) := fun q => bt_lt q
        have Bp : (sk b n a3780) < n → 0 ≤ b (sk b n a3780) := fun q => hb0 _ q
        refine y_ic (c := (-1)) (len := 1) (r := (0, 0, 0, 0)) (by decide +kernel) (by decide) (fun y3783 hy3783 => ?_)
        rcases Decidable.em (y3782.toInt = y3783.toInt) with q3784 | q3784
        ·
          refine y_cT (c := .eq) (off := 12) (pc' := 119) (len := 3) (r := (0, 0, 0, 0)) (by decide +kernel) (acmpT (c := .eq) (by show _ = _; omega)) (by decide +kernel) ?_
          refine y_same (i := .aload_n 0) (len := 1) (r := (0, 0, 0, 0)) (pc' := 120) (ls' := [some (.inl (some 52)), some (zi xn), some (zi xz)]) (st' := [.inl (some 52)]) (by decide +kernel) (fun k q => by cases q) rfl ?_
          refine y_same (i := .aload_n 0) (len := 1) (r := (0, 0, 0, 0)) (pc' := 121) (ls' := [some (.inl (some 52)), some (zi xn), some (zi xz)]) (st' := [.inl (some 52), .inl (some 52)]) (by decide +kernel) (fun k q => by cases q) rfl ?_
          have hv3785 := (O3782.2.2 52 52 7 (t52 O3780.2.1) (show 52 ≠ 52 ∨ 7 ≠ 4 by omega)).trans hw3780y
          refine y_get (j := 111) (len := 3) (r := (12, 7, 0, 1335)) (by decide +kernel) O3782.2.1 (t52 O3782.2.1) at52 rfl rfl hv3785 ?_
          refine y_put (j := 13) (lo := (-2147483648)) (hi := 2147483647) (len := 3) (r := (12, 5, 0, 1333)) (by decide +kernel) O3782.2.1 (t52 O3782.2.1) at52 rfl rfl (by decide) rfl (qin_full _).1 (qin_full _).2 rfl (fun h3786 hg3786 hl3786 hs3786 ho3786 => ?_)
          have ho3786 : hO 52 5 h3782 h3786 := ho3786
          have hs3786 : hsl h3786 52 5 = some (zi xw3780y) := hs3786
          refine y_same (i := .aload_n 0) (len := 1) (r := (0, 0, 0, 0)) (pc' := 128) (ls' := [some (.inl (some 52)), some (zi xn), some (zi xz)]) (st' := [.inl (some 52)]) (by decide +kernel) (fun k q => by cases q) rfl ?_
          refine y_cI (i := .invokevirtual 114) (len := 3) (r := (0, 172, 12, 1502)) (nL := 1) (k := 2) (n := 1) (hs := []) (args := [.inl (some 52)]) (rest := []) (l0 := [some (.inl (some 52))]) (by decide +kernel) (Or.inr (Or.inl ⟨_, rfl⟩)) rfl rfl rfl rfl (Nat.le_of_ble_eq_true rfl) (z52 hg3786) rfl (qI_le (by decide) (m_fine (d := 0) hg3786 (ftM_up ft3780 ((ho3786 52 6 (Or.inr (by omega))).trans (O3782.2.2 52 52 6 (t52 O3780.2.1) (show 52 ≠ 52 ∨ 6 ≠ 4 by omega))) ((ho3786 52 7 (Or.inr (by omega))).trans (O3782.2.2 52 52 7 (t52 O3780.2.1) (show 52 ≠ 52 ∨ 7 ≠ 4 by omega)))))) (fun y3787 qy3787 hRy3787 => ?_)
          obtain ⟨rfl, gy3787, by3787⟩ := hRy3787
          have hy3787 : y3787.toInt = 1 := gy3787 rfl
          refine y_iT (c := .ne) (off := 11) (pc' := 142) (len := 3) (r := (0, 0, 0, 0)) (by decide +kernel) (acmpT (c := .ne) (by show ¬ (_ = _); omega)) (by decide +kernel) ?_
          refine y_same (i := .aload_n 0) (len := 1) (r := (0, 0, 0, 0)) (pc' := 143) (ls' := [some (.inl (some 52)), some (zi xn), some (zi xz)]) (st' := [.inl (some 52)]) (by decide +kernel) (fun k q => by cases q) rfl ?_
          have rm3788 : RM h3786 cur hs := RM_upT hg rm (fun k T j hk hC => ((ho3786 k j (by omega)).trans ((O3782.2.2 k T j (O3780.1 _ _ (O3778.1 _ _ (O3777.1 _ _ (Oz.1 _ _ hk)))) (show k ≠ 52 ∨ j ≠ 4 by omega)).trans ((O3780.2.2 k T j (O3778.1 _ _ (O3777.1 _ _ (Oz.1 _ _ hk))) (show (k ≠ 52 ∨ (j ≠ 4 ∧ j ≠ 6 ∧ j ≠ 7)) ∧ (k ≠ 56 ∨ j < 46) by omega)).trans ((O3778.2.2 k T j (O3777.1 _ _ (Oz.1 _ _ hk)) (show k ≠ 52 ∨ (j ≠ 4 ∧ j ≠ 6 ∧ j ≠ 7) by omega)).trans ((O3777.2.2 k T j (Oz.1 _ _ hk) (show (k ≠ 52 ∨ (j ≠ 4 ∧ j ≠ 6 ∧ j ≠ 7)) ∧ (k ≠ 56 ∨ 46 ≤ j) by omega)).trans ((Oz.2.2 k T j hk (show k ≠ 56 by omega)).trans ((ho3764 k j (by omega)).trans ((ho3762 k j (by omega)).trans ((ho3760 k j (by omega)).trans ((ho3758 k j (by omega)).trans ((ho3757 k j (by omega)).trans (ho3748 k j (by omega))))))))))))))
          refine y_cV (i := .invokevirtual 213) (len := 3) (r := (0, 186, 12, 1568)) (nL := 2) (k := 0) (n := 1) (hs := []) (args := [.inl (some 52)]) (rest := []) (l0 := [some (.inl (some 52)), none]) (by decide +kernel) (Or.inr (Or.inl ⟨_, rfl⟩)) rfl rfl rfl rfl (Nat.le_of_ble_eq_true rfl) (z52 hg3786) rfl (qV_le (by decide) (m_remQ hg3786 rm3788)) (fun h3788 hR3788 => ?_)
          obtain ⟨⟨hg3788, rn3788, F3788⟩, jx3788, jh3788, je3788⟩ := hR3788
          refine y_same (i := .aload_n 0) (len := 1) (r := (0, 0, 0, 0)) (pc' := 147) (ls' := [some (.inl (some 52)), some (zi xn), some (zi xz)]) (st' := [.inl (some 52)]) (by decide +kernel) (fun k q => by cases q) rfl ?_
          refine y_get (j := 23) (len := 3) (r := (12, 10, 2, 1338)) (by decide +kernel) hg3788 (t52 hg3788) at52 rfl rfl (g_r52 (f := 10) (T2 := 56) hg3788 rfl (by decide)).1 ?_
          refine y_same (i := .aload_n 0) (len := 1) (r := (0, 0, 0, 0)) (pc' := 151) (ls' := [some (.inl (some 52)), some (zi xn), some (zi xz)]) (st' := [.inl (some 52), .inl (some 56)]) (by decide +kernel) (fun k q => by cases q) rfl ?_
          refine y_get (j := 20) (len := 3) (r := (12, 9, 2, 1337)) (by decide +kernel) hg3788 (t52 hg3788) at52 rfl rfl (g_r52 (f := 9) (T2 := 55) hg3788 rfl (by decide)).1 ?_
          refine y_bi (c := 92) (len := 2) (r := (0, 0, 0, 0)) (by decide +kernel) (by decide) (fun y3789 hy3789 => ?_)
          have b03790 : bsM h3788 56 ((ps3777, cs3777), (ps3780, cs3780)) := ⟨rwM_upL w3777 (fun j hj => ((F3788 56 j (by omega)).trans ((ho3786 56 j (Or.inl (by omega))).trans ((O3782.2.2 56 56 j (tu56 O3780.2.1) (show 56 ≠ 52 ∨ j ≠ 4 by omega)).trans ((O3780.2.2 56 56 j (tu56 O3778.2.1) (show (56 ≠ 52 ∨ (j ≠ 4 ∧ j ≠ 6 ∧ j ≠ 7)) ∧ (56 ≠ 56 ∨ j < 46) by omega)).trans (O3778.2.2 56 56 j (tu56 O3777.2.1) (show 56 ≠ 52 ∨ (j ≠ 4 ∧ j ≠ 6 ∧ j ≠ 7) by omega))))))), rwM_upR w3780 (fun j hj hj2 => ((F3788 56 j (by omega)).trans ((ho3786 56 j (Or.inl (by omega))).trans (O3782.2.2 56 56 j (tu56 O3780.2.1) (show 56 ≠ 52 ∨ j ≠ 4 by omega)))))⟩
          refine y_cV (i := .invokestatic 216) (len := 3) (r := (1, 185, 12, 1572)) (nL := 4) (k := 0) (n := 3) (hs := []) (args := [.inl (some 56), .inl (some 55), zi y3789]) (rest := []) (l0 := [some (.inl (some 56)), some (.inl (some 55)), some (zi y3789), none]) (by decide +kernel) (Or.inl ⟨_, rfl⟩) rfl rfl rfl rfl (Nat.le_of_ble_eq_true rfl) rfl rfl (qV_le (by decide) (e_mcp (d := 0) hg3788 (tv56 hg3788) (tv55 hg3788) av56 av55 rfl (by omega) (by omega))) (fun h3790 hR3790 => ?_)
          obtain ⟨hg3790, C3790, F3790⟩ := hR3790
          have rz3790 : RM h3790 ((ps3777, cs3777), (ps3780, cs3780)) (psh hs cur) := RM_set rn3788 (bsM_to b03790 C3790) (fun k j hC => F3790 k j (by omega))
          obtain ⟨xp0, hp0, ep0⟩ := rz3790.1.1.1
          obtain ⟨xp1, hp1, ep1⟩ := rz3790.1.2.1
          have lz := len55 hg3790 rz3790.1
          simp only at lz ep0 ep1
          refine y_same (i := .aload_n 0) (len := 1) (r := (0, 0, 0, 0)) (pc' := 160) (ls' := [some (.inl (some 52)), some (zi xn), some (zi xz)]) (st' := [.inl (some 52)]) (by decide +kernel) (fun k q => by cases q) rfl ?_
          refine y_get (j := 20) (len := 3) (r := (12, 9, 2, 1337)) (by decide +kernel) hg3790 (t52 hg3790) at52 rfl rfl (g_r52 (f := 9) (T2 := 55) hg3790 rfl (by decide)).1 ?_
          refine y_ic (c := 0) (len := 1) (r := (0, 0, 0, 0)) (by decide +kernel) (by decide) (fun y3791 hy3791 => ?_)
          refine y_cI (i := .invokestatic 143) (len := 3) (r := (1, 166, 12, 1543)) (nL := 2) (k := 1) (n := 2) (hs := []) (args := [.inl (some 55), zi y3791]) (rest := []) (l0 := [some (.inl (some 55)), some (zi y3791)]) (by decide +kernel) (Or.inl ⟨_, rfl⟩) rfl rfl rfl rfl (Nat.le_of_ble_eq_true rfl) rfl rfl (qI_le (by decide) (m_parts (d := 0) (s := 0) hg3790 (by omega) (by omega) hp0)) (fun y3792 qy3792 hRy3792 => ?_)
          obtain ⟨rfl, rfl⟩ := hRy3792
          refine y_same (i := .aload_n 0) (len := 1) (r := (0, 0, 0, 0)) (pc' := 168) (ls' := [some (.inl (some 52)), some (zi xn), some (zi xz)]) (st' := [.inl (some 52), zi xp0]) (by decide +kernel) (fun k q => by cases q) rfl ?_
          refine y_get (j := 20) (len := 3) (r := (12, 9, 2, 1337)) (by decide +kernel) hg3790 (t52 hg3790) at52 rfl rfl (g_r52 (f := 9) (T2 := 55) hg3790 rfl (by decide)).1 ?_
          refine y_ic (c := 1) (len := 1) (r := (0, 0, 0, 0)) (by decide +kernel) (by decide) (fun y3793 hy3793 => ?_)
          refine y_cI (i := .invokestatic 143) (len := 3) (r := (1, 166, 12, 1543)) (nL := 2) (k := 1) (n := 2) (hs := []) (args := [.inl (some 55), zi y3793]) (rest := [zi xp0]) (l0 := [some (.inl (some 55)), some (zi y3793)]) (by decide +kernel) (Or.inl ⟨_, rfl⟩) rfl rfl rfl rfl (Nat.le_of_ble_eq_true rfl) rfl rfl (qI_le (by decide) (m_parts (d := 0) (s := 1) hg3790 (by omega) (by omega) hp1)) (fun y3794 qy3794 hRy3794 => ?_)
          obtain ⟨rfl, rfl⟩ := hRy3794
          refine y_add (len := 1) (r := (0, 0, 0, 0)) (by decide +kernel) (by omega) (by omega) (fun y3795 hy3795 => ?_)
          refine y_rI (len := 1) (r := (0, 0, 0, 0)) (nL := 3) (k := 1) (n9 := 2) (hs := []) (by decide +kernel) rfl rfl ?_
          have hv3796 := (F3790 52 31 (by omega)).trans jh3788
          exact ⟨⟨fun k => ((F3790 36 k (by omega)).trans ((F3788 36 k (by omega)).trans ((ho3786 36 k (Or.inl (by omega))).trans ((O3782.2.2 36 36 k (tv36 O3780.2.1) (show 36 ≠ 52 ∨ k ≠ 4 by omega)).trans ((O3780.2.2 36 36 k (tv36 O3778.2.1) (show (36 ≠ 52 ∨ (k ≠ 4 ∧ k ≠ 6 ∧ k ≠ 7)) ∧ (36 ≠ 56 ∨ k < 46) by omega)).trans ((O3778.2.2 36 36 k (tv36 O3777.2.1) (show 36 ≠ 52 ∨ (k ≠ 4 ∧ k ≠ 6 ∧ k ≠ 7) by omega)).trans ((O3777.2.2 36 36 k (tv36 Oz.2.1) (show (36 ≠ 52 ∨ (k ≠ 4 ∧ k ≠ 6 ∧ k ≠ 7)) ∧ (36 ≠ 56 ∨ 46 ≤ k) by omega)).trans ((Oz.2.2 36 36 k (tv36 hg3764) (show 36 ≠ 56 by omega)).trans ((ho3764 36 k (Or.inl (by omega))).trans ((ho3762 36 k (Or.inl (by omega))).trans ((ho3760 36 k (Or.inl (by omega))).trans ((ho3758 36 k (Or.inl (by omega))).trans ((ho3757 36 k (Or.inl (by omega))).trans (ho3748 36 k (Or.inl (by omega)))))))))))))))), ((F3790 35 0 (by omega)).trans ((F3788 35 0 (by omega)).trans ((ho3786 35 0 (Or.inl (by omega))).trans ((O3782.2.2 35 35 0 (tv35 O3780.2.1) (show 35 ≠ 52 ∨ 0 ≠ 4 by omega)).trans ((O3780.2.2 35 35 0 (tv35 O3778.2.1) (show (35 ≠ 52 ∨ (0 ≠ 4 ∧ 0 ≠ 6 ∧ 0 ≠ 7)) ∧ (35 ≠ 56 ∨ 0 < 46) by omega)).trans ((O3778.2.2 35 35 0 (tv35 O3777.2.1) (show 35 ≠ 52 ∨ (0 ≠ 4 ∧ 0 ≠ 6 ∧ 0 ≠ 7) by omega)).trans ((O3777.2.2 35 35 0 (tv35 Oz.2.1) (show (35 ≠ 52 ∨ (0 ≠ 4 ∧ 0 ≠ 6 ∧ 0 ≠ 7)) ∧ (35 ≠ 56 ∨ 46 ≤ 0) by omega)).trans ((Oz.2.2 35 35 0 (tv35 hg3764) (show 35 ≠ 56 by omega)).trans ((ho3764 35 0 (Or.inl (by omega))).trans ((ho3762 35 0 (Or.inl (by omega))).trans ((ho3760 35 0 (Or.inl (by omega))).trans ((ho3758 35 0 (Or.inl (by omega))).trans ((ho3757 35 0 (Or.inl (by omega))).trans (ho3748 35 0 (Or.inl (by omega)))))))))))))))), ((F3790 35 6 (by omega)).trans ((F3788 35 6 (by omega)).trans ((ho3786 35 6 (Or.inl (by omega))).trans ((O3782.2.2 35 35 6 (tv35 O3780.2.1) (show 35 ≠ 52 ∨ 6 ≠ 4 by omega)).trans ((O3780.2.2 35 35 6 (tv35 O3778.2.1) (show (35 ≠ 52 ∨ (6 ≠ 4 ∧ 6 ≠ 6 ∧ 6 ≠ 7)) ∧ (35 ≠ 56 ∨ 6 < 46) by omega)).trans ((O3778.2.2 35 35 6 (tv35 O3777.2.1) (show 35 ≠ 52 ∨ (6 ≠ 4 ∧ 6 ≠ 6 ∧ 6 ≠ 7) by omega)).trans ((O3777.2.2 35 35 6 (tv35 Oz.2.1) (show (35 ≠ 52 ∨ (6 ≠ 4 ∧ 6 ≠ 6 ∧ 6 ≠ 7)) ∧ (35 ≠ 56 ∨ 46 ≤ 6) by omega)).trans ((Oz.2.2 35 35 6 (tv35 hg3764) (show 35 ≠ 56 by omega)).trans ((ho3764 35 6 (Or.inl (by omega))).trans ((ho3762 35 6 (Or.inl (by omega))).trans ((ho3760 35 6 (Or.inl (by omega))).trans ((ho3758 35 6 (Or.inl (by omega))).trans ((ho3757 35 6 (Or.inl (by omega))).trans (ho3748 35 6 (Or.inl (by omega)))))))))))))))), ((F3790 35 8 (by omega)).trans ((F3788 35 8 (by omega)).trans ((ho3786 35 8 (Or.inl (by omega))).trans ((O3782.2.2 35 35 8 (tv35 O3780.2.1) (show 35 ≠ 52 ∨ 8 ≠ 4 by omega)).trans ((O3780.2.2 35 35 8 (tv35 O3778.2.1) (show (35 ≠ 52 ∨ (8 ≠ 4 ∧ 8 ≠ 6 ∧ 8 ≠ 7)) ∧ (35 ≠ 56 ∨ 8 < 46) by omega)).trans ((O3778.2.2 35 35 8 (tv35 O3777.2.1) (show 35 ≠ 52 ∨ (8 ≠ 4 ∧ 8 ≠ 6 ∧ 8 ≠ 7) by omega)).trans ((O3777.2.2 35 35 8 (tv35 Oz.2.1) (show (35 ≠ 52 ∨ (8 ≠ 4 ∧ 8 ≠ 6 ∧ 8 ≠ 7)) ∧ (35 ≠ 56 ∨ 46 ≤ 8) by omega)).trans ((Oz.2.2 35 35 8 (tv35 hg3764) (show 35 ≠ 56 by omega)).trans ((ho3764 35 8 (Or.inl (by omega))).trans ((ho3762 35 8 (Or.inl (by omega))).trans ((ho3760 35 8 (Or.inl (by omega))).trans ((ho3758 35 8 (Or.inl (by omega))).trans ((ho3757 35 8 (Or.inl (by omega))).trans (ho3748 35 8 (Or.inl (by omega)))))))))))))))), ((F3790 38 2 (by omega)).trans ((F3788 38 2 (by omega)).trans ((ho3786 38 2 (Or.inl (by omega))).trans ((O3782.2.2 38 38 2 (tv38 O3780.2.1) (show 38 ≠ 52 ∨ 2 ≠ 4 by omega)).trans ((O3780.2.2 38 38 2 (tv38 O3778.2.1) (show (38 ≠ 52 ∨ (2 ≠ 4 ∧ 2 ≠ 6 ∧ 2 ≠ 7)) ∧ (38 ≠ 56 ∨ 2 < 46) by omega)).trans ((O3778.2.2 38 38 2 (tv38 O3777.2.1) (show 38 ≠ 52 ∨ (2 ≠ 4 ∧ 2 ≠ 6 ∧ 2 ≠ 7) by omega)).trans ((O3777.2.2 38 38 2 (tv38 Oz.2.1) (show (38 ≠ 52 ∨ (2 ≠ 4 ∧ 2 ≠ 6 ∧ 2 ≠ 7)) ∧ (38 ≠ 56 ∨ 46 ≤ 2) by omega)).trans ((Oz.2.2 38 38 2 (tv38 hg3764) (show 38 ≠ 56 by omega)).trans ((ho3764 38 2 (Or.inl (by omega))).trans ((ho3762 38 2 (Or.inl (by omega))).trans ((ho3760 38 2 (Or.inl (by omega))).trans ((ho3758 38 2 (Or.inl (by omega))).trans ((ho3757 38 2 (Or.inl (by omega))).trans (ho3748 38 2 (Or.inl (by omega))))))))))))))))⟩, ((F3790 35 5 (by omega)).trans ((F3788 35 5 (by omega)).trans ((ho3786 35 5 (Or.inl (by omega))).trans ((O3782.2.2 35 35 5 (tv35 O3780.2.1) (show 35 ≠ 52 ∨ 5 ≠ 4 by omega)).trans ((O3780.2.2 35 35 5 (tv35 O3778.2.1) (show (35 ≠ 52 ∨ (5 ≠ 4 ∧ 5 ≠ 6 ∧ 5 ≠ 7)) ∧ (35 ≠ 56 ∨ 5 < 46) by omega)).trans ((O3778.2.2 35 35 5 (tv35 O3777.2.1) (show 35 ≠ 52 ∨ (5 ≠ 4 ∧ 5 ≠ 6 ∧ 5 ≠ 7) by omega)).trans ((O3777.2.2 35 35 5 (tv35 Oz.2.1) (show (35 ≠ 52 ∨ (5 ≠ 4 ∧ 5 ≠ 6 ∧ 5 ≠ 7)) ∧ (35 ≠ 56 ∨ 46 ≤ 5) by omega)).trans ((Oz.2.2 35 35 5 (tv35 hg3764) (show 35 ≠ 56 by omega)).trans ((ho3764 35 5 (Or.inl (by omega))).trans ((ho3762 35 5 (Or.inl (by omega))).trans ((ho3760 35 5 (Or.inl (by omega))).trans ((ho3758 35 5 (Or.inl (by omega))).trans ((ho3757 35 5 (Or.inl (by omega))).trans (ho3748 35 5 (Or.inl (by omega)))))))))))))))), ⟨((F3790 52 27 (by omega)).trans ((F3788 52 27 (by omega)).trans ((ho3786 52 27 (Or.inr (by omega))).trans ((O3782.2.2 52 52 27 (t52 O3780.2.1) (show 52 ≠ 52 ∨ 27 ≠ 4 by omega)).trans ((O3780.2.2 52 52 27 (t52 O3778.2.1) (show (52 ≠ 52 ∨ (27 ≠ 4 ∧ 27 ≠ 6 ∧ 27 ≠ 7)) ∧ (52 ≠ 56 ∨ 27 < 46) by omega)).trans ((O3778.2.2 52 52 27 (t52 O3777.2.1) (show 52 ≠ 52 ∨ (27 ≠ 4 ∧ 27 ≠ 6 ∧ 27 ≠ 7) by omega)).trans ((O3777.2.2 52 52 27 (t52 Oz.2.1) (show (52 ≠ 52 ∨ (27 ≠ 4 ∧ 27 ≠ 6 ∧ 27 ≠ 7)) ∧ (52 ≠ 56 ∨ 46 ≤ 27) by omega)).trans ((Oz.2.2 52 52 27 (t52 hg3764) (show 52 ≠ 56 by omega)).trans ((ho3764 52 27 (Or.inr (by omega))).trans ((ho3762 52 27 (Or.inr (by omega))).trans ((ho3760 52 27 (Or.inr (by omega))).trans ((ho3758 52 27 (Or.inr (by omega))).trans ((ho3757 52 27 (Or.inr (by omega))).trans (ho3748 52 27 (Or.inr (by omega)))))))))))))))), ((F3790 52 29 (by omega)).trans ((F3788 52 29 (by omega)).trans ((ho3786 52 29 (Or.inr (by omega))).trans ((O3782.2.2 52 52 29 (t52 O3780.2.1) (show 52 ≠ 52 ∨ 29 ≠ 4 by omega)).trans ((O3780.2.2 52 52 29 (t52 O3778.2.1) (show (52 ≠ 52 ∨ (29 ≠ 4 ∧ 29 ≠ 6 ∧ 29 ≠ 7)) ∧ (52 ≠ 56 ∨ 29 < 46) by omega)).trans ((O3778.2.2 52 52 29 (t52 O3777.2.1) (show 52 ≠ 52 ∨ (29 ≠ 4 ∧ 29 ≠ 6 ∧ 29 ≠ 7) by omega)).trans ((O3777.2.2 52 52 29 (t52 Oz.2.1) (show (52 ≠ 52 ∨ (29 ≠ 4 ∧ 29 ≠ 6 ∧ 29 ≠ 7)) ∧ (52 ≠ 56 ∨ 46 ≤ 29) by omega)).trans ((Oz.2.2 52 52 29 (t52 hg3764) (show 52 ≠ 56 by omega)).trans ((ho3764 52 29 (Or.inr (by omega))).trans ((ho3762 52 29 (Or.inr (by omega))).trans ((ho3760 52 29 (Or.inr (by omega))).trans ((ho3758 52 29 (Or.inr (by omega))).trans ((ho3757 52 29 (Or.inr (by omega))).trans (ho3748 52 29 (Or.inr (by omega)))))))))))))))), ((F3790 52 32 (by omega)).trans ((F3788 52 32 (by omega)).trans ((ho3786 52 32 (Or.inr (by omega))).trans ((O3782.2.2 52 52 32 (t52 O3780.2.1) (show 52 ≠ 52 ∨ 32 ≠ 4 by omega)).trans ((O3780.2.2 52 52 32 (t52 O3778.2.1) (show (52 ≠ 52 ∨ (32 ≠ 4 ∧ 32 ≠ 6 ∧ 32 ≠ 7)) ∧ (52 ≠ 56 ∨ 32 < 46) by omega)).trans ((O3778.2.2 52 52 32 (t52 O3777.2.1) (show 52 ≠ 52 ∨ (32 ≠ 4 ∧ 32 ≠ 6 ∧ 32 ≠ 7) by omega)).trans ((O3777.2.2 52 52 32 (t52 Oz.2.1) (show (52 ≠ 52 ∨ (32 ≠ 4 ∧ 32 ≠ 6 ∧ 32 ≠ 7)) ∧ (52 ≠ 56 ∨ 46 ≤ 32) by omega)).trans ((Oz.2.2 52 52 32 (t52 hg3764) (show 52 ≠ 56 by omega)).trans ((ho3764 52 32 (Or.inr (by omega))).trans ((ho3762 52 32 (Or.inr (by omega))).trans ((ho3760 52 32 (Or.inr (by omega))).trans ((ho3758 52 32 (Or.inr (by omega))).trans ((ho3757 52 32 (Or.inr (by omega))).trans (ho3748 52 32 (Or.inr (by omega))))))))))))))))⟩, Or.inr ⟨_, hv3796, by omega⟩⟩
        ·
          refine y_cF (c := .eq) (off := 12) (len := 3) (r := (0, 0, 0, 0)) (by decide +kernel) (acmpF (c := .eq) (by show ¬ (_ = _); omega)) ?_
          refine y_same (i := .aload_n 0) (len := 1) (r := (0, 0, 0, 0)) (pc' := 111) (ls' := [some (.inl (some 52)), some (zi xn), some (zi xz)]) (st' := [.inl (some 52)]) (by decide +kernel) (fun k q => by cases q) rfl ?_
          refine y_ic (c := 1) (len := 1) (r := (0, 0, 0, 0)) (by decide +kernel) (by decide) (fun y3797 hy3797 => ?_)
          refine y_same (i := .aload_n 0) (len := 1) (r := (0, 0, 0, 0)) (pc' := 113) (ls' := [some (.inl (some 52)), some (zi xn), some (zi xz)]) (st' := [.inl (some 52), zi y3797, .inl (some 52)]) (by decide +kernel) (fun k q => by cases q) rfl ?_
          refine y_get (j := 101) (len := 3) (r := (12, 4, 0, 1332)) (by decide +kernel) O3782.2.1 (t52 O3782.2.1) at52 rfl rfl ha3782 ?_
          refine y_cV (i := .invokevirtual 139) (len := 3) (r := (0, 173, 12, 1529)) (nL := 3) (k := 0) (n := 3) (hs := []) (args := [.inl (some 52), zi y3797, zi xa3782]) (rest := []) (l0 := [some (.inl (some 52)), some (zi y3797), some (zi xa3782)]) (by decide +kernel) (Or.inr (Or.inl ⟨_, rfl⟩)) rfl rfl rfl rfl (Nat.le_of_ble_eq_true rfl) (z52 O3782.2.1) rfl (qV_le (by decide) (m_wrong (d := 0) (r := 1) (q := (sk b n a3780)) O3782.2.1 (ftM_up ft3780 (O3782.2.2 52 52 6 (t52 O3780.2.1) (show 52 ≠ 52 ∨ 6 ≠ 4 by omega)) (O3782.2.2 52 52 7 (t52 O3780.2.1) (show 52 ≠ 52 ∨ 7 ≠ 4 by omega))) (by omega) (by omega) (by omega) (by omega))) (fun h3798 hR3798 => ?_)
          obtain ⟨τ3798, O3798, ft3798⟩ := hR3798
          obtain ⟨⟨xf3798, hf3798, ef3798⟩, xw3798, hw3798, ew3798⟩ := id ft3798
          refine y_same (i := .aload_n 0) (len := 1) (r := (0, 0, 0, 0)) (pc' := 120) (ls' := [some (.inl (some 52)), some (zi xn), some (zi xz)]) (st' := [.inl (some 52)]) (by decide +kernel) (fun k q => by cases q) rfl ?_
          refine y_same (i := .aload_n 0) (len := 1) (r := (0, 0, 0, 0)) (pc' := 121) (ls' := [some (.inl (some 52)), some (zi xn), some (zi xz)]) (st' := [.inl (some 52), .inl (some 52)]) (by decide +kernel) (fun k q => by cases q) rfl ?_
          refine y_get (j := 111) (len := 3) (r := (12, 7, 0, 1335)) (by decide +kernel) O3798.2.1 (t52 O3798.2.1) at52 rfl rfl hw3798 ?_
          refine y_put (j := 13) (lo := (-2147483648)) (hi := 2147483647) (len := 3) (r := (12, 5, 0, 1333)) (by decide +kernel) O3798.2.1 (t52 O3798.2.1) at52 rfl rfl (by decide) rfl (qin_full _).1 (qin_full _).2 rfl (fun h3799 hg3799 hl3799 hs3799 ho3799 => ?_)
          have ho3799 : hO 52 5 h3798 h3799 := ho3799
          have hs3799 : hsl h3799 52 5 = some (zi xw3798) := hs3799
          refine y_same (i := .aload_n 0) (len := 1) (r := (0, 0, 0, 0)) (pc' := 128) (ls' := [some (.inl (some 52)), some (zi xn), some (zi xz)]) (st' := [.inl (some 52)]) (by decide +kernel) (fun k q => by cases q) rfl ?_
          refine y_cI (i := .invokevirtual 114) (len := 3) (r := (0, 172, 12, 1502)) (nL := 1) (k := 2) (n := 1) (hs := []) (args := [.inl (some 52)]) (rest := []) (l0 := [some (.inl (some 52))]) (by decide +kernel) (Or.inr (Or.inl ⟨_, rfl⟩)) rfl rfl rfl rfl (Nat.le_of_ble_eq_true rfl) (z52 hg3799) rfl (qI_le (by decide) (m_fine (d := 0) hg3799 (ftM_up ft3798 (ho3799 52 6 (Or.inr (by omega))) (ho3799 52 7 (Or.inr (by omega)))))) (fun y3800 qy3800 hRy3800 => ?_)
          obtain ⟨rfl, gy3800, by3800⟩ := hRy3800
          have hy3800 : y3800.toInt = 0 := by3800 (by omega)
          refine y_iF (c := .ne) (off := 11) (len := 3) (r := (0, 0, 0, 0)) (by decide +kernel) (acmpF (c := .ne) (by show _ = _; omega)) ?_
          refine y_same (i := .aload_n 0) (len := 1) (r := (0, 0, 0, 0)) (pc' := 135) (ls' := [some (.inl (some 52)), some (zi xn), some (zi xz)]) (st' := [.inl (some 52)]) (by decide +kernel) (fun k q => by cases q) rfl ?_
          have hv3801 := (ho3799 52 6 (Or.inr (by omega))).trans hf3798
          refine y_get (j := 108) (len := 3) (r := (12, 6, 0, 1334)) (by decide +kernel) hg3799 (t52 hg3799) at52 rfl rfl hv3801 ?_
          refine y_bi (c := 10) (len := 2) (r := (0, 0, 0, 0)) (by decide +kernel) (by decide) (fun y3802 hy3802 => ?_)
          refine y_bp (i := .isub) (f := fun x y => x - y) (len := 1) (r := (0, 0, 0, 0)) (by decide +kernel) rfl rfl (fun y3803 hy3803 => ?_)
          refine y_rI (len := 1) (r := (0, 0, 0, 0)) (nL := 3) (k := 1) (n9 := 2) (hs := []) (by decide +kernel) rfl rfl ?_
          exact ⟨⟨fun k => ((ho3799 36 k (Or.inl (by omega))).trans ((O3798.2.2 36 36 k (tv36 O3782.2.1) (show 36 ≠ 52 ∨ (k ≠ 6 ∧ k ≠ 7) by omega)).trans ((O3782.2.2 36 36 k (tv36 O3780.2.1) (show 36 ≠ 52 ∨ k ≠ 4 by omega)).trans ((O3780.2.2 36 36 k (tv36 O3778.2.1) (show (36 ≠ 52 ∨ (k ≠ 4 ∧ k ≠ 6 ∧ k ≠ 7)) ∧ (36 ≠ 56 ∨ k < 46) by omega)).trans ((O3778.2.2 36 36 k (tv36 O3777.2.1) (show 36 ≠ 52 ∨ (k ≠ 4 ∧ k ≠ 6 ∧ k ≠ 7) by omega)).trans ((O3777.2.2 36 36 k (tv36 Oz.2.1) (show (36 ≠ 52 ∨ (k ≠ 4 ∧ k ≠ 6 ∧ k ≠ 7)) ∧ (36 ≠ 56 ∨ 46 ≤ k) by omega)).trans ((Oz.2.2 36 36 k (tv36 hg3764) (show 36 ≠ 56 by omega)).trans ((ho3764 36 k (Or.inl (by omega))).trans ((ho3762 36 k (Or.inl (by omega))).trans ((ho3760 36 k (Or.inl (by omega))).trans ((ho3758 36 k (Or.inl (by omega))).trans ((ho3757 36 k (Or.inl (by omega))).trans (ho3748 36 k (Or.inl (by omega))))))))))))))), ((ho3799 35 0 (Or.inl (by omega))).trans ((O3798.2.2 35 35 0 (tv35 O3782.2.1) (show 35 ≠ 52 ∨ (0 ≠ 6 ∧ 0 ≠ 7) by omega)).trans ((O3782.2.2 35 35 0 (tv35 O3780.2.1) (show 35 ≠ 52 ∨ 0 ≠ 4 by omega)).trans ((O3780.2.2 35 35 0 (tv35 O3778.2.1) (show (35 ≠ 52 ∨ (0 ≠ 4 ∧ 0 ≠ 6 ∧ 0 ≠ 7)) ∧ (35 ≠ 56 ∨ 0 < 46) by omega)).trans ((O3778.2.2 35 35 0 (tv35 O3777.2.1) (show 35 ≠ 52 ∨ (0 ≠ 4 ∧ 0 ≠ 6 ∧ 0 ≠ 7) by omega)).trans ((O3777.2.2 35 35 0 (tv35 Oz.2.1) (show (35 ≠ 52 ∨ (0 ≠ 4 ∧ 0 ≠ 6 ∧ 0 ≠ 7)) ∧ (35 ≠ 56 ∨ 46 ≤ 0) by omega)).trans ((Oz.2.2 35 35 0 (tv35 hg3764) (show 35 ≠ 56 by omega)).trans ((ho3764 35 0 (Or.inl (by omega))).trans ((ho3762 35 0 (Or.inl (by omega))).trans ((ho3760 35 0 (Or.inl (by omega))).trans ((ho3758 35 0 (Or.inl (by omega))).trans ((ho3757 35 0 (Or.inl (by omega))).trans (ho3748 35 0 (Or.inl (by omega))))))))))))))), ((ho3799 35 6 (Or.inl (by omega))).trans ((O3798.2.2 35 35 6 (tv35 O3782.2.1) (show 35 ≠ 52 ∨ (6 ≠ 6 ∧ 6 ≠ 7) by omega)).trans ((O3782.2.2 35 35 6 (tv35 O3780.2.1) (show 35 ≠ 52 ∨ 6 ≠ 4 by omega)).trans ((O3780.2.2 35 35 6 (tv35 O3778.2.1) (show (35 ≠ 52 ∨ (6 ≠ 4 ∧ 6 ≠ 6 ∧ 6 ≠ 7)) ∧ (35 ≠ 56 ∨ 6 < 46) by omega)).trans ((O3778.2.2 35 35 6 (tv35 O3777.2.1) (show 35 ≠ 52 ∨ (6 ≠ 4 ∧ 6 ≠ 6 ∧ 6 ≠ 7) by omega)).trans ((O3777.2.2 35 35 6 (tv35 Oz.2.1) (show (35 ≠ 52 ∨ (6 ≠ 4 ∧ 6 ≠ 6 ∧ 6 ≠ 7)) ∧ (35 ≠ 56 ∨ 46 ≤ 6) by omega)).trans ((Oz.2.2 35 35 6 (tv35 hg3764) (show 35 ≠ 56 by omega)).trans ((ho3764 35 6 (Or.inl (by omega))).trans ((ho3762 35 6 (Or.inl (by omega))).trans ((ho3760 35 6 (Or.inl (by omega))).trans ((ho3758 35 6 (Or.inl (by omega))).trans ((ho3757 35 6 (Or.inl (by omega))).trans (ho3748 35 6 (Or.inl (by omega))))))))))))))), ((ho3799 35 8 (Or.inl (by omega))).trans ((O3798.2.2 35 35 8 (tv35 O3782.2.1) (show 35 ≠ 52 ∨ (8 ≠ 6 ∧ 8 ≠ 7) by omega)).trans ((O3782.2.2 35 35 8 (tv35 O3780.2.1) (show 35 ≠ 52 ∨ 8 ≠ 4 by omega)).trans ((O3780.2.2 35 35 8 (tv35 O3778.2.1) (show (35 ≠ 52 ∨ (8 ≠ 4 ∧ 8 ≠ 6 ∧ 8 ≠ 7)) ∧ (35 ≠ 56 ∨ 8 < 46) by omega)).trans ((O3778.2.2 35 35 8 (tv35 O3777.2.1) (show 35 ≠ 52 ∨ (8 ≠ 4 ∧ 8 ≠ 6 ∧ 8 ≠ 7) by omega)).trans ((O3777.2.2 35 35 8 (tv35 Oz.2.1) (show (35 ≠ 52 ∨ (8 ≠ 4 ∧ 8 ≠ 6 ∧ 8 ≠ 7)) ∧ (35 ≠ 56 ∨ 46 ≤ 8) by omega)).trans ((Oz.2.2 35 35 8 (tv35 hg3764) (show 35 ≠ 56 by omega)).trans ((ho3764 35 8 (Or.inl (by omega))).trans ((ho3762 35 8 (Or.inl (by omega))).trans ((ho3760 35 8 (Or.inl (by omega))).trans ((ho3758 35 8 (Or.inl (by omega))).trans ((ho3757 35 8 (Or.inl (by omega))).trans (ho3748 35 8 (Or.inl (by omega))))))))))))))), ((ho3799 38 2 (Or.inl (by omega))).trans ((O3798.2.2 38 38 2 (tv38 O3782.2.1) (show 38 ≠ 52 ∨ (2 ≠ 6 ∧ 2 ≠ 7) by omega)).trans ((O3782.2.2 38 38 2 (tv38 O3780.2.1) (show 38 ≠ 52 ∨ 2 ≠ 4 by omega)).trans ((O3780.2.2 38 38 2 (tv38 O3778.2.1) (show (38 ≠ 52 ∨ (2 ≠ 4 ∧ 2 ≠ 6 ∧ 2 ≠ 7)) ∧ (38 ≠ 56 ∨ 2 < 46) by omega)).trans ((O3778.2.2 38 38 2 (tv38 O3777.2.1) (show 38 ≠ 52 ∨ (2 ≠ 4 ∧ 2 ≠ 6 ∧ 2 ≠ 7) by omega)).trans ((O3777.2.2 38 38 2 (tv38 Oz.2.1) (show (38 ≠ 52 ∨ (2 ≠ 4 ∧ 2 ≠ 6 ∧ 2 ≠ 7)) ∧ (38 ≠ 56 ∨ 46 ≤ 2) by omega)).trans ((Oz.2.2 38 38 2 (tv38 hg3764) (show 38 ≠ 56 by omega)).trans ((ho3764 38 2 (Or.inl (by omega))).trans ((ho3762 38 2 (Or.inl (by omega))).trans ((ho3760 38 2 (Or.inl (by omega))).trans ((ho3758 38 2 (Or.inl (by omega))).trans ((ho3757 38 2 (Or.inl (by omega))).trans (ho3748 38 2 (Or.inl (by omega)))))))))))))))⟩, ((ho3799 35 5 (Or.inl (by omega))).trans ((O3798.2.2 35 35 5 (tv35 O3782.2.1) (show 35 ≠ 52 ∨ (5 ≠ 6 ∧ 5 ≠ 7) by omega)).trans ((O3782.2.2 35 35 5 (tv35 O3780.2.1) (show 35 ≠ 52 ∨ 5 ≠ 4 by omega)).trans ((O3780.2.2 35 35 5 (tv35 O3778.2.1) (show (35 ≠ 52 ∨ (5 ≠ 4 ∧ 5 ≠ 6 ∧ 5 ≠ 7)) ∧ (35 ≠ 56 ∨ 5 < 46) by omega)).trans ((O3778.2.2 35 35 5 (tv35 O3777.2.1) (show 35 ≠ 52 ∨ (5 ≠ 4 ∧ 5 ≠ 6 ∧ 5 ≠ 7) by omega)).trans ((O3777.2.2 35 35 5 (tv35 Oz.2.1) (show (35 ≠ 52 ∨ (5 ≠ 4 ∧ 5 ≠ 6 ∧ 5 ≠ 7)) ∧ (35 ≠ 56 ∨ 46 ≤ 5) by omega)).trans ((Oz.2.2 35 35 5 (tv35 hg3764) (show 35 ≠ 56 by omega)).trans ((ho3764 35 5 (Or.inl (by omega))).trans ((ho3762 35 5 (Or.inl (by omega))).trans ((ho3760 35 5 (Or.inl (by omega))).trans ((ho3758 35 5 (Or.inl (by omega))).trans ((ho3757 35 5 (Or.inl (by omega))).trans (ho3748 35 5 (Or.inl (by omega))))))))))))))), ⟨((ho3799 52 27 (Or.inr (by omega))).trans ((O3798.2.2 52 52 27 (t52 O3782.2.1) (show 52 ≠ 52 ∨ (27 ≠ 6 ∧ 27 ≠ 7) by omega)).trans ((O3782.2.2 52 52 27 (t52 O3780.2.1) (show 52 ≠ 52 ∨ 27 ≠ 4 by omega)).trans ((O3780.2.2 52 52 27 (t52 O3778.2.1) (show (52 ≠ 52 ∨ (27 ≠ 4 ∧ 27 ≠ 6 ∧ 27 ≠ 7)) ∧ (52 ≠ 56 ∨ 27 < 46) by omega)).trans ((O3778.2.2 52 52 27 (t52 O3777.2.1) (show 52 ≠ 52 ∨ (27 ≠ 4 ∧ 27 ≠ 6 ∧ 27 ≠ 7) by omega)).trans ((O3777.2.2 52 52 27 (t52 Oz.2.1) (show (52 ≠ 52 ∨ (27 ≠ 4 ∧ 27 ≠ 6 ∧ 27 ≠ 7)) ∧ (52 ≠ 56 ∨ 46 ≤ 27) by omega)).trans ((Oz.2.2 52 52 27 (t52 hg3764) (show 52 ≠ 56 by omega)).trans ((ho3764 52 27 (Or.inr (by omega))).trans ((ho3762 52 27 (Or.inr (by omega))).trans ((ho3760 52 27 (Or.inr (by omega))).trans ((ho3758 52 27 (Or.inr (by omega))).trans ((ho3757 52 27 (Or.inr (by omega))).trans (ho3748 52 27 (Or.inr (by omega))))))))))))))), ((ho3799 52 29 (Or.inr (by omega))).trans ((O3798.2.2 52 52 29 (t52 O3782.2.1) (show 52 ≠ 52 ∨ (29 ≠ 6 ∧ 29 ≠ 7) by omega)).trans ((O3782.2.2 52 52 29 (t52 O3780.2.1) (show 52 ≠ 52 ∨ 29 ≠ 4 by omega)).trans ((O3780.2.2 52 52 29 (t52 O3778.2.1) (show (52 ≠ 52 ∨ (29 ≠ 4 ∧ 29 ≠ 6 ∧ 29 ≠ 7)) ∧ (52 ≠ 56 ∨ 29 < 46) by omega)).trans ((O3778.2.2 52 52 29 (t52 O3777.2.1) (show 52 ≠ 52 ∨ (29 ≠ 4 ∧ 29 ≠ 6 ∧ 29 ≠ 7) by omega)).trans ((O3777.2.2 52 52 29 (t52 Oz.2.1) (show (52 ≠ 52 ∨ (29 ≠ 4 ∧ 29 ≠ 6 ∧ 29 ≠ 7)) ∧ (52 ≠ 56 ∨ 46 ≤ 29) by omega)).trans ((Oz.2.2 52 52 29 (t52 hg3764) (show 52 ≠ 56 by omega)).trans ((ho3764 52 29 (Or.inr (by omega))).trans ((ho3762 52 29 (Or.inr (by omega))).trans ((ho3760 52 29 (Or.inr (by omega))).trans ((ho3758 52 29 (Or.inr (by omega))).trans ((ho3757 52 29 (Or.inr (by omega))).trans (ho3748 52 29 (Or.inr (by omega))))))))))))))), ((ho3799 52 32 (Or.inr (by omega))).trans ((O3798.2.2 52 52 32 (t52 O3782.2.1) (show 52 ≠ 52 ∨ (32 ≠ 6 ∧ 32 ≠ 7) by omega)).trans ((O3782.2.2 52 52 32 (t52 O3780.2.1) (show 52 ≠ 52 ∨ 32 ≠ 4 by omega)).trans ((O3780.2.2 52 52 32 (t52 O3778.2.1) (show (52 ≠ 52 ∨ (32 ≠ 4 ∧ 32 ≠ 6 ∧ 32 ≠ 7)) ∧ (52 ≠ 56 ∨ 32 < 46) by omega)).trans ((O3778.2.2 52 52 32 (t52 O3777.2.1) (show 52 ≠ 52 ∨ (32 ≠ 4 ∧ 32 ≠ 6 ∧ 32 ≠ 7) by omega)).trans ((O3777.2.2 52 52 32 (t52 Oz.2.1) (show (52 ≠ 52 ∨ (32 ≠ 4 ∧ 32 ≠ 6 ∧ 32 ≠ 7)) ∧ (52 ≠ 56 ∨ 46 ≤ 32) by omega)).trans ((Oz.2.2 52 52 32 (t52 hg3764) (show 52 ≠ 56 by omega)).trans ((ho3764 52 32 (Or.inr (by omega))).trans ((ho3762 52 32 (Or.inr (by omega))).trans ((ho3760 52 32 (Or.inr (by omega))).trans ((ho3758 52 32 (Or.inr (by omega))).trans ((ho3757 52 32 (Or.inr (by omega))).trans (ho3748 52 32 (Or.inr (by omega)))))))))))))))⟩, Or.inl ⟨(by unfold wAll; simp only [e3777, e3778, e3780]; rw [if_neg (show ¬ sk b n a3780 = n by omega)]; exact ⟨_, rfl⟩), ((ho3799 52 31 (Or.inr (by omega))).trans ((O3798.2.2 52 52 31 (t52 O3782.2.1) (show 52 ≠ 52 ∨ (31 ≠ 6 ∧ 31 ≠ 7) by omega)).trans ((O3782.2.2 52 52 31 (t52 O3780.2.1) (show 52 ≠ 52 ∨ 31 ≠ 4 by omega)).trans ((O3780.2.2 52 52 31 (t52 O3778.2.1) (show (52 ≠ 52 ∨ (31 ≠ 4 ∧ 31 ≠ 6 ∧ 31 ≠ 7)) ∧ (52 ≠ 56 ∨ 31 < 46) by omega)).trans ((O3778.2.2 52 52 31 (t52 O3777.2.1) (show 52 ≠ 52 ∨ (31 ≠ 4 ∧ 31 ≠ 6 ∧ 31 ≠ 7) by omega)).trans ((O3777.2.2 52 52 31 (t52 Oz.2.1) (show (52 ≠ 52 ∨ (31 ≠ 4 ∧ 31 ≠ 6 ∧ 31 ≠ 7)) ∧ (52 ≠ 56 ∨ 46 ≤ 31) by omega)).trans ((Oz.2.2 52 52 31 (t52 hg3764) (show 52 ≠ 56 by omega)).trans ((ho3764 52 31 (Or.inr (by omega))).trans ((ho3762 52 31 (Or.inr (by omega))).trans ((ho3760 52 31 (Or.inr (by omega))).trans ((ho3758 52 31 (Or.inr (by omega))).trans ((ho3757 52 31 (Or.inr (by omega))).trans (ho3748 52 31 (Or.inr (by omega)))))))))))))))⟩⟩
      ·
        obtain ⟨⟨xn3780n, hn3780n, en3780n⟩, ⟨xa3780n, ha3780n, ea3780n⟩, hb3780n, -⟩ := id rd3780
        obtain ⟨⟨xf3780n, hf3780n, ef3780n⟩, xw3780n, hw3780n, ew3780n⟩ := id ft3780
        refine y_same (i := .aload_n 0) (len := 1) (r := (0, 0, 0, 0)) (pc' := 96) (ls' := [some (.inl (some 52)), some (zi xn), some (zi xz)]) (st' := [.inl (some 52)]) (by decide +kernel) (fun k q => by cases q) rfl ?_
        refine y_cI (i := .invokevirtual 114) (len := 3) (r := (0, 172, 12, 1502)) (nL := 1) (k := 2) (n := 1) (hs := []) (args := [.inl (some 52)]) (rest := []) (l0 := [some (.inl (some 52))]) (by decide +kernel) (Or.inr (Or.inl ⟨_, rfl⟩)) rfl rfl rfl rfl (Nat.le_of_ble_eq_true rfl) (z52 O3780.2.1) rfl (qI_le (by decide) (m_fine (d := 0) O3780.2.1 ft3780)) (fun y3804 qy3804 hRy3804 => ?_)
        obtain ⟨rfl, gy3804, by3804⟩ := hRy3804
        have hy3804 : y3804.toInt = 0 := by3804 (by omega)
        refine y_iT (c := .eq) (off := 20) (pc' := 119) (len := 3) (r := (0, 0, 0, 0)) (by decide +kernel) (acmpT (c := .eq) (by show _ = _; omega)) (by decide +kernel) ?_
        refine y_same (i := .aload_n 0) (len := 1) (r := (0, 0, 0, 0)) (pc' := 120) (ls' := [some (.inl (some 52)), some (zi xn), some (zi xz)]) (st' := [.inl (some 52)]) (by decide +kernel) (fun k q => by cases q) rfl ?_
        refine y_same (i := .aload_n 0) (len := 1) (r := (0, 0, 0, 0)) (pc' := 121) (ls' := [some (.inl (some 52)), some (zi xn), some (zi xz)]) (st' := [.inl (some 52), .inl (some 52)]) (by decide +kernel) (fun k q => by cases q) rfl ?_
        refine y_get (j := 111) (len := 3) (r := (12, 7, 0, 1335)) (by decide +kernel) O3780.2.1 (t52 O3780.2.1) at52 rfl rfl hw3780n ?_
        refine y_put (j := 13) (lo := (-2147483648)) (hi := 2147483647) (len := 3) (r := (12, 5, 0, 1333)) (by decide +kernel) O3780.2.1 (t52 O3780.2.1) at52 rfl rfl (by decide) rfl (qin_full _).1 (qin_full _).2 rfl (fun h3805 hg3805 hl3805 hs3805 ho3805 => ?_)
        have ho3805 : hO 52 5 h3780 h3805 := ho3805
        have hs3805 : hsl h3805 52 5 = some (zi xw3780n) := hs3805
        refine y_same (i := .aload_n 0) (len := 1) (r := (0, 0, 0, 0)) (pc' := 128) (ls' := [some (.inl (some 52)), some (zi xn), some (zi xz)]) (st' := [.inl (some 52)]) (by decide +kernel) (fun k q => by cases q) rfl ?_
        refine y_cI (i := .invokevirtual 114) (len := 3) (r := (0, 172, 12, 1502)) (nL := 1) (k := 2) (n := 1) (hs := []) (args := [.inl (some 52)]) (rest := []) (l0 := [some (.inl (some 52))]) (by decide +kernel) (Or.inr (Or.inl ⟨_, rfl⟩)) rfl rfl rfl rfl (Nat.le_of_ble_eq_true rfl) (z52 hg3805) rfl (qI_le (by decide) (m_fine (d := 0) hg3805 (ftM_up ft3780 (ho3805 52 6 (Or.inr (by omega))) (ho3805 52 7 (Or.inr (by omega)))))) (fun y3806 qy3806 hRy3806 => ?_)
        obtain ⟨rfl, gy3806, by3806⟩ := hRy3806
        have hy3806 : y3806.toInt = 0 := by3806 (by omega)
        refine y_iF (c := .ne) (off := 11) (len := 3) (r := (0, 0, 0, 0)) (by decide +kernel) (acmpF (c := .ne) (by show _ = _; omega)) ?_
        refine y_same (i := .aload_n 0) (len := 1) (r := (0, 0, 0, 0)) (pc' := 135) (ls' := [some (.inl (some 52)), some (zi xn), some (zi xz)]) (st' := [.inl (some 52)]) (by decide +kernel) (fun k q => by cases q) rfl ?_
        have hv3807 := (ho3805 52 6 (Or.inr (by omega))).trans hf3780n
        refine y_get (j := 108) (len := 3) (r := (12, 6, 0, 1334)) (by decide +kernel) hg3805 (t52 hg3805) at52 rfl rfl hv3807 ?_
        refine y_bi (c := 10) (len := 2) (r := (0, 0, 0, 0)) (by decide +kernel) (by decide) (fun y3808 hy3808 => ?_)
        refine y_bp (i := .isub) (f := fun x y => x - y) (len := 1) (r := (0, 0, 0, 0)) (by decide +kernel) rfl rfl (fun y3809 hy3809 => ?_)
        refine y_rI (len := 1) (r := (0, 0, 0, 0)) (nL := 3) (k := 1) (n9 := 2) (hs := []) (by decide +kernel) rfl rfl ?_
        exact ⟨⟨fun k => ((ho3805 36 k (Or.inl (by omega))).trans ((O3780.2.2 36 36 k (tv36 O3778.2.1) (show (36 ≠ 52 ∨ (k ≠ 4 ∧ k ≠ 6 ∧ k ≠ 7)) ∧ (36 ≠ 56 ∨ k < 46) by omega)).trans ((O3778.2.2 36 36 k (tv36 O3777.2.1) (show 36 ≠ 52 ∨ (k ≠ 4 ∧ k ≠ 6 ∧ k ≠ 7) by omega)).trans ((O3777.2.2 36 36 k (tv36 Oz.2.1) (show (36 ≠ 52 ∨ (k ≠ 4 ∧ k ≠ 6 ∧ k ≠ 7)) ∧ (36 ≠ 56 ∨ 46 ≤ k) by omega)).trans ((Oz.2.2 36 36 k (tv36 hg3764) (show 36 ≠ 56 by omega)).trans ((ho3764 36 k (Or.inl (by omega))).trans ((ho3762 36 k (Or.inl (by omega))).trans ((ho3760 36 k (Or.inl (by omega))).trans ((ho3758 36 k (Or.inl (by omega))).trans ((ho3757 36 k (Or.inl (by omega))).trans (ho3748 36 k (Or.inl (by omega))))))))))))), ((ho3805 35 0 (Or.inl (by omega))).trans ((O3780.2.2 35 35 0 (tv35 O3778.2.1) (show (35 ≠ 52 ∨ (0 ≠ 4 ∧ 0 ≠ 6 ∧ 0 ≠ 7)) ∧ (35 ≠ 56 ∨ 0 < 46) by omega)).trans ((O3778.2.2 35 35 0 (tv35 O3777.2.1) (show 35 ≠ 52 ∨ (0 ≠ 4 ∧ 0 ≠ 6 ∧ 0 ≠ 7) by omega)).trans ((O3777.2.2 35 35 0 (tv35 Oz.2.1) (show (35 ≠ 52 ∨ (0 ≠ 4 ∧ 0 ≠ 6 ∧ 0 ≠ 7)) ∧ (35 ≠ 56 ∨ 46 ≤ 0) by omega)).trans ((Oz.2.2 35 35 0 (tv35 hg3764) (show 35 ≠ 56 by omega)).trans ((ho3764 35 0 (Or.inl (by omega))).trans ((ho3762 35 0 (Or.inl (by omega))).trans ((ho3760 35 0 (Or.inl (by omega))).trans ((ho3758 35 0 (Or.inl (by omega))).trans ((ho3757 35 0 (Or.inl (by omega))).trans (ho3748 35 0 (Or.inl (by omega))))))))))))), ((ho3805 35 6 (Or.inl (by omega))).trans ((O3780.2.2 35 35 6 (tv35 O3778.2.1) (show (35 ≠ 52 ∨ (6 ≠ 4 ∧ 6 ≠ 6 ∧ 6 ≠ 7)) ∧ (35 ≠ 56 ∨ 6 < 46) by omega)).trans ((O3778.2.2 35 35 6 (tv35 O3777.2.1) (show 35 ≠ 52 ∨ (6 ≠ 4 ∧ 6 ≠ 6 ∧ 6 ≠ 7) by omega)).trans ((O3777.2.2 35 35 6 (tv35 Oz.2.1) (show (35 ≠ 52 ∨ (6 ≠ 4 ∧ 6 ≠ 6 ∧ 6 ≠ 7)) ∧ (35 ≠ 56 ∨ 46 ≤ 6) by omega)).trans ((Oz.2.2 35 35 6 (tv35 hg3764) (show 35 ≠ 56 by omega)).trans ((ho3764 35 6 (Or.inl (by omega))).trans ((ho3762 35 6 (Or.inl (by omega))).trans ((ho3760 35 6 (Or.inl (by omega))).trans ((ho3758 35 6 (Or.inl (by omega))).trans ((ho3757 35 6 (Or.inl (by omega))).trans (ho3748 35 6 (Or.inl (by omega))))))))))))), ((ho3805 35 8 (Or.inl (by omega))).trans ((O3780.2.2 35 35 8 (tv35 O3778.2.1) (show (35 ≠ 52 ∨ (8 ≠ 4 ∧ 8 ≠ 6 ∧ 8 ≠ 7)) ∧ (35 ≠ 56 ∨ 8 < 46) by omega)).trans ((O3778.2.2 35 35 8 (tv35 O3777.2.1) (show 35 ≠ 52 ∨ (8 ≠ 4 ∧ 8 ≠ 6 ∧ 8 ≠ 7) by omega)).trans ((O3777.2.2 35 35 8 (tv35 Oz.2.1) (show (35 ≠ 52 ∨ (8 ≠ 4 ∧ 8 ≠ 6 ∧ 8 ≠ 7)) ∧ (35 ≠ 56 ∨ 46 ≤ 8) by omega)).trans ((Oz.2.2 35 35 8 (tv35 hg3764) (show 35 ≠ 56 by omega)).trans ((ho3764 35 8 (Or.inl (by omega))).trans ((ho3762 35 8 (Or.inl (by omega))).trans ((ho3760 35 8 (Or.inl (by omega))).trans ((ho3758 35 8 (Or.inl (by omega))).trans ((ho3757 35 8 (Or.inl (by omega))).trans (ho3748 35 8 (Or.inl (by omega))))))))))))), ((ho3805 38 2 (Or.inl (by omega))).trans ((O3780.2.2 38 38 2 (tv38 O3778.2.1) (show (38 ≠ 52 ∨ (2 ≠ 4 ∧ 2 ≠ 6 ∧ 2 ≠ 7)) ∧ (38 ≠ 56 ∨ 2 < 46) by omega)).trans ((O3778.2.2 38 38 2 (tv38 O3777.2.1) (show 38 ≠ 52 ∨ (2 ≠ 4 ∧ 2 ≠ 6 ∧ 2 ≠ 7) by omega)).trans ((O3777.2.2 38 38 2 (tv38 Oz.2.1) (show (38 ≠ 52 ∨ (2 ≠ 4 ∧ 2 ≠ 6 ∧ 2 ≠ 7)) ∧ (38 ≠ 56 ∨ 46 ≤ 2) by omega)).trans ((Oz.2.2 38 38 2 (tv38 hg3764) (show 38 ≠ 56 by omega)).trans ((ho3764 38 2 (Or.inl (by omega))).trans ((ho3762 38 2 (Or.inl (by omega))).trans ((ho3760 38 2 (Or.inl (by omega))).trans ((ho3758 38 2 (Or.inl (by omega))).trans ((ho3757 38 2 (Or.inl (by omega))).trans (ho3748 38 2 (Or.inl (by omega)))))))))))))⟩, ((ho3805 35 5 (Or.inl (by omega))).trans ((O3780.2.2 35 35 5 (tv35 O3778.2.1) (show (35 ≠ 52 ∨ (5 ≠ 4 ∧ 5 ≠ 6 ∧ 5 ≠ 7)) ∧ (35 ≠ 56 ∨ 5 < 46) by omega)).trans ((O3778.2.2 35 35 5 (tv35 O3777.2.1) (show 35 ≠ 52 ∨ (5 ≠ 4 ∧ 5 ≠ 6 ∧ 5 ≠ 7) by omega)).trans ((O3777.2.2 35 35 5 (tv35 Oz.2.1) (show (35 ≠ 52 ∨ (5 ≠ 4 ∧ 5 ≠ 6 ∧ 5 ≠ 7)) ∧ (35 ≠ 56 ∨ 46 ≤ 5) by omega)).trans ((Oz.2.2 35 35 5 (tv35 hg3764) (show 35 ≠ 56 by omega)).trans ((ho3764 35 5 (Or.inl (by omega))).trans ((ho3762 35 5 (Or.inl (by omega))).trans ((ho3760 35 5 (Or.inl (by omega))).trans ((ho3758 35 5 (Or.inl (by omega))).trans ((ho3757 35 5 (Or.inl (by omega))).trans (ho3748 35 5 (Or.inl (by omega))))))))))))), ⟨((ho3805 52 27 (Or.inr (by omega))).trans ((O3780.2.2 52 52 27 (t52 O3778.2.1) (show (52 ≠ 52 ∨ (27 ≠ 4 ∧ 27 ≠ 6 ∧ 27 ≠ 7)) ∧ (52 ≠ 56 ∨ 27 < 46) by omega)).trans ((O3778.2.2 52 52 27 (t52 O3777.2.1) (show 52 ≠ 52 ∨ (27 ≠ 4 ∧ 27 ≠ 6 ∧ 27 ≠ 7) by omega)).trans ((O3777.2.2 52 52 27 (t52 Oz.2.1) (show (52 ≠ 52 ∨ (27 ≠ 4 ∧ 27 ≠ 6 ∧ 27 ≠ 7)) ∧ (52 ≠ 56 ∨ 46 ≤ 27) by omega)).trans ((Oz.2.2 52 52 27 (t52 hg3764) (show 52 ≠ 56 by omega)).trans ((ho3764 52 27 (Or.inr (by omega))).trans ((ho3762 52 27 (Or.inr (by omega))).trans ((ho3760 52 27 (Or.inr (by omega))).trans ((ho3758 52 27 (Or.inr (by omega))).trans ((ho3757 52 27 (Or.inr (by omega))).trans (ho3748 52 27 (Or.inr (by omega))))))))))))), ((ho3805 52 29 (Or.inr (by omega))).trans ((O3780.2.2 52 52 29 (t52 O3778.2.1) (show (52 ≠ 52 ∨ (29 ≠ 4 ∧ 29 ≠ 6 ∧ 29 ≠ 7)) ∧ (52 ≠ 56 ∨ 29 < 46) by omega)).trans ((O3778.2.2 52 52 29 (t52 O3777.2.1) (show 52 ≠ 52 ∨ (29 ≠ 4 ∧ 29 ≠ 6 ∧ 29 ≠ 7) by omega)).trans ((O3777.2.2 52 52 29 (t52 Oz.2.1) (show (52 ≠ 52 ∨ (29 ≠ 4 ∧ 29 ≠ 6 ∧ 29 ≠ 7)) ∧ (52 ≠ 56 ∨ 46 ≤ 29) by omega)).trans ((Oz.2.2 52 52 29 (t52 hg3764) (show 52 ≠ 56 by omega)).trans ((ho3764 52 29 (Or.inr (by omega))).trans ((ho3762 52 29 (Or.inr (by omega))).trans ((ho3760 52 29 (Or.inr (by omega))).trans ((ho3758 52 29 (Or.inr (by omega))).trans ((ho3757 52 29 (Or.inr (by omega))).trans (ho3748 52 29 (Or.inr (by omega))))))))))))), ((ho3805 52 32 (Or.inr (by omega))).trans ((O3780.2.2 52 52 32 (t52 O3778.2.1) (show (52 ≠ 52 ∨ (32 ≠ 4 ∧ 32 ≠ 6 ∧ 32 ≠ 7)) ∧ (52 ≠ 56 ∨ 32 < 46) by omega)).trans ((O3778.2.2 52 52 32 (t52 O3777.2.1) (show 52 ≠ 52 ∨ (32 ≠ 4 ∧ 32 ≠ 6 ∧ 32 ≠ 7) by omega)).trans ((O3777.2.2 52 52 32 (t52 Oz.2.1) (show (52 ≠ 52 ∨ (32 ≠ 4 ∧ 32 ≠ 6 ∧ 32 ≠ 7)) ∧ (52 ≠ 56 ∨ 46 ≤ 32) by omega)).trans ((Oz.2.2 52 52 32 (t52 hg3764) (show 52 ≠ 56 by omega)).trans ((ho3764 52 32 (Or.inr (by omega))).trans ((ho3762 52 32 (Or.inr (by omega))).trans ((ho3760 52 32 (Or.inr (by omega))).trans ((ho3758 52 32 (Or.inr (by omega))).trans ((ho3757 52 32 (Or.inr (by omega))).trans (ho3748 52 32 (Or.inr (by omega)))))))))))))⟩, Or.inl ⟨(by unfold wAll; simp only [e3777, e3778, e3780]; exact ⟨_, rfl⟩), ((ho3805 52 31 (Or.inr (by omega))).trans ((O3780.2.2 52 52 31 (t52 O3778.2.1) (show (52 ≠ 52 ∨ (31 ≠ 4 ∧ 31 ≠ 6 ∧ 31 ≠ 7)) ∧ (52 ≠ 56 ∨ 31 < 46) by omega)).trans ((O3778.2.2 52 52 31 (t52 O3777.2.1) (show 52 ≠ 52 ∨ (31 ≠ 4 ∧ 31 ≠ 6 ∧ 31 ≠ 7) by omega)).trans ((O3777.2.2 52 52 31 (t52 Oz.2.1) (show (52 ≠ 52 ∨ (31 ≠ 4 ∧ 31 ≠ 6 ∧ 31 ≠ 7)) ∧ (52 ≠ 56 ∨ 46 ≤ 31) by omega)).trans ((Oz.2.2 52 52 31 (t52 hg3764) (show 52 ≠ 56 by omega)).trans ((ho3764 52 31 (Or.inr (by omega))).trans ((ho3762 52 31 (Or.inr (by omega))).trans ((ho3760 52 31 (Or.inr (by omega))).trans ((ho3758 52 31 (Or.inr (by omega))).trans ((ho3757 52 31 (Or.inr (by omega))).trans (ho3748 52 31 (Or.inr (by omega)))))))))))))⟩⟩
    ·
      have sl3778 := sk_le (b := b) (n := n) (a := a3777) (by omega)
      obtain ⟨⟨xn3778n, hn3778n, en3778n⟩, ⟨xa3778n, ha3778n, ea3778n⟩, hb3778n, -⟩ := id r3778
      obtain ⟨⟨xf3778n, hf3778n, ef3778n⟩, xw3778n, hw3778n, ew3778n⟩ := id f3778
      refine y_same (i := .aload_n 0) (len := 1) (r := (0, 0, 0, 0)) (pc' := 91) (ls' := [some (.inl (some 52)), some (zi xn), some (zi xz)]) (st' := [.inl (some 52)]) (by decide +kernel) (fun k q => by cases q) rfl ?_
      refine y_ic (c := 1) (len := 1) (r := (0, 0, 0, 0)) (by decide +kernel) (by decide) (fun y3810 hy3810 => ?_)
      refine y_cV (i := .invokevirtual 208) (len := 3) (r := (0, 182, 12, 1493)) (nL := 2) (k := 0) (n := 2) (hs := []) (args := [.inl (some 52), zi y3810]) (rest := []) (l0 := [some (.inl (some 52)), some (zi y3810)]) (by decide +kernel) (Or.inr (Or.inl ⟨_, rfl⟩)) rfl rfl rfl rfl (Nat.le_of_ble_eq_true rfl) (z52 O3778.2.1) rfl (qV_le (by decide) (s_side O3778.2.1 r3778 (by omega) f3778 (by omega))) (fun h3811 hR3811 => ?_)
      obtain ⟨τ3811, O3811, a3811, le3811, rd3811, ft3811⟩ := hR3811
      obtain ⟨⟨xn3811, hn3811, en3811⟩, ⟨xa3811, ha3811, ea3811⟩, hb3811, -⟩ := id rd3811
      obtain ⟨⟨xf3811, hf3811, ef3811⟩, xw3811, hw3811, ew3811⟩ := id ft3811
      refine y_same (i := .aload_n 0) (len := 1) (r := (0, 0, 0, 0)) (pc' := 96) (ls' := [some (.inl (some 52)), some (zi xn), some (zi xz)]) (st' := [.inl (some 52)]) (by decide +kernel) (fun k q => by cases q) rfl ?_
      refine y_cI (i := .invokevirtual 114) (len := 3) (r := (0, 172, 12, 1502)) (nL := 1) (k := 2) (n := 1) (hs := []) (args := [.inl (some 52)]) (rest := []) (l0 := [some (.inl (some 52))]) (by decide +kernel) (Or.inr (Or.inl ⟨_, rfl⟩)) rfl rfl rfl rfl (Nat.le_of_ble_eq_true rfl) (z52 O3811.2.1) rfl (qI_le (by decide) (m_fine (d := 0) O3811.2.1 ft3811)) (fun y3812 qy3812 hRy3812 => ?_)
      obtain ⟨rfl, gy3812, by3812⟩ := hRy3812
      have hy3812 : y3812.toInt = 0 := by3812 (by omega)
      refine y_iT (c := .eq) (off := 20) (pc' := 119) (len := 3) (r := (0, 0, 0, 0)) (by decide +kernel) (acmpT (c := .eq) (by show _ = _; omega)) (by decide +kernel) ?_
      refine y_same (i := .aload_n 0) (len := 1) (r := (0, 0, 0, 0)) (pc' := 120) (ls' := [some (.inl (some 52)), some (zi xn), some (zi xz)]) (st' := [.inl (some 52)]) (by decide +kernel) (fun k q => by cases q) rfl ?_
      refine y_same (i := .aload_n 0) (len := 1) (r := (0, 0, 0, 0)) (pc' := 121) (ls' := [some (.inl (some 52)), some (zi xn), some (zi xz)]) (st' := [.inl (some 52), .inl (some 52)]) (by decide +kernel) (fun k q => by cases q) rfl ?_
      refine y_get (j := 111) (len := 3) (r := (12, 7, 0, 1335)) (by decide +kernel) O3811.2.1 (t52 O3811.2.1) at52 rfl rfl hw3811 ?_
      refine y_put (j := 13) (lo := (-2147483648)) (hi := 2147483647) (len := 3) (r := (12, 5, 0, 1333)) (by decide +kernel) O3811.2.1 (t52 O3811.2.1) at52 rfl rfl (by decide) rfl (qin_full _).1 (qin_full _).2 rfl (fun h3813 hg3813 hl3813 hs3813 ho3813 => ?_)
      have ho3813 : hO 52 5 h3811 h3813 := ho3813
      have hs3813 : hsl h3813 52 5 = some (zi xw3811) := hs3813
      refine y_same (i := .aload_n 0) (len := 1) (r := (0, 0, 0, 0)) (pc' := 128) (ls' := [some (.inl (some 52)), some (zi xn), some (zi xz)]) (st' := [.inl (some 52)]) (by decide +kernel) (fun k q => by cases q) rfl ?_
      refine y_cI (i := .invokevirtual 114) (len := 3) (r := (0, 172, 12, 1502)) (nL := 1) (k := 2) (n := 1) (hs := []) (args := [.inl (some 52)]) (rest := []) (l0 := [some (.inl (some 52))]) (by decide +kernel) (Or.inr (Or.inl ⟨_, rfl⟩)) rfl rfl rfl rfl (Nat.le_of_ble_eq_true rfl) (z52 hg3813) rfl (qI_le (by decide) (m_fine (d := 0) hg3813 (ftM_up ft3811 (ho3813 52 6 (Or.inr (by omega))) (ho3813 52 7 (Or.inr (by omega)))))) (fun y3814 qy3814 hRy3814 => ?_)
      obtain ⟨rfl, gy3814, by3814⟩ := hRy3814
      have hy3814 : y3814.toInt = 0 := by3814 (by omega)
      refine y_iF (c := .ne) (off := 11) (len := 3) (r := (0, 0, 0, 0)) (by decide +kernel) (acmpF (c := .ne) (by show _ = _; omega)) ?_
      refine y_same (i := .aload_n 0) (len := 1) (r := (0, 0, 0, 0)) (pc' := 135) (ls' := [some (.inl (some 52)), some (zi xn), some (zi xz)]) (st' := [.inl (some 52)]) (by decide +kernel) (fun k q => by cases q) rfl ?_
      have hv3815 := (ho3813 52 6 (Or.inr (by omega))).trans hf3811
      refine y_get (j := 108) (len := 3) (r := (12, 6, 0, 1334)) (by decide +kernel) hg3813 (t52 hg3813) at52 rfl rfl hv3815 ?_
      refine y_bi (c := 10) (len := 2) (r := (0, 0, 0, 0)) (by decide +kernel) (by decide) (fun y3816 hy3816 => ?_)
      refine y_bp (i := .isub) (f := fun x y => x - y) (len := 1) (r := (0, 0, 0, 0)) (by decide +kernel) rfl rfl (fun y3817 hy3817 => ?_)
      refine y_rI (len := 1) (r := (0, 0, 0, 0)) (nL := 3) (k := 1) (n9 := 2) (hs := []) (by decide +kernel) rfl rfl ?_
      exact ⟨⟨fun k => ((ho3813 36 k (Or.inl (by omega))).trans ((O3811.2.2 36 36 k (tv36 O3778.2.1) (show 36 ≠ 52 ∨ k ≠ 4 by omega)).trans ((O3778.2.2 36 36 k (tv36 O3777.2.1) (show 36 ≠ 52 ∨ (k ≠ 4 ∧ k ≠ 6 ∧ k ≠ 7) by omega)).trans ((O3777.2.2 36 36 k (tv36 Oz.2.1) (show (36 ≠ 52 ∨ (k ≠ 4 ∧ k ≠ 6 ∧ k ≠ 7)) ∧ (36 ≠ 56 ∨ 46 ≤ k) by omega)).trans ((Oz.2.2 36 36 k (tv36 hg3764) (show 36 ≠ 56 by omega)).trans ((ho3764 36 k (Or.inl (by omega))).trans ((ho3762 36 k (Or.inl (by omega))).trans ((ho3760 36 k (Or.inl (by omega))).trans ((ho3758 36 k (Or.inl (by omega))).trans ((ho3757 36 k (Or.inl (by omega))).trans (ho3748 36 k (Or.inl (by omega))))))))))))), ((ho3813 35 0 (Or.inl (by omega))).trans ((O3811.2.2 35 35 0 (tv35 O3778.2.1) (show 35 ≠ 52 ∨ 0 ≠ 4 by omega)).trans ((O3778.2.2 35 35 0 (tv35 O3777.2.1) (show 35 ≠ 52 ∨ (0 ≠ 4 ∧ 0 ≠ 6 ∧ 0 ≠ 7) by omega)).trans ((O3777.2.2 35 35 0 (tv35 Oz.2.1) (show (35 ≠ 52 ∨ (0 ≠ 4 ∧ 0 ≠ 6 ∧ 0 ≠ 7)) ∧ (35 ≠ 56 ∨ 46 ≤ 0) by omega)).trans ((Oz.2.2 35 35 0 (tv35 hg3764) (show 35 ≠ 56 by omega)).trans ((ho3764 35 0 (Or.inl (by omega))).trans ((ho3762 35 0 (Or.inl (by omega))).trans ((ho3760 35 0 (Or.inl (by omega))).trans ((ho3758 35 0 (Or.inl (by omega))).trans ((ho3757 35 0 (Or.inl (by omega))).trans (ho3748 35 0 (Or.inl (by omega))))))))))))), ((ho3813 35 6 (Or.inl (by omega))).trans ((O3811.2.2 35 35 6 (tv35 O3778.2.1) (show 35 ≠ 52 ∨ 6 ≠ 4 by omega)).trans ((O3778.2.2 35 35 6 (tv35 O3777.2.1) (show 35 ≠ 52 ∨ (6 ≠ 4 ∧ 6 ≠ 6 ∧ 6 ≠ 7) by omega)).trans ((O3777.2.2 35 35 6 (tv35 Oz.2.1) (show (35 ≠ 52 ∨ (6 ≠ 4 ∧ 6 ≠ 6 ∧ 6 ≠ 7)) ∧ (35 ≠ 56 ∨ 46 ≤ 6) by omega)).trans ((Oz.2.2 35 35 6 (tv35 hg3764) (show 35 ≠ 56 by omega)).trans ((ho3764 35 6 (Or.inl (by omega))).trans ((ho3762 35 6 (Or.inl (by omega))).trans ((ho3760 35 6 (Or.inl (by omega))).trans ((ho3758 35 6 (Or.inl (by omega))).trans ((ho3757 35 6 (Or.inl (by omega))).trans (ho3748 35 6 (Or.inl (by omega))))))))))))), ((ho3813 35 8 (Or.inl (by omega))).trans ((O3811.2.2 35 35 8 (tv35 O3778.2.1) (show 35 ≠ 52 ∨ 8 ≠ 4 by omega)).trans ((O3778.2.2 35 35 8 (tv35 O3777.2.1) (show 35 ≠ 52 ∨ (8 ≠ 4 ∧ 8 ≠ 6 ∧ 8 ≠ 7) by omega)).trans ((O3777.2.2 35 35 8 (tv35 Oz.2.1) (show (35 ≠ 52 ∨ (8 ≠ 4 ∧ 8 ≠ 6 ∧ 8 ≠ 7)) ∧ (35 ≠ 56 ∨ 46 ≤ 8) by omega)).trans ((Oz.2.2 35 35 8 (tv35 hg3764) (show 35 ≠ 56 by omega)).trans ((ho3764 35 8 (Or.inl (by omega))).trans ((ho3762 35 8 (Or.inl (by omega))).trans ((ho3760 35 8 (Or.inl (by omega))).trans ((ho3758 35 8 (Or.inl (by omega))).trans ((ho3757 35 8 (Or.inl (by omega))).trans (ho3748 35 8 (Or.inl (by omega))))))))))))), ((ho3813 38 2 (Or.inl (by omega))).trans ((O3811.2.2 38 38 2 (tv38 O3778.2.1) (show 38 ≠ 52 ∨ 2 ≠ 4 by omega)).trans ((O3778.2.2 38 38 2 (tv38 O3777.2.1) (show 38 ≠ 52 ∨ (2 ≠ 4 ∧ 2 ≠ 6 ∧ 2 ≠ 7) by omega)).trans ((O3777.2.2 38 38 2 (tv38 Oz.2.1) (show (38 ≠ 52 ∨ (2 ≠ 4 ∧ 2 ≠ 6 ∧ 2 ≠ 7)) ∧ (38 ≠ 56 ∨ 46 ≤ 2) by omega)).trans ((Oz.2.2 38 38 2 (tv38 hg3764) (show 38 ≠ 56 by omega)).trans ((ho3764 38 2 (Or.inl (by omega))).trans ((ho3762 38 2 (Or.inl (by omega))).trans ((ho3760 38 2 (Or.inl (by omega))).trans ((ho3758 38 2 (Or.inl (by omega))).trans ((ho3757 38 2 (Or.inl (by omega))).trans (ho3748 38 2 (Or.inl (by omega)))))))))))))⟩, ((ho3813 35 5 (Or.inl (by omega))).trans ((O3811.2.2 35 35 5 (tv35 O3778.2.1) (show 35 ≠ 52 ∨ 5 ≠ 4 by omega)).trans ((O3778.2.2 35 35 5 (tv35 O3777.2.1) (show 35 ≠ 52 ∨ (5 ≠ 4 ∧ 5 ≠ 6 ∧ 5 ≠ 7) by omega)).trans ((O3777.2.2 35 35 5 (tv35 Oz.2.1) (show (35 ≠ 52 ∨ (5 ≠ 4 ∧ 5 ≠ 6 ∧ 5 ≠ 7)) ∧ (35 ≠ 56 ∨ 46 ≤ 5) by omega)).trans ((Oz.2.2 35 35 5 (tv35 hg3764) (show 35 ≠ 56 by omega)).trans ((ho3764 35 5 (Or.inl (by omega))).trans ((ho3762 35 5 (Or.inl (by omega))).trans ((ho3760 35 5 (Or.inl (by omega))).trans ((ho3758 35 5 (Or.inl (by omega))).trans ((ho3757 35 5 (Or.inl (by omega))).trans (ho3748 35 5 (Or.inl (by omega))))))))))))), ⟨((ho3813 52 27 (Or.inr (by omega))).trans ((O3811.2.2 52 52 27 (t52 O3778.2.1) (show 52 ≠ 52 ∨ 27 ≠ 4 by omega)).trans ((O3778.2.2 52 52 27 (t52 O3777.2.1) (show 52 ≠ 52 ∨ (27 ≠ 4 ∧ 27 ≠ 6 ∧ 27 ≠ 7) by omega)).trans ((O3777.2.2 52 52 27 (t52 Oz.2.1) (show (52 ≠ 52 ∨ (27 ≠ 4 ∧ 27 ≠ 6 ∧ 27 ≠ 7)) ∧ (52 ≠ 56 ∨ 46 ≤ 27) by omega)).trans ((Oz.2.2 52 52 27 (t52 hg3764) (show 52 ≠ 56 by omega)).trans ((ho3764 52 27 (Or.inr (by omega))).trans ((ho3762 52 27 (Or.inr (by omega))).trans ((ho3760 52 27 (Or.inr (by omega))).trans ((ho3758 52 27 (Or.inr (by omega))).trans ((ho3757 52 27 (Or.inr (by omega))).trans (ho3748 52 27 (Or.inr (by omega))))))))))))), ((ho3813 52 29 (Or.inr (by omega))).trans ((O3811.2.2 52 52 29 (t52 O3778.2.1) (show 52 ≠ 52 ∨ 29 ≠ 4 by omega)).trans ((O3778.2.2 52 52 29 (t52 O3777.2.1) (show 52 ≠ 52 ∨ (29 ≠ 4 ∧ 29 ≠ 6 ∧ 29 ≠ 7) by omega)).trans ((O3777.2.2 52 52 29 (t52 Oz.2.1) (show (52 ≠ 52 ∨ (29 ≠ 4 ∧ 29 ≠ 6 ∧ 29 ≠ 7)) ∧ (52 ≠ 56 ∨ 46 ≤ 29) by omega)).trans ((Oz.2.2 52 52 29 (t52 hg3764) (show 52 ≠ 56 by omega)).trans ((ho3764 52 29 (Or.inr (by omega))).trans ((ho3762 52 29 (Or.inr (by omega))).trans ((ho3760 52 29 (Or.inr (by omega))).trans ((ho3758 52 29 (Or.inr (by omega))).trans ((ho3757 52 29 (Or.inr (by omega))).trans (ho3748 52 29 (Or.inr (by omega))))))))))))), ((ho3813 52 32 (Or.inr (by omega))).trans ((O3811.2.2 52 52 32 (t52 O3778.2.1) (show 52 ≠ 52 ∨ 32 ≠ 4 by omega)).trans ((O3778.2.2 52 52 32 (t52 O3777.2.1) (show 52 ≠ 52 ∨ (32 ≠ 4 ∧ 32 ≠ 6 ∧ 32 ≠ 7) by omega)).trans ((O3777.2.2 52 52 32 (t52 Oz.2.1) (show (52 ≠ 52 ∨ (32 ≠ 4 ∧ 32 ≠ 6 ∧ 32 ≠ 7)) ∧ (52 ≠ 56 ∨ 46 ≤ 32) by omega)).trans ((Oz.2.2 52 52 32 (t52 hg3764) (show 52 ≠ 56 by omega)).trans ((ho3764 52 32 (Or.inr (by omega))).trans ((ho3762 52 32 (Or.inr (by omega))).trans ((ho3760 52 32 (Or.inr (by omega))).trans ((ho3758 52 32 (Or.inr (by omega))).trans ((ho3757 52 32 (Or.inr (by omega))).trans (ho3748 52 32 (Or.inr (by omega)))))))))))))⟩, Or.inl ⟨(by unfold wAll; simp only [e3777, e3778]; exact ⟨_, rfl⟩), ((ho3813 52 31 (Or.inr (by omega))).trans ((O3811.2.2 52 52 31 (t52 O3778.2.1) (show 52 ≠ 52 ∨ 31 ≠ 4 by omega)).trans ((O3778.2.2 52 52 31 (t52 O3777.2.1) (show 52 ≠ 52 ∨ (31 ≠ 4 ∧ 31 ≠ 6 ∧ 31 ≠ 7) by omega)).trans ((O3777.2.2 52 52 31 (t52 Oz.2.1) (show (52 ≠ 52 ∨ (31 ≠ 4 ∧ 31 ≠ 6 ∧ 31 ≠ 7)) ∧ (52 ≠ 56 ∨ 46 ≤ 31) by omega)).trans ((Oz.2.2 52 52 31 (t52 hg3764) (show 52 ≠ 56 by omega)).trans ((ho3764 52 31 (Or.inr (by omega))).trans ((ho3762 52 31 (Or.inr (by omega))).trans ((ho3760 52 31 (Or.inr (by omega))).trans ((ho3758 52 31 (Or.inr (by omega))).trans ((ho3757 52 31 (Or.inr (by omega))).trans (ho3748 52 31 (Or.inr (by omega)))))))))))))⟩⟩
  ·
    obtain ⟨⟨xn3777n, hn3777n, en3777n⟩, ⟨xa3777n, ha3777n, ea3777n⟩, hb3777n, -⟩ := id rd3777
    obtain ⟨⟨xf3777n, hf3777n, ef3777n⟩, xw3777n, hw3777n, ew3777n⟩ := id ft3777
    refine y_same (i := .aload_n 0) (len := 1) (r := (0, 0, 0, 0)) (pc' := 85) (ls' := [some (.inl (some 52)), some (zi xn), some (zi xz)]) (st' := [.inl (some 52)]) (by decide +kernel) (fun k q => by cases q) rfl ?_
    refine y_same (i := .ldc 211) (len := 2) (r := (1, 21, 1567, 0)) (pc' := 87) (ls' := [some (.inl (some 52)), some (zi xn), some (zi xz)]) (st' := [.inl (some 2000021), .inl (some 52)]) (by decide +kernel) (fun k q => by cases q) rfl ?_
    refine y_cV (i := .invokevirtual 165) (len := 3) (r := (0, 176, 12, 1525)) (nL := 2) (k := 0) (n := 2) (hs := []) (args := [.inl (some 52), .inl (some 2000021)]) (rest := []) (l0 := [some (.inl (some 52)), some (.inl (some 2000021))]) (by decide +kernel) (Or.inr (Or.inl ⟨_, rfl⟩)) rfl rfl rfl rfl (Nat.le_of_ble_eq_true rfl) (z52 O3777.2.1) rfl (qV_le (by decide) (s_must21 O3777.2.1 ft3777 (by omega))) (fun q3818 hR3818 => ?_)
    obtain rfl := hR3818
    refine y_same (i := .aload_n 0) (len := 1) (r := (0, 0, 0, 0)) (pc' := 91) (ls' := [some (.inl (some 52)), some (zi xn), some (zi xz)]) (st' := [.inl (some 52)]) (by decide +kernel) (fun k q => by cases q) rfl ?_
    refine y_ic (c := 1) (len := 1) (r := (0, 0, 0, 0)) (by decide +kernel) (by decide) (fun y3819 hy3819 => ?_)
    refine y_cV (i := .invokevirtual 208) (len := 3) (r := (0, 182, 12, 1493)) (nL := 2) (k := 0) (n := 2) (hs := []) (args := [.inl (some 52), zi y3819]) (rest := []) (l0 := [some (.inl (some 52)), some (zi y3819)]) (by decide +kernel) (Or.inr (Or.inl ⟨_, rfl⟩)) rfl rfl rfl rfl (Nat.le_of_ble_eq_true rfl) (z52 O3777.2.1) rfl (qV_le (by decide) (s_side O3777.2.1 rd3777 (by omega) ft3777 (by omega))) (fun h3820 hR3820 => ?_)
    obtain ⟨τ3820, O3820, a3820, le3820, rd3820, ft3820⟩ := hR3820
    obtain ⟨⟨xn3820, hn3820, en3820⟩, ⟨xa3820, ha3820, ea3820⟩, hb3820, -⟩ := id rd3820
    obtain ⟨⟨xf3820, hf3820, ef3820⟩, xw3820, hw3820, ew3820⟩ := id ft3820
    refine y_same (i := .aload_n 0) (len := 1) (r := (0, 0, 0, 0)) (pc' := 96) (ls' := [some (.inl (some 52)), some (zi xn), some (zi xz)]) (st' := [.inl (some 52)]) (by decide +kernel) (fun k q => by cases q) rfl ?_
    refine y_cI (i := .invokevirtual 114) (len := 3) (r := (0, 172, 12, 1502)) (nL := 1) (k := 2) (n := 1) (hs := []) (args := [.inl (some 52)]) (rest := []) (l0 := [some (.inl (some 52))]) (by decide +kernel) (Or.inr (Or.inl ⟨_, rfl⟩)) rfl rfl rfl rfl (Nat.le_of_ble_eq_true rfl) (z52 O3820.2.1) rfl (qI_le (by decide) (m_fine (d := 0) O3820.2.1 ft3820)) (fun y3821 qy3821 hRy3821 => ?_)
    obtain ⟨rfl, gy3821, by3821⟩ := hRy3821
    have hy3821 : y3821.toInt = 0 := by3821 (by omega)
    refine y_iT (c := .eq) (off := 20) (pc' := 119) (len := 3) (r := (0, 0, 0, 0)) (by decide +kernel) (acmpT (c := .eq) (by show _ = _; omega)) (by decide +kernel) ?_
    refine y_same (i := .aload_n 0) (len := 1) (r := (0, 0, 0, 0)) (pc' := 120) (ls' := [some (.inl (some 52)), some (zi xn), some (zi xz)]) (st' := [.inl (some 52)]) (by decide +kernel) (fun k q => by cases q) rfl ?_
    refine y_same (i := .aload_n 0) (len := 1) (r := (0, 0, 0, 0)) (pc' := 121) (ls' := [some (.inl (some 52)), some (zi xn), some (zi xz)]) (st' := [.inl (some 52), .inl (some 52)]) (by decide +kernel) (fun k q => by cases q) rfl ?_
    refine y_get (j := 111) (len := 3) (r := (12, 7, 0, 1335)) (by decide +kernel) O3820.2.1 (t52 O3820.2.1) at52 rfl rfl hw3820 ?_
    refine y_put (j := 13) (lo := (-2147483648)) (hi := 2147483647) (len := 3) (r := (12, 5, 0, 1333)) (by decide +kernel) O3820.2.1 (t52 O3820.2.1) at52 rfl rfl (by decide) rfl (qin_full _).1 (qin_full _).2 rfl (fun h3822 hg3822 hl3822 hs3822 ho3822 => ?_)
    have ho3822 : hO 52 5 h3820 h3822 := ho3822
    have hs3822 : hsl h3822 52 5 = some (zi xw3820) := hs3822
    refine y_same (i := .aload_n 0) (len := 1) (r := (0, 0, 0, 0)) (pc' := 128) (ls' := [some (.inl (some 52)), some (zi xn), some (zi xz)]) (st' := [.inl (some 52)]) (by decide +kernel) (fun k q => by cases q) rfl ?_
    refine y_cI (i := .invokevirtual 114) (len := 3) (r := (0, 172, 12, 1502)) (nL := 1) (k := 2) (n := 1) (hs := []) (args := [.inl (some 52)]) (rest := []) (l0 := [some (.inl (some 52))]) (by decide +kernel) (Or.inr (Or.inl ⟨_, rfl⟩)) rfl rfl rfl rfl (Nat.le_of_ble_eq_true rfl) (z52 hg3822) rfl (qI_le (by decide) (m_fine (d := 0) hg3822 (ftM_up ft3820 (ho3822 52 6 (Or.inr (by omega))) (ho3822 52 7 (Or.inr (by omega)))))) (fun y3823 qy3823 hRy3823 => ?_)
    obtain ⟨rfl, gy3823, by3823⟩ := hRy3823
    have hy3823 : y3823.toInt = 0 := by3823 (by omega)
    refine y_iF (c := .ne) (off := 11) (len := 3) (r := (0, 0, 0, 0)) (by decide +kernel) (acmpF (c := .ne) (by show _ = _; omega)) ?_
    refine y_same (i := .aload_n 0) (len := 1) (r := (0, 0, 0, 0)) (pc' := 135) (ls' := [some (.inl (some 52)), some (zi xn), some (zi xz)]) (st' := [.inl (some 52)]) (by decide +kernel) (fun k q => by cases q) rfl ?_
    have hv3824 := (ho3822 52 6 (Or.inr (by omega))).trans hf3820
    refine y_get (j := 108) (len := 3) (r := (12, 6, 0, 1334)) (by decide +kernel) hg3822 (t52 hg3822) at52 rfl rfl hv3824 ?_
    refine y_bi (c := 10) (len := 2) (r := (0, 0, 0, 0)) (by decide +kernel) (by decide) (fun y3825 hy3825 => ?_)
    refine y_bp (i := .isub) (f := fun x y => x - y) (len := 1) (r := (0, 0, 0, 0)) (by decide +kernel) rfl rfl (fun y3826 hy3826 => ?_)
    refine y_rI (len := 1) (r := (0, 0, 0, 0)) (nL := 3) (k := 1) (n9 := 2) (hs := []) (by decide +kernel) rfl rfl ?_
    exact ⟨⟨fun k => ((ho3822 36 k (Or.inl (by omega))).trans ((O3820.2.2 36 36 k (tv36 O3777.2.1) (show 36 ≠ 52 ∨ k ≠ 4 by omega)).trans ((O3777.2.2 36 36 k (tv36 Oz.2.1) (show (36 ≠ 52 ∨ (k ≠ 4 ∧ k ≠ 6 ∧ k ≠ 7)) ∧ (36 ≠ 56 ∨ 46 ≤ k) by omega)).trans ((Oz.2.2 36 36 k (tv36 hg3764) (show 36 ≠ 56 by omega)).trans ((ho3764 36 k (Or.inl (by omega))).trans ((ho3762 36 k (Or.inl (by omega))).trans ((ho3760 36 k (Or.inl (by omega))).trans ((ho3758 36 k (Or.inl (by omega))).trans ((ho3757 36 k (Or.inl (by omega))).trans (ho3748 36 k (Or.inl (by omega)))))))))))), ((ho3822 35 0 (Or.inl (by omega))).trans ((O3820.2.2 35 35 0 (tv35 O3777.2.1) (show 35 ≠ 52 ∨ 0 ≠ 4 by omega)).trans ((O3777.2.2 35 35 0 (tv35 Oz.2.1) (show (35 ≠ 52 ∨ (0 ≠ 4 ∧ 0 ≠ 6 ∧ 0 ≠ 7)) ∧ (35 ≠ 56 ∨ 46 ≤ 0) by omega)).trans ((Oz.2.2 35 35 0 (tv35 hg3764) (show 35 ≠ 56 by omega)).trans ((ho3764 35 0 (Or.inl (by omega))).trans ((ho3762 35 0 (Or.inl (by omega))).trans ((ho3760 35 0 (Or.inl (by omega))).trans ((ho3758 35 0 (Or.inl (by omega))).trans ((ho3757 35 0 (Or.inl (by omega))).trans (ho3748 35 0 (Or.inl (by omega)))))))))))), ((ho3822 35 6 (Or.inl (by omega))).trans ((O3820.2.2 35 35 6 (tv35 O3777.2.1) (show 35 ≠ 52 ∨ 6 ≠ 4 by omega)).trans ((O3777.2.2 35 35 6 (tv35 Oz.2.1) (show (35 ≠ 52 ∨ (6 ≠ 4 ∧ 6 ≠ 6 ∧ 6 ≠ 7)) ∧ (35 ≠ 56 ∨ 46 ≤ 6) by omega)).trans ((Oz.2.2 35 35 6 (tv35 hg3764) (show 35 ≠ 56 by omega)).trans ((ho3764 35 6 (Or.inl (by omega))).trans ((ho3762 35 6 (Or.inl (by omega))).trans ((ho3760 35 6 (Or.inl (by omega))).trans ((ho3758 35 6 (Or.inl (by omega))).trans ((ho3757 35 6 (Or.inl (by omega))).trans (ho3748 35 6 (Or.inl (by omega)))))))))))), ((ho3822 35 8 (Or.inl (by omega))).trans ((O3820.2.2 35 35 8 (tv35 O3777.2.1) (show 35 ≠ 52 ∨ 8 ≠ 4 by omega)).trans ((O3777.2.2 35 35 8 (tv35 Oz.2.1) (show (35 ≠ 52 ∨ (8 ≠ 4 ∧ 8 ≠ 6 ∧ 8 ≠ 7)) ∧ (35 ≠ 56 ∨ 46 ≤ 8) by omega)).trans ((Oz.2.2 35 35 8 (tv35 hg3764) (show 35 ≠ 56 by omega)).trans ((ho3764 35 8 (Or.inl (by omega))).trans ((ho3762 35 8 (Or.inl (by omega))).trans ((ho3760 35 8 (Or.inl (by omega))).trans ((ho3758 35 8 (Or.inl (by omega))).trans ((ho3757 35 8 (Or.inl (by omega))).trans (ho3748 35 8 (Or.inl (by omega)))))))))))), ((ho3822 38 2 (Or.inl (by omega))).trans ((O3820.2.2 38 38 2 (tv38 O3777.2.1) (show 38 ≠ 52 ∨ 2 ≠ 4 by omega)).trans ((O3777.2.2 38 38 2 (tv38 Oz.2.1) (show (38 ≠ 52 ∨ (2 ≠ 4 ∧ 2 ≠ 6 ∧ 2 ≠ 7)) ∧ (38 ≠ 56 ∨ 46 ≤ 2) by omega)).trans ((Oz.2.2 38 38 2 (tv38 hg3764) (show 38 ≠ 56 by omega)).trans ((ho3764 38 2 (Or.inl (by omega))).trans ((ho3762 38 2 (Or.inl (by omega))).trans ((ho3760 38 2 (Or.inl (by omega))).trans ((ho3758 38 2 (Or.inl (by omega))).trans ((ho3757 38 2 (Or.inl (by omega))).trans (ho3748 38 2 (Or.inl (by omega))))))))))))⟩, ((ho3822 35 5 (Or.inl (by omega))).trans ((O3820.2.2 35 35 5 (tv35 O3777.2.1) (show 35 ≠ 52 ∨ 5 ≠ 4 by omega)).trans ((O3777.2.2 35 35 5 (tv35 Oz.2.1) (show (35 ≠ 52 ∨ (5 ≠ 4 ∧ 5 ≠ 6 ∧ 5 ≠ 7)) ∧ (35 ≠ 56 ∨ 46 ≤ 5) by omega)).trans ((Oz.2.2 35 35 5 (tv35 hg3764) (show 35 ≠ 56 by omega)).trans ((ho3764 35 5 (Or.inl (by omega))).trans ((ho3762 35 5 (Or.inl (by omega))).trans ((ho3760 35 5 (Or.inl (by omega))).trans ((ho3758 35 5 (Or.inl (by omega))).trans ((ho3757 35 5 (Or.inl (by omega))).trans (ho3748 35 5 (Or.inl (by omega)))))))))))), ⟨((ho3822 52 27 (Or.inr (by omega))).trans ((O3820.2.2 52 52 27 (t52 O3777.2.1) (show 52 ≠ 52 ∨ 27 ≠ 4 by omega)).trans ((O3777.2.2 52 52 27 (t52 Oz.2.1) (show (52 ≠ 52 ∨ (27 ≠ 4 ∧ 27 ≠ 6 ∧ 27 ≠ 7)) ∧ (52 ≠ 56 ∨ 46 ≤ 27) by omega)).trans ((Oz.2.2 52 52 27 (t52 hg3764) (show 52 ≠ 56 by omega)).trans ((ho3764 52 27 (Or.inr (by omega))).trans ((ho3762 52 27 (Or.inr (by omega))).trans ((ho3760 52 27 (Or.inr (by omega))).trans ((ho3758 52 27 (Or.inr (by omega))).trans ((ho3757 52 27 (Or.inr (by omega))).trans (ho3748 52 27 (Or.inr (by omega)))))))))))), ((ho3822 52 29 (Or.inr (by omega))).trans ((O3820.2.2 52 52 29 (t52 O3777.2.1) (show 52 ≠ 52 ∨ 29 ≠ 4 by omega)).trans ((O3777.2.2 52 52 29 (t52 Oz.2.1) (show (52 ≠ 52 ∨ (29 ≠ 4 ∧ 29 ≠ 6 ∧ 29 ≠ 7)) ∧ (52 ≠ 56 ∨ 46 ≤ 29) by omega)).trans ((Oz.2.2 52 52 29 (t52 hg3764) (show 52 ≠ 56 by omega)).trans ((ho3764 52 29 (Or.inr (by omega))).trans ((ho3762 52 29 (Or.inr (by omega))).trans ((ho3760 52 29 (Or.inr (by omega))).trans ((ho3758 52 29 (Or.inr (by omega))).trans ((ho3757 52 29 (Or.inr (by omega))).trans (ho3748 52 29 (Or.inr (by omega)))))))))))), ((ho3822 52 32 (Or.inr (by omega))).trans ((O3820.2.2 52 52 32 (t52 O3777.2.1) (show 52 ≠ 52 ∨ 32 ≠ 4 by omega)).trans ((O3777.2.2 52 52 32 (t52 Oz.2.1) (show (52 ≠ 52 ∨ (32 ≠ 4 ∧ 32 ≠ 6 ∧ 32 ≠ 7)) ∧ (52 ≠ 56 ∨ 46 ≤ 32) by omega)).trans ((Oz.2.2 52 52 32 (t52 hg3764) (show 52 ≠ 56 by omega)).trans ((ho3764 52 32 (Or.inr (by omega))).trans ((ho3762 52 32 (Or.inr (by omega))).trans ((ho3760 52 32 (Or.inr (by omega))).trans ((ho3758 52 32 (Or.inr (by omega))).trans ((ho3757 52 32 (Or.inr (by omega))).trans (ho3748 52 32 (Or.inr (by omega))))))))))))⟩, Or.inl ⟨(by unfold wAll; simp only [e3777]; exact ⟨_, rfl⟩), ((ho3822 52 31 (Or.inr (by omega))).trans ((O3820.2.2 52 52 31 (t52 O3777.2.1) (show 52 ≠ 52 ∨ 31 ≠ 4 by omega)).trans ((O3777.2.2 52 52 31 (t52 Oz.2.1) (show (52 ≠ 52 ∨ (31 ≠ 4 ∧ 31 ≠ 6 ∧ 31 ≠ 7)) ∧ (52 ≠ 56 ∨ 46 ≤ 31) by omega)).trans ((Oz.2.2 52 52 31 (t52 hg3764) (show 52 ≠ 56 by omega)).trans ((ho3764 52 31 (Or.inr (by omega))).trans ((ho3762 52 31 (Or.inr (by omega))).trans ((ho3760 52 31 (Or.inr (by omega))).trans ((ho3758 52 31 (Or.inr (by omega))).trans ((ho3757 52 31 (Or.inr (by omega))).trans (ho3748 52 31 (Or.inr (by omega))))))))))))⟩⟩
