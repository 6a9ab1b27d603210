/-! the class's prover: from the start -/
theorem e_jdh35 {Z : Nat → Prop} {cy : cyT} (hcy : ∀ L i, cy L i = fun _ => False) {d t u v : Nat} {τ : List Nat} {h : zh} {b : bsT} (hg : hG τ h) (cm : cmI h 36) (ml : kx_ h 35 0 1) (hu : uv_ u v) (l2 : layC h 2) (b2 : bsC h 2 u v b) (ok : okB b) (j0 : kx_ h 35 5 0) (zj : zI Z τ h h 36) : qV (d + 9) 37 [some (.inl (some 35)), some (.inl (some 2)), none, none, none, none] h t (fun h1 => ∃ τ1, aup τ τ1 ∧ jdZ Z h τ1 h1 35 (prfF cy true b)) := by
  obtain ⟨xj, hj5, ej5⟩ := j0
  have hL0 := len_389 hg
  have uv0 : (u = 1 ∧ v = 6) ∨ (u = 6 ∧ v = 1) := hu
  refine qV_of ?_
  refine y_same (i := .aload_n 0) (len := 1) (r := (0, 0, 0, 0)) (pc' := 1) (ls' := [some (.inl (some 35)), some (.inl (some 2)), none, none, none, none]) (st' := [.inl (some 35)]) (by decide +kernel) (fun k q => by cases q) rfl ?_
  refine y_get (j := 31) (len := 3) (r := (4, 5, 1, 287)) (by decide +kernel) hg (tv35 hg) aw35 rfl rfl hj5 ?_
  refine y_iT (c := .eq) (off := 4) (pc' := 8) (len := 3) (r := (0, 0, 0, 0)) (by decide +kernel) (acmpT (c := .eq) (by show _ = _; omega)) (by decide +kernel) ?_
  refine y_same (i := .aload_n 0) (len := 1) (r := (0, 0, 0, 0)) (pc' := 9) (ls' := [some (.inl (some 35)), some (.inl (some 2)), none, none, none, none]) (st' := [.inl (some 35)]) (by decide +kernel) (fun k q => by cases q) rfl ?_
  refine y_cV (i := .invokevirtual 76) (len := 3) (r := (0, 38, 4, 498)) (nL := 1) (k := 0) (n := 1) (hs := []) (args := [.inl (some 35)]) (rest := []) (l0 := [some (.inl (some 35))]) (by decide +kernel) (Or.inr (Or.inl ⟨_, rfl⟩)) rfl rfl rfl rfl (Nat.le_of_ble_eq_true rfl) (zO hg (tv35 hg) aw35 rfl) rfl (qV_le (by omega) (e_clr35 (d := 0) hg)) (fun h3058 hR3058 => ?_)
  obtain ⟨hg3058, c6, c7, o8, gr, c2, F3058⟩ := hR3058
  refine y_same (i := .aload_n 0) (len := 1) (r := (0, 0, 0, 0)) (pc' := 13) (ls' := [some (.inl (some 35)), some (.inl (some 2)), none, none, none, none]) (st' := [.inl (some 35)]) (by decide +kernel) (fun k q => by cases q) rfl ?_
  refine y_ic (c := 0) (len := 1) (r := (0, 0, 0, 0)) (by decide +kernel) (by decide) (fun y3059 hy3059 => ?_)
  have cm3060 : cmI h3058 36 := cmI_up cm (fun k => (F3058 36 k (by omega) (by omega))) (fun a h3 l => laQ_up l (fun k j h1 h2 _ _ => (F3058 k j (by omega) (by omega))))
  have hL3060 := len_389 hg3058
  have zc3060 : zI Z τ h h3058 36 := zI_fr zj (fun k j c => (F3058 k j (by omega) (by omega)))
  obtain ⟨a, nw3060, hS3060⟩ := e_slx35 (d := 0) (t := t) (k := 0) (xk := y3059) hg3058 cm3060 (by omega) (by omega)
  refine y_cA (i := .invokevirtual 67) (len := 3) (r := (0, 33, 4, 505)) (nL := 3) (k := 3) (n := 2) (hs := []) (args := [.inl (some 35), zi y3059]) (rest := []) (l0 := [some (.inl (some 35)), some (zi y3059), none]) (by decide +kernel) (Or.inr (Or.inl ⟨_, rfl⟩)) rfl rfl rfl rfl (Nat.le_of_ble_eq_true rfl) (zO hg3058 (tv35 hg3058) aw35 rfl) rfl (qA_le (by omega) hS3060) (fun h3060 hR3060 => ?_)
  obtain ⟨τ1, u1, hg3060, cm1, ra1, La, ha1, F3060⟩ := hR3060
  have zs3060 : zI Z τ1 h h3060 36 := zI_s zc3060 hg3058 u1 (by decide) (fun k j h1 h2 => F3060 k j h1 h2) ra1 nw3060
  refine y_same (i := .aload_n 1) (len := 1) (r := (0, 0, 0, 0)) (pc' := 18) (ls' := [some (.inl (some 35)), some (.inl (some 2)), none, none, none, none]) (st' := [.inl (some 2), .inl (some a)]) (by decide +kernel) (fun k q => by cases q) rfl ?_
  refine y_get (j := 79) (len := 3) (r := (9, 0, 2, 20200)) (by decide +kernel) hg3060 (tv2 hg3060) aw1000 rfl rfl (rfs_up b2.1 (((F3060 2 0 (by omega) (by omega)).trans (F3058 2 0 (by omega) (by omega))))) ?_
  refine y_same (i := .aload_n 1) (len := 1) (r := (0, 0, 0, 0)) (pc' := 22) (ls' := [some (.inl (some 35)), some (.inl (some 2)), none, none, none, none]) (st' := [.inl (some 2), .inl (some ((2 + u))), .inl (some a)]) (by decide +kernel) (fun k q => by cases q) rfl ?_
  refine y_get (j := 85) (len := 3) (r := (9, 1, 2, 20204)) (by decide +kernel) hg3060 (tv2 hg3060) aw1000 rfl rfl (rfs_up b2.2.1 (((F3060 2 1 (by omega) (by omega)).trans (F3058 2 1 (by omega) (by omega))))) ?_
  have uv : (u = 1 ∧ v = 6) ∨ (u = 6 ∧ v = 1) := hu
  have lA := lay_u (layC_up l2 (fun k j h1 h2 => ((F3060 k j (by omega) (by omega)).trans (F3058 k j (by omega) (by omega))))) hu
  have tB := tyB_of hg3060 hu (tv2 hg3060) (rfs_up b2.1 (((F3060 2 0 (by omega) (by omega)).trans (F3058 2 0 (by omega) (by omega))))) (rfs_up b2.2.1 (((F3060 2 1 (by omega) (by omega)).trans (F3058 2 1 (by omega) (by omega))))) (layC_up l2 (fun k j h1 h2 => ((F3060 k j (by omega) (by omega)).trans (F3058 k j (by omega) (by omega)))))
  have tA := ty_u tB hu
  refine y_cV (i := .invokevirtual 88) (len := 3) (r := (0, 77, 7, 576)) (nL := 6) (k := 0) (n := 3) (hs := []) (args := [.inl (some a), .inl (some ((2 + u))), .inl (some ((2 + v)))]) (rest := []) (l0 := [some (.inl (some a)), some (.inl (some ((2 + u)))), some (.inl (some ((2 + v)))), none, none, none]) (by decide +kernel) (Or.inr (Or.inl ⟨_, rfl⟩)) rfl rfl rfl rfl (Nat.le_of_ble_eq_true rfl) (zO hg3060 La.2.1.1 aw1008 rfl) rfl (qV_le (by omega) (q_bg (d := 0) (A := b.1) (B := b.2) La tA.1 tA.2 lA.1 lA.2 (sdC_up b2.2.2.1 (fun k j h1 h2 => ((F3060 k j (by omega) (by omega)).trans (F3058 k j (by omega) (by omega))))) (sdC_up b2.2.2.2 (fun k j h1 h2 => ((F3060 k j (by omega) (by omega)).trans (F3058 k j (by omega) (by omega))))) (by omega) (by omega) ok)) (fun h3061 hR3061 => ?_)
  obtain ⟨Q3061, F3061⟩ := hR3061
  refine y_same (i := .aload_n 0) (len := 1) (r := (0, 0, 0, 0)) (pc' := 29) (ls' := [some (.inl (some 35)), some (.inl (some 2)), none, none, none, none]) (st' := [.inl (some 35)]) (by decide +kernel) (fun k q => by cases q) rfl ?_
  refine y_ic (c := (-1)) (len := 1) (r := (0, 0, 0, 0)) (by decide +kernel) (by decide) (fun y3062 hy3062 => ?_)
  have CMs : cmI h3061 36 := cm2 cm1 hg3060 (fun k j h1 h2 => (F3061 k j (by omega))) (by omega) (cm_ty36 hg3060 cm1) La.2.1 Q3061.2.2.1
  have zb : zI Z τ1 h h3061 36 := zI_a (n := 0) zs3060 La.2.1 (by decide) ra1 (by omega) (fun k j h1 h2 => (F3061 k j (by omega)))
  refine y_cV (i := .invokevirtual 92) (len := 3) (r := (0, 42, 4, 631)) (nL := 4) (k := 0) (n := 2) (hs := []) (args := [.inl (some 35), zi y3062]) (rest := []) (l0 := [some (.inl (some 35)), some (zi y3062), none, none]) (by decide +kernel) (Or.inr (Or.inl ⟨_, rfl⟩)) rfl rfl rfl rfl (Nat.le_of_ble_eq_true rfl) (zO Q3061.1 (tv35 Q3061.1) aw35 rfl) rfl (qV_le (by omega) (e_set35f (d := 0) (n := 0) (dn := 0) ha1 Q3061 (bg_nb ok) (rfs_up ra1 ((F3061 36 0 (by omega)))) (by decide) (ci_up c6 (((F3061 35 6 (by omega)).trans (F3060 35 6 (by omega) (by omega))))) (kx_up ml (((F3061 35 0 (by omega)).trans ((F3060 35 0 (by omega) (by omega)).trans (F3058 35 0 (by omega) (by omega)))))) (gR_up gr (((F3061 35 10 (by omega)).trans (F3060 35 10 (by omega) (by omega))))) (ci_up c2 (((F3061 38 2 (by omega)).trans (F3060 38 2 (by omega) (by omega))))) (by decide) (by omega))) (fun h3063 hR3063 => ?_)
  obtain ⟨e9, sR, hg3063, pN, cN, dN, gN, F3063⟩ := hR3063
  have ze : zI Z τ1 h h3063 36 := zI_a (n := 0) zb La.2.1 (by decide) (rfs_up ra1 ((F3061 36 0 (by omega)))) (by omega) (fun k j h1 h2 => F3063 k j h1 (by omega) (by omega))
  refine y_ic (c := 0) (len := 1) (r := (0, 0, 0, 0)) (by decide +kernel) (by decide) (fun y3064 hy3064 => ?_)
  refine y_same (i := .istore_n 2) (len := 1) (r := (0, 0, 0, 0)) (pc' := 35) (ls' := [some (.inl (some 35)), some (.inl (some 2)), some (zi y3064), none, none, none]) (st' := []) (by decide +kernel) (fun k q => by cases q) rfl ?_
  obtain ⟨sE, ag⟩ := setF_ag (cy := cy) (lv := true) (L := []) (okS_Q Q3061.2.2.2.2) (by rw [hcy]; exact sR)
  have pF := prE_ag pN ag
  have wE := wf_set sE (bg_nb ok) (by omega) (by omega) (prE_ok pF)
  have CM : cmI h3063 36 := cm2 cm1 hg3060 (fun k j h1 h2 => ((F3063 k j (by omega) (by omega) (by omega)).trans (F3061 k j (by omega)))) (by omega) (cm_ty36 hg3060 cm1) La.2.1 (by obtain ⟨a9, r9, -, l9, -⟩ := pF; have e7 := rfs_eq r9 (rfs_up ra1 (((F3063 36 0 (by omega) (by omega) (by omega)).trans (F3061 36 0 (by omega))))); rw [e7] at l9; exact l9.2.2)
  have I2 : prJ Z h τ1 h3063 35 1 ([] ++ [(setF cy true [] (bgA b) (-1) 1)]) [] := ⟨⟨hg3063, CM, kx_up ml (((F3063 35 0 (by omega) (by omega) (by omega)).trans ((F3061 35 0 (by omega)).trans ((F3060 35 0 (by omega) (by omega)).trans (F3058 35 0 (by omega) (by omega)))))), cN, ci_up c7 (((F3063 35 7 (by omega) (by omega) (by omega)).trans ((F3061 35 7 (by omega)).trans (F3060 35 7 (by omega) (by omega))))), fun j w9 hj => (by cases hj), (by rw [dns_app, ← ag.1]; exact dN), gN, fun k e8 hk => (sn_cs hk).elim (fun q => by cases q) (fun q => by obtain ⟨q1, q2⟩ := q; subst q1; subst q2; exact pF)⟩, ze, chI_1 sE.2.1 sE.1⟩
  refine qX_V (jh_l35 (cy := cy) hcy 300 τ1 h3063 [] (setF cy true [] (bgA b) (-1) 1) [] y3064 none none none I2 (fun e8 m8 => ?_) ⟨fun j w9 hj => (by cases hj), by have := wE.2.1; exact this⟩ rfl (by decide) (by show _ = ((0 : Nat) : Int); omega) (kx_up o8 (((F3063 35 8 (by omega) (by omega) (by omega)).trans ((F3061 35 8 (by omega)).trans (F3060 35 8 (by omega) (by omega))))))) (fun h1 hR => ?_)
  · rw [List.mem_singleton.mp m8]
    exact wE
  · obtain ⟨τ2, u2, o2⟩ := hR
    exact ⟨τ2, aup_trans u1 u2, o2⟩
theorem e_ovh {Z : Nat → Prop} {d t u v : Nat} {τ : List Nat} {h : zh} {b : bsT} (hg : hG τ h) (r5 : rfs h 0 5 2) (cm : cmI h 36) (ml : kx_ h 35 0 1) (hu : uv_ u v) (l2 : layC h 2) (b2 : bsC h 2 u v b) (ok : okB b) (j0 : kx_ h 35 5 0) (zj : zI Z τ h h 36) : qI (d + 11) 145 [some (.inl (some 0))] h t (fun y h1 => y.toInt = ovF (prfF cyN true b) ∧ ∃ τ1, aup τ τ1 ∧ jdZ Z h τ1 h1 35 (prfF cyN true b)) := by
  generalize hR9 : prfF cyN true b = R
  refine qI_of ?_
  refine y_same (i := .aload_n 0) (len := 1) (r := (0, 0, 0, 0)) (pc' := 1) (ls' := [some (.inl (some 0))]) (st' := [.inl (some 0)]) (by decide +kernel) (fun k q => by cases q) rfl ?_
  refine y_get (j := 56) (len := 3) (r := (11, 9, 2, 408)) (by decide +kernel) hg (tv0 hg) aw0 rfl rfl (g_rU (f := 9) (T2 := 35) hg (tv0 hg) aw0 rfl (by decide)) ?_
  refine y_same (i := .aload_n 0) (len := 1) (r := (0, 0, 0, 0)) (pc' := 5) (ls' := [some (.inl (some 0))]) (st' := [.inl (some 0), .inl (some 35)]) (by decide +kernel) (fun k q => by cases q) rfl ?_
  refine y_get (j := 29) (len := 3) (r := (11, 5, 2, 404)) (by decide +kernel) hg (tv0 hg) aw0 rfl rfl r5 ?_
  refine y_cV (i := .invokevirtual 153) (len := 3) (r := (0, 37, 4, 494)) (nL := 6) (k := 0) (n := 2) (hs := []) (args := [.inl (some 35), .inl (some 2)]) (rest := []) (l0 := [some (.inl (some 35)), some (.inl (some 2)), none, none, none, none]) (by decide +kernel) (Or.inr (Or.inl ⟨_, rfl⟩)) rfl rfl rfl rfl (Nat.le_of_ble_eq_true rfl) (zO hg (tv35 hg) aw35 rfl) rfl (qV_le (by omega) (e_jdh35 (d := 0) (cy := cyN) (fun _ _ => rfl) hg cm ml hu l2 b2 ok j0 zj)) (fun h3065 hR3065 => ?_)
  rw [hR9] at hR3065
  obtain ⟨τ1, u1, o1⟩ := hR3065
  obtain ⟨⟨hg3065, cm1, j5, o8, c6, l6, c2, gr, pE⟩, -⟩ := id o1
  obtain ⟨xo, ho8, eo8⟩ := o8
  obtain ⟨xd, hd2, ed2⟩ := c2
  refine y_same (i := .aload_n 0) (len := 1) (r := (0, 0, 0, 0)) (pc' := 12) (ls' := [some (.inl (some 0))]) (st' := [.inl (some 0)]) (by decide +kernel) (fun k q => by cases q) rfl ?_
  refine y_get (j := 56) (len := 3) (r := (11, 9, 2, 408)) (by decide +kernel) hg3065 (tv0 hg3065) aw0 rfl rfl (g_rU (f := 9) (T2 := 35) hg3065 (tv0 hg3065) aw0 rfl (by decide)) ?_
  refine y_get (j := 156) (len := 3) (r := (4, 8, 0, 20293)) (by decide +kernel) hg3065 (tv35 hg3065) aw35 rfl rfl ho8 ?_
  rcases Decidable.em (xo.toInt ≠ 0) with q3066 | q3066
  ·
    refine y_iT (c := .ne) (off := 6) (pc' := 24) (len := 3) (r := (0, 0, 0, 0)) (by decide +kernel) (acmpT (c := .ne) (by show ¬ (_ = _); omega)) (by decide +kernel) ?_
    refine y_same (i := .aload_n 0) (len := 1) (r := (0, 0, 0, 0)) (pc' := 25) (ls' := [some (.inl (some 0))]) (st' := [.inl (some 0)]) (by decide +kernel) (fun k q => by cases q) rfl ?_
    refine y_get (j := 56) (len := 3) (r := (11, 9, 2, 408)) (by decide +kernel) hg3065 (tv0 hg3065) aw0 rfl rfl (g_rU (f := 9) (T2 := 35) hg3065 (tv0 hg3065) aw0 rfl (by decide)) ?_
    refine y_get (j := 156) (len := 3) (r := (4, 8, 0, 20293)) (by decide +kernel) hg3065 (tv35 hg3065) aw35 rfl rfl ho8 ?_
    refine y_ic (c := 2) (len := 1) (r := (0, 0, 0, 0)) (by decide +kernel) (by decide) (fun y3067 hy3067 => ?_)
    rcases Decidable.em (xo.toInt ≠ y3067.toInt) with q3068 | q3068
    ·
      refine y_cT (c := .ne) (off := 6) (pc' := 38) (len := 3) (r := (0, 0, 0, 0)) (by decide +kernel) (acmpT (c := .ne) (by show ¬ (_ = _); omega)) (by decide +kernel) ?_
      refine y_same (i := .aload_n 0) (len := 1) (r := (0, 0, 0, 0)) (pc' := 39) (ls' := [some (.inl (some 0))]) (st' := [.inl (some 0)]) (by decide +kernel) (fun k q => by cases q) rfl ?_
      refine y_get (j := 56) (len := 3) (r := (11, 9, 2, 408)) (by decide +kernel) hg3065 (tv0 hg3065) aw0 rfl rfl (g_rU (f := 9) (T2 := 35) hg3065 (tv0 hg3065) aw0 rfl (by decide)) ?_
      refine y_ic (c := 2) (len := 1) (r := (0, 0, 0, 0)) (by decide +kernel) (by decide) (fun y3069 hy3069 => ?_)
      refine y_cI (i := .invokevirtual 169) (len := 3) (r := (0, 34, 4, 827)) (nL := 2) (k := 1) (n := 2) (hs := []) (args := [.inl (some 35), zi y3069]) (rest := []) (l0 := [some (.inl (some 35)), some (zi y3069)]) (by decide +kernel) (Or.inr (Or.inl ⟨_, rfl⟩)) rfl rfl rfl rfl (Nat.le_of_ble_eq_true rfl) (zO hg3065 (tv35 hg3065) aw35 rfl) rfl (qI_le (by omega) (e_cst35 (d := 0) hg3065 ⟨_, hd2, ed2⟩ (by omega))) (fun y3070 qy3070 hRy3070 => ?_)
      obtain ⟨rfl, ey3070⟩ := hRy3070
      refine y_rI (len := 1) (r := (0, 0, 0, 0)) (nL := 1) (k := 1) (n9 := 1) (hs := []) (by decide +kernel) rfl rfl ?_
      have ov : ovF R = (dns R.1 : Int) := by
        unfold ovF
        rw [if_neg (by omega), if_neg (by omega)]
      exact ⟨by rw [ov]; omega, τ1, u1, o1⟩
    ·
      refine y_cF (c := .ne) (off := 6) (len := 3) (r := (0, 0, 0, 0)) (by decide +kernel) (acmpF (c := .ne) (by show _ = _; omega)) ?_
      refine y_bi (c := (-3)) (len := 2) (r := (0, 0, 0, 0)) (by decide +kernel) (by decide) (fun y3071 hy3071 => ?_)
      refine y_rI (len := 1) (r := (0, 0, 0, 0)) (nL := 1) (k := 1) (n9 := 1) (hs := []) (by decide +kernel) rfl rfl ?_
      have ov : ovF R = -3 := by
        unfold ovF
        rw [if_neg (by omega), if_pos (by omega)]
      exact ⟨by rw [ov]; omega, τ1, u1, o1⟩
  ·
    refine y_iF (c := .ne) (off := 6) (len := 3) (r := (0, 0, 0, 0)) (by decide +kernel) (acmpF (c := .ne) (by show _ = _; omega)) ?_
    refine y_bi (c := (-2)) (len := 2) (r := (0, 0, 0, 0)) (by decide +kernel) (by decide) (fun y3072 hy3072 => ?_)
    refine y_rI (len := 1) (r := (0, 0, 0, 0)) (nL := 1) (k := 1) (n9 := 1) (hs := []) (by decide +kernel) rfl rfl ?_
    have ov : ovF R = -2 := by
      unfold ovF
      rw [if_pos (by omega)]
    exact ⟨by rw [ov]; omega, τ1, u1, o1⟩
