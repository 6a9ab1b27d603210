/-! the class's prover: the next one comes, perhaps in a CYCLE -/
theorem e_set28f {d t n a dn : Nat} {τ : List Nat} {h : zh} {s : sqT} {L : List enT} {xf : Int32} (ha : 388 < a) (Q : QC τ h a s) (nb : ¬ big_ s) (ra : rfs h 29 n a) (hn9 : n < 300) (cn : ci_ h 28 6 n) (ml : kx_ h 28 0 0) (gr : gR h 28) (cd : ci_ h 31 2 dn) (hdn : dn ≤ 300) (exf : xf.toInt = -1) (cm : cmI h 29) (hnL : L.length = n) (pE : ∀ (k : Nat) (e : enT), L[k]? = some e → prE τ h 29 k e) (wl : ∀ e ∈ L, wfE e) (ch : chI L) : qV (d + 10) 42 [some (.inl (some 28)), some (zi xf), none, none] h t (fun h1 => ∃ e, setR (cyP L (-1)) false s (-1) 1 e ∧ hG τ h1 ∧ prE τ h1 29 n e ∧ ci_ h1 28 6 (n + 1) ∧ ci_ h1 31 2 (dn + (if e.2.1 = 2 then 1 else 0)) ∧ gR h1 28 ∧ ∀ k j, (k < a ∨ a + 9 ≤ k) → (k ≠ 28 ∨ (j ≠ 6 ∧ j ≠ 9 ∧ j ≠ 10)) → k ≠ 31 → k ≠ 33 → k ≠ 34 → hsl h1 k j = hsl h k j) := by
  obtain ⟨xn, hn, en⟩ := cn
  obtain ⟨xm, hml, eml⟩ := ml
  obtain ⟨xd, hd2, ed⟩ := cd
  have hg := Q.1
  refine qV_of ?_
  refine y_same (i := .aload_n 0) (len := 1) (r := (0, 0, 0, 0)) (pc' := 1) (ls' := [some (.inl (some 28)), some (zi xf), none, none]) (st' := [.inl (some 28)]) (by decide +kernel) (fun k q => by cases q) rfl ?_
  refine y_same (i := .aload_n 0) (len := 1) (r := (0, 0, 0, 0)) (pc' := 2) (ls' := [some (.inl (some 28)), some (zi xf), none, none]) (st' := [.inl (some 28), .inl (some 28)]) (by decide +kernel) (fun k q => by cases q) rfl ?_
  refine y_get (j := 35) (len := 3) (r := (4, 6, 0, 289)) (by decide +kernel) Q.1 (tv28 Q.1) aw28 rfl rfl hn ?_
  refine y_cA (i := .invokevirtual 67) (len := 3) (r := (0, 33, 4, 505)) (nL := 3) (k := 3) (n := 2) (hs := []) (args := [.inl (some 28), zi xn]) (rest := []) (l0 := [some (.inl (some 28)), some (zi xn), none]) (by decide +kernel) (Or.inr (Or.inl ⟨_, rfl⟩)) rfl rfl rfl rfl (Nat.le_of_ble_eq_true rfl) (zO Q.1 (tv28 Q.1) aw28 rfl) rfl (qA_le (by omega) (e_slo28 (d := 0) (k := n) Q.1 (by omega) (by omega) (ra))) (fun h3453 hR3453 => ?_)
  obtain rfl := hR3453
  refine y_same (i := .astore_n 2) (len := 1) (r := (0, 0, 0, 0)) (pc' := 9) (ls' := [some (.inl (some 28)), some (zi xf), some (.inl (some a)), none]) (st' := []) (by decide +kernel) (fun k q => by cases q) rfl ?_
  refine y_same (i := .aload_n 2) (len := 1) (r := (0, 0, 0, 0)) (pc' := 10) (ls' := [some (.inl (some 28)), some (zi xf), some (.inl (some a)), none]) (st' := [.inl (some a)]) (by decide +kernel) (fun k q => by cases q) rfl ?_
  refine y_same (i := .iload_n 1) (len := 1) (r := (0, 0, 0, 0)) (pc' := 11) (ls' := [some (.inl (some 28)), some (zi xf), some (.inl (some a)), none]) (st' := [zi xf, .inl (some a)]) (by decide +kernel) (fun k q => by cases q) rfl ?_
  refine y_put (j := 127) (lo := (-2147483648)) (hi := 2147483647) (len := 3) (r := (7, 5, 0, 20546)) (by decide +kernel) Q.1 Q.2.1.1 aw1008 rfl rfl (by decide) rfl (qin_full _).1 (qin_full _).2 rfl (fun h3454 hg3454 hl3454 hs3454 ho3454 => ?_)
  have ho3454 : hO a 5 h h3454 := ho3454
  have hs3454 : hsl h3454 a 5 = some (zi xf) := hs3454
  have Q3454_a := QC_up Q hg3454 (fun k j _ _ _ => ho3454 k j (by omega))
  refine y_same (i := .aload_n 2) (len := 1) (r := (0, 0, 0, 0)) (pc' := 15) (ls' := [some (.inl (some 28)), some (zi xf), some (.inl (some a)), none]) (st' := [.inl (some a)]) (by decide +kernel) (fun k q => by cases q) rfl ?_
  refine y_same (i := .iload_n 1) (len := 1) (r := (0, 0, 0, 0)) (pc' := 16) (ls' := [some (.inl (some 28)), some (zi xf), some (.inl (some a)), none]) (st' := [zi xf, .inl (some a)]) (by decide +kernel) (fun k q => by cases q) rfl ?_
  refine y_ic (c := (-1)) (len := 1) (r := (0, 0, 0, 0)) (by decide +kernel) (by decide) (fun y3455 hy3455 => ?_)
  refine y_cF (c := .ne) (off := 7) (len := 3) (r := (0, 0, 0, 0)) (by decide +kernel) (acmpF (c := .ne) (by show _ = _; omega)) ?_
  refine y_ic (c := 1) (len := 1) (r := (0, 0, 0, 0)) (by decide +kernel) (by decide) (fun y3456 hy3456 => ?_)
  refine y_goto (off := 13) (pc' := 34) (len := 3) (r := (0, 0, 0, 0)) (by decide +kernel) (by decide +kernel) ?_
  refine y_put (j := 110) (lo := (-2147483648)) (hi := 2147483647) (len := 3) (r := (7, 6, 0, 20549)) (by decide +kernel) Q3454_a.1 Q3454_a.2.1.1 aw1008 rfl rfl (by decide) rfl (qin_full _).1 (qin_full _).2 rfl (fun h3457 hg3457 hl3457 hs3457 ho3457 => ?_)
  have ho3457 : hO a 6 h3454 h3457 := ho3457
  have hs3457 : hsl h3457 a 6 = some (zi y3456) := hs3457
  have Q3457_a := QC_up Q3454_a hg3457 (fun k j _ _ _ => ho3457 k j (by omega))
  refine y_same (i := .aload_n 2) (len := 1) (r := (0, 0, 0, 0)) (pc' := 38) (ls' := [some (.inl (some 28)), some (zi xf), some (.inl (some a)), none]) (st' := [.inl (some a)]) (by decide +kernel) (fun k q => by cases q) rfl ?_
  refine y_cI (i := .invokevirtual 130) (len := 3) (r := (0, 84, 7, 635)) (nL := 3) (k := 2) (n := 1) (hs := []) (args := [.inl (some a)]) (rest := []) (l0 := [some (.inl (some a)), none, none]) (by decide +kernel) (Or.inr (Or.inl ⟨_, rfl⟩)) rfl rfl rfl rfl (Nat.le_of_ble_eq_true rfl) (zO Q3457_a.1 Q3457_a.2.1.1 aw1008 rfl) rfl (qI_le (by omega) (q_rdy (d := 0) Q3457_a (mq_b Q3457_a.2.2.2.2 nb))) (fun y3458 h3458 hRy3458 => ?_)
  obtain ⟨s9, Q3458, F3458, hDy3458⟩ := hRy3458
  rcases hDy3458 with ⟨vy3458, ry3458⟩ | ⟨vy3458, ry3458⟩
  ·
    refine y_same (i := .istore_n 3) (len := 1) (r := (0, 0, 0, 0)) (pc' := 42) (ls' := [some (.inl (some 28)), some (zi xf), some (.inl (some a)), some (zi y3458)]) (st' := []) (by decide +kernel) (fun k q => by cases q) rfl ?_
    refine y_same (i := .aload_n 2) (len := 1) (r := (0, 0, 0, 0)) (pc' := 43) (ls' := [some (.inl (some 28)), some (zi xf), some (.inl (some a)), some (zi y3458)]) (st' := [.inl (some a)]) (by decide +kernel) (fun k q => by cases q) rfl ?_
    refine y_same (i := .iload_n 3) (len := 1) (r := (0, 0, 0, 0)) (pc' := 44) (ls' := [some (.inl (some 28)), some (zi xf), some (.inl (some a)), some (zi y3458)]) (st' := [zi y3458, .inl (some a)]) (by decide +kernel) (fun k q => by cases q) rfl ?_
    refine y_iF (c := .eq) (off := 18) (len := 3) (r := (0, 0, 0, 0)) (by decide +kernel) (acmpF (c := .eq) (by show ¬ (_ = _); omega)) ?_
    refine y_same (i := .aload_n 0) (len := 1) (r := (0, 0, 0, 0)) (pc' := 48) (ls' := [some (.inl (some 28)), some (zi xf), some (.inl (some a)), some (zi y3458)]) (st' := [.inl (some 28), .inl (some a)]) (by decide +kernel) (fun k q => by cases q) rfl ?_
    have hv3459 := (ho3454 28 0 (Or.inl (by omega))).trans hml
    have hv3460 := (ho3457 28 0 (Or.inl (by omega))).trans hv3459
    have hv3461 := (F3458 28 0 (by omega)).trans hv3460
    refine y_get (j := 54) (len := 3) (r := (4, 0, 1, 282)) (by decide +kernel) Q3458.1 (tv28 Q3458.1) aw28 rfl rfl hv3461 ?_
    refine y_iF (c := .ne) (off := 11) (len := 3) (r := (0, 0, 0, 0)) (by decide +kernel) (acmpF (c := .ne) (by show _ = _; omega)) ?_
    refine y_same (i := .aload_n 0) (len := 1) (r := (0, 0, 0, 0)) (pc' := 55) (ls' := [some (.inl (some 28)), some (zi xf), some (.inl (some a)), some (zi y3458)]) (st' := [.inl (some 28), .inl (some a)]) (by decide +kernel) (fun k q => by cases q) rfl ?_
    refine y_same (i := .aload_n 2) (len := 1) (r := (0, 0, 0, 0)) (pc' := 56) (ls' := [some (.inl (some 28)), some (zi xf), some (.inl (some a)), some (zi y3458)]) (st' := [.inl (some a), .inl (some 28), .inl (some a)]) (by decide +kernel) (fun k q => by cases q) rfl ?_
    have FE3462 : ∀ (k9 : Nat) (e9 : enT), L[k9]? = some e9 → prE τ h3458 29 k9 e9 := fun k9 e9 hk9 => prE_up (pE k9 e9 hk9) (aup_refl _) Q3458.1 (fun a9 r9 g9 t9 k j hC => by
      have l9 := (List.getElem?_eq_some_iff.mp hk9).1
      have n9 : a9 ≠ a := fun e7 => by
        subst e7
        have e6 := cm.2 k9 n _ (by omega) (by omega) r9 ra
        omega
      have d9 := dis_Q t9 Q.2.1 n9
      rcases hC with ⟨q1, q2⟩ | ⟨h1, h2⟩
      · rw [q1, q2]
        exact ((F3458 29 k9 (by omega)).trans ((ho3457 29 k9 (by omega)).trans (ho3454 29 k9 (by omega))))
      · exact ((F3458 k j (by omega)).trans ((ho3457 k j (by omega)).trans (ho3454 k j (by omega)))))
    have hv3463 := (ho3457 a 5 (Or.inr (by omega))).trans hs3454
    have hv3464 := (F3458 a 5 (by omega)).trans hv3463
    refine y_cI (i := .invokevirtual 133) (len := 3) (r := (0, 44, 4, 710)) (nL := 6) (k := 1) (n := 2) (hs := []) (args := [.inl (some 28), .inl (some a)]) (rest := [.inl (some a)]) (l0 := [some (.inl (some 28)), some (.inl (some a)), none, none, none, none]) (by decide +kernel) (Or.inr (Or.inl ⟨_, rfl⟩)) rfl rfl rfl rfl (Nat.le_of_ble_eq_true rfl) (zO Q3458.1 (tv28 Q3458.1) aw28 rfl) rfl (qI_le (by omega) (e_fal (d := 0) (L := L) (i := -1) ha Q3458 FE3462 (by omega) wl ch ⟨_, hv3464, by omega⟩ (Or.inl rfl))) (fun y3462 h3462 hRy3462 => ?_)
    obtain ⟨hg3462, F3462, hDy3462⟩ := hRy3462
    have Q3462_a := QC_up Q3458 hg3462 (fun k j _ _ _ => F3462 k j (by omega) (by omega))
    rcases hDy3462 with ⟨vy3462, by3462⟩ | ⟨vy3462, by3462⟩
    ·
      refine y_goto (off := 4) (pc' := 63) (len := 3) (r := (0, 0, 0, 0)) (by decide +kernel) (by decide +kernel) ?_
      refine y_put (j := 137) (lo := (-2147483648)) (hi := 2147483647) (len := 3) (r := (7, 7, 0, 20551)) (by decide +kernel) hg3462 Q3462_a.2.1.1 aw1008 rfl rfl (by decide) rfl (qin_full _).1 (qin_full _).2 rfl (fun h3465 hg3465 hl3465 hs3465 ho3465 => ?_)
      have ho3465 : hO a 7 h3462 h3465 := ho3465
      have hs3465 : hsl h3465 a 7 = some (zi y3462) := hs3465
      have Q3465_a := QC_up Q3462_a hg3465 (fun k j _ _ _ => ho3465 k j (by omega))
      refine y_same (i := .iload_n 3) (len := 1) (r := (0, 0, 0, 0)) (pc' := 67) (ls' := [some (.inl (some 28)), some (zi xf), some (.inl (some a)), some (zi y3458)]) (st' := [zi y3458]) (by decide +kernel) (fun k q => by cases q) rfl ?_
      refine y_iT (c := .ne) (off := 11) (pc' := 78) (len := 3) (r := (0, 0, 0, 0)) (by decide +kernel) (acmpT (c := .ne) (by show ¬ (_ = _); omega)) (by decide +kernel) ?_
      refine y_same (i := .aload_n 2) (len := 1) (r := (0, 0, 0, 0)) (pc' := 79) (ls' := [some (.inl (some 28)), some (zi xf), some (.inl (some a)), some (zi y3458)]) (st' := [.inl (some a)]) (by decide +kernel) (fun k q => by cases q) rfl ?_
      refine y_get (j := 137) (len := 3) (r := (7, 7, 0, 20551)) (by decide +kernel) Q3465_a.1 Q3465_a.2.1.1 aw1008 rfl rfl hs3465 ?_
      refine y_ic (c := (-1)) (len := 1) (r := (0, 0, 0, 0)) (by decide +kernel) (by decide) (fun y3466 hy3466 => ?_)
      refine y_cF (c := .eq) (off := 11) (len := 3) (r := (0, 0, 0, 0)) (by decide +kernel) (acmpF (c := .eq) (by show ¬ (_ = _); omega)) ?_
      refine y_same (i := .aload_n 2) (len := 1) (r := (0, 0, 0, 0)) (pc' := 87) (ls' := [some (.inl (some 28)), some (zi xf), some (.inl (some a)), some (zi y3458)]) (st' := [.inl (some a)]) (by decide +kernel) (fun k q => by cases q) rfl ?_
      refine y_ic (c := 1) (len := 1) (r := (0, 0, 0, 0)) (by decide +kernel) (by decide) (fun y3467 hy3467 => ?_)
      refine y_put (j := 71) (lo := (-2147483648)) (hi := 2147483647) (len := 3) (r := (7, 4, 0, 20543)) (by decide +kernel) Q3465_a.1 Q3465_a.2.1.1 aw1008 rfl rfl (by decide) rfl (qin_full _).1 (qin_full _).2 rfl (fun h3468 hg3468 hl3468 hs3468 ho3468 => ?_)
      have ho3468 : hO a 4 h3465 h3468 := ho3468
      have hs3468 : hsl h3468 a 4 = some (zi y3467) := hs3468
      have Q3468_a := QC_up Q3465_a hg3468 (fun k j _ _ _ => ho3468 k j (by omega))
      refine y_goto (off := 26) (pc' := 117) (len := 3) (r := (0, 0, 0, 0)) (by decide +kernel) (by decide +kernel) ?_
      refine y_same (i := .aload_n 0) (len := 1) (r := (0, 0, 0, 0)) (pc' := 118) (ls' := [some (.inl (some 28)), some (zi xf), some (.inl (some a)), some (zi y3458)]) (st' := [.inl (some 28)]) (by decide +kernel) (fun k q => by cases q) rfl ?_
      refine y_same (i := .dup) (len := 1) (r := (0, 0, 0, 0)) (pc' := 119) (ls' := [some (.inl (some 28)), some (zi xf), some (.inl (some a)), some (zi y3458)]) (st' := [.inl (some 28), .inl (some 28)]) (by decide +kernel) (fun k q => by cases q) rfl ?_
      have hv3469 := (ho3454 28 6 (Or.inl (by omega))).trans hn
      have hv3470 := (ho3457 28 6 (Or.inl (by omega))).trans hv3469
      have hv3471 := (F3458 28 6 (by omega)).trans hv3470
      have hv3472 := (F3462 28 6 (by omega) (by omega)).trans hv3471
      have hv3473 := (ho3465 28 6 (Or.inl (by omega))).trans hv3472
      have hv3474 := (ho3468 28 6 (Or.inl (by omega))).trans hv3473
      refine y_get (j := 35) (len := 3) (r := (4, 6, 0, 289)) (by decide +kernel) Q3468_a.1 (tv28 Q3468_a.1) aw28 rfl rfl hv3474 ?_
      refine y_ic (c := 1) (len := 1) (r := (0, 0, 0, 0)) (by decide +kernel) (by decide) (fun y3475 hy3475 => ?_)
      refine y_add (len := 1) (r := (0, 0, 0, 0)) (by decide +kernel) (by omega) (by omega) (fun y3476 hy3476 => ?_)
      refine y_put (j := 35) (lo := (-2147483648)) (hi := 2147483647) (len := 3) (r := (4, 6, 0, 289)) (by decide +kernel) Q3468_a.1 (tv28 Q3468_a.1) aw28 rfl rfl (by decide) rfl (qin_full _).1 (qin_full _).2 rfl (fun h3477 hg3477 hl3477 hs3477 ho3477 => ?_)
      have ho3477 : hO 28 6 h3468 h3477 := ho3477
      have hs3477 : hsl h3477 28 6 = some (zi y3476) := hs3477
      have Q3477_a := QC_up Q3468_a hg3477 (fun k j _ _ _ => ho3477 k j (by omega))
      refine y_same (i := .aload_n 2) (len := 1) (r := (0, 0, 0, 0)) (pc' := 128) (ls' := [some (.inl (some 28)), some (zi xf), some (.inl (some a)), some (zi y3458)]) (st' := [.inl (some a)]) (by decide +kernel) (fun k q => by cases q) rfl ?_
      have hv3478 := (ho3477 a 4 (Or.inl (by omega))).trans hs3468
      refine y_get (j := 71) (len := 3) (r := (7, 4, 0, 20543)) (by decide +kernel) Q3477_a.1 Q3477_a.2.1.1 aw1008 rfl rfl hv3478 ?_
      refine y_iF (c := .lt) (off := 25) (len := 3) (r := (0, 0, 0, 0)) (by decide +kernel) (acmpF (c := .lt) (by show _ ≤ _; omega)) ?_
      refine y_same (i := .aload_n 2) (len := 1) (r := (0, 0, 0, 0)) (pc' := 135) (ls' := [some (.inl (some 28)), some (zi xf), some (.inl (some a)), some (zi y3458)]) (st' := [.inl (some a)]) (by decide +kernel) (fun k q => by cases q) rfl ?_
      refine y_get (j := 71) (len := 3) (r := (7, 4, 0, 20543)) (by decide +kernel) Q3477_a.1 Q3477_a.2.1.1 aw1008 rfl rfl hv3478 ?_
      refine y_bi (c := 9) (len := 2) (r := (0, 0, 0, 0)) (by decide +kernel) (by decide) (fun y3479 hy3479 => ?_)
      refine y_cF (c := .gt) (off := 16) (len := 3) (r := (0, 0, 0, 0)) (by decide +kernel) (acmpF (c := .gt) (by show _ ≤ _; omega)) ?_
      refine y_same (i := .aload_n 0) (len := 1) (r := (0, 0, 0, 0)) (pc' := 144) (ls' := [some (.inl (some 28)), some (zi xf), some (.inl (some a)), some (zi y3458)]) (st' := [.inl (some 28)]) (by decide +kernel) (fun k q => by cases q) rfl ?_
      refine y_get (j := 21) (len := 3) (r := (4, 3, 2, 285)) (by decide +kernel) Q3477_a.1 (tv28 Q3477_a.1) aw28 rfl rfl (g_rU (f := 3) (T2 := 31) Q3477_a.1 (tv28 Q3477_a.1) aw28 rfl (by decide)) ?_
      refine y_same (i := .aload_n 2) (len := 1) (r := (0, 0, 0, 0)) (pc' := 148) (ls' := [some (.inl (some 28)), some (zi xf), some (.inl (some a)), some (zi y3458)]) (st' := [.inl (some a), .inl (some 31)]) (by decide +kernel) (fun k q => by cases q) rfl ?_
      refine y_get (j := 71) (len := 3) (r := (7, 4, 0, 20543)) (by decide +kernel) Q3477_a.1 Q3477_a.2.1.1 aw1008 rfl rfl hv3478 ?_
      refine y_same (i := .dup2) (len := 1) (r := (0, 0, 0, 0)) (pc' := 152) (ls' := [some (.inl (some 28)), some (zi xf), some (.inl (some a)), some (zi y3458)]) (st' := [zi y3467, .inl (some 31), zi y3467, .inl (some 31)]) (by decide +kernel) (fun k q => by cases q) rfl ?_
      obtain ⟨v3480, hv3481, lv3480, uv3480⟩ := g_int (i := 1) Q3477_a.1 (tv31 Q3477_a.1) aw31 (show 1 < 10 by omega) (sr1 (by omega))
      refine y_ial (i := 1) (len := 1) (r := (0, 0, 0, 0)) (by decide +kernel) Q3477_a.1 (tv31 Q3477_a.1) aw31 (by omega) hv3481 ?_
      refine y_ic (c := 1) (len := 1) (r := (0, 0, 0, 0)) (by decide +kernel) (by decide) (fun y3482 hy3482 => ?_)
      refine y_bp (i := .iadd) (f := fun x y => x + y) (len := 1) (r := (0, 0, 0, 0)) (by decide +kernel) rfl rfl (fun y3483 hy3483 => ?_)
      refine y_ias (i := 1) (len := 1) (r := (0, 0, 0, 0)) (by decide +kernel) Q3477_a.1 (tv31 Q3477_a.1) aw31 rfl (by omega) (by omega) (sr1 (by omega)) (qin_full _).1 (qin_full _).2 (fun h3484 hg3484 hl3484 hs3484 ho3484 => ?_)
      have Q3484_a := QC_up Q3477_a hg3484 (fun k j _ _ _ => ho3484 k j (by omega))
      refine y_same (i := .aload_n 0) (len := 1) (r := (0, 0, 0, 0)) (pc' := 157) (ls' := [some (.inl (some 28)), some (zi xf), some (.inl (some a)), some (zi y3458)]) (st' := [.inl (some 28)]) (by decide +kernel) (fun k q => by cases q) rfl ?_
      refine y_same (i := .aload_n 0) (len := 1) (r := (0, 0, 0, 0)) (pc' := 158) (ls' := [some (.inl (some 28)), some (zi xf), some (.inl (some a)), some (zi y3458)]) (st' := [.inl (some 28), .inl (some 28)]) (by decide +kernel) (fun k q => by cases q) rfl ?_
      obtain ⟨v3485, hv3486, lv3485, uv3485⟩ := g_int (i := 9) (lo := (-2147483648)) (hi := 2147483647) Q3484_a.1 (tv28 Q3484_a.1) aw28 (by decide) rfl
      refine y_get (j := 45) (len := 3) (r := (4, 9, 0, 294)) (by decide +kernel) Q3484_a.1 (tv28 Q3484_a.1) aw28 rfl rfl hv3486 ?_
      refine y_same (i := .aload_n 2) (len := 1) (r := (0, 0, 0, 0)) (pc' := 162) (ls' := [some (.inl (some 28)), some (zi xf), some (.inl (some a)), some (zi y3458)]) (st' := [.inl (some a), zi v3485, .inl (some 28)]) (by decide +kernel) (fun k q => by cases q) rfl ?_
      have hv3487 := (F3458 a 6 (by omega)).trans hs3457
      have hv3488 := (F3462 a 6 (by omega) (by omega)).trans hv3487
      have hv3489 := (ho3465 a 6 (Or.inr (by omega))).trans hv3488
      have hv3490 := (ho3468 a 6 (Or.inr (by omega))).trans hv3489
      have hv3491 := (ho3477 a 6 (Or.inl (by omega))).trans hv3490
      have hv3492 := (ho3484 a 6 (Or.inl (by omega))).trans hv3491
      refine y_get (j := 110) (len := 3) (r := (7, 6, 0, 20549)) (by decide +kernel) Q3484_a.1 Q3484_a.2.1.1 aw1008 rfl rfl hv3492 ?_
      refine y_cI (i := .invokestatic 63) (len := 3) (r := (1, 266, 60, 510)) (nL := 2) (k := 1) (n := 2) (hs := []) (args := [zi v3485, zi y3456]) (rest := [.inl (some 28)]) (l0 := [some (zi v3485), some (zi y3456)]) (by decide +kernel) (Or.inl ⟨_, rfl⟩) rfl rfl rfl rfl (Nat.le_of_ble_eq_true rfl) rfl rfl (qI_le (by omega) (e_jmax (d := 0))) (fun y3493 qy3493 hRy3493 => ?_)
      obtain ⟨rfl, my3493, wy3493⟩ := hRy3493
      refine y_put (j := 45) (lo := (-2147483648)) (hi := 2147483647) (len := 3) (r := (4, 9, 0, 294)) (by decide +kernel) Q3484_a.1 (tv28 Q3484_a.1) aw28 rfl rfl (by decide) rfl (qin_full _).1 (qin_full _).2 rfl (fun h3494 hg3494 hl3494 hs3494 ho3494 => ?_)
      have ho3494 : hO 28 9 h3484 h3494 := ho3494
      have hs3494 : hsl h3494 28 9 = some (zi y3493) := hs3494
      have Q3494_a := QC_up Q3484_a hg3494 (fun k j _ _ _ => ho3494 k j (by omega))
      refine y_same (i := .aload_n 0) (len := 1) (r := (0, 0, 0, 0)) (pc' := 172) (ls' := [some (.inl (some 28)), some (zi xf), some (.inl (some a)), some (zi y3458)]) (st' := [.inl (some 28)]) (by decide +kernel) (fun k q => by cases q) rfl ?_
      refine y_same (i := .aload_n 2) (len := 1) (r := (0, 0, 0, 0)) (pc' := 173) (ls' := [some (.inl (some 28)), some (zi xf), some (.inl (some a)), some (zi y3458)]) (st' := [.inl (some a), .inl (some 28)]) (by decide +kernel) (fun k q => by cases q) rfl ?_
      refine y_cI (i := .invokevirtual 147) (len := 3) (r := (0, 82, 7, 751)) (nL := 1) (k := 1) (n := 1) (hs := []) (args := [.inl (some a)]) (rest := [.inl (some 28)]) (l0 := [some (.inl (some a))]) (by decide +kernel) (Or.inr (Or.inl ⟨_, rfl⟩)) rfl rfl rfl rfl (Nat.le_of_ble_eq_true rfl) (zO Q3494_a.1 Q3494_a.2.1.1 aw1008 rfl) rfl (qI_le (by omega) (q_mns (d := 0) Q3494_a)) (fun y3495 qy3495 hRy3495 => ?_)
      obtain ⟨rfl, ty3495⟩ := hRy3495
      have gr3496 : gR h3494 28 := by obtain ⟨x9, a9, b9⟩ := gr; exact ⟨x9, (((ho3494 28 10 (by omega)).trans ((ho3484 28 10 (by omega)).trans ((ho3477 28 10 (by omega)).trans ((ho3468 28 10 (by omega)).trans ((ho3465 28 10 (by omega)).trans ((F3462 28 10 (by omega) (by omega)).trans ((F3458 28 10 (by omega)).trans ((ho3457 28 10 (by omega)).trans (ho3454 28 10 (by omega))))))))))).trans a9, b9⟩
      refine y_cV (i := .invokevirtual 150) (len := 3) (r := (0, 43, 4, 759)) (nL := 3) (k := 0) (n := 2) (hs := []) (args := [.inl (some 28), zi y3495]) (rest := []) (l0 := [some (.inl (some 28)), some (zi y3495), none]) (by decide +kernel) (Or.inr (Or.inl ⟨_, rfl⟩)) rfl rfl rfl rfl (Nat.le_of_ble_eq_true rfl) (zO Q3494_a.1 (tv28 Q3494_a.1) aw28 rfl) rfl (qV_le (by omega) (e_ng28 (d := 0) Q3494_a.1 gr3496)) (fun h3496 hR3496 => ?_)
      obtain ⟨hg3496, gr2, F3496⟩ := hR3496
      have Q3496 := QC_up Q3494_a hg3496 (fun k j _ _ _ => F3496 k j (by omega))
      refine y_rV (len := 1) (r := (0, 0, 0, 0)) (nL := 4) (n9 := 2) (hs := []) (by decide +kernel) rfl ?_
      have hv3497 := (ho3484 a 4 (Or.inl (by omega))).trans hv3478
      have hv3498 := (ho3494 a 4 (Or.inl (by omega))).trans hv3497
      have hv3499 := (F3496 a 4 (by omega)).trans hv3498
      have hv3500 := (F3462 a 5 (by omega) (by omega)).trans hv3464
      have hv3501 := (ho3465 a 5 (Or.inr (by omega))).trans hv3500
      have hv3502 := (ho3468 a 5 (Or.inr (by omega))).trans hv3501
      have hv3503 := (ho3477 a 5 (Or.inl (by omega))).trans hv3502
      have hv3504 := (ho3484 a 5 (Or.inl (by omega))).trans hv3503
      have hv3505 := (ho3494 a 5 (Or.inl (by omega))).trans hv3504
      have hv3506 := (F3496 a 5 (by omega)).trans hv3505
      have hv3507 := (ho3494 a 6 (Or.inl (by omega))).trans hv3492
      have hv3508 := (F3496 a 6 (by omega)).trans hv3507
      have hv3509 := (ho3484 28 6 (Or.inl (by omega))).trans hs3477
      have hv3510 := (ho3494 28 6 (Or.inr (by omega))).trans hv3509
      have hv3511 := (F3496 28 6 (by omega)).trans hv3510
      have hv3512 := (ho3454 31 2 (Or.inl (by omega))).trans hd2
      have hv3513 := (ho3457 31 2 (Or.inl (by omega))).trans hv3512
      have hv3514 := (F3458 31 2 (by omega)).trans hv3513
      have hv3515 := (F3462 31 2 (by omega) (by omega)).trans hv3514
      have hv3516 := (ho3465 31 2 (Or.inl (by omega))).trans hv3515
      have hv3517 := (ho3468 31 2 (Or.inl (by omega))).trans hv3516
      have hv3518 := (ho3477 31 2 (Or.inl (by omega))).trans hv3517
      have hv3519 := (ho3484 31 2 (Or.inr (by omega))).trans hv3518
      have hv3520 := (ho3494 31 2 (Or.inl (by omega))).trans hv3519
      have hv3521 := (F3496 31 2 (by omega)).trans hv3520
      refine ⟨(s9, 1, 0, 0, 1, -1), ⟨rfl, rfl, Or.inr ⟨s9, ry3458, rfl, Or.inl ⟨by3462, rfl⟩⟩⟩, hg3496, ⟨a, (rfs_up ra (((F3496 29 n (by omega)).trans ((ho3494 29 n (by omega)).trans ((ho3484 29 n (by omega)).trans ((ho3477 29 n (by omega)).trans ((ho3468 29 n (by omega)).trans ((ho3465 29 n (by omega)).trans ((F3462 29 n (by omega) (by omega)).trans ((F3458 29 n (by omega)).trans ((ho3457 29 n (by omega)).trans (ho3454 29 n (by omega))))))))))))), ha, LQ_of Q3496, ⟨_, hv3499, by show _ = ((1 : Nat) : Int); omega⟩, ⟨_, hv3508, by show _ = ((1 : Nat) : Int); omega⟩, ⟨_, hv3506, by show _ = (-1 : Int); omega⟩, fun _ => Q3496, fun q => absurd q (by show ¬ 3 ≤ 1; omega), fun q => absurd q (by show ¬ 3 ≤ 1; omega)⟩, ⟨_, hv3511, by omega⟩, ?_, gr2, fun k j h1 h2 h3 h4 h5 => ((F3496 k j (by omega)).trans ((ho3494 k j (by omega)).trans ((ho3484 k j (by omega)).trans ((ho3477 k j (by omega)).trans ((ho3468 k j (by omega)).trans ((ho3465 k j (by omega)).trans ((F3462 k j (by omega) (by omega)).trans ((F3458 k j (by omega)).trans ((ho3457 k j (by omega)).trans (ho3454 k j (by omega)))))))))))⟩
      show ci_ _ 31 2 (dn + (if 1 = 2 then 1 else 0))
      rw [if_neg (by omega)]
      exact ⟨_, hv3521, by omega⟩
    ·
      refine y_goto (off := 4) (pc' := 63) (len := 3) (r := (0, 0, 0, 0)) (by decide +kernel) (by decide +kernel) ?_
      refine y_put (j := 137) (lo := (-2147483648)) (hi := 2147483647) (len := 3) (r := (7, 7, 0, 20551)) (by decide +kernel) hg3462 Q3462_a.2.1.1 aw1008 rfl rfl (by decide) rfl (qin_full _).1 (qin_full _).2 rfl (fun h3522 hg3522 hl3522 hs3522 ho3522 => ?_)
      have ho3522 : hO a 7 h3462 h3522 := ho3522
      have hs3522 : hsl h3522 a 7 = some (zi y3462) := hs3522
      have Q3522_a := QC_up Q3462_a hg3522 (fun k j _ _ _ => ho3522 k j (by omega))
      refine y_same (i := .iload_n 3) (len := 1) (r := (0, 0, 0, 0)) (pc' := 67) (ls' := [some (.inl (some 28)), some (zi xf), some (.inl (some a)), some (zi y3458)]) (st' := [zi y3458]) (by decide +kernel) (fun k q => by cases q) rfl ?_
      refine y_iT (c := .ne) (off := 11) (pc' := 78) (len := 3) (r := (0, 0, 0, 0)) (by decide +kernel) (acmpT (c := .ne) (by show ¬ (_ = _); omega)) (by decide +kernel) ?_
      refine y_same (i := .aload_n 2) (len := 1) (r := (0, 0, 0, 0)) (pc' := 79) (ls' := [some (.inl (some 28)), some (zi xf), some (.inl (some a)), some (zi y3458)]) (st' := [.inl (some a)]) (by decide +kernel) (fun k q => by cases q) rfl ?_
      refine y_get (j := 137) (len := 3) (r := (7, 7, 0, 20551)) (by decide +kernel) Q3522_a.1 Q3522_a.2.1.1 aw1008 rfl rfl hs3522 ?_
      refine y_ic (c := (-1)) (len := 1) (r := (0, 0, 0, 0)) (by decide +kernel) (by decide) (fun y3523 hy3523 => ?_)
      refine y_cT (c := .eq) (off := 11) (pc' := 94) (len := 3) (r := (0, 0, 0, 0)) (by decide +kernel) (acmpT (c := .eq) (by show _ = _; omega)) (by decide +kernel) ?_
      refine y_same (i := .aload_n 2) (len := 1) (r := (0, 0, 0, 0)) (pc' := 95) (ls' := [some (.inl (some 28)), some (zi xf), some (.inl (some a)), some (zi y3458)]) (st' := [.inl (some a)]) (by decide +kernel) (fun k q => by cases q) rfl ?_
      refine y_same (i := .aload_n 2) (len := 1) (r := (0, 0, 0, 0)) (pc' := 96) (ls' := [some (.inl (some 28)), some (zi xf), some (.inl (some a)), some (zi y3458)]) (st' := [.inl (some a), .inl (some a)]) (by decide +kernel) (fun k q => by cases q) rfl ?_
      refine y_same (i := .aload_n 0) (len := 1) (r := (0, 0, 0, 0)) (pc' := 97) (ls' := [some (.inl (some 28)), some (zi xf), some (.inl (some a)), some (zi y3458)]) (st' := [.inl (some 28), .inl (some a), .inl (some a)]) (by decide +kernel) (fun k q => by cases q) rfl ?_
      have hv3524 := (F3462 28 0 (by omega) (by omega)).trans hv3461
      have hv3525 := (ho3522 28 0 (Or.inl (by omega))).trans hv3524
      refine y_get (j := 54) (len := 3) (r := (4, 0, 1, 282)) (by decide +kernel) Q3522_a.1 (tv28 Q3522_a.1) aw28 rfl rfl hv3525 ?_
      refine y_cI (i := .invokevirtual 140) (len := 3) (r := (0, 93, 7, 739)) (nL := 2) (k := 2) (n := 2) (hs := []) (args := [.inl (some a), zi xm]) (rest := [.inl (some a)]) (l0 := [some (.inl (some a)), some (zi xm)]) (by decide +kernel) (Or.inr (Or.inl ⟨_, rfl⟩)) rfl rfl rfl rfl (Nat.le_of_ble_eq_true rfl) (zO Q3522_a.1 Q3522_a.2.1.1 aw1008 rfl) rfl (qI_le (by omega) (q_done (d := 0) (m := false) Q3522_a (eml.trans (if_neg (by decide)).symm))) (fun y3526 qy3526 hRy3526 => ?_)
      obtain ⟨rfl, hDy3526⟩ := hRy3526
      rcases hDy3526 with ⟨vy3526, ty3526⟩ | ⟨vy3526, ty3526⟩
      ·
        refine y_iF (c := .eq) (off := 7) (len := 3) (r := (0, 0, 0, 0)) (by decide +kernel) (acmpF (c := .eq) (by show ¬ (_ = _); omega)) ?_
        refine y_ic (c := 2) (len := 1) (r := (0, 0, 0, 0)) (by decide +kernel) (by decide) (fun y3527 hy3527 => ?_)
        refine y_goto (off := 7) (pc' := 114) (len := 3) (r := (0, 0, 0, 0)) (by decide +kernel) (by decide +kernel) ?_
        refine y_put (j := 71) (lo := (-2147483648)) (hi := 2147483647) (len := 3) (r := (7, 4, 0, 20543)) (by decide +kernel) Q3522_a.1 Q3522_a.2.1.1 aw1008 rfl rfl (by decide) rfl (qin_full _).1 (qin_full _).2 rfl (fun h3528 hg3528 hl3528 hs3528 ho3528 => ?_)
        have ho3528 : hO a 4 h3522 h3528 := ho3528
        have hs3528 : hsl h3528 a 4 = some (zi y3527) := hs3528
        have Q3528_a := QC_up Q3522_a hg3528 (fun k j _ _ _ => ho3528 k j (by omega))
        refine y_same (i := .aload_n 0) (len := 1) (r := (0, 0, 0, 0)) (pc' := 118) (ls' := [some (.inl (some 28)), some (zi xf), some (.inl (some a)), some (zi y3458)]) (st' := [.inl (some 28)]) (by decide +kernel) (fun k q => by cases q) rfl ?_
        refine y_same (i := .dup) (len := 1) (r := (0, 0, 0, 0)) (pc' := 119) (ls' := [some (.inl (some 28)), some (zi xf), some (.inl (some a)), some (zi y3458)]) (st' := [.inl (some 28), .inl (some 28)]) (by decide +kernel) (fun k q => by cases q) rfl ?_
        have hv3529 := (ho3454 28 6 (Or.inl (by omega))).trans hn
        have hv3530 := (ho3457 28 6 (Or.inl (by omega))).trans hv3529
        have hv3531 := (F3458 28 6 (by omega)).trans hv3530
        have hv3532 := (F3462 28 6 (by omega) (by omega)).trans hv3531
        have hv3533 := (ho3522 28 6 (Or.inl (by omega))).trans hv3532
        have hv3534 := (ho3528 28 6 (Or.inl (by omega))).trans hv3533
        refine y_get (j := 35) (len := 3) (r := (4, 6, 0, 289)) (by decide +kernel) Q3528_a.1 (tv28 Q3528_a.1) aw28 rfl rfl hv3534 ?_
        refine y_ic (c := 1) (len := 1) (r := (0, 0, 0, 0)) (by decide +kernel) (by decide) (fun y3535 hy3535 => ?_)
        refine y_add (len := 1) (r := (0, 0, 0, 0)) (by decide +kernel) (by omega) (by omega) (fun y3536 hy3536 => ?_)
        refine y_put (j := 35) (lo := (-2147483648)) (hi := 2147483647) (len := 3) (r := (4, 6, 0, 289)) (by decide +kernel) Q3528_a.1 (tv28 Q3528_a.1) aw28 rfl rfl (by decide) rfl (qin_full _).1 (qin_full _).2 rfl (fun h3537 hg3537 hl3537 hs3537 ho3537 => ?_)
        have ho3537 : hO 28 6 h3528 h3537 := ho3537
        have hs3537 : hsl h3537 28 6 = some (zi y3536) := hs3537
        have Q3537_a := QC_up Q3528_a hg3537 (fun k j _ _ _ => ho3537 k j (by omega))
        refine y_same (i := .aload_n 2) (len := 1) (r := (0, 0, 0, 0)) (pc' := 128) (ls' := [some (.inl (some 28)), some (zi xf), some (.inl (some a)), some (zi y3458)]) (st' := [.inl (some a)]) (by decide +kernel) (fun k q => by cases q) rfl ?_
        have hv3538 := (ho3537 a 4 (Or.inl (by omega))).trans hs3528
        refine y_get (j := 71) (len := 3) (r := (7, 4, 0, 20543)) (by decide +kernel) Q3537_a.1 Q3537_a.2.1.1 aw1008 rfl rfl hv3538 ?_
        refine y_iF (c := .lt) (off := 25) (len := 3) (r := (0, 0, 0, 0)) (by decide +kernel) (acmpF (c := .lt) (by show _ ≤ _; omega)) ?_
        refine y_same (i := .aload_n 2) (len := 1) (r := (0, 0, 0, 0)) (pc' := 135) (ls' := [some (.inl (some 28)), some (zi xf), some (.inl (some a)), some (zi y3458)]) (st' := [.inl (some a)]) (by decide +kernel) (fun k q => by cases q) rfl ?_
        refine y_get (j := 71) (len := 3) (r := (7, 4, 0, 20543)) (by decide +kernel) Q3537_a.1 Q3537_a.2.1.1 aw1008 rfl rfl hv3538 ?_
        refine y_bi (c := 9) (len := 2) (r := (0, 0, 0, 0)) (by decide +kernel) (by decide) (fun y3539 hy3539 => ?_)
        refine y_cF (c := .gt) (off := 16) (len := 3) (r := (0, 0, 0, 0)) (by decide +kernel) (acmpF (c := .gt) (by show _ ≤ _; omega)) ?_
        refine y_same (i := .aload_n 0) (len := 1) (r := (0, 0, 0, 0)) (pc' := 144) (ls' := [some (.inl (some 28)), some (zi xf), some (.inl (some a)), some (zi y3458)]) (st' := [.inl (some 28)]) (by decide +kernel) (fun k q => by cases q) rfl ?_
        refine y_get (j := 21) (len := 3) (r := (4, 3, 2, 285)) (by decide +kernel) Q3537_a.1 (tv28 Q3537_a.1) aw28 rfl rfl (g_rU (f := 3) (T2 := 31) Q3537_a.1 (tv28 Q3537_a.1) aw28 rfl (by decide)) ?_
        refine y_same (i := .aload_n 2) (len := 1) (r := (0, 0, 0, 0)) (pc' := 148) (ls' := [some (.inl (some 28)), some (zi xf), some (.inl (some a)), some (zi y3458)]) (st' := [.inl (some a), .inl (some 31)]) (by decide +kernel) (fun k q => by cases q) rfl ?_
        refine y_get (j := 71) (len := 3) (r := (7, 4, 0, 20543)) (by decide +kernel) Q3537_a.1 Q3537_a.2.1.1 aw1008 rfl rfl hv3538 ?_
        refine y_same (i := .dup2) (len := 1) (r := (0, 0, 0, 0)) (pc' := 152) (ls' := [some (.inl (some 28)), some (zi xf), some (.inl (some a)), some (zi y3458)]) (st' := [zi y3527, .inl (some 31), zi y3527, .inl (some 31)]) (by decide +kernel) (fun k q => by cases q) rfl ?_
        have hv3540 := (ho3454 31 2 (Or.inl (by omega))).trans hd2
        have hv3541 := (ho3457 31 2 (Or.inl (by omega))).trans hv3540
        have hv3542 := (F3458 31 2 (by omega)).trans hv3541
        have hv3543 := (F3462 31 2 (by omega) (by omega)).trans hv3542
        have hv3544 := (ho3522 31 2 (Or.inl (by omega))).trans hv3543
        have hv3545 := (ho3528 31 2 (Or.inl (by omega))).trans hv3544
        have hv3546 := (ho3537 31 2 (Or.inl (by omega))).trans hv3545
        refine y_ial (i := 2) (len := 1) (r := (0, 0, 0, 0)) (by decide +kernel) Q3537_a.1 (tv31 Q3537_a.1) aw31 (by omega) hv3546 ?_
        refine y_ic (c := 1) (len := 1) (r := (0, 0, 0, 0)) (by decide +kernel) (by decide) (fun y3547 hy3547 => ?_)
        refine y_add (len := 1) (r := (0, 0, 0, 0)) (by decide +kernel) (by omega) (by omega) (fun y3548 hy3548 => ?_)
        refine y_ias (i := 2) (len := 1) (r := (0, 0, 0, 0)) (by decide +kernel) Q3537_a.1 (tv31 Q3537_a.1) aw31 rfl (by omega) (by omega) (sr1 (by omega)) (qin_full _).1 (qin_full _).2 (fun h3549 hg3549 hl3549 hs3549 ho3549 => ?_)
        have Q3549_a := QC_up Q3537_a hg3549 (fun k j _ _ _ => ho3549 k j (by omega))
        refine y_same (i := .aload_n 0) (len := 1) (r := (0, 0, 0, 0)) (pc' := 157) (ls' := [some (.inl (some 28)), some (zi xf), some (.inl (some a)), some (zi y3458)]) (st' := [.inl (some 28)]) (by decide +kernel) (fun k q => by cases q) rfl ?_
        refine y_same (i := .aload_n 0) (len := 1) (r := (0, 0, 0, 0)) (pc' := 158) (ls' := [some (.inl (some 28)), some (zi xf), some (.inl (some a)), some (zi y3458)]) (st' := [.inl (some 28), .inl (some 28)]) (by decide +kernel) (fun k q => by cases q) rfl ?_
        obtain ⟨v3550, hv3551, lv3550, uv3550⟩ := g_int (i := 9) (lo := (-2147483648)) (hi := 2147483647) Q3549_a.1 (tv28 Q3549_a.1) aw28 (by decide) rfl
        refine y_get (j := 45) (len := 3) (r := (4, 9, 0, 294)) (by decide +kernel) Q3549_a.1 (tv28 Q3549_a.1) aw28 rfl rfl hv3551 ?_
        refine y_same (i := .aload_n 2) (len := 1) (r := (0, 0, 0, 0)) (pc' := 162) (ls' := [some (.inl (some 28)), some (zi xf), some (.inl (some a)), some (zi y3458)]) (st' := [.inl (some a), zi v3550, .inl (some 28)]) (by decide +kernel) (fun k q => by cases q) rfl ?_
        have hv3552 := (F3458 a 6 (by omega)).trans hs3457
        have hv3553 := (F3462 a 6 (by omega) (by omega)).trans hv3552
        have hv3554 := (ho3522 a 6 (Or.inr (by omega))).trans hv3553
        have hv3555 := (ho3528 a 6 (Or.inr (by omega))).trans hv3554
        have hv3556 := (ho3537 a 6 (Or.inl (by omega))).trans hv3555
        have hv3557 := (ho3549 a 6 (Or.inl (by omega))).trans hv3556
        refine y_get (j := 110) (len := 3) (r := (7, 6, 0, 20549)) (by decide +kernel) Q3549_a.1 Q3549_a.2.1.1 aw1008 rfl rfl hv3557 ?_
        refine y_cI (i := .invokestatic 63) (len := 3) (r := (1, 266, 60, 510)) (nL := 2) (k := 1) (n := 2) (hs := []) (args := [zi v3550, zi y3456]) (rest := [.inl (some 28)]) (l0 := [some (zi v3550), some (zi y3456)]) (by decide +kernel) (Or.inl ⟨_, rfl⟩) rfl rfl rfl rfl (Nat.le_of_ble_eq_true rfl) rfl rfl (qI_le (by omega) (e_jmax (d := 0))) (fun y3558 qy3558 hRy3558 => ?_)
        obtain ⟨rfl, my3558, wy3558⟩ := hRy3558
        refine y_put (j := 45) (lo := (-2147483648)) (hi := 2147483647) (len := 3) (r := (4, 9, 0, 294)) (by decide +kernel) Q3549_a.1 (tv28 Q3549_a.1) aw28 rfl rfl (by decide) rfl (qin_full _).1 (qin_full _).2 rfl (fun h3559 hg3559 hl3559 hs3559 ho3559 => ?_)
        have ho3559 : hO 28 9 h3549 h3559 := ho3559
        have hs3559 : hsl h3559 28 9 = some (zi y3558) := hs3559
        have Q3559_a := QC_up Q3549_a hg3559 (fun k j _ _ _ => ho3559 k j (by omega))
        refine y_same (i := .aload_n 0) (len := 1) (r := (0, 0, 0, 0)) (pc' := 172) (ls' := [some (.inl (some 28)), some (zi xf), some (.inl (some a)), some (zi y3458)]) (st' := [.inl (some 28)]) (by decide +kernel) (fun k q => by cases q) rfl ?_
        refine y_same (i := .aload_n 2) (len := 1) (r := (0, 0, 0, 0)) (pc' := 173) (ls' := [some (.inl (some 28)), some (zi xf), some (.inl (some a)), some (zi y3458)]) (st' := [.inl (some a), .inl (some 28)]) (by decide +kernel) (fun k q => by cases q) rfl ?_
        refine y_cI (i := .invokevirtual 147) (len := 3) (r := (0, 82, 7, 751)) (nL := 1) (k := 1) (n := 1) (hs := []) (args := [.inl (some a)]) (rest := [.inl (some 28)]) (l0 := [some (.inl (some a))]) (by decide +kernel) (Or.inr (Or.inl ⟨_, rfl⟩)) rfl rfl rfl rfl (Nat.le_of_ble_eq_true rfl) (zO Q3559_a.1 Q3559_a.2.1.1 aw1008 rfl) rfl (qI_le (by omega) (q_mns (d := 0) Q3559_a)) (fun y3560 qy3560 hRy3560 => ?_)
        obtain ⟨rfl, ty3560⟩ := hRy3560
        have gr3561 : gR h3559 28 := by obtain ⟨x9, a9, b9⟩ := gr; exact ⟨x9, (((ho3559 28 10 (by omega)).trans ((ho3549 28 10 (by omega)).trans ((ho3537 28 10 (by omega)).trans ((ho3528 28 10 (by omega)).trans ((ho3522 28 10 (by omega)).trans ((F3462 28 10 (by omega) (by omega)).trans ((F3458 28 10 (by omega)).trans ((ho3457 28 10 (by omega)).trans (ho3454 28 10 (by omega))))))))))).trans a9, b9⟩
        refine y_cV (i := .invokevirtual 150) (len := 3) (r := (0, 43, 4, 759)) (nL := 3) (k := 0) (n := 2) (hs := []) (args := [.inl (some 28), zi y3560]) (rest := []) (l0 := [some (.inl (some 28)), some (zi y3560), none]) (by decide +kernel) (Or.inr (Or.inl ⟨_, rfl⟩)) rfl rfl rfl rfl (Nat.le_of_ble_eq_true rfl) (zO Q3559_a.1 (tv28 Q3559_a.1) aw28 rfl) rfl (qV_le (by omega) (e_ng28 (d := 0) Q3559_a.1 gr3561)) (fun h3561 hR3561 => ?_)
        obtain ⟨hg3561, gr2, F3561⟩ := hR3561
        have Q3561 := QC_up Q3559_a hg3561 (fun k j _ _ _ => F3561 k j (by omega))
        refine y_rV (len := 1) (r := (0, 0, 0, 0)) (nL := 4) (n9 := 2) (hs := []) (by decide +kernel) rfl ?_
        have hv3562 := (ho3549 a 4 (Or.inl (by omega))).trans hv3538
        have hv3563 := (ho3559 a 4 (Or.inl (by omega))).trans hv3562
        have hv3564 := (F3561 a 4 (by omega)).trans hv3563
        have hv3565 := (F3462 a 5 (by omega) (by omega)).trans hv3464
        have hv3566 := (ho3522 a 5 (Or.inr (by omega))).trans hv3565
        have hv3567 := (ho3528 a 5 (Or.inr (by omega))).trans hv3566
        have hv3568 := (ho3537 a 5 (Or.inl (by omega))).trans hv3567
        have hv3569 := (ho3549 a 5 (Or.inl (by omega))).trans hv3568
        have hv3570 := (ho3559 a 5 (Or.inl (by omega))).trans hv3569
        have hv3571 := (F3561 a 5 (by omega)).trans hv3570
        have hv3572 := (ho3559 a 6 (Or.inl (by omega))).trans hv3557
        have hv3573 := (F3561 a 6 (by omega)).trans hv3572
        have hv3574 := (ho3549 28 6 (Or.inl (by omega))).trans hs3537
        have hv3575 := (ho3559 28 6 (Or.inr (by omega))).trans hv3574
        have hv3576 := (F3561 28 6 (by omega)).trans hv3575
        have hv3577 := (ho3559 31 2 (Or.inl (by omega))).trans hs3549
        have hv3578 := (F3561 31 2 (by omega)).trans hv3577
        refine ⟨(s9, 2, 0, 0, 1, -1), ⟨rfl, rfl, Or.inr ⟨s9, ry3458, rfl, Or.inr (Or.inl ⟨by3462, ty3526, rfl⟩)⟩⟩, hg3561, ⟨a, (rfs_up ra (((F3561 29 n (by omega)).trans ((ho3559 29 n (by omega)).trans ((ho3549 29 n (by omega)).trans ((ho3537 29 n (by omega)).trans ((ho3528 29 n (by omega)).trans ((ho3522 29 n (by omega)).trans ((F3462 29 n (by omega) (by omega)).trans ((F3458 29 n (by omega)).trans ((ho3457 29 n (by omega)).trans (ho3454 29 n (by omega))))))))))))), ha, LQ_of Q3561, ⟨_, hv3564, by show _ = ((2 : Nat) : Int); omega⟩, ⟨_, hv3573, by show _ = ((1 : Nat) : Int); omega⟩, ⟨_, hv3571, by show _ = (-1 : Int); omega⟩, fun _ => Q3561, fun q => absurd q (by show ¬ 3 ≤ 2; omega), fun q => absurd q (by show ¬ 3 ≤ 2; omega)⟩, ⟨_, hv3576, by omega⟩, ?_, gr2, fun k j h1 h2 h3 h4 h5 => ((F3561 k j (by omega)).trans ((ho3559 k j (by omega)).trans ((ho3549 k j (by omega)).trans ((ho3537 k j (by omega)).trans ((ho3528 k j (by omega)).trans ((ho3522 k j (by omega)).trans ((F3462 k j (by omega) (by omega)).trans ((F3458 k j (by omega)).trans ((ho3457 k j (by omega)).trans (ho3454 k j (by omega)))))))))))⟩
        show ci_ _ 31 2 (dn + (if 2 = 2 then 1 else 0))
        rw [if_pos (by omega)]
        exact ⟨_, hv3578, by omega⟩
      ·
        refine y_iT (c := .eq) (off := 7) (pc' := 110) (len := 3) (r := (0, 0, 0, 0)) (by decide +kernel) (acmpT (c := .eq) (by show _ = _; omega)) (by decide +kernel) ?_
        refine y_same (i := .aload_n 2) (len := 1) (r := (0, 0, 0, 0)) (pc' := 111) (ls' := [some (.inl (some 28)), some (zi xf), some (.inl (some a)), some (zi y3458)]) (st' := [.inl (some a), .inl (some a)]) (by decide +kernel) (fun k q => by cases q) rfl ?_
        refine y_cI (i := .invokevirtual 144) (len := 3) (r := (0, 94, 7, 743)) (nL := 4) (k := 1) (n := 1) (hs := []) (args := [.inl (some a)]) (rest := [.inl (some a)]) (l0 := [some (.inl (some a)), none, none, none]) (by decide +kernel) (Or.inr (Or.inl ⟨_, rfl⟩)) rfl rfl rfl rfl (Nat.le_of_ble_eq_true rfl) (zO Q3522_a.1 Q3522_a.2.1.1 aw1008 rfl) rfl (qI_le (by omega) (q_fnd (d := 0) Q3522_a)) (fun y3579 h3579 hRy3579 => ?_)
        obtain ⟨st, r, l, ey3579, fd, c8, c9, Q3579, F3579⟩ := hRy3579
        have fb := fnd_b fd
        refine y_put (j := 71) (lo := (-2147483648)) (hi := 2147483647) (len := 3) (r := (7, 4, 0, 20543)) (by decide +kernel) Q3579.1 Q3579.2.1.1 aw1008 rfl rfl (by decide) rfl (qin_full _).1 (qin_full _).2 rfl (fun h3580 hg3580 hl3580 hs3580 ho3580 => ?_)
        have ho3580 : hO a 4 h3579 h3580 := ho3580
        have hs3580 : hsl h3580 a 4 = some (zi y3579) := hs3580
        have Q3580_a := QC_up Q3579 hg3580 (fun k j _ _ _ => ho3580 k j (by omega))
        refine y_same (i := .aload_n 0) (len := 1) (r := (0, 0, 0, 0)) (pc' := 118) (ls' := [some (.inl (some 28)), some (zi xf), some (.inl (some a)), some (zi y3458)]) (st' := [.inl (some 28)]) (by decide +kernel) (fun k q => by cases q) rfl ?_
        refine y_same (i := .dup) (len := 1) (r := (0, 0, 0, 0)) (pc' := 119) (ls' := [some (.inl (some 28)), some (zi xf), some (.inl (some a)), some (zi y3458)]) (st' := [.inl (some 28), .inl (some 28)]) (by decide +kernel) (fun k q => by cases q) rfl ?_
        have hv3581 := (ho3454 28 6 (Or.inl (by omega))).trans hn
        have hv3582 := (ho3457 28 6 (Or.inl (by omega))).trans hv3581
        have hv3583 := (F3458 28 6 (by omega)).trans hv3582
        have hv3584 := (F3462 28 6 (by omega) (by omega)).trans hv3583
        have hv3585 := (ho3522 28 6 (Or.inl (by omega))).trans hv3584
        have hv3586 := (F3579 28 6 (by omega)).trans hv3585
        have hv3587 := (ho3580 28 6 (Or.inl (by omega))).trans hv3586
        refine y_get (j := 35) (len := 3) (r := (4, 6, 0, 289)) (by decide +kernel) Q3580_a.1 (tv28 Q3580_a.1) aw28 rfl rfl hv3587 ?_
        refine y_ic (c := 1) (len := 1) (r := (0, 0, 0, 0)) (by decide +kernel) (by decide) (fun y3588 hy3588 => ?_)
        refine y_add (len := 1) (r := (0, 0, 0, 0)) (by decide +kernel) (by omega) (by omega) (fun y3589 hy3589 => ?_)
        refine y_put (j := 35) (lo := (-2147483648)) (hi := 2147483647) (len := 3) (r := (4, 6, 0, 289)) (by decide +kernel) Q3580_a.1 (tv28 Q3580_a.1) aw28 rfl rfl (by decide) rfl (qin_full _).1 (qin_full _).2 rfl (fun h3590 hg3590 hl3590 hs3590 ho3590 => ?_)
        have ho3590 : hO 28 6 h3580 h3590 := ho3590
        have hs3590 : hsl h3590 28 6 = some (zi y3589) := hs3590
        have Q3590_a := QC_up Q3580_a hg3590 (fun k j _ _ _ => ho3590 k j (by omega))
        refine y_same (i := .aload_n 2) (len := 1) (r := (0, 0, 0, 0)) (pc' := 128) (ls' := [some (.inl (some 28)), some (zi xf), some (.inl (some a)), some (zi y3458)]) (st' := [.inl (some a)]) (by decide +kernel) (fun k q => by cases q) rfl ?_
        have hv3591 := (ho3590 a 4 (Or.inl (by omega))).trans hs3580
        refine y_get (j := 71) (len := 3) (r := (7, 4, 0, 20543)) (by decide +kernel) Q3590_a.1 Q3590_a.2.1.1 aw1008 rfl rfl hv3591 ?_
        refine y_iF (c := .lt) (off := 25) (len := 3) (r := (0, 0, 0, 0)) (by decide +kernel) (acmpF (c := .lt) (by show _ ≤ _; omega)) ?_
        refine y_same (i := .aload_n 2) (len := 1) (r := (0, 0, 0, 0)) (pc' := 135) (ls' := [some (.inl (some 28)), some (zi xf), some (.inl (some a)), some (zi y3458)]) (st' := [.inl (some a)]) (by decide +kernel) (fun k q => by cases q) rfl ?_
        refine y_get (j := 71) (len := 3) (r := (7, 4, 0, 20543)) (by decide +kernel) Q3590_a.1 Q3590_a.2.1.1 aw1008 rfl rfl hv3591 ?_
        refine y_bi (c := 9) (len := 2) (r := (0, 0, 0, 0)) (by decide +kernel) (by decide) (fun y3592 hy3592 => ?_)
        refine y_cF (c := .gt) (off := 16) (len := 3) (r := (0, 0, 0, 0)) (by decide +kernel) (acmpF (c := .gt) (by show _ ≤ _; omega)) ?_
        refine y_same (i := .aload_n 0) (len := 1) (r := (0, 0, 0, 0)) (pc' := 144) (ls' := [some (.inl (some 28)), some (zi xf), some (.inl (some a)), some (zi y3458)]) (st' := [.inl (some 28)]) (by decide +kernel) (fun k q => by cases q) rfl ?_
        refine y_get (j := 21) (len := 3) (r := (4, 3, 2, 285)) (by decide +kernel) Q3590_a.1 (tv28 Q3590_a.1) aw28 rfl rfl (g_rU (f := 3) (T2 := 31) Q3590_a.1 (tv28 Q3590_a.1) aw28 rfl (by decide)) ?_
        refine y_same (i := .aload_n 2) (len := 1) (r := (0, 0, 0, 0)) (pc' := 148) (ls' := [some (.inl (some 28)), some (zi xf), some (.inl (some a)), some (zi y3458)]) (st' := [.inl (some a), .inl (some 31)]) (by decide +kernel) (fun k q => by cases q) rfl ?_
        refine y_get (j := 71) (len := 3) (r := (7, 4, 0, 20543)) (by decide +kernel) Q3590_a.1 Q3590_a.2.1.1 aw1008 rfl rfl hv3591 ?_
        refine y_same (i := .dup2) (len := 1) (r := (0, 0, 0, 0)) (pc' := 152) (ls' := [some (.inl (some 28)), some (zi xf), some (.inl (some a)), some (zi y3458)]) (st' := [zi y3579, .inl (some 31), zi y3579, .inl (some 31)]) (by decide +kernel) (fun k q => by cases q) rfl ?_
        obtain ⟨v3593, hv3594, lv3593, uv3593⟩ := g_int (i := st) Q3590_a.1 (tv31 Q3590_a.1) aw31 (show st < 10 by omega) (sr1 (by omega))
        refine y_ial (i := st) (len := 1) (r := (0, 0, 0, 0)) (by decide +kernel) Q3590_a.1 (tv31 Q3590_a.1) aw31 (by omega) hv3594 ?_
        refine y_ic (c := 1) (len := 1) (r := (0, 0, 0, 0)) (by decide +kernel) (by decide) (fun y3595 hy3595 => ?_)
        refine y_bp (i := .iadd) (f := fun x y => x + y) (len := 1) (r := (0, 0, 0, 0)) (by decide +kernel) rfl rfl (fun y3596 hy3596 => ?_)
        refine y_ias (i := st) (len := 1) (r := (0, 0, 0, 0)) (by decide +kernel) Q3590_a.1 (tv31 Q3590_a.1) aw31 rfl (by omega) (by omega) (sr1 (by omega)) (qin_full _).1 (qin_full _).2 (fun h3597 hg3597 hl3597 hs3597 ho3597 => ?_)
        have Q3597_a := QC_up Q3590_a hg3597 (fun k j _ _ _ => ho3597 k j (by omega))
        refine y_same (i := .aload_n 0) (len := 1) (r := (0, 0, 0, 0)) (pc' := 157) (ls' := [some (.inl (some 28)), some (zi xf), some (.inl (some a)), some (zi y3458)]) (st' := [.inl (some 28)]) (by decide +kernel) (fun k q => by cases q) rfl ?_
        refine y_same (i := .aload_n 0) (len := 1) (r := (0, 0, 0, 0)) (pc' := 158) (ls' := [some (.inl (some 28)), some (zi xf), some (.inl (some a)), some (zi y3458)]) (st' := [.inl (some 28), .inl (some 28)]) (by decide +kernel) (fun k q => by cases q) rfl ?_
        obtain ⟨v3598, hv3599, lv3598, uv3598⟩ := g_int (i := 9) (lo := (-2147483648)) (hi := 2147483647) Q3597_a.1 (tv28 Q3597_a.1) aw28 (by decide) rfl
        refine y_get (j := 45) (len := 3) (r := (4, 9, 0, 294)) (by decide +kernel) Q3597_a.1 (tv28 Q3597_a.1) aw28 rfl rfl hv3599 ?_
        refine y_same (i := .aload_n 2) (len := 1) (r := (0, 0, 0, 0)) (pc' := 162) (ls' := [some (.inl (some 28)), some (zi xf), some (.inl (some a)), some (zi y3458)]) (st' := [.inl (some a), zi v3598, .inl (some 28)]) (by decide +kernel) (fun k q => by cases q) rfl ?_
        have hv3600 := (F3458 a 6 (by omega)).trans hs3457
        have hv3601 := (F3462 a 6 (by omega) (by omega)).trans hv3600
        have hv3602 := (ho3522 a 6 (Or.inr (by omega))).trans hv3601
        have hv3603 := (F3579 a 6 (by omega)).trans hv3602
        have hv3604 := (ho3580 a 6 (Or.inr (by omega))).trans hv3603
        have hv3605 := (ho3590 a 6 (Or.inl (by omega))).trans hv3604
        have hv3606 := (ho3597 a 6 (Or.inl (by omega))).trans hv3605
        refine y_get (j := 110) (len := 3) (r := (7, 6, 0, 20549)) (by decide +kernel) Q3597_a.1 Q3597_a.2.1.1 aw1008 rfl rfl hv3606 ?_
        refine y_cI (i := .invokestatic 63) (len := 3) (r := (1, 266, 60, 510)) (nL := 2) (k := 1) (n := 2) (hs := []) (args := [zi v3598, zi y3456]) (rest := [.inl (some 28)]) (l0 := [some (zi v3598), some (zi y3456)]) (by decide +kernel) (Or.inl ⟨_, rfl⟩) rfl rfl rfl rfl (Nat.le_of_ble_eq_true rfl) rfl rfl (qI_le (by omega) (e_jmax (d := 0))) (fun y3607 qy3607 hRy3607 => ?_)
        obtain ⟨rfl, my3607, wy3607⟩ := hRy3607
        refine y_put (j := 45) (lo := (-2147483648)) (hi := 2147483647) (len := 3) (r := (4, 9, 0, 294)) (by decide +kernel) Q3597_a.1 (tv28 Q3597_a.1) aw28 rfl rfl (by decide) rfl (qin_full _).1 (qin_full _).2 rfl (fun h3608 hg3608 hl3608 hs3608 ho3608 => ?_)
        have ho3608 : hO 28 9 h3597 h3608 := ho3608
        have hs3608 : hsl h3608 28 9 = some (zi y3607) := hs3608
        have Q3608_a := QC_up Q3597_a hg3608 (fun k j _ _ _ => ho3608 k j (by omega))
        refine y_same (i := .aload_n 0) (len := 1) (r := (0, 0, 0, 0)) (pc' := 172) (ls' := [some (.inl (some 28)), some (zi xf), some (.inl (some a)), some (zi y3458)]) (st' := [.inl (some 28)]) (by decide +kernel) (fun k q => by cases q) rfl ?_
        refine y_same (i := .aload_n 2) (len := 1) (r := (0, 0, 0, 0)) (pc' := 173) (ls' := [some (.inl (some 28)), some (zi xf), some (.inl (some a)), some (zi y3458)]) (st' := [.inl (some a), .inl (some 28)]) (by decide +kernel) (fun k q => by cases q) rfl ?_
        refine y_cI (i := .invokevirtual 147) (len := 3) (r := (0, 82, 7, 751)) (nL := 1) (k := 1) (n := 1) (hs := []) (args := [.inl (some a)]) (rest := [.inl (some 28)]) (l0 := [some (.inl (some a))]) (by decide +kernel) (Or.inr (Or.inl ⟨_, rfl⟩)) rfl rfl rfl rfl (Nat.le_of_ble_eq_true rfl) (zO Q3608_a.1 Q3608_a.2.1.1 aw1008 rfl) rfl (qI_le (by omega) (q_mns (d := 0) Q3608_a)) (fun y3609 qy3609 hRy3609 => ?_)
        obtain ⟨rfl, ty3609⟩ := hRy3609
        have gr3610 : gR h3608 28 := by obtain ⟨x9, a9, b9⟩ := gr; exact ⟨x9, (((ho3608 28 10 (by omega)).trans ((ho3597 28 10 (by omega)).trans ((ho3590 28 10 (by omega)).trans ((ho3580 28 10 (by omega)).trans ((F3579 28 10 (by omega)).trans ((ho3522 28 10 (by omega)).trans ((F3462 28 10 (by omega) (by omega)).trans ((F3458 28 10 (by omega)).trans ((ho3457 28 10 (by omega)).trans (ho3454 28 10 (by omega)))))))))))).trans a9, b9⟩
        refine y_cV (i := .invokevirtual 150) (len := 3) (r := (0, 43, 4, 759)) (nL := 3) (k := 0) (n := 2) (hs := []) (args := [.inl (some 28), zi y3609]) (rest := []) (l0 := [some (.inl (some 28)), some (zi y3609), none]) (by decide +kernel) (Or.inr (Or.inl ⟨_, rfl⟩)) rfl rfl rfl rfl (Nat.le_of_ble_eq_true rfl) (zO Q3608_a.1 (tv28 Q3608_a.1) aw28 rfl) rfl (qV_le (by omega) (e_ng28 (d := 0) Q3608_a.1 gr3610)) (fun h3610 hR3610 => ?_)
        obtain ⟨hg3610, gr2, F3610⟩ := hR3610
        have Q3610 := QC_up Q3608_a hg3610 (fun k j _ _ _ => F3610 k j (by omega))
        refine y_rV (len := 1) (r := (0, 0, 0, 0)) (nL := 4) (n9 := 2) (hs := []) (by decide +kernel) rfl ?_
        have hv3611 := (ho3597 a 4 (Or.inl (by omega))).trans hv3591
        have hv3612 := (ho3608 a 4 (Or.inl (by omega))).trans hv3611
        have hv3613 := (F3610 a 4 (by omega)).trans hv3612
        have hv3614 := (F3462 a 5 (by omega) (by omega)).trans hv3464
        have hv3615 := (ho3522 a 5 (Or.inr (by omega))).trans hv3614
        have hv3616 := (F3579 a 5 (by omega)).trans hv3615
        have hv3617 := (ho3580 a 5 (Or.inr (by omega))).trans hv3616
        have hv3618 := (ho3590 a 5 (Or.inl (by omega))).trans hv3617
        have hv3619 := (ho3597 a 5 (Or.inl (by omega))).trans hv3618
        have hv3620 := (ho3608 a 5 (Or.inl (by omega))).trans hv3619
        have hv3621 := (F3610 a 5 (by omega)).trans hv3620
        have hv3622 := (ho3608 a 6 (Or.inl (by omega))).trans hv3606
        have hv3623 := (F3610 a 6 (by omega)).trans hv3622
        have hv3624 := (ho3597 28 6 (Or.inl (by omega))).trans hs3590
        have hv3625 := (ho3608 28 6 (Or.inr (by omega))).trans hv3624
        have hv3626 := (F3610 28 6 (by omega)).trans hv3625
        have hv3627 := (ho3454 31 2 (Or.inl (by omega))).trans hd2
        have hv3628 := (ho3457 31 2 (Or.inl (by omega))).trans hv3627
        have hv3629 := (F3458 31 2 (by omega)).trans hv3628
        have hv3630 := (F3462 31 2 (by omega) (by omega)).trans hv3629
        have hv3631 := (ho3522 31 2 (Or.inl (by omega))).trans hv3630
        have hv3632 := (F3579 31 2 (by omega)).trans hv3631
        have hv3633 := (ho3580 31 2 (Or.inl (by omega))).trans hv3632
        have hv3634 := (ho3590 31 2 (Or.inl (by omega))).trans hv3633
        have hv3635 := (ho3597 31 2 (Or.inr (by omega))).trans hv3634
        have hv3636 := (ho3608 31 2 (Or.inl (by omega))).trans hv3635
        have hv3637 := (F3610 31 2 (by omega)).trans hv3636
        refine ⟨(s9, st, r, l, 1, -1), ⟨rfl, rfl, Or.inr ⟨s9, ry3458, rfl, Or.inr (Or.inr ⟨by3462, ty3526, fd⟩)⟩⟩, hg3610, ⟨a, (rfs_up ra (((F3610 29 n (by omega)).trans ((ho3608 29 n (by omega)).trans ((ho3597 29 n (by omega)).trans ((ho3590 29 n (by omega)).trans ((ho3580 29 n (by omega)).trans ((F3579 29 n (by omega)).trans ((ho3522 29 n (by omega)).trans ((F3462 29 n (by omega) (by omega)).trans ((F3458 29 n (by omega)).trans ((ho3457 29 n (by omega)).trans (ho3454 29 n (by omega)))))))))))))), ha, LQ_of Q3610, ⟨_, hv3613, by show _ = ((st : Nat) : Int); omega⟩, ⟨_, hv3623, by show _ = ((1 : Nat) : Int); omega⟩, ⟨_, hv3621, by show _ = (-1 : Int); omega⟩, fun _ => Q3610, fun _ q => ci_up (c8 q) (((F3610 a 8 (by omega)).trans ((ho3608 a 8 (by omega)).trans ((ho3597 a 8 (by omega)).trans ((ho3590 a 8 (by omega)).trans (ho3580 a 8 (by omega))))))), fun _ q => ci_up (c9 q) (((F3610 a 9 (by omega)).trans ((ho3608 a 9 (by omega)).trans ((ho3597 a 9 (by omega)).trans ((ho3590 a 9 (by omega)).trans (ho3580 a 9 (by omega)))))))⟩, ⟨_, hv3626, by omega⟩, ?_, gr2, fun k j h1 h2 h3 h4 h5 => ((F3610 k j (by omega)).trans ((ho3608 k j (by omega)).trans ((ho3597 k j (by omega)).trans ((ho3590 k j (by omega)).trans ((ho3580 k j (by omega)).trans ((F3579 k j (by omega)).trans ((ho3522 k j (by omega)).trans ((F3462 k j (by omega) (by omega)).trans ((F3458 k j (by omega)).trans ((ho3457 k j (by omega)).trans (ho3454 k j (by omega))))))))))))⟩
        show ci_ _ 31 2 (dn + (if st = 2 then 1 else 0))
        rw [if_neg (by omega)]
        exact ⟨_, hv3637, by omega⟩
  ·
    refine y_same (i := .istore_n 3) (len := 1) (r := (0, 0, 0, 0)) (pc' := 42) (ls' := [some (.inl (some 28)), some (zi xf), some (.inl (some a)), some (zi y3458)]) (st' := []) (by decide +kernel) (fun k q => by cases q) rfl ?_
    refine y_same (i := .aload_n 2) (len := 1) (r := (0, 0, 0, 0)) (pc' := 43) (ls' := [some (.inl (some 28)), some (zi xf), some (.inl (some a)), some (zi y3458)]) (st' := [.inl (some a)]) (by decide +kernel) (fun k q => by cases q) rfl ?_
    refine y_same (i := .iload_n 3) (len := 1) (r := (0, 0, 0, 0)) (pc' := 44) (ls' := [some (.inl (some 28)), some (zi xf), some (.inl (some a)), some (zi y3458)]) (st' := [zi y3458, .inl (some a)]) (by decide +kernel) (fun k q => by cases q) rfl ?_
    refine y_iT (c := .eq) (off := 18) (pc' := 62) (len := 3) (r := (0, 0, 0, 0)) (by decide +kernel) (acmpT (c := .eq) (by show _ = _; omega)) (by decide +kernel) ?_
    refine y_ic (c := (-1)) (len := 1) (r := (0, 0, 0, 0)) (by decide +kernel) (by decide) (fun y3638 hy3638 => ?_)
    refine y_put (j := 137) (lo := (-2147483648)) (hi := 2147483647) (len := 3) (r := (7, 7, 0, 20551)) (by decide +kernel) Q3458.1 Q3458.2.1.1 aw1008 rfl rfl (by decide) rfl (qin_full _).1 (qin_full _).2 rfl (fun h3639 hg3639 hl3639 hs3639 ho3639 => ?_)
    have ho3639 : hO a 7 h3458 h3639 := ho3639
    have hs3639 : hsl h3639 a 7 = some (zi y3638) := hs3639
    have Q3639_a := QC_up Q3458 hg3639 (fun k j _ _ _ => ho3639 k j (by omega))
    refine y_same (i := .iload_n 3) (len := 1) (r := (0, 0, 0, 0)) (pc' := 67) (ls' := [some (.inl (some 28)), some (zi xf), some (.inl (some a)), some (zi y3458)]) (st' := [zi y3458]) (by decide +kernel) (fun k q => by cases q) rfl ?_
    refine y_iF (c := .ne) (off := 11) (len := 3) (r := (0, 0, 0, 0)) (by decide +kernel) (acmpF (c := .ne) (by show _ = _; omega)) ?_
    refine y_same (i := .aload_n 2) (len := 1) (r := (0, 0, 0, 0)) (pc' := 71) (ls' := [some (.inl (some 28)), some (zi xf), some (.inl (some a)), some (zi y3458)]) (st' := [.inl (some a)]) (by decide +kernel) (fun k q => by cases q) rfl ?_
    refine y_ic (c := 0) (len := 1) (r := (0, 0, 0, 0)) (by decide +kernel) (by decide) (fun y3640 hy3640 => ?_)
    refine y_put (j := 71) (lo := (-2147483648)) (hi := 2147483647) (len := 3) (r := (7, 4, 0, 20543)) (by decide +kernel) Q3639_a.1 Q3639_a.2.1.1 aw1008 rfl rfl (by decide) rfl (qin_full _).1 (qin_full _).2 rfl (fun h3641 hg3641 hl3641 hs3641 ho3641 => ?_)
    have ho3641 : hO a 4 h3639 h3641 := ho3641
    have hs3641 : hsl h3641 a 4 = some (zi y3640) := hs3641
    have Q3641_a := QC_up Q3639_a hg3641 (fun k j _ _ _ => ho3641 k j (by omega))
    refine y_goto (off := 42) (pc' := 117) (len := 3) (r := (0, 0, 0, 0)) (by decide +kernel) (by decide +kernel) ?_
    refine y_same (i := .aload_n 0) (len := 1) (r := (0, 0, 0, 0)) (pc' := 118) (ls' := [some (.inl (some 28)), some (zi xf), some (.inl (some a)), some (zi y3458)]) (st' := [.inl (some 28)]) (by decide +kernel) (fun k q => by cases q) rfl ?_
    refine y_same (i := .dup) (len := 1) (r := (0, 0, 0, 0)) (pc' := 119) (ls' := [some (.inl (some 28)), some (zi xf), some (.inl (some a)), some (zi y3458)]) (st' := [.inl (some 28), .inl (some 28)]) (by decide +kernel) (fun k q => by cases q) rfl ?_
    have hv3642 := (ho3454 28 6 (Or.inl (by omega))).trans hn
    have hv3643 := (ho3457 28 6 (Or.inl (by omega))).trans hv3642
    have hv3644 := (F3458 28 6 (by omega)).trans hv3643
    have hv3645 := (ho3639 28 6 (Or.inl (by omega))).trans hv3644
    have hv3646 := (ho3641 28 6 (Or.inl (by omega))).trans hv3645
    refine y_get (j := 35) (len := 3) (r := (4, 6, 0, 289)) (by decide +kernel) Q3641_a.1 (tv28 Q3641_a.1) aw28 rfl rfl hv3646 ?_
    refine y_ic (c := 1) (len := 1) (r := (0, 0, 0, 0)) (by decide +kernel) (by decide) (fun y3647 hy3647 => ?_)
    refine y_add (len := 1) (r := (0, 0, 0, 0)) (by decide +kernel) (by omega) (by omega) (fun y3648 hy3648 => ?_)
    refine y_put (j := 35) (lo := (-2147483648)) (hi := 2147483647) (len := 3) (r := (4, 6, 0, 289)) (by decide +kernel) Q3641_a.1 (tv28 Q3641_a.1) aw28 rfl rfl (by decide) rfl (qin_full _).1 (qin_full _).2 rfl (fun h3649 hg3649 hl3649 hs3649 ho3649 => ?_)
    have ho3649 : hO 28 6 h3641 h3649 := ho3649
    have hs3649 : hsl h3649 28 6 = some (zi y3648) := hs3649
    have Q3649_a := QC_up Q3641_a hg3649 (fun k j _ _ _ => ho3649 k j (by omega))
    refine y_same (i := .aload_n 2) (len := 1) (r := (0, 0, 0, 0)) (pc' := 128) (ls' := [some (.inl (some 28)), some (zi xf), some (.inl (some a)), some (zi y3458)]) (st' := [.inl (some a)]) (by decide +kernel) (fun k q => by cases q) rfl ?_
    have hv3650 := (ho3649 a 4 (Or.inl (by omega))).trans hs3641
    refine y_get (j := 71) (len := 3) (r := (7, 4, 0, 20543)) (by decide +kernel) Q3649_a.1 Q3649_a.2.1.1 aw1008 rfl rfl hv3650 ?_
    refine y_iF (c := .lt) (off := 25) (len := 3) (r := (0, 0, 0, 0)) (by decide +kernel) (acmpF (c := .lt) (by show _ ≤ _; omega)) ?_
    refine y_same (i := .aload_n 2) (len := 1) (r := (0, 0, 0, 0)) (pc' := 135) (ls' := [some (.inl (some 28)), some (zi xf), some (.inl (some a)), some (zi y3458)]) (st' := [.inl (some a)]) (by decide +kernel) (fun k q => by cases q) rfl ?_
    refine y_get (j := 71) (len := 3) (r := (7, 4, 0, 20543)) (by decide +kernel) Q3649_a.1 Q3649_a.2.1.1 aw1008 rfl rfl hv3650 ?_
    refine y_bi (c := 9) (len := 2) (r := (0, 0, 0, 0)) (by decide +kernel) (by decide) (fun y3651 hy3651 => ?_)
    refine y_cF (c := .gt) (off := 16) (len := 3) (r := (0, 0, 0, 0)) (by decide +kernel) (acmpF (c := .gt) (by show _ ≤ _; omega)) ?_
    refine y_same (i := .aload_n 0) (len := 1) (r := (0, 0, 0, 0)) (pc' := 144) (ls' := [some (.inl (some 28)), some (zi xf), some (.inl (some a)), some (zi y3458)]) (st' := [.inl (some 28)]) (by decide +kernel) (fun k q => by cases q) rfl ?_
    refine y_get (j := 21) (len := 3) (r := (4, 3, 2, 285)) (by decide +kernel) Q3649_a.1 (tv28 Q3649_a.1) aw28 rfl rfl (g_rU (f := 3) (T2 := 31) Q3649_a.1 (tv28 Q3649_a.1) aw28 rfl (by decide)) ?_
    refine y_same (i := .aload_n 2) (len := 1) (r := (0, 0, 0, 0)) (pc' := 148) (ls' := [some (.inl (some 28)), some (zi xf), some (.inl (some a)), some (zi y3458)]) (st' := [.inl (some a), .inl (some 31)]) (by decide +kernel) (fun k q => by cases q) rfl ?_
    refine y_get (j := 71) (len := 3) (r := (7, 4, 0, 20543)) (by decide +kernel) Q3649_a.1 Q3649_a.2.1.1 aw1008 rfl rfl hv3650 ?_
    refine y_same (i := .dup2) (len := 1) (r := (0, 0, 0, 0)) (pc' := 152) (ls' := [some (.inl (some 28)), some (zi xf), some (.inl (some a)), some (zi y3458)]) (st' := [zi y3640, .inl (some 31), zi y3640, .inl (some 31)]) (by decide +kernel) (fun k q => by cases q) rfl ?_
    obtain ⟨v3652, hv3653, lv3652, uv3652⟩ := g_int (i := 0) Q3649_a.1 (tv31 Q3649_a.1) aw31 (show 0 < 10 by omega) (sr1 (by omega))
    refine y_ial (i := 0) (len := 1) (r := (0, 0, 0, 0)) (by decide +kernel) Q3649_a.1 (tv31 Q3649_a.1) aw31 (by omega) hv3653 ?_
    refine y_ic (c := 1) (len := 1) (r := (0, 0, 0, 0)) (by decide +kernel) (by decide) (fun y3654 hy3654 => ?_)
    refine y_bp (i := .iadd) (f := fun x y => x + y) (len := 1) (r := (0, 0, 0, 0)) (by decide +kernel) rfl rfl (fun y3655 hy3655 => ?_)
    refine y_ias (i := 0) (len := 1) (r := (0, 0, 0, 0)) (by decide +kernel) Q3649_a.1 (tv31 Q3649_a.1) aw31 rfl (by omega) (by omega) (sr1 (by omega)) (qin_full _).1 (qin_full _).2 (fun h3656 hg3656 hl3656 hs3656 ho3656 => ?_)
    have Q3656_a := QC_up Q3649_a hg3656 (fun k j _ _ _ => ho3656 k j (by omega))
    refine y_same (i := .aload_n 0) (len := 1) (r := (0, 0, 0, 0)) (pc' := 157) (ls' := [some (.inl (some 28)), some (zi xf), some (.inl (some a)), some (zi y3458)]) (st' := [.inl (some 28)]) (by decide +kernel) (fun k q => by cases q) rfl ?_
    refine y_same (i := .aload_n 0) (len := 1) (r := (0, 0, 0, 0)) (pc' := 158) (ls' := [some (.inl (some 28)), some (zi xf), some (.inl (some a)), some (zi y3458)]) (st' := [.inl (some 28), .inl (some 28)]) (by decide +kernel) (fun k q => by cases q) rfl ?_
    obtain ⟨v3657, hv3658, lv3657, uv3657⟩ := g_int (i := 9) (lo := (-2147483648)) (hi := 2147483647) Q3656_a.1 (tv28 Q3656_a.1) aw28 (by decide) rfl
    refine y_get (j := 45) (len := 3) (r := (4, 9, 0, 294)) (by decide +kernel) Q3656_a.1 (tv28 Q3656_a.1) aw28 rfl rfl hv3658 ?_
    refine y_same (i := .aload_n 2) (len := 1) (r := (0, 0, 0, 0)) (pc' := 162) (ls' := [some (.inl (some 28)), some (zi xf), some (.inl (some a)), some (zi y3458)]) (st' := [.inl (some a), zi v3657, .inl (some 28)]) (by decide +kernel) (fun k q => by cases q) rfl ?_
    have hv3659 := (F3458 a 6 (by omega)).trans hs3457
    have hv3660 := (ho3639 a 6 (Or.inr (by omega))).trans hv3659
    have hv3661 := (ho3641 a 6 (Or.inr (by omega))).trans hv3660
    have hv3662 := (ho3649 a 6 (Or.inl (by omega))).trans hv3661
    have hv3663 := (ho3656 a 6 (Or.inl (by omega))).trans hv3662
    refine y_get (j := 110) (len := 3) (r := (7, 6, 0, 20549)) (by decide +kernel) Q3656_a.1 Q3656_a.2.1.1 aw1008 rfl rfl hv3663 ?_
    refine y_cI (i := .invokestatic 63) (len := 3) (r := (1, 266, 60, 510)) (nL := 2) (k := 1) (n := 2) (hs := []) (args := [zi v3657, zi y3456]) (rest := [.inl (some 28)]) (l0 := [some (zi v3657), some (zi y3456)]) (by decide +kernel) (Or.inl ⟨_, rfl⟩) rfl rfl rfl rfl (Nat.le_of_ble_eq_true rfl) rfl rfl (qI_le (by omega) (e_jmax (d := 0))) (fun y3664 qy3664 hRy3664 => ?_)
    obtain ⟨rfl, my3664, wy3664⟩ := hRy3664
    refine y_put (j := 45) (lo := (-2147483648)) (hi := 2147483647) (len := 3) (r := (4, 9, 0, 294)) (by decide +kernel) Q3656_a.1 (tv28 Q3656_a.1) aw28 rfl rfl (by decide) rfl (qin_full _).1 (qin_full _).2 rfl (fun h3665 hg3665 hl3665 hs3665 ho3665 => ?_)
    have ho3665 : hO 28 9 h3656 h3665 := ho3665
    have hs3665 : hsl h3665 28 9 = some (zi y3664) := hs3665
    have Q3665_a := QC_up Q3656_a hg3665 (fun k j _ _ _ => ho3665 k j (by omega))
    refine y_same (i := .aload_n 0) (len := 1) (r := (0, 0, 0, 0)) (pc' := 172) (ls' := [some (.inl (some 28)), some (zi xf), some (.inl (some a)), some (zi y3458)]) (st' := [.inl (some 28)]) (by decide +kernel) (fun k q => by cases q) rfl ?_
    refine y_same (i := .aload_n 2) (len := 1) (r := (0, 0, 0, 0)) (pc' := 173) (ls' := [some (.inl (some 28)), some (zi xf), some (.inl (some a)), some (zi y3458)]) (st' := [.inl (some a), .inl (some 28)]) (by decide +kernel) (fun k q => by cases q) rfl ?_
    refine y_cI (i := .invokevirtual 147) (len := 3) (r := (0, 82, 7, 751)) (nL := 1) (k := 1) (n := 1) (hs := []) (args := [.inl (some a)]) (rest := [.inl (some 28)]) (l0 := [some (.inl (some a))]) (by decide +kernel) (Or.inr (Or.inl ⟨_, rfl⟩)) rfl rfl rfl rfl (Nat.le_of_ble_eq_true rfl) (zO Q3665_a.1 Q3665_a.2.1.1 aw1008 rfl) rfl (qI_le (by omega) (q_mns (d := 0) Q3665_a)) (fun y3666 qy3666 hRy3666 => ?_)
    obtain ⟨rfl, ty3666⟩ := hRy3666
    have gr3667 : gR h3665 28 := by obtain ⟨x9, a9, b9⟩ := gr; exact ⟨x9, (((ho3665 28 10 (by omega)).trans ((ho3656 28 10 (by omega)).trans ((ho3649 28 10 (by omega)).trans ((ho3641 28 10 (by omega)).trans ((ho3639 28 10 (by omega)).trans ((F3458 28 10 (by omega)).trans ((ho3457 28 10 (by omega)).trans (ho3454 28 10 (by omega)))))))))).trans a9, b9⟩
    refine y_cV (i := .invokevirtual 150) (len := 3) (r := (0, 43, 4, 759)) (nL := 3) (k := 0) (n := 2) (hs := []) (args := [.inl (some 28), zi y3666]) (rest := []) (l0 := [some (.inl (some 28)), some (zi y3666), none]) (by decide +kernel) (Or.inr (Or.inl ⟨_, rfl⟩)) rfl rfl rfl rfl (Nat.le_of_ble_eq_true rfl) (zO Q3665_a.1 (tv28 Q3665_a.1) aw28 rfl) rfl (qV_le (by omega) (e_ng28 (d := 0) Q3665_a.1 gr3667)) (fun h3667 hR3667 => ?_)
    obtain ⟨hg3667, gr2, F3667⟩ := hR3667
    have Q3667 := QC_up Q3665_a hg3667 (fun k j _ _ _ => F3667 k j (by omega))
    refine y_rV (len := 1) (r := (0, 0, 0, 0)) (nL := 4) (n9 := 2) (hs := []) (by decide +kernel) rfl ?_
    have hv3668 := (ho3656 a 4 (Or.inl (by omega))).trans hv3650
    have hv3669 := (ho3665 a 4 (Or.inl (by omega))).trans hv3668
    have hv3670 := (F3667 a 4 (by omega)).trans hv3669
    have hv3671 := (ho3457 a 5 (Or.inr (by omega))).trans hs3454
    have hv3672 := (F3458 a 5 (by omega)).trans hv3671
    have hv3673 := (ho3639 a 5 (Or.inr (by omega))).trans hv3672
    have hv3674 := (ho3641 a 5 (Or.inr (by omega))).trans hv3673
    have hv3675 := (ho3649 a 5 (Or.inl (by omega))).trans hv3674
    have hv3676 := (ho3656 a 5 (Or.inl (by omega))).trans hv3675
    have hv3677 := (ho3665 a 5 (Or.inl (by omega))).trans hv3676
    have hv3678 := (F3667 a 5 (by omega)).trans hv3677
    have hv3679 := (ho3665 a 6 (Or.inl (by omega))).trans hv3663
    have hv3680 := (F3667 a 6 (by omega)).trans hv3679
    have hv3681 := (ho3656 28 6 (Or.inl (by omega))).trans hs3649
    have hv3682 := (ho3665 28 6 (Or.inr (by omega))).trans hv3681
    have hv3683 := (F3667 28 6 (by omega)).trans hv3682
    have hv3684 := (ho3454 31 2 (Or.inl (by omega))).trans hd2
    have hv3685 := (ho3457 31 2 (Or.inl (by omega))).trans hv3684
    have hv3686 := (F3458 31 2 (by omega)).trans hv3685
    have hv3687 := (ho3639 31 2 (Or.inl (by omega))).trans hv3686
    have hv3688 := (ho3641 31 2 (Or.inl (by omega))).trans hv3687
    have hv3689 := (ho3649 31 2 (Or.inl (by omega))).trans hv3688
    have hv3690 := (ho3656 31 2 (Or.inr (by omega))).trans hv3689
    have hv3691 := (ho3665 31 2 (Or.inl (by omega))).trans hv3690
    have hv3692 := (F3667 31 2 (by omega)).trans hv3691
    refine ⟨(s9, 0, 0, 0, 1, -1), ⟨rfl, rfl, Or.inl ⟨ry3458, rfl⟩⟩, hg3667, ⟨a, (rfs_up ra (((F3667 29 n (by omega)).trans ((ho3665 29 n (by omega)).trans ((ho3656 29 n (by omega)).trans ((ho3649 29 n (by omega)).trans ((ho3641 29 n (by omega)).trans ((ho3639 29 n (by omega)).trans ((F3458 29 n (by omega)).trans ((ho3457 29 n (by omega)).trans (ho3454 29 n (by omega)))))))))))), ha, LQ_of Q3667, ⟨_, hv3670, by show _ = ((0 : Nat) : Int); omega⟩, ⟨_, hv3680, by show _ = ((1 : Nat) : Int); omega⟩, ⟨_, hv3678, by show _ = (-1 : Int); omega⟩, fun q => absurd rfl q, fun q => absurd q (by show ¬ 3 ≤ 0; omega), fun q => absurd q (by show ¬ 3 ≤ 0; omega)⟩, ⟨_, hv3683, by omega⟩, ?_, gr2, fun k j h1 h2 h3 h4 h5 => ((F3667 k j (by omega)).trans ((ho3665 k j (by omega)).trans ((ho3656 k j (by omega)).trans ((ho3649 k j (by omega)).trans ((ho3641 k j (by omega)).trans ((ho3639 k j (by omega)).trans ((F3458 k j (by omega)).trans ((ho3457 k j (by omega)).trans (ho3454 k j (by omega))))))))))⟩
    show ci_ _ 31 2 (dn + (if 0 = 2 then 1 else 0))
    rw [if_neg (by omega)]
    exact ⟨_, hv3692, by omega⟩
theorem e_set28n {d t n a dn i b row : Nat} {τ : List Nat} {h : zh} {s : sqT} {L : List enT} {xf : Int32} (ha : 388 < a) (Q : QC τ h a s) (nb : ¬ big_ s) (ra : rfs h 29 n a) (hn9 : n < 300) (cn : ci_ h 28 6 n) (ml : kx_ h 28 0 0) (gr : gR h 28) (cd : ci_ h 31 2 dn) (hdn : dn ≤ 300) (exf : xf.toInt = (i : Int)) {ei : enT} (ke : L[i]? = some ei) (h3 : 3 ≤ ei.2.1) (h8 : ei.2.1 ≤ 8) (hi : i < n) (rb : rfs h 29 i b) (hb : 388 < b) (tb : τ[b]? = some 1008) (cr : ci_ h b 6 row) (hrow : row ≤ 39) (ne : b + 9 ≤ a ∨ a + 9 ≤ b) (cm : cmI h 29) (hnL : L.length = n) (pE : ∀ (k : Nat) (e : enT), L[k]? = some e → prE τ h 29 k e) (wl : ∀ e ∈ L, wfE e) (ch : chI L) : qV (d + 10) 42 [some (.inl (some 28)), some (zi xf), none, none] h t (fun h1 => ∃ e, setR (cyP L (i : Int)) false s (i : Int) (row + 1) e ∧ hG τ h1 ∧ prE τ h1 29 n e ∧ ci_ h1 28 6 (n + 1) ∧ ci_ h1 31 2 (dn + (if e.2.1 = 2 then 1 else 0)) ∧ gR h1 28 ∧ ∀ k j, (k < a ∨ a + 9 ≤ k) → (k ≠ 28 ∨ (j ≠ 6 ∧ j ≠ 9 ∧ j ≠ 10)) → k ≠ 31 → k ≠ 33 → k ≠ 34 → hsl h1 k j = hsl h k j) := by
  obtain ⟨xn, hn, en⟩ := cn
  obtain ⟨xm, hml, eml⟩ := ml
  obtain ⟨xd, hd2, ed⟩ := cd
  obtain ⟨xr, hrw, er⟩ := cr
  have hg := Q.1
  refine qV_of ?_
  refine y_same (i := .aload_n 0) (len := 1) (r := (0, 0, 0, 0)) (pc' := 1) (ls' := [some (.inl (some 28)), some (zi xf), none, none]) (st' := [.inl (some 28)]) (by decide +kernel) (fun k q => by cases q) rfl ?_
  refine y_same (i := .aload_n 0) (len := 1) (r := (0, 0, 0, 0)) (pc' := 2) (ls' := [some (.inl (some 28)), some (zi xf), none, none]) (st' := [.inl (some 28), .inl (some 28)]) (by decide +kernel) (fun k q => by cases q) rfl ?_
  refine y_get (j := 35) (len := 3) (r := (4, 6, 0, 289)) (by decide +kernel) Q.1 (tv28 Q.1) aw28 rfl rfl hn ?_
  refine y_cA (i := .invokevirtual 67) (len := 3) (r := (0, 33, 4, 505)) (nL := 3) (k := 3) (n := 2) (hs := []) (args := [.inl (some 28), zi xn]) (rest := []) (l0 := [some (.inl (some 28)), some (zi xn), none]) (by decide +kernel) (Or.inr (Or.inl ⟨_, rfl⟩)) rfl rfl rfl rfl (Nat.le_of_ble_eq_true rfl) (zO Q.1 (tv28 Q.1) aw28 rfl) rfl (qA_le (by omega) (e_slo28 (d := 0) (k := n) Q.1 (by omega) (by omega) (ra))) (fun h3693 hR3693 => ?_)
  obtain rfl := hR3693
  refine y_same (i := .astore_n 2) (len := 1) (r := (0, 0, 0, 0)) (pc' := 9) (ls' := [some (.inl (some 28)), some (zi xf), some (.inl (some a)), none]) (st' := []) (by decide +kernel) (fun k q => by cases q) rfl ?_
  refine y_same (i := .aload_n 2) (len := 1) (r := (0, 0, 0, 0)) (pc' := 10) (ls' := [some (.inl (some 28)), some (zi xf), some (.inl (some a)), none]) (st' := [.inl (some a)]) (by decide +kernel) (fun k q => by cases q) rfl ?_
  refine y_same (i := .iload_n 1) (len := 1) (r := (0, 0, 0, 0)) (pc' := 11) (ls' := [some (.inl (some 28)), some (zi xf), some (.inl (some a)), none]) (st' := [zi xf, .inl (some a)]) (by decide +kernel) (fun k q => by cases q) rfl ?_
  refine y_put (j := 127) (lo := (-2147483648)) (hi := 2147483647) (len := 3) (r := (7, 5, 0, 20546)) (by decide +kernel) Q.1 Q.2.1.1 aw1008 rfl rfl (by decide) rfl (qin_full _).1 (qin_full _).2 rfl (fun h3694 hg3694 hl3694 hs3694 ho3694 => ?_)
  have ho3694 : hO a 5 h h3694 := ho3694
  have hs3694 : hsl h3694 a 5 = some (zi xf) := hs3694
  have Q3694_a := QC_up Q hg3694 (fun k j _ _ _ => ho3694 k j (by omega))
  refine y_same (i := .aload_n 2) (len := 1) (r := (0, 0, 0, 0)) (pc' := 15) (ls' := [some (.inl (some 28)), some (zi xf), some (.inl (some a)), none]) (st' := [.inl (some a)]) (by decide +kernel) (fun k q => by cases q) rfl ?_
  refine y_same (i := .iload_n 1) (len := 1) (r := (0, 0, 0, 0)) (pc' := 16) (ls' := [some (.inl (some 28)), some (zi xf), some (.inl (some a)), none]) (st' := [zi xf, .inl (some a)]) (by decide +kernel) (fun k q => by cases q) rfl ?_
  refine y_ic (c := (-1)) (len := 1) (r := (0, 0, 0, 0)) (by decide +kernel) (by decide) (fun y3695 hy3695 => ?_)
  refine y_cT (c := .ne) (off := 7) (pc' := 24) (len := 3) (r := (0, 0, 0, 0)) (by decide +kernel) (acmpT (c := .ne) (by show ¬ (_ = _); omega)) (by decide +kernel) ?_
  refine y_same (i := .aload_n 0) (len := 1) (r := (0, 0, 0, 0)) (pc' := 25) (ls' := [some (.inl (some 28)), some (zi xf), some (.inl (some a)), none]) (st' := [.inl (some 28), .inl (some a)]) (by decide +kernel) (fun k q => by cases q) rfl ?_
  refine y_same (i := .iload_n 1) (len := 1) (r := (0, 0, 0, 0)) (pc' := 26) (ls' := [some (.inl (some 28)), some (zi xf), some (.inl (some a)), none]) (st' := [zi xf, .inl (some 28), .inl (some a)]) (by decide +kernel) (fun k q => by cases q) rfl ?_
  refine y_cA (i := .invokevirtual 67) (len := 3) (r := (0, 33, 4, 505)) (nL := 3) (k := 3) (n := 2) (hs := []) (args := [.inl (some 28), zi xf]) (rest := [.inl (some a)]) (l0 := [some (.inl (some 28)), some (zi xf), none]) (by decide +kernel) (Or.inr (Or.inl ⟨_, rfl⟩)) rfl rfl rfl rfl (Nat.le_of_ble_eq_true rfl) (zO Q3694_a.1 (tv28 Q3694_a.1) aw28 rfl) rfl (qA_le (by omega) (e_slo28 (d := 0) (k := i) Q3694_a.1 (by omega) (by omega) (((ho3694 29 i (by omega))).trans rb))) (fun h3696 hR3696 => ?_)
  obtain rfl := hR3696
  have hv3697 := (ho3694 b 6 (Or.inl (by omega))).trans hrw
  refine y_get (j := 110) (len := 3) (r := (7, 6, 0, 20549)) (by decide +kernel) Q3694_a.1 tb aw1008 rfl rfl hv3697 ?_
  refine y_ic (c := 1) (len := 1) (r := (0, 0, 0, 0)) (by decide +kernel) (by decide) (fun y3698 hy3698 => ?_)
  refine y_add (len := 1) (r := (0, 0, 0, 0)) (by decide +kernel) (by omega) (by omega) (fun y3699 hy3699 => ?_)
  refine y_put (j := 110) (lo := (-2147483648)) (hi := 2147483647) (len := 3) (r := (7, 6, 0, 20549)) (by decide +kernel) Q3694_a.1 Q3694_a.2.1.1 aw1008 rfl rfl (by decide) rfl (qin_full _).1 (qin_full _).2 rfl (fun h3700 hg3700 hl3700 hs3700 ho3700 => ?_)
  have ho3700 : hO a 6 h3694 h3700 := ho3700
  have hs3700 : hsl h3700 a 6 = some (zi y3699) := hs3700
  have Q3700_a := QC_up Q3694_a hg3700 (fun k j _ _ _ => ho3700 k j (by omega))
  refine y_same (i := .aload_n 2) (len := 1) (r := (0, 0, 0, 0)) (pc' := 38) (ls' := [some (.inl (some 28)), some (zi xf), some (.inl (some a)), none]) (st' := [.inl (some a)]) (by decide +kernel) (fun k q => by cases q) rfl ?_
  refine y_cI (i := .invokevirtual 130) (len := 3) (r := (0, 84, 7, 635)) (nL := 3) (k := 2) (n := 1) (hs := []) (args := [.inl (some a)]) (rest := []) (l0 := [some (.inl (some a)), none, none]) (by decide +kernel) (Or.inr (Or.inl ⟨_, rfl⟩)) rfl rfl rfl rfl (Nat.le_of_ble_eq_true rfl) (zO Q3700_a.1 Q3700_a.2.1.1 aw1008 rfl) rfl (qI_le (by omega) (q_rdy (d := 0) Q3700_a (mq_b Q3700_a.2.2.2.2 nb))) (fun y3701 h3701 hRy3701 => ?_)
  obtain ⟨s9, Q3701, F3701, hDy3701⟩ := hRy3701
  rcases hDy3701 with ⟨vy3701, ry3701⟩ | ⟨vy3701, ry3701⟩
  ·
    refine y_same (i := .istore_n 3) (len := 1) (r := (0, 0, 0, 0)) (pc' := 42) (ls' := [some (.inl (some 28)), some (zi xf), some (.inl (some a)), some (zi y3701)]) (st' := []) (by decide +kernel) (fun k q => by cases q) rfl ?_
    refine y_same (i := .aload_n 2) (len := 1) (r := (0, 0, 0, 0)) (pc' := 43) (ls' := [some (.inl (some 28)), some (zi xf), some (.inl (some a)), some (zi y3701)]) (st' := [.inl (some a)]) (by decide +kernel) (fun k q => by cases q) rfl ?_
    refine y_same (i := .iload_n 3) (len := 1) (r := (0, 0, 0, 0)) (pc' := 44) (ls' := [some (.inl (some 28)), some (zi xf), some (.inl (some a)), some (zi y3701)]) (st' := [zi y3701, .inl (some a)]) (by decide +kernel) (fun k q => by cases q) rfl ?_
    refine y_iF (c := .eq) (off := 18) (len := 3) (r := (0, 0, 0, 0)) (by decide +kernel) (acmpF (c := .eq) (by show ¬ (_ = _); omega)) ?_
    refine y_same (i := .aload_n 0) (len := 1) (r := (0, 0, 0, 0)) (pc' := 48) (ls' := [some (.inl (some 28)), some (zi xf), some (.inl (some a)), some (zi y3701)]) (st' := [.inl (some 28), .inl (some a)]) (by decide +kernel) (fun k q => by cases q) rfl ?_
    have hv3702 := (ho3694 28 0 (Or.inl (by omega))).trans hml
    have hv3703 := (ho3700 28 0 (Or.inl (by omega))).trans hv3702
    have hv3704 := (F3701 28 0 (by omega)).trans hv3703
    refine y_get (j := 54) (len := 3) (r := (4, 0, 1, 282)) (by decide +kernel) Q3701.1 (tv28 Q3701.1) aw28 rfl rfl hv3704 ?_
    refine y_iF (c := .ne) (off := 11) (len := 3) (r := (0, 0, 0, 0)) (by decide +kernel) (acmpF (c := .ne) (by show _ = _; omega)) ?_
    refine y_same (i := .aload_n 0) (len := 1) (r := (0, 0, 0, 0)) (pc' := 55) (ls' := [some (.inl (some 28)), some (zi xf), some (.inl (some a)), some (zi y3701)]) (st' := [.inl (some 28), .inl (some a)]) (by decide +kernel) (fun k q => by cases q) rfl ?_
    refine y_same (i := .aload_n 2) (len := 1) (r := (0, 0, 0, 0)) (pc' := 56) (ls' := [some (.inl (some 28)), some (zi xf), some (.inl (some a)), some (zi y3701)]) (st' := [.inl (some a), .inl (some 28), .inl (some a)]) (by decide +kernel) (fun k q => by cases q) rfl ?_
    have FE3705 : ∀ (k9 : Nat) (e9 : enT), L[k9]? = some e9 → prE τ h3701 29 k9 e9 := fun k9 e9 hk9 => prE_up (pE k9 e9 hk9) (aup_refl _) Q3701.1 (fun a9 r9 g9 t9 k j hC => by
      have l9 := (List.getElem?_eq_some_iff.mp hk9).1
      have n9 : a9 ≠ a := fun e7 => by
        subst e7
        have e6 := cm.2 k9 n _ (by omega) (by omega) r9 ra
        omega
      have d9 := dis_Q t9 Q.2.1 n9
      rcases hC with ⟨q1, q2⟩ | ⟨h1, h2⟩
      · rw [q1, q2]
        exact ((F3701 29 k9 (by omega)).trans ((ho3700 29 k9 (by omega)).trans (ho3694 29 k9 (by omega))))
      · exact ((F3701 k j (by omega)).trans ((ho3700 k j (by omega)).trans (ho3694 k j (by omega)))))
    have hv3706 := (ho3700 a 5 (Or.inr (by omega))).trans hs3694
    have hv3707 := (F3701 a 5 (by omega)).trans hv3706
    refine y_cI (i := .invokevirtual 133) (len := 3) (r := (0, 44, 4, 710)) (nL := 6) (k := 1) (n := 2) (hs := []) (args := [.inl (some 28), .inl (some a)]) (rest := [.inl (some a)]) (l0 := [some (.inl (some 28)), some (.inl (some a)), none, none, none, none]) (by decide +kernel) (Or.inr (Or.inl ⟨_, rfl⟩)) rfl rfl rfl rfl (Nat.le_of_ble_eq_true rfl) (zO Q3701.1 (tv28 Q3701.1) aw28 rfl) rfl (qI_le (by omega) (e_fal (d := 0) (L := L) (i := (i : Int)) ha Q3701 FE3705 (by omega) wl ch ⟨_, hv3707, by omega⟩ (Or.inr ⟨i, ei, rfl, ke, h3, h8⟩))) (fun y3705 h3705 hRy3705 => ?_)
    obtain ⟨hg3705, F3705, hDy3705⟩ := hRy3705
    have Q3705_a := QC_up Q3701 hg3705 (fun k j _ _ _ => F3705 k j (by omega) (by omega))
    rcases hDy3705 with ⟨vy3705, by3705⟩ | ⟨vy3705, by3705⟩
    ·
      refine y_goto (off := 4) (pc' := 63) (len := 3) (r := (0, 0, 0, 0)) (by decide +kernel) (by decide +kernel) ?_
      refine y_put (j := 137) (lo := (-2147483648)) (hi := 2147483647) (len := 3) (r := (7, 7, 0, 20551)) (by decide +kernel) hg3705 Q3705_a.2.1.1 aw1008 rfl rfl (by decide) rfl (qin_full _).1 (qin_full _).2 rfl (fun h3708 hg3708 hl3708 hs3708 ho3708 => ?_)
      have ho3708 : hO a 7 h3705 h3708 := ho3708
      have hs3708 : hsl h3708 a 7 = some (zi y3705) := hs3708
      have Q3708_a := QC_up Q3705_a hg3708 (fun k j _ _ _ => ho3708 k j (by omega))
      refine y_same (i := .iload_n 3) (len := 1) (r := (0, 0, 0, 0)) (pc' := 67) (ls' := [some (.inl (some 28)), some (zi xf), some (.inl (some a)), some (zi y3701)]) (st' := [zi y3701]) (by decide +kernel) (fun k q => by cases q) rfl ?_
      refine y_iT (c := .ne) (off := 11) (pc' := 78) (len := 3) (r := (0, 0, 0, 0)) (by decide +kernel) (acmpT (c := .ne) (by show ¬ (_ = _); omega)) (by decide +kernel) ?_
      refine y_same (i := .aload_n 2) (len := 1) (r := (0, 0, 0, 0)) (pc' := 79) (ls' := [some (.inl (some 28)), some (zi xf), some (.inl (some a)), some (zi y3701)]) (st' := [.inl (some a)]) (by decide +kernel) (fun k q => by cases q) rfl ?_
      refine y_get (j := 137) (len := 3) (r := (7, 7, 0, 20551)) (by decide +kernel) Q3708_a.1 Q3708_a.2.1.1 aw1008 rfl rfl hs3708 ?_
      refine y_ic (c := (-1)) (len := 1) (r := (0, 0, 0, 0)) (by decide +kernel) (by decide) (fun y3709 hy3709 => ?_)
      refine y_cF (c := .eq) (off := 11) (len := 3) (r := (0, 0, 0, 0)) (by decide +kernel) (acmpF (c := .eq) (by show ¬ (_ = _); omega)) ?_
      refine y_same (i := .aload_n 2) (len := 1) (r := (0, 0, 0, 0)) (pc' := 87) (ls' := [some (.inl (some 28)), some (zi xf), some (.inl (some a)), some (zi y3701)]) (st' := [.inl (some a)]) (by decide +kernel) (fun k q => by cases q) rfl ?_
      refine y_ic (c := 1) (len := 1) (r := (0, 0, 0, 0)) (by decide +kernel) (by decide) (fun y3710 hy3710 => ?_)
      refine y_put (j := 71) (lo := (-2147483648)) (hi := 2147483647) (len := 3) (r := (7, 4, 0, 20543)) (by decide +kernel) Q3708_a.1 Q3708_a.2.1.1 aw1008 rfl rfl (by decide) rfl (qin_full _).1 (qin_full _).2 rfl (fun h3711 hg3711 hl3711 hs3711 ho3711 => ?_)
      have ho3711 : hO a 4 h3708 h3711 := ho3711
      have hs3711 : hsl h3711 a 4 = some (zi y3710) := hs3711
      have Q3711_a := QC_up Q3708_a hg3711 (fun k j _ _ _ => ho3711 k j (by omega))
      refine y_goto (off := 26) (pc' := 117) (len := 3) (r := (0, 0, 0, 0)) (by decide +kernel) (by decide +kernel) ?_
      refine y_same (i := .aload_n 0) (len := 1) (r := (0, 0, 0, 0)) (pc' := 118) (ls' := [some (.inl (some 28)), some (zi xf), some (.inl (some a)), some (zi y3701)]) (st' := [.inl (some 28)]) (by decide +kernel) (fun k q => by cases q) rfl ?_
      refine y_same (i := .dup) (len := 1) (r := (0, 0, 0, 0)) (pc' := 119) (ls' := [some (.inl (some 28)), some (zi xf), some (.inl (some a)), some (zi y3701)]) (st' := [.inl (some 28), .inl (some 28)]) (by decide +kernel) (fun k q => by cases q) rfl ?_
      have hv3712 := (ho3694 28 6 (Or.inl (by omega))).trans hn
      have hv3713 := (ho3700 28 6 (Or.inl (by omega))).trans hv3712
      have hv3714 := (F3701 28 6 (by omega)).trans hv3713
      have hv3715 := (F3705 28 6 (by omega) (by omega)).trans hv3714
      have hv3716 := (ho3708 28 6 (Or.inl (by omega))).trans hv3715
      have hv3717 := (ho3711 28 6 (Or.inl (by omega))).trans hv3716
      refine y_get (j := 35) (len := 3) (r := (4, 6, 0, 289)) (by decide +kernel) Q3711_a.1 (tv28 Q3711_a.1) aw28 rfl rfl hv3717 ?_
      refine y_ic (c := 1) (len := 1) (r := (0, 0, 0, 0)) (by decide +kernel) (by decide) (fun y3718 hy3718 => ?_)
      refine y_add (len := 1) (r := (0, 0, 0, 0)) (by decide +kernel) (by omega) (by omega) (fun y3719 hy3719 => ?_)
      refine y_put (j := 35) (lo := (-2147483648)) (hi := 2147483647) (len := 3) (r := (4, 6, 0, 289)) (by decide +kernel) Q3711_a.1 (tv28 Q3711_a.1) aw28 rfl rfl (by decide) rfl (qin_full _).1 (qin_full _).2 rfl (fun h3720 hg3720 hl3720 hs3720 ho3720 => ?_)
      have ho3720 : hO 28 6 h3711 h3720 := ho3720
      have hs3720 : hsl h3720 28 6 = some (zi y3719) := hs3720
      have Q3720_a := QC_up Q3711_a hg3720 (fun k j _ _ _ => ho3720 k j (by omega))
      refine y_same (i := .aload_n 2) (len := 1) (r := (0, 0, 0, 0)) (pc' := 128) (ls' := [some (.inl (some 28)), some (zi xf), some (.inl (some a)), some (zi y3701)]) (st' := [.inl (some a)]) (by decide +kernel) (fun k q => by cases q) rfl ?_
      have hv3721 := (ho3720 a 4 (Or.inl (by omega))).trans hs3711
      refine y_get (j := 71) (len := 3) (r := (7, 4, 0, 20543)) (by decide +kernel) Q3720_a.1 Q3720_a.2.1.1 aw1008 rfl rfl hv3721 ?_
      refine y_iF (c := .lt) (off := 25) (len := 3) (r := (0, 0, 0, 0)) (by decide +kernel) (acmpF (c := .lt) (by show _ ≤ _; omega)) ?_
      refine y_same (i := .aload_n 2) (len := 1) (r := (0, 0, 0, 0)) (pc' := 135) (ls' := [some (.inl (some 28)), some (zi xf), some (.inl (some a)), some (zi y3701)]) (st' := [.inl (some a)]) (by decide +kernel) (fun k q => by cases q) rfl ?_
      refine y_get (j := 71) (len := 3) (r := (7, 4, 0, 20543)) (by decide +kernel) Q3720_a.1 Q3720_a.2.1.1 aw1008 rfl rfl hv3721 ?_
      refine y_bi (c := 9) (len := 2) (r := (0, 0, 0, 0)) (by decide +kernel) (by decide) (fun y3722 hy3722 => ?_)
      refine y_cF (c := .gt) (off := 16) (len := 3) (r := (0, 0, 0, 0)) (by decide +kernel) (acmpF (c := .gt) (by show _ ≤ _; omega)) ?_
      refine y_same (i := .aload_n 0) (len := 1) (r := (0, 0, 0, 0)) (pc' := 144) (ls' := [some (.inl (some 28)), some (zi xf), some (.inl (some a)), some (zi y3701)]) (st' := [.inl (some 28)]) (by decide +kernel) (fun k q => by cases q) rfl ?_
      refine y_get (j := 21) (len := 3) (r := (4, 3, 2, 285)) (by decide +kernel) Q3720_a.1 (tv28 Q3720_a.1) aw28 rfl rfl (g_rU (f := 3) (T2 := 31) Q3720_a.1 (tv28 Q3720_a.1) aw28 rfl (by decide)) ?_
      refine y_same (i := .aload_n 2) (len := 1) (r := (0, 0, 0, 0)) (pc' := 148) (ls' := [some (.inl (some 28)), some (zi xf), some (.inl (some a)), some (zi y3701)]) (st' := [.inl (some a), .inl (some 31)]) (by decide +kernel) (fun k q => by cases q) rfl ?_
      refine y_get (j := 71) (len := 3) (r := (7, 4, 0, 20543)) (by decide +kernel) Q3720_a.1 Q3720_a.2.1.1 aw1008 rfl rfl hv3721 ?_
      refine y_same (i := .dup2) (len := 1) (r := (0, 0, 0, 0)) (pc' := 152) (ls' := [some (.inl (some 28)), some (zi xf), some (.inl (some a)), some (zi y3701)]) (st' := [zi y3710, .inl (some 31), zi y3710, .inl (some 31)]) (by decide +kernel) (fun k q => by cases q) rfl ?_
      obtain ⟨v3723, hv3724, lv3723, uv3723⟩ := g_int (i := 1) Q3720_a.1 (tv31 Q3720_a.1) aw31 (show 1 < 10 by omega) (sr1 (by omega))
      refine y_ial (i := 1) (len := 1) (r := (0, 0, 0, 0)) (by decide +kernel) Q3720_a.1 (tv31 Q3720_a.1) aw31 (by omega) hv3724 ?_
      refine y_ic (c := 1) (len := 1) (r := (0, 0, 0, 0)) (by decide +kernel) (by decide) (fun y3725 hy3725 => ?_)
      refine y_bp (i := .iadd) (f := fun x y => x + y) (len := 1) (r := (0, 0, 0, 0)) (by decide +kernel) rfl rfl (fun y3726 hy3726 => ?_)
      refine y_ias (i := 1) (len := 1) (r := (0, 0, 0, 0)) (by decide +kernel) Q3720_a.1 (tv31 Q3720_a.1) aw31 rfl (by omega) (by omega) (sr1 (by omega)) (qin_full _).1 (qin_full _).2 (fun h3727 hg3727 hl3727 hs3727 ho3727 => ?_)
      have Q3727_a := QC_up Q3720_a hg3727 (fun k j _ _ _ => ho3727 k j (by omega))
      refine y_same (i := .aload_n 0) (len := 1) (r := (0, 0, 0, 0)) (pc' := 157) (ls' := [some (.inl (some 28)), some (zi xf), some (.inl (some a)), some (zi y3701)]) (st' := [.inl (some 28)]) (by decide +kernel) (fun k q => by cases q) rfl ?_
      refine y_same (i := .aload_n 0) (len := 1) (r := (0, 0, 0, 0)) (pc' := 158) (ls' := [some (.inl (some 28)), some (zi xf), some (.inl (some a)), some (zi y3701)]) (st' := [.inl (some 28), .inl (some 28)]) (by decide +kernel) (fun k q => by cases q) rfl ?_
      obtain ⟨v3728, hv3729, lv3728, uv3728⟩ := g_int (i := 9) (lo := (-2147483648)) (hi := 2147483647) Q3727_a.1 (tv28 Q3727_a.1) aw28 (by decide) rfl
      refine y_get (j := 45) (len := 3) (r := (4, 9, 0, 294)) (by decide +kernel) Q3727_a.1 (tv28 Q3727_a.1) aw28 rfl rfl hv3729 ?_
      refine y_same (i := .aload_n 2) (len := 1) (r := (0, 0, 0, 0)) (pc' := 162) (ls' := [some (.inl (some 28)), some (zi xf), some (.inl (some a)), some (zi y3701)]) (st' := [.inl (some a), zi v3728, .inl (some 28)]) (by decide +kernel) (fun k q => by cases q) rfl ?_
      have hv3730 := (F3701 a 6 (by omega)).trans hs3700
      have hv3731 := (F3705 a 6 (by omega) (by omega)).trans hv3730
      have hv3732 := (ho3708 a 6 (Or.inr (by omega))).trans hv3731
      have hv3733 := (ho3711 a 6 (Or.inr (by omega))).trans hv3732
      have hv3734 := (ho3720 a 6 (Or.inl (by omega))).trans hv3733
      have hv3735 := (ho3727 a 6 (Or.inl (by omega))).trans hv3734
      refine y_get (j := 110) (len := 3) (r := (7, 6, 0, 20549)) (by decide +kernel) Q3727_a.1 Q3727_a.2.1.1 aw1008 rfl rfl hv3735 ?_
      refine y_cI (i := .invokestatic 63) (len := 3) (r := (1, 266, 60, 510)) (nL := 2) (k := 1) (n := 2) (hs := []) (args := [zi v3728, zi y3699]) (rest := [.inl (some 28)]) (l0 := [some (zi v3728), some (zi y3699)]) (by decide +kernel) (Or.inl ⟨_, rfl⟩) rfl rfl rfl rfl (Nat.le_of_ble_eq_true rfl) rfl rfl (qI_le (by omega) (e_jmax (d := 0))) (fun y3736 qy3736 hRy3736 => ?_)
      obtain ⟨rfl, my3736, wy3736⟩ := hRy3736
      refine y_put (j := 45) (lo := (-2147483648)) (hi := 2147483647) (len := 3) (r := (4, 9, 0, 294)) (by decide +kernel) Q3727_a.1 (tv28 Q3727_a.1) aw28 rfl rfl (by decide) rfl (qin_full _).1 (qin_full _).2 rfl (fun h3737 hg3737 hl3737 hs3737 ho3737 => ?_)
      have ho3737 : hO 28 9 h3727 h3737 := ho3737
      have hs3737 : hsl h3737 28 9 = some (zi y3736) := hs3737
      have Q3737_a := QC_up Q3727_a hg3737 (fun k j _ _ _ => ho3737 k j (by omega))
      refine y_same (i := .aload_n 0) (len := 1) (r := (0, 0, 0, 0)) (pc' := 172) (ls' := [some (.inl (some 28)), some (zi xf), some (.inl (some a)), some (zi y3701)]) (st' := [.inl (some 28)]) (by decide +kernel) (fun k q => by cases q) rfl ?_
      refine y_same (i := .aload_n 2) (len := 1) (r := (0, 0, 0, 0)) (pc' := 173) (ls' := [some (.inl (some 28)), some (zi xf), some (.inl (some a)), some (zi y3701)]) (st' := [.inl (some a), .inl (some 28)]) (by decide +kernel) (fun k q => by cases q) rfl ?_
      refine y_cI (i := .invokevirtual 147) (len := 3) (r := (0, 82, 7, 751)) (nL := 1) (k := 1) (n := 1) (hs := []) (args := [.inl (some a)]) (rest := [.inl (some 28)]) (l0 := [some (.inl (some a))]) (by decide +kernel) (Or.inr (Or.inl ⟨_, rfl⟩)) rfl rfl rfl rfl (Nat.le_of_ble_eq_true rfl) (zO Q3737_a.1 Q3737_a.2.1.1 aw1008 rfl) rfl (qI_le (by omega) (q_mns (d := 0) Q3737_a)) (fun y3738 qy3738 hRy3738 => ?_)
      obtain ⟨rfl, ty3738⟩ := hRy3738
      have gr3739 : gR h3737 28 := by obtain ⟨x9, a9, b9⟩ := gr; exact ⟨x9, (((ho3737 28 10 (by omega)).trans ((ho3727 28 10 (by omega)).trans ((ho3720 28 10 (by omega)).trans ((ho3711 28 10 (by omega)).trans ((ho3708 28 10 (by omega)).trans ((F3705 28 10 (by omega) (by omega)).trans ((F3701 28 10 (by omega)).trans ((ho3700 28 10 (by omega)).trans (ho3694 28 10 (by omega))))))))))).trans a9, b9⟩
      refine y_cV (i := .invokevirtual 150) (len := 3) (r := (0, 43, 4, 759)) (nL := 3) (k := 0) (n := 2) (hs := []) (args := [.inl (some 28), zi y3738]) (rest := []) (l0 := [some (.inl (some 28)), some (zi y3738), none]) (by decide +kernel) (Or.inr (Or.inl ⟨_, rfl⟩)) rfl rfl rfl rfl (Nat.le_of_ble_eq_true rfl) (zO Q3737_a.1 (tv28 Q3737_a.1) aw28 rfl) rfl (qV_le (by omega) (e_ng28 (d := 0) Q3737_a.1 gr3739)) (fun h3739 hR3739 => ?_)
      obtain ⟨hg3739, gr2, F3739⟩ := hR3739
      have Q3739 := QC_up Q3737_a hg3739 (fun k j _ _ _ => F3739 k j (by omega))
      refine y_rV (len := 1) (r := (0, 0, 0, 0)) (nL := 4) (n9 := 2) (hs := []) (by decide +kernel) rfl ?_
      have hv3740 := (ho3727 a 4 (Or.inl (by omega))).trans hv3721
      have hv3741 := (ho3737 a 4 (Or.inl (by omega))).trans hv3740
      have hv3742 := (F3739 a 4 (by omega)).trans hv3741
      have hv3743 := (F3705 a 5 (by omega) (by omega)).trans hv3707
      have hv3744 := (ho3708 a 5 (Or.inr (by omega))).trans hv3743
      have hv3745 := (ho3711 a 5 (Or.inr (by omega))).trans hv3744
      have hv3746 := (ho3720 a 5 (Or.inl (by omega))).trans hv3745
      have hv3747 := (ho3727 a 5 (Or.inl (by omega))).trans hv3746
      have hv3748 := (ho3737 a 5 (Or.inl (by omega))).trans hv3747
      have hv3749 := (F3739 a 5 (by omega)).trans hv3748
      have hv3750 := (ho3737 a 6 (Or.inl (by omega))).trans hv3735
      have hv3751 := (F3739 a 6 (by omega)).trans hv3750
      have hv3752 := (ho3727 28 6 (Or.inl (by omega))).trans hs3720
      have hv3753 := (ho3737 28 6 (Or.inr (by omega))).trans hv3752
      have hv3754 := (F3739 28 6 (by omega)).trans hv3753
      have hv3755 := (ho3694 31 2 (Or.inl (by omega))).trans hd2
      have hv3756 := (ho3700 31 2 (Or.inl (by omega))).trans hv3755
      have hv3757 := (F3701 31 2 (by omega)).trans hv3756
      have hv3758 := (F3705 31 2 (by omega) (by omega)).trans hv3757
      have hv3759 := (ho3708 31 2 (Or.inl (by omega))).trans hv3758
      have hv3760 := (ho3711 31 2 (Or.inl (by omega))).trans hv3759
      have hv3761 := (ho3720 31 2 (Or.inl (by omega))).trans hv3760
      have hv3762 := (ho3727 31 2 (Or.inr (by omega))).trans hv3761
      have hv3763 := (ho3737 31 2 (Or.inl (by omega))).trans hv3762
      have hv3764 := (F3739 31 2 (by omega)).trans hv3763
      refine ⟨(s9, 1, 0, 0, (row + 1), (i : Int)), ⟨rfl, rfl, Or.inr ⟨s9, ry3701, rfl, Or.inl ⟨by3705, rfl⟩⟩⟩, hg3739, ⟨a, (rfs_up ra (((F3739 29 n (by omega)).trans ((ho3737 29 n (by omega)).trans ((ho3727 29 n (by omega)).trans ((ho3720 29 n (by omega)).trans ((ho3711 29 n (by omega)).trans ((ho3708 29 n (by omega)).trans ((F3705 29 n (by omega) (by omega)).trans ((F3701 29 n (by omega)).trans ((ho3700 29 n (by omega)).trans (ho3694 29 n (by omega))))))))))))), ha, LQ_of Q3739, ⟨_, hv3742, by show _ = ((1 : Nat) : Int); omega⟩, ⟨_, hv3751, by show _ = (((row + 1) : Nat) : Int); omega⟩, ⟨_, hv3749, by show _ = ((i : Int) : Int); omega⟩, fun _ => Q3739, fun q => absurd q (by show ¬ 3 ≤ 1; omega), fun q => absurd q (by show ¬ 3 ≤ 1; omega)⟩, ⟨_, hv3754, by omega⟩, ?_, gr2, fun k j h1 h2 h3 h4 h5 => ((F3739 k j (by omega)).trans ((ho3737 k j (by omega)).trans ((ho3727 k j (by omega)).trans ((ho3720 k j (by omega)).trans ((ho3711 k j (by omega)).trans ((ho3708 k j (by omega)).trans ((F3705 k j (by omega) (by omega)).trans ((F3701 k j (by omega)).trans ((ho3700 k j (by omega)).trans (ho3694 k j (by omega)))))))))))⟩
      show ci_ _ 31 2 (dn + (if 1 = 2 then 1 else 0))
      rw [if_neg (by omega)]
      exact ⟨_, hv3764, by omega⟩
    ·
      refine y_goto (off := 4) (pc' := 63) (len := 3) (r := (0, 0, 0, 0)) (by decide +kernel) (by decide +kernel) ?_
      refine y_put (j := 137) (lo := (-2147483648)) (hi := 2147483647) (len := 3) (r := (7, 7, 0, 20551)) (by decide +kernel) hg3705 Q3705_a.2.1.1 aw1008 rfl rfl (by decide) rfl (qin_full _).1 (qin_full _).2 rfl (fun h3765 hg3765 hl3765 hs3765 ho3765 => ?_)
      have ho3765 : hO a 7 h3705 h3765 := ho3765
      have hs3765 : hsl h3765 a 7 = some (zi y3705) := hs3765
      have Q3765_a := QC_up Q3705_a hg3765 (fun k j _ _ _ => ho3765 k j (by omega))
      refine y_same (i := .iload_n 3) (len := 1) (r := (0, 0, 0, 0)) (pc' := 67) (ls' := [some (.inl (some 28)), some (zi xf), some (.inl (some a)), some (zi y3701)]) (st' := [zi y3701]) (by decide +kernel) (fun k q => by cases q) rfl ?_
      refine y_iT (c := .ne) (off := 11) (pc' := 78) (len := 3) (r := (0, 0, 0, 0)) (by decide +kernel) (acmpT (c := .ne) (by show ¬ (_ = _); omega)) (by decide +kernel) ?_
      refine y_same (i := .aload_n 2) (len := 1) (r := (0, 0, 0, 0)) (pc' := 79) (ls' := [some (.inl (some 28)), some (zi xf), some (.inl (some a)), some (zi y3701)]) (st' := [.inl (some a)]) (by decide +kernel) (fun k q => by cases q) rfl ?_
      refine y_get (j := 137) (len := 3) (r := (7, 7, 0, 20551)) (by decide +kernel) Q3765_a.1 Q3765_a.2.1.1 aw1008 rfl rfl hs3765 ?_
      refine y_ic (c := (-1)) (len := 1) (r := (0, 0, 0, 0)) (by decide +kernel) (by decide) (fun y3766 hy3766 => ?_)
      refine y_cT (c := .eq) (off := 11) (pc' := 94) (len := 3) (r := (0, 0, 0, 0)) (by decide +kernel) (acmpT (c := .eq) (by show _ = _; omega)) (by decide +kernel) ?_
      refine y_same (i := .aload_n 2) (len := 1) (r := (0, 0, 0, 0)) (pc' := 95) (ls' := [some (.inl (some 28)), some (zi xf), some (.inl (some a)), some (zi y3701)]) (st' := [.inl (some a)]) (by decide +kernel) (fun k q => by cases q) rfl ?_
      refine y_same (i := .aload_n 2) (len := 1) (r := (0, 0, 0, 0)) (pc' := 96) (ls' := [some (.inl (some 28)), some (zi xf), some (.inl (some a)), some (zi y3701)]) (st' := [.inl (some a), .inl (some a)]) (by decide +kernel) (fun k q => by cases q) rfl ?_
      refine y_same (i := .aload_n 0) (len := 1) (r := (0, 0, 0, 0)) (pc' := 97) (ls' := [some (.inl (some 28)), some (zi xf), some (.inl (some a)), some (zi y3701)]) (st' := [.inl (some 28), .inl (some a), .inl (some a)]) (by decide +kernel) (fun k q => by cases q) rfl ?_
      have hv3767 := (F3705 28 0 (by omega) (by omega)).trans hv3704
      have hv3768 := (ho3765 28 0 (Or.inl (by omega))).trans hv3767
      refine y_get (j := 54) (len := 3) (r := (4, 0, 1, 282)) (by decide +kernel) Q3765_a.1 (tv28 Q3765_a.1) aw28 rfl rfl hv3768 ?_
      refine y_cI (i := .invokevirtual 140) (len := 3) (r := (0, 93, 7, 739)) (nL := 2) (k := 2) (n := 2) (hs := []) (args := [.inl (some a), zi xm]) (rest := [.inl (some a)]) (l0 := [some (.inl (some a)), some (zi xm)]) (by decide +kernel) (Or.inr (Or.inl ⟨_, rfl⟩)) rfl rfl rfl rfl (Nat.le_of_ble_eq_true rfl) (zO Q3765_a.1 Q3765_a.2.1.1 aw1008 rfl) rfl (qI_le (by omega) (q_done (d := 0) (m := false) Q3765_a (eml.trans (if_neg (by decide)).symm))) (fun y3769 qy3769 hRy3769 => ?_)
      obtain ⟨rfl, hDy3769⟩ := hRy3769
      rcases hDy3769 with ⟨vy3769, ty3769⟩ | ⟨vy3769, ty3769⟩
      ·
        refine y_iF (c := .eq) (off := 7) (len := 3) (r := (0, 0, 0, 0)) (by decide +kernel) (acmpF (c := .eq) (by show ¬ (_ = _); omega)) ?_
        refine y_ic (c := 2) (len := 1) (r := (0, 0, 0, 0)) (by decide +kernel) (by decide) (fun y3770 hy3770 => ?_)
        refine y_goto (off := 7) (pc' := 114) (len := 3) (r := (0, 0, 0, 0)) (by decide +kernel) (by decide +kernel) ?_
        refine y_put (j := 71) (lo := (-2147483648)) (hi := 2147483647) (len := 3) (r := (7, 4, 0, 20543)) (by decide +kernel) Q3765_a.1 Q3765_a.2.1.1 aw1008 rfl rfl (by decide) rfl (qin_full _).1 (qin_full _).2 rfl (fun h3771 hg3771 hl3771 hs3771 ho3771 => ?_)
        have ho3771 : hO a 4 h3765 h3771 := ho3771
        have hs3771 : hsl h3771 a 4 = some (zi y3770) := hs3771
        have Q3771_a := QC_up Q3765_a hg3771 (fun k j _ _ _ => ho3771 k j (by omega))
        refine y_same (i := .aload_n 0) (len := 1) (r := (0, 0, 0, 0)) (pc' := 118) (ls' := [some (.inl (some 28)), some (zi xf), some (.inl (some a)), some (zi y3701)]) (st' := [.inl (some 28)]) (by decide +kernel) (fun k q => by cases q) rfl ?_
        refine y_same (i := .dup) (len := 1) (r := (0, 0, 0, 0)) (pc' := 119) (ls' := [some (.inl (some 28)), some (zi xf), some (.inl (some a)), some (zi y3701)]) (st' := [.inl (some 28), .inl (some 28)]) (by decide +kernel) (fun k q => by cases q) rfl ?_
        have hv3772 := (ho3694 28 6 (Or.inl (by omega))).trans hn
        have hv3773 := (ho3700 28 6 (Or.inl (by omega))).trans hv3772
        have hv3774 := (F3701 28 6 (by omega)).trans hv3773
        have hv3775 := (F3705 28 6 (by omega) (by omega)).trans hv3774
        have hv3776 := (ho3765 28 6 (Or.inl (by omega))).trans hv3775
        have hv3777 := (ho3771 28 6 (Or.inl (by omega))).trans hv3776
        refine y_get (j := 35) (len := 3) (r := (4, 6, 0, 289)) (by decide +kernel) Q3771_a.1 (tv28 Q3771_a.1) aw28 rfl rfl hv3777 ?_
        refine y_ic (c := 1) (len := 1) (r := (0, 0, 0, 0)) (by decide +kernel) (by decide) (fun y3778 hy3778 => ?_)
        refine y_add (len := 1) (r := (0, 0, 0, 0)) (by decide +kernel) (by omega) (by omega) (fun y3779 hy3779 => ?_)
        refine y_put (j := 35) (lo := (-2147483648)) (hi := 2147483647) (len := 3) (r := (4, 6, 0, 289)) (by decide +kernel) Q3771_a.1 (tv28 Q3771_a.1) aw28 rfl rfl (by decide) rfl (qin_full _).1 (qin_full _).2 rfl (fun h3780 hg3780 hl3780 hs3780 ho3780 => ?_)
        have ho3780 : hO 28 6 h3771 h3780 := ho3780
        have hs3780 : hsl h3780 28 6 = some (zi y3779) := hs3780
        have Q3780_a := QC_up Q3771_a hg3780 (fun k j _ _ _ => ho3780 k j (by omega))
        refine y_same (i := .aload_n 2) (len := 1) (r := (0, 0, 0, 0)) (pc' := 128) (ls' := [some (.inl (some 28)), some (zi xf), some (.inl (some a)), some (zi y3701)]) (st' := [.inl (some a)]) (by decide +kernel) (fun k q => by cases q) rfl ?_
        have hv3781 := (ho3780 a 4 (Or.inl (by omega))).trans hs3771
        refine y_get (j := 71) (len := 3) (r := (7, 4, 0, 20543)) (by decide +kernel) Q3780_a.1 Q3780_a.2.1.1 aw1008 rfl rfl hv3781 ?_
        refine y_iF (c := .lt) (off := 25) (len := 3) (r := (0, 0, 0, 0)) (by decide +kernel) (acmpF (c := .lt) (by show _ ≤ _; omega)) ?_
        refine y_same (i := .aload_n 2) (len := 1) (r := (0, 0, 0, 0)) (pc' := 135) (ls' := [some (.inl (some 28)), some (zi xf), some (.inl (some a)), some (zi y3701)]) (st' := [.inl (some a)]) (by decide +kernel) (fun k q => by cases q) rfl ?_
        refine y_get (j := 71) (len := 3) (r := (7, 4, 0, 20543)) (by decide +kernel) Q3780_a.1 Q3780_a.2.1.1 aw1008 rfl rfl hv3781 ?_
        refine y_bi (c := 9) (len := 2) (r := (0, 0, 0, 0)) (by decide +kernel) (by decide) (fun y3782 hy3782 => ?_)
        refine y_cF (c := .gt) (off := 16) (len := 3) (r := (0, 0, 0, 0)) (by decide +kernel) (acmpF (c := .gt) (by show _ ≤ _; omega)) ?_
        refine y_same (i := .aload_n 0) (len := 1) (r := (0, 0, 0, 0)) (pc' := 144) (ls' := [some (.inl (some 28)), some (zi xf), some (.inl (some a)), some (zi y3701)]) (st' := [.inl (some 28)]) (by decide +kernel) (fun k q => by cases q) rfl ?_
        refine y_get (j := 21) (len := 3) (r := (4, 3, 2, 285)) (by decide +kernel) Q3780_a.1 (tv28 Q3780_a.1) aw28 rfl rfl (g_rU (f := 3) (T2 := 31) Q3780_a.1 (tv28 Q3780_a.1) aw28 rfl (by decide)) ?_
        refine y_same (i := .aload_n 2) (len := 1) (r := (0, 0, 0, 0)) (pc' := 148) (ls' := [some (.inl (some 28)), some (zi xf), some (.inl (some a)), some (zi y3701)]) (st' := [.inl (some a), .inl (some 31)]) (by decide +kernel) (fun k q => by cases q) rfl ?_
        refine y_get (j := 71) (len := 3) (r := (7, 4, 0, 20543)) (by decide +kernel) Q3780_a.1 Q3780_a.2.1.1 aw1008 rfl rfl hv3781 ?_
        refine y_same (i := .dup2) (len := 1) (r := (0, 0, 0, 0)) (pc' := 152) (ls' := [some (.inl (some 28)), some (zi xf), some (.inl (some a)), some (zi y3701)]) (st' := [zi y3770, .inl (some 31), zi y3770, .inl (some 31)]) (by decide +kernel) (fun k q => by cases q) rfl ?_
        have hv3783 := (ho3694 31 2 (Or.inl (by omega))).trans hd2
        have hv3784 := (ho3700 31 2 (Or.inl (by omega))).trans hv3783
        have hv3785 := (F3701 31 2 (by omega)).trans hv3784
        have hv3786 := (F3705 31 2 (by omega) (by omega)).trans hv3785
        have hv3787 := (ho3765 31 2 (Or.inl (by omega))).trans hv3786
        have hv3788 := (ho3771 31 2 (Or.inl (by omega))).trans hv3787
        have hv3789 := (ho3780 31 2 (Or.inl (by omega))).trans hv3788
        refine y_ial (i := 2) (len := 1) (r := (0, 0, 0, 0)) (by decide +kernel) Q3780_a.1 (tv31 Q3780_a.1) aw31 (by omega) hv3789 ?_
        refine y_ic (c := 1) (len := 1) (r := (0, 0, 0, 0)) (by decide +kernel) (by decide) (fun y3790 hy3790 => ?_)
        refine y_add (len := 1) (r := (0, 0, 0, 0)) (by decide +kernel) (by omega) (by omega) (fun y3791 hy3791 => ?_)
        refine y_ias (i := 2) (len := 1) (r := (0, 0, 0, 0)) (by decide +kernel) Q3780_a.1 (tv31 Q3780_a.1) aw31 rfl (by omega) (by omega) (sr1 (by omega)) (qin_full _).1 (qin_full _).2 (fun h3792 hg3792 hl3792 hs3792 ho3792 => ?_)
        have Q3792_a := QC_up Q3780_a hg3792 (fun k j _ _ _ => ho3792 k j (by omega))
        refine y_same (i := .aload_n 0) (len := 1) (r := (0, 0, 0, 0)) (pc' := 157) (ls' := [some (.inl (some 28)), some (zi xf), some (.inl (some a)), some (zi y3701)]) (st' := [.inl (some 28)]) (by decide +kernel) (fun k q => by cases q) rfl ?_
        refine y_same (i := .aload_n 0) (len := 1) (r := (0, 0, 0, 0)) (pc' := 158) (ls' := [some (.inl (some 28)), some (zi xf), some (.inl (some a)), some (zi y3701)]) (st' := [.inl (some 28), .inl (some 28)]) (by decide +kernel) (fun k q => by cases q) rfl ?_
        obtain ⟨v3793, hv3794, lv3793, uv3793⟩ := g_int (i := 9) (lo := (-2147483648)) (hi := 2147483647) Q3792_a.1 (tv28 Q3792_a.1) aw28 (by decide) rfl
        refine y_get (j := 45) (len := 3) (r := (4, 9, 0, 294)) (by decide +kernel) Q3792_a.1 (tv28 Q3792_a.1) aw28 rfl rfl hv3794 ?_
        refine y_same (i := .aload_n 2) (len := 1) (r := (0, 0, 0, 0)) (pc' := 162) (ls' := [some (.inl (some 28)), some (zi xf), some (.inl (some a)), some (zi y3701)]) (st' := [.inl (some a), zi v3793, .inl (some 28)]) (by decide +kernel) (fun k q => by cases q) rfl ?_
        have hv3795 := (F3701 a 6 (by omega)).trans hs3700
        have hv3796 := (F3705 a 6 (by omega) (by omega)).trans hv3795
        have hv3797 := (ho3765 a 6 (Or.inr (by omega))).trans hv3796
        have hv3798 := (ho3771 a 6 (Or.inr (by omega))).trans hv3797
        have hv3799 := (ho3780 a 6 (Or.inl (by omega))).trans hv3798
        have hv3800 := (ho3792 a 6 (Or.inl (by omega))).trans hv3799
        refine y_get (j := 110) (len := 3) (r := (7, 6, 0, 20549)) (by decide +kernel) Q3792_a.1 Q3792_a.2.1.1 aw1008 rfl rfl hv3800 ?_
        refine y_cI (i := .invokestatic 63) (len := 3) (r := (1, 266, 60, 510)) (nL := 2) (k := 1) (n := 2) (hs := []) (args := [zi v3793, zi y3699]) (rest := [.inl (some 28)]) (l0 := [some (zi v3793), some (zi y3699)]) (by decide +kernel) (Or.inl ⟨_, rfl⟩) rfl rfl rfl rfl (Nat.le_of_ble_eq_true rfl) rfl rfl (qI_le (by omega) (e_jmax (d := 0))) (fun y3801 qy3801 hRy3801 => ?_)
        obtain ⟨rfl, my3801, wy3801⟩ := hRy3801
        refine y_put (j := 45) (lo := (-2147483648)) (hi := 2147483647) (len := 3) (r := (4, 9, 0, 294)) (by decide +kernel) Q3792_a.1 (tv28 Q3792_a.1) aw28 rfl rfl (by decide) rfl (qin_full _).1 (qin_full _).2 rfl (fun h3802 hg3802 hl3802 hs3802 ho3802 => ?_)
        have ho3802 : hO 28 9 h3792 h3802 := ho3802
        have hs3802 : hsl h3802 28 9 = some (zi y3801) := hs3802
        have Q3802_a := QC_up Q3792_a hg3802 (fun k j _ _ _ => ho3802 k j (by omega))
        refine y_same (i := .aload_n 0) (len := 1) (r := (0, 0, 0, 0)) (pc' := 172) (ls' := [some (.inl (some 28)), some (zi xf), some (.inl (some a)), some (zi y3701)]) (st' := [.inl (some 28)]) (by decide +kernel) (fun k q => by cases q) rfl ?_
        refine y_same (i := .aload_n 2) (len := 1) (r := (0, 0, 0, 0)) (pc' := 173) (ls' := [some (.inl (some 28)), some (zi xf), some (.inl (some a)), some (zi y3701)]) (st' := [.inl (some a), .inl (some 28)]) (by decide +kernel) (fun k q => by cases q) rfl ?_
        refine y_cI (i := .invokevirtual 147) (len := 3) (r := (0, 82, 7, 751)) (nL := 1) (k := 1) (n := 1) (hs := []) (args := [.inl (some a)]) (rest := [.inl (some 28)]) (l0 := [some (.inl (some a))]) (by decide +kernel) (Or.inr (Or.inl ⟨_, rfl⟩)) rfl rfl rfl rfl (Nat.le_of_ble_eq_true rfl) (zO Q3802_a.1 Q3802_a.2.1.1 aw1008 rfl) rfl (qI_le (by omega) (q_mns (d := 0) Q3802_a)) (fun y3803 qy3803 hRy3803 => ?_)
        obtain ⟨rfl, ty3803⟩ := hRy3803
        have gr3804 : gR h3802 28 := by obtain ⟨x9, a9, b9⟩ := gr; exact ⟨x9, (((ho3802 28 10 (by omega)).trans ((ho3792 28 10 (by omega)).trans ((ho3780 28 10 (by omega)).trans ((ho3771 28 10 (by omega)).trans ((ho3765 28 10 (by omega)).trans ((F3705 28 10 (by omega) (by omega)).trans ((F3701 28 10 (by omega)).trans ((ho3700 28 10 (by omega)).trans (ho3694 28 10 (by omega))))))))))).trans a9, b9⟩
        refine y_cV (i := .invokevirtual 150) (len := 3) (r := (0, 43, 4, 759)) (nL := 3) (k := 0) (n := 2) (hs := []) (args := [.inl (some 28), zi y3803]) (rest := []) (l0 := [some (.inl (some 28)), some (zi y3803), none]) (by decide +kernel) (Or.inr (Or.inl ⟨_, rfl⟩)) rfl rfl rfl rfl (Nat.le_of_ble_eq_true rfl) (zO Q3802_a.1 (tv28 Q3802_a.1) aw28 rfl) rfl (qV_le (by omega) (e_ng28 (d := 0) Q3802_a.1 gr3804)) (fun h3804 hR3804 => ?_)
        obtain ⟨hg3804, gr2, F3804⟩ := hR3804
        have Q3804 := QC_up Q3802_a hg3804 (fun k j _ _ _ => F3804 k j (by omega))
        refine y_rV (len := 1) (r := (0, 0, 0, 0)) (nL := 4) (n9 := 2) (hs := []) (by decide +kernel) rfl ?_
        have hv3805 := (ho3792 a 4 (Or.inl (by omega))).trans hv3781
        have hv3806 := (ho3802 a 4 (Or.inl (by omega))).trans hv3805
        have hv3807 := (F3804 a 4 (by omega)).trans hv3806
        have hv3808 := (F3705 a 5 (by omega) (by omega)).trans hv3707
        have hv3809 := (ho3765 a 5 (Or.inr (by omega))).trans hv3808
        have hv3810 := (ho3771 a 5 (Or.inr (by omega))).trans hv3809
        have hv3811 := (ho3780 a 5 (Or.inl (by omega))).trans hv3810
        have hv3812 := (ho3792 a 5 (Or.inl (by omega))).trans hv3811
        have hv3813 := (ho3802 a 5 (Or.inl (by omega))).trans hv3812
        have hv3814 := (F3804 a 5 (by omega)).trans hv3813
        have hv3815 := (ho3802 a 6 (Or.inl (by omega))).trans hv3800
        have hv3816 := (F3804 a 6 (by omega)).trans hv3815
        have hv3817 := (ho3792 28 6 (Or.inl (by omega))).trans hs3780
        have hv3818 := (ho3802 28 6 (Or.inr (by omega))).trans hv3817
        have hv3819 := (F3804 28 6 (by omega)).trans hv3818
        have hv3820 := (ho3802 31 2 (Or.inl (by omega))).trans hs3792
        have hv3821 := (F3804 31 2 (by omega)).trans hv3820
        refine ⟨(s9, 2, 0, 0, (row + 1), (i : Int)), ⟨rfl, rfl, Or.inr ⟨s9, ry3701, rfl, Or.inr (Or.inl ⟨by3705, ty3769, rfl⟩)⟩⟩, hg3804, ⟨a, (rfs_up ra (((F3804 29 n (by omega)).trans ((ho3802 29 n (by omega)).trans ((ho3792 29 n (by omega)).trans ((ho3780 29 n (by omega)).trans ((ho3771 29 n (by omega)).trans ((ho3765 29 n (by omega)).trans ((F3705 29 n (by omega) (by omega)).trans ((F3701 29 n (by omega)).trans ((ho3700 29 n (by omega)).trans (ho3694 29 n (by omega))))))))))))), ha, LQ_of Q3804, ⟨_, hv3807, by show _ = ((2 : Nat) : Int); omega⟩, ⟨_, hv3816, by show _ = (((row + 1) : Nat) : Int); omega⟩, ⟨_, hv3814, by show _ = ((i : Int) : Int); omega⟩, fun _ => Q3804, fun q => absurd q (by show ¬ 3 ≤ 2; omega), fun q => absurd q (by show ¬ 3 ≤ 2; omega)⟩, ⟨_, hv3819, by omega⟩, ?_, gr2, fun k j h1 h2 h3 h4 h5 => ((F3804 k j (by omega)).trans ((ho3802 k j (by omega)).trans ((ho3792 k j (by omega)).trans ((ho3780 k j (by omega)).trans ((ho3771 k j (by omega)).trans ((ho3765 k j (by omega)).trans ((F3705 k j (by omega) (by omega)).trans ((F3701 k j (by omega)).trans ((ho3700 k j (by omega)).trans (ho3694 k j (by omega)))))))))))⟩
        show ci_ _ 31 2 (dn + (if 2 = 2 then 1 else 0))
        rw [if_pos (by omega)]
        exact ⟨_, hv3821, by omega⟩
      ·
        refine y_iT (c := .eq) (off := 7) (pc' := 110) (len := 3) (r := (0, 0, 0, 0)) (by decide +kernel) (acmpT (c := .eq) (by show _ = _; omega)) (by decide +kernel) ?_
        refine y_same (i := .aload_n 2) (len := 1) (r := (0, 0, 0, 0)) (pc' := 111) (ls' := [some (.inl (some 28)), some (zi xf), some (.inl (some a)), some (zi y3701)]) (st' := [.inl (some a), .inl (some a)]) (by decide +kernel) (fun k q => by cases q) rfl ?_
        refine y_cI (i := .invokevirtual 144) (len := 3) (r := (0, 94, 7, 743)) (nL := 4) (k := 1) (n := 1) (hs := []) (args := [.inl (some a)]) (rest := [.inl (some a)]) (l0 := [some (.inl (some a)), none, none, none]) (by decide +kernel) (Or.inr (Or.inl ⟨_, rfl⟩)) rfl rfl rfl rfl (Nat.le_of_ble_eq_true rfl) (zO Q3765_a.1 Q3765_a.2.1.1 aw1008 rfl) rfl (qI_le (by omega) (q_fnd (d := 0) Q3765_a)) (fun y3822 h3822 hRy3822 => ?_)
        obtain ⟨st, r, l, ey3822, fd, c8, c9, Q3822, F3822⟩ := hRy3822
        have fb := fnd_b fd
        refine y_put (j := 71) (lo := (-2147483648)) (hi := 2147483647) (len := 3) (r := (7, 4, 0, 20543)) (by decide +kernel) Q3822.1 Q3822.2.1.1 aw1008 rfl rfl (by decide) rfl (qin_full _).1 (qin_full _).2 rfl (fun h3823 hg3823 hl3823 hs3823 ho3823 => ?_)
        have ho3823 : hO a 4 h3822 h3823 := ho3823
        have hs3823 : hsl h3823 a 4 = some (zi y3822) := hs3823
        have Q3823_a := QC_up Q3822 hg3823 (fun k j _ _ _ => ho3823 k j (by omega))
        refine y_same (i := .aload_n 0) (len := 1) (r := (0, 0, 0, 0)) (pc' := 118) (ls' := [some (.inl (some 28)), some (zi xf), some (.inl (some a)), some (zi y3701)]) (st' := [.inl (some 28)]) (by decide +kernel) (fun k q => by cases q) rfl ?_
        refine y_same (i := .dup) (len := 1) (r := (0, 0, 0, 0)) (pc' := 119) (ls' := [some (.inl (some 28)), some (zi xf), some (.inl (some a)), some (zi y3701)]) (st' := [.inl (some 28), .inl (some 28)]) (by decide +kernel) (fun k q => by cases q) rfl ?_
        have hv3824 := (ho3694 28 6 (Or.inl (by omega))).trans hn
        have hv3825 := (ho3700 28 6 (Or.inl (by omega))).trans hv3824
        have hv3826 := (F3701 28 6 (by omega)).trans hv3825
        have hv3827 := (F3705 28 6 (by omega) (by omega)).trans hv3826
        have hv3828 := (ho3765 28 6 (Or.inl (by omega))).trans hv3827
        have hv3829 := (F3822 28 6 (by omega)).trans hv3828
        have hv3830 := (ho3823 28 6 (Or.inl (by omega))).trans hv3829
        refine y_get (j := 35) (len := 3) (r := (4, 6, 0, 289)) (by decide +kernel) Q3823_a.1 (tv28 Q3823_a.1) aw28 rfl rfl hv3830 ?_
        refine y_ic (c := 1) (len := 1) (r := (0, 0, 0, 0)) (by decide +kernel) (by decide) (fun y3831 hy3831 => ?_)
        refine y_add (len := 1) (r := (0, 0, 0, 0)) (by decide +kernel) (by omega) (by omega) (fun y3832 hy3832 => ?_)
        refine y_put (j := 35) (lo := (-2147483648)) (hi := 2147483647) (len := 3) (r := (4, 6, 0, 289)) (by decide +kernel) Q3823_a.1 (tv28 Q3823_a.1) aw28 rfl rfl (by decide) rfl (qin_full _).1 (qin_full _).2 rfl (fun h3833 hg3833 hl3833 hs3833 ho3833 => ?_)
        have ho3833 : hO 28 6 h3823 h3833 := ho3833
        have hs3833 : hsl h3833 28 6 = some (zi y3832) := hs3833
        have Q3833_a := QC_up Q3823_a hg3833 (fun k j _ _ _ => ho3833 k j (by omega))
        refine y_same (i := .aload_n 2) (len := 1) (r := (0, 0, 0, 0)) (pc' := 128) (ls' := [some (.inl (some 28)), some (zi xf), some (.inl (some a)), some (zi y3701)]) (st' := [.inl (some a)]) (by decide +kernel) (fun k q => by cases q) rfl ?_
        have hv3834 := (ho3833 a 4 (Or.inl (by omega))).trans hs3823
        refine y_get (j := 71) (len := 3) (r := (7, 4, 0, 20543)) (by decide +kernel) Q3833_a.1 Q3833_a.2.1.1 aw1008 rfl rfl hv3834 ?_
        refine y_iF (c := .lt) (off := 25) (len := 3) (r := (0, 0, 0, 0)) (by decide +kernel) (acmpF (c := .lt) (by show _ ≤ _; omega)) ?_
        refine y_same (i := .aload_n 2) (len := 1) (r := (0, 0, 0, 0)) (pc' := 135) (ls' := [some (.inl (some 28)), some (zi xf), some (.inl (some a)), some (zi y3701)]) (st' := [.inl (some a)]) (by decide +kernel) (fun k q => by cases q) rfl ?_
        refine y_get (j := 71) (len := 3) (r := (7, 4, 0, 20543)) (by decide +kernel) Q3833_a.1 Q3833_a.2.1.1 aw1008 rfl rfl hv3834 ?_
        refine y_bi (c := 9) (len := 2) (r := (0, 0, 0, 0)) (by decide +kernel) (by decide) (fun y3835 hy3835 => ?_)
        refine y_cF (c := .gt) (off := 16) (len := 3) (r := (0, 0, 0, 0)) (by decide +kernel) (acmpF (c := .gt) (by show _ ≤ _; omega)) ?_
        refine y_same (i := .aload_n 0) (len := 1) (r := (0, 0, 0, 0)) (pc' := 144) (ls' := [some (.inl (some 28)), some (zi xf), some (.inl (some a)), some (zi y3701)]) (st' := [.inl (some 28)]) (by decide +kernel) (fun k q => by cases q) rfl ?_
        refine y_get (j := 21) (len := 3) (r := (4, 3, 2, 285)) (by decide +kernel) Q3833_a.1 (tv28 Q3833_a.1) aw28 rfl rfl (g_rU (f := 3) (T2 := 31) Q3833_a.1 (tv28 Q3833_a.1) aw28 rfl (by decide)) ?_
        refine y_same (i := .aload_n 2) (len := 1) (r := (0, 0, 0, 0)) (pc' := 148) (ls' := [some (.inl (some 28)), some (zi xf), some (.inl (some a)), some (zi y3701)]) (st' := [.inl (some a), .inl (some 31)]) (by decide +kernel) (fun k q => by cases q) rfl ?_
        refine y_get (j := 71) (len := 3) (r := (7, 4, 0, 20543)) (by decide +kernel) Q3833_a.1 Q3833_a.2.1.1 aw1008 rfl rfl hv3834 ?_
        refine y_same (i := .dup2) (len := 1) (r := (0, 0, 0, 0)) (pc' := 152) (ls' := [some (.inl (some 28)), some (zi xf), some (.inl (some a)), some (zi y3701)]) (st' := [zi y3822, .inl (some 31), zi y3822, .inl (some 31)]) (by decide +kernel) (fun k q => by cases q) rfl ?_
        obtain ⟨v3836, hv3837, lv3836, uv3836⟩ := g_int (i := st) Q3833_a.1 (tv31 Q3833_a.1) aw31 (show st < 10 by omega) (sr1 (by omega))
        refine y_ial (i := st) (len := 1) (r := (0, 0, 0, 0)) (by decide +kernel) Q3833_a.1 (tv31 Q3833_a.1) aw31 (by omega) hv3837 ?_
        refine y_ic (c := 1) (len := 1) (r := (0, 0, 0, 0)) (by decide +kernel) (by decide) (fun y3838 hy3838 => ?_)
        refine y_bp (i := .iadd) (f := fun x y => x + y) (len := 1) (r := (0, 0, 0, 0)) (by decide +kernel) rfl rfl (fun y3839 hy3839 => ?_)
        refine y_ias (i := st) (len := 1) (r := (0, 0, 0, 0)) (by decide +kernel) Q3833_a.1 (tv31 Q3833_a.1) aw31 rfl (by omega) (by omega) (sr1 (by omega)) (qin_full _).1 (qin_full _).2 (fun h3840 hg3840 hl3840 hs3840 ho3840 => ?_)
        have Q3840_a := QC_up Q3833_a hg3840 (fun k j _ _ _ => ho3840 k j (by omega))
        refine y_same (i := .aload_n 0) (len := 1) (r := (0, 0, 0, 0)) (pc' := 157) (ls' := [some (.inl (some 28)), some (zi xf), some (.inl (some a)), some (zi y3701)]) (st' := [.inl (some 28)]) (by decide +kernel) (fun k q => by cases q) rfl ?_
        refine y_same (i := .aload_n 0) (len := 1) (r := (0, 0, 0, 0)) (pc' := 158) (ls' := [some (.inl (some 28)), some (zi xf), some (.inl (some a)), some (zi y3701)]) (st' := [.inl (some 28), .inl (some 28)]) (by decide +kernel) (fun k q => by cases q) rfl ?_
        obtain ⟨v3841, hv3842, lv3841, uv3841⟩ := g_int (i := 9) (lo := (-2147483648)) (hi := 2147483647) Q3840_a.1 (tv28 Q3840_a.1) aw28 (by decide) rfl
        refine y_get (j := 45) (len := 3) (r := (4, 9, 0, 294)) (by decide +kernel) Q3840_a.1 (tv28 Q3840_a.1) aw28 rfl rfl hv3842 ?_
        refine y_same (i := .aload_n 2) (len := 1) (r := (0, 0, 0, 0)) (pc' := 162) (ls' := [some (.inl (some 28)), some (zi xf), some (.inl (some a)), some (zi y3701)]) (st' := [.inl (some a), zi v3841, .inl (some 28)]) (by decide +kernel) (fun k q => by cases q) rfl ?_
        have hv3843 := (F3701 a 6 (by omega)).trans hs3700
        have hv3844 := (F3705 a 6 (by omega) (by omega)).trans hv3843
        have hv3845 := (ho3765 a 6 (Or.inr (by omega))).trans hv3844
        have hv3846 := (F3822 a 6 (by omega)).trans hv3845
        have hv3847 := (ho3823 a 6 (Or.inr (by omega))).trans hv3846
        have hv3848 := (ho3833 a 6 (Or.inl (by omega))).trans hv3847
        have hv3849 := (ho3840 a 6 (Or.inl (by omega))).trans hv3848
        refine y_get (j := 110) (len := 3) (r := (7, 6, 0, 20549)) (by decide +kernel) Q3840_a.1 Q3840_a.2.1.1 aw1008 rfl rfl hv3849 ?_
        refine y_cI (i := .invokestatic 63) (len := 3) (r := (1, 266, 60, 510)) (nL := 2) (k := 1) (n := 2) (hs := []) (args := [zi v3841, zi y3699]) (rest := [.inl (some 28)]) (l0 := [some (zi v3841), some (zi y3699)]) (by decide +kernel) (Or.inl ⟨_, rfl⟩) rfl rfl rfl rfl (Nat.le_of_ble_eq_true rfl) rfl rfl (qI_le (by omega) (e_jmax (d := 0))) (fun y3850 qy3850 hRy3850 => ?_)
        obtain ⟨rfl, my3850, wy3850⟩ := hRy3850
        refine y_put (j := 45) (lo := (-2147483648)) (hi := 2147483647) (len := 3) (r := (4, 9, 0, 294)) (by decide +kernel) Q3840_a.1 (tv28 Q3840_a.1) aw28 rfl rfl (by decide) rfl (qin_full _).1 (qin_full _).2 rfl (fun h3851 hg3851 hl3851 hs3851 ho3851 => ?_)
        have ho3851 : hO 28 9 h3840 h3851 := ho3851
        have hs3851 : hsl h3851 28 9 = some (zi y3850) := hs3851
        have Q3851_a := QC_up Q3840_a hg3851 (fun k j _ _ _ => ho3851 k j (by omega))
        refine y_same (i := .aload_n 0) (len := 1) (r := (0, 0, 0, 0)) (pc' := 172) (ls' := [some (.inl (some 28)), some (zi xf), some (.inl (some a)), some (zi y3701)]) (st' := [.inl (some 28)]) (by decide +kernel) (fun k q => by cases q) rfl ?_
        refine y_same (i := .aload_n 2) (len := 1) (r := (0, 0, 0, 0)) (pc' := 173) (ls' := [some (.inl (some 28)), some (zi xf), some (.inl (some a)), some (zi y3701)]) (st' := [.inl (some a), .inl (some 28)]) (by decide +kernel) (fun k q => by cases q) rfl ?_
        refine y_cI (i := .invokevirtual 147) (len := 3) (r := (0, 82, 7, 751)) (nL := 1) (k := 1) (n := 1) (hs := []) (args := [.inl (some a)]) (rest := [.inl (some 28)]) (l0 := [some (.inl (some a))]) (by decide +kernel) (Or.inr (Or.inl ⟨_, rfl⟩)) rfl rfl rfl rfl (Nat.le_of_ble_eq_true rfl) (zO Q3851_a.1 Q3851_a.2.1.1 aw1008 rfl) rfl (qI_le (by omega) (q_mns (d := 0) Q3851_a)) (fun y3852 qy3852 hRy3852 => ?_)
        obtain ⟨rfl, ty3852⟩ := hRy3852
        have gr3853 : gR h3851 28 := by obtain ⟨x9, a9, b9⟩ := gr; exact ⟨x9, (((ho3851 28 10 (by omega)).trans ((ho3840 28 10 (by omega)).trans ((ho3833 28 10 (by omega)).trans ((ho3823 28 10 (by omega)).trans ((F3822 28 10 (by omega)).trans ((ho3765 28 10 (by omega)).trans ((F3705 28 10 (by omega) (by omega)).trans ((F3701 28 10 (by omega)).trans ((ho3700 28 10 (by omega)).trans (ho3694 28 10 (by omega)))))))))))).trans a9, b9⟩
        refine y_cV (i := .invokevirtual 150) (len := 3) (r := (0, 43, 4, 759)) (nL := 3) (k := 0) (n := 2) (hs := []) (args := [.inl (some 28), zi y3852]) (rest := []) (l0 := [some (.inl (some 28)), some (zi y3852), none]) (by decide +kernel) (Or.inr (Or.inl ⟨_, rfl⟩)) rfl rfl rfl rfl (Nat.le_of_ble_eq_true rfl) (zO Q3851_a.1 (tv28 Q3851_a.1) aw28 rfl) rfl (qV_le (by omega) (e_ng28 (d := 0) Q3851_a.1 gr3853)) (fun h3853 hR3853 => ?_)
        obtain ⟨hg3853, gr2, F3853⟩ := hR3853
        have Q3853 := QC_up Q3851_a hg3853 (fun k j _ _ _ => F3853 k j (by omega))
        refine y_rV (len := 1) (r := (0, 0, 0, 0)) (nL := 4) (n9 := 2) (hs := []) (by decide +kernel) rfl ?_
        have hv3854 := (ho3840 a 4 (Or.inl (by omega))).trans hv3834
        have hv3855 := (ho3851 a 4 (Or.inl (by omega))).trans hv3854
        have hv3856 := (F3853 a 4 (by omega)).trans hv3855
        have hv3857 := (F3705 a 5 (by omega) (by omega)).trans hv3707
        have hv3858 := (ho3765 a 5 (Or.inr (by omega))).trans hv3857
        have hv3859 := (F3822 a 5 (by omega)).trans hv3858
        have hv3860 := (ho3823 a 5 (Or.inr (by omega))).trans hv3859
        have hv3861 := (ho3833 a 5 (Or.inl (by omega))).trans hv3860
        have hv3862 := (ho3840 a 5 (Or.inl (by omega))).trans hv3861
        have hv3863 := (ho3851 a 5 (Or.inl (by omega))).trans hv3862
        have hv3864 := (F3853 a 5 (by omega)).trans hv3863
        have hv3865 := (ho3851 a 6 (Or.inl (by omega))).trans hv3849
        have hv3866 := (F3853 a 6 (by omega)).trans hv3865
        have hv3867 := (ho3840 28 6 (Or.inl (by omega))).trans hs3833
        have hv3868 := (ho3851 28 6 (Or.inr (by omega))).trans hv3867
        have hv3869 := (F3853 28 6 (by omega)).trans hv3868
        have hv3870 := (ho3694 31 2 (Or.inl (by omega))).trans hd2
        have hv3871 := (ho3700 31 2 (Or.inl (by omega))).trans hv3870
        have hv3872 := (F3701 31 2 (by omega)).trans hv3871
        have hv3873 := (F3705 31 2 (by omega) (by omega)).trans hv3872
        have hv3874 := (ho3765 31 2 (Or.inl (by omega))).trans hv3873
        have hv3875 := (F3822 31 2 (by omega)).trans hv3874
        have hv3876 := (ho3823 31 2 (Or.inl (by omega))).trans hv3875
        have hv3877 := (ho3833 31 2 (Or.inl (by omega))).trans hv3876
        have hv3878 := (ho3840 31 2 (Or.inr (by omega))).trans hv3877
        have hv3879 := (ho3851 31 2 (Or.inl (by omega))).trans hv3878
        have hv3880 := (F3853 31 2 (by omega)).trans hv3879
        refine ⟨(s9, st, r, l, (row + 1), (i : Int)), ⟨rfl, rfl, Or.inr ⟨s9, ry3701, rfl, Or.inr (Or.inr ⟨by3705, ty3769, fd⟩)⟩⟩, hg3853, ⟨a, (rfs_up ra (((F3853 29 n (by omega)).trans ((ho3851 29 n (by omega)).trans ((ho3840 29 n (by omega)).trans ((ho3833 29 n (by omega)).trans ((ho3823 29 n (by omega)).trans ((F3822 29 n (by omega)).trans ((ho3765 29 n (by omega)).trans ((F3705 29 n (by omega) (by omega)).trans ((F3701 29 n (by omega)).trans ((ho3700 29 n (by omega)).trans (ho3694 29 n (by omega)))))))))))))), ha, LQ_of Q3853, ⟨_, hv3856, by show _ = ((st : Nat) : Int); omega⟩, ⟨_, hv3866, by show _ = (((row + 1) : Nat) : Int); omega⟩, ⟨_, hv3864, by show _ = ((i : Int) : Int); omega⟩, fun _ => Q3853, fun _ q => ci_up (c8 q) (((F3853 a 8 (by omega)).trans ((ho3851 a 8 (by omega)).trans ((ho3840 a 8 (by omega)).trans ((ho3833 a 8 (by omega)).trans (ho3823 a 8 (by omega))))))), fun _ q => ci_up (c9 q) (((F3853 a 9 (by omega)).trans ((ho3851 a 9 (by omega)).trans ((ho3840 a 9 (by omega)).trans ((ho3833 a 9 (by omega)).trans (ho3823 a 9 (by omega)))))))⟩, ⟨_, hv3869, by omega⟩, ?_, gr2, fun k j h1 h2 h3 h4 h5 => ((F3853 k j (by omega)).trans ((ho3851 k j (by omega)).trans ((ho3840 k j (by omega)).trans ((ho3833 k j (by omega)).trans ((ho3823 k j (by omega)).trans ((F3822 k j (by omega)).trans ((ho3765 k j (by omega)).trans ((F3705 k j (by omega) (by omega)).trans ((F3701 k j (by omega)).trans ((ho3700 k j (by omega)).trans (ho3694 k j (by omega))))))))))))⟩
        show ci_ _ 31 2 (dn + (if st = 2 then 1 else 0))
        rw [if_neg (by omega)]
        exact ⟨_, hv3880, by omega⟩
  ·
    refine y_same (i := .istore_n 3) (len := 1) (r := (0, 0, 0, 0)) (pc' := 42) (ls' := [some (.inl (some 28)), some (zi xf), some (.inl (some a)), some (zi y3701)]) (st' := []) (by decide +kernel) (fun k q => by cases q) rfl ?_
    refine y_same (i := .aload_n 2) (len := 1) (r := (0, 0, 0, 0)) (pc' := 43) (ls' := [some (.inl (some 28)), some (zi xf), some (.inl (some a)), some (zi y3701)]) (st' := [.inl (some a)]) (by decide +kernel) (fun k q => by cases q) rfl ?_
    refine y_same (i := .iload_n 3) (len := 1) (r := (0, 0, 0, 0)) (pc' := 44) (ls' := [some (.inl (some 28)), some (zi xf), some (.inl (some a)), some (zi y3701)]) (st' := [zi y3701, .inl (some a)]) (by decide +kernel) (fun k q => by cases q) rfl ?_
    refine y_iT (c := .eq) (off := 18) (pc' := 62) (len := 3) (r := (0, 0, 0, 0)) (by decide +kernel) (acmpT (c := .eq) (by show _ = _; omega)) (by decide +kernel) ?_
    refine y_ic (c := (-1)) (len := 1) (r := (0, 0, 0, 0)) (by decide +kernel) (by decide) (fun y3881 hy3881 => ?_)
    refine y_put (j := 137) (lo := (-2147483648)) (hi := 2147483647) (len := 3) (r := (7, 7, 0, 20551)) (by decide +kernel) Q3701.1 Q3701.2.1.1 aw1008 rfl rfl (by decide) rfl (qin_full _).1 (qin_full _).2 rfl (fun h3882 hg3882 hl3882 hs3882 ho3882 => ?_)
    have ho3882 : hO a 7 h3701 h3882 := ho3882
    have hs3882 : hsl h3882 a 7 = some (zi y3881) := hs3882
    have Q3882_a := QC_up Q3701 hg3882 (fun k j _ _ _ => ho3882 k j (by omega))
    refine y_same (i := .iload_n 3) (len := 1) (r := (0, 0, 0, 0)) (pc' := 67) (ls' := [some (.inl (some 28)), some (zi xf), some (.inl (some a)), some (zi y3701)]) (st' := [zi y3701]) (by decide +kernel) (fun k q => by cases q) rfl ?_
    refine y_iF (c := .ne) (off := 11) (len := 3) (r := (0, 0, 0, 0)) (by decide +kernel) (acmpF (c := .ne) (by show _ = _; omega)) ?_
    refine y_same (i := .aload_n 2) (len := 1) (r := (0, 0, 0, 0)) (pc' := 71) (ls' := [some (.inl (some 28)), some (zi xf), some (.inl (some a)), some (zi y3701)]) (st' := [.inl (some a)]) (by decide +kernel) (fun k q => by cases q) rfl ?_
    refine y_ic (c := 0) (len := 1) (r := (0, 0, 0, 0)) (by decide +kernel) (by decide) (fun y3883 hy3883 => ?_)
    refine y_put (j := 71) (lo := (-2147483648)) (hi := 2147483647) (len := 3) (r := (7, 4, 0, 20543)) (by decide +kernel) Q3882_a.1 Q3882_a.2.1.1 aw1008 rfl rfl (by decide) rfl (qin_full _).1 (qin_full _).2 rfl (fun h3884 hg3884 hl3884 hs3884 ho3884 => ?_)
    have ho3884 : hO a 4 h3882 h3884 := ho3884
    have hs3884 : hsl h3884 a 4 = some (zi y3883) := hs3884
    have Q3884_a := QC_up Q3882_a hg3884 (fun k j _ _ _ => ho3884 k j (by omega))
    refine y_goto (off := 42) (pc' := 117) (len := 3) (r := (0, 0, 0, 0)) (by decide +kernel) (by decide +kernel) ?_
    refine y_same (i := .aload_n 0) (len := 1) (r := (0, 0, 0, 0)) (pc' := 118) (ls' := [some (.inl (some 28)), some (zi xf), some (.inl (some a)), some (zi y3701)]) (st' := [.inl (some 28)]) (by decide +kernel) (fun k q => by cases q) rfl ?_
    refine y_same (i := .dup) (len := 1) (r := (0, 0, 0, 0)) (pc' := 119) (ls' := [some (.inl (some 28)), some (zi xf), some (.inl (some a)), some (zi y3701)]) (st' := [.inl (some 28), .inl (some 28)]) (by decide +kernel) (fun k q => by cases q) rfl ?_
    have hv3885 := (ho3694 28 6 (Or.inl (by omega))).trans hn
    have hv3886 := (ho3700 28 6 (Or.inl (by omega))).trans hv3885
    have hv3887 := (F3701 28 6 (by omega)).trans hv3886
    have hv3888 := (ho3882 28 6 (Or.inl (by omega))).trans hv3887
    have hv3889 := (ho3884 28 6 (Or.inl (by omega))).trans hv3888
    refine y_get (j := 35) (len := 3) (r := (4, 6, 0, 289)) (by decide +kernel) Q3884_a.1 (tv28 Q3884_a.1) aw28 rfl rfl hv3889 ?_
    refine y_ic (c := 1) (len := 1) (r := (0, 0, 0, 0)) (by decide +kernel) (by decide) (fun y3890 hy3890 => ?_)
    refine y_add (len := 1) (r := (0, 0, 0, 0)) (by decide +kernel) (by omega) (by omega) (fun y3891 hy3891 => ?_)
    refine y_put (j := 35) (lo := (-2147483648)) (hi := 2147483647) (len := 3) (r := (4, 6, 0, 289)) (by decide +kernel) Q3884_a.1 (tv28 Q3884_a.1) aw28 rfl rfl (by decide) rfl (qin_full _).1 (qin_full _).2 rfl (fun h3892 hg3892 hl3892 hs3892 ho3892 => ?_)
    have ho3892 : hO 28 6 h3884 h3892 := ho3892
    have hs3892 : hsl h3892 28 6 = some (zi y3891) := hs3892
    have Q3892_a := QC_up Q3884_a hg3892 (fun k j _ _ _ => ho3892 k j (by omega))
    refine y_same (i := .aload_n 2) (len := 1) (r := (0, 0, 0, 0)) (pc' := 128) (ls' := [some (.inl (some 28)), some (zi xf), some (.inl (some a)), some (zi y3701)]) (st' := [.inl (some a)]) (by decide +kernel) (fun k q => by cases q) rfl ?_
    have hv3893 := (ho3892 a 4 (Or.inl (by omega))).trans hs3884
    refine y_get (j := 71) (len := 3) (r := (7, 4, 0, 20543)) (by decide +kernel) Q3892_a.1 Q3892_a.2.1.1 aw1008 rfl rfl hv3893 ?_
    refine y_iF (c := .lt) (off := 25) (len := 3) (r := (0, 0, 0, 0)) (by decide +kernel) (acmpF (c := .lt) (by show _ ≤ _; omega)) ?_
    refine y_same (i := .aload_n 2) (len := 1) (r := (0, 0, 0, 0)) (pc' := 135) (ls' := [some (.inl (some 28)), some (zi xf), some (.inl (some a)), some (zi y3701)]) (st' := [.inl (some a)]) (by decide +kernel) (fun k q => by cases q) rfl ?_
    refine y_get (j := 71) (len := 3) (r := (7, 4, 0, 20543)) (by decide +kernel) Q3892_a.1 Q3892_a.2.1.1 aw1008 rfl rfl hv3893 ?_
    refine y_bi (c := 9) (len := 2) (r := (0, 0, 0, 0)) (by decide +kernel) (by decide) (fun y3894 hy3894 => ?_)
    refine y_cF (c := .gt) (off := 16) (len := 3) (r := (0, 0, 0, 0)) (by decide +kernel) (acmpF (c := .gt) (by show _ ≤ _; omega)) ?_
    refine y_same (i := .aload_n 0) (len := 1) (r := (0, 0, 0, 0)) (pc' := 144) (ls' := [some (.inl (some 28)), some (zi xf), some (.inl (some a)), some (zi y3701)]) (st' := [.inl (some 28)]) (by decide +kernel) (fun k q => by cases q) rfl ?_
    refine y_get (j := 21) (len := 3) (r := (4, 3, 2, 285)) (by decide +kernel) Q3892_a.1 (tv28 Q3892_a.1) aw28 rfl rfl (g_rU (f := 3) (T2 := 31) Q3892_a.1 (tv28 Q3892_a.1) aw28 rfl (by decide)) ?_
    refine y_same (i := .aload_n 2) (len := 1) (r := (0, 0, 0, 0)) (pc' := 148) (ls' := [some (.inl (some 28)), some (zi xf), some (.inl (some a)), some (zi y3701)]) (st' := [.inl (some a), .inl (some 31)]) (by decide +kernel) (fun k q => by cases q) rfl ?_
    refine y_get (j := 71) (len := 3) (r := (7, 4, 0, 20543)) (by decide +kernel) Q3892_a.1 Q3892_a.2.1.1 aw1008 rfl rfl hv3893 ?_
    refine y_same (i := .dup2) (len := 1) (r := (0, 0, 0, 0)) (pc' := 152) (ls' := [some (.inl (some 28)), some (zi xf), some (.inl (some a)), some (zi y3701)]) (st' := [zi y3883, .inl (some 31), zi y3883, .inl (some 31)]) (by decide +kernel) (fun k q => by cases q) rfl ?_
    obtain ⟨v3895, hv3896, lv3895, uv3895⟩ := g_int (i := 0) Q3892_a.1 (tv31 Q3892_a.1) aw31 (show 0 < 10 by omega) (sr1 (by omega))
    refine y_ial (i := 0) (len := 1) (r := (0, 0, 0, 0)) (by decide +kernel) Q3892_a.1 (tv31 Q3892_a.1) aw31 (by omega) hv3896 ?_
    refine y_ic (c := 1) (len := 1) (r := (0, 0, 0, 0)) (by decide +kernel) (by decide) (fun y3897 hy3897 => ?_)
    refine y_bp (i := .iadd) (f := fun x y => x + y) (len := 1) (r := (0, 0, 0, 0)) (by decide +kernel) rfl rfl (fun y3898 hy3898 => ?_)
    refine y_ias (i := 0) (len := 1) (r := (0, 0, 0, 0)) (by decide +kernel) Q3892_a.1 (tv31 Q3892_a.1) aw31 rfl (by omega) (by omega) (sr1 (by omega)) (qin_full _).1 (qin_full _).2 (fun h3899 hg3899 hl3899 hs3899 ho3899 => ?_)
    have Q3899_a := QC_up Q3892_a hg3899 (fun k j _ _ _ => ho3899 k j (by omega))
    refine y_same (i := .aload_n 0) (len := 1) (r := (0, 0, 0, 0)) (pc' := 157) (ls' := [some (.inl (some 28)), some (zi xf), some (.inl (some a)), some (zi y3701)]) (st' := [.inl (some 28)]) (by decide +kernel) (fun k q => by cases q) rfl ?_
    refine y_same (i := .aload_n 0) (len := 1) (r := (0, 0, 0, 0)) (pc' := 158) (ls' := [some (.inl (some 28)), some (zi xf), some (.inl (some a)), some (zi y3701)]) (st' := [.inl (some 28), .inl (some 28)]) (by decide +kernel) (fun k q => by cases q) rfl ?_
    obtain ⟨v3900, hv3901, lv3900, uv3900⟩ := g_int (i := 9) (lo := (-2147483648)) (hi := 2147483647) Q3899_a.1 (tv28 Q3899_a.1) aw28 (by decide) rfl
    refine y_get (j := 45) (len := 3) (r := (4, 9, 0, 294)) (by decide +kernel) Q3899_a.1 (tv28 Q3899_a.1) aw28 rfl rfl hv3901 ?_
    refine y_same (i := .aload_n 2) (len := 1) (r := (0, 0, 0, 0)) (pc' := 162) (ls' := [some (.inl (some 28)), some (zi xf), some (.inl (some a)), some (zi y3701)]) (st' := [.inl (some a), zi v3900, .inl (some 28)]) (by decide +kernel) (fun k q => by cases q) rfl ?_
    have hv3902 := (F3701 a 6 (by omega)).trans hs3700
    have hv3903 := (ho3882 a 6 (Or.inr (by omega))).trans hv3902
    have hv3904 := (ho3884 a 6 (Or.inr (by omega))).trans hv3903
    have hv3905 := (ho3892 a 6 (Or.inl (by omega))).trans hv3904
    have hv3906 := (ho3899 a 6 (Or.inl (by omega))).trans hv3905
    refine y_get (j := 110) (len := 3) (r := (7, 6, 0, 20549)) (by decide +kernel) Q3899_a.1 Q3899_a.2.1.1 aw1008 rfl rfl hv3906 ?_
    refine y_cI (i := .invokestatic 63) (len := 3) (r := (1, 266, 60, 510)) (nL := 2) (k := 1) (n := 2) (hs := []) (args := [zi v3900, zi y3699]) (rest := [.inl (some 28)]) (l0 := [some (zi v3900), some (zi y3699)]) (by decide +kernel) (Or.inl ⟨_, rfl⟩) rfl rfl rfl rfl (Nat.le_of_ble_eq_true rfl) rfl rfl (qI_le (by omega) (e_jmax (d := 0))) (fun y3907 qy3907 hRy3907 => ?_)
    obtain ⟨rfl, my3907, wy3907⟩ := hRy3907
    refine y_put (j := 45) (lo := (-2147483648)) (hi := 2147483647) (len := 3) (r := (4, 9, 0, 294)) (by decide +kernel) Q3899_a.1 (tv28 Q3899_a.1) aw28 rfl rfl (by decide) rfl (qin_full _).1 (qin_full _).2 rfl (fun h3908 hg3908 hl3908 hs3908 ho3908 => ?_)
    have ho3908 : hO 28 9 h3899 h3908 := ho3908
    have hs3908 : hsl h3908 28 9 = some (zi y3907) := hs3908
    have Q3908_a := QC_up Q3899_a hg3908 (fun k j _ _ _ => ho3908 k j (by omega))
    refine y_same (i := .aload_n 0) (len := 1) (r := (0, 0, 0, 0)) (pc' := 172) (ls' := [some (.inl (some 28)), some (zi xf), some (.inl (some a)), some (zi y3701)]) (st' := [.inl (some 28)]) (by decide +kernel) (fun k q => by cases q) rfl ?_
    refine y_same (i := .aload_n 2) (len := 1) (r := (0, 0, 0, 0)) (pc' := 173) (ls' := [some (.inl (some 28)), some (zi xf), some (.inl (some a)), some (zi y3701)]) (st' := [.inl (some a), .inl (some 28)]) (by decide +kernel) (fun k q => by cases q) rfl ?_
    refine y_cI (i := .invokevirtual 147) (len := 3) (r := (0, 82, 7, 751)) (nL := 1) (k := 1) (n := 1) (hs := []) (args := [.inl (some a)]) (rest := [.inl (some 28)]) (l0 := [some (.inl (some a))]) (by decide +kernel) (Or.inr (Or.inl ⟨_, rfl⟩)) rfl rfl rfl rfl (Nat.le_of_ble_eq_true rfl) (zO Q3908_a.1 Q3908_a.2.1.1 aw1008 rfl) rfl (qI_le (by omega) (q_mns (d := 0) Q3908_a)) (fun y3909 qy3909 hRy3909 => ?_)
    obtain ⟨rfl, ty3909⟩ := hRy3909
    have gr3910 : gR h3908 28 := by obtain ⟨x9, a9, b9⟩ := gr; exact ⟨x9, (((ho3908 28 10 (by omega)).trans ((ho3899 28 10 (by omega)).trans ((ho3892 28 10 (by omega)).trans ((ho3884 28 10 (by omega)).trans ((ho3882 28 10 (by omega)).trans ((F3701 28 10 (by omega)).trans ((ho3700 28 10 (by omega)).trans (ho3694 28 10 (by omega)))))))))).trans a9, b9⟩
    refine y_cV (i := .invokevirtual 150) (len := 3) (r := (0, 43, 4, 759)) (nL := 3) (k := 0) (n := 2) (hs := []) (args := [.inl (some 28), zi y3909]) (rest := []) (l0 := [some (.inl (some 28)), some (zi y3909), none]) (by decide +kernel) (Or.inr (Or.inl ⟨_, rfl⟩)) rfl rfl rfl rfl (Nat.le_of_ble_eq_true rfl) (zO Q3908_a.1 (tv28 Q3908_a.1) aw28 rfl) rfl (qV_le (by omega) (e_ng28 (d := 0) Q3908_a.1 gr3910)) (fun h3910 hR3910 => ?_)
    obtain ⟨hg3910, gr2, F3910⟩ := hR3910
    have Q3910 := QC_up Q3908_a hg3910 (fun k j _ _ _ => F3910 k j (by omega))
    refine y_rV (len := 1) (r := (0, 0, 0, 0)) (nL := 4) (n9 := 2) (hs := []) (by decide +kernel) rfl ?_
    have hv3911 := (ho3899 a 4 (Or.inl (by omega))).trans hv3893
    have hv3912 := (ho3908 a 4 (Or.inl (by omega))).trans hv3911
    have hv3913 := (F3910 a 4 (by omega)).trans hv3912
    have hv3914 := (ho3700 a 5 (Or.inr (by omega))).trans hs3694
    have hv3915 := (F3701 a 5 (by omega)).trans hv3914
    have hv3916 := (ho3882 a 5 (Or.inr (by omega))).trans hv3915
    have hv3917 := (ho3884 a 5 (Or.inr (by omega))).trans hv3916
    have hv3918 := (ho3892 a 5 (Or.inl (by omega))).trans hv3917
    have hv3919 := (ho3899 a 5 (Or.inl (by omega))).trans hv3918
    have hv3920 := (ho3908 a 5 (Or.inl (by omega))).trans hv3919
    have hv3921 := (F3910 a 5 (by omega)).trans hv3920
    have hv3922 := (ho3908 a 6 (Or.inl (by omega))).trans hv3906
    have hv3923 := (F3910 a 6 (by omega)).trans hv3922
    have hv3924 := (ho3899 28 6 (Or.inl (by omega))).trans hs3892
    have hv3925 := (ho3908 28 6 (Or.inr (by omega))).trans hv3924
    have hv3926 := (F3910 28 6 (by omega)).trans hv3925
    have hv3927 := (ho3694 31 2 (Or.inl (by omega))).trans hd2
    have hv3928 := (ho3700 31 2 (Or.inl (by omega))).trans hv3927
    have hv3929 := (F3701 31 2 (by omega)).trans hv3928
    have hv3930 := (ho3882 31 2 (Or.inl (by omega))).trans hv3929
    have hv3931 := (ho3884 31 2 (Or.inl (by omega))).trans hv3930
    have hv3932 := (ho3892 31 2 (Or.inl (by omega))).trans hv3931
    have hv3933 := (ho3899 31 2 (Or.inr (by omega))).trans hv3932
    have hv3934 := (ho3908 31 2 (Or.inl (by omega))).trans hv3933
    have hv3935 := (F3910 31 2 (by omega)).trans hv3934
    refine ⟨(s9, 0, 0, 0, (row + 1), (i : Int)), ⟨rfl, rfl, Or.inl ⟨ry3701, rfl⟩⟩, hg3910, ⟨a, (rfs_up ra (((F3910 29 n (by omega)).trans ((ho3908 29 n (by omega)).trans ((ho3899 29 n (by omega)).trans ((ho3892 29 n (by omega)).trans ((ho3884 29 n (by omega)).trans ((ho3882 29 n (by omega)).trans ((F3701 29 n (by omega)).trans ((ho3700 29 n (by omega)).trans (ho3694 29 n (by omega)))))))))))), ha, LQ_of Q3910, ⟨_, hv3913, by show _ = ((0 : Nat) : Int); omega⟩, ⟨_, hv3923, by show _ = (((row + 1) : Nat) : Int); omega⟩, ⟨_, hv3921, by show _ = ((i : Int) : Int); omega⟩, fun q => absurd rfl q, fun q => absurd q (by show ¬ 3 ≤ 0; omega), fun q => absurd q (by show ¬ 3 ≤ 0; omega)⟩, ⟨_, hv3926, by omega⟩, ?_, gr2, fun k j h1 h2 h3 h4 h5 => ((F3910 k j (by omega)).trans ((ho3908 k j (by omega)).trans ((ho3899 k j (by omega)).trans ((ho3892 k j (by omega)).trans ((ho3884 k j (by omega)).trans ((ho3882 k j (by omega)).trans ((F3701 k j (by omega)).trans ((ho3700 k j (by omega)).trans (ho3694 k j (by omega))))))))))⟩
    show ci_ _ 31 2 (dn + (if 0 = 2 then 1 else 0))
    rw [if_neg (by omega)]
    exact ⟨_, hv3935, by omega⟩
