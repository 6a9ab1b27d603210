/-! the reference: a sequent comes, all are proved -/
theorem cmq_f {d t n : Nat} {τ : List Nat} {h : zh} {L : List enT} {s : sqT} {xf xw : Int32} {l3 l4 : Option zv} (hn9 : n < 300) (Q : QM τ h 378 s) (exf : xf.toInt = -1) (cn : ci_ h 52 26 n) (ml0 : kx_ h 52 32 0) (hL : L.length = n) (pE : ∀ (k : Nat) (e : enT), L[k]? = some e → pmE τ h k e) (wl : ∀ e ∈ L, wfE e) (nv : nvI L) (ch : chI L) : qX (d + 6) 231 44 [some (.inl (some 52)), some (zi xf), some (zi xw), l3, l4] [] h t (rI (fun y h1 => (y.toInt = 0 ∧ h = h1 ∧ big_ s) ∨ (y.toInt = 1 ∧ ¬ big_ s ∧ ∃ e, setR (cyP L (-1)) false s (-1) 1 e ∧ hG τ h1 ∧ pmE τ h1 n e ∧ ci_ h1 52 26 (n + 1) ∧ ∀ k j, k ≠ 71 + n → (k ≠ 52 ∨ j ≠ 26) → ((k < 371 ∨ 376 < k) ∨ j ≠ n) → k ≠ 68 → k ≠ 69 → hsl h1 k j = hsl h k j)) t) := by
  obtain ⟨xn, hn26, en⟩ := cn
  obtain ⟨T, c0, tA, aT, hc0, pT⟩ := rwT_r (n := n) Q.1 hn9
  refine y_same (i := .aload_n 0) (len := 1) (r := (0, 0, 0, 0)) (pc' := 45) (ls' := [some (.inl (some 52)), some (zi xf), some (zi xw), l3, l4]) (st' := [.inl (some 52)]) (by decide +kernel) (fun k q => by cases q) rfl ?_
  refine y_get (j := 61) (len := 3) (r := (12, 23, 2, 1351)) (by decide +kernel) Q.1 (t52 Q.1) at52 rfl rfl (g_r52 (f := 23) (T2 := 378) Q.1 rfl (by decide)).1 ?_
  refine y_ic (c := 0) (len := 1) (r := (0, 0, 0, 0)) (by decide +kernel) (by decide) (fun y3652 hy3652 => ?_)
  obtain ⟨z3653, hz3653, ez3653⟩ := Q.2.2.1.1
  have ez3653 : z3653.toInt = ((s.1.length : Nat) : Int) := ez3653
  have mz3653 := qm_lenL Q
  have mz3653 : s.1.length ≤ 14 := mz3653
  refine y_ial (i := 0) (len := 1) (r := (0, 0, 0, 0)) (by decide +kernel) Q.1 (tu378 Q.1) at378 (by omega) hz3653 ?_
  refine y_bi (c := 12) (len := 2) (r := (0, 0, 0, 0)) (by decide +kernel) (by decide) (fun y3654 hy3654 => ?_)
  rcases Decidable.em (z3653.toInt > y3654.toInt) with q3655 | q3655
  ·
    refine y_cT (c := .gt) (off := 25) (pc' := 77) (len := 3) (r := (0, 0, 0, 0)) (by decide +kernel) (acmpT (c := .gt) (by show _ < _; omega)) (by decide +kernel) ?_
    refine y_ic (c := 0) (len := 1) (r := (0, 0, 0, 0)) (by decide +kernel) (by decide) (fun y3656 hy3656 => ?_)
    refine y_rI (len := 1) (r := (0, 0, 0, 0)) (nL := 5) (k := 2) (n9 := 3) (hs := []) (by decide +kernel) rfl (zfit_b (by omega) (by omega)).2 ?_
    exact Or.inl ⟨by omega, rfl, Or.inl (by omega)⟩
  ·
    refine y_cF (c := .gt) (off := 25) (len := 3) (r := (0, 0, 0, 0)) (by decide +kernel) (acmpF (c := .gt) (by show _ ≤ _; omega)) ?_
    refine y_same (i := .aload_n 0) (len := 1) (r := (0, 0, 0, 0)) (pc' := 56) (ls' := [some (.inl (some 52)), some (zi xf), some (zi xw), l3, l4]) (st' := [.inl (some 52)]) (by decide +kernel) (fun k q => by cases q) rfl ?_
    refine y_get (j := 61) (len := 3) (r := (12, 23, 2, 1351)) (by decide +kernel) Q.1 (t52 Q.1) at52 rfl rfl (g_r52 (f := 23) (T2 := 378) Q.1 rfl (by decide)).1 ?_
    refine y_ic (c := 1) (len := 1) (r := (0, 0, 0, 0)) (by decide +kernel) (by decide) (fun y3657 hy3657 => ?_)
    obtain ⟨z3658, hz3658, ez3658⟩ := Q.2.2.1.2.1
    have ez3658 : z3658.toInt = ((s.2.1.length : Nat) : Int) := ez3658
    have mz3658 := qm_lenR Q
    have mz3658 : s.2.1.length ≤ 14 := mz3658
    refine y_ial (i := 1) (len := 1) (r := (0, 0, 0, 0)) (by decide +kernel) Q.1 (tu378 Q.1) at378 (by omega) hz3658 ?_
    refine y_bi (c := 12) (len := 2) (r := (0, 0, 0, 0)) (by decide +kernel) (by decide) (fun y3659 hy3659 => ?_)
    rcases Decidable.em (z3658.toInt > y3659.toInt) with q3660 | q3660
    ·
      refine y_cT (c := .gt) (off := 14) (pc' := 77) (len := 3) (r := (0, 0, 0, 0)) (by decide +kernel) (acmpT (c := .gt) (by show _ < _; omega)) (by decide +kernel) ?_
      refine y_ic (c := 0) (len := 1) (r := (0, 0, 0, 0)) (by decide +kernel) (by decide) (fun y3661 hy3661 => ?_)
      refine y_rI (len := 1) (r := (0, 0, 0, 0)) (nL := 5) (k := 2) (n9 := 3) (hs := []) (by decide +kernel) rfl (zfit_b (by omega) (by omega)).2 ?_
      exact Or.inl ⟨by omega, rfl, Or.inr (Or.inl (by omega))⟩
    ·
      refine y_cF (c := .gt) (off := 14) (len := 3) (r := (0, 0, 0, 0)) (by decide +kernel) (acmpF (c := .gt) (by show _ ≤ _; omega)) ?_
      refine y_same (i := .aload_n 0) (len := 1) (r := (0, 0, 0, 0)) (pc' := 67) (ls' := [some (.inl (some 52)), some (zi xf), some (zi xw), l3, l4]) (st' := [.inl (some 52)]) (by decide +kernel) (fun k q => by cases q) rfl ?_
      refine y_get (j := 61) (len := 3) (r := (12, 23, 2, 1351)) (by decide +kernel) Q.1 (t52 Q.1) at52 rfl rfl (g_r52 (f := 23) (T2 := 378) Q.1 rfl (by decide)).1 ?_
      refine y_ic (c := 2) (len := 1) (r := (0, 0, 0, 0)) (by decide +kernel) (by decide) (fun y3662 hy3662 => ?_)
      obtain ⟨z3663, hz3663, ez3663⟩ := Q.2.2.1.2.2.1
      have ez3663 : z3663.toInt = ((s.2.2.1.length : Nat) : Int) := ez3663
      have mz3663 := qm_lenC Q
      have mz3663 : s.2.2.1.length ≤ 14 := mz3663
      refine y_ial (i := 2) (len := 1) (r := (0, 0, 0, 0)) (by decide +kernel) Q.1 (tu378 Q.1) at378 (by omega) hz3663 ?_
      refine y_bi (c := 12) (len := 2) (r := (0, 0, 0, 0)) (by decide +kernel) (by decide) (fun y3664 hy3664 => ?_)
      rcases Decidable.em (z3663.toInt ≤ y3664.toInt) with q3665 | q3665
      ·
        refine y_cT (c := .le) (off := 5) (pc' := 79) (len := 3) (r := (0, 0, 0, 0)) (by decide +kernel) (acmpT (c := .le) (by show _ ≤ _; omega)) (by decide +kernel) ?_
        have nb : ¬ big_ s := fun q9 => q9.elim (fun q8 => by omega) (fun q8 => q8.elim (fun q7 => by omega) (fun q7 => by omega))
        have ok9 := Q.2.2.2
        refine y_same (i := .aload_n 0) (len := 1) (r := (0, 0, 0, 0)) (pc' := 80) (ls' := [some (.inl (some 52)), some (zi xf), some (zi xw), l3, l4]) (st' := [.inl (some 52)]) (by decide +kernel) (fun k q => by cases q) rfl ?_
        refine y_get (j := 348) (len := 3) (r := (12, 26, 0, 1354)) (by decide +kernel) Q.1 (t52 Q.1) at52 rfl rfl hn26 ?_
        refine y_same (i := .istore_n 3) (len := 1) (r := (0, 0, 0, 0)) (pc' := 84) (ls' := [some (.inl (some 52)), some (zi xf), some (zi xw), some (zi xn), l4]) (st' := []) (by decide +kernel) (fun k q => by cases q) rfl ?_
        refine y_same (i := .aload_n 0) (len := 1) (r := (0, 0, 0, 0)) (pc' := 85) (ls' := [some (.inl (some 52)), some (zi xf), some (zi xw), some (zi xn), l4]) (st' := [.inl (some 52)]) (by decide +kernel) (fun k q => by cases q) rfl ?_
        refine y_same (i := .dup) (len := 1) (r := (0, 0, 0, 0)) (pc' := 86) (ls' := [some (.inl (some 52)), some (zi xf), some (zi xw), some (zi xn), l4]) (st' := [.inl (some 52), .inl (some 52)]) (by decide +kernel) (fun k q => by cases q) rfl ?_
        refine y_get (j := 348) (len := 3) (r := (12, 26, 0, 1354)) (by decide +kernel) Q.1 (t52 Q.1) at52 rfl rfl hn26 ?_
        refine y_ic (c := 1) (len := 1) (r := (0, 0, 0, 0)) (by decide +kernel) (by decide) (fun y3666 hy3666 => ?_)
        refine y_add (len := 1) (r := (0, 0, 0, 0)) (by decide +kernel) (by omega) (by omega) (fun y3667 hy3667 => ?_)
        refine y_put (j := 348) (lo := 0) (hi := 300) (len := 3) (r := (12, 26, 0, 1354)) (by decide +kernel) Q.1 (t52 Q.1) at52 rfl rfl (by decide) rfl (by omega) (by omega) rfl (fun h3668 hg3668 hl3668 hs3668 ho3668 => ?_)
        have ho3668 : hO 52 26 h h3668 := ho3668
        have hs3668 : hsl h3668 52 26 = some (zi y3667) := hs3668
        have Q3668 := QM_up Q hg3668 (fun j => ho3668 378 j (by omega))
        refine y_same (i := .aload_n 0) (len := 1) (r := (0, 0, 0, 0)) (pc' := 95) (ls' := [some (.inl (some 52)), some (zi xf), some (zi xw), some (zi xn), l4]) (st' := [.inl (some 52)]) (by decide +kernel) (fun k q => by cases q) rfl ?_
        refine y_get (j := 40) (len := 3) (r := (12, 16, 2, 1344)) (by decide +kernel) hg3668 (t52 hg3668) at52 rfl rfl (g_r52 (f := 16) (T2 := 371) hg3668 rfl (by decide)).1 ?_
        refine y_same (i := .iload_n 3) (len := 1) (r := (0, 0, 0, 0)) (pc' := 99) (ls' := [some (.inl (some 52)), some (zi xf), some (zi xw), some (zi xn), l4]) (st' := [zi xn, .inl (some 371)]) (by decide +kernel) (fun k q => by cases q) rfl ?_
        refine y_same (i := .iload_n 1) (len := 1) (r := (0, 0, 0, 0)) (pc' := 100) (ls' := [some (.inl (some 52)), some (zi xf), some (zi xw), some (zi xn), l4]) (st' := [zi xf, zi xn, .inl (some 371)]) (by decide +kernel) (fun k q => by cases q) rfl ?_
        refine y_ias (i := n) (len := 1) (r := (0, 0, 0, 0)) (by decide +kernel) hg3668 (tu371 hg3668) at371 rfl (by omega) (by omega) (sr1 (by omega)) (by omega) (by omega) (fun h3669 hg3669 hl3669 hs3669 ho3669 => ?_)
        have Q3669 := QM_up Q3668 hg3669 (fun j => ho3669 378 j (by omega))
        refine y_same (i := .aload_n 0) (len := 1) (r := (0, 0, 0, 0)) (pc' := 102) (ls' := [some (.inl (some 52)), some (zi xf), some (zi xw), some (zi xn), l4]) (st' := [.inl (some 52)]) (by decide +kernel) (fun k q => by cases q) rfl ?_
        refine y_get (j := 43) (len := 3) (r := (12, 17, 2, 1345)) (by decide +kernel) hg3669 (t52 hg3669) at52 rfl rfl (g_r52 (f := 17) (T2 := 372) hg3669 rfl (by decide)).1 ?_
        refine y_same (i := .iload_n 3) (len := 1) (r := (0, 0, 0, 0)) (pc' := 106) (ls' := [some (.inl (some 52)), some (zi xf), some (zi xw), some (zi xn), l4]) (st' := [zi xn, .inl (some 372)]) (by decide +kernel) (fun k q => by cases q) rfl ?_
        refine y_same (i := .iload_n 1) (len := 1) (r := (0, 0, 0, 0)) (pc' := 107) (ls' := [some (.inl (some 52)), some (zi xf), some (zi xw), some (zi xn), l4]) (st' := [zi xf, zi xn, .inl (some 372)]) (by decide +kernel) (fun k q => by cases q) rfl ?_
        refine y_ic (c := (-1)) (len := 1) (r := (0, 0, 0, 0)) (by decide +kernel) (by decide) (fun y3670 hy3670 => ?_)
        refine y_cF (c := .ne) (off := 7) (len := 3) (r := (0, 0, 0, 0)) (by decide +kernel) (acmpF (c := .ne) (by show _ = _; omega)) ?_
        refine y_ic (c := 1) (len := 1) (r := (0, 0, 0, 0)) (by decide +kernel) (by decide) (fun y3671 hy3671 => ?_)
        refine y_goto (off := 11) (pc' := 123) (len := 3) (r := (0, 0, 0, 0)) (by decide +kernel) (by decide +kernel) ?_
        refine y_ias (i := n) (len := 1) (r := (0, 0, 0, 0)) (by decide +kernel) hg3669 (tu372 hg3669) at372 rfl (by omega) (by omega) (sr1 (by omega)) (by omega) (by omega) (fun h3672 hg3672 hl3672 hs3672 ho3672 => ?_)
        have Q3672 := QM_up Q3669 hg3672 (fun j => ho3672 378 j (by omega))
        refine y_same (i := .aload_n 0) (len := 1) (r := (0, 0, 0, 0)) (pc' := 125) (ls' := [some (.inl (some 52)), some (zi xf), some (zi xw), some (zi xn), l4]) (st' := [.inl (some 52)]) (by decide +kernel) (fun k q => by cases q) rfl ?_
        refine y_get (j := 55) (len := 3) (r := (12, 21, 2, 1349)) (by decide +kernel) hg3672 (t52 hg3672) at52 rfl rfl (g_r52 (f := 21) (T2 := 376) hg3672 rfl (by decide)).1 ?_
        refine y_same (i := .iload_n 3) (len := 1) (r := (0, 0, 0, 0)) (pc' := 129) (ls' := [some (.inl (some 52)), some (zi xf), some (zi xw), some (zi xn), l4]) (st' := [zi xn, .inl (some 376)]) (by decide +kernel) (fun k q => by cases q) rfl ?_
        refine y_ic (c := (-1)) (len := 1) (r := (0, 0, 0, 0)) (by decide +kernel) (by decide) (fun y3673 hy3673 => ?_)
        refine y_ias (i := n) (len := 1) (r := (0, 0, 0, 0)) (by decide +kernel) hg3672 (tu376 hg3672) at376 rfl (by omega) (by omega) (sr1 (by omega)) (by omega) (by omega) (fun h3674 hg3674 hl3674 hs3674 ho3674 => ?_)
        have Q3674 := QM_up Q3672 hg3674 (fun j => ho3674 378 j (by omega))
        refine y_same (i := .aload_n 0) (len := 1) (r := (0, 0, 0, 0)) (pc' := 132) (ls' := [some (.inl (some 52)), some (zi xf), some (zi xw), some (zi xn), l4]) (st' := [.inl (some 52)]) (by decide +kernel) (fun k q => by cases q) rfl ?_
        refine y_get (j := 61) (len := 3) (r := (12, 23, 2, 1351)) (by decide +kernel) hg3674 (t52 hg3674) at52 rfl rfl (g_r52 (f := 23) (T2 := 378) hg3674 rfl (by decide)).1 ?_
        refine y_same (i := .aload_n 0) (len := 1) (r := (0, 0, 0, 0)) (pc' := 136) (ls' := [some (.inl (some 52)), some (zi xf), some (zi xw), some (zi xn), l4]) (st' := [.inl (some 52), .inl (some 378)]) (by decide +kernel) (fun k q => by cases q) rfl ?_
        refine y_get (j := 37) (len := 3) (r := (12, 15, 2, 1343)) (by decide +kernel) hg3674 (t52 hg3674) at52 rfl rfl (g_r52 (f := 15) (T2 := 70) hg3674 rfl (by decide)).1 ?_
        refine y_same (i := .iload_n 3) (len := 1) (r := (0, 0, 0, 0)) (pc' := 140) (ls' := [some (.inl (some 52)), some (zi xf), some (zi xw), some (zi xn), l4]) (st' := [zi xn, .inl (some 70), .inl (some 378)]) (by decide +kernel) (fun k q => by cases q) rfl ?_
        refine y_aal (i := n) (len := 1) (r := (0, 0, 0, 0)) (by decide +kernel) hg3674 (tu70 hg3674) at70 rfl (by omega) (hg3674.2.2 n (by omega)) ?_
        refine y_si (c := 200) (len := 3) (r := (0, 0, 0, 0)) (by decide +kernel) (by decide) (fun y3675 hy3675 => ?_)
        refine y_cV (i := .invokestatic 216) (len := 3) (r := (1, 185, 12, 1572)) (nL := 4) (k := 0) (n := 3) (hs := []) (args := [.inl (some 378), .inl (some ((71 + n))), zi y3675]) (rest := []) (l0 := [some (.inl (some 378)), some (.inl (some ((71 + n)))), some (zi y3675), none]) (by decide +kernel) (Or.inl ⟨_, rfl⟩) rfl rfl rfl rfl (Nat.le_of_ble_eq_true rfl) rfl rfl (qV_le (by omega) (m_cpy (d := 0) (B := 378) (A := 71 + n) Q3674 (rwT_r hg3674 hn9) (by omega) (by omega) nb)) (fun h3676 hR3676 => ?_)
        obtain ⟨Q3676, F3676⟩ := hR3676
        refine y_same (i := .aload_n 0) (len := 1) (r := (0, 0, 0, 0)) (pc' := 148) (ls' := [some (.inl (some 52)), some (zi xf), some (zi xw), some (zi xn), l4]) (st' := [.inl (some 52)]) (by decide +kernel) (fun k q => by cases q) rfl ?_
        refine y_get (j := 37) (len := 3) (r := (12, 15, 2, 1343)) (by decide +kernel) Q3676.1 (t52 Q3676.1) at52 rfl rfl (g_r52 (f := 15) (T2 := 70) Q3676.1 rfl (by decide)).1 ?_
        refine y_same (i := .iload_n 3) (len := 1) (r := (0, 0, 0, 0)) (pc' := 152) (ls' := [some (.inl (some 52)), some (zi xf), some (zi xw), some (zi xn), l4]) (st' := [zi xn, .inl (some 70)]) (by decide +kernel) (fun k q => by cases q) rfl ?_
        refine y_aal (i := n) (len := 1) (r := (0, 0, 0, 0)) (by decide +kernel) Q3676.1 (tu70 Q3676.1) at70 rfl (by omega) (Q3676.1.2.2 n (by omega)) ?_
        refine y_cI (i := .invokestatic 354) (len := 3) (r := (1, 213, 12, 1709)) (nL := 3) (k := 2) (n := 1) (hs := []) (args := [.inl (some ((71 + n)))]) (rest := []) (l0 := [some (.inl (some ((71 + n)))), none, none]) (by decide +kernel) (Or.inl ⟨_, rfl⟩) rfl rfl rfl rfl (Nat.le_of_ble_eq_true rfl) rfl rfl (qI_le (by omega) (m_vd (d := 0) Q3676)) (fun y3677 qy3677 hRy3677 => ?_)
        obtain ⟨rfl, hDy3677⟩ := hRy3677
        refine y_same (i := .istore 4) (len := 2) (r := (0, 0, 0, 0)) (pc' := 158) (ls' := [some (.inl (some 52)), some (zi xf), some (zi xw), some (zi xn), some (zi y3677)]) (st' := []) (by decide +kernel) (fun k q => by cases q) rfl ?_
        have hv3678 := (ho3669 52 26 (Or.inl (by omega))).trans hs3668
        have hv3679 := (ho3672 52 26 (Or.inl (by omega))).trans hv3678
        have hv3680 := (ho3674 52 26 (Or.inl (by omega))).trans hv3679
        have hv3681 := (F3676 52 26 (by omega)).trans hv3680
        have hv3682 := (ho3672 371 n (Or.inl (by omega))).trans hs3669
        have hv3683 := (ho3674 371 n (Or.inl (by omega))).trans hv3682
        have hv3684 := (F3676 371 n (by omega)).trans hv3683
        have hv3685 := (ho3674 372 n (Or.inl (by omega))).trans hs3672
        have hv3686 := (F3676 372 n (by omega)).trans hv3685
        have hv3687 := (F3676 376 n (by omega)).trans hs3674
        have E0 : ∀ k j, k ≠ 71 + n → (k ≠ 52 ∨ j ≠ 26) → ((k < 371 ∨ 376 < k) ∨ j ≠ n) → hsl h3676 k j = hsl h k j := fun k j _ _ _ => ((F3676 k j (by omega)).trans ((ho3674 k j (by omega)).trans ((ho3672 k j (by omega)).trans ((ho3669 k j (by omega)).trans (ho3668 k j (by omega))))))
        refine rdm_l hn9 (by omega) (mr2 s + 1) h3676 s y3677 Q3676 hDy3677 (by omega) (fun h9 x9 rd g9 e9 F9 => ?_) (fun h9 s9 x9 rd Q9 e9 F9 => ?_)
        ·
          refine y_same (i := .iload 4) (len := 2) (r := (0, 0, 0, 0)) (pc' := 191) (ls' := [some (.inl (some 52)), some (zi xf), some (zi xw), some (zi xn), some (zi x9)]) (st' := [zi x9]) (by decide +kernel) (fun k q => by cases q) rfl ?_
          refine y_iF (c := .eq) (off := 13) (len := 3) (r := (0, 0, 0, 0)) (by decide +kernel) (acmpF (c := .eq) (by show ¬ (_ = _); omega)) ?_
          refine y_same (i := .aload_n 0) (len := 1) (r := (0, 0, 0, 0)) (pc' := 195) (ls' := [some (.inl (some 52)), some (zi xf), some (zi xw), some (zi xn), some (zi x9)]) (st' := [.inl (some 52)]) (by decide +kernel) (fun k q => by cases q) rfl ?_
          refine y_get (j := 46) (len := 3) (r := (12, 18, 2, 1346)) (by decide +kernel) g9 (t52 g9) at52 rfl rfl (g_r52 (f := 18) (T2 := 373) g9 rfl (by decide)).1 ?_
          refine y_same (i := .iload_n 3) (len := 1) (r := (0, 0, 0, 0)) (pc' := 199) (ls' := [some (.inl (some 52)), some (zi xf), some (zi xw), some (zi xn), some (zi x9)]) (st' := [zi xn, .inl (some 373)]) (by decide +kernel) (fun k q => by cases q) rfl ?_
          refine y_ic (c := 0) (len := 1) (r := (0, 0, 0, 0)) (by decide +kernel) (by decide) (fun y3688 hy3688 => ?_)
          refine y_ias (i := n) (len := 1) (r := (0, 0, 0, 0)) (by decide +kernel) g9 (tu373 g9) at373 rfl (by omega) (by omega) (sr1 (by omega)) (by omega) (by omega) (fun h3689 hg3689 hl3689 hs3689 ho3689 => ?_)
          refine y_goto (off := 8) (pc' := 209) (len := 3) (r := (0, 0, 0, 0)) (by decide +kernel) (by decide +kernel) ?_
          refine y_ic (c := 1) (len := 1) (r := (0, 0, 0, 0)) (by decide +kernel) (by decide) (fun y3690 hy3690 => ?_)
          refine y_rI (len := 1) (r := (0, 0, 0, 0)) (nL := 5) (k := 2) (n9 := 3) (hs := []) (by decide +kernel) rfl (zfit_b (by omega) (by omega)).2 ?_
          exact Or.inr ⟨by omega, nb, (s, 0, 0, 0, 1, (-1)), ⟨rfl, rfl, Or.inl ⟨rd, rfl⟩⟩, hg3689, ⟨⟨_, hs3689, by show _ = ((0 : Nat) : Int); omega⟩, ⟨_, ((((ho3689 372 n (by omega)).trans ((F9 372 n (by omega))))).trans hv3686), by show _ = ((1 : Nat) : Int); omega⟩, ⟨_, ((((ho3689 371 n (by omega)).trans ((F9 371 n (by omega))))).trans hv3684), by show _ = ((-1) : Int); omega⟩, fun q => absurd rfl q, fun q => absurd q (by show ¬ 3 ≤ 0; omega), fun q => absurd q (by show ¬ 3 ≤ 0; omega)⟩, ⟨_, ((((ho3689 52 26 (by omega)).trans ((F9 52 26 (by omega))))).trans hv3681), by omega⟩, fun k j h1 h2 h3 h4 h5 => (((ho3689 k j (by omega)).trans ((F9 k j (by omega))))).trans (E0 k j h1 h2 h3)⟩
        ·
          have nb9 := Rd_big rd nb
          have b1 : ¬ 12 < s9.1.length := fun q => nb9 (Or.inl q)
          have b2 : ¬ 12 < s9.2.1.length := fun q => nb9 (Or.inr (Or.inl q))
          have ml : kx_ h9 52 32 0 := kx_up ml0 ((F9 52 32 (by omega)).trans (E0 52 32 (by omega) (by omega) (by omega)))
          refine y_same (i := .iload 4) (len := 2) (r := (0, 0, 0, 0)) (pc' := 191) (ls' := [some (.inl (some 52)), some (zi xf), some (zi xw), some (zi xn), some (zi x9)]) (st' := [zi x9]) (by decide +kernel) (fun k q => by cases q) rfl ?_
          refine y_iT (c := .eq) (off := 13) (pc' := 204) (len := 3) (r := (0, 0, 0, 0)) (by decide +kernel) (acmpT (c := .eq) (by show _ = _; omega)) (by decide +kernel) ?_
          refine y_same (i := .aload_n 0) (len := 1) (r := (0, 0, 0, 0)) (pc' := 205) (ls' := [some (.inl (some 52)), some (zi xf), some (zi xw), some (zi xn), some (zi x9)]) (st' := [.inl (some 52)]) (by decide +kernel) (fun k q => by cases q) rfl ?_
          refine y_same (i := .iload_n 3) (len := 1) (r := (0, 0, 0, 0)) (pc' := 206) (ls' := [some (.inl (some 52)), some (zi xf), some (zi xw), some (zi xn), some (zi x9)]) (st' := [zi xn, .inl (some 52)]) (by decide +kernel) (fun k q => by cases q) rfl ?_
          have pE9 : ∀ (k9 : Nat) (e9 : enT), L[k9]? = some e9 → pmE τ h9 k9 e9 := fun k9 e9 hk9 => pmE_up (pE k9 e9 hk9) Q9.1 (fun k j hC => by have l9 := (List.getElem?_eq_some_iff.mp hk9).1; exact (F9 k j (by omega)).trans (E0 k j (by omega) (by omega) (by omega)))
          refine y_cV (i := .invokevirtual 360) (len := 3) (r := (0, 233, 12, 1730)) (nL := 5) (k := 0) (n := 2) (hs := []) (args := [.inl (some 52), zi xn]) (rest := []) (l0 := [some (.inl (some 52)), some (zi xn), none, none, none]) (by decide +kernel) (Or.inr (Or.inl ⟨_, rfl⟩)) rfl rfl rfl rfl (Nat.le_of_ble_eq_true rfl) (z52 Q9.1) rfl (qV_le (by omega) (m_stq (d := 0) (L := L) (i := (-1)) (by omega) (by omega) (by omega) hn9 Q9 pE9 hL wl nv ch ⟨_, ((F9 371 n (by omega)).trans hv3684), by omega⟩ (Or.inl rfl) (kx_up ml (rfl)) ⟨_, ((F9 376 n (by omega)).trans hv3687), by omega⟩)) (fun h3691 hR3691 => ?_)
          refine y_ic (c := 1) (len := 1) (r := (0, 0, 0, 0)) (by decide +kernel) (by decide) (fun y3692 hy3692 => ?_)
          refine y_rI (len := 1) (r := (0, 0, 0, 0)) (nL := 5) (k := 2) (n9 := 3) (hs := []) (by decide +kernel) rfl (zfit_b (by omega) (by omega)).2 ?_
          rcases hR3691 with ⟨cy, g2, c3, F2⟩ | ⟨nc, dn, g2, c3, F2⟩ | ⟨nc, dn, g2, ⟨st, r, l, fd, c3, c4, c5⟩, F2⟩
          · exact Or.inr ⟨by omega, nb, (s9, 1, 0, 0, 1, (-1)), ⟨rfl, rfl, Or.inr ⟨s9, rd, rfl, Or.inl ⟨cy, rfl⟩⟩⟩, g2, ⟨c3, ⟨_, (F2 372 n (by omega) (by omega) (by omega)).trans ((F9 372 n (by omega)).trans hv3686), by show _ = ((1 : Nat) : Int); omega⟩, ⟨_, (F2 371 n (by omega) (by omega) (by omega)).trans ((F9 371 n (by omega)).trans hv3684), by show _ = ((-1) : Int); omega⟩, fun _ => QM_up Q9 g2 (fun j => F2 (71 + n) j (by omega) (by omega) (by omega)), fun q => absurd q (by show ¬ 3 ≤ 1; omega), fun q => absurd q (by show ¬ 3 ≤ 1; omega)⟩, ⟨_, (F2 52 26 (by omega) (by omega) (by omega)).trans ((F9 52 26 (by omega)).trans hv3681), by omega⟩, fun k j h1 h2 h3 h4 h5 => (F2 k j (by omega) (by omega) (by omega)).trans ((F9 k j (by omega)).trans (E0 k j h1 h2 h3))⟩
          · exact Or.inr ⟨by omega, nb, (s9, 2, 0, 0, 1, (-1)), ⟨rfl, rfl, Or.inr ⟨s9, rd, rfl, Or.inr (Or.inl ⟨nc, dn, rfl⟩)⟩⟩, g2, ⟨c3, ⟨_, (F2 372 n (by omega) (by omega) (by omega)).trans ((F9 372 n (by omega)).trans hv3686), by show _ = ((1 : Nat) : Int); omega⟩, ⟨_, (F2 371 n (by omega) (by omega) (by omega)).trans ((F9 371 n (by omega)).trans hv3684), by show _ = ((-1) : Int); omega⟩, fun _ => QM_up Q9 g2 (fun j => F2 (71 + n) j (by omega) (by omega) (by omega)), fun q => absurd q (by show ¬ 3 ≤ 2; omega), fun q => absurd q (by show ¬ 3 ≤ 2; omega)⟩, ⟨_, (F2 52 26 (by omega) (by omega) (by omega)).trans ((F9 52 26 (by omega)).trans hv3681), by omega⟩, fun k j h1 h2 h3 h4 h5 => (F2 k j (by omega) (by omega) (by omega)).trans ((F9 k j (by omega)).trans (E0 k j h1 h2 h3))⟩
          · exact Or.inr ⟨by omega, nb, (s9, st, r, l, 1, (-1)), ⟨rfl, rfl, Or.inr ⟨s9, rd, rfl, Or.inr (Or.inr ⟨nc, dn, fd⟩)⟩⟩, g2, ⟨c3, ⟨_, (F2 372 n (by omega) (by omega) (by omega)).trans ((F9 372 n (by omega)).trans hv3686), by show _ = ((1 : Nat) : Int); omega⟩, ⟨_, (F2 371 n (by omega) (by omega) (by omega)).trans ((F9 371 n (by omega)).trans hv3684), by show _ = ((-1) : Int); omega⟩, fun _ => QM_up Q9 g2 (fun j => F2 (71 + n) j (by omega) (by omega) (by omega)), fun _ => c4, fun _ => c5⟩, ⟨_, (F2 52 26 (by omega) (by omega) (by omega)).trans ((F9 52 26 (by omega)).trans hv3681), by omega⟩, fun k j h1 h2 h3 h4 h5 => (F2 k j (by omega) (by omega) (by omega)).trans ((F9 k j (by omega)).trans (E0 k j h1 h2 h3))⟩
      ·
        refine y_cF (c := .le) (off := 5) (len := 3) (r := (0, 0, 0, 0)) (by decide +kernel) (acmpF (c := .le) (by show _ < _; omega)) ?_
        refine y_ic (c := 0) (len := 1) (r := (0, 0, 0, 0)) (by decide +kernel) (by decide) (fun y3693 hy3693 => ?_)
        refine y_rI (len := 1) (r := (0, 0, 0, 0)) (nL := 5) (k := 2) (n9 := 3) (hs := []) (by decide +kernel) rfl (zfit_b (by omega) (by omega)).2 ?_
        exact Or.inl ⟨by omega, rfl, Or.inr (Or.inr (by omega))⟩
theorem cmq_n {d t n i row : Nat} {τ : List Nat} {h : zh} {L : List enT} {s : sqT} {xf xw : Int32} {l3 l4 : Option zv} (hn9 : n < 300) (Q : QM τ h 378 s) (exf : xf.toInt = (i : Int)) (hi : i < n) (cr : ci_ h 372 i row) (hrow : row ≤ 39) {ei : enT} (ke : L[i]? = some ei) (h3 : 3 ≤ ei.2.1) (h8 : ei.2.1 ≤ 8) (cn : ci_ h 52 26 n) (ml0 : kx_ h 52 32 0) (hL : L.length = n) (pE : ∀ (k : Nat) (e : enT), L[k]? = some e → pmE τ h k e) (wl : ∀ e ∈ L, wfE e) (nv : nvI L) (ch : chI L) : qX (d + 6) 231 44 [some (.inl (some 52)), some (zi xf), some (zi xw), l3, l4] [] h t (rI (fun y h1 => (y.toInt = 0 ∧ h = h1 ∧ big_ s) ∨ (y.toInt = 1 ∧ ¬ big_ s ∧ ∃ e, setR (cyP L (i : Int)) false s (i : Int) (row + 1) e ∧ hG τ h1 ∧ pmE τ h1 n e ∧ ci_ h1 52 26 (n + 1) ∧ ∀ k j, k ≠ 71 + n → (k ≠ 52 ∨ j ≠ 26) → ((k < 371 ∨ 376 < k) ∨ j ≠ n) → k ≠ 68 → k ≠ 69 → hsl h1 k j = hsl h k j)) t) := by
  obtain ⟨xn, hn26, en⟩ := cn
  obtain ⟨xr, hr372, er⟩ := cr
  obtain ⟨T, c0, tA, aT, hc0, pT⟩ := rwT_r (n := n) Q.1 hn9
  refine y_same (i := .aload_n 0) (len := 1) (r := (0, 0, 0, 0)) (pc' := 45) (ls' := [some (.inl (some 52)), some (zi xf), some (zi xw), l3, l4]) (st' := [.inl (some 52)]) (by decide +kernel) (fun k q => by cases q) rfl ?_
  refine y_get (j := 61) (len := 3) (r := (12, 23, 2, 1351)) (by decide +kernel) Q.1 (t52 Q.1) at52 rfl rfl (g_r52 (f := 23) (T2 := 378) Q.1 rfl (by decide)).1 ?_
  refine y_ic (c := 0) (len := 1) (r := (0, 0, 0, 0)) (by decide +kernel) (by decide) (fun y3694 hy3694 => ?_)
  obtain ⟨z3695, hz3695, ez3695⟩ := Q.2.2.1.1
  have ez3695 : z3695.toInt = ((s.1.length : Nat) : Int) := ez3695
  have mz3695 := qm_lenL Q
  have mz3695 : s.1.length ≤ 14 := mz3695
  refine y_ial (i := 0) (len := 1) (r := (0, 0, 0, 0)) (by decide +kernel) Q.1 (tu378 Q.1) at378 (by omega) hz3695 ?_
  refine y_bi (c := 12) (len := 2) (r := (0, 0, 0, 0)) (by decide +kernel) (by decide) (fun y3696 hy3696 => ?_)
  rcases Decidable.em (z3695.toInt > y3696.toInt) with q3697 | q3697
  ·
    refine y_cT (c := .gt) (off := 25) (pc' := 77) (len := 3) (r := (0, 0, 0, 0)) (by decide +kernel) (acmpT (c := .gt) (by show _ < _; omega)) (by decide +kernel) ?_
    refine y_ic (c := 0) (len := 1) (r := (0, 0, 0, 0)) (by decide +kernel) (by decide) (fun y3698 hy3698 => ?_)
    refine y_rI (len := 1) (r := (0, 0, 0, 0)) (nL := 5) (k := 2) (n9 := 3) (hs := []) (by decide +kernel) rfl (zfit_b (by omega) (by omega)).2 ?_
    exact Or.inl ⟨by omega, rfl, Or.inl (by omega)⟩
  ·
    refine y_cF (c := .gt) (off := 25) (len := 3) (r := (0, 0, 0, 0)) (by decide +kernel) (acmpF (c := .gt) (by show _ ≤ _; omega)) ?_
    refine y_same (i := .aload_n 0) (len := 1) (r := (0, 0, 0, 0)) (pc' := 56) (ls' := [some (.inl (some 52)), some (zi xf), some (zi xw), l3, l4]) (st' := [.inl (some 52)]) (by decide +kernel) (fun k q => by cases q) rfl ?_
    refine y_get (j := 61) (len := 3) (r := (12, 23, 2, 1351)) (by decide +kernel) Q.1 (t52 Q.1) at52 rfl rfl (g_r52 (f := 23) (T2 := 378) Q.1 rfl (by decide)).1 ?_
    refine y_ic (c := 1) (len := 1) (r := (0, 0, 0, 0)) (by decide +kernel) (by decide) (fun y3699 hy3699 => ?_)
    obtain ⟨z3700, hz3700, ez3700⟩ := Q.2.2.1.2.1
    have ez3700 : z3700.toInt = ((s.2.1.length : Nat) : Int) := ez3700
    have mz3700 := qm_lenR Q
    have mz3700 : s.2.1.length ≤ 14 := mz3700
    refine y_ial (i := 1) (len := 1) (r := (0, 0, 0, 0)) (by decide +kernel) Q.1 (tu378 Q.1) at378 (by omega) hz3700 ?_
    refine y_bi (c := 12) (len := 2) (r := (0, 0, 0, 0)) (by decide +kernel) (by decide) (fun y3701 hy3701 => ?_)
    rcases Decidable.em (z3700.toInt > y3701.toInt) with q3702 | q3702
    ·
      refine y_cT (c := .gt) (off := 14) (pc' := 77) (len := 3) (r := (0, 0, 0, 0)) (by decide +kernel) (acmpT (c := .gt) (by show _ < _; omega)) (by decide +kernel) ?_
      refine y_ic (c := 0) (len := 1) (r := (0, 0, 0, 0)) (by decide +kernel) (by decide) (fun y3703 hy3703 => ?_)
      refine y_rI (len := 1) (r := (0, 0, 0, 0)) (nL := 5) (k := 2) (n9 := 3) (hs := []) (by decide +kernel) rfl (zfit_b (by omega) (by omega)).2 ?_
      exact Or.inl ⟨by omega, rfl, Or.inr (Or.inl (by omega))⟩
    ·
      refine y_cF (c := .gt) (off := 14) (len := 3) (r := (0, 0, 0, 0)) (by decide +kernel) (acmpF (c := .gt) (by show _ ≤ _; omega)) ?_
      refine y_same (i := .aload_n 0) (len := 1) (r := (0, 0, 0, 0)) (pc' := 67) (ls' := [some (.inl (some 52)), some (zi xf), some (zi xw), l3, l4]) (st' := [.inl (some 52)]) (by decide +kernel) (fun k q => by cases q) rfl ?_
      refine y_get (j := 61) (len := 3) (r := (12, 23, 2, 1351)) (by decide +kernel) Q.1 (t52 Q.1) at52 rfl rfl (g_r52 (f := 23) (T2 := 378) Q.1 rfl (by decide)).1 ?_
      refine y_ic (c := 2) (len := 1) (r := (0, 0, 0, 0)) (by decide +kernel) (by decide) (fun y3704 hy3704 => ?_)
      obtain ⟨z3705, hz3705, ez3705⟩ := Q.2.2.1.2.2.1
      have ez3705 : z3705.toInt = ((s.2.2.1.length : Nat) : Int) := ez3705
      have mz3705 := qm_lenC Q
      have mz3705 : s.2.2.1.length ≤ 14 := mz3705
      refine y_ial (i := 2) (len := 1) (r := (0, 0, 0, 0)) (by decide +kernel) Q.1 (tu378 Q.1) at378 (by omega) hz3705 ?_
      refine y_bi (c := 12) (len := 2) (r := (0, 0, 0, 0)) (by decide +kernel) (by decide) (fun y3706 hy3706 => ?_)
      rcases Decidable.em (z3705.toInt ≤ y3706.toInt) with q3707 | q3707
      ·
        refine y_cT (c := .le) (off := 5) (pc' := 79) (len := 3) (r := (0, 0, 0, 0)) (by decide +kernel) (acmpT (c := .le) (by show _ ≤ _; omega)) (by decide +kernel) ?_
        have nb : ¬ big_ s := fun q9 => q9.elim (fun q8 => by omega) (fun q8 => q8.elim (fun q7 => by omega) (fun q7 => by omega))
        have ok9 := Q.2.2.2
        refine y_same (i := .aload_n 0) (len := 1) (r := (0, 0, 0, 0)) (pc' := 80) (ls' := [some (.inl (some 52)), some (zi xf), some (zi xw), l3, l4]) (st' := [.inl (some 52)]) (by decide +kernel) (fun k q => by cases q) rfl ?_
        refine y_get (j := 348) (len := 3) (r := (12, 26, 0, 1354)) (by decide +kernel) Q.1 (t52 Q.1) at52 rfl rfl hn26 ?_
        refine y_same (i := .istore_n 3) (len := 1) (r := (0, 0, 0, 0)) (pc' := 84) (ls' := [some (.inl (some 52)), some (zi xf), some (zi xw), some (zi xn), l4]) (st' := []) (by decide +kernel) (fun k q => by cases q) rfl ?_
        refine y_same (i := .aload_n 0) (len := 1) (r := (0, 0, 0, 0)) (pc' := 85) (ls' := [some (.inl (some 52)), some (zi xf), some (zi xw), some (zi xn), l4]) (st' := [.inl (some 52)]) (by decide +kernel) (fun k q => by cases q) rfl ?_
        refine y_same (i := .dup) (len := 1) (r := (0, 0, 0, 0)) (pc' := 86) (ls' := [some (.inl (some 52)), some (zi xf), some (zi xw), some (zi xn), l4]) (st' := [.inl (some 52), .inl (some 52)]) (by decide +kernel) (fun k q => by cases q) rfl ?_
        refine y_get (j := 348) (len := 3) (r := (12, 26, 0, 1354)) (by decide +kernel) Q.1 (t52 Q.1) at52 rfl rfl hn26 ?_
        refine y_ic (c := 1) (len := 1) (r := (0, 0, 0, 0)) (by decide +kernel) (by decide) (fun y3708 hy3708 => ?_)
        refine y_add (len := 1) (r := (0, 0, 0, 0)) (by decide +kernel) (by omega) (by omega) (fun y3709 hy3709 => ?_)
        refine y_put (j := 348) (lo := 0) (hi := 300) (len := 3) (r := (12, 26, 0, 1354)) (by decide +kernel) Q.1 (t52 Q.1) at52 rfl rfl (by decide) rfl (by omega) (by omega) rfl (fun h3710 hg3710 hl3710 hs3710 ho3710 => ?_)
        have ho3710 : hO 52 26 h h3710 := ho3710
        have hs3710 : hsl h3710 52 26 = some (zi y3709) := hs3710
        have Q3710 := QM_up Q hg3710 (fun j => ho3710 378 j (by omega))
        refine y_same (i := .aload_n 0) (len := 1) (r := (0, 0, 0, 0)) (pc' := 95) (ls' := [some (.inl (some 52)), some (zi xf), some (zi xw), some (zi xn), l4]) (st' := [.inl (some 52)]) (by decide +kernel) (fun k q => by cases q) rfl ?_
        refine y_get (j := 40) (len := 3) (r := (12, 16, 2, 1344)) (by decide +kernel) hg3710 (t52 hg3710) at52 rfl rfl (g_r52 (f := 16) (T2 := 371) hg3710 rfl (by decide)).1 ?_
        refine y_same (i := .iload_n 3) (len := 1) (r := (0, 0, 0, 0)) (pc' := 99) (ls' := [some (.inl (some 52)), some (zi xf), some (zi xw), some (zi xn), l4]) (st' := [zi xn, .inl (some 371)]) (by decide +kernel) (fun k q => by cases q) rfl ?_
        refine y_same (i := .iload_n 1) (len := 1) (r := (0, 0, 0, 0)) (pc' := 100) (ls' := [some (.inl (some 52)), some (zi xf), some (zi xw), some (zi xn), l4]) (st' := [zi xf, zi xn, .inl (some 371)]) (by decide +kernel) (fun k q => by cases q) rfl ?_
        refine y_ias (i := n) (len := 1) (r := (0, 0, 0, 0)) (by decide +kernel) hg3710 (tu371 hg3710) at371 rfl (by omega) (by omega) (sr1 (by omega)) (by omega) (by omega) (fun h3711 hg3711 hl3711 hs3711 ho3711 => ?_)
        have Q3711 := QM_up Q3710 hg3711 (fun j => ho3711 378 j (by omega))
        refine y_same (i := .aload_n 0) (len := 1) (r := (0, 0, 0, 0)) (pc' := 102) (ls' := [some (.inl (some 52)), some (zi xf), some (zi xw), some (zi xn), l4]) (st' := [.inl (some 52)]) (by decide +kernel) (fun k q => by cases q) rfl ?_
        refine y_get (j := 43) (len := 3) (r := (12, 17, 2, 1345)) (by decide +kernel) hg3711 (t52 hg3711) at52 rfl rfl (g_r52 (f := 17) (T2 := 372) hg3711 rfl (by decide)).1 ?_
        refine y_same (i := .iload_n 3) (len := 1) (r := (0, 0, 0, 0)) (pc' := 106) (ls' := [some (.inl (some 52)), some (zi xf), some (zi xw), some (zi xn), l4]) (st' := [zi xn, .inl (some 372)]) (by decide +kernel) (fun k q => by cases q) rfl ?_
        refine y_same (i := .iload_n 1) (len := 1) (r := (0, 0, 0, 0)) (pc' := 107) (ls' := [some (.inl (some 52)), some (zi xf), some (zi xw), some (zi xn), l4]) (st' := [zi xf, zi xn, .inl (some 372)]) (by decide +kernel) (fun k q => by cases q) rfl ?_
        refine y_ic (c := (-1)) (len := 1) (r := (0, 0, 0, 0)) (by decide +kernel) (by decide) (fun y3712 hy3712 => ?_)
        refine y_cT (c := .ne) (off := 7) (pc' := 115) (len := 3) (r := (0, 0, 0, 0)) (by decide +kernel) (acmpT (c := .ne) (by show ¬ (_ = _); omega)) (by decide +kernel) ?_
        refine y_same (i := .aload_n 0) (len := 1) (r := (0, 0, 0, 0)) (pc' := 116) (ls' := [some (.inl (some 52)), some (zi xf), some (zi xw), some (zi xn), l4]) (st' := [.inl (some 52), zi xn, .inl (some 372)]) (by decide +kernel) (fun k q => by cases q) rfl ?_
        refine y_get (j := 43) (len := 3) (r := (12, 17, 2, 1345)) (by decide +kernel) hg3711 (t52 hg3711) at52 rfl rfl (g_r52 (f := 17) (T2 := 372) hg3711 rfl (by decide)).1 ?_
        refine y_same (i := .iload_n 1) (len := 1) (r := (0, 0, 0, 0)) (pc' := 120) (ls' := [some (.inl (some 52)), some (zi xf), some (zi xw), some (zi xn), l4]) (st' := [zi xf, .inl (some 372), zi xn, .inl (some 372)]) (by decide +kernel) (fun k q => by cases q) rfl ?_
        have hv3713 := (ho3710 372 i (Or.inl (by omega))).trans hr372
        have hv3714 := (ho3711 372 i (Or.inl (by omega))).trans hv3713
        refine y_ial (i := i) (len := 1) (r := (0, 0, 0, 0)) (by decide +kernel) hg3711 (tu372 hg3711) at372 (by omega) hv3714 ?_
        refine y_ic (c := 1) (len := 1) (r := (0, 0, 0, 0)) (by decide +kernel) (by decide) (fun y3715 hy3715 => ?_)
        refine y_add (len := 1) (r := (0, 0, 0, 0)) (by decide +kernel) (by omega) (by omega) (fun y3716 hy3716 => ?_)
        refine y_ias (i := n) (len := 1) (r := (0, 0, 0, 0)) (by decide +kernel) hg3711 (tu372 hg3711) at372 rfl (by omega) (by omega) (sr1 (by omega)) (by omega) (by omega) (fun h3717 hg3717 hl3717 hs3717 ho3717 => ?_)
        have Q3717 := QM_up Q3711 hg3717 (fun j => ho3717 378 j (by omega))
        refine y_same (i := .aload_n 0) (len := 1) (r := (0, 0, 0, 0)) (pc' := 125) (ls' := [some (.inl (some 52)), some (zi xf), some (zi xw), some (zi xn), l4]) (st' := [.inl (some 52)]) (by decide +kernel) (fun k q => by cases q) rfl ?_
        refine y_get (j := 55) (len := 3) (r := (12, 21, 2, 1349)) (by decide +kernel) hg3717 (t52 hg3717) at52 rfl rfl (g_r52 (f := 21) (T2 := 376) hg3717 rfl (by decide)).1 ?_
        refine y_same (i := .iload_n 3) (len := 1) (r := (0, 0, 0, 0)) (pc' := 129) (ls' := [some (.inl (some 52)), some (zi xf), some (zi xw), some (zi xn), l4]) (st' := [zi xn, .inl (some 376)]) (by decide +kernel) (fun k q => by cases q) rfl ?_
        refine y_ic (c := (-1)) (len := 1) (r := (0, 0, 0, 0)) (by decide +kernel) (by decide) (fun y3718 hy3718 => ?_)
        refine y_ias (i := n) (len := 1) (r := (0, 0, 0, 0)) (by decide +kernel) hg3717 (tu376 hg3717) at376 rfl (by omega) (by omega) (sr1 (by omega)) (by omega) (by omega) (fun h3719 hg3719 hl3719 hs3719 ho3719 => ?_)
        have Q3719 := QM_up Q3717 hg3719 (fun j => ho3719 378 j (by omega))
        refine y_same (i := .aload_n 0) (len := 1) (r := (0, 0, 0, 0)) (pc' := 132) (ls' := [some (.inl (some 52)), some (zi xf), some (zi xw), some (zi xn), l4]) (st' := [.inl (some 52)]) (by decide +kernel) (fun k q => by cases q) rfl ?_
        refine y_get (j := 61) (len := 3) (r := (12, 23, 2, 1351)) (by decide +kernel) hg3719 (t52 hg3719) at52 rfl rfl (g_r52 (f := 23) (T2 := 378) hg3719 rfl (by decide)).1 ?_
        refine y_same (i := .aload_n 0) (len := 1) (r := (0, 0, 0, 0)) (pc' := 136) (ls' := [some (.inl (some 52)), some (zi xf), some (zi xw), some (zi xn), l4]) (st' := [.inl (some 52), .inl (some 378)]) (by decide +kernel) (fun k q => by cases q) rfl ?_
        refine y_get (j := 37) (len := 3) (r := (12, 15, 2, 1343)) (by decide +kernel) hg3719 (t52 hg3719) at52 rfl rfl (g_r52 (f := 15) (T2 := 70) hg3719 rfl (by decide)).1 ?_
        refine y_same (i := .iload_n 3) (len := 1) (r := (0, 0, 0, 0)) (pc' := 140) (ls' := [some (.inl (some 52)), some (zi xf), some (zi xw), some (zi xn), l4]) (st' := [zi xn, .inl (some 70), .inl (some 378)]) (by decide +kernel) (fun k q => by cases q) rfl ?_
        refine y_aal (i := n) (len := 1) (r := (0, 0, 0, 0)) (by decide +kernel) hg3719 (tu70 hg3719) at70 rfl (by omega) (hg3719.2.2 n (by omega)) ?_
        refine y_si (c := 200) (len := 3) (r := (0, 0, 0, 0)) (by decide +kernel) (by decide) (fun y3720 hy3720 => ?_)
        refine y_cV (i := .invokestatic 216) (len := 3) (r := (1, 185, 12, 1572)) (nL := 4) (k := 0) (n := 3) (hs := []) (args := [.inl (some 378), .inl (some ((71 + n))), zi y3720]) (rest := []) (l0 := [some (.inl (some 378)), some (.inl (some ((71 + n)))), some (zi y3720), none]) (by decide +kernel) (Or.inl ⟨_, rfl⟩) rfl rfl rfl rfl (Nat.le_of_ble_eq_true rfl) rfl rfl (qV_le (by omega) (m_cpy (d := 0) (B := 378) (A := 71 + n) Q3719 (rwT_r hg3719 hn9) (by omega) (by omega) nb)) (fun h3721 hR3721 => ?_)
        obtain ⟨Q3721, F3721⟩ := hR3721
        refine y_same (i := .aload_n 0) (len := 1) (r := (0, 0, 0, 0)) (pc' := 148) (ls' := [some (.inl (some 52)), some (zi xf), some (zi xw), some (zi xn), l4]) (st' := [.inl (some 52)]) (by decide +kernel) (fun k q => by cases q) rfl ?_
        refine y_get (j := 37) (len := 3) (r := (12, 15, 2, 1343)) (by decide +kernel) Q3721.1 (t52 Q3721.1) at52 rfl rfl (g_r52 (f := 15) (T2 := 70) Q3721.1 rfl (by decide)).1 ?_
        refine y_same (i := .iload_n 3) (len := 1) (r := (0, 0, 0, 0)) (pc' := 152) (ls' := [some (.inl (some 52)), some (zi xf), some (zi xw), some (zi xn), l4]) (st' := [zi xn, .inl (some 70)]) (by decide +kernel) (fun k q => by cases q) rfl ?_
        refine y_aal (i := n) (len := 1) (r := (0, 0, 0, 0)) (by decide +kernel) Q3721.1 (tu70 Q3721.1) at70 rfl (by omega) (Q3721.1.2.2 n (by omega)) ?_
        refine y_cI (i := .invokestatic 354) (len := 3) (r := (1, 213, 12, 1709)) (nL := 3) (k := 2) (n := 1) (hs := []) (args := [.inl (some ((71 + n)))]) (rest := []) (l0 := [some (.inl (some ((71 + n)))), none, none]) (by decide +kernel) (Or.inl ⟨_, rfl⟩) rfl rfl rfl rfl (Nat.le_of_ble_eq_true rfl) rfl rfl (qI_le (by omega) (m_vd (d := 0) Q3721)) (fun y3722 qy3722 hRy3722 => ?_)
        obtain ⟨rfl, hDy3722⟩ := hRy3722
        refine y_same (i := .istore 4) (len := 2) (r := (0, 0, 0, 0)) (pc' := 158) (ls' := [some (.inl (some 52)), some (zi xf), some (zi xw), some (zi xn), some (zi y3722)]) (st' := []) (by decide +kernel) (fun k q => by cases q) rfl ?_
        have hv3723 := (ho3711 52 26 (Or.inl (by omega))).trans hs3710
        have hv3724 := (ho3717 52 26 (Or.inl (by omega))).trans hv3723
        have hv3725 := (ho3719 52 26 (Or.inl (by omega))).trans hv3724
        have hv3726 := (F3721 52 26 (by omega)).trans hv3725
        have hv3727 := (ho3717 371 n (Or.inl (by omega))).trans hs3711
        have hv3728 := (ho3719 371 n (Or.inl (by omega))).trans hv3727
        have hv3729 := (F3721 371 n (by omega)).trans hv3728
        have hv3730 := (ho3719 372 n (Or.inl (by omega))).trans hs3717
        have hv3731 := (F3721 372 n (by omega)).trans hv3730
        have hv3732 := (F3721 376 n (by omega)).trans hs3719
        have E0 : ∀ k j, k ≠ 71 + n → (k ≠ 52 ∨ j ≠ 26) → ((k < 371 ∨ 376 < k) ∨ j ≠ n) → hsl h3721 k j = hsl h k j := fun k j _ _ _ => ((F3721 k j (by omega)).trans ((ho3719 k j (by omega)).trans ((ho3717 k j (by omega)).trans ((ho3711 k j (by omega)).trans (ho3710 k j (by omega))))))
        refine rdm_l hn9 (by omega) (mr2 s + 1) h3721 s y3722 Q3721 hDy3722 (by omega) (fun h9 x9 rd g9 e9 F9 => ?_) (fun h9 s9 x9 rd Q9 e9 F9 => ?_)
        ·
          refine y_same (i := .iload 4) (len := 2) (r := (0, 0, 0, 0)) (pc' := 191) (ls' := [some (.inl (some 52)), some (zi xf), some (zi xw), some (zi xn), some (zi x9)]) (st' := [zi x9]) (by decide +kernel) (fun k q => by cases q) rfl ?_
          refine y_iF (c := .eq) (off := 13) (len := 3) (r := (0, 0, 0, 0)) (by decide +kernel) (acmpF (c := .eq) (by show ¬ (_ = _); omega)) ?_
          refine y_same (i := .aload_n 0) (len := 1) (r := (0, 0, 0, 0)) (pc' := 195) (ls' := [some (.inl (some 52)), some (zi xf), some (zi xw), some (zi xn), some (zi x9)]) (st' := [.inl (some 52)]) (by decide +kernel) (fun k q => by cases q) rfl ?_
          refine y_get (j := 46) (len := 3) (r := (12, 18, 2, 1346)) (by decide +kernel) g9 (t52 g9) at52 rfl rfl (g_r52 (f := 18) (T2 := 373) g9 rfl (by decide)).1 ?_
          refine y_same (i := .iload_n 3) (len := 1) (r := (0, 0, 0, 0)) (pc' := 199) (ls' := [some (.inl (some 52)), some (zi xf), some (zi xw), some (zi xn), some (zi x9)]) (st' := [zi xn, .inl (some 373)]) (by decide +kernel) (fun k q => by cases q) rfl ?_
          refine y_ic (c := 0) (len := 1) (r := (0, 0, 0, 0)) (by decide +kernel) (by decide) (fun y3733 hy3733 => ?_)
          refine y_ias (i := n) (len := 1) (r := (0, 0, 0, 0)) (by decide +kernel) g9 (tu373 g9) at373 rfl (by omega) (by omega) (sr1 (by omega)) (by omega) (by omega) (fun h3734 hg3734 hl3734 hs3734 ho3734 => ?_)
          refine y_goto (off := 8) (pc' := 209) (len := 3) (r := (0, 0, 0, 0)) (by decide +kernel) (by decide +kernel) ?_
          refine y_ic (c := 1) (len := 1) (r := (0, 0, 0, 0)) (by decide +kernel) (by decide) (fun y3735 hy3735 => ?_)
          refine y_rI (len := 1) (r := (0, 0, 0, 0)) (nL := 5) (k := 2) (n9 := 3) (hs := []) (by decide +kernel) rfl (zfit_b (by omega) (by omega)).2 ?_
          exact Or.inr ⟨by omega, nb, (s, 0, 0, 0, (row + 1), (i : Int)), ⟨rfl, rfl, Or.inl ⟨rd, rfl⟩⟩, hg3734, ⟨⟨_, hs3734, by show _ = ((0 : Nat) : Int); omega⟩, ⟨_, ((((ho3734 372 n (by omega)).trans ((F9 372 n (by omega))))).trans hv3731), by show _ = (((row + 1) : Nat) : Int); omega⟩, ⟨_, ((((ho3734 371 n (by omega)).trans ((F9 371 n (by omega))))).trans hv3729), by show _ = ((i : Int) : Int); omega⟩, fun q => absurd rfl q, fun q => absurd q (by show ¬ 3 ≤ 0; omega), fun q => absurd q (by show ¬ 3 ≤ 0; omega)⟩, ⟨_, ((((ho3734 52 26 (by omega)).trans ((F9 52 26 (by omega))))).trans hv3726), by omega⟩, fun k j h1 h2 h3 h4 h5 => (((ho3734 k j (by omega)).trans ((F9 k j (by omega))))).trans (E0 k j h1 h2 h3)⟩
        ·
          have nb9 := Rd_big rd nb
          have b1 : ¬ 12 < s9.1.length := fun q => nb9 (Or.inl q)
          have b2 : ¬ 12 < s9.2.1.length := fun q => nb9 (Or.inr (Or.inl q))
          have ml : kx_ h9 52 32 0 := kx_up ml0 ((F9 52 32 (by omega)).trans (E0 52 32 (by omega) (by omega) (by omega)))
          refine y_same (i := .iload 4) (len := 2) (r := (0, 0, 0, 0)) (pc' := 191) (ls' := [some (.inl (some 52)), some (zi xf), some (zi xw), some (zi xn), some (zi x9)]) (st' := [zi x9]) (by decide +kernel) (fun k q => by cases q) rfl ?_
          refine y_iT (c := .eq) (off := 13) (pc' := 204) (len := 3) (r := (0, 0, 0, 0)) (by decide +kernel) (acmpT (c := .eq) (by show _ = _; omega)) (by decide +kernel) ?_
          refine y_same (i := .aload_n 0) (len := 1) (r := (0, 0, 0, 0)) (pc' := 205) (ls' := [some (.inl (some 52)), some (zi xf), some (zi xw), some (zi xn), some (zi x9)]) (st' := [.inl (some 52)]) (by decide +kernel) (fun k q => by cases q) rfl ?_
          refine y_same (i := .iload_n 3) (len := 1) (r := (0, 0, 0, 0)) (pc' := 206) (ls' := [some (.inl (some 52)), some (zi xf), some (zi xw), some (zi xn), some (zi x9)]) (st' := [zi xn, .inl (some 52)]) (by decide +kernel) (fun k q => by cases q) rfl ?_
          have pE9 : ∀ (k9 : Nat) (e9 : enT), L[k9]? = some e9 → pmE τ h9 k9 e9 := fun k9 e9 hk9 => pmE_up (pE k9 e9 hk9) Q9.1 (fun k j hC => by have l9 := (List.getElem?_eq_some_iff.mp hk9).1; exact (F9 k j (by omega)).trans (E0 k j (by omega) (by omega) (by omega)))
          refine y_cV (i := .invokevirtual 360) (len := 3) (r := (0, 233, 12, 1730)) (nL := 5) (k := 0) (n := 2) (hs := []) (args := [.inl (some 52), zi xn]) (rest := []) (l0 := [some (.inl (some 52)), some (zi xn), none, none, none]) (by decide +kernel) (Or.inr (Or.inl ⟨_, rfl⟩)) rfl rfl rfl rfl (Nat.le_of_ble_eq_true rfl) (z52 Q9.1) rfl (qV_le (by omega) (m_stq (d := 0) (L := L) (i := (i : Int)) (by omega) (by omega) (by omega) hn9 Q9 pE9 hL wl nv ch ⟨_, ((F9 371 n (by omega)).trans hv3729), by omega⟩ (Or.inr ⟨i, ei, rfl, ke, h3, h8⟩) (kx_up ml (rfl)) ⟨_, ((F9 376 n (by omega)).trans hv3732), by omega⟩)) (fun h3736 hR3736 => ?_)
          refine y_ic (c := 1) (len := 1) (r := (0, 0, 0, 0)) (by decide +kernel) (by decide) (fun y3737 hy3737 => ?_)
          refine y_rI (len := 1) (r := (0, 0, 0, 0)) (nL := 5) (k := 2) (n9 := 3) (hs := []) (by decide +kernel) rfl (zfit_b (by omega) (by omega)).2 ?_
          rcases hR3736 with ⟨cy, g2, c3, F2⟩ | ⟨nc, dn, g2, c3, F2⟩ | ⟨nc, dn, g2, ⟨st, r, l, fd, c3, c4, c5⟩, F2⟩
          · exact Or.inr ⟨by omega, nb, (s9, 1, 0, 0, (row + 1), (i : Int)), ⟨rfl, rfl, Or.inr ⟨s9, rd, rfl, Or.inl ⟨cy, rfl⟩⟩⟩, g2, ⟨c3, ⟨_, (F2 372 n (by omega) (by omega) (by omega)).trans ((F9 372 n (by omega)).trans hv3731), by show _ = (((row + 1) : Nat) : Int); omega⟩, ⟨_, (F2 371 n (by omega) (by omega) (by omega)).trans ((F9 371 n (by omega)).trans hv3729), by show _ = ((i : Int) : Int); omega⟩, fun _ => QM_up Q9 g2 (fun j => F2 (71 + n) j (by omega) (by omega) (by omega)), fun q => absurd q (by show ¬ 3 ≤ 1; omega), fun q => absurd q (by show ¬ 3 ≤ 1; omega)⟩, ⟨_, (F2 52 26 (by omega) (by omega) (by omega)).trans ((F9 52 26 (by omega)).trans hv3726), by omega⟩, fun k j h1 h2 h3 h4 h5 => (F2 k j (by omega) (by omega) (by omega)).trans ((F9 k j (by omega)).trans (E0 k j h1 h2 h3))⟩
          · exact Or.inr ⟨by omega, nb, (s9, 2, 0, 0, (row + 1), (i : Int)), ⟨rfl, rfl, Or.inr ⟨s9, rd, rfl, Or.inr (Or.inl ⟨nc, dn, rfl⟩)⟩⟩, g2, ⟨c3, ⟨_, (F2 372 n (by omega) (by omega) (by omega)).trans ((F9 372 n (by omega)).trans hv3731), by show _ = (((row + 1) : Nat) : Int); omega⟩, ⟨_, (F2 371 n (by omega) (by omega) (by omega)).trans ((F9 371 n (by omega)).trans hv3729), by show _ = ((i : Int) : Int); omega⟩, fun _ => QM_up Q9 g2 (fun j => F2 (71 + n) j (by omega) (by omega) (by omega)), fun q => absurd q (by show ¬ 3 ≤ 2; omega), fun q => absurd q (by show ¬ 3 ≤ 2; omega)⟩, ⟨_, (F2 52 26 (by omega) (by omega) (by omega)).trans ((F9 52 26 (by omega)).trans hv3726), by omega⟩, fun k j h1 h2 h3 h4 h5 => (F2 k j (by omega) (by omega) (by omega)).trans ((F9 k j (by omega)).trans (E0 k j h1 h2 h3))⟩
          · exact Or.inr ⟨by omega, nb, (s9, st, r, l, (row + 1), (i : Int)), ⟨rfl, rfl, Or.inr ⟨s9, rd, rfl, Or.inr (Or.inr ⟨nc, dn, fd⟩)⟩⟩, g2, ⟨c3, ⟨_, (F2 372 n (by omega) (by omega) (by omega)).trans ((F9 372 n (by omega)).trans hv3731), by show _ = (((row + 1) : Nat) : Int); omega⟩, ⟨_, (F2 371 n (by omega) (by omega) (by omega)).trans ((F9 371 n (by omega)).trans hv3729), by show _ = ((i : Int) : Int); omega⟩, fun _ => QM_up Q9 g2 (fun j => F2 (71 + n) j (by omega) (by omega) (by omega)), fun _ => c4, fun _ => c5⟩, ⟨_, (F2 52 26 (by omega) (by omega) (by omega)).trans ((F9 52 26 (by omega)).trans hv3726), by omega⟩, fun k j h1 h2 h3 h4 h5 => (F2 k j (by omega) (by omega) (by omega)).trans ((F9 k j (by omega)).trans (E0 k j h1 h2 h3))⟩
      ·
        refine y_cF (c := .le) (off := 5) (len := 3) (r := (0, 0, 0, 0)) (by decide +kernel) (acmpF (c := .le) (by show _ < _; omega)) ?_
        refine y_ic (c := 0) (len := 1) (r := (0, 0, 0, 0)) (by decide +kernel) (by decide) (fun y3738 hy3738 => ?_)
        refine y_rI (len := 1) (r := (0, 0, 0, 0)) (nL := 5) (k := 2) (n9 := 3) (hs := []) (by decide +kernel) rfl (zfit_b (by omega) (by omega)).2 ?_
        exact Or.inl ⟨by omega, rfl, Or.inr (Or.inr (by omega))⟩
