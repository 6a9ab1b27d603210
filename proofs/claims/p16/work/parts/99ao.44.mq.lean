/-! the reference: from the start; over -/
theorem m_cm1 {d t : Nat} {τ : List Nat} {h : zh} {b : bsT} {xf xw : Int32} (hg : hG τ h) (bs : bsM h 55 b) (ok : okB b) (cn : ci_ h 52 26 0) (ml : kx_ h 52 32 1) (exf : xf.toInt = -1) : qI (d + 8) 231 [some (.inl (some 52)), some (zi xf), some (zi xw), none, none] h t (fun y h1 => y.toInt = 1 ∧ okS (bgA b) ∧ ∃ e, setR (fun _ => False) true (bgA b) (-1) 1 e ∧ hG τ h1 ∧ pmE τ h1 0 e ∧ ci_ h1 52 26 1 ∧ ∀ k j, k ≠ 378 → k ≠ 71 → (k ≠ 52 ∨ j ≠ 26) → ((k < 371 ∨ 376 < k) ∨ j ≠ 0) → hsl h1 k j = hsl h k j) := by
  refine qI_of ?_
  refine y_same (i := .iload_n 1) (len := 1) (r := (0, 0, 0, 0)) (pc' := 1) (ls' := [some (.inl (some 52)), some (zi xf), some (zi xw), none, none]) (st' := [zi xf]) (by decide +kernel) (fun k q => by cases q) rfl ?_
  refine y_ic (c := (-1)) (len := 1) (r := (0, 0, 0, 0)) (by decide +kernel) (by decide) (fun y3735 hy3735 => ?_)
  refine y_cF (c := .ne) (off := 10) (len := 3) (r := (0, 0, 0, 0)) (by decide +kernel) (acmpF (c := .ne) (by show _ = _; omega)) ?_
  refine y_same (i := .aload_n 0) (len := 1) (r := (0, 0, 0, 0)) (pc' := 6) (ls' := [some (.inl (some 52)), some (zi xf), some (zi xw), none, none]) (st' := [.inl (some 52)]) (by decide +kernel) (fun k q => by cases q) rfl ?_
  refine y_cV (i := .invokevirtual 345) (len := 3) (r := (0, 225, 12, 1640)) (nL := 8) (k := 0) (n := 1) (hs := []) (args := [.inl (some 52)]) (rest := []) (l0 := [some (.inl (some 52)), none, none, none, none, none, none, none]) (by decide +kernel) (Or.inr (Or.inl ⟨_, rfl⟩)) rfl rfl rfl rfl (Nat.le_of_ble_eq_true rfl) (z52 hg) rfl (qV_le (by omega) (m_bg (d := 0) hg bs ok)) (fun h3736 hR3736 => ?_)
  obtain ⟨Q3736, F3736⟩ := hR3736
  refine y_goto (off := 35) (pc' := 44) (len := 3) (r := (0, 0, 0, 0)) (by decide +kernel) (by decide +kernel) ?_
  refine qX_I (cmm_f (d := d + 1) (n := 0) (by decide) Q3736 exf (ci_up cn (F3736 52 26 (by omega))) (kx_up ml (F3736 52 32 (by omega)))) (fun y h1 hR => ?_)
  rcases hR with ⟨-, -, q3⟩ | ⟨q1, q2, e9, q3, q4, q5, q6, q7⟩
  · exact absurd q3 (bg_nb ok)
  · exact ⟨q1, okS_Q Q3736.2.2.2, e9, q3, q4, q5, q6, fun k j h1 h2 h3 h4 => (q7 k j (by omega) h3 h4).trans (F3736 k j h1)⟩
theorem bsM_up {h h1 : zh} {A : Nat} {b : bsT} (r : bsM h A b) (e : ∀ j, hsl h1 A j = hsl h A j) : bsM h1 A b := ⟨⟨ci_up r.1.1 (e _), ci_up r.1.2.1 (e _), fun j i hj => qdM_up (r.1.2.2.1 j i hj) (fun w _ => e _), fun j i hj => qdM_up (r.1.2.2.2 j i hj) (fun w _ => e _)⟩, ⟨ci_up r.2.1 (e _), ci_up r.2.2.1 (e _), fun j i hj => qdM_up (r.2.2.2.1 j i hj) (fun w _ => e _), fun j i hj => qdM_up (r.2.2.2.2 j i hj) (fun w _ => e _)⟩⟩
theorem pv_16 {cy : cyT} (hcy : ∀ L i, cy L i = fun _ => False) {d t : Nat} {τ : List Nat} {h : zh} {b : bsT} {xo : Int32} (exo : xo.toInt = 1) (hg : hG τ h) (bs : bsM h 55 b) (ok : okB b) : qX (d + 8) 238 16 [some (.inl (some 52)), some (zi xo), none] [] h t (rV (pvO τ 1 (prfF cy true b)) t) := by
  refine y_same (i := .aload_n 0) (len := 1) (r := (0, 0, 0, 0)) (pc' := 17) (ls' := [some (.inl (some 52)), some (zi xo), none]) (st' := [.inl (some 52)]) (by decide +kernel) (fun k q => by cases q) rfl ?_
  refine y_ic (c := 1) (len := 1) (r := (0, 0, 0, 0)) (by decide +kernel) (by decide) (fun y3737 hy3737 => ?_)
  refine y_put (j := 220) (lo := 0) (hi := 1) (len := 3) (r := (12, 31, 1, 1359)) (by decide +kernel) hg (t52 hg) at52 rfl rfl (by decide) rfl (by omega) (by omega) (zfit_b (by omega) (by omega)).1 (fun h3738 hg3738 hl3738 hs3738 ho3738 => ?_)
  have ho3738 : hO 52 31 h h3738 := ho3738
  have hs3738 : hsl h3738 52 31 = some (zi y3737) := hs3738
  refine y_same (i := .aload_n 0) (len := 1) (r := (0, 0, 0, 0)) (pc' := 22) (ls' := [some (.inl (some 52)), some (zi xo), none]) (st' := [.inl (some 52)]) (by decide +kernel) (fun k q => by cases q) rfl ?_
  refine y_same (i := .iload_n 1) (len := 1) (r := (0, 0, 0, 0)) (pc' := 23) (ls' := [some (.inl (some 52)), some (zi xo), none]) (st' := [zi xo, .inl (some 52)]) (by decide +kernel) (fun k q => by cases q) rfl ?_
  refine y_put (j := 363) (lo := 0) (hi := 1) (len := 3) (r := (12, 32, 1, 1360)) (by decide +kernel) hg3738 (t52 hg3738) at52 rfl rfl (by decide) rfl (by omega) (by omega) (zfit_b (by omega) (by omega)).1 (fun h3739 hg3739 hl3739 hs3739 ho3739 => ?_)
  have ho3739 : hO 52 32 h3738 h3739 := ho3739
  have hs3739 : hsl h3739 52 32 = some (zi xo) := hs3739
  refine y_same (i := .aload_n 0) (len := 1) (r := (0, 0, 0, 0)) (pc' := 27) (ls' := [some (.inl (some 52)), some (zi xo), none]) (st' := [.inl (some 52)]) (by decide +kernel) (fun k q => by cases q) rfl ?_
  refine y_ic (c := 0) (len := 1) (r := (0, 0, 0, 0)) (by decide +kernel) (by decide) (fun y3740 hy3740 => ?_)
  refine y_put (j := 348) (lo := 0) (hi := 300) (len := 3) (r := (12, 26, 0, 1354)) (by decide +kernel) hg3739 (t52 hg3739) at52 rfl rfl (by decide) rfl (by omega) (by omega) rfl (fun h3741 hg3741 hl3741 hs3741 ho3741 => ?_)
  have ho3741 : hO 52 26 h3739 h3741 := ho3741
  have hs3741 : hsl h3741 52 26 = some (zi y3740) := hs3741
  refine y_same (i := .aload_n 0) (len := 1) (r := (0, 0, 0, 0)) (pc' := 32) (ls' := [some (.inl (some 52)), some (zi xo), none]) (st' := [.inl (some 52)]) (by decide +kernel) (fun k q => by cases q) rfl ?_
  refine y_ic (c := 0) (len := 1) (r := (0, 0, 0, 0)) (by decide +kernel) (by decide) (fun y3742 hy3742 => ?_)
  refine y_put (j := 385) (lo := 0) (hi := 300) (len := 3) (r := (12, 29, 0, 1357)) (by decide +kernel) hg3741 (t52 hg3741) at52 rfl rfl (by decide) rfl (by omega) (by omega) rfl (fun h3743 hg3743 hl3743 hs3743 ho3743 => ?_)
  have ho3743 : hO 52 29 h3741 h3743 := ho3743
  have hs3743 : hsl h3743 52 29 = some (zi y3742) := hs3743
  refine y_same (i := .aload_n 0) (len := 1) (r := (0, 0, 0, 0)) (pc' := 37) (ls' := [some (.inl (some 52)), some (zi xo), none]) (st' := [.inl (some 52)]) (by decide +kernel) (fun k q => by cases q) rfl ?_
  refine y_ic (c := 0) (len := 1) (r := (0, 0, 0, 0)) (by decide +kernel) (by decide) (fun y3744 hy3744 => ?_)
  refine y_put (j := 382) (lo := 0) (hi := 600) (len := 3) (r := (12, 30, 0, 1358)) (by decide +kernel) hg3743 (t52 hg3743) at52 rfl rfl (by decide) rfl (by omega) (by omega) rfl (fun h3745 hg3745 hl3745 hs3745 ho3745 => ?_)
  have ho3745 : hO 52 30 h3743 h3745 := ho3745
  have hs3745 : hsl h3745 52 30 = some (zi y3744) := hs3745
  refine y_same (i := .aload_n 0) (len := 1) (r := (0, 0, 0, 0)) (pc' := 42) (ls' := [some (.inl (some 52)), some (zi xo), none]) (st' := [.inl (some 52)]) (by decide +kernel) (fun k q => by cases q) rfl ?_
  refine y_ic (c := (-1)) (len := 1) (r := (0, 0, 0, 0)) (by decide +kernel) (by decide) (fun y3746 hy3746 => ?_)
  refine y_put (j := 388) (lo := (-2147483648)) (hi := 2147483647) (len := 3) (r := (12, 28, 0, 1356)) (by decide +kernel) hg3745 (t52 hg3745) at52 rfl rfl (by decide) rfl (qin_full _).1 (qin_full _).2 rfl (fun h3747 hg3747 hl3747 hs3747 ho3747 => ?_)
  have ho3747 : hO 52 28 h3745 h3747 := ho3747
  have hs3747 : hsl h3747 52 28 = some (zi y3746) := hs3747
  refine y_same (i := .aload_n 0) (len := 1) (r := (0, 0, 0, 0)) (pc' := 47) (ls' := [some (.inl (some 52)), some (zi xo), none]) (st' := [.inl (some 52)]) (by decide +kernel) (fun k q => by cases q) rfl ?_
  refine y_ic (c := 1) (len := 1) (r := (0, 0, 0, 0)) (by decide +kernel) (by decide) (fun y3748 hy3748 => ?_)
  refine y_put (j := 391) (lo := (-2147483648)) (hi := 2147483647) (len := 3) (r := (12, 27, 0, 1355)) (by decide +kernel) hg3747 (t52 hg3747) at52 rfl rfl (by decide) rfl (qin_full _).1 (qin_full _).2 rfl (fun h3749 hg3749 hl3749 hs3749 ho3749 => ?_)
  have ho3749 : hO 52 27 h3747 h3749 := ho3749
  have hs3749 : hsl h3749 52 27 = some (zi y3748) := hs3749
  refine y_same (i := .aload_n 0) (len := 1) (r := (0, 0, 0, 0)) (pc' := 52) (ls' := [some (.inl (some 52)), some (zi xo), none]) (st' := [.inl (some 52)]) (by decide +kernel) (fun k q => by cases q) rfl ?_
  refine y_ic (c := (-1)) (len := 1) (r := (0, 0, 0, 0)) (by decide +kernel) (by decide) (fun y3750 hy3750 => ?_)
  refine y_ic (c := 0) (len := 1) (r := (0, 0, 0, 0)) (by decide +kernel) (by decide) (fun y3751 hy3751 => ?_)
  have hv3753 := (ho3747 52 30 (Or.inr (by omega))).trans hs3745
  have hv3754 := (ho3749 52 30 (Or.inr (by omega))).trans hv3753
  refine y_cV (i := .invokevirtual 394) (len := 3) (r := (0, 237, 12, 1632)) (nL := 3) (k := 0) (n := 3) (hs := []) (args := [.inl (some 52), zi y3750, zi y3751]) (rest := []) (l0 := [some (.inl (some 52)), some (zi y3750), some (zi y3751)]) (by decide +kernel) (Or.inr (Or.inl ⟨_, rfl⟩)) rfl rfl rfl rfl (Nat.le_of_ble_eq_true rfl) (z52 hg3749) rfl (qV_le (by omega) (m_wts (d := 0) (td := 0) hg3749 (by omega) (by omega) (by omega) (by omega) ⟨_, hv3754, by omega⟩ (by omega))) (fun h3752 hR3752 => ?_)
  obtain ⟨hg3752, a3752, b3752, c3752, F3752⟩ := hR3752
  obtain ⟨xt3752, ht3752, et3752⟩ := c3752
  refine y_same (i := .aload_n 0) (len := 1) (r := (0, 0, 0, 0)) (pc' := 58) (ls' := [some (.inl (some 52)), some (zi xo), none]) (st' := [.inl (some 52)]) (by decide +kernel) (fun k q => by cases q) rfl ?_
  refine y_get (j := 382) (len := 3) (r := (12, 30, 0, 1358)) (by decide +kernel) hg3752 (t52 hg3752) at52 rfl rfl ht3752 ?_
  refine y_iF (c := .le) (off := 153) (len := 3) (r := (0, 0, 0, 0)) (by decide +kernel) (acmpF (c := .le) (by show _ < _; omega)) ?_
  refine y_same (i := .aload_n 0) (len := 1) (r := (0, 0, 0, 0)) (pc' := 65) (ls' := [some (.inl (some 52)), some (zi xo), none]) (st' := [.inl (some 52)]) (by decide +kernel) (fun k q => by cases q) rfl ?_
  refine y_same (i := .dup) (len := 1) (r := (0, 0, 0, 0)) (pc' := 66) (ls' := [some (.inl (some 52)), some (zi xo), none]) (st' := [.inl (some 52), .inl (some 52)]) (by decide +kernel) (fun k q => by cases q) rfl ?_
  refine y_get (j := 382) (len := 3) (r := (12, 30, 0, 1358)) (by decide +kernel) hg3752 (t52 hg3752) at52 rfl rfl ht3752 ?_
  refine y_ic (c := 1) (len := 1) (r := (0, 0, 0, 0)) (by decide +kernel) (by decide) (fun y3755 hy3755 => ?_)
  refine y_sub (len := 1) (r := (0, 0, 0, 0)) (by decide +kernel) (by omega) (by omega) (fun y3756 hy3756 => ?_)
  refine y_put (j := 382) (lo := 0) (hi := 600) (len := 3) (r := (12, 30, 0, 1358)) (by decide +kernel) hg3752 (t52 hg3752) at52 rfl rfl (by decide) rfl (by omega) (by omega) rfl (fun h3757 hg3757 hl3757 hs3757 ho3757 => ?_)
  have ho3757 : hO 52 30 h3752 h3757 := ho3757
  have hs3757 : hsl h3757 52 30 = some (zi y3756) := hs3757
  refine y_same (i := .aload_n 0) (len := 1) (r := (0, 0, 0, 0)) (pc' := 75) (ls' := [some (.inl (some 52)), some (zi xo), none]) (st' := [.inl (some 52)]) (by decide +kernel) (fun k q => by cases q) rfl ?_
  refine y_same (i := .aload_n 0) (len := 1) (r := (0, 0, 0, 0)) (pc' := 76) (ls' := [some (.inl (some 52)), some (zi xo), none]) (st' := [.inl (some 52), .inl (some 52)]) (by decide +kernel) (fun k q => by cases q) rfl ?_
  refine y_get (j := 64) (len := 3) (r := (12, 24, 2, 1352)) (by decide +kernel) hg3757 (t52 hg3757) at52 rfl rfl (g_r52 (f := 24) (T2 := 379) hg3757 rfl (by decide)).1 ?_
  refine y_same (i := .aload_n 0) (len := 1) (r := (0, 0, 0, 0)) (pc' := 80) (ls' := [some (.inl (some 52)), some (zi xo), none]) (st' := [.inl (some 52), .inl (some 379), .inl (some 52)]) (by decide +kernel) (fun k q => by cases q) rfl ?_
  refine y_get (j := 382) (len := 3) (r := (12, 30, 0, 1358)) (by decide +kernel) hg3757 (t52 hg3757) at52 rfl rfl hs3757 ?_
  have hv3758 := (ho3757 379 0 (Or.inl (by omega))).trans a3752
  refine y_ial (i := 0) (len := 1) (r := (0, 0, 0, 0)) (by decide +kernel) hg3757 (tu379 hg3757) at379 (by omega) hv3758 ?_
  refine y_same (i := .aload_n 0) (len := 1) (r := (0, 0, 0, 0)) (pc' := 85) (ls' := [some (.inl (some 52)), some (zi xo), none]) (st' := [.inl (some 52), zi y3750, .inl (some 52)]) (by decide +kernel) (fun k q => by cases q) rfl ?_
  refine y_get (j := 67) (len := 3) (r := (12, 25, 2, 1353)) (by decide +kernel) hg3757 (t52 hg3757) at52 rfl rfl (g_r52 (f := 25) (T2 := 380) hg3757 rfl (by decide)).1 ?_
  refine y_same (i := .aload_n 0) (len := 1) (r := (0, 0, 0, 0)) (pc' := 89) (ls' := [some (.inl (some 52)), some (zi xo), none]) (st' := [.inl (some 52), .inl (some 380), zi y3750, .inl (some 52)]) (by decide +kernel) (fun k q => by cases q) rfl ?_
  refine y_get (j := 382) (len := 3) (r := (12, 30, 0, 1358)) (by decide +kernel) hg3757 (t52 hg3757) at52 rfl rfl hs3757 ?_
  have hv3759 := (ho3757 380 0 (Or.inl (by omega))).trans b3752
  refine y_ial (i := 0) (len := 1) (r := (0, 0, 0, 0)) (by decide +kernel) hg3757 (tu380 hg3757) at380 (by omega) hv3759 ?_
  have hv3761 := (ho3743 52 26 (Or.inr (by omega))).trans hs3741
  have hv3762 := (ho3745 52 26 (Or.inr (by omega))).trans hv3761
  have hv3763 := (ho3747 52 26 (Or.inr (by omega))).trans hv3762
  have hv3764 := (ho3749 52 26 (Or.inr (by omega))).trans hv3763
  have hv3765 := (F3752 52 26 (by omega) (by omega)).trans hv3764
  have hv3766 := (ho3757 52 26 (Or.inr (by omega))).trans hv3765
  have hv3767 := (ho3741 52 32 (Or.inr (by omega))).trans hs3739
  have hv3768 := (ho3743 52 32 (Or.inr (by omega))).trans hv3767
  have hv3769 := (ho3745 52 32 (Or.inr (by omega))).trans hv3768
  have hv3770 := (ho3747 52 32 (Or.inr (by omega))).trans hv3769
  have hv3771 := (ho3749 52 32 (Or.inr (by omega))).trans hv3770
  have hv3772 := (F3752 52 32 (by omega) (by omega)).trans hv3771
  have hv3773 := (ho3757 52 32 (Or.inr (by omega))).trans hv3772
  refine y_cI (i := .invokevirtual 397) (len := 3) (r := (0, 231, 12, 1636)) (nL := 5) (k := 2) (n := 3) (hs := []) (args := [.inl (some 52), zi y3750, zi y3751]) (rest := []) (l0 := [some (.inl (some 52)), some (zi y3750), some (zi y3751), none, none]) (by decide +kernel) (Or.inr (Or.inl ⟨_, rfl⟩)) rfl rfl rfl rfl (Nat.le_of_ble_eq_true rfl) (z52 hg3757) rfl (qI_le (by omega) (m_cm1 (d := 0) (b := b) hg3757 (bsM_up bs (fun j => ((ho3757 55 j (by omega)).trans ((F3752 55 j (by omega) (by omega)).trans ((ho3749 55 j (by omega)).trans ((ho3747 55 j (by omega)).trans ((ho3745 55 j (by omega)).trans ((ho3743 55 j (by omega)).trans ((ho3741 55 j (by omega)).trans ((ho3739 55 j (by omega)).trans (ho3738 55 j (by omega)))))))))))) ok ⟨_, hv3766, by omega⟩ ⟨_, hv3773, by omega⟩ (by omega))) (fun y3760 h3760 hRy3760 => ?_)
  obtain ⟨vy3760, ok9, e9, sR, hg3760, pN, cN, F3760⟩ := hRy3760
  refine y_iT (c := .ne) (off := 9) (pc' := 105) (len := 3) (r := (0, 0, 0, 0)) (by decide +kernel) (acmpT (c := .ne) (by show ¬ (_ = _); omega)) (by decide +kernel) ?_
  have hv3774 := (ho3739 52 31 (Or.inr (by omega))).trans hs3738
  have hv3775 := (ho3741 52 31 (Or.inr (by omega))).trans hv3774
  have hv3776 := (ho3743 52 31 (Or.inr (by omega))).trans hv3775
  have hv3777 := (ho3745 52 31 (Or.inr (by omega))).trans hv3776
  have hv3778 := (ho3747 52 31 (Or.inr (by omega))).trans hv3777
  have hv3779 := (ho3749 52 31 (Or.inr (by omega))).trans hv3778
  have hv3780 := (F3752 52 31 (by omega) (by omega)).trans hv3779
  have hv3781 := (ho3757 52 31 (Or.inr (by omega))).trans hv3780
  have hv3782 := (F3760 52 31 (by omega) (by omega) (by omega) (by omega)).trans hv3781
  have hv3783 := (F3760 52 32 (by omega) (by omega) (by omega) (by omega)).trans hv3773
  have hv3784 := (F3752 52 27 (by omega) (by omega)).trans hs3749
  have hv3785 := (ho3757 52 27 (Or.inr (by omega))).trans hv3784
  have hv3786 := (F3760 52 27 (by omega) (by omega) (by omega) (by omega)).trans hv3785
  have hv3787 := (ho3745 52 29 (Or.inr (by omega))).trans hs3743
  have hv3788 := (ho3747 52 29 (Or.inr (by omega))).trans hv3787
  have hv3789 := (ho3749 52 29 (Or.inr (by omega))).trans hv3788
  have hv3790 := (F3752 52 29 (by omega) (by omega)).trans hv3789
  have hv3791 := (ho3757 52 29 (Or.inr (by omega))).trans hv3790
  have hv3792 := (F3760 52 29 (by omega) (by omega) (by omega) (by omega)).trans hv3791
  have hv3793 := (F3760 52 30 (by omega) (by omega) (by omega) (by omega)).trans hs3757
  obtain ⟨sE, ag⟩ := setF_ag (cy := cy) (lv := true) (L := []) ok9 (by rw [hcy]; exact sR)
  have pF := pmE_ag pN ag
  have wE := wf_set sE (bg_nb ok) (by omega) (by omega) (fun q => (pF.2.2.2.1 q).2.2.2)
  refine pvl_ hcy 300 h3760 [] (setF cy true [] (bgA b) (-1) 1) [] none ⟨hg3760, ⟨_, hv3782, by omega⟩, ⟨_, hv3783, by omega⟩, ⟨_, hv3786, by omega⟩, cN, fun k e8 hk => (sn_cs hk).elim (fun q => by cases q) (fun q => by obtain ⟨q1, q2⟩ := q; subst q1; subst q2; exact pF)⟩ (fun e8 m8 => ?_) ⟨_, hv3792, by show _ = ((0 : Nat) : Int); omega⟩ (fun j k hk => (by cases hk)) ⟨⟨_, hv3793, by show _ = ((0 : Nat) : Int); omega⟩, fun j i w hj => (by cases hj)⟩ ⟨fun i w m => (by cases m), by show 0 ≤ _; omega⟩ rfl (by decide) (by show 0 ≤ 0; omega)
  · rw [List.mem_singleton.mp m8]
    exact wE
theorem m_pvz {cy : cyT} (hcy : ∀ L i, cy L i = fun _ => False) {d t : Nat} {τ : List Nat} {h : zh} {b : bsT} {xo : Int32} (exo : xo.toInt = 1) (hg : hG τ h) (bs : bsM h 55 b) (ok : okB b) (np : kx_ h 52 31 0 ∨ (kx_ h 52 31 1 ∧ kx_ h 52 32 0)) : qV (d + 9) 238 [some (.inl (some 52)), some (zi xo), none] h t (pvO τ 1 (prfF cy true b)) := by
  refine qV_of ?_
  rcases np with ⟨xp, hp31, ep⟩ | ⟨⟨xp, hp31, ep⟩, ⟨xv, hv32, ev⟩⟩
  ·
    refine y_same (i := .aload_n 0) (len := 1) (r := (0, 0, 0, 0)) (pc' := 1) (ls' := [some (.inl (some 52)), some (zi xo), none]) (st' := [.inl (some 52)]) (by decide +kernel) (fun k q => by cases q) rfl ?_
    refine y_get (j := 220) (len := 3) (r := (12, 31, 1, 1359)) (by decide +kernel) hg (t52 hg) at52 rfl rfl hp31 ?_
    refine y_iT (c := .eq) (off := 12) (pc' := 16) (len := 3) (r := (0, 0, 0, 0)) (by decide +kernel) (acmpT (c := .eq) (by show _ = _; omega)) (by decide +kernel) ?_
    exact pv_16 hcy exo hg bs ok
  ·
    refine y_same (i := .aload_n 0) (len := 1) (r := (0, 0, 0, 0)) (pc' := 1) (ls' := [some (.inl (some 52)), some (zi xo), none]) (st' := [.inl (some 52)]) (by decide +kernel) (fun k q => by cases q) rfl ?_
    refine y_get (j := 220) (len := 3) (r := (12, 31, 1, 1359)) (by decide +kernel) hg (t52 hg) at52 rfl rfl hp31 ?_
    refine y_iF (c := .eq) (off := 12) (len := 3) (r := (0, 0, 0, 0)) (by decide +kernel) (acmpF (c := .eq) (by show ¬ (_ = _); omega)) ?_
    refine y_same (i := .aload_n 0) (len := 1) (r := (0, 0, 0, 0)) (pc' := 8) (ls' := [some (.inl (some 52)), some (zi xo), none]) (st' := [.inl (some 52)]) (by decide +kernel) (fun k q => by cases q) rfl ?_
    refine y_get (j := 363) (len := 3) (r := (12, 32, 1, 1360)) (by decide +kernel) hg (t52 hg) at52 rfl rfl hv32 ?_
    refine y_same (i := .iload_n 1) (len := 1) (r := (0, 0, 0, 0)) (pc' := 12) (ls' := [some (.inl (some 52)), some (zi xo), none]) (st' := [zi xo, zi xv]) (by decide +kernel) (fun k q => by cases q) rfl ?_
    refine y_cT (c := .ne) (off := 4) (pc' := 16) (len := 3) (r := (0, 0, 0, 0)) (by decide +kernel) (acmpT (c := .ne) (by show ¬ (_ = _); omega)) (by decide +kernel) ?_
    exact pv_16 hcy exo hg bs ok
theorem m_pvk {d t : Nat} {τ : List Nat} {h : zh} {xo : Int32} (exo : xo.toInt = 1) (hg : hG τ h) (ip : kx_ h 52 31 1) (iv : kx_ h 52 32 1) : qV (d + 1) 238 [some (.inl (some 52)), some (zi xo), none] h t (fun h1 => h = h1) := by
  obtain ⟨xp, hp31, ep⟩ := ip
  obtain ⟨xv, hv32, ev⟩ := iv
  refine qV_of ?_
  refine y_same (i := .aload_n 0) (len := 1) (r := (0, 0, 0, 0)) (pc' := 1) (ls' := [some (.inl (some 52)), some (zi xo), none]) (st' := [.inl (some 52)]) (by decide +kernel) (fun k q => by cases q) rfl ?_
  refine y_get (j := 220) (len := 3) (r := (12, 31, 1, 1359)) (by decide +kernel) hg (t52 hg) at52 rfl rfl hp31 ?_
  refine y_iF (c := .eq) (off := 12) (len := 3) (r := (0, 0, 0, 0)) (by decide +kernel) (acmpF (c := .eq) (by show ¬ (_ = _); omega)) ?_
  refine y_same (i := .aload_n 0) (len := 1) (r := (0, 0, 0, 0)) (pc' := 8) (ls' := [some (.inl (some 52)), some (zi xo), none]) (st' := [.inl (some 52)]) (by decide +kernel) (fun k q => by cases q) rfl ?_
  refine y_get (j := 363) (len := 3) (r := (12, 32, 1, 1360)) (by decide +kernel) hg (t52 hg) at52 rfl rfl hv32 ?_
  refine y_same (i := .iload_n 1) (len := 1) (r := (0, 0, 0, 0)) (pc' := 12) (ls' := [some (.inl (some 52)), some (zi xo), none]) (st' := [zi xo, zi xv]) (by decide +kernel) (fun k q => by cases q) rfl ?_
  refine y_cF (c := .ne) (off := 4) (len := 3) (r := (0, 0, 0, 0)) (by decide +kernel) (acmpF (c := .ne) (by show _ = _; omega)) ?_
  refine y_rV (len := 1) (r := (0, 0, 0, 0)) (nL := 3) (n9 := 2) (hs := []) (by decide +kernel) rfl ?_
  rfl
theorem m_omk {d t : Nat} {τ : List Nat} {h : zh} {R : List enT × Nat} (hg : hG τ h) (ip : kx_ h 52 31 1) (iv : kx_ h 52 32 1) (rs : kx_ h 52 27 R.2) (c29 : ci_ h 52 29 (dns R.1)) : qI (d + 10) 243 [some (.inl (some 52))] h t (fun y h1 => y.toInt = ovF R ∧ h = h1) := by
  obtain ⟨xr, hr27, er⟩ := rs
  obtain ⟨xd, hd29, ed⟩ := c29
  refine qI_of ?_
  refine y_same (i := .aload_n 0) (len := 1) (r := (0, 0, 0, 0)) (pc' := 1) (ls' := [some (.inl (some 52))]) (st' := [.inl (some 52)]) (by decide +kernel) (fun k q => by cases q) rfl ?_
  refine y_ic (c := 1) (len := 1) (r := (0, 0, 0, 0)) (by decide +kernel) (by decide) (fun y3794 hy3794 => ?_)
  refine y_cV (i := .invokevirtual 400) (len := 3) (r := (0, 238, 12, 1628)) (nL := 3) (k := 0) (n := 2) (hs := []) (args := [.inl (some 52), zi y3794]) (rest := []) (l0 := [some (.inl (some 52)), some (zi y3794), none]) (by decide +kernel) (Or.inr (Or.inl ⟨_, rfl⟩)) rfl rfl rfl rfl (Nat.le_of_ble_eq_true rfl) (z52 hg) rfl (qV_le (by omega) (m_pvk (d := 0) (by omega) hg ip iv)) (fun h3795 hR3795 => ?_)
  obtain rfl := hR3795
  refine y_same (i := .aload_n 0) (len := 1) (r := (0, 0, 0, 0)) (pc' := 6) (ls' := [some (.inl (some 52))]) (st' := [.inl (some 52)]) (by decide +kernel) (fun k q => by cases q) rfl ?_
  refine y_get (j := 391) (len := 3) (r := (12, 27, 0, 1355)) (by decide +kernel) hg (t52 hg) at52 rfl rfl hr27 ?_
  rcases Decidable.em (xr.toInt ≠ 0) with q3796 | q3796
  ·
    refine y_iT (c := .ne) (off := 8) (pc' := 17) (len := 3) (r := (0, 0, 0, 0)) (by decide +kernel) (acmpT (c := .ne) (by show ¬ (_ = _); omega)) (by decide +kernel) ?_
    refine y_same (i := .aload_n 0) (len := 1) (r := (0, 0, 0, 0)) (pc' := 18) (ls' := [some (.inl (some 52))]) (st' := [.inl (some 52)]) (by decide +kernel) (fun k q => by cases q) rfl ?_
    refine y_get (j := 391) (len := 3) (r := (12, 27, 0, 1355)) (by decide +kernel) hg (t52 hg) at52 rfl rfl hr27 ?_
    refine y_ic (c := 2) (len := 1) (r := (0, 0, 0, 0)) (by decide +kernel) (by decide) (fun y3797 hy3797 => ?_)
    rcases Decidable.em (xr.toInt ≠ y3797.toInt) with q3798 | q3798
    ·
      refine y_cT (c := .ne) (off := 8) (pc' := 30) (len := 3) (r := (0, 0, 0, 0)) (by decide +kernel) (acmpT (c := .ne) (by show ¬ (_ = _); omega)) (by decide +kernel) ?_
      refine y_same (i := .aload_n 0) (len := 1) (r := (0, 0, 0, 0)) (pc' := 31) (ls' := [some (.inl (some 52))]) (st' := [.inl (some 52)]) (by decide +kernel) (fun k q => by cases q) rfl ?_
      refine y_get (j := 385) (len := 3) (r := (12, 29, 0, 1357)) (by decide +kernel) hg (t52 hg) at52 rfl rfl hd29 ?_
      refine y_rI (len := 1) (r := (0, 0, 0, 0)) (nL := 1) (k := 1) (n9 := 1) (hs := []) (by decide +kernel) rfl rfl ?_
      have ov : ovF R = (dns R.1 : Int) := by
        unfold ovF
        rw [if_neg (by omega), if_neg (by omega)]
      exact ⟨by rw [ov]; omega, rfl⟩
    ·
      refine y_cF (c := .ne) (off := 8) (len := 3) (r := (0, 0, 0, 0)) (by decide +kernel) (acmpF (c := .ne) (by show _ = _; omega)) ?_
      refine y_bi (c := (-3)) (len := 2) (r := (0, 0, 0, 0)) (by decide +kernel) (by decide) (fun y3799 hy3799 => ?_)
      refine y_goto (off := 7) (pc' := 34) (len := 3) (r := (0, 0, 0, 0)) (by decide +kernel) (by decide +kernel) ?_
      refine y_rI (len := 1) (r := (0, 0, 0, 0)) (nL := 1) (k := 1) (n9 := 1) (hs := []) (by decide +kernel) rfl rfl ?_
      have ov : ovF R = -3 := by
        unfold ovF
        rw [if_neg (by omega), if_pos (by omega)]
      exact ⟨by rw [ov]; omega, rfl⟩
  ·
    refine y_iF (c := .ne) (off := 8) (len := 3) (r := (0, 0, 0, 0)) (by decide +kernel) (acmpF (c := .ne) (by show _ = _; omega)) ?_
    refine y_bi (c := (-2)) (len := 2) (r := (0, 0, 0, 0)) (by decide +kernel) (by decide) (fun y3800 hy3800 => ?_)
    refine y_goto (off := 20) (pc' := 34) (len := 3) (r := (0, 0, 0, 0)) (by decide +kernel) (by decide +kernel) ?_
    refine y_rI (len := 1) (r := (0, 0, 0, 0)) (nL := 1) (k := 1) (n9 := 1) (hs := []) (by decide +kernel) rfl rfl ?_
    have ov : ovF R = -2 := by
      unfold ovF
      rw [if_pos (by omega)]
    exact ⟨by rw [ov]; omega, rfl⟩
theorem m_omz {d t : Nat} {τ : List Nat} {h : zh} {b : bsT} (hg : hG τ h) (bs : bsM h 55 b) (ok : okB b) (np : kx_ h 52 31 0 ∨ (kx_ h 52 31 1 ∧ kx_ h 52 32 0)) : qI (d + 10) 243 [some (.inl (some 52))] h t (fun y h1 => y.toInt = ovF (prfF cyN true b) ∧ pvO τ 1 (prfF cyN true b) h1) := by
  generalize hR9 : prfF cyN true b = R
  refine qI_of ?_
  refine y_same (i := .aload_n 0) (len := 1) (r := (0, 0, 0, 0)) (pc' := 1) (ls' := [some (.inl (some 52))]) (st' := [.inl (some 52)]) (by decide +kernel) (fun k q => by cases q) rfl ?_
  refine y_ic (c := 1) (len := 1) (r := (0, 0, 0, 0)) (by decide +kernel) (by decide) (fun y3801 hy3801 => ?_)
  refine y_cV (i := .invokevirtual 400) (len := 3) (r := (0, 238, 12, 1628)) (nL := 3) (k := 0) (n := 2) (hs := []) (args := [.inl (some 52), zi y3801]) (rest := []) (l0 := [some (.inl (some 52)), some (zi y3801), none]) (by decide +kernel) (Or.inr (Or.inl ⟨_, rfl⟩)) rfl rfl rfl rfl (Nat.le_of_ble_eq_true rfl) (z52 hg) rfl (qV_le (by omega) (m_pvz (d := 0) (cy := cyN) (fun _ _ => rfl) (by omega) hg bs ok np)) (fun h3802 hR3802 => ?_)
  rw [hR9] at hR3802
  have o1 := hR3802
  obtain ⟨hg3802, ip1, iv1, rs, c26, l3, c29, dA, pE⟩ := hR3802
  obtain ⟨xr, hr27, er⟩ := rs
  obtain ⟨xd, hd29, ed⟩ := c29
  refine y_same (i := .aload_n 0) (len := 1) (r := (0, 0, 0, 0)) (pc' := 6) (ls' := [some (.inl (some 52))]) (st' := [.inl (some 52)]) (by decide +kernel) (fun k q => by cases q) rfl ?_
  refine y_get (j := 391) (len := 3) (r := (12, 27, 0, 1355)) (by decide +kernel) hg3802 (t52 hg3802) at52 rfl rfl hr27 ?_
  rcases Decidable.em (xr.toInt ≠ 0) with q3803 | q3803
  ·
    refine y_iT (c := .ne) (off := 8) (pc' := 17) (len := 3) (r := (0, 0, 0, 0)) (by decide +kernel) (acmpT (c := .ne) (by show ¬ (_ = _); omega)) (by decide +kernel) ?_
    refine y_same (i := .aload_n 0) (len := 1) (r := (0, 0, 0, 0)) (pc' := 18) (ls' := [some (.inl (some 52))]) (st' := [.inl (some 52)]) (by decide +kernel) (fun k q => by cases q) rfl ?_
    refine y_get (j := 391) (len := 3) (r := (12, 27, 0, 1355)) (by decide +kernel) hg3802 (t52 hg3802) at52 rfl rfl hr27 ?_
    refine y_ic (c := 2) (len := 1) (r := (0, 0, 0, 0)) (by decide +kernel) (by decide) (fun y3804 hy3804 => ?_)
    rcases Decidable.em (xr.toInt ≠ y3804.toInt) with q3805 | q3805
    ·
      refine y_cT (c := .ne) (off := 8) (pc' := 30) (len := 3) (r := (0, 0, 0, 0)) (by decide +kernel) (acmpT (c := .ne) (by show ¬ (_ = _); omega)) (by decide +kernel) ?_
      refine y_same (i := .aload_n 0) (len := 1) (r := (0, 0, 0, 0)) (pc' := 31) (ls' := [some (.inl (some 52))]) (st' := [.inl (some 52)]) (by decide +kernel) (fun k q => by cases q) rfl ?_
      refine y_get (j := 385) (len := 3) (r := (12, 29, 0, 1357)) (by decide +kernel) hg3802 (t52 hg3802) at52 rfl rfl hd29 ?_
      refine y_rI (len := 1) (r := (0, 0, 0, 0)) (nL := 1) (k := 1) (n9 := 1) (hs := []) (by decide +kernel) rfl rfl ?_
      have ov : ovF R = (dns R.1 : Int) := by
        unfold ovF
        rw [if_neg (by omega), if_neg (by omega)]
      exact ⟨by rw [ov]; omega, o1⟩
    ·
      refine y_cF (c := .ne) (off := 8) (len := 3) (r := (0, 0, 0, 0)) (by decide +kernel) (acmpF (c := .ne) (by show _ = _; omega)) ?_
      refine y_bi (c := (-3)) (len := 2) (r := (0, 0, 0, 0)) (by decide +kernel) (by decide) (fun y3806 hy3806 => ?_)
      refine y_goto (off := 7) (pc' := 34) (len := 3) (r := (0, 0, 0, 0)) (by decide +kernel) (by decide +kernel) ?_
      refine y_rI (len := 1) (r := (0, 0, 0, 0)) (nL := 1) (k := 1) (n9 := 1) (hs := []) (by decide +kernel) rfl rfl ?_
      have ov : ovF R = -3 := by
        unfold ovF
        rw [if_neg (by omega), if_pos (by omega)]
      exact ⟨by rw [ov]; omega, o1⟩
  ·
    refine y_iF (c := .ne) (off := 8) (len := 3) (r := (0, 0, 0, 0)) (by decide +kernel) (acmpF (c := .ne) (by show _ = _; omega)) ?_
    refine y_bi (c := (-2)) (len := 2) (r := (0, 0, 0, 0)) (by decide +kernel) (by decide) (fun y3807 hy3807 => ?_)
    refine y_goto (off := 20) (pc' := 34) (len := 3) (r := (0, 0, 0, 0)) (by decide +kernel) (by decide +kernel) ?_
    refine y_rI (len := 1) (r := (0, 0, 0, 0)) (nL := 1) (k := 1) (n9 := 1) (hs := []) (by decide +kernel) rfl rfl ?_
    have ov : ovF R = -2 := by
      unfold ovF
      rw [if_pos (by omega)]
    exact ⟨by rw [ov]; omega, o1⟩
/-- over, by what many answers -/
theorem m_ov {d t : Nat} {τ : List Nat} {h : zh} {R : Int32 → zh → Prop} (hg : hG τ h) (om : ∀ h1, hG τ h1 → (∀ k j, (k ≠ 52 ∨ j ≠ 0) → hsl h1 k j = hsl h k j) → qI (d + 10) 243 [some (.inl (some 52))] h1 t R) : qI (d + 11) 244 [some (.inl (some 52))] h t R := by
  refine qI_of ?_
  refine y_same (i := .aload_n 0) (len := 1) (r := (0, 0, 0, 0)) (pc' := 1) (ls' := [some (.inl (some 52))]) (st' := [.inl (some 52)]) (by decide +kernel) (fun k q => by cases q) rfl ?_
  refine y_ic (c := 0) (len := 1) (r := (0, 0, 0, 0)) (by decide +kernel) (by decide) (fun y3808 hy3808 => ?_)
  refine y_put (j := 92) (lo := (-2147483648)) (hi := 2147483647) (len := 3) (r := (12, 0, 0, 1328)) (by decide +kernel) hg (t52 hg) at52 rfl rfl (by decide) rfl (qin_full _).1 (qin_full _).2 rfl (fun h3809 hg3809 hl3809 hs3809 ho3809 => ?_)
  have ho3809 : hO 52 0 h h3809 := ho3809
  have hs3809 : hsl h3809 52 0 = some (zi y3808) := hs3809
  refine y_same (i := .aload_n 0) (len := 1) (r := (0, 0, 0, 0)) (pc' := 6) (ls' := [some (.inl (some 52))]) (st' := [.inl (some 52)]) (by decide +kernel) (fun k q => by cases q) rfl ?_
  refine y_cI (i := .invokevirtual 407) (len := 3) (r := (0, 243, 12, 1786)) (nL := 1) (k := 1) (n := 1) (hs := []) (args := [.inl (some 52)]) (rest := []) (l0 := [some (.inl (some 52))]) (by decide +kernel) (Or.inr (Or.inl ⟨_, rfl⟩)) rfl rfl rfl rfl (Nat.le_of_ble_eq_true rfl) (z52 hg3809) rfl (qI_le (by omega) (om h3809 hg3809 (fun k j hC => (ho3809 k j (by omega))))) (fun y3810 h3810 hRy3810 => ?_)
  refine y_rI (len := 1) (r := (0, 0, 0, 0)) (nL := 1) (k := 1) (n9 := 1) (hs := []) (by decide +kernel) rfl rfl ?_
  exact hRy3810
