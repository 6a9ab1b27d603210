/-! the class's reader: an item, a side -/
theorem tkp_len {s s' : pst} {a p : Nat} {i : it4} (h : tkp s a i p = .inr s') : s'.2.1.length + s'.2.2.length = s.2.1.length + s.2.2.length + 1 := by
  unfold tkp at h
  split at h
  · cases h
  · cases h
    simp only [List.length_append, List.length_cons, List.length_nil]
    omega
theorem tkc_len {s s' : pst} {a p : Nat} {i : it4} (h : tkc s a i p = .inr s') : s'.2.1.length + s'.2.2.length = s.2.1.length + s.2.2.length + 1 := by
  unfold tkc at h
  split at h
  · cases h
  · cases h
    simp only [List.length_append, List.length_cons, List.length_nil]
    omega
theorem wLst_len {b : Nat → Int} {n a p : Nat} {s s' : pst} (h : wLst b n s a p = .inr s') : s'.2.1.length + s'.2.2.length = s.2.1.length + s.2.2.length + 1 := by
  unfold wLst at h
  repeat' (split at h)
  all_goals first | (cases h; done) | exact tkp_len h
theorem wTre_len {b : Nat → Int} {n a p : Nat} {s s' : pst} (h : wTre b n s a p = .inr s') : s'.2.1.length + s'.2.2.length = s.2.1.length + s.2.2.length + 1 := by
  unfold wTre at h
  repeat' (split at h)
  all_goals first | (cases h; done) | exact tkp_len h
theorem wCel_len {b : Nat → Int} {n a p : Nat} {x : Int} {s s' : pst} (h : wCel b n s a p x = .inr s') : s'.2.1.length + s'.2.2.length = s.2.1.length + s.2.2.length + 1 := by
  unfold wCel at h
  repeat' (split at h)
  all_goals first | (cases h; done) | exact tkp_len h
theorem wClm_len {b : Nat → Int} {n a p : Nat} {k x : Int} {s s' : pst} (h : wClm b n s a p k x = .inr s') : s'.2.1.length + s'.2.2.length = s.2.1.length + s.2.2.length + 1 := by
  unfold wClm at h
  repeat' (split at h)
  all_goals first | (cases h; done) | exact tkc_len h
theorem wItm_len {b : Nat → Int} {n : Nat} {s s' : pst} (h : wItm b n s = .inr s') : s'.2.1.length + s'.2.2.length = s.2.1.length + s.2.2.length + 1 := by
  unfold wItm at h
  repeat' (split at h)
  all_goals first | (cases h; done) | exact wLst_len h | exact wTre_len h | exact wCel_len h | exact wClm_len h
theorem wItm_sk {b : Nat → Int} {n a : Nat} {ps cs : List it4} (ha : a ≤ n) : wItm b n (sk b n a, ps, cs) = wItm b n (a, ps, cs) := by
  unfold wItm
  simp only [wrd_sk ha, pvr_sk ha, sk_idem ha]
  rfl
theorem e_item0 {t n a : Nat} {b : Nat → Int} {τ : List Nat} {h : zh} {ps cs : List it4} (hg : hG τ h) (al : alC h) (rd : rdC h n a b) (han : a ≤ n) (rp : rwC h 18 19 ps) (rc : rwC h 20 21 cs) : qI 14 48 [some (.inl (some 15)), some (.inl (some 17)), none, none] h t (itR0 n b τ h (wItm b n (a, ps, cs))) := by
  obtain ⟨⟨xn, hn, en⟩, ⟨xa, ha, ea⟩, hb, hn2⟩ := id rd
  refine qI_of ?_
  refine y_same (i := .aload_n 0) (len := 1) (r := (0, 0, 0, 0)) (pc' := 1) (ls' := [some (.inl (some 15)), some (.inl (some 17)), none, none]) (st' := [.inl (some 15)]) (by decide +kernel) (fun k q => by cases q) rfl ?_
  refine y_cV (i := .invokevirtual 89) (len := 3) (r := (0, 60, 5, 947)) (nL := 1) (k := 0) (n := 1) (hs := []) (args := [.inl (some 15)]) (rest := []) (l0 := [some (.inl (some 15))]) (by decide +kernel) (Or.inr (Or.inl ⟨_, rfl⟩)) rfl rfl rfl rfl (Nat.le_of_ble_eq_true rfl) (zO hg (tv15 hg) aw15 rfl) rfl (qV_le (by decide) (e_skip hg rd (by omega))) (fun h697 hR697 => ?_)
  obtain ⟨τ697, O697, rd697⟩ := hR697
  have sl697 := sk_le (b := b) (n := n) (a := a) (by omega)
  obtain ⟨⟨xn697, hn697, en697⟩, ⟨xa697, ha697, ea697⟩, hb697, -⟩ := id rd697
  refine y_same (i := .aload_n 0) (len := 1) (r := (0, 0, 0, 0)) (pc' := 5) (ls' := [some (.inl (some 15)), some (.inl (some 17)), none, none]) (st' := [.inl (some 15)]) (by decide +kernel) (fun k q => by cases q) rfl ?_
  refine y_get (j := 26) (len := 3) (r := (5, 3, 0, 243)) (by decide +kernel) O697.2.1 (tv15 O697.2.1) aw15 rfl rfl ha697 ?_
  refine y_same (i := .istore_n 2) (len := 1) (r := (0, 0, 0, 0)) (pc' := 9) (ls' := [some (.inl (some 15)), some (.inl (some 17)), some (zi xa697), none]) (st' := []) (by decide +kernel) (fun k q => by cases q) rfl ?_
  refine y_same (i := .aload_n 0) (len := 1) (r := (0, 0, 0, 0)) (pc' := 10) (ls' := [some (.inl (some 15)), some (.inl (some 17)), some (zi xa697), none]) (st' := [.inl (some 15)]) (by decide +kernel) (fun k q => by cases q) rfl ?_
  refine y_same (i := .ldc 92) (len := 2) (r := (1, 1, 1011, 0)) (pc' := 12) (ls' := [some (.inl (some 15)), some (.inl (some 17)), some (zi xa697), none]) (st' := [.inl (some 2000001), .inl (some 15)]) (by decide +kernel) (fun k q => by cases q) rfl ?_
  refine y_cI (i := .invokevirtual 78) (len := 3) (r := (0, 58, 5, 943)) (nL := 2) (k := 2) (n := 2) (hs := []) (args := [.inl (some 15), .inl (some 2000001)]) (rest := []) (l0 := [some (.inl (some 15)), some (.inl (some 2000001))]) (by decide +kernel) (Or.inr (Or.inl ⟨_, rfl⟩)) rfl rfl rfl rfl (Nat.le_of_ble_eq_true rfl) (zO O697.2.1 (tv15 O697.2.1) aw15 rfl) rfl (qI_le (by decide) (e_word1 O697.2.1 rd697 (by omega))) (fun y698 h698 hRy698 => ?_)
  obtain ⟨τ698, O698, hD698⟩ := hRy698
  rw [wrd_sk (by omega), sk_idem (by omega)] at hD698
  rcases hD698 with ⟨a698, e698, le698, hy698, r698⟩ | ⟨e698, hy698, r698⟩
  ·
    obtain ⟨⟨xn698y, hn698y, en698y⟩, ⟨xa698y, ha698y, ea698y⟩, hb698y, -⟩ := id r698
    refine y_iF (c := .eq) (off := 10) (len := 3) (r := (0, 0, 0, 0)) (by decide +kernel) (acmpF (c := .eq) (by show ¬ (_ = _); omega)) ?_
    refine y_same (i := .aload_n 0) (len := 1) (r := (0, 0, 0, 0)) (pc' := 19) (ls' := [some (.inl (some 15)), some (.inl (some 17)), some (zi xa697), none]) (st' := [.inl (some 15)]) (by decide +kernel) (fun k q => by cases q) rfl ?_
    refine y_same (i := .aload_n 1) (len := 1) (r := (0, 0, 0, 0)) (pc' := 20) (ls' := [some (.inl (some 15)), some (.inl (some 17)), some (zi xa697), none]) (st' := [.inl (some 17), .inl (some 15)]) (by decide +kernel) (fun k q => by cases q) rfl ?_
    refine y_same (i := .iload_n 2) (len := 1) (r := (0, 0, 0, 0)) (pc' := 21) (ls' := [some (.inl (some 15)), some (.inl (some 17)), some (zi xa697), none]) (st' := [zi xa697, .inl (some 17), .inl (some 15)]) (by decide +kernel) (fun k q => by cases q) rfl ?_
    have F699 : oF (fun k j => k ≠ 15 ∨ j < 3) τ h τ698 h698 := ⟨(aup_trans O697.1 O698.1), O698.2.1, fun k T j hk (hC : k ≠ 15 ∨ j < 3) => ((O698.2.2 k T j (O697.1 _ _ hk) (show k ≠ 15 ∨ j ≠ 3 by omega)).trans (O697.2.2 k T j hk (show k ≠ 15 ∨ j ≠ 3 by omega)))⟩
    have al699 := alC_up5 hg al F699
    have rp699 := rwC_up rp (F699.2.2 18 1002 1 (tv18 hg) (show 18 ≠ 15 ∨ 1 < 3 by omega)) (fun j => F699.2.2 19 1005 j (tv19 hg) (show 19 ≠ 15 ∨ j < 3 by omega))
    have rc699 := rwC_up rc (F699.2.2 20 1003 1 (tv20 hg) (show 20 ≠ 15 ∨ 1 < 3 by omega)) (fun j => F699.2.2 21 1006 j (tv21 hg) (show 21 ≠ 15 ∨ j < 3 by omega))
    refine y_cI (i := .invokevirtual 94) (len := 3) (r := (0, 49, 5, 1012)) (nL := 5) (k := 2) (n := 3) (hs := []) (args := [.inl (some 15), .inl (some 17), zi xa697]) (rest := []) (l0 := [some (.inl (some 15)), some (.inl (some 17)), some (zi xa697), none, none]) (by decide +kernel) (Or.inr (Or.inl ⟨_, rfl⟩)) rfl rfl rfl rfl (Nat.le_of_ble_eq_true rfl) (zO O698.2.1 (tv15 O698.2.1) aw15 rfl) rfl (qI_le (by decide) (e_list0 (q := sk b n a) (a0 := a) O698.2.1 al699 r698 (by omega) rp699 rc699 (by omega))) (fun y699 h699 hRy699 => ?_)
    obtain ⟨τ699, O699, hD699⟩ := hRy699
    rcases hD699 with ⟨a699, ps699, cs699, e699, le699, hy699, rd699, wp699, wc699⟩ | ⟨r699, q699, e699, hy699, f699⟩
    ·
      refine y_rI (len := 1) (r := (0, 0, 0, 0)) (nL := 4) (k := 2) (n9 := 2) (hs := []) (by decide +kernel) rfl (zfit_b (by omega) (by omega)).2 ?_
      exact ⟨_, ⟨(aup_trans (aup_trans O697.1 O698.1) O699.1), O699.2.1, fun k T j hk (hC : (k ≠ 15 ∨ j < 3) ∧ k ≠ 19 ∧ k ≠ 21 ∧ ((k ≠ 18 ∧ k ≠ 20) ∨ j ≠ 1)) => ((O699.2.2 k T j (O698.1 _ _ (O697.1 _ _ hk)) (show (k ≠ 15 ∨ j < 3) ∧ k ≠ 19 ∧ k ≠ 21 ∧ ((k ≠ 18 ∧ k ≠ 20) ∨ j ≠ 1) by omega)).trans ((O698.2.2 k T j (O697.1 _ _ hk) (show k ≠ 15 ∨ j ≠ 3 by omega)).trans (O697.2.2 k T j hk (show k ≠ 15 ∨ j ≠ 3 by omega))))⟩, Or.inl ⟨a699, ps699, cs699, (by unfold wItm; simp only [e698, e699]), by omega, by omega, rd699, wp699, wc699⟩⟩
    ·
      refine y_rI (len := 1) (r := (0, 0, 0, 0)) (nL := 4) (k := 2) (n9 := 2) (hs := []) (by decide +kernel) rfl (zfit_b (by omega) (by omega)).2 ?_
      exact ⟨_, ⟨(aup_trans (aup_trans O697.1 O698.1) O699.1), O699.2.1, fun k T j hk (hC : (k ≠ 15 ∨ j < 3) ∧ k ≠ 19 ∧ k ≠ 21 ∧ ((k ≠ 18 ∧ k ≠ 20) ∨ j ≠ 1)) => ((O699.2.2 k T j (O698.1 _ _ (O697.1 _ _ hk)) (show (k ≠ 15 ∨ j < 3) ∧ k ≠ 19 ∧ k ≠ 21 ∧ ((k ≠ 18 ∧ k ≠ 20) ∨ j ≠ 1) by omega)).trans ((O698.2.2 k T j (O697.1 _ _ hk) (show k ≠ 15 ∨ j ≠ 3 by omega)).trans (O697.2.2 k T j hk (show k ≠ 15 ∨ j ≠ 3 by omega))))⟩, Or.inr ⟨_, _, (by unfold wItm; simp only [e698, e699]), by omega, f699⟩⟩
  ·
    obtain ⟨⟨xn698n, hn698n, en698n⟩, ⟨xa698n, ha698n, ea698n⟩, hb698n, -⟩ := id r698
    refine y_iT (c := .eq) (off := 10) (pc' := 25) (len := 3) (r := (0, 0, 0, 0)) (by decide +kernel) (acmpT (c := .eq) (by show _ = _; omega)) (by decide +kernel) ?_
    refine y_same (i := .aload_n 0) (len := 1) (r := (0, 0, 0, 0)) (pc' := 26) (ls' := [some (.inl (some 15)), some (.inl (some 17)), some (zi xa697), none]) (st' := [.inl (some 15)]) (by decide +kernel) (fun k q => by cases q) rfl ?_
    refine y_same (i := .ldc 98) (len := 2) (r := (1, 5, 1037, 0)) (pc' := 28) (ls' := [some (.inl (some 15)), some (.inl (some 17)), some (zi xa697), none]) (st' := [.inl (some 2000005), .inl (some 15)]) (by decide +kernel) (fun k q => by cases q) rfl ?_
    refine y_cI (i := .invokevirtual 78) (len := 3) (r := (0, 58, 5, 943)) (nL := 2) (k := 2) (n := 2) (hs := []) (args := [.inl (some 15), .inl (some 2000005)]) (rest := []) (l0 := [some (.inl (some 15)), some (.inl (some 2000005))]) (by decide +kernel) (Or.inr (Or.inl ⟨_, rfl⟩)) rfl rfl rfl rfl (Nat.le_of_ble_eq_true rfl) (zO O698.2.1 (tv15 O698.2.1) aw15 rfl) rfl (qI_le (by decide) (e_word5 O698.2.1 r698 (by omega))) (fun y700 h700 hRy700 => ?_)
    obtain ⟨τ700, O700, hD700⟩ := hRy700
    rw [wrd_sk (by omega), sk_idem (by omega)] at hD700
    rcases hD700 with ⟨a700, e700, le700, hy700, r700⟩ | ⟨e700, hy700, r700⟩
    ·
      obtain ⟨⟨xn700y, hn700y, en700y⟩, ⟨xa700y, ha700y, ea700y⟩, hb700y, -⟩ := id r700
      refine y_iF (c := .eq) (off := 10) (len := 3) (r := (0, 0, 0, 0)) (by decide +kernel) (acmpF (c := .eq) (by show ¬ (_ = _); omega)) ?_
      refine y_same (i := .aload_n 0) (len := 1) (r := (0, 0, 0, 0)) (pc' := 35) (ls' := [some (.inl (some 15)), some (.inl (some 17)), some (zi xa697), none]) (st' := [.inl (some 15)]) (by decide +kernel) (fun k q => by cases q) rfl ?_
      refine y_same (i := .aload_n 1) (len := 1) (r := (0, 0, 0, 0)) (pc' := 36) (ls' := [some (.inl (some 15)), some (.inl (some 17)), some (zi xa697), none]) (st' := [.inl (some 17), .inl (some 15)]) (by decide +kernel) (fun k q => by cases q) rfl ?_
      refine y_same (i := .iload_n 2) (len := 1) (r := (0, 0, 0, 0)) (pc' := 37) (ls' := [some (.inl (some 15)), some (.inl (some 17)), some (zi xa697), none]) (st' := [zi xa697, .inl (some 17), .inl (some 15)]) (by decide +kernel) (fun k q => by cases q) rfl ?_
      have F701 : oF (fun k j => k ≠ 15 ∨ j < 3) τ h τ700 h700 := ⟨(aup_trans (aup_trans O697.1 O698.1) O700.1), O700.2.1, fun k T j hk (hC : k ≠ 15 ∨ j < 3) => ((O700.2.2 k T j (O698.1 _ _ (O697.1 _ _ hk)) (show k ≠ 15 ∨ j ≠ 3 by omega)).trans ((O698.2.2 k T j (O697.1 _ _ hk) (show k ≠ 15 ∨ j ≠ 3 by omega)).trans (O697.2.2 k T j hk (show k ≠ 15 ∨ j ≠ 3 by omega))))⟩
      have al701 := alC_up5 hg al F701
      have rp701 := rwC_up rp (F701.2.2 18 1002 1 (tv18 hg) (show 18 ≠ 15 ∨ 1 < 3 by omega)) (fun j => F701.2.2 19 1005 j (tv19 hg) (show 19 ≠ 15 ∨ j < 3 by omega))
      have rc701 := rwC_up rc (F701.2.2 20 1003 1 (tv20 hg) (show 20 ≠ 15 ∨ 1 < 3 by omega)) (fun j => F701.2.2 21 1006 j (tv21 hg) (show 21 ≠ 15 ∨ j < 3 by omega))
      refine y_cI (i := .invokevirtual 100) (len := 3) (r := (0, 50, 5, 1038)) (nL := 4) (k := 2) (n := 3) (hs := []) (args := [.inl (some 15), .inl (some 17), zi xa697]) (rest := []) (l0 := [some (.inl (some 15)), some (.inl (some 17)), some (zi xa697), none]) (by decide +kernel) (Or.inr (Or.inl ⟨_, rfl⟩)) rfl rfl rfl rfl (Nat.le_of_ble_eq_true rfl) (zO O700.2.1 (tv15 O700.2.1) aw15 rfl) rfl (qI_le (by decide) (e_tree0 (q := sk b n a) (a0 := a) O700.2.1 al701 r700 (by omega) rp701 rc701 (by omega))) (fun y701 h701 hRy701 => ?_)
      obtain ⟨τ701, O701, hD701⟩ := hRy701
      rcases hD701 with ⟨a701, ps701, cs701, e701, le701, hy701, rd701, wp701, wc701⟩ | ⟨r701, q701, e701, hy701, f701⟩
      ·
        refine y_rI (len := 1) (r := (0, 0, 0, 0)) (nL := 4) (k := 2) (n9 := 2) (hs := []) (by decide +kernel) rfl (zfit_b (by omega) (by omega)).2 ?_
        exact ⟨_, ⟨(aup_trans (aup_trans (aup_trans O697.1 O698.1) O700.1) O701.1), O701.2.1, fun k T j hk (hC : (k ≠ 15 ∨ j < 3) ∧ k ≠ 19 ∧ k ≠ 21 ∧ ((k ≠ 18 ∧ k ≠ 20) ∨ j ≠ 1)) => ((O701.2.2 k T j (O700.1 _ _ (O698.1 _ _ (O697.1 _ _ hk))) (show (k ≠ 15 ∨ j < 3) ∧ k ≠ 19 ∧ k ≠ 21 ∧ ((k ≠ 18 ∧ k ≠ 20) ∨ j ≠ 1) by omega)).trans ((O700.2.2 k T j (O698.1 _ _ (O697.1 _ _ hk)) (show k ≠ 15 ∨ j ≠ 3 by omega)).trans ((O698.2.2 k T j (O697.1 _ _ hk) (show k ≠ 15 ∨ j ≠ 3 by omega)).trans (O697.2.2 k T j hk (show k ≠ 15 ∨ j ≠ 3 by omega)))))⟩, Or.inl ⟨a701, ps701, cs701, (by unfold wItm; simp only [e698, e700, e701]), by omega, by omega, rd701, wp701, wc701⟩⟩
      ·
        refine y_rI (len := 1) (r := (0, 0, 0, 0)) (nL := 4) (k := 2) (n9 := 2) (hs := []) (by decide +kernel) rfl (zfit_b (by omega) (by omega)).2 ?_
        exact ⟨_, ⟨(aup_trans (aup_trans (aup_trans O697.1 O698.1) O700.1) O701.1), O701.2.1, fun k T j hk (hC : (k ≠ 15 ∨ j < 3) ∧ k ≠ 19 ∧ k ≠ 21 ∧ ((k ≠ 18 ∧ k ≠ 20) ∨ j ≠ 1)) => ((O701.2.2 k T j (O700.1 _ _ (O698.1 _ _ (O697.1 _ _ hk))) (show (k ≠ 15 ∨ j < 3) ∧ k ≠ 19 ∧ k ≠ 21 ∧ ((k ≠ 18 ∧ k ≠ 20) ∨ j ≠ 1) by omega)).trans ((O700.2.2 k T j (O698.1 _ _ (O697.1 _ _ hk)) (show k ≠ 15 ∨ j ≠ 3 by omega)).trans ((O698.2.2 k T j (O697.1 _ _ hk) (show k ≠ 15 ∨ j ≠ 3 by omega)).trans (O697.2.2 k T j hk (show k ≠ 15 ∨ j ≠ 3 by omega)))))⟩, Or.inr ⟨_, _, (by unfold wItm; simp only [e698, e700, e701]), by omega, f701⟩⟩
    ·
      obtain ⟨⟨xn700n, hn700n, en700n⟩, ⟨xa700n, ha700n, ea700n⟩, hb700n, -⟩ := id r700
      refine y_iT (c := .eq) (off := 10) (pc' := 41) (len := 3) (r := (0, 0, 0, 0)) (by decide +kernel) (acmpT (c := .eq) (by show _ = _; omega)) (by decide +kernel) ?_
      refine y_same (i := .aload_n 0) (len := 1) (r := (0, 0, 0, 0)) (pc' := 42) (ls' := [some (.inl (some 15)), some (.inl (some 17)), some (zi xa697), none]) (st' := [.inl (some 15)]) (by decide +kernel) (fun k q => by cases q) rfl ?_
      refine y_cI (i := .invokevirtual 103) (len := 3) (r := (0, 54, 5, 1025)) (nL := 3) (k := 1) (n := 1) (hs := []) (args := [.inl (some 15)]) (rest := []) (l0 := [some (.inl (some 15)), none, none]) (by decide +kernel) (Or.inr (Or.inl ⟨_, rfl⟩)) rfl rfl rfl rfl (Nat.le_of_ble_eq_true rfl) (zO O700.2.1 (tv15 O700.2.1) aw15 rfl) rfl (qI_le (by decide) (e_var O700.2.1 r700 (by omega))) (fun y702 h702 hRy702 => ?_)
      obtain ⟨τ702, O702, hD702⟩ := hRy702
      rw [pvr_sk (by omega)] at hD702
      rcases hD702 with ⟨v702, a702, e702, le702, hy702, lv702, uv702, r702⟩ | ⟨q702, e702, hy702, f702⟩
      ·
        obtain ⟨⟨xn702y, hn702y, en702y⟩, ⟨xa702y, ha702y, ea702y⟩, hb702y, -⟩ := id r702
        refine y_same (i := .istore_n 3) (len := 1) (r := (0, 0, 0, 0)) (pc' := 46) (ls' := [some (.inl (some 15)), some (.inl (some 17)), some (zi xa697), some (zi y702)]) (st' := []) (by decide +kernel) (fun k q => by cases q) rfl ?_
        refine y_same (i := .iload_n 3) (len := 1) (r := (0, 0, 0, 0)) (pc' := 47) (ls' := [some (.inl (some 15)), some (.inl (some 17)), some (zi xa697), some (zi y702)]) (st' := [zi y702]) (by decide +kernel) (fun k q => by cases q) rfl ?_
        refine y_ic (c := (-1)) (len := 1) (r := (0, 0, 0, 0)) (by decide +kernel) (by decide) (fun y703 hy703 => ?_)
        refine y_cT (c := .ne) (off := 5) (pc' := 53) (len := 3) (r := (0, 0, 0, 0)) (by decide +kernel) (acmpT (c := .ne) (by show ¬ (_ = _); omega)) (by decide +kernel) ?_
        refine y_same (i := .aload_n 0) (len := 1) (r := (0, 0, 0, 0)) (pc' := 54) (ls' := [some (.inl (some 15)), some (.inl (some 17)), some (zi xa697), some (zi y702)]) (st' := [.inl (some 15)]) (by decide +kernel) (fun k q => by cases q) rfl ?_
        refine y_same (i := .ldc 107) (len := 2) (r := (1, 6, 1042, 0)) (pc' := 56) (ls' := [some (.inl (some 15)), some (.inl (some 17)), some (zi xa697), some (zi y702)]) (st' := [.inl (some 2000006), .inl (some 15)]) (by decide +kernel) (fun k q => by cases q) rfl ?_
        refine y_cI (i := .invokevirtual 86) (len := 3) (r := (0, 57, 5, 965)) (nL := 4) (k := 2) (n := 2) (hs := []) (args := [.inl (some 15), .inl (some 2000006)]) (rest := []) (l0 := [some (.inl (some 15)), some (.inl (some 2000006)), none, none]) (by decide +kernel) (Or.inr (Or.inl ⟨_, rfl⟩)) rfl rfl rfl rfl (Nat.le_of_ble_eq_true rfl) (zO O702.2.1 (tv15 O702.2.1) aw15 rfl) rfl (qI_le (by decide) (e_sign6 O702.2.1 r702 (by omega))) (fun y704 h704 hRy704 => ?_)
        obtain ⟨τ704, O704, hD704⟩ := hRy704
        rcases hD704 with ⟨a704, e704, le704, hy704, r704⟩ | ⟨e704, hy704, r704⟩
        ·
          obtain ⟨⟨xn704y, hn704y, en704y⟩, ⟨xa704y, ha704y, ea704y⟩, hb704y, -⟩ := id r704
          refine y_iF (c := .eq) (off := 11) (len := 3) (r := (0, 0, 0, 0)) (by decide +kernel) (acmpF (c := .eq) (by show ¬ (_ = _); omega)) ?_
          refine y_same (i := .aload_n 0) (len := 1) (r := (0, 0, 0, 0)) (pc' := 63) (ls' := [some (.inl (some 15)), some (.inl (some 17)), some (zi xa697), some (zi y702)]) (st' := [.inl (some 15)]) (by decide +kernel) (fun k q => by cases q) rfl ?_
          refine y_same (i := .aload_n 1) (len := 1) (r := (0, 0, 0, 0)) (pc' := 64) (ls' := [some (.inl (some 15)), some (.inl (some 17)), some (zi xa697), some (zi y702)]) (st' := [.inl (some 17), .inl (some 15)]) (by decide +kernel) (fun k q => by cases q) rfl ?_
          refine y_same (i := .iload_n 2) (len := 1) (r := (0, 0, 0, 0)) (pc' := 65) (ls' := [some (.inl (some 15)), some (.inl (some 17)), some (zi xa697), some (zi y702)]) (st' := [zi xa697, .inl (some 17), .inl (some 15)]) (by decide +kernel) (fun k q => by cases q) rfl ?_
          refine y_same (i := .iload_n 3) (len := 1) (r := (0, 0, 0, 0)) (pc' := 66) (ls' := [some (.inl (some 15)), some (.inl (some 17)), some (zi xa697), some (zi y702)]) (st' := [zi y702, zi xa697, .inl (some 17), .inl (some 15)]) (by decide +kernel) (fun k q => by cases q) rfl ?_
          have F705 : oF (fun k j => k ≠ 15 ∨ j < 3) τ h τ704 h704 := ⟨(aup_trans (aup_trans (aup_trans (aup_trans O697.1 O698.1) O700.1) O702.1) O704.1), O704.2.1, fun k T j hk (hC : k ≠ 15 ∨ j < 3) => ((O704.2.2 k T j (O702.1 _ _ (O700.1 _ _ (O698.1 _ _ (O697.1 _ _ hk)))) (show k ≠ 15 ∨ j ≠ 3 by omega)).trans ((O702.2.2 k T j (O700.1 _ _ (O698.1 _ _ (O697.1 _ _ hk))) (show k ≠ 15 ∨ j < 3 by omega)).trans ((O700.2.2 k T j (O698.1 _ _ (O697.1 _ _ hk)) (show k ≠ 15 ∨ j ≠ 3 by omega)).trans ((O698.2.2 k T j (O697.1 _ _ hk) (show k ≠ 15 ∨ j ≠ 3 by omega)).trans (O697.2.2 k T j hk (show k ≠ 15 ∨ j ≠ 3 by omega))))))⟩
          have al705 := alC_up5 hg al F705
          have rp705 := rwC_up rp (F705.2.2 18 1002 1 (tv18 hg) (show 18 ≠ 15 ∨ 1 < 3 by omega)) (fun j => F705.2.2 19 1005 j (tv19 hg) (show 19 ≠ 15 ∨ j < 3 by omega))
          have rc705 := rwC_up rc (F705.2.2 20 1003 1 (tv20 hg) (show 20 ≠ 15 ∨ 1 < 3 by omega)) (fun j => F705.2.2 21 1006 j (tv21 hg) (show 21 ≠ 15 ∨ j < 3 by omega))
          refine y_cI (i := .invokevirtual 109) (len := 3) (r := (0, 51, 5, 1043)) (nL := 6) (k := 2) (n := 4) (hs := []) (args := [.inl (some 15), .inl (some 17), zi xa697, zi y702]) (rest := []) (l0 := [some (.inl (some 15)), some (.inl (some 17)), some (zi xa697), some (zi y702), none, none]) (by decide +kernel) (Or.inr (Or.inl ⟨_, rfl⟩)) rfl rfl rfl rfl (Nat.le_of_ble_eq_true rfl) (zO O704.2.1 (tv15 O704.2.1) aw15 rfl) rfl (qI_le (by decide) (e_cell0 (q := sk b n a) (a0 := a) O704.2.1 al705 r704 (by omega) rp705 rc705 (by omega) (x := v702) (by omega) (by omega) (by omega))) (fun y705 h705 hRy705 => ?_)
          obtain ⟨τ705, O705, hD705⟩ := hRy705
          rcases hD705 with ⟨a705, ps705, cs705, e705, le705, hy705, rd705, wp705, wc705⟩ | ⟨r705, q705, e705, hy705, f705⟩
          ·
            refine y_rI (len := 1) (r := (0, 0, 0, 0)) (nL := 4) (k := 2) (n9 := 2) (hs := []) (by decide +kernel) rfl (zfit_b (by omega) (by omega)).2 ?_
            exact ⟨_, ⟨(aup_trans (aup_trans (aup_trans (aup_trans (aup_trans O697.1 O698.1) O700.1) O702.1) O704.1) O705.1), O705.2.1, fun k T j hk (hC : (k ≠ 15 ∨ j < 3) ∧ k ≠ 19 ∧ k ≠ 21 ∧ ((k ≠ 18 ∧ k ≠ 20) ∨ j ≠ 1)) => ((O705.2.2 k T j (O704.1 _ _ (O702.1 _ _ (O700.1 _ _ (O698.1 _ _ (O697.1 _ _ hk))))) (show (k ≠ 15 ∨ j < 3) ∧ k ≠ 19 ∧ k ≠ 21 ∧ ((k ≠ 18 ∧ k ≠ 20) ∨ j ≠ 1) by omega)).trans ((O704.2.2 k T j (O702.1 _ _ (O700.1 _ _ (O698.1 _ _ (O697.1 _ _ hk)))) (show k ≠ 15 ∨ j ≠ 3 by omega)).trans ((O702.2.2 k T j (O700.1 _ _ (O698.1 _ _ (O697.1 _ _ hk))) (show k ≠ 15 ∨ j < 3 by omega)).trans ((O700.2.2 k T j (O698.1 _ _ (O697.1 _ _ hk)) (show k ≠ 15 ∨ j ≠ 3 by omega)).trans ((O698.2.2 k T j (O697.1 _ _ hk) (show k ≠ 15 ∨ j ≠ 3 by omega)).trans (O697.2.2 k T j hk (show k ≠ 15 ∨ j ≠ 3 by omega)))))))⟩, Or.inl ⟨a705, ps705, cs705, (by unfold wItm; simp only [e698, e700, e702, e704, e705]), by omega, by omega, rd705, wp705, wc705⟩⟩
          ·
            refine y_rI (len := 1) (r := (0, 0, 0, 0)) (nL := 4) (k := 2) (n9 := 2) (hs := []) (by decide +kernel) rfl (zfit_b (by omega) (by omega)).2 ?_
            exact ⟨_, ⟨(aup_trans (aup_trans (aup_trans (aup_trans (aup_trans O697.1 O698.1) O700.1) O702.1) O704.1) O705.1), O705.2.1, fun k T j hk (hC : (k ≠ 15 ∨ j < 3) ∧ k ≠ 19 ∧ k ≠ 21 ∧ ((k ≠ 18 ∧ k ≠ 20) ∨ j ≠ 1)) => ((O705.2.2 k T j (O704.1 _ _ (O702.1 _ _ (O700.1 _ _ (O698.1 _ _ (O697.1 _ _ hk))))) (show (k ≠ 15 ∨ j < 3) ∧ k ≠ 19 ∧ k ≠ 21 ∧ ((k ≠ 18 ∧ k ≠ 20) ∨ j ≠ 1) by omega)).trans ((O704.2.2 k T j (O702.1 _ _ (O700.1 _ _ (O698.1 _ _ (O697.1 _ _ hk)))) (show k ≠ 15 ∨ j ≠ 3 by omega)).trans ((O702.2.2 k T j (O700.1 _ _ (O698.1 _ _ (O697.1 _ _ hk))) (show k ≠ 15 ∨ j < 3 by omega)).trans ((O700.2.2 k T j (O698.1 _ _ (O697.1 _ _ hk)) (show k ≠ 15 ∨ j ≠ 3 by omega)).trans ((O698.2.2 k T j (O697.1 _ _ hk) (show k ≠ 15 ∨ j ≠ 3 by omega)).trans (O697.2.2 k T j hk (show k ≠ 15 ∨ j ≠ 3 by omega)))))))⟩, Or.inr ⟨_, _, (by unfold wItm; simp only [e698, e700, e702, e704, e705]), by omega, f705⟩⟩
        ·
          have sl704 := sk_le (b := b) (n := n) (a := a702) (by omega)
          obtain ⟨⟨xn704n, hn704n, en704n⟩, ⟨xa704n, ha704n, ea704n⟩, hb704n, -⟩ := id r704
          refine y_iT (c := .eq) (off := 11) (pc' := 70) (len := 3) (r := (0, 0, 0, 0)) (by decide +kernel) (acmpT (c := .eq) (by show _ = _; omega)) (by decide +kernel) ?_
          refine y_same (i := .aload_n 0) (len := 1) (r := (0, 0, 0, 0)) (pc' := 71) (ls' := [some (.inl (some 15)), some (.inl (some 17)), some (zi xa697), some (zi y702)]) (st' := [.inl (some 15)]) (by decide +kernel) (fun k q => by cases q) rfl ?_
          refine y_same (i := .ldc 113) (len := 2) (r := (1, 7, 1047, 0)) (pc' := 73) (ls' := [some (.inl (some 15)), some (.inl (some 17)), some (zi xa697), some (zi y702)]) (st' := [.inl (some 2000007), .inl (some 15)]) (by decide +kernel) (fun k q => by cases q) rfl ?_
          refine y_cI (i := .invokevirtual 86) (len := 3) (r := (0, 57, 5, 965)) (nL := 4) (k := 2) (n := 2) (hs := []) (args := [.inl (some 15), .inl (some 2000007)]) (rest := []) (l0 := [some (.inl (some 15)), some (.inl (some 2000007)), none, none]) (by decide +kernel) (Or.inr (Or.inl ⟨_, rfl⟩)) rfl rfl rfl rfl (Nat.le_of_ble_eq_true rfl) (zO O704.2.1 (tv15 O704.2.1) aw15 rfl) rfl (qI_le (by decide) (e_sign7 O704.2.1 r704 (by omega))) (fun y706 h706 hRy706 => ?_)
          obtain ⟨τ706, O706, hD706⟩ := hRy706
          rw [sgn_sk (by omega), sk_idem (by omega)] at hD706
          rcases hD706 with ⟨a706, e706, le706, hy706, r706⟩ | ⟨e706, hy706, r706⟩
          ·
            obtain ⟨⟨xn706y, hn706y, en706y⟩, ⟨xa706y, ha706y, ea706y⟩, hb706y, -⟩ := id r706
            refine y_iF (c := .eq) (off := 12) (len := 3) (r := (0, 0, 0, 0)) (by decide +kernel) (acmpF (c := .eq) (by show ¬ (_ = _); omega)) ?_
            refine y_same (i := .aload_n 0) (len := 1) (r := (0, 0, 0, 0)) (pc' := 80) (ls' := [some (.inl (some 15)), some (.inl (some 17)), some (zi xa697), some (zi y702)]) (st' := [.inl (some 15)]) (by decide +kernel) (fun k q => by cases q) rfl ?_
            refine y_same (i := .aload_n 1) (len := 1) (r := (0, 0, 0, 0)) (pc' := 81) (ls' := [some (.inl (some 15)), some (.inl (some 17)), some (zi xa697), some (zi y702)]) (st' := [.inl (some 17), .inl (some 15)]) (by decide +kernel) (fun k q => by cases q) rfl ?_
            refine y_same (i := .iload_n 2) (len := 1) (r := (0, 0, 0, 0)) (pc' := 82) (ls' := [some (.inl (some 15)), some (.inl (some 17)), some (zi xa697), some (zi y702)]) (st' := [zi xa697, .inl (some 17), .inl (some 15)]) (by decide +kernel) (fun k q => by cases q) rfl ?_
            refine y_ic (c := 1) (len := 1) (r := (0, 0, 0, 0)) (by decide +kernel) (by decide) (fun y707 hy707 => ?_)
            refine y_same (i := .iload_n 3) (len := 1) (r := (0, 0, 0, 0)) (pc' := 84) (ls' := [some (.inl (some 15)), some (.inl (some 17)), some (zi xa697), some (zi y702)]) (st' := [zi y702, zi y707, zi xa697, .inl (some 17), .inl (some 15)]) (by decide +kernel) (fun k q => by cases q) rfl ?_
            have F708 : oF (fun k j => k ≠ 15 ∨ j < 3) τ h τ706 h706 := ⟨(aup_trans (aup_trans (aup_trans (aup_trans (aup_trans O697.1 O698.1) O700.1) O702.1) O704.1) O706.1), O706.2.1, fun k T j hk (hC : k ≠ 15 ∨ j < 3) => ((O706.2.2 k T j (O704.1 _ _ (O702.1 _ _ (O700.1 _ _ (O698.1 _ _ (O697.1 _ _ hk))))) (show k ≠ 15 ∨ j ≠ 3 by omega)).trans ((O704.2.2 k T j (O702.1 _ _ (O700.1 _ _ (O698.1 _ _ (O697.1 _ _ hk)))) (show k ≠ 15 ∨ j ≠ 3 by omega)).trans ((O702.2.2 k T j (O700.1 _ _ (O698.1 _ _ (O697.1 _ _ hk))) (show k ≠ 15 ∨ j < 3 by omega)).trans ((O700.2.2 k T j (O698.1 _ _ (O697.1 _ _ hk)) (show k ≠ 15 ∨ j ≠ 3 by omega)).trans ((O698.2.2 k T j (O697.1 _ _ hk) (show k ≠ 15 ∨ j ≠ 3 by omega)).trans (O697.2.2 k T j hk (show k ≠ 15 ∨ j ≠ 3 by omega)))))))⟩
            have al708 := alC_up5 hg al F708
            have rp708 := rwC_up rp (F708.2.2 18 1002 1 (tv18 hg) (show 18 ≠ 15 ∨ 1 < 3 by omega)) (fun j => F708.2.2 19 1005 j (tv19 hg) (show 19 ≠ 15 ∨ j < 3 by omega))
            have rc708 := rwC_up rc (F708.2.2 20 1003 1 (tv20 hg) (show 20 ≠ 15 ∨ 1 < 3 by omega)) (fun j => F708.2.2 21 1006 j (tv21 hg) (show 21 ≠ 15 ∨ j < 3 by omega))
            refine y_cI (i := .invokevirtual 115) (len := 3) (r := (0, 52, 5, 1048)) (nL := 6) (k := 2) (n := 5) (hs := []) (args := [.inl (some 15), .inl (some 17), zi xa697, zi y707, zi y702]) (rest := []) (l0 := [some (.inl (some 15)), some (.inl (some 17)), some (zi xa697), some (zi y707), some (zi y702), none]) (by decide +kernel) (Or.inr (Or.inl ⟨_, rfl⟩)) rfl rfl rfl rfl (Nat.le_of_ble_eq_true rfl) (zO O706.2.1 (tv15 O706.2.1) aw15 rfl) rfl (qI_le (by decide) (e_claim0 (q := sk b n a) (a0 := a) O706.2.1 al708 r706 (by omega) rp708 rc708 (by omega) (kd := 1) (x := v702) (by omega) (by omega) (by omega) (by omega) (by omega) (by omega))) (fun y708 h708 hRy708 => ?_)
            obtain ⟨τ708, O708, hD708⟩ := hRy708
            rcases hD708 with ⟨a708, ps708, cs708, e708, le708, hy708, rd708, wp708, wc708⟩ | ⟨r708, q708, e708, hy708, f708⟩
            ·
              refine y_rI (len := 1) (r := (0, 0, 0, 0)) (nL := 4) (k := 2) (n9 := 2) (hs := []) (by decide +kernel) rfl (zfit_b (by omega) (by omega)).2 ?_
              exact ⟨_, ⟨(aup_trans (aup_trans (aup_trans (aup_trans (aup_trans (aup_trans O697.1 O698.1) O700.1) O702.1) O704.1) O706.1) O708.1), O708.2.1, fun k T j hk (hC : (k ≠ 15 ∨ j < 3) ∧ k ≠ 19 ∧ k ≠ 21 ∧ ((k ≠ 18 ∧ k ≠ 20) ∨ j ≠ 1)) => ((O708.2.2 k T j (O706.1 _ _ (O704.1 _ _ (O702.1 _ _ (O700.1 _ _ (O698.1 _ _ (O697.1 _ _ hk)))))) (show (k ≠ 15 ∨ j < 3) ∧ k ≠ 19 ∧ k ≠ 21 ∧ ((k ≠ 18 ∧ k ≠ 20) ∨ j ≠ 1) by omega)).trans ((O706.2.2 k T j (O704.1 _ _ (O702.1 _ _ (O700.1 _ _ (O698.1 _ _ (O697.1 _ _ hk))))) (show k ≠ 15 ∨ j ≠ 3 by omega)).trans ((O704.2.2 k T j (O702.1 _ _ (O700.1 _ _ (O698.1 _ _ (O697.1 _ _ hk)))) (show k ≠ 15 ∨ j ≠ 3 by omega)).trans ((O702.2.2 k T j (O700.1 _ _ (O698.1 _ _ (O697.1 _ _ hk))) (show k ≠ 15 ∨ j < 3 by omega)).trans ((O700.2.2 k T j (O698.1 _ _ (O697.1 _ _ hk)) (show k ≠ 15 ∨ j ≠ 3 by omega)).trans ((O698.2.2 k T j (O697.1 _ _ hk) (show k ≠ 15 ∨ j ≠ 3 by omega)).trans (O697.2.2 k T j hk (show k ≠ 15 ∨ j ≠ 3 by omega))))))))⟩, Or.inl ⟨a708, ps708, cs708, (by unfold wItm; simp only [e698, e700, e702, e704, e706, e708]), by omega, by omega, rd708, wp708, wc708⟩⟩
            ·
              refine y_rI (len := 1) (r := (0, 0, 0, 0)) (nL := 4) (k := 2) (n9 := 2) (hs := []) (by decide +kernel) rfl (zfit_b (by omega) (by omega)).2 ?_
              exact ⟨_, ⟨(aup_trans (aup_trans (aup_trans (aup_trans (aup_trans (aup_trans O697.1 O698.1) O700.1) O702.1) O704.1) O706.1) O708.1), O708.2.1, fun k T j hk (hC : (k ≠ 15 ∨ j < 3) ∧ k ≠ 19 ∧ k ≠ 21 ∧ ((k ≠ 18 ∧ k ≠ 20) ∨ j ≠ 1)) => ((O708.2.2 k T j (O706.1 _ _ (O704.1 _ _ (O702.1 _ _ (O700.1 _ _ (O698.1 _ _ (O697.1 _ _ hk)))))) (show (k ≠ 15 ∨ j < 3) ∧ k ≠ 19 ∧ k ≠ 21 ∧ ((k ≠ 18 ∧ k ≠ 20) ∨ j ≠ 1) by omega)).trans ((O706.2.2 k T j (O704.1 _ _ (O702.1 _ _ (O700.1 _ _ (O698.1 _ _ (O697.1 _ _ hk))))) (show k ≠ 15 ∨ j ≠ 3 by omega)).trans ((O704.2.2 k T j (O702.1 _ _ (O700.1 _ _ (O698.1 _ _ (O697.1 _ _ hk)))) (show k ≠ 15 ∨ j ≠ 3 by omega)).trans ((O702.2.2 k T j (O700.1 _ _ (O698.1 _ _ (O697.1 _ _ hk))) (show k ≠ 15 ∨ j < 3 by omega)).trans ((O700.2.2 k T j (O698.1 _ _ (O697.1 _ _ hk)) (show k ≠ 15 ∨ j ≠ 3 by omega)).trans ((O698.2.2 k T j (O697.1 _ _ hk) (show k ≠ 15 ∨ j ≠ 3 by omega)).trans (O697.2.2 k T j hk (show k ≠ 15 ∨ j ≠ 3 by omega))))))))⟩, Or.inr ⟨_, _, (by unfold wItm; simp only [e698, e700, e702, e704, e706, e708]), by omega, f708⟩⟩
          ·
            obtain ⟨⟨xn706n, hn706n, en706n⟩, ⟨xa706n, ha706n, ea706n⟩, hb706n, -⟩ := id r706
            refine y_iT (c := .eq) (off := 12) (pc' := 88) (len := 3) (r := (0, 0, 0, 0)) (by decide +kernel) (acmpT (c := .eq) (by show _ = _; omega)) (by decide +kernel) ?_
            refine y_same (i := .aload_n 0) (len := 1) (r := (0, 0, 0, 0)) (pc' := 89) (ls' := [some (.inl (some 15)), some (.inl (some 17)), some (zi xa697), some (zi y702)]) (st' := [.inl (some 15)]) (by decide +kernel) (fun k q => by cases q) rfl ?_
            refine y_same (i := .ldc 119) (len := 2) (r := (1, 8, 1052, 0)) (pc' := 91) (ls' := [some (.inl (some 15)), some (.inl (some 17)), some (zi xa697), some (zi y702)]) (st' := [.inl (some 2000008), .inl (some 15)]) (by decide +kernel) (fun k q => by cases q) rfl ?_
            refine y_cI (i := .invokevirtual 68) (len := 3) (r := (0, 55, 5, 1017)) (nL := 2) (k := 2) (n := 2) (hs := []) (args := [.inl (some 15), .inl (some 2000008)]) (rest := []) (l0 := [some (.inl (some 15)), some (.inl (some 2000008))]) (by decide +kernel) (Or.inr (Or.inl ⟨_, rfl⟩)) rfl rfl rfl rfl (Nat.le_of_ble_eq_true rfl) (zO O706.2.1 (tv15 O706.2.1) aw15 rfl) rfl (qI_le (by decide) (e_need8 O706.2.1 r706 (by omega))) (fun y709 h709 hRy709 => ?_)
            obtain ⟨τ709, O709, hD709⟩ := hRy709
            rw [ndd_sk (by omega), sk_idem (by omega)] at hD709
            rcases hD709 with ⟨a709, e709, le709, hy709, r709⟩ | ⟨e709, hy709, f709⟩
            ·
              obtain ⟨⟨xn709y, hn709y, en709y⟩, ⟨xa709y, ha709y, ea709y⟩, hb709y, -⟩ := id r709
              refine y_iF (c := .eq) (off := 18) (len := 3) (r := (0, 0, 0, 0)) (by decide +kernel) (acmpF (c := .eq) (by show ¬ (_ = _); omega)) ?_
              refine y_same (i := .aload_n 0) (len := 1) (r := (0, 0, 0, 0)) (pc' := 98) (ls' := [some (.inl (some 15)), some (.inl (some 17)), some (zi xa697), some (zi y702)]) (st' := [.inl (some 15)]) (by decide +kernel) (fun k q => by cases q) rfl ?_
              refine y_same (i := .aload_n 1) (len := 1) (r := (0, 0, 0, 0)) (pc' := 99) (ls' := [some (.inl (some 15)), some (.inl (some 17)), some (zi xa697), some (zi y702)]) (st' := [.inl (some 17), .inl (some 15)]) (by decide +kernel) (fun k q => by cases q) rfl ?_
              refine y_same (i := .iload_n 2) (len := 1) (r := (0, 0, 0, 0)) (pc' := 100) (ls' := [some (.inl (some 15)), some (.inl (some 17)), some (zi xa697), some (zi y702)]) (st' := [zi xa697, .inl (some 17), .inl (some 15)]) (by decide +kernel) (fun k q => by cases q) rfl ?_
              refine y_ic (c := 0) (len := 1) (r := (0, 0, 0, 0)) (by decide +kernel) (by decide) (fun y710 hy710 => ?_)
              refine y_same (i := .iload_n 3) (len := 1) (r := (0, 0, 0, 0)) (pc' := 102) (ls' := [some (.inl (some 15)), some (.inl (some 17)), some (zi xa697), some (zi y702)]) (st' := [zi y702, zi y710, zi xa697, .inl (some 17), .inl (some 15)]) (by decide +kernel) (fun k q => by cases q) rfl ?_
              have F711 : oF (fun k j => k ≠ 15 ∨ j < 3) τ h τ709 h709 := ⟨(aup_trans (aup_trans (aup_trans (aup_trans (aup_trans (aup_trans O697.1 O698.1) O700.1) O702.1) O704.1) O706.1) O709.1), O709.2.1, fun k T j hk (hC : k ≠ 15 ∨ j < 3) => ((O709.2.2 k T j (O706.1 _ _ (O704.1 _ _ (O702.1 _ _ (O700.1 _ _ (O698.1 _ _ (O697.1 _ _ hk)))))) (show k ≠ 15 ∨ j < 3 by omega)).trans ((O706.2.2 k T j (O704.1 _ _ (O702.1 _ _ (O700.1 _ _ (O698.1 _ _ (O697.1 _ _ hk))))) (show k ≠ 15 ∨ j ≠ 3 by omega)).trans ((O704.2.2 k T j (O702.1 _ _ (O700.1 _ _ (O698.1 _ _ (O697.1 _ _ hk)))) (show k ≠ 15 ∨ j ≠ 3 by omega)).trans ((O702.2.2 k T j (O700.1 _ _ (O698.1 _ _ (O697.1 _ _ hk))) (show k ≠ 15 ∨ j < 3 by omega)).trans ((O700.2.2 k T j (O698.1 _ _ (O697.1 _ _ hk)) (show k ≠ 15 ∨ j ≠ 3 by omega)).trans ((O698.2.2 k T j (O697.1 _ _ hk) (show k ≠ 15 ∨ j ≠ 3 by omega)).trans (O697.2.2 k T j hk (show k ≠ 15 ∨ j ≠ 3 by omega))))))))⟩
              have al711 := alC_up5 hg al F711
              have rp711 := rwC_up rp (F711.2.2 18 1002 1 (tv18 hg) (show 18 ≠ 15 ∨ 1 < 3 by omega)) (fun j => F711.2.2 19 1005 j (tv19 hg) (show 19 ≠ 15 ∨ j < 3 by omega))
              have rc711 := rwC_up rc (F711.2.2 20 1003 1 (tv20 hg) (show 20 ≠ 15 ∨ 1 < 3 by omega)) (fun j => F711.2.2 21 1006 j (tv21 hg) (show 21 ≠ 15 ∨ j < 3 by omega))
              refine y_cI (i := .invokevirtual 115) (len := 3) (r := (0, 52, 5, 1048)) (nL := 6) (k := 2) (n := 5) (hs := []) (args := [.inl (some 15), .inl (some 17), zi xa697, zi y710, zi y702]) (rest := []) (l0 := [some (.inl (some 15)), some (.inl (some 17)), some (zi xa697), some (zi y710), some (zi y702), none]) (by decide +kernel) (Or.inr (Or.inl ⟨_, rfl⟩)) rfl rfl rfl rfl (Nat.le_of_ble_eq_true rfl) (zO O709.2.1 (tv15 O709.2.1) aw15 rfl) rfl (qI_le (by decide) (e_claim0 (q := sk b n a) (a0 := a) O709.2.1 al711 r709 (by omega) rp711 rc711 (by omega) (kd := 0) (x := v702) (by omega) (by omega) (by omega) (by omega) (by omega) (by omega))) (fun y711 h711 hRy711 => ?_)
              obtain ⟨τ711, O711, hD711⟩ := hRy711
              rcases hD711 with ⟨a711, ps711, cs711, e711, le711, hy711, rd711, wp711, wc711⟩ | ⟨r711, q711, e711, hy711, f711⟩
              ·
                refine y_iF (c := .eq) (off := 7) (len := 3) (r := (0, 0, 0, 0)) (by decide +kernel) (acmpF (c := .eq) (by show ¬ (_ = _); omega)) ?_
                refine y_ic (c := 1) (len := 1) (r := (0, 0, 0, 0)) (by decide +kernel) (by decide) (fun y712 hy712 => ?_)
                refine y_goto (off := 4) (pc' := 113) (len := 3) (r := (0, 0, 0, 0)) (by decide +kernel) (by decide +kernel) ?_
                refine y_rI (len := 1) (r := (0, 0, 0, 0)) (nL := 4) (k := 2) (n9 := 2) (hs := []) (by decide +kernel) rfl (zfit_b (by omega) (by omega)).2 ?_
                exact ⟨_, ⟨(aup_trans (aup_trans (aup_trans (aup_trans (aup_trans (aup_trans (aup_trans O697.1 O698.1) O700.1) O702.1) O704.1) O706.1) O709.1) O711.1), O711.2.1, fun k T j hk (hC : (k ≠ 15 ∨ j < 3) ∧ k ≠ 19 ∧ k ≠ 21 ∧ ((k ≠ 18 ∧ k ≠ 20) ∨ j ≠ 1)) => ((O711.2.2 k T j (O709.1 _ _ (O706.1 _ _ (O704.1 _ _ (O702.1 _ _ (O700.1 _ _ (O698.1 _ _ (O697.1 _ _ hk))))))) (show (k ≠ 15 ∨ j < 3) ∧ k ≠ 19 ∧ k ≠ 21 ∧ ((k ≠ 18 ∧ k ≠ 20) ∨ j ≠ 1) by omega)).trans ((O709.2.2 k T j (O706.1 _ _ (O704.1 _ _ (O702.1 _ _ (O700.1 _ _ (O698.1 _ _ (O697.1 _ _ hk)))))) (show k ≠ 15 ∨ j < 3 by omega)).trans ((O706.2.2 k T j (O704.1 _ _ (O702.1 _ _ (O700.1 _ _ (O698.1 _ _ (O697.1 _ _ hk))))) (show k ≠ 15 ∨ j ≠ 3 by omega)).trans ((O704.2.2 k T j (O702.1 _ _ (O700.1 _ _ (O698.1 _ _ (O697.1 _ _ hk)))) (show k ≠ 15 ∨ j ≠ 3 by omega)).trans ((O702.2.2 k T j (O700.1 _ _ (O698.1 _ _ (O697.1 _ _ hk))) (show k ≠ 15 ∨ j < 3 by omega)).trans ((O700.2.2 k T j (O698.1 _ _ (O697.1 _ _ hk)) (show k ≠ 15 ∨ j ≠ 3 by omega)).trans ((O698.2.2 k T j (O697.1 _ _ hk) (show k ≠ 15 ∨ j ≠ 3 by omega)).trans (O697.2.2 k T j hk (show k ≠ 15 ∨ j ≠ 3 by omega)))))))))⟩, Or.inl ⟨a711, ps711, cs711, (by unfold wItm; simp only [e698, e700, e702, e704, e706, e709, e711]), by omega, by omega, rd711, wp711, wc711⟩⟩
              ·
                refine y_iT (c := .eq) (off := 7) (pc' := 112) (len := 3) (r := (0, 0, 0, 0)) (by decide +kernel) (acmpT (c := .eq) (by show _ = _; omega)) (by decide +kernel) ?_
                refine y_ic (c := 0) (len := 1) (r := (0, 0, 0, 0)) (by decide +kernel) (by decide) (fun y713 hy713 => ?_)
                refine y_rI (len := 1) (r := (0, 0, 0, 0)) (nL := 4) (k := 2) (n9 := 2) (hs := []) (by decide +kernel) rfl (zfit_b (by omega) (by omega)).2 ?_
                exact ⟨_, ⟨(aup_trans (aup_trans (aup_trans (aup_trans (aup_trans (aup_trans (aup_trans O697.1 O698.1) O700.1) O702.1) O704.1) O706.1) O709.1) O711.1), O711.2.1, fun k T j hk (hC : (k ≠ 15 ∨ j < 3) ∧ k ≠ 19 ∧ k ≠ 21 ∧ ((k ≠ 18 ∧ k ≠ 20) ∨ j ≠ 1)) => ((O711.2.2 k T j (O709.1 _ _ (O706.1 _ _ (O704.1 _ _ (O702.1 _ _ (O700.1 _ _ (O698.1 _ _ (O697.1 _ _ hk))))))) (show (k ≠ 15 ∨ j < 3) ∧ k ≠ 19 ∧ k ≠ 21 ∧ ((k ≠ 18 ∧ k ≠ 20) ∨ j ≠ 1) by omega)).trans ((O709.2.2 k T j (O706.1 _ _ (O704.1 _ _ (O702.1 _ _ (O700.1 _ _ (O698.1 _ _ (O697.1 _ _ hk)))))) (show k ≠ 15 ∨ j < 3 by omega)).trans ((O706.2.2 k T j (O704.1 _ _ (O702.1 _ _ (O700.1 _ _ (O698.1 _ _ (O697.1 _ _ hk))))) (show k ≠ 15 ∨ j ≠ 3 by omega)).trans ((O704.2.2 k T j (O702.1 _ _ (O700.1 _ _ (O698.1 _ _ (O697.1 _ _ hk)))) (show k ≠ 15 ∨ j ≠ 3 by omega)).trans ((O702.2.2 k T j (O700.1 _ _ (O698.1 _ _ (O697.1 _ _ hk))) (show k ≠ 15 ∨ j < 3 by omega)).trans ((O700.2.2 k T j (O698.1 _ _ (O697.1 _ _ hk)) (show k ≠ 15 ∨ j ≠ 3 by omega)).trans ((O698.2.2 k T j (O697.1 _ _ hk) (show k ≠ 15 ∨ j ≠ 3 by omega)).trans (O697.2.2 k T j hk (show k ≠ 15 ∨ j ≠ 3 by omega)))))))))⟩, Or.inr ⟨_, _, (by unfold wItm; simp only [e698, e700, e702, e704, e706, e709, e711]), by omega, f711⟩⟩
            ·
              refine y_iT (c := .eq) (off := 18) (pc' := 112) (len := 3) (r := (0, 0, 0, 0)) (by decide +kernel) (acmpT (c := .eq) (by show _ = _; omega)) (by decide +kernel) ?_
              refine y_ic (c := 0) (len := 1) (r := (0, 0, 0, 0)) (by decide +kernel) (by decide) (fun y714 hy714 => ?_)
              refine y_rI (len := 1) (r := (0, 0, 0, 0)) (nL := 4) (k := 2) (n9 := 2) (hs := []) (by decide +kernel) rfl (zfit_b (by omega) (by omega)).2 ?_
              exact ⟨_, ⟨(aup_trans (aup_trans (aup_trans (aup_trans (aup_trans (aup_trans O697.1 O698.1) O700.1) O702.1) O704.1) O706.1) O709.1), O709.2.1, fun k T j hk (hC : (k ≠ 15 ∨ j < 3) ∧ k ≠ 19 ∧ k ≠ 21 ∧ ((k ≠ 18 ∧ k ≠ 20) ∨ j ≠ 1)) => ((O709.2.2 k T j (O706.1 _ _ (O704.1 _ _ (O702.1 _ _ (O700.1 _ _ (O698.1 _ _ (O697.1 _ _ hk)))))) (show k ≠ 15 ∨ j < 3 by omega)).trans ((O706.2.2 k T j (O704.1 _ _ (O702.1 _ _ (O700.1 _ _ (O698.1 _ _ (O697.1 _ _ hk))))) (show k ≠ 15 ∨ j ≠ 3 by omega)).trans ((O704.2.2 k T j (O702.1 _ _ (O700.1 _ _ (O698.1 _ _ (O697.1 _ _ hk)))) (show k ≠ 15 ∨ j ≠ 3 by omega)).trans ((O702.2.2 k T j (O700.1 _ _ (O698.1 _ _ (O697.1 _ _ hk))) (show k ≠ 15 ∨ j < 3 by omega)).trans ((O700.2.2 k T j (O698.1 _ _ (O697.1 _ _ hk)) (show k ≠ 15 ∨ j ≠ 3 by omega)).trans ((O698.2.2 k T j (O697.1 _ _ hk) (show k ≠ 15 ∨ j ≠ 3 by omega)).trans (O697.2.2 k T j hk (show k ≠ 15 ∨ j ≠ 3 by omega))))))))⟩, Or.inr ⟨_, _, (by unfold wItm; simp only [e698, e700, e702, e704, e706, e709]), by omega, f709⟩⟩
      ·
        refine y_same (i := .istore_n 3) (len := 1) (r := (0, 0, 0, 0)) (pc' := 46) (ls' := [some (.inl (some 15)), some (.inl (some 17)), some (zi xa697), some (zi y702)]) (st' := []) (by decide +kernel) (fun k q => by cases q) rfl ?_
        refine y_same (i := .iload_n 3) (len := 1) (r := (0, 0, 0, 0)) (pc' := 47) (ls' := [some (.inl (some 15)), some (.inl (some 17)), some (zi xa697), some (zi y702)]) (st' := [zi y702]) (by decide +kernel) (fun k q => by cases q) rfl ?_
        refine y_ic (c := (-1)) (len := 1) (r := (0, 0, 0, 0)) (by decide +kernel) (by decide) (fun y715 hy715 => ?_)
        refine y_cF (c := .ne) (off := 5) (len := 3) (r := (0, 0, 0, 0)) (by decide +kernel) (acmpF (c := .ne) (by show _ = _; omega)) ?_
        refine y_ic (c := 0) (len := 1) (r := (0, 0, 0, 0)) (by decide +kernel) (by decide) (fun y716 hy716 => ?_)
        refine y_rI (len := 1) (r := (0, 0, 0, 0)) (nL := 4) (k := 2) (n9 := 2) (hs := []) (by decide +kernel) rfl (zfit_b (by omega) (by omega)).2 ?_
        exact ⟨_, ⟨(aup_trans (aup_trans (aup_trans O697.1 O698.1) O700.1) O702.1), O702.2.1, fun k T j hk (hC : (k ≠ 15 ∨ j < 3) ∧ k ≠ 19 ∧ k ≠ 21 ∧ ((k ≠ 18 ∧ k ≠ 20) ∨ j ≠ 1)) => ((O702.2.2 k T j (O700.1 _ _ (O698.1 _ _ (O697.1 _ _ hk))) (show k ≠ 15 ∨ j < 3 by omega)).trans ((O700.2.2 k T j (O698.1 _ _ (O697.1 _ _ hk)) (show k ≠ 15 ∨ j ≠ 3 by omega)).trans ((O698.2.2 k T j (O697.1 _ _ hk) (show k ≠ 15 ∨ j ≠ 3 by omega)).trans (O697.2.2 k T j hk (show k ≠ 15 ∨ j ≠ 3 by omega)))))⟩, Or.inr ⟨_, _, (by unfold wItm; simp only [e698, e700, e702]), by omega, f702⟩⟩
theorem rs_l0 {t n : Nat} {b : Nat → Int} : ∀ (f : Nat) (τ : List Nat) (h : zh), hG τ h → alC h → ∀ (a : Nat), rdC h n a b → ∀ (ps cs : List it4), rwC h 18 19 ps → rwC h 20 21 cs → ∀ (i : Nat) (xi : Int32), xi.toInt = (i : Int) → a ≤ n → i = ps.length + cs.length → i + f = 13 → qX 15 47 13 [some (.inl (some 15)), some (.inl (some 17)), some (zi xi)] [] h t (rI (itR0 n b τ h (wItms b n f (a, ps, cs))) t) := by
  intro f
  induction f with
  | zero =>
    intro τ h hg al a rd ps cs rp rc i xi hxi han hi hf
    obtain ⟨⟨x1, s1, l1⟩, -⟩ := rp
    obtain ⟨⟨x2, s2, l2⟩, -⟩ := rc
    obtain ⟨y1, q1, -, u1⟩ := g_int (i := 1) (lo := 0) (hi := 5) hg (tv18 hg) aw1002 (by decide) rfl
    obtain ⟨y2, q2, -, u2⟩ := g_int (i := 1) (lo := 0) (hi := 6) hg (tv20 hg) aw1003 (by decide) rfl
    rw [s1] at q1
    rw [s2] at q2
    cases q1
    cases q2
    omega
  | succ f ih =>
    intro τ h hg al a rd ps cs rp rc i xi hxi han hi hf
    obtain ⟨⟨xn, hn, en⟩, ⟨xa, ha, ea⟩, hb, hn2⟩ := id rd
    refine y_same (i := .iload_n 2) (len := 1) (r := (0, 0, 0, 0)) (pc' := 14) (ls' := [some (.inl (some 15)), some (.inl (some 17)), some (zi xi)]) (st' := [zi xi]) (by decide +kernel) (fun k q => by cases q) rfl ?_
    refine y_si (c := 200) (len := 3) (r := (0, 0, 0, 0)) (by decide +kernel) (by decide) (fun y717 hy717 => ?_)
    refine y_cF (c := .ge) (off := 30) (len := 3) (r := (0, 0, 0, 0)) (by decide +kernel) (acmpF (c := .ge) (by show _ < _; omega)) ?_
    refine y_same (i := .aload_n 0) (len := 1) (r := (0, 0, 0, 0)) (pc' := 21) (ls' := [some (.inl (some 15)), some (.inl (some 17)), some (zi xi)]) (st' := [.inl (some 15)]) (by decide +kernel) (fun k q => by cases q) rfl ?_
    refine y_same (i := .aload_n 1) (len := 1) (r := (0, 0, 0, 0)) (pc' := 22) (ls' := [some (.inl (some 15)), some (.inl (some 17)), some (zi xi)]) (st' := [.inl (some 17), .inl (some 15)]) (by decide +kernel) (fun k q => by cases q) rfl ?_
    refine y_cI (i := .invokevirtual 81) (len := 3) (r := (0, 48, 5, 1007)) (nL := 4) (k := 2) (n := 2) (hs := []) (args := [.inl (some 15), .inl (some 17)]) (rest := []) (l0 := [some (.inl (some 15)), some (.inl (some 17)), none, none]) (by decide +kernel) (Or.inr (Or.inl ⟨_, rfl⟩)) rfl rfl rfl rfl (Nat.le_of_ble_eq_true rfl) (zO hg (tv15 hg) aw15 rfl) rfl (qI_le (by decide) (e_item0 hg al rd (by omega) rp rc)) (fun y718 h718 hRy718 => ?_)
    obtain ⟨τ718, O718, hD718⟩ := hRy718
    rcases hD718 with ⟨a718, ps718, cs718, e718, le718, hy718, rd718, wp718, wc718⟩ | ⟨r718, q718, e718, hy718, f718⟩
    ·
      have ln := wItm_len e718
      simp only at ln
      obtain ⟨⟨xn718y, hn718y, en718y⟩, ⟨xa718y, ha718y, ea718y⟩, hb718y, -⟩ := id rd718
      refine y_iT (c := .ne) (off := 5) (pc' := 30) (len := 3) (r := (0, 0, 0, 0)) (by decide +kernel) (acmpT (c := .ne) (by show ¬ (_ = _); omega)) (by decide +kernel) ?_
      refine y_same (i := .aload_n 0) (len := 1) (r := (0, 0, 0, 0)) (pc' := 31) (ls' := [some (.inl (some 15)), some (.inl (some 17)), some (zi xi)]) (st' := [.inl (some 15)]) (by decide +kernel) (fun k q => by cases q) rfl ?_
      refine y_same (i := .ldc 84) (len := 2) (r := (1, 9, 1053, 0)) (pc' := 33) (ls' := [some (.inl (some 15)), some (.inl (some 17)), some (zi xi)]) (st' := [.inl (some 2000009), .inl (some 15)]) (by decide +kernel) (fun k q => by cases q) rfl ?_
      refine y_cI (i := .invokevirtual 86) (len := 3) (r := (0, 57, 5, 965)) (nL := 4) (k := 2) (n := 2) (hs := []) (args := [.inl (some 15), .inl (some 2000009)]) (rest := []) (l0 := [some (.inl (some 15)), some (.inl (some 2000009)), none, none]) (by decide +kernel) (Or.inr (Or.inl ⟨_, rfl⟩)) rfl rfl rfl rfl (Nat.le_of_ble_eq_true rfl) (zO O718.2.1 (tv15 O718.2.1) aw15 rfl) rfl (qI_le (by decide) (e_sign9 O718.2.1 rd718 (by omega))) (fun y719 h719 hRy719 => ?_)
      obtain ⟨τ719, O719, hD719⟩ := hRy719
      rcases hD719 with ⟨a719, e719, le719, hy719, r719⟩ | ⟨e719, hy719, r719⟩
      ·
        obtain ⟨⟨xn719y, hn719y, en719y⟩, ⟨xa719y, ha719y, ea719y⟩, hb719y, -⟩ := id r719
        refine y_iT (c := .ne) (off := 5) (pc' := 41) (len := 3) (r := (0, 0, 0, 0)) (by decide +kernel) (acmpT (c := .ne) (by show ¬ (_ = _); omega)) (by decide +kernel) ?_
        refine y_inc (j := 2) (a := xi) (c := 1) (ls' := fun v => [some (.inl (some 15)), some (.inl (some 17)), some v]) (len := 3) (r := (0, 0, 0, 0)) (by decide +kernel) rfl (fun _ => rfl) (by decide) (by omega) (by omega) (fun y720 hy720 => ?_)
        show qX 15 47 44 [some (.inl (some 15)), some (.inl (some 17)), some (zi y720)] [] h719 t _
        refine y_goto (off := (-31)) (pc' := 13) (len := 3) (r := (0, 0, 0, 0)) (by decide +kernel) (by decide +kernel) ?_
        have F : oF (fun k j => (k ≠ 15 ∨ j < 3) ∧ k ≠ 19 ∧ k ≠ 21 ∧ ((k ≠ 18 ∧ k ≠ 20) ∨ j ≠ 1)) τ h τ719 h719 := ⟨(aup_trans O718.1 O719.1), O719.2.1, fun k T j hk (hC : (k ≠ 15 ∨ j < 3) ∧ k ≠ 19 ∧ k ≠ 21 ∧ ((k ≠ 18 ∧ k ≠ 20) ∨ j ≠ 1)) => ((O719.2.2 k T j (O718.1 _ _ hk) (show k ≠ 15 ∨ j ≠ 3 by omega)).trans (O718.2.2 k T j hk (show (k ≠ 15 ∨ j < 3) ∧ k ≠ 19 ∧ k ≠ 21 ∧ ((k ≠ 18 ∧ k ≠ 20) ∨ j ≠ 1) by omega)))⟩
        refine qX_I (ih τ719 h719 O719.2.1 (alC_upS0 hg al F) a719 r719 ps718 cs718 (rwC_up wp718 (O719.2.2 18 1002 1 (tv18 O718.2.1) (show 18 ≠ 15 ∨ 1 ≠ 3 by omega)) (fun j => (O719.2.2 19 1005 j (tv19 O718.2.1) (show 19 ≠ 15 ∨ j ≠ 3 by omega)))) (rwC_up wc718 (O719.2.2 20 1003 1 (tv20 O718.2.1) (show 20 ≠ 15 ∨ 1 ≠ 3 by omega)) (fun j => (O719.2.2 21 1006 j (tv21 O718.2.1) (show 21 ≠ 15 ∨ j ≠ 3 by omega)))) (i + 1) y720 (by omega) (by omega) (by omega) (by omega)) (fun y h1 hR1 => ?_)
        obtain ⟨τ1, O1, hD1⟩ := hR1
        refine ⟨τ1, oF_trans F O1, ?_⟩
        have ew : wItms b n (f + 1) (a, ps, cs) = wItms b n f (a719, ps718, cs718) := by
          show (match wItm b n (a, ps, cs) with
            | .inl q => (.inl q : prs)
            | .inr s1 => match sgn b n [42] s1.1 with
              | some a => wItms b n f (a, s1.2)
              | none => .inr (sk b n s1.1, s1.2)) = _
          simp only [e718, e719]
        rw [ew]
        exact hD1
      ·
        have sl719 := sk_le (b := b) (n := n) (a := a718) (by omega)
        obtain ⟨⟨xn719n, hn719n, en719n⟩, ⟨xa719n, ha719n, ea719n⟩, hb719n, -⟩ := id r719
        refine y_iF (c := .ne) (off := 5) (len := 3) (r := (0, 0, 0, 0)) (by decide +kernel) (acmpF (c := .ne) (by show _ = _; omega)) ?_
        refine y_ic (c := 1) (len := 1) (r := (0, 0, 0, 0)) (by decide +kernel) (by decide) (fun y721 hy721 => ?_)
        refine y_rI (len := 1) (r := (0, 0, 0, 0)) (nL := 3) (k := 2) (n9 := 2) (hs := []) (by decide +kernel) rfl (zfit_b (by omega) (by omega)).2 ?_
        exact ⟨_, ⟨(aup_trans O718.1 O719.1), O719.2.1, fun k T j hk (hC : (k ≠ 15 ∨ j < 3) ∧ k ≠ 19 ∧ k ≠ 21 ∧ ((k ≠ 18 ∧ k ≠ 20) ∨ j ≠ 1)) => ((O719.2.2 k T j (O718.1 _ _ hk) (show k ≠ 15 ∨ j ≠ 3 by omega)).trans (O718.2.2 k T j hk (show (k ≠ 15 ∨ j < 3) ∧ k ≠ 19 ∧ k ≠ 21 ∧ ((k ≠ 18 ∧ k ≠ 20) ∨ j ≠ 1) by omega)))⟩, Or.inl ⟨_, ps718, cs718, (by show (match wItm b n (a, ps, cs) with | .inl q => (.inl q : prs) | .inr s1 => match sgn b n [42] s1.1 with | some a => wItms b n f (a, s1.2) | none => .inr (sk b n s1.1, s1.2)) = _; simp only [e718, e719]), by omega, by omega, r719, (rwC_up wp718 (O719.2.2 18 1002 1 (tv18 O718.2.1) (show 18 ≠ 15 ∨ 1 ≠ 3 by omega)) (fun j => (O719.2.2 19 1005 j (tv19 O718.2.1) (show 19 ≠ 15 ∨ j ≠ 3 by omega)))), (rwC_up wc718 (O719.2.2 20 1003 1 (tv20 O718.2.1) (show 20 ≠ 15 ∨ 1 ≠ 3 by omega)) (fun j => (O719.2.2 21 1006 j (tv21 O718.2.1) (show 21 ≠ 15 ∨ j ≠ 3 by omega))))⟩⟩
    ·
      refine y_iF (c := .ne) (off := 5) (len := 3) (r := (0, 0, 0, 0)) (by decide +kernel) (acmpF (c := .ne) (by show _ = _; omega)) ?_
      refine y_ic (c := 0) (len := 1) (r := (0, 0, 0, 0)) (by decide +kernel) (by decide) (fun y722 hy722 => ?_)
      refine y_rI (len := 1) (r := (0, 0, 0, 0)) (nL := 3) (k := 2) (n9 := 2) (hs := []) (by decide +kernel) rfl (zfit_b (by omega) (by omega)).2 ?_
      exact ⟨_, ⟨O718.1, O718.2.1, fun k T j hk (hC : (k ≠ 15 ∨ j < 3) ∧ k ≠ 19 ∧ k ≠ 21 ∧ ((k ≠ 18 ∧ k ≠ 20) ∨ j ≠ 1)) => (O718.2.2 k T j hk (show (k ≠ 15 ∨ j < 3) ∧ k ≠ 19 ∧ k ≠ 21 ∧ ((k ≠ 18 ∧ k ≠ 20) ∨ j ≠ 1) by omega))⟩, Or.inr ⟨_, _, (by show (match wItm b n (a, ps, cs) with | .inl q => (.inl q : prs) | .inr s1 => match sgn b n [42] s1.1 with | some a => wItms b n f (a, s1.2) | none => .inr (sk b n s1.1, s1.2)) = _; simp only [e718]), by omega, f718⟩⟩
theorem e_side0 {t n a : Nat} {b : Nat → Int} {τ : List Nat} {h : zh} (hg : hG τ h) (al : alC h) (rd : rdC h n a b) (han : a ≤ n) (rp : rwC h 18 19 []) (rc : rwC h 20 21 []) : qI 16 47 [some (.inl (some 15)), some (.inl (some 17)), none] h t (itR0 n b τ h (wSid b n a)) := by
  obtain ⟨⟨xn, hn, en⟩, ⟨xa, ha, ea⟩, hb, hn2⟩ := id rd
  refine qI_of ?_
  refine y_same (i := .aload_n 0) (len := 1) (r := (0, 0, 0, 0)) (pc' := 1) (ls' := [some (.inl (some 15)), some (.inl (some 17)), none]) (st' := [.inl (some 15)]) (by decide +kernel) (fun k q => by cases q) rfl ?_
  refine y_same (i := .ldc 76) (len := 2) (r := (1, 0, 942, 0)) (pc' := 3) (ls' := [some (.inl (some 15)), some (.inl (some 17)), none]) (st' := [.inl (some 2000000), .inl (some 15)]) (by decide +kernel) (fun k q => by cases q) rfl ?_
  refine y_cI (i := .invokevirtual 78) (len := 3) (r := (0, 58, 5, 943)) (nL := 2) (k := 2) (n := 2) (hs := []) (args := [.inl (some 15), .inl (some 2000000)]) (rest := []) (l0 := [some (.inl (some 15)), some (.inl (some 2000000))]) (by decide +kernel) (Or.inr (Or.inl ⟨_, rfl⟩)) rfl rfl rfl rfl (Nat.le_of_ble_eq_true rfl) (zO hg (tv15 hg) aw15 rfl) rfl (qI_le (by decide) (e_word0 hg rd (by omega))) (fun y723 h723 hRy723 => ?_)
  obtain ⟨τ723, O723, hD723⟩ := hRy723
  rcases hD723 with ⟨a723, e723, le723, hy723, r723⟩ | ⟨e723, hy723, r723⟩
  ·
    obtain ⟨⟨xn723y, hn723y, en723y⟩, ⟨xa723y, ha723y, ea723y⟩, hb723y, -⟩ := id r723
    refine y_iF (c := .eq) (off := 5) (len := 3) (r := (0, 0, 0, 0)) (by decide +kernel) (acmpF (c := .eq) (by show ¬ (_ = _); omega)) ?_
    refine y_ic (c := 1) (len := 1) (r := (0, 0, 0, 0)) (by decide +kernel) (by decide) (fun y724 hy724 => ?_)
    refine y_rI (len := 1) (r := (0, 0, 0, 0)) (nL := 3) (k := 2) (n9 := 2) (hs := []) (by decide +kernel) rfl (zfit_b (by omega) (by omega)).2 ?_
    have F : oF (fun k j => (k ≠ 15 ∨ j < 3) ∧ k ≠ 19 ∧ k ≠ 21 ∧ ((k ≠ 18 ∧ k ≠ 20) ∨ j ≠ 1)) τ h τ723 h723 := ⟨O723.1, O723.2.1, fun k T j hk (hC : (k ≠ 15 ∨ j < 3) ∧ k ≠ 19 ∧ k ≠ 21 ∧ ((k ≠ 18 ∧ k ≠ 20) ∨ j ≠ 1)) => (O723.2.2 k T j hk (show k ≠ 15 ∨ j ≠ 3 by omega))⟩
    exact ⟨_, F, Or.inl ⟨_, [], [], (by unfold wSid; simp only [e723]), by omega, by omega, r723, rwC_up rp ((O723.2.2 18 1002 1 (tv18 hg) (show 18 ≠ 15 ∨ 1 ≠ 3 by omega))) (fun j => (O723.2.2 19 1005 j (tv19 hg) (show 19 ≠ 15 ∨ j ≠ 3 by omega))), rwC_up rc ((O723.2.2 20 1003 1 (tv20 hg) (show 20 ≠ 15 ∨ 1 ≠ 3 by omega))) (fun j => (O723.2.2 21 1006 j (tv21 hg) (show 21 ≠ 15 ∨ j ≠ 3 by omega)))⟩⟩
  ·
    have sl723 := sk_le (b := b) (n := n) (a := a) (by omega)
    obtain ⟨⟨xn723n, hn723n, en723n⟩, ⟨xa723n, ha723n, ea723n⟩, hb723n, -⟩ := id r723
    refine y_iT (c := .eq) (off := 5) (pc' := 11) (len := 3) (r := (0, 0, 0, 0)) (by decide +kernel) (acmpT (c := .eq) (by show _ = _; omega)) (by decide +kernel) ?_
    refine y_ic (c := 0) (len := 1) (r := (0, 0, 0, 0)) (by decide +kernel) (by decide) (fun y725 hy725 => ?_)
    refine y_same (i := .istore_n 2) (len := 1) (r := (0, 0, 0, 0)) (pc' := 13) (ls' := [some (.inl (some 15)), some (.inl (some 17)), some (zi y725)]) (st' := []) (by decide +kernel) (fun k q => by cases q) rfl ?_
    have F5 : oF (fun k j => k ≠ 15 ∨ j < 3) τ h τ723 h723 := ⟨O723.1, O723.2.1, fun k T j hk (hC : k ≠ 15 ∨ j < 3) => (O723.2.2 k T j hk (show k ≠ 15 ∨ j ≠ 3 by omega))⟩
    have rp5 := rwC_up rp (F5.2.2 18 1002 1 (tv18 hg) (show 18 ≠ 15 ∨ 1 < 3 by omega)) (fun j => F5.2.2 19 1005 j (tv19 hg) (show 19 ≠ 15 ∨ j < 3 by omega))
    have rc5 := rwC_up rc (F5.2.2 20 1003 1 (tv20 hg) (show 20 ≠ 15 ∨ 1 < 3 by omega)) (fun j => F5.2.2 21 1006 j (tv21 hg) (show 21 ≠ 15 ∨ j < 3 by omega))
    refine qX_I (rs_l0 13 τ723 h723 O723.2.1 (alC_up5 hg al F5) (sk b n a) r723 [] [] rp5 rc5 0 y725 (by omega) (by omega) rfl rfl) (fun y h1 hR1 => ?_)
    obtain ⟨τ1, O1, hD1⟩ := hR1
    refine ⟨τ1, ⟨aup_trans F5.1 O1.1, O1.2.1, fun k T j hk (hC : (k ≠ 15 ∨ j < 3) ∧ k ≠ 19 ∧ k ≠ 21 ∧ ((k ≠ 18 ∧ k ≠ 20) ∨ j ≠ 1)) => (O1.2.2 k T j (F5.1 _ _ hk) hC).trans (F5.2.2 k T j hk (show k ≠ 15 ∨ j < 3 by omega))⟩, ?_⟩
    have ew : wSid b n a = wItms b n 13 (sk b n a, [], []) := by
      unfold wSid
      simp only [e723]
      unfold wItms
      rw [wItm_sk (by omega)]
    rw [ew]
    exact hD1
theorem e_item1 {t n a : Nat} {b : Nat → Int} {τ : List Nat} {h : zh} {ps cs : List it4} (hg : hG τ h) (al : alC h) (rd : rdC h n a b) (han : a ≤ n) (rp : rwC h 23 24 ps) (rc : rwC h 25 26 cs) : qI 14 48 [some (.inl (some 15)), some (.inl (some 22)), none, none] h t (itR1 n b τ h (wItm b n (a, ps, cs))) := by
  obtain ⟨⟨xn, hn, en⟩, ⟨xa, ha, ea⟩, hb, hn2⟩ := id rd
  refine qI_of ?_
  refine y_same (i := .aload_n 0) (len := 1) (r := (0, 0, 0, 0)) (pc' := 1) (ls' := [some (.inl (some 15)), some (.inl (some 22)), none, none]) (st' := [.inl (some 15)]) (by decide +kernel) (fun k q => by cases q) rfl ?_
  refine y_cV (i := .invokevirtual 89) (len := 3) (r := (0, 60, 5, 947)) (nL := 1) (k := 0) (n := 1) (hs := []) (args := [.inl (some 15)]) (rest := []) (l0 := [some (.inl (some 15))]) (by decide +kernel) (Or.inr (Or.inl ⟨_, rfl⟩)) rfl rfl rfl rfl (Nat.le_of_ble_eq_true rfl) (zO hg (tv15 hg) aw15 rfl) rfl (qV_le (by decide) (e_skip hg rd (by omega))) (fun h726 hR726 => ?_)
  obtain ⟨τ726, O726, rd726⟩ := hR726
  have sl726 := sk_le (b := b) (n := n) (a := a) (by omega)
  obtain ⟨⟨xn726, hn726, en726⟩, ⟨xa726, ha726, ea726⟩, hb726, -⟩ := id rd726
  refine y_same (i := .aload_n 0) (len := 1) (r := (0, 0, 0, 0)) (pc' := 5) (ls' := [some (.inl (some 15)), some (.inl (some 22)), none, none]) (st' := [.inl (some 15)]) (by decide +kernel) (fun k q => by cases q) rfl ?_
  refine y_get (j := 26) (len := 3) (r := (5, 3, 0, 243)) (by decide +kernel) O726.2.1 (tv15 O726.2.1) aw15 rfl rfl ha726 ?_
  refine y_same (i := .istore_n 2) (len := 1) (r := (0, 0, 0, 0)) (pc' := 9) (ls' := [some (.inl (some 15)), some (.inl (some 22)), some (zi xa726), none]) (st' := []) (by decide +kernel) (fun k q => by cases q) rfl ?_
  refine y_same (i := .aload_n 0) (len := 1) (r := (0, 0, 0, 0)) (pc' := 10) (ls' := [some (.inl (some 15)), some (.inl (some 22)), some (zi xa726), none]) (st' := [.inl (some 15)]) (by decide +kernel) (fun k q => by cases q) rfl ?_
  refine y_same (i := .ldc 92) (len := 2) (r := (1, 1, 1011, 0)) (pc' := 12) (ls' := [some (.inl (some 15)), some (.inl (some 22)), some (zi xa726), none]) (st' := [.inl (some 2000001), .inl (some 15)]) (by decide +kernel) (fun k q => by cases q) rfl ?_
  refine y_cI (i := .invokevirtual 78) (len := 3) (r := (0, 58, 5, 943)) (nL := 2) (k := 2) (n := 2) (hs := []) (args := [.inl (some 15), .inl (some 2000001)]) (rest := []) (l0 := [some (.inl (some 15)), some (.inl (some 2000001))]) (by decide +kernel) (Or.inr (Or.inl ⟨_, rfl⟩)) rfl rfl rfl rfl (Nat.le_of_ble_eq_true rfl) (zO O726.2.1 (tv15 O726.2.1) aw15 rfl) rfl (qI_le (by decide) (e_word1 O726.2.1 rd726 (by omega))) (fun y727 h727 hRy727 => ?_)
  obtain ⟨τ727, O727, hD727⟩ := hRy727
  rw [wrd_sk (by omega), sk_idem (by omega)] at hD727
  rcases hD727 with ⟨a727, e727, le727, hy727, r727⟩ | ⟨e727, hy727, r727⟩
  ·
    obtain ⟨⟨xn727y, hn727y, en727y⟩, ⟨xa727y, ha727y, ea727y⟩, hb727y, -⟩ := id r727
    refine y_iF (c := .eq) (off := 10) (len := 3) (r := (0, 0, 0, 0)) (by decide +kernel) (acmpF (c := .eq) (by show ¬ (_ = _); omega)) ?_
    refine y_same (i := .aload_n 0) (len := 1) (r := (0, 0, 0, 0)) (pc' := 19) (ls' := [some (.inl (some 15)), some (.inl (some 22)), some (zi xa726), none]) (st' := [.inl (some 15)]) (by decide +kernel) (fun k q => by cases q) rfl ?_
    refine y_same (i := .aload_n 1) (len := 1) (r := (0, 0, 0, 0)) (pc' := 20) (ls' := [some (.inl (some 15)), some (.inl (some 22)), some (zi xa726), none]) (st' := [.inl (some 22), .inl (some 15)]) (by decide +kernel) (fun k q => by cases q) rfl ?_
    refine y_same (i := .iload_n 2) (len := 1) (r := (0, 0, 0, 0)) (pc' := 21) (ls' := [some (.inl (some 15)), some (.inl (some 22)), some (zi xa726), none]) (st' := [zi xa726, .inl (some 22), .inl (some 15)]) (by decide +kernel) (fun k q => by cases q) rfl ?_
    have F728 : oF (fun k j => k ≠ 15 ∨ j < 3) τ h τ727 h727 := ⟨(aup_trans O726.1 O727.1), O727.2.1, fun k T j hk (hC : k ≠ 15 ∨ j < 3) => ((O727.2.2 k T j (O726.1 _ _ hk) (show k ≠ 15 ∨ j ≠ 3 by omega)).trans (O726.2.2 k T j hk (show k ≠ 15 ∨ j ≠ 3 by omega)))⟩
    have al728 := alC_up5 hg al F728
    have rp728 := rwC_up rp (F728.2.2 23 1002 1 (tv23 hg) (show 23 ≠ 15 ∨ 1 < 3 by omega)) (fun j => F728.2.2 24 1005 j (tv24 hg) (show 24 ≠ 15 ∨ j < 3 by omega))
    have rc728 := rwC_up rc (F728.2.2 25 1003 1 (tv25 hg) (show 25 ≠ 15 ∨ 1 < 3 by omega)) (fun j => F728.2.2 26 1006 j (tv26 hg) (show 26 ≠ 15 ∨ j < 3 by omega))
    refine y_cI (i := .invokevirtual 94) (len := 3) (r := (0, 49, 5, 1012)) (nL := 5) (k := 2) (n := 3) (hs := []) (args := [.inl (some 15), .inl (some 22), zi xa726]) (rest := []) (l0 := [some (.inl (some 15)), some (.inl (some 22)), some (zi xa726), none, none]) (by decide +kernel) (Or.inr (Or.inl ⟨_, rfl⟩)) rfl rfl rfl rfl (Nat.le_of_ble_eq_true rfl) (zO O727.2.1 (tv15 O727.2.1) aw15 rfl) rfl (qI_le (by decide) (e_list1 (q := sk b n a) (a0 := a) O727.2.1 al728 r727 (by omega) rp728 rc728 (by omega))) (fun y728 h728 hRy728 => ?_)
    obtain ⟨τ728, O728, hD728⟩ := hRy728
    rcases hD728 with ⟨a728, ps728, cs728, e728, le728, hy728, rd728, wp728, wc728⟩ | ⟨r728, q728, e728, hy728, f728⟩
    ·
      refine y_rI (len := 1) (r := (0, 0, 0, 0)) (nL := 4) (k := 2) (n9 := 2) (hs := []) (by decide +kernel) rfl (zfit_b (by omega) (by omega)).2 ?_
      exact ⟨_, ⟨(aup_trans (aup_trans O726.1 O727.1) O728.1), O728.2.1, fun k T j hk (hC : (k ≠ 15 ∨ j < 3) ∧ k ≠ 24 ∧ k ≠ 26 ∧ ((k ≠ 23 ∧ k ≠ 25) ∨ j ≠ 1)) => ((O728.2.2 k T j (O727.1 _ _ (O726.1 _ _ hk)) (show (k ≠ 15 ∨ j < 3) ∧ k ≠ 24 ∧ k ≠ 26 ∧ ((k ≠ 23 ∧ k ≠ 25) ∨ j ≠ 1) by omega)).trans ((O727.2.2 k T j (O726.1 _ _ hk) (show k ≠ 15 ∨ j ≠ 3 by omega)).trans (O726.2.2 k T j hk (show k ≠ 15 ∨ j ≠ 3 by omega))))⟩, Or.inl ⟨a728, ps728, cs728, (by unfold wItm; simp only [e727, e728]), by omega, by omega, rd728, wp728, wc728⟩⟩
    ·
      refine y_rI (len := 1) (r := (0, 0, 0, 0)) (nL := 4) (k := 2) (n9 := 2) (hs := []) (by decide +kernel) rfl (zfit_b (by omega) (by omega)).2 ?_
      exact ⟨_, ⟨(aup_trans (aup_trans O726.1 O727.1) O728.1), O728.2.1, fun k T j hk (hC : (k ≠ 15 ∨ j < 3) ∧ k ≠ 24 ∧ k ≠ 26 ∧ ((k ≠ 23 ∧ k ≠ 25) ∨ j ≠ 1)) => ((O728.2.2 k T j (O727.1 _ _ (O726.1 _ _ hk)) (show (k ≠ 15 ∨ j < 3) ∧ k ≠ 24 ∧ k ≠ 26 ∧ ((k ≠ 23 ∧ k ≠ 25) ∨ j ≠ 1) by omega)).trans ((O727.2.2 k T j (O726.1 _ _ hk) (show k ≠ 15 ∨ j ≠ 3 by omega)).trans (O726.2.2 k T j hk (show k ≠ 15 ∨ j ≠ 3 by omega))))⟩, Or.inr ⟨_, _, (by unfold wItm; simp only [e727, e728]), by omega, f728⟩⟩
  ·
    obtain ⟨⟨xn727n, hn727n, en727n⟩, ⟨xa727n, ha727n, ea727n⟩, hb727n, -⟩ := id r727
    refine y_iT (c := .eq) (off := 10) (pc' := 25) (len := 3) (r := (0, 0, 0, 0)) (by decide +kernel) (acmpT (c := .eq) (by show _ = _; omega)) (by decide +kernel) ?_
    refine y_same (i := .aload_n 0) (len := 1) (r := (0, 0, 0, 0)) (pc' := 26) (ls' := [some (.inl (some 15)), some (.inl (some 22)), some (zi xa726), none]) (st' := [.inl (some 15)]) (by decide +kernel) (fun k q => by cases q) rfl ?_
    refine y_same (i := .ldc 98) (len := 2) (r := (1, 5, 1037, 0)) (pc' := 28) (ls' := [some (.inl (some 15)), some (.inl (some 22)), some (zi xa726), none]) (st' := [.inl (some 2000005), .inl (some 15)]) (by decide +kernel) (fun k q => by cases q) rfl ?_
    refine y_cI (i := .invokevirtual 78) (len := 3) (r := (0, 58, 5, 943)) (nL := 2) (k := 2) (n := 2) (hs := []) (args := [.inl (some 15), .inl (some 2000005)]) (rest := []) (l0 := [some (.inl (some 15)), some (.inl (some 2000005))]) (by decide +kernel) (Or.inr (Or.inl ⟨_, rfl⟩)) rfl rfl rfl rfl (Nat.le_of_ble_eq_true rfl) (zO O727.2.1 (tv15 O727.2.1) aw15 rfl) rfl (qI_le (by decide) (e_word5 O727.2.1 r727 (by omega))) (fun y729 h729 hRy729 => ?_)
    obtain ⟨τ729, O729, hD729⟩ := hRy729
    rw [wrd_sk (by omega), sk_idem (by omega)] at hD729
    rcases hD729 with ⟨a729, e729, le729, hy729, r729⟩ | ⟨e729, hy729, r729⟩
    ·
      obtain ⟨⟨xn729y, hn729y, en729y⟩, ⟨xa729y, ha729y, ea729y⟩, hb729y, -⟩ := id r729
      refine y_iF (c := .eq) (off := 10) (len := 3) (r := (0, 0, 0, 0)) (by decide +kernel) (acmpF (c := .eq) (by show ¬ (_ = _); omega)) ?_
      refine y_same (i := .aload_n 0) (len := 1) (r := (0, 0, 0, 0)) (pc' := 35) (ls' := [some (.inl (some 15)), some (.inl (some 22)), some (zi xa726), none]) (st' := [.inl (some 15)]) (by decide +kernel) (fun k q => by cases q) rfl ?_
      refine y_same (i := .aload_n 1) (len := 1) (r := (0, 0, 0, 0)) (pc' := 36) (ls' := [some (.inl (some 15)), some (.inl (some 22)), some (zi xa726), none]) (st' := [.inl (some 22), .inl (some 15)]) (by decide +kernel) (fun k q => by cases q) rfl ?_
      refine y_same (i := .iload_n 2) (len := 1) (r := (0, 0, 0, 0)) (pc' := 37) (ls' := [some (.inl (some 15)), some (.inl (some 22)), some (zi xa726), none]) (st' := [zi xa726, .inl (some 22), .inl (some 15)]) (by decide +kernel) (fun k q => by cases q) rfl ?_
      have F730 : oF (fun k j => k ≠ 15 ∨ j < 3) τ h τ729 h729 := ⟨(aup_trans (aup_trans O726.1 O727.1) O729.1), O729.2.1, fun k T j hk (hC : k ≠ 15 ∨ j < 3) => ((O729.2.2 k T j (O727.1 _ _ (O726.1 _ _ hk)) (show k ≠ 15 ∨ j ≠ 3 by omega)).trans ((O727.2.2 k T j (O726.1 _ _ hk) (show k ≠ 15 ∨ j ≠ 3 by omega)).trans (O726.2.2 k T j hk (show k ≠ 15 ∨ j ≠ 3 by omega))))⟩
      have al730 := alC_up5 hg al F730
      have rp730 := rwC_up rp (F730.2.2 23 1002 1 (tv23 hg) (show 23 ≠ 15 ∨ 1 < 3 by omega)) (fun j => F730.2.2 24 1005 j (tv24 hg) (show 24 ≠ 15 ∨ j < 3 by omega))
      have rc730 := rwC_up rc (F730.2.2 25 1003 1 (tv25 hg) (show 25 ≠ 15 ∨ 1 < 3 by omega)) (fun j => F730.2.2 26 1006 j (tv26 hg) (show 26 ≠ 15 ∨ j < 3 by omega))
      refine y_cI (i := .invokevirtual 100) (len := 3) (r := (0, 50, 5, 1038)) (nL := 4) (k := 2) (n := 3) (hs := []) (args := [.inl (some 15), .inl (some 22), zi xa726]) (rest := []) (l0 := [some (.inl (some 15)), some (.inl (some 22)), some (zi xa726), none]) (by decide +kernel) (Or.inr (Or.inl ⟨_, rfl⟩)) rfl rfl rfl rfl (Nat.le_of_ble_eq_true rfl) (zO O729.2.1 (tv15 O729.2.1) aw15 rfl) rfl (qI_le (by decide) (e_tree1 (q := sk b n a) (a0 := a) O729.2.1 al730 r729 (by omega) rp730 rc730 (by omega))) (fun y730 h730 hRy730 => ?_)
      obtain ⟨τ730, O730, hD730⟩ := hRy730
      rcases hD730 with ⟨a730, ps730, cs730, e730, le730, hy730, rd730, wp730, wc730⟩ | ⟨r730, q730, e730, hy730, f730⟩
      ·
        refine y_rI (len := 1) (r := (0, 0, 0, 0)) (nL := 4) (k := 2) (n9 := 2) (hs := []) (by decide +kernel) rfl (zfit_b (by omega) (by omega)).2 ?_
        exact ⟨_, ⟨(aup_trans (aup_trans (aup_trans O726.1 O727.1) O729.1) O730.1), O730.2.1, fun k T j hk (hC : (k ≠ 15 ∨ j < 3) ∧ k ≠ 24 ∧ k ≠ 26 ∧ ((k ≠ 23 ∧ k ≠ 25) ∨ j ≠ 1)) => ((O730.2.2 k T j (O729.1 _ _ (O727.1 _ _ (O726.1 _ _ hk))) (show (k ≠ 15 ∨ j < 3) ∧ k ≠ 24 ∧ k ≠ 26 ∧ ((k ≠ 23 ∧ k ≠ 25) ∨ j ≠ 1) by omega)).trans ((O729.2.2 k T j (O727.1 _ _ (O726.1 _ _ hk)) (show k ≠ 15 ∨ j ≠ 3 by omega)).trans ((O727.2.2 k T j (O726.1 _ _ hk) (show k ≠ 15 ∨ j ≠ 3 by omega)).trans (O726.2.2 k T j hk (show k ≠ 15 ∨ j ≠ 3 by omega)))))⟩, Or.inl ⟨a730, ps730, cs730, (by unfold wItm; simp only [e727, e729, e730]), by omega, by omega, rd730, wp730, wc730⟩⟩
      ·
        refine y_rI (len := 1) (r := (0, 0, 0, 0)) (nL := 4) (k := 2) (n9 := 2) (hs := []) (by decide +kernel) rfl (zfit_b (by omega) (by omega)).2 ?_
        exact ⟨_, ⟨(aup_trans (aup_trans (aup_trans O726.1 O727.1) O729.1) O730.1), O730.2.1, fun k T j hk (hC : (k ≠ 15 ∨ j < 3) ∧ k ≠ 24 ∧ k ≠ 26 ∧ ((k ≠ 23 ∧ k ≠ 25) ∨ j ≠ 1)) => ((O730.2.2 k T j (O729.1 _ _ (O727.1 _ _ (O726.1 _ _ hk))) (show (k ≠ 15 ∨ j < 3) ∧ k ≠ 24 ∧ k ≠ 26 ∧ ((k ≠ 23 ∧ k ≠ 25) ∨ j ≠ 1) by omega)).trans ((O729.2.2 k T j (O727.1 _ _ (O726.1 _ _ hk)) (show k ≠ 15 ∨ j ≠ 3 by omega)).trans ((O727.2.2 k T j (O726.1 _ _ hk) (show k ≠ 15 ∨ j ≠ 3 by omega)).trans (O726.2.2 k T j hk (show k ≠ 15 ∨ j ≠ 3 by omega)))))⟩, Or.inr ⟨_, _, (by unfold wItm; simp only [e727, e729, e730]), by omega, f730⟩⟩
    ·
      obtain ⟨⟨xn729n, hn729n, en729n⟩, ⟨xa729n, ha729n, ea729n⟩, hb729n, -⟩ := id r729
      refine y_iT (c := .eq) (off := 10) (pc' := 41) (len := 3) (r := (0, 0, 0, 0)) (by decide +kernel) (acmpT (c := .eq) (by show _ = _; omega)) (by decide +kernel) ?_
      refine y_same (i := .aload_n 0) (len := 1) (r := (0, 0, 0, 0)) (pc' := 42) (ls' := [some (.inl (some 15)), some (.inl (some 22)), some (zi xa726), none]) (st' := [.inl (some 15)]) (by decide +kernel) (fun k q => by cases q) rfl ?_
      refine y_cI (i := .invokevirtual 103) (len := 3) (r := (0, 54, 5, 1025)) (nL := 3) (k := 1) (n := 1) (hs := []) (args := [.inl (some 15)]) (rest := []) (l0 := [some (.inl (some 15)), none, none]) (by decide +kernel) (Or.inr (Or.inl ⟨_, rfl⟩)) rfl rfl rfl rfl (Nat.le_of_ble_eq_true rfl) (zO O729.2.1 (tv15 O729.2.1) aw15 rfl) rfl (qI_le (by decide) (e_var O729.2.1 r729 (by omega))) (fun y731 h731 hRy731 => ?_)
      obtain ⟨τ731, O731, hD731⟩ := hRy731
      rw [pvr_sk (by omega)] at hD731
      rcases hD731 with ⟨v731, a731, e731, le731, hy731, lv731, uv731, r731⟩ | ⟨q731, e731, hy731, f731⟩
      ·
        obtain ⟨⟨xn731y, hn731y, en731y⟩, ⟨xa731y, ha731y, ea731y⟩, hb731y, -⟩ := id r731
        refine y_same (i := .istore_n 3) (len := 1) (r := (0, 0, 0, 0)) (pc' := 46) (ls' := [some (.inl (some 15)), some (.inl (some 22)), some (zi xa726), some (zi y731)]) (st' := []) (by decide +kernel) (fun k q => by cases q) rfl ?_
        refine y_same (i := .iload_n 3) (len := 1) (r := (0, 0, 0, 0)) (pc' := 47) (ls' := [some (.inl (some 15)), some (.inl (some 22)), some (zi xa726), some (zi y731)]) (st' := [zi y731]) (by decide +kernel) (fun k q => by cases q) rfl ?_
        refine y_ic (c := (-1)) (len := 1) (r := (0, 0, 0, 0)) (by decide +kernel) (by decide) (fun y732 hy732 => ?_)
        refine y_cT (c := .ne) (off := 5) (pc' := 53) (len := 3) (r := (0, 0, 0, 0)) (by decide +kernel) (acmpT (c := .ne) (by show ¬ (_ = _); omega)) (by decide +kernel) ?_
        refine y_same (i := .aload_n 0) (len := 1) (r := (0, 0, 0, 0)) (pc' := 54) (ls' := [some (.inl (some 15)), some (.inl (some 22)), some (zi xa726), some (zi y731)]) (st' := [.inl (some 15)]) (by decide +kernel) (fun k q => by cases q) rfl ?_
        refine y_same (i := .ldc 107) (len := 2) (r := (1, 6, 1042, 0)) (pc' := 56) (ls' := [some (.inl (some 15)), some (.inl (some 22)), some (zi xa726), some (zi y731)]) (st' := [.inl (some 2000006), .inl (some 15)]) (by decide +kernel) (fun k q => by cases q) rfl ?_
        refine y_cI (i := .invokevirtual 86) (len := 3) (r := (0, 57, 5, 965)) (nL := 4) (k := 2) (n := 2) (hs := []) (args := [.inl (some 15), .inl (some 2000006)]) (rest := []) (l0 := [some (.inl (some 15)), some (.inl (some 2000006)), none, none]) (by decide +kernel) (Or.inr (Or.inl ⟨_, rfl⟩)) rfl rfl rfl rfl (Nat.le_of_ble_eq_true rfl) (zO O731.2.1 (tv15 O731.2.1) aw15 rfl) rfl (qI_le (by decide) (e_sign6 O731.2.1 r731 (by omega))) (fun y733 h733 hRy733 => ?_)
        obtain ⟨τ733, O733, hD733⟩ := hRy733
        rcases hD733 with ⟨a733, e733, le733, hy733, r733⟩ | ⟨e733, hy733, r733⟩
        ·
          obtain ⟨⟨xn733y, hn733y, en733y⟩, ⟨xa733y, ha733y, ea733y⟩, hb733y, -⟩ := id r733
          refine y_iF (c := .eq) (off := 11) (len := 3) (r := (0, 0, 0, 0)) (by decide +kernel) (acmpF (c := .eq) (by show ¬ (_ = _); omega)) ?_
          refine y_same (i := .aload_n 0) (len := 1) (r := (0, 0, 0, 0)) (pc' := 63) (ls' := [some (.inl (some 15)), some (.inl (some 22)), some (zi xa726), some (zi y731)]) (st' := [.inl (some 15)]) (by decide +kernel) (fun k q => by cases q) rfl ?_
          refine y_same (i := .aload_n 1) (len := 1) (r := (0, 0, 0, 0)) (pc' := 64) (ls' := [some (.inl (some 15)), some (.inl (some 22)), some (zi xa726), some (zi y731)]) (st' := [.inl (some 22), .inl (some 15)]) (by decide +kernel) (fun k q => by cases q) rfl ?_
          refine y_same (i := .iload_n 2) (len := 1) (r := (0, 0, 0, 0)) (pc' := 65) (ls' := [some (.inl (some 15)), some (.inl (some 22)), some (zi xa726), some (zi y731)]) (st' := [zi xa726, .inl (some 22), .inl (some 15)]) (by decide +kernel) (fun k q => by cases q) rfl ?_
          refine y_same (i := .iload_n 3) (len := 1) (r := (0, 0, 0, 0)) (pc' := 66) (ls' := [some (.inl (some 15)), some (.inl (some 22)), some (zi xa726), some (zi y731)]) (st' := [zi y731, zi xa726, .inl (some 22), .inl (some 15)]) (by decide +kernel) (fun k q => by cases q) rfl ?_
          have F734 : oF (fun k j => k ≠ 15 ∨ j < 3) τ h τ733 h733 := ⟨(aup_trans (aup_trans (aup_trans (aup_trans O726.1 O727.1) O729.1) O731.1) O733.1), O733.2.1, fun k T j hk (hC : k ≠ 15 ∨ j < 3) => ((O733.2.2 k T j (O731.1 _ _ (O729.1 _ _ (O727.1 _ _ (O726.1 _ _ hk)))) (show k ≠ 15 ∨ j ≠ 3 by omega)).trans ((O731.2.2 k T j (O729.1 _ _ (O727.1 _ _ (O726.1 _ _ hk))) (show k ≠ 15 ∨ j < 3 by omega)).trans ((O729.2.2 k T j (O727.1 _ _ (O726.1 _ _ hk)) (show k ≠ 15 ∨ j ≠ 3 by omega)).trans ((O727.2.2 k T j (O726.1 _ _ hk) (show k ≠ 15 ∨ j ≠ 3 by omega)).trans (O726.2.2 k T j hk (show k ≠ 15 ∨ j ≠ 3 by omega))))))⟩
          have al734 := alC_up5 hg al F734
          have rp734 := rwC_up rp (F734.2.2 23 1002 1 (tv23 hg) (show 23 ≠ 15 ∨ 1 < 3 by omega)) (fun j => F734.2.2 24 1005 j (tv24 hg) (show 24 ≠ 15 ∨ j < 3 by omega))
          have rc734 := rwC_up rc (F734.2.2 25 1003 1 (tv25 hg) (show 25 ≠ 15 ∨ 1 < 3 by omega)) (fun j => F734.2.2 26 1006 j (tv26 hg) (show 26 ≠ 15 ∨ j < 3 by omega))
          refine y_cI (i := .invokevirtual 109) (len := 3) (r := (0, 51, 5, 1043)) (nL := 6) (k := 2) (n := 4) (hs := []) (args := [.inl (some 15), .inl (some 22), zi xa726, zi y731]) (rest := []) (l0 := [some (.inl (some 15)), some (.inl (some 22)), some (zi xa726), some (zi y731), none, none]) (by decide +kernel) (Or.inr (Or.inl ⟨_, rfl⟩)) rfl rfl rfl rfl (Nat.le_of_ble_eq_true rfl) (zO O733.2.1 (tv15 O733.2.1) aw15 rfl) rfl (qI_le (by decide) (e_cell1 (q := sk b n a) (a0 := a) O733.2.1 al734 r733 (by omega) rp734 rc734 (by omega) (x := v731) (by omega) (by omega) (by omega))) (fun y734 h734 hRy734 => ?_)
          obtain ⟨τ734, O734, hD734⟩ := hRy734
          rcases hD734 with ⟨a734, ps734, cs734, e734, le734, hy734, rd734, wp734, wc734⟩ | ⟨r734, q734, e734, hy734, f734⟩
          ·
            refine y_rI (len := 1) (r := (0, 0, 0, 0)) (nL := 4) (k := 2) (n9 := 2) (hs := []) (by decide +kernel) rfl (zfit_b (by omega) (by omega)).2 ?_
            exact ⟨_, ⟨(aup_trans (aup_trans (aup_trans (aup_trans (aup_trans O726.1 O727.1) O729.1) O731.1) O733.1) O734.1), O734.2.1, fun k T j hk (hC : (k ≠ 15 ∨ j < 3) ∧ k ≠ 24 ∧ k ≠ 26 ∧ ((k ≠ 23 ∧ k ≠ 25) ∨ j ≠ 1)) => ((O734.2.2 k T j (O733.1 _ _ (O731.1 _ _ (O729.1 _ _ (O727.1 _ _ (O726.1 _ _ hk))))) (show (k ≠ 15 ∨ j < 3) ∧ k ≠ 24 ∧ k ≠ 26 ∧ ((k ≠ 23 ∧ k ≠ 25) ∨ j ≠ 1) by omega)).trans ((O733.2.2 k T j (O731.1 _ _ (O729.1 _ _ (O727.1 _ _ (O726.1 _ _ hk)))) (show k ≠ 15 ∨ j ≠ 3 by omega)).trans ((O731.2.2 k T j (O729.1 _ _ (O727.1 _ _ (O726.1 _ _ hk))) (show k ≠ 15 ∨ j < 3 by omega)).trans ((O729.2.2 k T j (O727.1 _ _ (O726.1 _ _ hk)) (show k ≠ 15 ∨ j ≠ 3 by omega)).trans ((O727.2.2 k T j (O726.1 _ _ hk) (show k ≠ 15 ∨ j ≠ 3 by omega)).trans (O726.2.2 k T j hk (show k ≠ 15 ∨ j ≠ 3 by omega)))))))⟩, Or.inl ⟨a734, ps734, cs734, (by unfold wItm; simp only [e727, e729, e731, e733, e734]), by omega, by omega, rd734, wp734, wc734⟩⟩
          ·
            refine y_rI (len := 1) (r := (0, 0, 0, 0)) (nL := 4) (k := 2) (n9 := 2) (hs := []) (by decide +kernel) rfl (zfit_b (by omega) (by omega)).2 ?_
            exact ⟨_, ⟨(aup_trans (aup_trans (aup_trans (aup_trans (aup_trans O726.1 O727.1) O729.1) O731.1) O733.1) O734.1), O734.2.1, fun k T j hk (hC : (k ≠ 15 ∨ j < 3) ∧ k ≠ 24 ∧ k ≠ 26 ∧ ((k ≠ 23 ∧ k ≠ 25) ∨ j ≠ 1)) => ((O734.2.2 k T j (O733.1 _ _ (O731.1 _ _ (O729.1 _ _ (O727.1 _ _ (O726.1 _ _ hk))))) (show (k ≠ 15 ∨ j < 3) ∧ k ≠ 24 ∧ k ≠ 26 ∧ ((k ≠ 23 ∧ k ≠ 25) ∨ j ≠ 1) by omega)).trans ((O733.2.2 k T j (O731.1 _ _ (O729.1 _ _ (O727.1 _ _ (O726.1 _ _ hk)))) (show k ≠ 15 ∨ j ≠ 3 by omega)).trans ((O731.2.2 k T j (O729.1 _ _ (O727.1 _ _ (O726.1 _ _ hk))) (show k ≠ 15 ∨ j < 3 by omega)).trans ((O729.2.2 k T j (O727.1 _ _ (O726.1 _ _ hk)) (show k ≠ 15 ∨ j ≠ 3 by omega)).trans ((O727.2.2 k T j (O726.1 _ _ hk) (show k ≠ 15 ∨ j ≠ 3 by omega)).trans (O726.2.2 k T j hk (show k ≠ 15 ∨ j ≠ 3 by omega)))))))⟩, Or.inr ⟨_, _, (by unfold wItm; simp only [e727, e729, e731, e733, e734]), by omega, f734⟩⟩
        ·
          have sl733 := sk_le (b := b) (n := n) (a := a731) (by omega)
          obtain ⟨⟨xn733n, hn733n, en733n⟩, ⟨xa733n, ha733n, ea733n⟩, hb733n, -⟩ := id r733
          refine y_iT (c := .eq) (off := 11) (pc' := 70) (len := 3) (r := (0, 0, 0, 0)) (by decide +kernel) (acmpT (c := .eq) (by show _ = _; omega)) (by decide +kernel) ?_
          refine y_same (i := .aload_n 0) (len := 1) (r := (0, 0, 0, 0)) (pc' := 71) (ls' := [some (.inl (some 15)), some (.inl (some 22)), some (zi xa726), some (zi y731)]) (st' := [.inl (some 15)]) (by decide +kernel) (fun k q => by cases q) rfl ?_
          refine y_same (i := .ldc 113) (len := 2) (r := (1, 7, 1047, 0)) (pc' := 73) (ls' := [some (.inl (some 15)), some (.inl (some 22)), some (zi xa726), some (zi y731)]) (st' := [.inl (some 2000007), .inl (some 15)]) (by decide +kernel) (fun k q => by cases q) rfl ?_
          refine y_cI (i := .invokevirtual 86) (len := 3) (r := (0, 57, 5, 965)) (nL := 4) (k := 2) (n := 2) (hs := []) (args := [.inl (some 15), .inl (some 2000007)]) (rest := []) (l0 := [some (.inl (some 15)), some (.inl (some 2000007)), none, none]) (by decide +kernel) (Or.inr (Or.inl ⟨_, rfl⟩)) rfl rfl rfl rfl (Nat.le_of_ble_eq_true rfl) (zO O733.2.1 (tv15 O733.2.1) aw15 rfl) rfl (qI_le (by decide) (e_sign7 O733.2.1 r733 (by omega))) (fun y735 h735 hRy735 => ?_)
          obtain ⟨τ735, O735, hD735⟩ := hRy735
          rw [sgn_sk (by omega), sk_idem (by omega)] at hD735
          rcases hD735 with ⟨a735, e735, le735, hy735, r735⟩ | ⟨e735, hy735, r735⟩
          ·
            obtain ⟨⟨xn735y, hn735y, en735y⟩, ⟨xa735y, ha735y, ea735y⟩, hb735y, -⟩ := id r735
            refine y_iF (c := .eq) (off := 12) (len := 3) (r := (0, 0, 0, 0)) (by decide +kernel) (acmpF (c := .eq) (by show ¬ (_ = _); omega)) ?_
            refine y_same (i := .aload_n 0) (len := 1) (r := (0, 0, 0, 0)) (pc' := 80) (ls' := [some (.inl (some 15)), some (.inl (some 22)), some (zi xa726), some (zi y731)]) (st' := [.inl (some 15)]) (by decide +kernel) (fun k q => by cases q) rfl ?_
            refine y_same (i := .aload_n 1) (len := 1) (r := (0, 0, 0, 0)) (pc' := 81) (ls' := [some (.inl (some 15)), some (.inl (some 22)), some (zi xa726), some (zi y731)]) (st' := [.inl (some 22), .inl (some 15)]) (by decide +kernel) (fun k q => by cases q) rfl ?_
            refine y_same (i := .iload_n 2) (len := 1) (r := (0, 0, 0, 0)) (pc' := 82) (ls' := [some (.inl (some 15)), some (.inl (some 22)), some (zi xa726), some (zi y731)]) (st' := [zi xa726, .inl (some 22), .inl (some 15)]) (by decide +kernel) (fun k q => by cases q) rfl ?_
            refine y_ic (c := 1) (len := 1) (r := (0, 0, 0, 0)) (by decide +kernel) (by decide) (fun y736 hy736 => ?_)
            refine y_same (i := .iload_n 3) (len := 1) (r := (0, 0, 0, 0)) (pc' := 84) (ls' := [some (.inl (some 15)), some (.inl (some 22)), some (zi xa726), some (zi y731)]) (st' := [zi y731, zi y736, zi xa726, .inl (some 22), .inl (some 15)]) (by decide +kernel) (fun k q => by cases q) rfl ?_
            have F737 : oF (fun k j => k ≠ 15 ∨ j < 3) τ h τ735 h735 := ⟨(aup_trans (aup_trans (aup_trans (aup_trans (aup_trans O726.1 O727.1) O729.1) O731.1) O733.1) O735.1), O735.2.1, fun k T j hk (hC : k ≠ 15 ∨ j < 3) => ((O735.2.2 k T j (O733.1 _ _ (O731.1 _ _ (O729.1 _ _ (O727.1 _ _ (O726.1 _ _ hk))))) (show k ≠ 15 ∨ j ≠ 3 by omega)).trans ((O733.2.2 k T j (O731.1 _ _ (O729.1 _ _ (O727.1 _ _ (O726.1 _ _ hk)))) (show k ≠ 15 ∨ j ≠ 3 by omega)).trans ((O731.2.2 k T j (O729.1 _ _ (O727.1 _ _ (O726.1 _ _ hk))) (show k ≠ 15 ∨ j < 3 by omega)).trans ((O729.2.2 k T j (O727.1 _ _ (O726.1 _ _ hk)) (show k ≠ 15 ∨ j ≠ 3 by omega)).trans ((O727.2.2 k T j (O726.1 _ _ hk) (show k ≠ 15 ∨ j ≠ 3 by omega)).trans (O726.2.2 k T j hk (show k ≠ 15 ∨ j ≠ 3 by omega)))))))⟩
            have al737 := alC_up5 hg al F737
            have rp737 := rwC_up rp (F737.2.2 23 1002 1 (tv23 hg) (show 23 ≠ 15 ∨ 1 < 3 by omega)) (fun j => F737.2.2 24 1005 j (tv24 hg) (show 24 ≠ 15 ∨ j < 3 by omega))
            have rc737 := rwC_up rc (F737.2.2 25 1003 1 (tv25 hg) (show 25 ≠ 15 ∨ 1 < 3 by omega)) (fun j => F737.2.2 26 1006 j (tv26 hg) (show 26 ≠ 15 ∨ j < 3 by omega))
            refine y_cI (i := .invokevirtual 115) (len := 3) (r := (0, 52, 5, 1048)) (nL := 6) (k := 2) (n := 5) (hs := []) (args := [.inl (some 15), .inl (some 22), zi xa726, zi y736, zi y731]) (rest := []) (l0 := [some (.inl (some 15)), some (.inl (some 22)), some (zi xa726), some (zi y736), some (zi y731), none]) (by decide +kernel) (Or.inr (Or.inl ⟨_, rfl⟩)) rfl rfl rfl rfl (Nat.le_of_ble_eq_true rfl) (zO O735.2.1 (tv15 O735.2.1) aw15 rfl) rfl (qI_le (by decide) (e_claim1 (q := sk b n a) (a0 := a) O735.2.1 al737 r735 (by omega) rp737 rc737 (by omega) (kd := 1) (x := v731) (by omega) (by omega) (by omega) (by omega) (by omega) (by omega))) (fun y737 h737 hRy737 => ?_)
            obtain ⟨τ737, O737, hD737⟩ := hRy737
            rcases hD737 with ⟨a737, ps737, cs737, e737, le737, hy737, rd737, wp737, wc737⟩ | ⟨r737, q737, e737, hy737, f737⟩
            ·
              refine y_rI (len := 1) (r := (0, 0, 0, 0)) (nL := 4) (k := 2) (n9 := 2) (hs := []) (by decide +kernel) rfl (zfit_b (by omega) (by omega)).2 ?_
              exact ⟨_, ⟨(aup_trans (aup_trans (aup_trans (aup_trans (aup_trans (aup_trans O726.1 O727.1) O729.1) O731.1) O733.1) O735.1) O737.1), O737.2.1, fun k T j hk (hC : (k ≠ 15 ∨ j < 3) ∧ k ≠ 24 ∧ k ≠ 26 ∧ ((k ≠ 23 ∧ k ≠ 25) ∨ j ≠ 1)) => ((O737.2.2 k T j (O735.1 _ _ (O733.1 _ _ (O731.1 _ _ (O729.1 _ _ (O727.1 _ _ (O726.1 _ _ hk)))))) (show (k ≠ 15 ∨ j < 3) ∧ k ≠ 24 ∧ k ≠ 26 ∧ ((k ≠ 23 ∧ k ≠ 25) ∨ j ≠ 1) by omega)).trans ((O735.2.2 k T j (O733.1 _ _ (O731.1 _ _ (O729.1 _ _ (O727.1 _ _ (O726.1 _ _ hk))))) (show k ≠ 15 ∨ j ≠ 3 by omega)).trans ((O733.2.2 k T j (O731.1 _ _ (O729.1 _ _ (O727.1 _ _ (O726.1 _ _ hk)))) (show k ≠ 15 ∨ j ≠ 3 by omega)).trans ((O731.2.2 k T j (O729.1 _ _ (O727.1 _ _ (O726.1 _ _ hk))) (show k ≠ 15 ∨ j < 3 by omega)).trans ((O729.2.2 k T j (O727.1 _ _ (O726.1 _ _ hk)) (show k ≠ 15 ∨ j ≠ 3 by omega)).trans ((O727.2.2 k T j (O726.1 _ _ hk) (show k ≠ 15 ∨ j ≠ 3 by omega)).trans (O726.2.2 k T j hk (show k ≠ 15 ∨ j ≠ 3 by omega))))))))⟩, Or.inl ⟨a737, ps737, cs737, (by unfold wItm; simp only [e727, e729, e731, e733, e735, e737]), by omega, by omega, rd737, wp737, wc737⟩⟩
            ·
              refine y_rI (len := 1) (r := (0, 0, 0, 0)) (nL := 4) (k := 2) (n9 := 2) (hs := []) (by decide +kernel) rfl (zfit_b (by omega) (by omega)).2 ?_
              exact ⟨_, ⟨(aup_trans (aup_trans (aup_trans (aup_trans (aup_trans (aup_trans O726.1 O727.1) O729.1) O731.1) O733.1) O735.1) O737.1), O737.2.1, fun k T j hk (hC : (k ≠ 15 ∨ j < 3) ∧ k ≠ 24 ∧ k ≠ 26 ∧ ((k ≠ 23 ∧ k ≠ 25) ∨ j ≠ 1)) => ((O737.2.2 k T j (O735.1 _ _ (O733.1 _ _ (O731.1 _ _ (O729.1 _ _ (O727.1 _ _ (O726.1 _ _ hk)))))) (show (k ≠ 15 ∨ j < 3) ∧ k ≠ 24 ∧ k ≠ 26 ∧ ((k ≠ 23 ∧ k ≠ 25) ∨ j ≠ 1) by omega)).trans ((O735.2.2 k T j (O733.1 _ _ (O731.1 _ _ (O729.1 _ _ (O727.1 _ _ (O726.1 _ _ hk))))) (show k ≠ 15 ∨ j ≠ 3 by omega)).trans ((O733.2.2 k T j (O731.1 _ _ (O729.1 _ _ (O727.1 _ _ (O726.1 _ _ hk)))) (show k ≠ 15 ∨ j ≠ 3 by omega)).trans ((O731.2.2 k T j (O729.1 _ _ (O727.1 _ _ (O726.1 _ _ hk))) (show k ≠ 15 ∨ j < 3 by omega)).trans ((O729.2.2 k T j (O727.1 _ _ (O726.1 _ _ hk)) (show k ≠ 15 ∨ j ≠ 3 by omega)).trans ((O727.2.2 k T j (O726.1 _ _ hk) (show k ≠ 15 ∨ j ≠ 3 by omega)).trans (O726.2.2 k T j hk (show k ≠ 15 ∨ j ≠ 3 by omega))))))))⟩, Or.inr ⟨_, _, (by unfold wItm; simp only [e727, e729, e731, e733, e735, e737]), by omega, f737⟩⟩
          ·
            obtain ⟨⟨xn735n, hn735n, en735n⟩, ⟨xa735n, ha735n, ea735n⟩, hb735n, -⟩ := id r735
            refine y_iT (c := .eq) (off := 12) (pc' := 88) (len := 3) (r := (0, 0, 0, 0)) (by decide +kernel) (acmpT (c := .eq) (by show _ = _; omega)) (by decide +kernel) ?_
            refine y_same (i := .aload_n 0) (len := 1) (r := (0, 0, 0, 0)) (pc' := 89) (ls' := [some (.inl (some 15)), some (.inl (some 22)), some (zi xa726), some (zi y731)]) (st' := [.inl (some 15)]) (by decide +kernel) (fun k q => by cases q) rfl ?_
            refine y_same (i := .ldc 119) (len := 2) (r := (1, 8, 1052, 0)) (pc' := 91) (ls' := [some (.inl (some 15)), some (.inl (some 22)), some (zi xa726), some (zi y731)]) (st' := [.inl (some 2000008), .inl (some 15)]) (by decide +kernel) (fun k q => by cases q) rfl ?_
            refine y_cI (i := .invokevirtual 68) (len := 3) (r := (0, 55, 5, 1017)) (nL := 2) (k := 2) (n := 2) (hs := []) (args := [.inl (some 15), .inl (some 2000008)]) (rest := []) (l0 := [some (.inl (some 15)), some (.inl (some 2000008))]) (by decide +kernel) (Or.inr (Or.inl ⟨_, rfl⟩)) rfl rfl rfl rfl (Nat.le_of_ble_eq_true rfl) (zO O735.2.1 (tv15 O735.2.1) aw15 rfl) rfl (qI_le (by decide) (e_need8 O735.2.1 r735 (by omega))) (fun y738 h738 hRy738 => ?_)
            obtain ⟨τ738, O738, hD738⟩ := hRy738
            rw [ndd_sk (by omega), sk_idem (by omega)] at hD738
            rcases hD738 with ⟨a738, e738, le738, hy738, r738⟩ | ⟨e738, hy738, f738⟩
            ·
              obtain ⟨⟨xn738y, hn738y, en738y⟩, ⟨xa738y, ha738y, ea738y⟩, hb738y, -⟩ := id r738
              refine y_iF (c := .eq) (off := 18) (len := 3) (r := (0, 0, 0, 0)) (by decide +kernel) (acmpF (c := .eq) (by show ¬ (_ = _); omega)) ?_
              refine y_same (i := .aload_n 0) (len := 1) (r := (0, 0, 0, 0)) (pc' := 98) (ls' := [some (.inl (some 15)), some (.inl (some 22)), some (zi xa726), some (zi y731)]) (st' := [.inl (some 15)]) (by decide +kernel) (fun k q => by cases q) rfl ?_
              refine y_same (i := .aload_n 1) (len := 1) (r := (0, 0, 0, 0)) (pc' := 99) (ls' := [some (.inl (some 15)), some (.inl (some 22)), some (zi xa726), some (zi y731)]) (st' := [.inl (some 22), .inl (some 15)]) (by decide +kernel) (fun k q => by cases q) rfl ?_
              refine y_same (i := .iload_n 2) (len := 1) (r := (0, 0, 0, 0)) (pc' := 100) (ls' := [some (.inl (some 15)), some (.inl (some 22)), some (zi xa726), some (zi y731)]) (st' := [zi xa726, .inl (some 22), .inl (some 15)]) (by decide +kernel) (fun k q => by cases q) rfl ?_
              refine y_ic (c := 0) (len := 1) (r := (0, 0, 0, 0)) (by decide +kernel) (by decide) (fun y739 hy739 => ?_)
              refine y_same (i := .iload_n 3) (len := 1) (r := (0, 0, 0, 0)) (pc' := 102) (ls' := [some (.inl (some 15)), some (.inl (some 22)), some (zi xa726), some (zi y731)]) (st' := [zi y731, zi y739, zi xa726, .inl (some 22), .inl (some 15)]) (by decide +kernel) (fun k q => by cases q) rfl ?_
              have F740 : oF (fun k j => k ≠ 15 ∨ j < 3) τ h τ738 h738 := ⟨(aup_trans (aup_trans (aup_trans (aup_trans (aup_trans (aup_trans O726.1 O727.1) O729.1) O731.1) O733.1) O735.1) O738.1), O738.2.1, fun k T j hk (hC : k ≠ 15 ∨ j < 3) => ((O738.2.2 k T j (O735.1 _ _ (O733.1 _ _ (O731.1 _ _ (O729.1 _ _ (O727.1 _ _ (O726.1 _ _ hk)))))) (show k ≠ 15 ∨ j < 3 by omega)).trans ((O735.2.2 k T j (O733.1 _ _ (O731.1 _ _ (O729.1 _ _ (O727.1 _ _ (O726.1 _ _ hk))))) (show k ≠ 15 ∨ j ≠ 3 by omega)).trans ((O733.2.2 k T j (O731.1 _ _ (O729.1 _ _ (O727.1 _ _ (O726.1 _ _ hk)))) (show k ≠ 15 ∨ j ≠ 3 by omega)).trans ((O731.2.2 k T j (O729.1 _ _ (O727.1 _ _ (O726.1 _ _ hk))) (show k ≠ 15 ∨ j < 3 by omega)).trans ((O729.2.2 k T j (O727.1 _ _ (O726.1 _ _ hk)) (show k ≠ 15 ∨ j ≠ 3 by omega)).trans ((O727.2.2 k T j (O726.1 _ _ hk) (show k ≠ 15 ∨ j ≠ 3 by omega)).trans (O726.2.2 k T j hk (show k ≠ 15 ∨ j ≠ 3 by omega))))))))⟩
              have al740 := alC_up5 hg al F740
              have rp740 := rwC_up rp (F740.2.2 23 1002 1 (tv23 hg) (show 23 ≠ 15 ∨ 1 < 3 by omega)) (fun j => F740.2.2 24 1005 j (tv24 hg) (show 24 ≠ 15 ∨ j < 3 by omega))
              have rc740 := rwC_up rc (F740.2.2 25 1003 1 (tv25 hg) (show 25 ≠ 15 ∨ 1 < 3 by omega)) (fun j => F740.2.2 26 1006 j (tv26 hg) (show 26 ≠ 15 ∨ j < 3 by omega))
              refine y_cI (i := .invokevirtual 115) (len := 3) (r := (0, 52, 5, 1048)) (nL := 6) (k := 2) (n := 5) (hs := []) (args := [.inl (some 15), .inl (some 22), zi xa726, zi y739, zi y731]) (rest := []) (l0 := [some (.inl (some 15)), some (.inl (some 22)), some (zi xa726), some (zi y739), some (zi y731), none]) (by decide +kernel) (Or.inr (Or.inl ⟨_, rfl⟩)) rfl rfl rfl rfl (Nat.le_of_ble_eq_true rfl) (zO O738.2.1 (tv15 O738.2.1) aw15 rfl) rfl (qI_le (by decide) (e_claim1 (q := sk b n a) (a0 := a) O738.2.1 al740 r738 (by omega) rp740 rc740 (by omega) (kd := 0) (x := v731) (by omega) (by omega) (by omega) (by omega) (by omega) (by omega))) (fun y740 h740 hRy740 => ?_)
              obtain ⟨τ740, O740, hD740⟩ := hRy740
              rcases hD740 with ⟨a740, ps740, cs740, e740, le740, hy740, rd740, wp740, wc740⟩ | ⟨r740, q740, e740, hy740, f740⟩
              ·
                refine y_iF (c := .eq) (off := 7) (len := 3) (r := (0, 0, 0, 0)) (by decide +kernel) (acmpF (c := .eq) (by show ¬ (_ = _); omega)) ?_
                refine y_ic (c := 1) (len := 1) (r := (0, 0, 0, 0)) (by decide +kernel) (by decide) (fun y741 hy741 => ?_)
                refine y_goto (off := 4) (pc' := 113) (len := 3) (r := (0, 0, 0, 0)) (by decide +kernel) (by decide +kernel) ?_
                refine y_rI (len := 1) (r := (0, 0, 0, 0)) (nL := 4) (k := 2) (n9 := 2) (hs := []) (by decide +kernel) rfl (zfit_b (by omega) (by omega)).2 ?_
                exact ⟨_, ⟨(aup_trans (aup_trans (aup_trans (aup_trans (aup_trans (aup_trans (aup_trans O726.1 O727.1) O729.1) O731.1) O733.1) O735.1) O738.1) O740.1), O740.2.1, fun k T j hk (hC : (k ≠ 15 ∨ j < 3) ∧ k ≠ 24 ∧ k ≠ 26 ∧ ((k ≠ 23 ∧ k ≠ 25) ∨ j ≠ 1)) => ((O740.2.2 k T j (O738.1 _ _ (O735.1 _ _ (O733.1 _ _ (O731.1 _ _ (O729.1 _ _ (O727.1 _ _ (O726.1 _ _ hk))))))) (show (k ≠ 15 ∨ j < 3) ∧ k ≠ 24 ∧ k ≠ 26 ∧ ((k ≠ 23 ∧ k ≠ 25) ∨ j ≠ 1) by omega)).trans ((O738.2.2 k T j (O735.1 _ _ (O733.1 _ _ (O731.1 _ _ (O729.1 _ _ (O727.1 _ _ (O726.1 _ _ hk)))))) (show k ≠ 15 ∨ j < 3 by omega)).trans ((O735.2.2 k T j (O733.1 _ _ (O731.1 _ _ (O729.1 _ _ (O727.1 _ _ (O726.1 _ _ hk))))) (show k ≠ 15 ∨ j ≠ 3 by omega)).trans ((O733.2.2 k T j (O731.1 _ _ (O729.1 _ _ (O727.1 _ _ (O726.1 _ _ hk)))) (show k ≠ 15 ∨ j ≠ 3 by omega)).trans ((O731.2.2 k T j (O729.1 _ _ (O727.1 _ _ (O726.1 _ _ hk))) (show k ≠ 15 ∨ j < 3 by omega)).trans ((O729.2.2 k T j (O727.1 _ _ (O726.1 _ _ hk)) (show k ≠ 15 ∨ j ≠ 3 by omega)).trans ((O727.2.2 k T j (O726.1 _ _ hk) (show k ≠ 15 ∨ j ≠ 3 by omega)).trans (O726.2.2 k T j hk (show k ≠ 15 ∨ j ≠ 3 by omega)))))))))⟩, Or.inl ⟨a740, ps740, cs740, (by unfold wItm; simp only [e727, e729, e731, e733, e735, e738, e740]), by omega, by omega, rd740, wp740, wc740⟩⟩
              ·
                refine y_iT (c := .eq) (off := 7) (pc' := 112) (len := 3) (r := (0, 0, 0, 0)) (by decide +kernel) (acmpT (c := .eq) (by show _ = _; omega)) (by decide +kernel) ?_
                refine y_ic (c := 0) (len := 1) (r := (0, 0, 0, 0)) (by decide +kernel) (by decide) (fun y742 hy742 => ?_)
                refine y_rI (len := 1) (r := (0, 0, 0, 0)) (nL := 4) (k := 2) (n9 := 2) (hs := []) (by decide +kernel) rfl (zfit_b (by omega) (by omega)).2 ?_
                exact ⟨_, ⟨(aup_trans (aup_trans (aup_trans (aup_trans (aup_trans (aup_trans (aup_trans O726.1 O727.1) O729.1) O731.1) O733.1) O735.1) O738.1) O740.1), O740.2.1, fun k T j hk (hC : (k ≠ 15 ∨ j < 3) ∧ k ≠ 24 ∧ k ≠ 26 ∧ ((k ≠ 23 ∧ k ≠ 25) ∨ j ≠ 1)) => ((O740.2.2 k T j (O738.1 _ _ (O735.1 _ _ (O733.1 _ _ (O731.1 _ _ (O729.1 _ _ (O727.1 _ _ (O726.1 _ _ hk))))))) (show (k ≠ 15 ∨ j < 3) ∧ k ≠ 24 ∧ k ≠ 26 ∧ ((k ≠ 23 ∧ k ≠ 25) ∨ j ≠ 1) by omega)).trans ((O738.2.2 k T j (O735.1 _ _ (O733.1 _ _ (O731.1 _ _ (O729.1 _ _ (O727.1 _ _ (O726.1 _ _ hk)))))) (show k ≠ 15 ∨ j < 3 by omega)).trans ((O735.2.2 k T j (O733.1 _ _ (O731.1 _ _ (O729.1 _ _ (O727.1 _ _ (O726.1 _ _ hk))))) (show k ≠ 15 ∨ j ≠ 3 by omega)).trans ((O733.2.2 k T j (O731.1 _ _ (O729.1 _ _ (O727.1 _ _ (O726.1 _ _ hk)))) (show k ≠ 15 ∨ j ≠ 3 by omega)).trans ((O731.2.2 k T j (O729.1 _ _ (O727.1 _ _ (O726.1 _ _ hk))) (show k ≠ 15 ∨ j < 3 by omega)).trans ((O729.2.2 k T j (O727.1 _ _ (O726.1 _ _ hk)) (show k ≠ 15 ∨ j ≠ 3 by omega)).trans ((O727.2.2 k T j (O726.1 _ _ hk) (show k ≠ 15 ∨ j ≠ 3 by omega)).trans (O726.2.2 k T j hk (show k ≠ 15 ∨ j ≠ 3 by omega)))))))))⟩, Or.inr ⟨_, _, (by unfold wItm; simp only [e727, e729, e731, e733, e735, e738, e740]), by omega, f740⟩⟩
            ·
              refine y_iT (c := .eq) (off := 18) (pc' := 112) (len := 3) (r := (0, 0, 0, 0)) (by decide +kernel) (acmpT (c := .eq) (by show _ = _; omega)) (by decide +kernel) ?_
              refine y_ic (c := 0) (len := 1) (r := (0, 0, 0, 0)) (by decide +kernel) (by decide) (fun y743 hy743 => ?_)
              refine y_rI (len := 1) (r := (0, 0, 0, 0)) (nL := 4) (k := 2) (n9 := 2) (hs := []) (by decide +kernel) rfl (zfit_b (by omega) (by omega)).2 ?_
              exact ⟨_, ⟨(aup_trans (aup_trans (aup_trans (aup_trans (aup_trans (aup_trans O726.1 O727.1) O729.1) O731.1) O733.1) O735.1) O738.1), O738.2.1, fun k T j hk (hC : (k ≠ 15 ∨ j < 3) ∧ k ≠ 24 ∧ k ≠ 26 ∧ ((k ≠ 23 ∧ k ≠ 25) ∨ j ≠ 1)) => ((O738.2.2 k T j (O735.1 _ _ (O733.1 _ _ (O731.1 _ _ (O729.1 _ _ (O727.1 _ _ (O726.1 _ _ hk)))))) (show k ≠ 15 ∨ j < 3 by omega)).trans ((O735.2.2 k T j (O733.1 _ _ (O731.1 _ _ (O729.1 _ _ (O727.1 _ _ (O726.1 _ _ hk))))) (show k ≠ 15 ∨ j ≠ 3 by omega)).trans ((O733.2.2 k T j (O731.1 _ _ (O729.1 _ _ (O727.1 _ _ (O726.1 _ _ hk)))) (show k ≠ 15 ∨ j ≠ 3 by omega)).trans ((O731.2.2 k T j (O729.1 _ _ (O727.1 _ _ (O726.1 _ _ hk))) (show k ≠ 15 ∨ j < 3 by omega)).trans ((O729.2.2 k T j (O727.1 _ _ (O726.1 _ _ hk)) (show k ≠ 15 ∨ j ≠ 3 by omega)).trans ((O727.2.2 k T j (O726.1 _ _ hk) (show k ≠ 15 ∨ j ≠ 3 by omega)).trans (O726.2.2 k T j hk (show k ≠ 15 ∨ j ≠ 3 by omega))))))))⟩, Or.inr ⟨_, _, (by unfold wItm; simp only [e727, e729, e731, e733, e735, e738]), by omega, f738⟩⟩
      ·
        refine y_same (i := .istore_n 3) (len := 1) (r := (0, 0, 0, 0)) (pc' := 46) (ls' := [some (.inl (some 15)), some (.inl (some 22)), some (zi xa726), some (zi y731)]) (st' := []) (by decide +kernel) (fun k q => by cases q) rfl ?_
        refine y_same (i := .iload_n 3) (len := 1) (r := (0, 0, 0, 0)) (pc' := 47) (ls' := [some (.inl (some 15)), some (.inl (some 22)), some (zi xa726), some (zi y731)]) (st' := [zi y731]) (by decide +kernel) (fun k q => by cases q) rfl ?_
        refine y_ic (c := (-1)) (len := 1) (r := (0, 0, 0, 0)) (by decide +kernel) (by decide) (fun y744 hy744 => ?_)
        refine y_cF (c := .ne) (off := 5) (len := 3) (r := (0, 0, 0, 0)) (by decide +kernel) (acmpF (c := .ne) (by show _ = _; omega)) ?_
        refine y_ic (c := 0) (len := 1) (r := (0, 0, 0, 0)) (by decide +kernel) (by decide) (fun y745 hy745 => ?_)
        refine y_rI (len := 1) (r := (0, 0, 0, 0)) (nL := 4) (k := 2) (n9 := 2) (hs := []) (by decide +kernel) rfl (zfit_b (by omega) (by omega)).2 ?_
        exact ⟨_, ⟨(aup_trans (aup_trans (aup_trans O726.1 O727.1) O729.1) O731.1), O731.2.1, fun k T j hk (hC : (k ≠ 15 ∨ j < 3) ∧ k ≠ 24 ∧ k ≠ 26 ∧ ((k ≠ 23 ∧ k ≠ 25) ∨ j ≠ 1)) => ((O731.2.2 k T j (O729.1 _ _ (O727.1 _ _ (O726.1 _ _ hk))) (show k ≠ 15 ∨ j < 3 by omega)).trans ((O729.2.2 k T j (O727.1 _ _ (O726.1 _ _ hk)) (show k ≠ 15 ∨ j ≠ 3 by omega)).trans ((O727.2.2 k T j (O726.1 _ _ hk) (show k ≠ 15 ∨ j ≠ 3 by omega)).trans (O726.2.2 k T j hk (show k ≠ 15 ∨ j ≠ 3 by omega)))))⟩, Or.inr ⟨_, _, (by unfold wItm; simp only [e727, e729, e731]), by omega, f731⟩⟩
theorem rs_l1 {t n : Nat} {b : Nat → Int} : ∀ (f : Nat) (τ : List Nat) (h : zh), hG τ h → alC h → ∀ (a : Nat), rdC h n a b → ∀ (ps cs : List it4), rwC h 23 24 ps → rwC h 25 26 cs → ∀ (i : Nat) (xi : Int32), xi.toInt = (i : Int) → a ≤ n → i = ps.length + cs.length → i + f = 13 → qX 15 47 13 [some (.inl (some 15)), some (.inl (some 22)), some (zi xi)] [] h t (rI (itR1 n b τ h (wItms b n f (a, ps, cs))) t) := by
  intro f
  induction f with
  | zero =>
    intro τ h hg al a rd ps cs rp rc i xi hxi han hi hf
    obtain ⟨⟨x1, s1, l1⟩, -⟩ := rp
    obtain ⟨⟨x2, s2, l2⟩, -⟩ := rc
    obtain ⟨y1, q1, -, u1⟩ := g_int (i := 1) (lo := 0) (hi := 5) hg (tv23 hg) aw1002 (by decide) rfl
    obtain ⟨y2, q2, -, u2⟩ := g_int (i := 1) (lo := 0) (hi := 6) hg (tv25 hg) aw1003 (by decide) rfl
    rw [s1] at q1
    rw [s2] at q2
    cases q1
    cases q2
    omega
  | succ f ih =>
    intro τ h hg al a rd ps cs rp rc i xi hxi han hi hf
    obtain ⟨⟨xn, hn, en⟩, ⟨xa, ha, ea⟩, hb, hn2⟩ := id rd
    refine y_same (i := .iload_n 2) (len := 1) (r := (0, 0, 0, 0)) (pc' := 14) (ls' := [some (.inl (some 15)), some (.inl (some 22)), some (zi xi)]) (st' := [zi xi]) (by decide +kernel) (fun k q => by cases q) rfl ?_
    refine y_si (c := 200) (len := 3) (r := (0, 0, 0, 0)) (by decide +kernel) (by decide) (fun y746 hy746 => ?_)
    refine y_cF (c := .ge) (off := 30) (len := 3) (r := (0, 0, 0, 0)) (by decide +kernel) (acmpF (c := .ge) (by show _ < _; omega)) ?_
    refine y_same (i := .aload_n 0) (len := 1) (r := (0, 0, 0, 0)) (pc' := 21) (ls' := [some (.inl (some 15)), some (.inl (some 22)), some (zi xi)]) (st' := [.inl (some 15)]) (by decide +kernel) (fun k q => by cases q) rfl ?_
    refine y_same (i := .aload_n 1) (len := 1) (r := (0, 0, 0, 0)) (pc' := 22) (ls' := [some (.inl (some 15)), some (.inl (some 22)), some (zi xi)]) (st' := [.inl (some 22), .inl (some 15)]) (by decide +kernel) (fun k q => by cases q) rfl ?_
    refine y_cI (i := .invokevirtual 81) (len := 3) (r := (0, 48, 5, 1007)) (nL := 4) (k := 2) (n := 2) (hs := []) (args := [.inl (some 15), .inl (some 22)]) (rest := []) (l0 := [some (.inl (some 15)), some (.inl (some 22)), none, none]) (by decide +kernel) (Or.inr (Or.inl ⟨_, rfl⟩)) rfl rfl rfl rfl (Nat.le_of_ble_eq_true rfl) (zO hg (tv15 hg) aw15 rfl) rfl (qI_le (by decide) (e_item1 hg al rd (by omega) rp rc)) (fun y747 h747 hRy747 => ?_)
    obtain ⟨τ747, O747, hD747⟩ := hRy747
    rcases hD747 with ⟨a747, ps747, cs747, e747, le747, hy747, rd747, wp747, wc747⟩ | ⟨r747, q747, e747, hy747, f747⟩
    ·
      have ln := wItm_len e747
      simp only at ln
      obtain ⟨⟨xn747y, hn747y, en747y⟩, ⟨xa747y, ha747y, ea747y⟩, hb747y, -⟩ := id rd747
      refine y_iT (c := .ne) (off := 5) (pc' := 30) (len := 3) (r := (0, 0, 0, 0)) (by decide +kernel) (acmpT (c := .ne) (by show ¬ (_ = _); omega)) (by decide +kernel) ?_
      refine y_same (i := .aload_n 0) (len := 1) (r := (0, 0, 0, 0)) (pc' := 31) (ls' := [some (.inl (some 15)), some (.inl (some 22)), some (zi xi)]) (st' := [.inl (some 15)]) (by decide +kernel) (fun k q => by cases q) rfl ?_
      refine y_same (i := .ldc 84) (len := 2) (r := (1, 9, 1053, 0)) (pc' := 33) (ls' := [some (.inl (some 15)), some (.inl (some 22)), some (zi xi)]) (st' := [.inl (some 2000009), .inl (some 15)]) (by decide +kernel) (fun k q => by cases q) rfl ?_
      refine y_cI (i := .invokevirtual 86) (len := 3) (r := (0, 57, 5, 965)) (nL := 4) (k := 2) (n := 2) (hs := []) (args := [.inl (some 15), .inl (some 2000009)]) (rest := []) (l0 := [some (.inl (some 15)), some (.inl (some 2000009)), none, none]) (by decide +kernel) (Or.inr (Or.inl ⟨_, rfl⟩)) rfl rfl rfl rfl (Nat.le_of_ble_eq_true rfl) (zO O747.2.1 (tv15 O747.2.1) aw15 rfl) rfl (qI_le (by decide) (e_sign9 O747.2.1 rd747 (by omega))) (fun y748 h748 hRy748 => ?_)
      obtain ⟨τ748, O748, hD748⟩ := hRy748
      rcases hD748 with ⟨a748, e748, le748, hy748, r748⟩ | ⟨e748, hy748, r748⟩
      ·
        obtain ⟨⟨xn748y, hn748y, en748y⟩, ⟨xa748y, ha748y, ea748y⟩, hb748y, -⟩ := id r748
        refine y_iT (c := .ne) (off := 5) (pc' := 41) (len := 3) (r := (0, 0, 0, 0)) (by decide +kernel) (acmpT (c := .ne) (by show ¬ (_ = _); omega)) (by decide +kernel) ?_
        refine y_inc (j := 2) (a := xi) (c := 1) (ls' := fun v => [some (.inl (some 15)), some (.inl (some 22)), some v]) (len := 3) (r := (0, 0, 0, 0)) (by decide +kernel) rfl (fun _ => rfl) (by decide) (by omega) (by omega) (fun y749 hy749 => ?_)
        show qX 15 47 44 [some (.inl (some 15)), some (.inl (some 22)), some (zi y749)] [] h748 t _
        refine y_goto (off := (-31)) (pc' := 13) (len := 3) (r := (0, 0, 0, 0)) (by decide +kernel) (by decide +kernel) ?_
        have F : oF (fun k j => (k ≠ 15 ∨ j < 3) ∧ k ≠ 24 ∧ k ≠ 26 ∧ ((k ≠ 23 ∧ k ≠ 25) ∨ j ≠ 1)) τ h τ748 h748 := ⟨(aup_trans O747.1 O748.1), O748.2.1, fun k T j hk (hC : (k ≠ 15 ∨ j < 3) ∧ k ≠ 24 ∧ k ≠ 26 ∧ ((k ≠ 23 ∧ k ≠ 25) ∨ j ≠ 1)) => ((O748.2.2 k T j (O747.1 _ _ hk) (show k ≠ 15 ∨ j ≠ 3 by omega)).trans (O747.2.2 k T j hk (show (k ≠ 15 ∨ j < 3) ∧ k ≠ 24 ∧ k ≠ 26 ∧ ((k ≠ 23 ∧ k ≠ 25) ∨ j ≠ 1) by omega)))⟩
        refine qX_I (ih τ748 h748 O748.2.1 (alC_upS1 hg al F) a748 r748 ps747 cs747 (rwC_up wp747 (O748.2.2 23 1002 1 (tv23 O747.2.1) (show 23 ≠ 15 ∨ 1 ≠ 3 by omega)) (fun j => (O748.2.2 24 1005 j (tv24 O747.2.1) (show 24 ≠ 15 ∨ j ≠ 3 by omega)))) (rwC_up wc747 (O748.2.2 25 1003 1 (tv25 O747.2.1) (show 25 ≠ 15 ∨ 1 ≠ 3 by omega)) (fun j => (O748.2.2 26 1006 j (tv26 O747.2.1) (show 26 ≠ 15 ∨ j ≠ 3 by omega)))) (i + 1) y749 (by omega) (by omega) (by omega) (by omega)) (fun y h1 hR1 => ?_)
        obtain ⟨τ1, O1, hD1⟩ := hR1
        refine ⟨τ1, oF_trans F O1, ?_⟩
        have ew : wItms b n (f + 1) (a, ps, cs) = wItms b n f (a748, ps747, cs747) := by
          show (match wItm b n (a, ps, cs) with
            | .inl q => (.inl q : prs)
            | .inr s1 => match sgn b n [42] s1.1 with
              | some a => wItms b n f (a, s1.2)
              | none => .inr (sk b n s1.1, s1.2)) = _
          simp only [e747, e748]
        rw [ew]
        exact hD1
      ·
        have sl748 := sk_le (b := b) (n := n) (a := a747) (by omega)
        obtain ⟨⟨xn748n, hn748n, en748n⟩, ⟨xa748n, ha748n, ea748n⟩, hb748n, -⟩ := id r748
        refine y_iF (c := .ne) (off := 5) (len := 3) (r := (0, 0, 0, 0)) (by decide +kernel) (acmpF (c := .ne) (by show _ = _; omega)) ?_
        refine y_ic (c := 1) (len := 1) (r := (0, 0, 0, 0)) (by decide +kernel) (by decide) (fun y750 hy750 => ?_)
        refine y_rI (len := 1) (r := (0, 0, 0, 0)) (nL := 3) (k := 2) (n9 := 2) (hs := []) (by decide +kernel) rfl (zfit_b (by omega) (by omega)).2 ?_
        exact ⟨_, ⟨(aup_trans O747.1 O748.1), O748.2.1, fun k T j hk (hC : (k ≠ 15 ∨ j < 3) ∧ k ≠ 24 ∧ k ≠ 26 ∧ ((k ≠ 23 ∧ k ≠ 25) ∨ j ≠ 1)) => ((O748.2.2 k T j (O747.1 _ _ hk) (show k ≠ 15 ∨ j ≠ 3 by omega)).trans (O747.2.2 k T j hk (show (k ≠ 15 ∨ j < 3) ∧ k ≠ 24 ∧ k ≠ 26 ∧ ((k ≠ 23 ∧ k ≠ 25) ∨ j ≠ 1) by omega)))⟩, Or.inl ⟨_, ps747, cs747, (by show (match wItm b n (a, ps, cs) with | .inl q => (.inl q : prs) | .inr s1 => match sgn b n [42] s1.1 with | some a => wItms b n f (a, s1.2) | none => .inr (sk b n s1.1, s1.2)) = _; simp only [e747, e748]), by omega, by omega, r748, (rwC_up wp747 (O748.2.2 23 1002 1 (tv23 O747.2.1) (show 23 ≠ 15 ∨ 1 ≠ 3 by omega)) (fun j => (O748.2.2 24 1005 j (tv24 O747.2.1) (show 24 ≠ 15 ∨ j ≠ 3 by omega)))), (rwC_up wc747 (O748.2.2 25 1003 1 (tv25 O747.2.1) (show 25 ≠ 15 ∨ 1 ≠ 3 by omega)) (fun j => (O748.2.2 26 1006 j (tv26 O747.2.1) (show 26 ≠ 15 ∨ j ≠ 3 by omega))))⟩⟩
    ·
      refine y_iF (c := .ne) (off := 5) (len := 3) (r := (0, 0, 0, 0)) (by decide +kernel) (acmpF (c := .ne) (by show _ = _; omega)) ?_
      refine y_ic (c := 0) (len := 1) (r := (0, 0, 0, 0)) (by decide +kernel) (by decide) (fun y751 hy751 => ?_)
      refine y_rI (len := 1) (r := (0, 0, 0, 0)) (nL := 3) (k := 2) (n9 := 2) (hs := []) (by decide +kernel) rfl (zfit_b (by omega) (by omega)).2 ?_
      exact ⟨_, ⟨O747.1, O747.2.1, fun k T j hk (hC : (k ≠ 15 ∨ j < 3) ∧ k ≠ 24 ∧ k ≠ 26 ∧ ((k ≠ 23 ∧ k ≠ 25) ∨ j ≠ 1)) => (O747.2.2 k T j hk (show (k ≠ 15 ∨ j < 3) ∧ k ≠ 24 ∧ k ≠ 26 ∧ ((k ≠ 23 ∧ k ≠ 25) ∨ j ≠ 1) by omega))⟩, Or.inr ⟨_, _, (by show (match wItm b n (a, ps, cs) with | .inl q => (.inl q : prs) | .inr s1 => match sgn b n [42] s1.1 with | some a => wItms b n f (a, s1.2) | none => .inr (sk b n s1.1, s1.2)) = _; simp only [e747]), by omega, f747⟩⟩
theorem e_side1 {t n a : Nat} {b : Nat → Int} {τ : List Nat} {h : zh} (hg : hG τ h) (al : alC h) (rd : rdC h n a b) (han : a ≤ n) (rp : rwC h 23 24 []) (rc : rwC h 25 26 []) : qI 16 47 [some (.inl (some 15)), some (.inl (some 22)), none] h t (itR1 n b τ h (wSid b n a)) := by
  obtain ⟨⟨xn, hn, en⟩, ⟨xa, ha, ea⟩, hb, hn2⟩ := id rd
  refine qI_of ?_
  refine y_same (i := .aload_n 0) (len := 1) (r := (0, 0, 0, 0)) (pc' := 1) (ls' := [some (.inl (some 15)), some (.inl (some 22)), none]) (st' := [.inl (some 15)]) (by decide +kernel) (fun k q => by cases q) rfl ?_
  refine y_same (i := .ldc 76) (len := 2) (r := (1, 0, 942, 0)) (pc' := 3) (ls' := [some (.inl (some 15)), some (.inl (some 22)), none]) (st' := [.inl (some 2000000), .inl (some 15)]) (by decide +kernel) (fun k q => by cases q) rfl ?_
  refine y_cI (i := .invokevirtual 78) (len := 3) (r := (0, 58, 5, 943)) (nL := 2) (k := 2) (n := 2) (hs := []) (args := [.inl (some 15), .inl (some 2000000)]) (rest := []) (l0 := [some (.inl (some 15)), some (.inl (some 2000000))]) (by decide +kernel) (Or.inr (Or.inl ⟨_, rfl⟩)) rfl rfl rfl rfl (Nat.le_of_ble_eq_true rfl) (zO hg (tv15 hg) aw15 rfl) rfl (qI_le (by decide) (e_word0 hg rd (by omega))) (fun y752 h752 hRy752 => ?_)
  obtain ⟨τ752, O752, hD752⟩ := hRy752
  rcases hD752 with ⟨a752, e752, le752, hy752, r752⟩ | ⟨e752, hy752, r752⟩
  ·
    obtain ⟨⟨xn752y, hn752y, en752y⟩, ⟨xa752y, ha752y, ea752y⟩, hb752y, -⟩ := id r752
    refine y_iF (c := .eq) (off := 5) (len := 3) (r := (0, 0, 0, 0)) (by decide +kernel) (acmpF (c := .eq) (by show ¬ (_ = _); omega)) ?_
    refine y_ic (c := 1) (len := 1) (r := (0, 0, 0, 0)) (by decide +kernel) (by decide) (fun y753 hy753 => ?_)
    refine y_rI (len := 1) (r := (0, 0, 0, 0)) (nL := 3) (k := 2) (n9 := 2) (hs := []) (by decide +kernel) rfl (zfit_b (by omega) (by omega)).2 ?_
    have F : oF (fun k j => (k ≠ 15 ∨ j < 3) ∧ k ≠ 24 ∧ k ≠ 26 ∧ ((k ≠ 23 ∧ k ≠ 25) ∨ j ≠ 1)) τ h τ752 h752 := ⟨O752.1, O752.2.1, fun k T j hk (hC : (k ≠ 15 ∨ j < 3) ∧ k ≠ 24 ∧ k ≠ 26 ∧ ((k ≠ 23 ∧ k ≠ 25) ∨ j ≠ 1)) => (O752.2.2 k T j hk (show k ≠ 15 ∨ j ≠ 3 by omega))⟩
    exact ⟨_, F, Or.inl ⟨_, [], [], (by unfold wSid; simp only [e752]), by omega, by omega, r752, rwC_up rp ((O752.2.2 23 1002 1 (tv23 hg) (show 23 ≠ 15 ∨ 1 ≠ 3 by omega))) (fun j => (O752.2.2 24 1005 j (tv24 hg) (show 24 ≠ 15 ∨ j ≠ 3 by omega))), rwC_up rc ((O752.2.2 25 1003 1 (tv25 hg) (show 25 ≠ 15 ∨ 1 ≠ 3 by omega))) (fun j => (O752.2.2 26 1006 j (tv26 hg) (show 26 ≠ 15 ∨ j ≠ 3 by omega)))⟩⟩
  ·
    have sl752 := sk_le (b := b) (n := n) (a := a) (by omega)
    obtain ⟨⟨xn752n, hn752n, en752n⟩, ⟨xa752n, ha752n, ea752n⟩, hb752n, -⟩ := id r752
    refine y_iT (c := .eq) (off := 5) (pc' := 11) (len := 3) (r := (0, 0, 0, 0)) (by decide +kernel) (acmpT (c := .eq) (by show _ = _; omega)) (by decide +kernel) ?_
    refine y_ic (c := 0) (len := 1) (r := (0, 0, 0, 0)) (by decide +kernel) (by decide) (fun y754 hy754 => ?_)
    refine y_same (i := .istore_n 2) (len := 1) (r := (0, 0, 0, 0)) (pc' := 13) (ls' := [some (.inl (some 15)), some (.inl (some 22)), some (zi y754)]) (st' := []) (by decide +kernel) (fun k q => by cases q) rfl ?_
    have F5 : oF (fun k j => k ≠ 15 ∨ j < 3) τ h τ752 h752 := ⟨O752.1, O752.2.1, fun k T j hk (hC : k ≠ 15 ∨ j < 3) => (O752.2.2 k T j hk (show k ≠ 15 ∨ j ≠ 3 by omega))⟩
    have rp5 := rwC_up rp (F5.2.2 23 1002 1 (tv23 hg) (show 23 ≠ 15 ∨ 1 < 3 by omega)) (fun j => F5.2.2 24 1005 j (tv24 hg) (show 24 ≠ 15 ∨ j < 3 by omega))
    have rc5 := rwC_up rc (F5.2.2 25 1003 1 (tv25 hg) (show 25 ≠ 15 ∨ 1 < 3 by omega)) (fun j => F5.2.2 26 1006 j (tv26 hg) (show 26 ≠ 15 ∨ j < 3 by omega))
    refine qX_I (rs_l1 13 τ752 h752 O752.2.1 (alC_up5 hg al F5) (sk b n a) r752 [] [] rp5 rc5 0 y754 (by omega) (by omega) rfl rfl) (fun y h1 hR1 => ?_)
    obtain ⟨τ1, O1, hD1⟩ := hR1
    refine ⟨τ1, ⟨aup_trans F5.1 O1.1, O1.2.1, fun k T j hk (hC : (k ≠ 15 ∨ j < 3) ∧ k ≠ 24 ∧ k ≠ 26 ∧ ((k ≠ 23 ∧ k ≠ 25) ∨ j ≠ 1)) => (O1.2.2 k T j (F5.1 _ _ hk) hC).trans (F5.2.2 k T j hk (show k ≠ 15 ∨ j < 3 by omega))⟩, ?_⟩
    have ew : wSid b n a = wItms b n 13 (sk b n a, [], []) := by
      unfold wSid
      simp only [e752]
      unfold wItms
      rw [wItm_sk (by omega)]
    rw [ew]
    exact hD1
theorem e_end {t n a : Nat} {b : Nat → Int} {τ : List Nat} {h : zh} (hg : hG τ h) (rd : rdC h n a b) (han : a ≤ n) : qI 10 56 [some (.inl (some 15))] h t (fun y h1 => ∃ τ1, oF (fun k j => k ≠ 15 ∨ j < 3) τ h τ1 h1 ∧ ((sk b n a = n ∧ y.toInt = 1 ∧ rdC h1 n (sk b n a) b) ∨ (sk b n a ≠ n ∧ y.toInt = 0 ∧ flt h1 1 (sk b n a)))) := by
  obtain ⟨⟨xn, hn, en⟩, ⟨xa, ha, ea⟩, hb, hn2⟩ := id rd
  refine qI_of ?_
  refine y_same (i := .aload_n 0) (len := 1) (r := (0, 0, 0, 0)) (pc' := 1) (ls' := [some (.inl (some 15))]) (st' := [.inl (some 15)]) (by decide +kernel) (fun k q => by cases q) rfl ?_
  refine y_cV (i := .invokevirtual 89) (len := 3) (r := (0, 60, 5, 947)) (nL := 1) (k := 0) (n := 1) (hs := []) (args := [.inl (some 15)]) (rest := []) (l0 := [some (.inl (some 15))]) (by decide +kernel) (Or.inr (Or.inl ⟨_, rfl⟩)) rfl rfl rfl rfl (Nat.le_of_ble_eq_true rfl) (zO hg (tv15 hg) aw15 rfl) rfl (qV_le (by decide) (e_skip hg rd (by omega))) (fun h755 hR755 => ?_)
  obtain ⟨τ755, O755, rd755⟩ := hR755
  have sl755 := sk_le (b := b) (n := n) (a := a) (by omega)
  obtain ⟨⟨xn755, hn755, en755⟩, ⟨xa755, ha755, ea755⟩, hb755, -⟩ := id rd755
  refine y_same (i := .aload_n 0) (len := 1) (r := (0, 0, 0, 0)) (pc' := 5) (ls' := [some (.inl (some 15))]) (st' := [.inl (some 15)]) (by decide +kernel) (fun k q => by cases q) rfl ?_
  refine y_get (j := 26) (len := 3) (r := (5, 3, 0, 243)) (by decide +kernel) O755.2.1 (tv15 O755.2.1) aw15 rfl rfl ha755 ?_
  refine y_same (i := .aload_n 0) (len := 1) (r := (0, 0, 0, 0)) (pc' := 9) (ls' := [some (.inl (some 15))]) (st' := [.inl (some 15), zi xa755]) (by decide +kernel) (fun k q => by cases q) rfl ?_
  refine y_get (j := 22) (len := 3) (r := (5, 2, 0, 242)) (by decide +kernel) O755.2.1 (tv15 O755.2.1) aw15 rfl rfl hn755 ?_
  rcases Decidable.em (xa755.toInt = xn755.toInt) with q756 | q756
  ·
    refine y_cT (c := .eq) (off := 15) (pc' := 27) (len := 3) (r := (0, 0, 0, 0)) (by decide +kernel) (acmpT (c := .eq) (by show _ = _; omega)) (by decide +kernel) ?_
    refine y_ic (c := 1) (len := 1) (r := (0, 0, 0, 0)) (by decide +kernel) (by decide) (fun y757 hy757 => ?_)
    refine y_goto (off := 4) (pc' := 32) (len := 3) (r := (0, 0, 0, 0)) (by decide +kernel) (by decide +kernel) ?_
    refine y_rI (len := 1) (r := (0, 0, 0, 0)) (nL := 1) (k := 2) (n9 := 1) (hs := []) (by decide +kernel) rfl (zfit_b (by omega) (by omega)).2 ?_
    exact ⟨_, ⟨O755.1, O755.2.1, fun k T j hk (hC : k ≠ 15 ∨ j < 3) => (O755.2.2 k T j hk (show k ≠ 15 ∨ j ≠ 3 by omega))⟩, Or.inl ⟨by omega, by omega, rd755⟩⟩
  ·
    refine y_cF (c := .eq) (off := 15) (len := 3) (r := (0, 0, 0, 0)) (by decide +kernel) (acmpF (c := .eq) (by show ¬ (_ = _); omega)) ?_
    refine y_same (i := .aload_n 0) (len := 1) (r := (0, 0, 0, 0)) (pc' := 16) (ls' := [some (.inl (some 15))]) (st' := [.inl (some 15)]) (by decide +kernel) (fun k q => by cases q) rfl ?_
    refine y_ic (c := 1) (len := 1) (r := (0, 0, 0, 0)) (by decide +kernel) (by decide) (fun y758 hy758 => ?_)
    refine y_same (i := .aload_n 0) (len := 1) (r := (0, 0, 0, 0)) (pc' := 18) (ls' := [some (.inl (some 15))]) (st' := [.inl (some 15), zi y758, .inl (some 15)]) (by decide +kernel) (fun k q => by cases q) rfl ?_
    refine y_get (j := 26) (len := 3) (r := (5, 3, 0, 243)) (by decide +kernel) O755.2.1 (tv15 O755.2.1) aw15 rfl rfl ha755 ?_
    refine y_cI (i := .invokevirtual 147) (len := 3) (r := (0, 61, 5, 1021)) (nL := 3) (k := 2) (n := 3) (hs := []) (args := [.inl (some 15), zi y758, zi xa755]) (rest := []) (l0 := [some (.inl (some 15)), some (zi y758), some (zi xa755)]) (by decide +kernel) (Or.inr (Or.inl ⟨_, rfl⟩)) rfl rfl rfl rfl (Nat.le_of_ble_eq_true rfl) (zO O755.2.1 (tv15 O755.2.1) aw15 rfl) rfl (qI_le (by decide) (e_refuse (d := 0) (r := 1) (q := (sk b n a)) O755.2.1 (by omega) (by omega))) (fun y759 h759 hRy759 => ?_)
    obtain ⟨z759, τ759, O759, fl759⟩ := hRy759
    refine y_iT (c := .eq) (off := 7) (pc' := 31) (len := 3) (r := (0, 0, 0, 0)) (by decide +kernel) (acmpT (c := .eq) (by show _ = _; omega)) (by decide +kernel) ?_
    refine y_ic (c := 0) (len := 1) (r := (0, 0, 0, 0)) (by decide +kernel) (by decide) (fun y760 hy760 => ?_)
    refine y_rI (len := 1) (r := (0, 0, 0, 0)) (nL := 1) (k := 2) (n9 := 1) (hs := []) (by decide +kernel) rfl (zfit_b (by omega) (by omega)).2 ?_
    exact ⟨_, ⟨(aup_trans O755.1 O759.1), O759.2.1, fun k T j hk (hC : k ≠ 15 ∨ j < 3) => ((O759.2.2 k T j (O755.1 _ _ hk) (show k ≠ 15 ∨ j < 4 by omega)).trans (O755.2.2 k T j hk (show k ≠ 15 ∨ j ≠ 3 by omega)))⟩, Or.inr ⟨by omega, by omega, fl759⟩⟩
