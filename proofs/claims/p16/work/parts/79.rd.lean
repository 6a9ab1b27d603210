/-! the class's reader: the whole text -/
theorem y_cpy {d mi pc : Nat} {ls : List (Option zv)} {h : zh} {t : Nat} {P : zo × zh × Nat → Prop} {i : Instr} {len : Nat} {r : zr} {τ : List Nat} {A B T TB L LB m : Nat} {lo hi : Int} {n dp sp : Int32} {st' : List zv} (hf : zfetch mi pc = some (i, len, r)) (hi9 : (∃ k, i = .invokestatic k) ∨ (∃ k, i = .invokevirtual k) ∨ (∃ k, i = .invokespecial k)) (h5 : Nat.beq r.1 5 = false) (h7 : Nat.beq r.1 7 = true) (hg : hG τ h) (hA : τ[A]? = some T) (hT : atyp T = some (.inl (0, L, [(L, .inl (lo, hi))]))) (hB : τ[B]? = some TB) (hTB : atyp TB = some (.inl (0, LB, [(LB, .inl (lo, hi))]))) (hp : aprot TB = false) (hc : zcat st' ≤ 8) (hm : n.toInt = (m : Int)) (hd0 : dp.toInt = 0) (hs0 : sp.toInt = 0) (l1 : m ≤ L) (l2 : m ≤ LB) (k : ∀ h2 : zh, hG τ h2 → h2.length = h.length → (∀ j, j < m → hsl h2 B j = hsl h A j) → (∀ k j : Nat, k ≠ B → hsl h2 k j = hsl h k j) → qX d mi (pc + 3) ls st' h2 t P) : qX d mi pc ls (zi n :: zi dp :: .inl (some B) :: zi sp :: .inl (some A) :: st') h t P := by
  obtain ⟨-, ca, hca, htya⟩ := hg.1.2.2.2 A T hA
  obtain ⟨-, cb, hcb, htyb⟩ := hg.1.2.2.2 B TB hB
  obtain ⟨fsa, rfl, la⟩ := tyc_arr hT htya
  obtain ⟨fsb, rfl, lb⟩ := tyc_arr hTB htyb
  have hlt : B < h.length := (List.getElem?_eq_some_iff.mp hcb).1
  have hset : ∀ k' : Nat, k' ≠ B → (h.set B (.inl (0, zcpl fsa fsb 0 0 m)))[k']? = h[k']? := fun k' hk => List.getElem?_set_ne (fun e9 => hk e9.symm)
  have hself : (h.set B (.inl (0, zcpl fsa fsb 0 0 m)))[B]? = some (.inl (0, zcpl fsa fsb 0 0 m)) := List.getElem?_set_self hlt
  have hcl : zcpl fsa fsb 0 0 m = fsa.take m ++ fsb.drop m := by
    unfold zcpl
    simp
  have hty' : tyc τ TB (.inl (0, zcpl fsa fsb 0 0 m)) := by
    unfold tyc at htya htyb ⊢
    rw [hT] at htya
    rw [hTB] at htyb ⊢
    obtain ⟨-, -, ea⟩ := htya
    obtain ⟨-, -, eb⟩ := htyb
    refine ⟨rfl, by rw [hcl, List.length_append, List.length_take, List.length_drop]; omega, fun j v hv => ?_⟩
    rw [hcl] at hv
    rcases Nat.lt_or_ge j m with hj | hj
    · rw [List.getElem?_append_left (by rw [List.length_take]; omega), List.getElem?_take_of_lt hj] at hv
      obtain ⟨q, f1, f2⟩ := ea j v hv
      rw [sr1 (by omega)] at f1
      cases f1
      exact ⟨_, sr1 (by omega), f2⟩
    · rw [List.getElem?_append_right (by rw [List.length_take]; omega), List.length_take, List.getElem?_drop] at hv
      rw [show m + (j - min m fsa.length) = j by omega] at hv
      exact eb j v hv
  have ixx : ∀ (x : Int32) (q N : Nat), x.toInt = (q : Int) → q < N → zix (zi x) N = some q := fun x q N e1 e2 => zix_ex e1 e2
  have aA : zarr h (.inl (some A)) = some (A, 0, fsa) := zarr_at hca
  have aB : zarr h (.inl (some B)) = some (B, 0, fsb) := zarr_at hcb
  have key := k (h.set B (.inl (0, zcpl fsa fsb 0 0 m))) ⟨⟨by rw [List.length_set]; exact hg.1.1, by rw [List.length_set]; exact hg.1.2.1, hg.1.2.2.1, fun k' T' hk => ⟨(hg.1.2.2.2 k' T' hk).1, by
    by_cases hkq : k' = B
    · subst hkq
      rw [hB] at hk
      cases hk
      exact ⟨_, hself, hty'⟩
    · obtain ⟨c, e1, e2⟩ := (hg.1.2.2.2 k' T' hk).2
      exact ⟨c, (hset k' hkq).trans e1, e2⟩⟩⟩, aJ_ok τ h _ hg.1 List.length_set (fun q' T' hq' hp' => hset q' (fun e9 => by
        subst e9
        rw [hB] at hq'
        cases hq'
        rw [hp] at hp'
        cases hp')) hg.2⟩ List.length_set (fun j hj => by
          rw [hsl_arr hself, hsl_arr hca, hcl, List.getElem?_append_left (by rw [List.length_take]; omega), List.getElem?_take_of_lt hj]) (fun k' j' hk => by
          unfold hsl
          rw [hset k' hk])
  obtain ⟨x, q1, q2⟩ := key
  exact ⟨x, qF_copy hf hi9 h5 h7 aA aB hc (ixx _ m _ hm (by omega)) (ixx _ 0 _ (by omega) (by omega)) (ixx _ 0 _ (by omega) (by omega)) (by omega) (by omega) q1, q2⟩
theorem e_clr18 {d t : Nat} {τ : List Nat} {h : zh} (hg : hG τ h) : qV (d + 1) 66 [some (.inl (some 18))] h t (fun h1 => ∃ τ1, oF (fun k j => k ≠ 18 ∨ j ≠ 1) τ h τ1 h1 ∧ rwC h1 18 19 []) := by
  refine qV_of ?_
  refine y_same (i := .aload_n 0) (len := 1) (r := (0, 0, 0, 0)) (pc' := 1) (ls' := [some (.inl (some 18))]) (st' := [.inl (some 18)]) (by decide +kernel) (fun k q => by cases q) rfl ?_
  refine y_ic (c := 0) (len := 1) (r := (0, 0, 0, 0)) (by decide +kernel) (by decide) (fun y761 hy761 => ?_)
  refine y_put (j := 9) (lo := 0) (hi := 5) (len := 3) (r := (6, 1, 0, 164)) (by decide +kernel) hg (tv18 hg) aw1002 rfl rfl (by decide) rfl (by omega) (by omega) rfl (fun h762 hg762 hl762 hs762 ho762 => ?_)
  have ho762 : hO 18 1 h h762 := ho762
  have hs762 : hsl h762 18 1 = some (zi y761) := hs762
  refine y_rV (len := 1) (r := (0, 0, 0, 0)) (nL := 1) (n9 := 1) (hs := []) (by decide +kernel) rfl ?_
  exact ⟨_, ⟨(aup_refl _), hg762, fun k T j hk (hC : k ≠ 18 ∨ j ≠ 1) => (ho762 k j (by omega))⟩, ⟨_, hs762, by simp only [List.length_nil]; omega⟩, fun j i hj => by cases hj⟩
theorem e_clr20 {d t : Nat} {τ : List Nat} {h : zh} (hg : hG τ h) : qV (d + 1) 66 [some (.inl (some 20))] h t (fun h1 => ∃ τ1, oF (fun k j => k ≠ 20 ∨ j ≠ 1) τ h τ1 h1 ∧ rwC h1 20 21 []) := by
  refine qV_of ?_
  refine y_same (i := .aload_n 0) (len := 1) (r := (0, 0, 0, 0)) (pc' := 1) (ls' := [some (.inl (some 20))]) (st' := [.inl (some 20)]) (by decide +kernel) (fun k q => by cases q) rfl ?_
  refine y_ic (c := 0) (len := 1) (r := (0, 0, 0, 0)) (by decide +kernel) (by decide) (fun y763 hy763 => ?_)
  refine y_put (j := 9) (lo := 0) (hi := 6) (len := 3) (r := (6, 1, 0, 164)) (by decide +kernel) hg (tv20 hg) aw1003 rfl rfl (by decide) rfl (by omega) (by omega) rfl (fun h764 hg764 hl764 hs764 ho764 => ?_)
  have ho764 : hO 20 1 h h764 := ho764
  have hs764 : hsl h764 20 1 = some (zi y763) := hs764
  refine y_rV (len := 1) (r := (0, 0, 0, 0)) (nL := 1) (n9 := 1) (hs := []) (by decide +kernel) rfl ?_
  exact ⟨_, ⟨(aup_refl _), hg764, fun k T j hk (hC : k ≠ 20 ∨ j ≠ 1) => (ho764 k j (by omega))⟩, ⟨_, hs764, by simp only [List.length_nil]; omega⟩, fun j i hj => by cases hj⟩
theorem e_clr23 {d t : Nat} {τ : List Nat} {h : zh} (hg : hG τ h) : qV (d + 1) 66 [some (.inl (some 23))] h t (fun h1 => ∃ τ1, oF (fun k j => k ≠ 23 ∨ j ≠ 1) τ h τ1 h1 ∧ rwC h1 23 24 []) := by
  refine qV_of ?_
  refine y_same (i := .aload_n 0) (len := 1) (r := (0, 0, 0, 0)) (pc' := 1) (ls' := [some (.inl (some 23))]) (st' := [.inl (some 23)]) (by decide +kernel) (fun k q => by cases q) rfl ?_
  refine y_ic (c := 0) (len := 1) (r := (0, 0, 0, 0)) (by decide +kernel) (by decide) (fun y765 hy765 => ?_)
  refine y_put (j := 9) (lo := 0) (hi := 5) (len := 3) (r := (6, 1, 0, 164)) (by decide +kernel) hg (tv23 hg) aw1002 rfl rfl (by decide) rfl (by omega) (by omega) rfl (fun h766 hg766 hl766 hs766 ho766 => ?_)
  have ho766 : hO 23 1 h h766 := ho766
  have hs766 : hsl h766 23 1 = some (zi y765) := hs766
  refine y_rV (len := 1) (r := (0, 0, 0, 0)) (nL := 1) (n9 := 1) (hs := []) (by decide +kernel) rfl ?_
  exact ⟨_, ⟨(aup_refl _), hg766, fun k T j hk (hC : k ≠ 23 ∨ j ≠ 1) => (ho766 k j (by omega))⟩, ⟨_, hs766, by simp only [List.length_nil]; omega⟩, fun j i hj => by cases hj⟩
theorem e_clr25 {d t : Nat} {τ : List Nat} {h : zh} (hg : hG τ h) : qV (d + 1) 66 [some (.inl (some 25))] h t (fun h1 => ∃ τ1, oF (fun k j => k ≠ 25 ∨ j ≠ 1) τ h τ1 h1 ∧ rwC h1 25 26 []) := by
  refine qV_of ?_
  refine y_same (i := .aload_n 0) (len := 1) (r := (0, 0, 0, 0)) (pc' := 1) (ls' := [some (.inl (some 25))]) (st' := [.inl (some 25)]) (by decide +kernel) (fun k q => by cases q) rfl ?_
  refine y_ic (c := 0) (len := 1) (r := (0, 0, 0, 0)) (by decide +kernel) (by decide) (fun y767 hy767 => ?_)
  refine y_put (j := 9) (lo := 0) (hi := 6) (len := 3) (r := (6, 1, 0, 164)) (by decide +kernel) hg (tv25 hg) aw1003 rfl rfl (by decide) rfl (by omega) (by omega) rfl (fun h768 hg768 hl768 hs768 ho768 => ?_)
  have ho768 : hO 25 1 h h768 := ho768
  have hs768 : hsl h768 25 1 = some (zi y767) := hs768
  refine y_rV (len := 1) (r := (0, 0, 0, 0)) (nL := 1) (n9 := 1) (hs := []) (by decide +kernel) rfl ?_
  exact ⟨_, ⟨(aup_refl _), hg768, fun k T j hk (hC : k ≠ 25 ∨ j ≠ 1) => (ho768 k j (by omega))⟩, ⟨_, hs768, by simp only [List.length_nil]; omega⟩, fun j i hj => by cases hj⟩
theorem e_sclr0 {t : Nat} {τ : List Nat} {h : zh} (hg : hG τ h) (al : alC h) : qV 3 105 [some (.inl (some 17))] h t (fun h1 => ∃ τ1, oF (fun k j => (k ≠ 18 ∧ k ≠ 20) ∨ j ≠ 1) τ h τ1 h1 ∧ rwC h1 18 19 [] ∧ rwC h1 20 21 []) := by
  refine qV_of ?_
  refine y_same (i := .aload_n 0) (len := 1) (r := (0, 0, 0, 0)) (pc' := 1) (ls' := [some (.inl (some 17))]) (st' := [.inl (some 17)]) (by decide +kernel) (fun k q => by cases q) rfl ?_
  refine y_get (j := 14) (len := 3) (r := (8, 0, 2, 178)) (by decide +kernel) hg (tv17 hg) aw1001 rfl rfl al.2.2.2.1 ?_
  refine y_cV (i := .invokevirtual 23) (len := 3) (r := (0, 66, 6, 934)) (nL := 1) (k := 0) (n := 1) (hs := []) (args := [.inl (some 18)]) (rest := []) (l0 := [some (.inl (some 18))]) (by decide +kernel) (Or.inr (Or.inl ⟨_, rfl⟩)) rfl rfl rfl rfl (Nat.le_of_ble_eq_true rfl) (zO hg (tv18 hg) aw1002 rfl) rfl (qV_le (by decide) (e_clr18 (d := 0) hg)) (fun h769 hR769 => ?_)
  obtain ⟨τ769, O769, r769⟩ := hR769
  refine y_same (i := .aload_n 0) (len := 1) (r := (0, 0, 0, 0)) (pc' := 8) (ls' := [some (.inl (some 17))]) (st' := [.inl (some 17)]) (by decide +kernel) (fun k q => by cases q) rfl ?_
  have hv770 := (O769.2.2 17 1001 1 (tv17 hg) (show 17 ≠ 18 ∨ 1 ≠ 1 by omega)).trans al.2.2.2.2.1
  refine y_get (j := 20) (len := 3) (r := (8, 1, 2, 185)) (by decide +kernel) O769.2.1 (tv17 O769.2.1) aw1001 rfl rfl hv770 ?_
  refine y_cV (i := .invokevirtual 23) (len := 3) (r := (0, 66, 6, 934)) (nL := 1) (k := 0) (n := 1) (hs := []) (args := [.inl (some 20)]) (rest := []) (l0 := [some (.inl (some 20))]) (by decide +kernel) (Or.inr (Or.inl ⟨_, rfl⟩)) rfl rfl rfl rfl (Nat.le_of_ble_eq_true rfl) (zO O769.2.1 (tv20 O769.2.1) aw1003 rfl) rfl (qV_le (by decide) (e_clr20 (d := 0) O769.2.1)) (fun h771 hR771 => ?_)
  obtain ⟨τ771, O771, r771⟩ := hR771
  refine y_rV (len := 1) (r := (0, 0, 0, 0)) (nL := 1) (n9 := 1) (hs := []) (by decide +kernel) rfl ?_
  exact ⟨_, ⟨(aup_trans O769.1 O771.1), O771.2.1, fun k T j hk (hC : (k ≠ 18 ∧ k ≠ 20) ∨ j ≠ 1) => ((O771.2.2 k T j (O769.1 _ _ hk) (show k ≠ 20 ∨ j ≠ 1 by omega)).trans (O769.2.2 k T j hk (show k ≠ 18 ∨ j ≠ 1 by omega)))⟩, rwC_up r769 (O771.2.2 18 1002 1 (tv18 O769.2.1) (show 18 ≠ 20 ∨ 1 ≠ 1 by omega)) (fun j => (O771.2.2 19 1005 j (tv19 O769.2.1) (show 19 ≠ 20 ∨ j ≠ 1 by omega))), r771⟩
theorem e_sclr1 {t : Nat} {τ : List Nat} {h : zh} (hg : hG τ h) (al : alC h) : qV 3 105 [some (.inl (some 22))] h t (fun h1 => ∃ τ1, oF (fun k j => (k ≠ 23 ∧ k ≠ 25) ∨ j ≠ 1) τ h τ1 h1 ∧ rwC h1 23 24 [] ∧ rwC h1 25 26 []) := by
  refine qV_of ?_
  refine y_same (i := .aload_n 0) (len := 1) (r := (0, 0, 0, 0)) (pc' := 1) (ls' := [some (.inl (some 22))]) (st' := [.inl (some 22)]) (by decide +kernel) (fun k q => by cases q) rfl ?_
  refine y_get (j := 14) (len := 3) (r := (8, 0, 2, 178)) (by decide +kernel) hg (tv22 hg) aw1001 rfl rfl al.2.2.2.2.2.1 ?_
  refine y_cV (i := .invokevirtual 23) (len := 3) (r := (0, 66, 6, 934)) (nL := 1) (k := 0) (n := 1) (hs := []) (args := [.inl (some 23)]) (rest := []) (l0 := [some (.inl (some 23))]) (by decide +kernel) (Or.inr (Or.inl ⟨_, rfl⟩)) rfl rfl rfl rfl (Nat.le_of_ble_eq_true rfl) (zO hg (tv23 hg) aw1002 rfl) rfl (qV_le (by decide) (e_clr23 (d := 0) hg)) (fun h772 hR772 => ?_)
  obtain ⟨τ772, O772, r772⟩ := hR772
  refine y_same (i := .aload_n 0) (len := 1) (r := (0, 0, 0, 0)) (pc' := 8) (ls' := [some (.inl (some 22))]) (st' := [.inl (some 22)]) (by decide +kernel) (fun k q => by cases q) rfl ?_
  have hv773 := (O772.2.2 22 1001 1 (tv22 hg) (show 22 ≠ 23 ∨ 1 ≠ 1 by omega)).trans al.2.2.2.2.2.2.1
  refine y_get (j := 20) (len := 3) (r := (8, 1, 2, 185)) (by decide +kernel) O772.2.1 (tv22 O772.2.1) aw1001 rfl rfl hv773 ?_
  refine y_cV (i := .invokevirtual 23) (len := 3) (r := (0, 66, 6, 934)) (nL := 1) (k := 0) (n := 1) (hs := []) (args := [.inl (some 25)]) (rest := []) (l0 := [some (.inl (some 25))]) (by decide +kernel) (Or.inr (Or.inl ⟨_, rfl⟩)) rfl rfl rfl rfl (Nat.le_of_ble_eq_true rfl) (zO O772.2.1 (tv25 O772.2.1) aw1003 rfl) rfl (qV_le (by decide) (e_clr25 (d := 0) O772.2.1)) (fun h774 hR774 => ?_)
  obtain ⟨τ774, O774, r774⟩ := hR774
  refine y_rV (len := 1) (r := (0, 0, 0, 0)) (nL := 1) (n9 := 1) (hs := []) (by decide +kernel) rfl ?_
  exact ⟨_, ⟨(aup_trans O772.1 O774.1), O774.2.1, fun k T j hk (hC : (k ≠ 23 ∧ k ≠ 25) ∨ j ≠ 1) => ((O774.2.2 k T j (O772.1 _ _ hk) (show k ≠ 25 ∨ j ≠ 1 by omega)).trans (O772.2.2 k T j hk (show k ≠ 23 ∨ j ≠ 1 by omega)))⟩, rwC_up r772 (O774.2.2 23 1002 1 (tv23 O772.2.1) (show 23 ≠ 25 ∨ 1 ≠ 1 by omega)) (fun j => (O774.2.2 24 1005 j (tv24 O772.2.1) (show 24 ≠ 25 ∨ j ≠ 1 by omega))), r774⟩
theorem alC_upA {τ τ1 : List Nat} {h h1 : zh} (hg : hG τ h) (al : alC h) (F : oF (fun k j => (k ≠ 15 ∨ j < 2) ∧ k ≠ 27 ∧ k ≠ 19 ∧ k ≠ 21 ∧ k ≠ 24 ∧ k ≠ 26 ∧ ((k ≠ 18 ∧ k ≠ 20 ∧ k ≠ 23 ∧ k ≠ 25) ∨ j ≠ 1)) τ h τ1 h1) : alC h1 := ⟨(F.2.2 15 15 0 (tv15 hg) (show (15 ≠ 15 ∨ 0 < 2) ∧ 15 ≠ 27 ∧ 15 ≠ 19 ∧ 15 ≠ 21 ∧ 15 ≠ 24 ∧ 15 ≠ 26 ∧ ((15 ≠ 18 ∧ 15 ≠ 20 ∧ 15 ≠ 23 ∧ 15 ≠ 25) ∨ 0 ≠ 1) by omega)).trans al.1, (F.2.2 16 1000 0 (tv16 hg) (show (16 ≠ 15 ∨ 0 < 2) ∧ 16 ≠ 27 ∧ 16 ≠ 19 ∧ 16 ≠ 21 ∧ 16 ≠ 24 ∧ 16 ≠ 26 ∧ ((16 ≠ 18 ∧ 16 ≠ 20 ∧ 16 ≠ 23 ∧ 16 ≠ 25) ∨ 0 ≠ 1) by omega)).trans al.2.1, (F.2.2 16 1000 1 (tv16 hg) (show (16 ≠ 15 ∨ 1 < 2) ∧ 16 ≠ 27 ∧ 16 ≠ 19 ∧ 16 ≠ 21 ∧ 16 ≠ 24 ∧ 16 ≠ 26 ∧ ((16 ≠ 18 ∧ 16 ≠ 20 ∧ 16 ≠ 23 ∧ 16 ≠ 25) ∨ 1 ≠ 1) by omega)).trans al.2.2.1, (F.2.2 17 1001 0 (tv17 hg) (show (17 ≠ 15 ∨ 0 < 2) ∧ 17 ≠ 27 ∧ 17 ≠ 19 ∧ 17 ≠ 21 ∧ 17 ≠ 24 ∧ 17 ≠ 26 ∧ ((17 ≠ 18 ∧ 17 ≠ 20 ∧ 17 ≠ 23 ∧ 17 ≠ 25) ∨ 0 ≠ 1) by omega)).trans al.2.2.2.1, (F.2.2 17 1001 1 (tv17 hg) (show (17 ≠ 15 ∨ 1 < 2) ∧ 17 ≠ 27 ∧ 17 ≠ 19 ∧ 17 ≠ 21 ∧ 17 ≠ 24 ∧ 17 ≠ 26 ∧ ((17 ≠ 18 ∧ 17 ≠ 20 ∧ 17 ≠ 23 ∧ 17 ≠ 25) ∨ 1 ≠ 1) by omega)).trans al.2.2.2.2.1, (F.2.2 22 1001 0 (tv22 hg) (show (22 ≠ 15 ∨ 0 < 2) ∧ 22 ≠ 27 ∧ 22 ≠ 19 ∧ 22 ≠ 21 ∧ 22 ≠ 24 ∧ 22 ≠ 26 ∧ ((22 ≠ 18 ∧ 22 ≠ 20 ∧ 22 ≠ 23 ∧ 22 ≠ 25) ∨ 0 ≠ 1) by omega)).trans al.2.2.2.2.2.1, (F.2.2 22 1001 1 (tv22 hg) (show (22 ≠ 15 ∨ 1 < 2) ∧ 22 ≠ 27 ∧ 22 ≠ 19 ∧ 22 ≠ 21 ∧ 22 ≠ 24 ∧ 22 ≠ 26 ∧ ((22 ≠ 18 ∧ 22 ≠ 20 ∧ 22 ≠ 23 ∧ 22 ≠ 25) ∨ 1 ≠ 1) by omega)).trans al.2.2.2.2.2.2.1, (F.2.2 18 1002 0 (tv18 hg) (show (18 ≠ 15 ∨ 0 < 2) ∧ 18 ≠ 27 ∧ 18 ≠ 19 ∧ 18 ≠ 21 ∧ 18 ≠ 24 ∧ 18 ≠ 26 ∧ ((18 ≠ 18 ∧ 18 ≠ 20 ∧ 18 ≠ 23 ∧ 18 ≠ 25) ∨ 0 ≠ 1) by omega)).trans al.2.2.2.2.2.2.2.1, (F.2.2 20 1003 0 (tv20 hg) (show (20 ≠ 15 ∨ 0 < 2) ∧ 20 ≠ 27 ∧ 20 ≠ 19 ∧ 20 ≠ 21 ∧ 20 ≠ 24 ∧ 20 ≠ 26 ∧ ((20 ≠ 18 ∧ 20 ≠ 20 ∧ 20 ≠ 23 ∧ 20 ≠ 25) ∨ 0 ≠ 1) by omega)).trans al.2.2.2.2.2.2.2.2.1, (F.2.2 23 1002 0 (tv23 hg) (show (23 ≠ 15 ∨ 0 < 2) ∧ 23 ≠ 27 ∧ 23 ≠ 19 ∧ 23 ≠ 21 ∧ 23 ≠ 24 ∧ 23 ≠ 26 ∧ ((23 ≠ 18 ∧ 23 ≠ 20 ∧ 23 ≠ 23 ∧ 23 ≠ 25) ∨ 0 ≠ 1) by omega)).trans al.2.2.2.2.2.2.2.2.2.1, (F.2.2 25 1003 0 (tv25 hg) (show (25 ≠ 15 ∨ 0 < 2) ∧ 25 ≠ 27 ∧ 25 ≠ 19 ∧ 25 ≠ 21 ∧ 25 ≠ 24 ∧ 25 ≠ 26 ∧ ((25 ≠ 18 ∧ 25 ≠ 20 ∧ 25 ≠ 23 ∧ 25 ≠ 25) ∨ 0 ≠ 1) by omega)).trans al.2.2.2.2.2.2.2.2.2.2⟩
def rdW (n : Nat) (b : Nat → Int) (τ : List Nat) (h : zh) (y : Int32) (h1 : zh) : Prop := ∃ τ1, oF (fun k j => (k ≠ 15 ∨ j < 2) ∧ k ≠ 27 ∧ k ≠ 19 ∧ k ≠ 21 ∧ k ≠ 24 ∧ k ≠ 26 ∧ ((k ≠ 18 ∧ k ≠ 20 ∧ k ≠ 23 ∧ k ≠ 25) ∨ j ≠ 1)) τ h τ1 h1 ∧ ((∃ lp lc rp rc : List it4, wAll b n = .inr ((lp, lc), (rp, rc)) ∧ y.toInt = 1 ∧ (∃ x : Int32, hsl h1 15 5 = some (zi x) ∧ x.toInt = -1) ∧ rwC h1 18 19 lp ∧ rwC h1 20 21 lc ∧ rwC h1 23 24 rp ∧ rwC h1 25 26 rc) ∨ (∃ (r : Int) (q : Nat), wAll b n = .inl (r, q) ∧ y.toInt = 0 ∧ flt h1 r q))
theorem e_read {t n : Nat} {b : Nat → Int} {τ : List Nat} {h : zh} {xn : Int32} (hg : hG τ h) (al : alC h) (en : xn.toInt = (n : Int)) (hn2 : n ≤ 200) (hb : ∀ j, j < n → ∃ x : Int32, hsl h 1 j = some (zi x) ∧ x.toInt = b j) : qI 18 46 [some (.inl (some 15)), some (.inl (some 1)), some (zi xn)] h t (rdW n b τ h) := by
  refine qI_of ?_
  refine y_same (i := .aload_n 0) (len := 1) (r := (0, 0, 0, 0)) (pc' := 1) (ls' := [some (.inl (some 15)), some (.inl (some 1)), some (zi xn)]) (st' := [.inl (some 15)]) (by decide +kernel) (fun k q => by cases q) rfl ?_
  refine y_ic (c := 0) (len := 1) (r := (0, 0, 0, 0)) (by decide +kernel) (by decide) (fun y775 hy775 => ?_)
  refine y_same (i := .iload_n 2) (len := 1) (r := (0, 0, 0, 0)) (pc' := 3) (ls' := [some (.inl (some 15)), some (.inl (some 1)), some (zi xn)]) (st' := [zi xn, zi y775, .inl (some 15)]) (by decide +kernel) (fun k q => by cases q) rfl ?_
  refine y_same (i := .aload_n 1) (len := 1) (r := (0, 0, 0, 0)) (pc' := 4) (ls' := [some (.inl (some 15)), some (.inl (some 1)), some (zi xn)]) (st' := [.inl (some 1), zi xn, zi y775, .inl (some 15)]) (by decide +kernel) (fun k q => by cases q) rfl ?_
  refine y_aln (len := 1) (r := (0, 0, 0, 0)) (by decide +kernel) hg (tv1 hg) aw1 (by decide) (fun y776 hy776 => ?_)
  refine y_si (c := 200) (len := 3) (r := (0, 0, 0, 0)) (by decide +kernel) (by decide) (fun y777 hy777 => ?_)
  refine y_cI (i := .invokestatic 35) (len := 3) (r := (1, 267, 60, 927)) (nL := 2) (k := 1) (n := 2) (hs := []) (args := [zi y776, zi y777]) (rest := [zi xn, zi y775, .inl (some 15)]) (l0 := [some (zi y776), some (zi y777)]) (by decide +kernel) (Or.inl ⟨_, rfl⟩) rfl rfl rfl rfl (Nat.le_of_ble_eq_true rfl) rfl rfl (qI_le (by decide) (e_jmin (d := 0))) (fun y778 qy778 hRy778 => ?_)
  obtain ⟨rfl, my778, wy778⟩ := hRy778
  have ey778 : y778.toInt = 200 := by omega
  refine y_cI (i := .invokestatic 35) (len := 3) (r := (1, 267, 60, 927)) (nL := 2) (k := 1) (n := 2) (hs := []) (args := [zi xn, zi y778]) (rest := [zi y775, .inl (some 15)]) (l0 := [some (zi xn), some (zi y778)]) (by decide +kernel) (Or.inl ⟨_, rfl⟩) rfl rfl rfl rfl (Nat.le_of_ble_eq_true rfl) rfl rfl (qI_le (by decide) (e_jmin (d := 0))) (fun y779 qy779 hRy779 => ?_)
  obtain ⟨rfl, my779, wy779⟩ := hRy779
  have ey779 : y779.toInt = (n : Int) := by omega
  refine y_cI (i := .invokestatic 41) (len := 3) (r := (1, 266, 60, 928)) (nL := 2) (k := 1) (n := 2) (hs := []) (args := [zi y775, zi y779]) (rest := [.inl (some 15)]) (l0 := [some (zi y775), some (zi y779)]) (by decide +kernel) (Or.inl ⟨_, rfl⟩) rfl rfl rfl rfl (Nat.le_of_ble_eq_true rfl) rfl rfl (qI_le (by decide) (e_jmax (d := 0))) (fun y780 qy780 hRy780 => ?_)
  obtain ⟨rfl, my780, wy780⟩ := hRy780
  have ey780 : y780.toInt = (n : Int) := by omega
  refine y_put (j := 22) (lo := 0) (hi := 200) (len := 3) (r := (5, 2, 0, 242)) (by decide +kernel) hg (tv15 hg) aw15 rfl rfl (by decide) rfl (by omega) (by omega) rfl (fun h781 hg781 hl781 hs781 ho781 => ?_)
  have ho781 : hO 15 2 h h781 := ho781
  have hs781 : hsl h781 15 2 = some (zi y780) := hs781
  refine y_same (i := .aload_n 1) (len := 1) (r := (0, 0, 0, 0)) (pc' := 21) (ls' := [some (.inl (some 15)), some (.inl (some 1)), some (zi xn)]) (st' := [.inl (some 1)]) (by decide +kernel) (fun k q => by cases q) rfl ?_
  refine y_ic (c := 0) (len := 1) (r := (0, 0, 0, 0)) (by decide +kernel) (by decide) (fun y782 hy782 => ?_)
  refine y_same (i := .aload_n 0) (len := 1) (r := (0, 0, 0, 0)) (pc' := 23) (ls' := [some (.inl (some 15)), some (.inl (some 1)), some (zi xn)]) (st' := [.inl (some 15), zi y782, .inl (some 1)]) (by decide +kernel) (fun k q => by cases q) rfl ?_
  refine y_get (j := 18) (len := 3) (r := (5, 1, 2, 241)) (by decide +kernel) hg781 (tv15 hg781) aw15 rfl rfl (g_rU (f := 1) (T2 := 27) hg781 (tv15 hg781) aw15 rfl (by decide)) ?_
  refine y_ic (c := 0) (len := 1) (r := (0, 0, 0, 0)) (by decide +kernel) (by decide) (fun y783 hy783 => ?_)
  refine y_same (i := .aload_n 0) (len := 1) (r := (0, 0, 0, 0)) (pc' := 28) (ls' := [some (.inl (some 15)), some (.inl (some 1)), some (zi xn)]) (st' := [.inl (some 15), zi y783, .inl (some 27), zi y782, .inl (some 1)]) (by decide +kernel) (fun k q => by cases q) rfl ?_
  refine y_get (j := 22) (len := 3) (r := (5, 2, 0, 242)) (by decide +kernel) hg781 (tv15 hg781) aw15 rfl rfl hs781 ?_
  refine y_cpy (i := .invokestatic 44) (len := 3) (r := (7, 0, 0, 929)) (m := n) (by decide +kernel) (Or.inl ⟨_, rfl⟩) rfl rfl hg781 (tv1 hg781) aw1 (tv27 hg781) aw27 rfl (by decide) (by omega) (by omega) (by omega) (by omega) (by omega) (fun h784 hg784 hl784 hcp ho784 => ?_)
  refine y_same (i := .aload_n 0) (len := 1) (r := (0, 0, 0, 0)) (pc' := 35) (ls' := [some (.inl (some 15)), some (.inl (some 1)), some (zi xn)]) (st' := [.inl (some 15)]) (by decide +kernel) (fun k q => by cases q) rfl ?_
  refine y_ic (c := 0) (len := 1) (r := (0, 0, 0, 0)) (by decide +kernel) (by decide) (fun y785 hy785 => ?_)
  refine y_put (j := 26) (lo := (-2147483648)) (hi := 2147483647) (len := 3) (r := (5, 3, 0, 243)) (by decide +kernel) hg784 (tv15 hg784) aw15 rfl rfl (by decide) rfl (qin_full _).1 (qin_full _).2 rfl (fun h786 hg786 hl786 hs786 ho786 => ?_)
  have ho786 : hO 15 3 h784 h786 := ho786
  have hs786 : hsl h786 15 3 = some (zi y785) := hs786
  refine y_same (i := .aload_n 0) (len := 1) (r := (0, 0, 0, 0)) (pc' := 40) (ls' := [some (.inl (some 15)), some (.inl (some 1)), some (zi xn)]) (st' := [.inl (some 15)]) (by decide +kernel) (fun k q => by cases q) rfl ?_
  refine y_ic (c := 0) (len := 1) (r := (0, 0, 0, 0)) (by decide +kernel) (by decide) (fun y787 hy787 => ?_)
  refine y_put (j := 29) (lo := (-2147483648)) (hi := 2147483647) (len := 3) (r := (5, 4, 0, 244)) (by decide +kernel) hg786 (tv15 hg786) aw15 rfl rfl (by decide) rfl (qin_full _).1 (qin_full _).2 rfl (fun h788 hg788 hl788 hs788 ho788 => ?_)
  have ho788 : hO 15 4 h786 h788 := ho788
  have hs788 : hsl h788 15 4 = some (zi y787) := hs788
  refine y_same (i := .aload_n 0) (len := 1) (r := (0, 0, 0, 0)) (pc' := 45) (ls' := [some (.inl (some 15)), some (.inl (some 1)), some (zi xn)]) (st' := [.inl (some 15)]) (by decide +kernel) (fun k q => by cases q) rfl ?_
  refine y_ic (c := (-1)) (len := 1) (r := (0, 0, 0, 0)) (by decide +kernel) (by decide) (fun y789 hy789 => ?_)
  refine y_put (j := 32) (lo := (-2147483648)) (hi := 2147483647) (len := 3) (r := (5, 5, 0, 246)) (by decide +kernel) hg788 (tv15 hg788) aw15 rfl rfl (by decide) rfl (qin_full _).1 (qin_full _).2 rfl (fun h790 hg790 hl790 hs790 ho790 => ?_)
  have ho790 : hO 15 5 h788 h790 := ho790
  have hs790 : hsl h790 15 5 = some (zi y789) := hs790
  refine y_same (i := .aload_n 0) (len := 1) (r := (0, 0, 0, 0)) (pc' := 50) (ls' := [some (.inl (some 15)), some (.inl (some 1)), some (zi xn)]) (st' := [.inl (some 15)]) (by decide +kernel) (fun k q => by cases q) rfl ?_
  have hv791 := (ho781 15 0 (Or.inr (by omega))).trans al.1
  have hv792 := (ho784 15 0 (by omega)).trans hv791
  have hv793 := (ho786 15 0 (Or.inr (by omega))).trans hv792
  have hv794 := (ho788 15 0 (Or.inr (by omega))).trans hv793
  have hv795 := (ho790 15 0 (Or.inr (by omega))).trans hv794
  refine y_get (j := 12) (len := 3) (r := (5, 0, 2, 239)) (by decide +kernel) hg790 (tv15 hg790) aw15 rfl rfl hv795 ?_
  have hv796 := (ho781 16 0 (Or.inl (by omega))).trans al.2.1
  have hv797 := (ho784 16 0 (by omega)).trans hv796
  have hv798 := (ho786 16 0 (Or.inl (by omega))).trans hv797
  have hv799 := (ho788 16 0 (Or.inl (by omega))).trans hv798
  have hv800 := (ho790 16 0 (Or.inl (by omega))).trans hv799
  refine y_get (j := 50) (len := 3) (r := (9, 0, 2, 20198)) (by decide +kernel) hg790 (tv16 hg790) aw1000 rfl rfl hv800 ?_
  have F801 : oF (fun k j => (k ≠ 15 ∨ j < 2) ∧ k ≠ 27 ∧ k ≠ 19 ∧ k ≠ 21 ∧ k ≠ 24 ∧ k ≠ 26 ∧ ((k ≠ 18 ∧ k ≠ 20 ∧ k ≠ 23 ∧ k ≠ 25) ∨ j ≠ 1)) τ h τ h790 := ⟨(aup_refl _), hg790, fun k T j hk (hC : (k ≠ 15 ∨ j < 2) ∧ k ≠ 27 ∧ k ≠ 19 ∧ k ≠ 21 ∧ k ≠ 24 ∧ k ≠ 26 ∧ ((k ≠ 18 ∧ k ≠ 20 ∧ k ≠ 23 ∧ k ≠ 25) ∨ j ≠ 1)) => ((ho790 k j (by omega)).trans ((ho788 k j (by omega)).trans ((ho786 k j (by omega)).trans ((ho784 k j (by omega)).trans (ho781 k j (by omega))))))⟩
  refine y_cV (i := .invokevirtual 54) (len := 3) (r := (0, 105, 8, 930)) (nL := 1) (k := 0) (n := 1) (hs := []) (args := [.inl (some 17)]) (rest := []) (l0 := [some (.inl (some 17))]) (by decide +kernel) (Or.inr (Or.inl ⟨_, rfl⟩)) rfl rfl rfl rfl (Nat.le_of_ble_eq_true rfl) (zO hg790 (tv17 hg790) aw1001 rfl) rfl (qV_le (by decide) (e_sclr0 hg790 (alC_upA hg al F801))) (fun h801 hR801 => ?_)
  obtain ⟨τ801, O801, rp0, rc0⟩ := hR801
  refine y_same (i := .aload_n 0) (len := 1) (r := (0, 0, 0, 0)) (pc' := 60) (ls' := [some (.inl (some 15)), some (.inl (some 1)), some (zi xn)]) (st' := [.inl (some 15)]) (by decide +kernel) (fun k q => by cases q) rfl ?_
  have hv802 := (O801.2.2 15 15 0 (tv15 hg790) (show (15 ≠ 18 ∧ 15 ≠ 20) ∨ 0 ≠ 1 by omega)).trans hv795
  refine y_get (j := 12) (len := 3) (r := (5, 0, 2, 239)) (by decide +kernel) O801.2.1 (tv15 O801.2.1) aw15 rfl rfl hv802 ?_
  have hv803 := (ho781 16 1 (Or.inl (by omega))).trans al.2.2.1
  have hv804 := (ho784 16 1 (by omega)).trans hv803
  have hv805 := (ho786 16 1 (Or.inl (by omega))).trans hv804
  have hv806 := (ho788 16 1 (Or.inl (by omega))).trans hv805
  have hv807 := (ho790 16 1 (Or.inl (by omega))).trans hv806
  have hv808 := (O801.2.2 16 1000 1 (tv16 hg790) (show (16 ≠ 18 ∧ 16 ≠ 20) ∨ 1 ≠ 1 by omega)).trans hv807
  refine y_get (j := 59) (len := 3) (r := (9, 1, 2, 20203)) (by decide +kernel) O801.2.1 (tv16 O801.2.1) aw1000 rfl rfl hv808 ?_
  have F809 : oF (fun k j => (k ≠ 15 ∨ j < 2) ∧ k ≠ 27 ∧ k ≠ 19 ∧ k ≠ 21 ∧ k ≠ 24 ∧ k ≠ 26 ∧ ((k ≠ 18 ∧ k ≠ 20 ∧ k ≠ 23 ∧ k ≠ 25) ∨ j ≠ 1)) τ h τ801 h801 := ⟨(aup_trans (aup_refl _) O801.1), O801.2.1, fun k T j hk (hC : (k ≠ 15 ∨ j < 2) ∧ k ≠ 27 ∧ k ≠ 19 ∧ k ≠ 21 ∧ k ≠ 24 ∧ k ≠ 26 ∧ ((k ≠ 18 ∧ k ≠ 20 ∧ k ≠ 23 ∧ k ≠ 25) ∨ j ≠ 1)) => ((O801.2.2 k T j ((aup_refl _) _ _ hk) (show (k ≠ 18 ∧ k ≠ 20) ∨ j ≠ 1 by omega)).trans ((ho790 k j (by omega)).trans ((ho788 k j (by omega)).trans ((ho786 k j (by omega)).trans ((ho784 k j (by omega)).trans (ho781 k j (by omega)))))))⟩
  refine y_cV (i := .invokevirtual 54) (len := 3) (r := (0, 105, 8, 930)) (nL := 1) (k := 0) (n := 1) (hs := []) (args := [.inl (some 22)]) (rest := []) (l0 := [some (.inl (some 22))]) (by decide +kernel) (Or.inr (Or.inl ⟨_, rfl⟩)) rfl rfl rfl rfl (Nat.le_of_ble_eq_true rfl) (zO O801.2.1 (tv22 O801.2.1) aw1001 rfl) rfl (qV_le (by decide) (e_sclr1 O801.2.1 (alC_upA hg al F809))) (fun h809 hR809 => ?_)
  obtain ⟨τ809, O809, rp1, rc1⟩ := hR809
  refine y_same (i := .aload_n 0) (len := 1) (r := (0, 0, 0, 0)) (pc' := 70) (ls' := [some (.inl (some 15)), some (.inl (some 1)), some (zi xn)]) (st' := [.inl (some 15)]) (by decide +kernel) (fun k q => by cases q) rfl ?_
  refine y_same (i := .aload_n 0) (len := 1) (r := (0, 0, 0, 0)) (pc' := 71) (ls' := [some (.inl (some 15)), some (.inl (some 1)), some (zi xn)]) (st' := [.inl (some 15), .inl (some 15)]) (by decide +kernel) (fun k q => by cases q) rfl ?_
  have hv810 := (O809.2.2 15 15 0 (tv15 O801.2.1) (show (15 ≠ 23 ∧ 15 ≠ 25) ∨ 0 ≠ 1 by omega)).trans hv802
  refine y_get (j := 12) (len := 3) (r := (5, 0, 2, 239)) (by decide +kernel) O809.2.1 (tv15 O809.2.1) aw15 rfl rfl hv810 ?_
  have hv811 := (O801.2.2 16 1000 0 (tv16 hg790) (show (16 ≠ 18 ∧ 16 ≠ 20) ∨ 0 ≠ 1 by omega)).trans hv800
  have hv812 := (O809.2.2 16 1000 0 (tv16 O801.2.1) (show (16 ≠ 23 ∧ 16 ≠ 25) ∨ 0 ≠ 1 by omega)).trans hv811
  refine y_get (j := 50) (len := 3) (r := (9, 0, 2, 20198)) (by decide +kernel) O809.2.1 (tv16 O809.2.1) aw1000 rfl rfl hv812 ?_
  have hv814 := (ho784 15 2 (by omega)).trans hs781
  have hv815 := (ho786 15 2 (Or.inr (by omega))).trans hv814
  have hv816 := (ho788 15 2 (Or.inr (by omega))).trans hv815
  have hv817 := (ho790 15 2 (Or.inr (by omega))).trans hv816
  have hv818 := (O801.2.2 15 15 2 (tv15 hg790) (show (15 ≠ 18 ∧ 15 ≠ 20) ∨ 2 ≠ 1 by omega)).trans hv817
  have hv819 := (O809.2.2 15 15 2 (tv15 O801.2.1) (show (15 ≠ 23 ∧ 15 ≠ 25) ∨ 2 ≠ 1 by omega)).trans hv818
  have hv820 := (ho788 15 3 (Or.inr (by omega))).trans hs786
  have hv821 := (ho790 15 3 (Or.inr (by omega))).trans hv820
  have hv822 := (O801.2.2 15 15 3 (tv15 hg790) (show (15 ≠ 18 ∧ 15 ≠ 20) ∨ 3 ≠ 1 by omega)).trans hv821
  have hv823 := (O809.2.2 15 15 3 (tv15 O801.2.1) (show (15 ≠ 23 ∧ 15 ≠ 25) ∨ 3 ≠ 1 by omega)).trans hv822
  have hv824 := (O801.2.2 15 15 5 (tv15 hg790) (show (15 ≠ 18 ∧ 15 ≠ 20) ∨ 5 ≠ 1 by omega)).trans hs790
  have hv825 := (O809.2.2 15 15 5 (tv15 O801.2.1) (show (15 ≠ 23 ∧ 15 ≠ 25) ∨ 5 ≠ 1 by omega)).trans hv824
  have rd0 : rdC h809 n 0 b := by
    refine ⟨⟨_, hv819, by omega⟩, ⟨_, hv823, by omega⟩, fun j hj => ?_, hn2, ⟨_, hv825, by omega⟩⟩
    obtain ⟨x, e1, e2⟩ := hb j hj
    exact ⟨x, ((O809.2.2 27 27 j (tv27 O801.2.1) (show (27 ≠ 23 ∧ 27 ≠ 25) ∨ j ≠ 1 by omega)).trans ((O801.2.2 27 27 j (tv27 hg790) (show (27 ≠ 18 ∧ 27 ≠ 20) ∨ j ≠ 1 by omega)).trans ((ho790 27 j (Or.inl (by omega))).trans ((ho788 27 j (Or.inl (by omega))).trans (ho786 27 j (Or.inl (by omega))))))).trans ((hcp j hj).trans ((ho781 1 j (Or.inl (by omega))).trans e1)), e2⟩
  have G813 : oF (fun k j => (k ≠ 15 ∨ j < 2) ∧ k ≠ 27 ∧ k ≠ 19 ∧ k ≠ 21 ∧ k ≠ 24 ∧ k ≠ 26 ∧ ((k ≠ 18 ∧ k ≠ 20 ∧ k ≠ 23 ∧ k ≠ 25) ∨ j ≠ 1)) τ h τ809 h809 := ⟨(aup_trans (aup_trans (aup_refl _) O801.1) O809.1), O809.2.1, fun k T j hk (hC : (k ≠ 15 ∨ j < 2) ∧ k ≠ 27 ∧ k ≠ 19 ∧ k ≠ 21 ∧ k ≠ 24 ∧ k ≠ 26 ∧ ((k ≠ 18 ∧ k ≠ 20 ∧ k ≠ 23 ∧ k ≠ 25) ∨ j ≠ 1)) => ((O809.2.2 k T j (O801.1 _ _ ((aup_refl _) _ _ hk)) (show (k ≠ 23 ∧ k ≠ 25) ∨ j ≠ 1 by omega)).trans ((O801.2.2 k T j ((aup_refl _) _ _ hk) (show (k ≠ 18 ∧ k ≠ 20) ∨ j ≠ 1 by omega)).trans ((ho790 k j (by omega)).trans ((ho788 k j (by omega)).trans ((ho786 k j (by omega)).trans ((ho784 k j (by omega)).trans (ho781 k j (by omega))))))))⟩
  have p813 := rwC_up rp0 ((O809.2.2 18 1002 1 (tv18 O801.2.1) (show (18 ≠ 23 ∧ 18 ≠ 25) ∨ 1 ≠ 1 by omega))) (fun j => (O809.2.2 19 1005 j (tv19 O801.2.1) (show (19 ≠ 23 ∧ 19 ≠ 25) ∨ j ≠ 1 by omega)))
  have c813 := rwC_up rc0 ((O809.2.2 20 1003 1 (tv20 O801.2.1) (show (20 ≠ 23 ∧ 20 ≠ 25) ∨ 1 ≠ 1 by omega))) (fun j => (O809.2.2 21 1006 j (tv21 O801.2.1) (show (21 ≠ 23 ∧ 21 ≠ 25) ∨ j ≠ 1 by omega)))
  refine y_cI (i := .invokevirtual 62) (len := 3) (r := (0, 47, 5, 938)) (nL := 3) (k := 2) (n := 2) (hs := []) (args := [.inl (some 15), .inl (some 17)]) (rest := []) (l0 := [some (.inl (some 15)), some (.inl (some 17)), none]) (by decide +kernel) (Or.inr (Or.inl ⟨_, rfl⟩)) rfl rfl rfl rfl (Nat.le_of_ble_eq_true rfl) (zO O809.2.1 (tv15 O809.2.1) aw15 rfl) rfl (qI_le (by decide) (e_side0 O809.2.1 (alC_upA hg al G813) rd0 (by omega) p813 c813)) (fun y813 h813 hRy813 => ?_)
  obtain ⟨τ813, O813, hD813⟩ := hRy813
  rcases hD813 with ⟨a813, ps813, cs813, e813, le813, hy813, rd813, wp813, wc813⟩ | ⟨r813, q813, e813, hy813, f813⟩
  ·
    obtain ⟨⟨xn813y, hn813y, en813y⟩, ⟨xa813y, ha813y, ea813y⟩, hb813y, -⟩ := id rd813
    refine y_iF (c := .eq) (off := 37) (len := 3) (r := (0, 0, 0, 0)) (by decide +kernel) (acmpF (c := .eq) (by show ¬ (_ = _); omega)) ?_
    refine y_same (i := .aload_n 0) (len := 1) (r := (0, 0, 0, 0)) (pc' := 84) (ls' := [some (.inl (some 15)), some (.inl (some 1)), some (zi xn)]) (st' := [.inl (some 15)]) (by decide +kernel) (fun k q => by cases q) rfl ?_
    refine y_same (i := .ldc 66) (len := 2) (r := (1, 10, 1054, 0)) (pc' := 86) (ls' := [some (.inl (some 15)), some (.inl (some 1)), some (zi xn)]) (st' := [.inl (some 2000010), .inl (some 15)]) (by decide +kernel) (fun k q => by cases q) rfl ?_
    refine y_cI (i := .invokevirtual 68) (len := 3) (r := (0, 55, 5, 1017)) (nL := 2) (k := 2) (n := 2) (hs := []) (args := [.inl (some 15), .inl (some 2000010)]) (rest := []) (l0 := [some (.inl (some 15)), some (.inl (some 2000010))]) (by decide +kernel) (Or.inr (Or.inl ⟨_, rfl⟩)) rfl rfl rfl rfl (Nat.le_of_ble_eq_true rfl) (zO O813.2.1 (tv15 O813.2.1) aw15 rfl) rfl (qI_le (by decide) (e_need10 O813.2.1 rd813 (by omega))) (fun y826 h826 hRy826 => ?_)
    obtain ⟨τ826, O826, hD826⟩ := hRy826
    rcases hD826 with ⟨a826, e826, le826, hy826, r826⟩ | ⟨e826, hy826, f826⟩
    ·
      obtain ⟨⟨xn826y, hn826y, en826y⟩, ⟨xa826y, ha826y, ea826y⟩, hb826y, -⟩ := id r826
      refine y_iF (c := .eq) (off := 28) (len := 3) (r := (0, 0, 0, 0)) (by decide +kernel) (acmpF (c := .eq) (by show ¬ (_ = _); omega)) ?_
      refine y_same (i := .aload_n 0) (len := 1) (r := (0, 0, 0, 0)) (pc' := 93) (ls' := [some (.inl (some 15)), some (.inl (some 1)), some (zi xn)]) (st' := [.inl (some 15)]) (by decide +kernel) (fun k q => by cases q) rfl ?_
      refine y_same (i := .aload_n 0) (len := 1) (r := (0, 0, 0, 0)) (pc' := 94) (ls' := [some (.inl (some 15)), some (.inl (some 1)), some (zi xn)]) (st' := [.inl (some 15), .inl (some 15)]) (by decide +kernel) (fun k q => by cases q) rfl ?_
      have hv827 := (O813.2.2 15 15 0 (tv15 O809.2.1) (show (15 ≠ 15 ∨ 0 < 3) ∧ 15 ≠ 19 ∧ 15 ≠ 21 ∧ ((15 ≠ 18 ∧ 15 ≠ 20) ∨ 0 ≠ 1) by omega)).trans hv810
      have hv828 := (O826.2.2 15 15 0 (tv15 O813.2.1) (show 15 ≠ 15 ∨ 0 < 3 by omega)).trans hv827
      refine y_get (j := 12) (len := 3) (r := (5, 0, 2, 239)) (by decide +kernel) O826.2.1 (tv15 O826.2.1) aw15 rfl rfl hv828 ?_
      have hv829 := (O809.2.2 16 1000 1 (tv16 O801.2.1) (show (16 ≠ 23 ∧ 16 ≠ 25) ∨ 1 ≠ 1 by omega)).trans hv808
      have hv830 := (O813.2.2 16 1000 1 (tv16 O809.2.1) (show (16 ≠ 15 ∨ 1 < 3) ∧ 16 ≠ 19 ∧ 16 ≠ 21 ∧ ((16 ≠ 18 ∧ 16 ≠ 20) ∨ 1 ≠ 1) by omega)).trans hv829
      have hv831 := (O826.2.2 16 1000 1 (tv16 O813.2.1) (show 16 ≠ 15 ∨ 1 < 3 by omega)).trans hv830
      refine y_get (j := 59) (len := 3) (r := (9, 1, 2, 20203)) (by decide +kernel) O826.2.1 (tv16 O826.2.1) aw1000 rfl rfl hv831 ?_
      have G832 : oF (fun k j => (k ≠ 15 ∨ j < 2) ∧ k ≠ 27 ∧ k ≠ 19 ∧ k ≠ 21 ∧ k ≠ 24 ∧ k ≠ 26 ∧ ((k ≠ 18 ∧ k ≠ 20 ∧ k ≠ 23 ∧ k ≠ 25) ∨ j ≠ 1)) τ h τ826 h826 := ⟨(aup_trans (aup_trans (aup_trans (aup_trans (aup_refl _) O801.1) O809.1) O813.1) O826.1), O826.2.1, fun k T j hk (hC : (k ≠ 15 ∨ j < 2) ∧ k ≠ 27 ∧ k ≠ 19 ∧ k ≠ 21 ∧ k ≠ 24 ∧ k ≠ 26 ∧ ((k ≠ 18 ∧ k ≠ 20 ∧ k ≠ 23 ∧ k ≠ 25) ∨ j ≠ 1)) => ((O826.2.2 k T j (O813.1 _ _ (O809.1 _ _ (O801.1 _ _ ((aup_refl _) _ _ hk)))) (show k ≠ 15 ∨ j < 3 by omega)).trans ((O813.2.2 k T j (O809.1 _ _ (O801.1 _ _ ((aup_refl _) _ _ hk))) (show (k ≠ 15 ∨ j < 3) ∧ k ≠ 19 ∧ k ≠ 21 ∧ ((k ≠ 18 ∧ k ≠ 20) ∨ j ≠ 1) by omega)).trans ((O809.2.2 k T j (O801.1 _ _ ((aup_refl _) _ _ hk)) (show (k ≠ 23 ∧ k ≠ 25) ∨ j ≠ 1 by omega)).trans ((O801.2.2 k T j ((aup_refl _) _ _ hk) (show (k ≠ 18 ∧ k ≠ 20) ∨ j ≠ 1 by omega)).trans ((ho790 k j (by omega)).trans ((ho788 k j (by omega)).trans ((ho786 k j (by omega)).trans ((ho784 k j (by omega)).trans (ho781 k j (by omega))))))))))⟩
      have p832 := rwC_up rp1 (((O826.2.2 23 1002 1 (tv23 O813.2.1) (show 23 ≠ 15 ∨ 1 < 3 by omega)).trans (O813.2.2 23 1002 1 (tv23 O809.2.1) (show (23 ≠ 15 ∨ 1 < 3) ∧ 23 ≠ 19 ∧ 23 ≠ 21 ∧ ((23 ≠ 18 ∧ 23 ≠ 20) ∨ 1 ≠ 1) by omega)))) (fun j => ((O826.2.2 24 1005 j (tv24 O813.2.1) (show 24 ≠ 15 ∨ j < 3 by omega)).trans (O813.2.2 24 1005 j (tv24 O809.2.1) (show (24 ≠ 15 ∨ j < 3) ∧ 24 ≠ 19 ∧ 24 ≠ 21 ∧ ((24 ≠ 18 ∧ 24 ≠ 20) ∨ j ≠ 1) by omega))))
      have c832 := rwC_up rc1 (((O826.2.2 25 1003 1 (tv25 O813.2.1) (show 25 ≠ 15 ∨ 1 < 3 by omega)).trans (O813.2.2 25 1003 1 (tv25 O809.2.1) (show (25 ≠ 15 ∨ 1 < 3) ∧ 25 ≠ 19 ∧ 25 ≠ 21 ∧ ((25 ≠ 18 ∧ 25 ≠ 20) ∨ 1 ≠ 1) by omega)))) (fun j => ((O826.2.2 26 1006 j (tv26 O813.2.1) (show 26 ≠ 15 ∨ j < 3 by omega)).trans (O813.2.2 26 1006 j (tv26 O809.2.1) (show (26 ≠ 15 ∨ j < 3) ∧ 26 ≠ 19 ∧ 26 ≠ 21 ∧ ((26 ≠ 18 ∧ 26 ≠ 20) ∨ j ≠ 1) by omega))))
      refine y_cI (i := .invokevirtual 62) (len := 3) (r := (0, 47, 5, 938)) (nL := 3) (k := 2) (n := 2) (hs := []) (args := [.inl (some 15), .inl (some 22)]) (rest := []) (l0 := [some (.inl (some 15)), some (.inl (some 22)), none]) (by decide +kernel) (Or.inr (Or.inl ⟨_, rfl⟩)) rfl rfl rfl rfl (Nat.le_of_ble_eq_true rfl) (zO O826.2.1 (tv15 O826.2.1) aw15 rfl) rfl (qI_le (by decide) (e_side1 O826.2.1 (alC_upA hg al G832) r826 (by omega) p832 c832)) (fun y832 h832 hRy832 => ?_)
      obtain ⟨τ832, O832, hD832⟩ := hRy832
      rcases hD832 with ⟨a832, ps832, cs832, e832, le832, hy832, rd832, wp832, wc832⟩ | ⟨r832, q832, e832, hy832, f832⟩
      ·
        obtain ⟨⟨xn832y, hn832y, en832y⟩, ⟨xa832y, ha832y, ea832y⟩, hb832y, -⟩ := id rd832
        refine y_iF (c := .eq) (off := 14) (len := 3) (r := (0, 0, 0, 0)) (by decide +kernel) (acmpF (c := .eq) (by show ¬ (_ = _); omega)) ?_
        refine y_same (i := .aload_n 0) (len := 1) (r := (0, 0, 0, 0)) (pc' := 107) (ls' := [some (.inl (some 15)), some (.inl (some 1)), some (zi xn)]) (st' := [.inl (some 15)]) (by decide +kernel) (fun k q => by cases q) rfl ?_
        refine y_cI (i := .invokevirtual 72) (len := 3) (r := (0, 56, 5, 1055)) (nL := 1) (k := 2) (n := 1) (hs := []) (args := [.inl (some 15)]) (rest := []) (l0 := [some (.inl (some 15))]) (by decide +kernel) (Or.inr (Or.inl ⟨_, rfl⟩)) rfl rfl rfl rfl (Nat.le_of_ble_eq_true rfl) (zO O832.2.1 (tv15 O832.2.1) aw15 rfl) rfl (qI_le (by decide) (e_end O832.2.1 rd832 (by omega))) (fun y833 h833 hRy833 => ?_)
        obtain ⟨τ833, O833, hD833⟩ := hRy833
        rcases hD833 with ⟨d833, hy833, rd833⟩ | ⟨d833, hy833, f833⟩
        ·
          have e833 : sk b n a832 = n := d833
          obtain ⟨⟨xn833y, hn833y, en833y⟩, ⟨xa833y, ha833y, ea833y⟩, hb833y, -⟩ := id rd833
          refine y_iF (c := .eq) (off := 7) (len := 3) (r := (0, 0, 0, 0)) (by decide +kernel) (acmpF (c := .eq) (by show ¬ (_ = _); omega)) ?_
          refine y_ic (c := 1) (len := 1) (r := (0, 0, 0, 0)) (by decide +kernel) (by decide) (fun y834 hy834 => ?_)
          refine y_goto (off := 4) (pc' := 118) (len := 3) (r := (0, 0, 0, 0)) (by decide +kernel) (by decide +kernel) ?_
          refine y_rI (len := 1) (r := (0, 0, 0, 0)) (nL := 3) (k := 2) (n9 := 3) (hs := []) (by decide +kernel) rfl (zfit_b (by omega) (by omega)).2 ?_
          have F : oF (fun k j => (k ≠ 15 ∨ j < 2) ∧ k ≠ 27 ∧ k ≠ 19 ∧ k ≠ 21 ∧ k ≠ 24 ∧ k ≠ 26 ∧ ((k ≠ 18 ∧ k ≠ 20 ∧ k ≠ 23 ∧ k ≠ 25) ∨ j ≠ 1)) τ h τ833 h833 := ⟨(aup_trans (aup_trans (aup_trans (aup_trans (aup_trans (aup_trans (aup_refl _) O801.1) O809.1) O813.1) O826.1) O832.1) O833.1), O833.2.1, fun k T j hk (hC : (k ≠ 15 ∨ j < 2) ∧ k ≠ 27 ∧ k ≠ 19 ∧ k ≠ 21 ∧ k ≠ 24 ∧ k ≠ 26 ∧ ((k ≠ 18 ∧ k ≠ 20 ∧ k ≠ 23 ∧ k ≠ 25) ∨ j ≠ 1)) => ((O833.2.2 k T j (O832.1 _ _ (O826.1 _ _ (O813.1 _ _ (O809.1 _ _ (O801.1 _ _ ((aup_refl _) _ _ hk)))))) (show k ≠ 15 ∨ j < 3 by omega)).trans ((O832.2.2 k T j (O826.1 _ _ (O813.1 _ _ (O809.1 _ _ (O801.1 _ _ ((aup_refl _) _ _ hk))))) (show (k ≠ 15 ∨ j < 3) ∧ k ≠ 24 ∧ k ≠ 26 ∧ ((k ≠ 23 ∧ k ≠ 25) ∨ j ≠ 1) by omega)).trans ((O826.2.2 k T j (O813.1 _ _ (O809.1 _ _ (O801.1 _ _ ((aup_refl _) _ _ hk)))) (show k ≠ 15 ∨ j < 3 by omega)).trans ((O813.2.2 k T j (O809.1 _ _ (O801.1 _ _ ((aup_refl _) _ _ hk))) (show (k ≠ 15 ∨ j < 3) ∧ k ≠ 19 ∧ k ≠ 21 ∧ ((k ≠ 18 ∧ k ≠ 20) ∨ j ≠ 1) by omega)).trans ((O809.2.2 k T j (O801.1 _ _ ((aup_refl _) _ _ hk)) (show (k ≠ 23 ∧ k ≠ 25) ∨ j ≠ 1 by omega)).trans ((O801.2.2 k T j ((aup_refl _) _ _ hk) (show (k ≠ 18 ∧ k ≠ 20) ∨ j ≠ 1 by omega)).trans ((ho790 k j (by omega)).trans ((ho788 k j (by omega)).trans ((ho786 k j (by omega)).trans ((ho784 k j (by omega)).trans (ho781 k j (by omega))))))))))))⟩
          have ew : wAll b n = .inr ((ps813, cs813), (ps832, cs832)) := by
            unfold wAll
            simp only [e813, e826, e832]
            exact if_pos d833
          obtain ⟨-, -, -, -, w9, v9, u9⟩ := rd833
          exact ⟨_, F, Or.inl ⟨_, _, _, _, ew, by omega, ⟨w9, rfl.trans v9, u9⟩, rwC_up wp813 (((O833.2.2 18 1002 1 (tv18 O832.2.1) (show 18 ≠ 15 ∨ 1 < 3 by omega)).trans ((O832.2.2 18 1002 1 (tv18 O826.2.1) (show (18 ≠ 15 ∨ 1 < 3) ∧ 18 ≠ 24 ∧ 18 ≠ 26 ∧ ((18 ≠ 23 ∧ 18 ≠ 25) ∨ 1 ≠ 1) by omega)).trans (O826.2.2 18 1002 1 (tv18 O813.2.1) (show 18 ≠ 15 ∨ 1 < 3 by omega))))) (fun j => ((O833.2.2 19 1005 j (tv19 O832.2.1) (show 19 ≠ 15 ∨ j < 3 by omega)).trans ((O832.2.2 19 1005 j (tv19 O826.2.1) (show (19 ≠ 15 ∨ j < 3) ∧ 19 ≠ 24 ∧ 19 ≠ 26 ∧ ((19 ≠ 23 ∧ 19 ≠ 25) ∨ j ≠ 1) by omega)).trans (O826.2.2 19 1005 j (tv19 O813.2.1) (show 19 ≠ 15 ∨ j < 3 by omega))))), rwC_up wc813 (((O833.2.2 20 1003 1 (tv20 O832.2.1) (show 20 ≠ 15 ∨ 1 < 3 by omega)).trans ((O832.2.2 20 1003 1 (tv20 O826.2.1) (show (20 ≠ 15 ∨ 1 < 3) ∧ 20 ≠ 24 ∧ 20 ≠ 26 ∧ ((20 ≠ 23 ∧ 20 ≠ 25) ∨ 1 ≠ 1) by omega)).trans (O826.2.2 20 1003 1 (tv20 O813.2.1) (show 20 ≠ 15 ∨ 1 < 3 by omega))))) (fun j => ((O833.2.2 21 1006 j (tv21 O832.2.1) (show 21 ≠ 15 ∨ j < 3 by omega)).trans ((O832.2.2 21 1006 j (tv21 O826.2.1) (show (21 ≠ 15 ∨ j < 3) ∧ 21 ≠ 24 ∧ 21 ≠ 26 ∧ ((21 ≠ 23 ∧ 21 ≠ 25) ∨ j ≠ 1) by omega)).trans (O826.2.2 21 1006 j (tv21 O813.2.1) (show 21 ≠ 15 ∨ j < 3 by omega))))), rwC_up wp832 ((O833.2.2 23 1002 1 (tv23 O832.2.1) (show 23 ≠ 15 ∨ 1 < 3 by omega))) (fun j => (O833.2.2 24 1005 j (tv24 O832.2.1) (show 24 ≠ 15 ∨ j < 3 by omega))), rwC_up wc832 ((O833.2.2 25 1003 1 (tv25 O832.2.1) (show 25 ≠ 15 ∨ 1 < 3 by omega))) (fun j => (O833.2.2 26 1006 j (tv26 O832.2.1) (show 26 ≠ 15 ∨ j < 3 by omega)))⟩⟩
        ·
          refine y_iT (c := .eq) (off := 7) (pc' := 117) (len := 3) (r := (0, 0, 0, 0)) (by decide +kernel) (acmpT (c := .eq) (by show _ = _; omega)) (by decide +kernel) ?_
          refine y_ic (c := 0) (len := 1) (r := (0, 0, 0, 0)) (by decide +kernel) (by decide) (fun y835 hy835 => ?_)
          refine y_rI (len := 1) (r := (0, 0, 0, 0)) (nL := 3) (k := 2) (n9 := 3) (hs := []) (by decide +kernel) rfl (zfit_b (by omega) (by omega)).2 ?_
          have F : oF (fun k j => (k ≠ 15 ∨ j < 2) ∧ k ≠ 27 ∧ k ≠ 19 ∧ k ≠ 21 ∧ k ≠ 24 ∧ k ≠ 26 ∧ ((k ≠ 18 ∧ k ≠ 20 ∧ k ≠ 23 ∧ k ≠ 25) ∨ j ≠ 1)) τ h τ833 h833 := ⟨(aup_trans (aup_trans (aup_trans (aup_trans (aup_trans (aup_trans (aup_refl _) O801.1) O809.1) O813.1) O826.1) O832.1) O833.1), O833.2.1, fun k T j hk (hC : (k ≠ 15 ∨ j < 2) ∧ k ≠ 27 ∧ k ≠ 19 ∧ k ≠ 21 ∧ k ≠ 24 ∧ k ≠ 26 ∧ ((k ≠ 18 ∧ k ≠ 20 ∧ k ≠ 23 ∧ k ≠ 25) ∨ j ≠ 1)) => ((O833.2.2 k T j (O832.1 _ _ (O826.1 _ _ (O813.1 _ _ (O809.1 _ _ (O801.1 _ _ ((aup_refl _) _ _ hk)))))) (show k ≠ 15 ∨ j < 3 by omega)).trans ((O832.2.2 k T j (O826.1 _ _ (O813.1 _ _ (O809.1 _ _ (O801.1 _ _ ((aup_refl _) _ _ hk))))) (show (k ≠ 15 ∨ j < 3) ∧ k ≠ 24 ∧ k ≠ 26 ∧ ((k ≠ 23 ∧ k ≠ 25) ∨ j ≠ 1) by omega)).trans ((O826.2.2 k T j (O813.1 _ _ (O809.1 _ _ (O801.1 _ _ ((aup_refl _) _ _ hk)))) (show k ≠ 15 ∨ j < 3 by omega)).trans ((O813.2.2 k T j (O809.1 _ _ (O801.1 _ _ ((aup_refl _) _ _ hk))) (show (k ≠ 15 ∨ j < 3) ∧ k ≠ 19 ∧ k ≠ 21 ∧ ((k ≠ 18 ∧ k ≠ 20) ∨ j ≠ 1) by omega)).trans ((O809.2.2 k T j (O801.1 _ _ ((aup_refl _) _ _ hk)) (show (k ≠ 23 ∧ k ≠ 25) ∨ j ≠ 1 by omega)).trans ((O801.2.2 k T j ((aup_refl _) _ _ hk) (show (k ≠ 18 ∧ k ≠ 20) ∨ j ≠ 1 by omega)).trans ((ho790 k j (by omega)).trans ((ho788 k j (by omega)).trans ((ho786 k j (by omega)).trans ((ho784 k j (by omega)).trans (ho781 k j (by omega))))))))))))⟩
          exact ⟨_, F, Or.inr ⟨_, _, (by unfold wAll; simp only [e813, e826, e832]; exact if_neg d833), by omega, f833⟩⟩
      ·
        refine y_iT (c := .eq) (off := 14) (pc' := 117) (len := 3) (r := (0, 0, 0, 0)) (by decide +kernel) (acmpT (c := .eq) (by show _ = _; omega)) (by decide +kernel) ?_
        refine y_ic (c := 0) (len := 1) (r := (0, 0, 0, 0)) (by decide +kernel) (by decide) (fun y836 hy836 => ?_)
        refine y_rI (len := 1) (r := (0, 0, 0, 0)) (nL := 3) (k := 2) (n9 := 3) (hs := []) (by decide +kernel) rfl (zfit_b (by omega) (by omega)).2 ?_
        have F : oF (fun k j => (k ≠ 15 ∨ j < 2) ∧ k ≠ 27 ∧ k ≠ 19 ∧ k ≠ 21 ∧ k ≠ 24 ∧ k ≠ 26 ∧ ((k ≠ 18 ∧ k ≠ 20 ∧ k ≠ 23 ∧ k ≠ 25) ∨ j ≠ 1)) τ h τ832 h832 := ⟨(aup_trans (aup_trans (aup_trans (aup_trans (aup_trans (aup_refl _) O801.1) O809.1) O813.1) O826.1) O832.1), O832.2.1, fun k T j hk (hC : (k ≠ 15 ∨ j < 2) ∧ k ≠ 27 ∧ k ≠ 19 ∧ k ≠ 21 ∧ k ≠ 24 ∧ k ≠ 26 ∧ ((k ≠ 18 ∧ k ≠ 20 ∧ k ≠ 23 ∧ k ≠ 25) ∨ j ≠ 1)) => ((O832.2.2 k T j (O826.1 _ _ (O813.1 _ _ (O809.1 _ _ (O801.1 _ _ ((aup_refl _) _ _ hk))))) (show (k ≠ 15 ∨ j < 3) ∧ k ≠ 24 ∧ k ≠ 26 ∧ ((k ≠ 23 ∧ k ≠ 25) ∨ j ≠ 1) by omega)).trans ((O826.2.2 k T j (O813.1 _ _ (O809.1 _ _ (O801.1 _ _ ((aup_refl _) _ _ hk)))) (show k ≠ 15 ∨ j < 3 by omega)).trans ((O813.2.2 k T j (O809.1 _ _ (O801.1 _ _ ((aup_refl _) _ _ hk))) (show (k ≠ 15 ∨ j < 3) ∧ k ≠ 19 ∧ k ≠ 21 ∧ ((k ≠ 18 ∧ k ≠ 20) ∨ j ≠ 1) by omega)).trans ((O809.2.2 k T j (O801.1 _ _ ((aup_refl _) _ _ hk)) (show (k ≠ 23 ∧ k ≠ 25) ∨ j ≠ 1 by omega)).trans ((O801.2.2 k T j ((aup_refl _) _ _ hk) (show (k ≠ 18 ∧ k ≠ 20) ∨ j ≠ 1 by omega)).trans ((ho790 k j (by omega)).trans ((ho788 k j (by omega)).trans ((ho786 k j (by omega)).trans ((ho784 k j (by omega)).trans (ho781 k j (by omega)))))))))))⟩
        exact ⟨_, F, Or.inr ⟨_, _, (by unfold wAll; simp only [e813, e826, e832]), by omega, f832⟩⟩
    ·
      refine y_iT (c := .eq) (off := 28) (pc' := 117) (len := 3) (r := (0, 0, 0, 0)) (by decide +kernel) (acmpT (c := .eq) (by show _ = _; omega)) (by decide +kernel) ?_
      refine y_ic (c := 0) (len := 1) (r := (0, 0, 0, 0)) (by decide +kernel) (by decide) (fun y837 hy837 => ?_)
      refine y_rI (len := 1) (r := (0, 0, 0, 0)) (nL := 3) (k := 2) (n9 := 3) (hs := []) (by decide +kernel) rfl (zfit_b (by omega) (by omega)).2 ?_
      have F : oF (fun k j => (k ≠ 15 ∨ j < 2) ∧ k ≠ 27 ∧ k ≠ 19 ∧ k ≠ 21 ∧ k ≠ 24 ∧ k ≠ 26 ∧ ((k ≠ 18 ∧ k ≠ 20 ∧ k ≠ 23 ∧ k ≠ 25) ∨ j ≠ 1)) τ h τ826 h826 := ⟨(aup_trans (aup_trans (aup_trans (aup_trans (aup_refl _) O801.1) O809.1) O813.1) O826.1), O826.2.1, fun k T j hk (hC : (k ≠ 15 ∨ j < 2) ∧ k ≠ 27 ∧ k ≠ 19 ∧ k ≠ 21 ∧ k ≠ 24 ∧ k ≠ 26 ∧ ((k ≠ 18 ∧ k ≠ 20 ∧ k ≠ 23 ∧ k ≠ 25) ∨ j ≠ 1)) => ((O826.2.2 k T j (O813.1 _ _ (O809.1 _ _ (O801.1 _ _ ((aup_refl _) _ _ hk)))) (show k ≠ 15 ∨ j < 3 by omega)).trans ((O813.2.2 k T j (O809.1 _ _ (O801.1 _ _ ((aup_refl _) _ _ hk))) (show (k ≠ 15 ∨ j < 3) ∧ k ≠ 19 ∧ k ≠ 21 ∧ ((k ≠ 18 ∧ k ≠ 20) ∨ j ≠ 1) by omega)).trans ((O809.2.2 k T j (O801.1 _ _ ((aup_refl _) _ _ hk)) (show (k ≠ 23 ∧ k ≠ 25) ∨ j ≠ 1 by omega)).trans ((O801.2.2 k T j ((aup_refl _) _ _ hk) (show (k ≠ 18 ∧ k ≠ 20) ∨ j ≠ 1 by omega)).trans ((ho790 k j (by omega)).trans ((ho788 k j (by omega)).trans ((ho786 k j (by omega)).trans ((ho784 k j (by omega)).trans (ho781 k j (by omega))))))))))⟩
      exact ⟨_, F, Or.inr ⟨_, _, (by unfold wAll; simp only [e813, e826]), by omega, f826⟩⟩
  ·
    refine y_iT (c := .eq) (off := 37) (pc' := 117) (len := 3) (r := (0, 0, 0, 0)) (by decide +kernel) (acmpT (c := .eq) (by show _ = _; omega)) (by decide +kernel) ?_
    refine y_ic (c := 0) (len := 1) (r := (0, 0, 0, 0)) (by decide +kernel) (by decide) (fun y838 hy838 => ?_)
    refine y_rI (len := 1) (r := (0, 0, 0, 0)) (nL := 3) (k := 2) (n9 := 3) (hs := []) (by decide +kernel) rfl (zfit_b (by omega) (by omega)).2 ?_
    have F : oF (fun k j => (k ≠ 15 ∨ j < 2) ∧ k ≠ 27 ∧ k ≠ 19 ∧ k ≠ 21 ∧ k ≠ 24 ∧ k ≠ 26 ∧ ((k ≠ 18 ∧ k ≠ 20 ∧ k ≠ 23 ∧ k ≠ 25) ∨ j ≠ 1)) τ h τ813 h813 := ⟨(aup_trans (aup_trans (aup_trans (aup_refl _) O801.1) O809.1) O813.1), O813.2.1, fun k T j hk (hC : (k ≠ 15 ∨ j < 2) ∧ k ≠ 27 ∧ k ≠ 19 ∧ k ≠ 21 ∧ k ≠ 24 ∧ k ≠ 26 ∧ ((k ≠ 18 ∧ k ≠ 20 ∧ k ≠ 23 ∧ k ≠ 25) ∨ j ≠ 1)) => ((O813.2.2 k T j (O809.1 _ _ (O801.1 _ _ ((aup_refl _) _ _ hk))) (show (k ≠ 15 ∨ j < 3) ∧ k ≠ 19 ∧ k ≠ 21 ∧ ((k ≠ 18 ∧ k ≠ 20) ∨ j ≠ 1) by omega)).trans ((O809.2.2 k T j (O801.1 _ _ ((aup_refl _) _ _ hk)) (show (k ≠ 23 ∧ k ≠ 25) ∨ j ≠ 1 by omega)).trans ((O801.2.2 k T j ((aup_refl _) _ _ hk) (show (k ≠ 18 ∧ k ≠ 20) ∨ j ≠ 1 by omega)).trans ((ho790 k j (by omega)).trans ((ho788 k j (by omega)).trans ((ho786 k j (by omega)).trans ((ho784 k j (by omega)).trans (ho781 k j (by omega)))))))))⟩
    exact ⟨_, F, Or.inr ⟨_, _, (by unfold wAll; simp only [e813]), by omega, f813⟩⟩
