/-! the class's prover: all is judged -/
/-- the sequents of the other prover: none of them is in this one's row, and they are as they were -/
def zI (Z : Nat → Prop) (τ : List Nat) (h0 h : zh) (A : Nat) : Prop := ∀ b, Z b → 388 < b ∧ tyQ τ b ∧ (∀ k, k < 300 → ¬ rfs h A k b) ∧ ∀ k j, b ≤ k → k < b + 9 → hsl h k j = hsl h0 k j
theorem zI_fr {Z : Nat → Prop} {τ : List Nat} {h0 h h1 : zh} {A : Nat} (z : zI Z τ h0 h A) (F : ∀ k j, (k = A ∨ 388 < k) → hsl h1 k j = hsl h k j) : zI Z τ h0 h1 A := fun b hb => by
  obtain ⟨z1, z2, z3, z4⟩ := z b hb
  exact ⟨z1, z2, fun k hk r => z3 k hk (rfs_up r (F A k (Or.inl rfl)).symm), fun k j h1 h2 => (F k j (Or.inr (by omega))).trans (z4 k j h1 h2)⟩
theorem zI_s {Z : Nat → Prop} {τ τ1 : List Nat} {h0 h h1 : zh} {A a n : Nat} (z : zI Z τ h0 h A) (g : hG τ h) (u : aup τ τ1) (hA : A ≤ 388) (F : ∀ k j, k < h.length → (k ≠ A ∨ j ≠ n) → hsl h1 k j = hsl h k j) (ra : rfs h1 A n a) (nw : rfs h A n a ∨ a = h.length) : zI Z τ1 h0 h1 A := fun b hb => by
  obtain ⟨z1, z2, z3, z4⟩ := z b hb
  have lt := ty_lt g z2.2.2.2.2.2.2.2.2
  refine ⟨z1, tyQ_up u z2, fun k hk r => ?_, fun k j h1 h2 => (F k j (by omega) (by omega)).trans (z4 k j h1 h2)⟩
  by_cases q : k = n
  · subst q
    have e := rfs_eq r ra
    subst e
    rcases nw with nw | nw
    · exact z3 _ hk nw
    · omega
  · exact z3 k hk (rfs_up r (F A k (by omega) (Or.inr q)).symm)
theorem zI_a {Z : Nat → Prop} {τ : List Nat} {h0 h h1 : zh} {A a n : Nat} (z : zI Z τ h0 h A) (ta : tyQ τ a) (hn : n < 300) (ra : rfs h A n a) (hA : A < a) (F : ∀ k j, (k < a ∨ a + 9 ≤ k) → (k = A ∨ 388 < k) → hsl h1 k j = hsl h k j) : zI Z τ h0 h1 A := fun b hb => by
  obtain ⟨z1, z2, z3, z4⟩ := z b hb
  have ne : b ≠ a := fun e => by
    subst e
    exact z3 n hn ra
  have d := dis_Q z2 ta ne
  exact ⟨z1, z2, fun k hk r => z3 k hk (rfs_up r (F A k (Or.inl hA) (Or.inl rfl)).symm), fun k j h1 h2 => (F k j (by omega) (Or.inr (by omega))).trans (z4 k j h1 h2)⟩
def prJ (Z : Nat → Prop) (h0 : zh) (τ : List Nat) (h : zh) (P : Nat) (lv : Int) (L : List enT) (W : List Nat) : Prop := prI τ h P lv L W ∧ zI Z τ h0 h (P + 1) ∧ chI L
def jdZ (Z : Nat → Prop) (h0 : zh) (τ : List Nat) (h : zh) (P : Nat) (R : List enT × Nat) : Prop := jdO τ h P R ∧ zI Z τ h0 h (P + 1)
theorem e_slx35 {d t k : Nat} {τ : List Nat} {h : zh} {xk : Int32} (hg : hG τ h) (cm : cmI h 36) (exk : xk.toInt = (k : Int)) (hk : k < 300) : ∃ a, (rfs h 36 k a ∨ a = h.length) ∧ qA (d + 4) 33 [some (.inl (some 35)), some (zi xk), none] h t a (fun h1 => ∃ τ1, aup τ τ1 ∧ hG τ1 h1 ∧ cmI h1 36 ∧ rfs h1 36 k a ∧ LQ τ1 h1 a ∧ 388 < a ∧ ∀ k' j, k' < h.length → (k' ≠ 36 ∨ j ≠ k) → hsl h1 k' j = hsl h k' j) := by
  obtain ⟨a, q⟩ := e_slot35 (d := d) (t := t) hg cm exk hk
  refine ⟨a, ?_, q⟩
  obtain ⟨h1, e1, -⟩ := q
  rcases cm.1 k hk with rz | ⟨b, rb, -⟩
  · obtain ⟨h2, e2, -⟩ := e_slz35 (d := d) (t := t) hg exk hk rz
    cases qE_det e1 e2
    exact Or.inr rfl
  · obtain ⟨h2, e2, -⟩ := qA_le (d' := d + 4) (by omega) (e_slo35 (d := d) (t := t) hg exk hk rb)
    cases qE_det e1 e2
    exact Or.inl rb
theorem e_brh35 {Z : Nat → Prop} {h0 : zh} {cy : cyT} {d t i : Nat} {τ : List Nat} {h : zh} {L : List enT} {W : List Nat} {e : enT} {w : Bool} {xf xw : Int32} (I : prI τ h 35 1 L W) (zj : zI Z τ h0 h 36) (ke : L[i]? = some e) (wf : wfE e) (h3 : 3 ≤ e.2.1) (h8 : e.2.1 ≤ 8) (exf : xf.toInt = (i : Int)) (ew0 : xw.toInt = if w = true then 1 else 0) (hlen : L.length ≤ 300) (hW : xw.toInt = 0 → W.length < 40) : qI (d + 8) 41 [some (.inl (some 35)), some (zi xf), some (zi xw), none, none] h t (fun y h1 => ∃ τ1, aup τ τ1 ∧ ∃ W', prI τ1 h1 35 1 L W' ∧ hsl h1 35 8 = hsl h 35 8 ∧ zI Z τ1 h0 h1 36 ∧ ((y.toInt = 1 ∧ W' = (if w = false ∧ (e.2.1 = 6 ∨ e.2.1 = 7) then W ++ [i] else W) ∧ ∃ a s', rfs h1 36 L.length a ∧ 388 < a ∧ QC τ1 h1 a s' ∧ ¬ big_ s' ∧ nxF e.1 e.2.1 (gp_ e) (gq_ e) e.2.2.1 e.2.2.2.1 w = some s' ∧ L.length < 300 ∧ e.2.2.2.2.1 < 40) ∨ (y.toInt = 0 ∧ brF cy true L i w = none))) := by
  obtain ⟨hg, cm, ml, ⟨xn, hn, en⟩, c7, cw, cd, gr, pE⟩ := I
  have hi9 := (List.getElem?_eq_some_iff.mp ke).1
  obtain ⟨oq, nb, kip, kiq, k79⟩ := wf_it wf h3 h8
  obtain ⟨b, rb, hb, lb, c4, c6, c5, qb, c8, c9⟩ := pE i e ke
  have Qb := qb (by omega)
  obtain ⟨row, erow⟩ : ∃ row, e.2.2.2.2.1 = row := ⟨_, rfl⟩
  obtain ⟨xr, hrw, er⟩ := c6
  refine qI_of ?_
  refine y_same (i := .aload_n 0) (len := 1) (r := (0, 0, 0, 0)) (pc' := 1) (ls' := [some (.inl (some 35)), some (zi xf), some (zi xw), none, none]) (st' := [.inl (some 35)]) (by decide +kernel) (fun k q => by cases q) rfl ?_
  refine y_same (i := .iload_n 1) (len := 1) (r := (0, 0, 0, 0)) (pc' := 2) (ls' := [some (.inl (some 35)), some (zi xf), some (zi xw), none, none]) (st' := [zi xf, .inl (some 35)]) (by decide +kernel) (fun k q => by cases q) rfl ?_
  refine y_cA (i := .invokevirtual 67) (len := 3) (r := (0, 33, 4, 505)) (nL := 3) (k := 3) (n := 2) (hs := []) (args := [.inl (some 35), zi xf]) (rest := []) (l0 := [some (.inl (some 35)), some (zi xf), none]) (by decide +kernel) (Or.inr (Or.inl ⟨_, rfl⟩)) rfl rfl rfl rfl (Nat.le_of_ble_eq_true rfl) (zO Qb.1 (tv35 Qb.1) aw35 rfl) rfl (qA_le (by omega) (e_slo35 (d := 0) (k := i) Qb.1 (by omega) (by omega) (rb))) (fun h2940 hR2940 => ?_)
  obtain rfl := hR2940
  refine y_same (i := .astore_n 3) (len := 1) (r := (0, 0, 0, 0)) (pc' := 6) (ls' := [some (.inl (some 35)), some (zi xf), some (zi xw), some (.inl (some b)), none]) (st' := []) (by decide +kernel) (fun k q => by cases q) rfl ?_
  refine y_same (i := .aload_n 0) (len := 1) (r := (0, 0, 0, 0)) (pc' := 7) (ls' := [some (.inl (some 35)), some (zi xf), some (zi xw), some (.inl (some b)), none]) (st' := [.inl (some 35)]) (by decide +kernel) (fun k q => by cases q) rfl ?_
  refine y_get (j := 35) (len := 3) (r := (4, 6, 0, 289)) (by decide +kernel) Qb.1 (tv35 Qb.1) aw35 rfl rfl hn ?_
  refine y_si (c := 300) (len := 3) (r := (0, 0, 0, 0)) (by decide +kernel) (by decide) (fun y2941 hy2941 => ?_)
  rcases Decidable.em (xn.toInt ≥ y2941.toInt) with q2942 | q2942
  ·
    refine y_cT (c := .ge) (off := 12) (pc' := 25) (len := 3) (r := (0, 0, 0, 0)) (by decide +kernel) (acmpT (c := .ge) (by show _ ≤ _; omega)) (by decide +kernel) ?_
    refine y_ic (c := 0) (len := 1) (r := (0, 0, 0, 0)) (by decide +kernel) (by decide) (fun y2943 hy2943 => ?_)
    refine y_rI (len := 1) (r := (0, 0, 0, 0)) (nL := 5) (k := 2) (n9 := 3) (hs := []) (by decide +kernel) rfl (zfit_b (by omega) (by omega)).2 ?_
    exact ⟨τ, aup_refl _, W, ⟨Qb.1, cm, ml, ⟨_, hn, by omega⟩, c7, cw, cd, gr, pE⟩, rfl, zj, Or.inr ⟨by omega, br_none1 ke (by omega)⟩⟩
  ·
    refine y_cF (c := .ge) (off := 12) (len := 3) (r := (0, 0, 0, 0)) (by decide +kernel) (acmpF (c := .ge) (by show _ < _; omega)) ?_
    refine y_same (i := .aload_n 3) (len := 1) (r := (0, 0, 0, 0)) (pc' := 17) (ls' := [some (.inl (some 35)), some (zi xf), some (zi xw), some (.inl (some b)), none]) (st' := [.inl (some b)]) (by decide +kernel) (fun k q => by cases q) rfl ?_
    refine y_get (j := 110) (len := 3) (r := (7, 6, 0, 20549)) (by decide +kernel) Qb.1 Qb.2.1.1 aw1008 rfl rfl hrw ?_
    refine y_bi (c := 40) (len := 2) (r := (0, 0, 0, 0)) (by decide +kernel) (by decide) (fun y2944 hy2944 => ?_)
    rcases Decidable.em (xr.toInt < y2944.toInt) with q2945 | q2945
    ·
      refine y_cT (c := .lt) (off := 5) (pc' := 27) (len := 3) (r := (0, 0, 0, 0)) (by decide +kernel) (acmpT (c := .lt) (by show _ < _; omega)) (by decide +kernel) ?_
      refine y_same (i := .iload_n 2) (len := 1) (r := (0, 0, 0, 0)) (pc' := 28) (ls' := [some (.inl (some 35)), some (zi xf), some (zi xw), some (.inl (some b)), none]) (st' := [zi xw]) (by decide +kernel) (fun k q => by cases q) rfl ?_
      rcases Decidable.em (xw.toInt ≠ 0) with q2946 | q2946
      ·
        refine y_iT (c := .ne) (off := 15) (pc' := 43) (len := 3) (r := (0, 0, 0, 0)) (by decide +kernel) (acmpT (c := .ne) (by show ¬ (_ = _); omega)) (by decide +kernel) ?_
        refine y_same (i := .aload_n 0) (len := 1) (r := (0, 0, 0, 0)) (pc' := 44) (ls' := [some (.inl (some 35)), some (zi xf), some (zi xw), some (.inl (some b)), none]) (st' := [.inl (some 35)]) (by decide +kernel) (fun k q => by cases q) rfl ?_
        refine y_same (i := .aload_n 0) (len := 1) (r := (0, 0, 0, 0)) (pc' := 45) (ls' := [some (.inl (some 35)), some (zi xf), some (zi xw), some (.inl (some b)), none]) (st' := [.inl (some 35), .inl (some 35)]) (by decide +kernel) (fun k q => by cases q) rfl ?_
        refine y_get (j := 35) (len := 3) (r := (4, 6, 0, 289)) (by decide +kernel) Qb.1 (tv35 Qb.1) aw35 rfl rfl hn ?_
        have cm2947 := cm
        have hL2947 := len_389 Qb.1
        have lb2947 := ty_lt Qb.1 Qb.2.1.2.2.2.2.2.2.2.2
        obtain ⟨a, nw2947, hS2947⟩ := e_slx35 (d := 0) (t := t) (k := L.length) (xk := xn) Qb.1 cm2947 (by omega) (by omega)
        refine y_cA (i := .invokevirtual 67) (len := 3) (r := (0, 33, 4, 505)) (nL := 3) (k := 3) (n := 2) (hs := []) (args := [.inl (some 35), zi xn]) (rest := []) (l0 := [some (.inl (some 35)), some (zi xn), none]) (by decide +kernel) (Or.inr (Or.inl ⟨_, rfl⟩)) rfl rfl rfl rfl (Nat.le_of_ble_eq_true rfl) (zO Qb.1 (tv35 Qb.1) aw35 rfl) rfl (qA_le (by omega) hS2947) (fun h2947 hR2947 => ?_)
        obtain ⟨τ1, u1, hg2947, cm1, ra1, La, ha1, F2947⟩ := hR2947
        have Q2947 := QC_tu Qb u1 hg2947 (fun k j _ _ _ => F2947 k j (by omega) (by omega))
        have nab : a ≠ b := fun e9 => by
          subst e9
          have e8 := cm1.2 i L.length _ (by omega) (by omega) ((F2947 36 i (by omega) (by omega)).trans rb) ra1
          omega
        have dab := dis_Q La.2.1 Q2947.2.1 nab
        refine y_same (i := .astore 4) (len := 2) (r := (0, 0, 0, 0)) (pc' := 53) (ls' := [some (.inl (some 35)), some (zi xf), some (zi xw), some (.inl (some b)), some (.inl (some a))]) (st' := []) (by decide +kernel) (fun k q => by cases q) rfl ?_
        refine y_same (i := .aload 4) (len := 2) (r := (0, 0, 0, 0)) (pc' := 55) (ls' := [some (.inl (some 35)), some (zi xf), some (zi xw), some (.inl (some b)), some (.inl (some a))]) (st' := [.inl (some a)]) (by decide +kernel) (fun k q => by cases q) rfl ?_
        refine y_same (i := .aload_n 3) (len := 1) (r := (0, 0, 0, 0)) (pc' := 56) (ls' := [some (.inl (some 35)), some (zi xf), some (zi xw), some (.inl (some b)), some (.inl (some a))]) (st' := [.inl (some b), .inl (some a)]) (by decide +kernel) (fun k q => by cases q) rfl ?_
        refine y_same (i := .iload_n 2) (len := 1) (r := (0, 0, 0, 0)) (pc' := 57) (ls' := [some (.inl (some 35)), some (zi xf), some (zi xw), some (.inl (some b)), some (.inl (some a))]) (st' := [zi xw, .inl (some b), .inl (some a)]) (by decide +kernel) (fun k q => by cases q) rfl ?_
        refine y_cI (i := .invokevirtual 120) (len := 3) (r := (0, 98, 7, 779)) (nL := 5) (k := 2) (n := 3) (hs := []) (args := [.inl (some a), .inl (some b), zi xw]) (rest := []) (l0 := [some (.inl (some a)), some (.inl (some b)), some (zi xw), none, none]) (by decide +kernel) (Or.inr (Or.inl ⟨_, rfl⟩)) rfl rfl rfl rfl (Nat.le_of_ble_eq_true rfl) (zO hg2947 La.2.1.1 aw1008 rfl) rfl (qI_le (by omega) (q_fol (d := 0) (w := w) La Q2947 dab nb (ci_up c4 ((F2947 b 4 (by omega) (by omega)))) (ci_up (c8 h3 h8) ((F2947 b 8 (by omega) (by omega)))) (fun q => ci_up (c9 h3 q) ((F2947 b 9 (by omega) (by omega)))) ⟨h3, h8⟩ kip kiq k79 ew0)) (fun y2948 h2948 hRy2948 => ?_)
        rcases hRy2948 with ⟨v2948, s9, n2948, Q2948, F2948⟩ | ⟨v2948, n2948, s9, Q2948, F2948⟩
        ·
          have Q2948_b := QC_fr Q2947 Q2948.1 F2948 (by omega)
          refine y_iF (c := .eq) (off := 15) (len := 3) (r := (0, 0, 0, 0)) (by decide +kernel) (acmpF (c := .eq) (by show ¬ (_ = _); omega)) ?_
          refine y_same (i := .aload 4) (len := 2) (r := (0, 0, 0, 0)) (pc' := 65) (ls' := [some (.inl (some 35)), some (zi xf), some (zi xw), some (.inl (some b)), some (.inl (some a))]) (st' := [.inl (some a)]) (by decide +kernel) (fun k q => by cases q) rfl ?_
          refine y_cI (i := .invokevirtual 124) (len := 3) (r := (0, 81, 7, 823)) (nL := 1) (k := 2) (n := 1) (hs := []) (args := [.inl (some a)]) (rest := []) (l0 := [some (.inl (some a))]) (by decide +kernel) (Or.inr (Or.inl ⟨_, rfl⟩)) rfl rfl rfl rfl (Nat.le_of_ble_eq_true rfl) (zO Q2948.1 Q2948.2.1.1 aw1008 rfl) rfl (qI_le (by omega) (q_big (d := 0) Q2948)) (fun y2949 qy2949 hRy2949 => ?_)
          obtain ⟨rfl, hDy2949⟩ := hRy2949
          rcases hDy2949 with ⟨vy2949, ty2949⟩ | ⟨vy2949, ty2949⟩
          ·
            refine y_iT (c := .ne) (off := 7) (pc' := 75) (len := 3) (r := (0, 0, 0, 0)) (by decide +kernel) (acmpT (c := .ne) (by show ¬ (_ = _); omega)) (by decide +kernel) ?_
            refine y_ic (c := 0) (len := 1) (r := (0, 0, 0, 0)) (by decide +kernel) (by decide) (fun y2950 hy2950 => ?_)
            refine y_rI (len := 1) (r := (0, 0, 0, 0)) (nL := 5) (k := 2) (n9 := 3) (hs := []) (by decide +kernel) rfl (zfit_b (by omega) (by omega)).2 ?_
            have FE : ∀ (k9 : Nat) (e9 : enT), L[k9]? = some e9 → prE τ1 h2948 36 k9 e9 := fun k9 e9 hk9 => prE_up (pE k9 e9 hk9) u1 Q2948.1 (fun a9 r9 g9 t9 k j hC => by
              have l9 := (List.getElem?_eq_some_iff.mp hk9).1
              have q9 := ty_lt Qb.1 t9.2.2.2.2.2.2.2.2
              have hl9 := len_389 Qb.1
              have n9 : a9 ≠ a := fun e8 => by
                subst e8
                have e7 := cm1.2 k9 L.length _ (by omega) (by omega) (rfs_up r9 ((F2947 36 k9 (by omega) (by omega)))) ra1
                omega
              have d9 := dis_Q (tyQ_up u1 t9) La.2.1 n9
              rcases hC with ⟨q1, q2⟩ | ⟨h1, h2⟩
              · rw [q1, q2]
                exact ((F2948 36 k9 (by omega)).trans (F2947 36 k9 (by omega) (by omega)))
              · exact ((F2948 k j (by omega)).trans (F2947 k j (by omega) (by omega))))
            have FW : ∀ (j w9 : Nat), W[j]? = some w9 → ci_ h2948 37 j w9 := fun j w9 hj => by
              exact ci_up (cw j w9 hj) (((F2948 37 j (by omega)).trans (F2947 37 j (by omega) (by omega))))
            have CM : cmI h2948 36 := cm2 cm1 hg2947 (fun k j c _ => F2948 k j (by omega)) (by omega) (cm_ty36 hg2947 cm1) La.2.1 Q2948.2.2.1
            have ZI : zI Z τ1 h0 h2948 36 := zI_a (n := L.length) (zI_s zj Qb.1 u1 (by decide) (fun k j h1 h2 => F2947 k j h1 h2) ra1 nw2947) La.2.1 (by omega) ra1 (by omega) (fun k j c _ => F2948 k j (by omega))
            exact ⟨τ1, u1, W, ⟨Q2948.1, CM, kx_up ml (((F2948 35 0 (by omega)).trans (F2947 35 0 (by omega) (by omega)))), ⟨_, (((F2948 35 6 (by omega)).trans (F2947 35 6 (by omega) (by omega)))).trans hn, by omega⟩, ci_up c7 (((F2948 35 7 (by omega)).trans (F2947 35 7 (by omega) (by omega)))), FW, ci_up cd (((F2948 38 2 (by omega)).trans (F2947 38 2 (by omega) (by omega)))), gR_up gr (((F2948 35 10 (by omega)).trans (F2947 35 10 (by omega) (by omega)))), FE⟩, ((F2948 35 8 (by omega)).trans (F2947 35 8 (by omega) (by omega))), ZI, Or.inr ⟨by omega, br_none3 ke n2948 ty2949⟩⟩
          ·
            refine y_iF (c := .ne) (off := 7) (len := 3) (r := (0, 0, 0, 0)) (by decide +kernel) (acmpF (c := .ne) (by show _ = _; omega)) ?_
            refine y_ic (c := 1) (len := 1) (r := (0, 0, 0, 0)) (by decide +kernel) (by decide) (fun y2951 hy2951 => ?_)
            refine y_goto (off := 4) (pc' := 76) (len := 3) (r := (0, 0, 0, 0)) (by decide +kernel) (by decide +kernel) ?_
            refine y_rI (len := 1) (r := (0, 0, 0, 0)) (nL := 5) (k := 2) (n9 := 3) (hs := []) (by decide +kernel) rfl (zfit_b (by omega) (by omega)).2 ?_
            have FE : ∀ (k9 : Nat) (e9 : enT), L[k9]? = some e9 → prE τ1 h2948 36 k9 e9 := fun k9 e9 hk9 => prE_up (pE k9 e9 hk9) u1 Q2948.1 (fun a9 r9 g9 t9 k j hC => by
              have l9 := (List.getElem?_eq_some_iff.mp hk9).1
              have q9 := ty_lt Qb.1 t9.2.2.2.2.2.2.2.2
              have hl9 := len_389 Qb.1
              have n9 : a9 ≠ a := fun e8 => by
                subst e8
                have e7 := cm1.2 k9 L.length _ (by omega) (by omega) (rfs_up r9 ((F2947 36 k9 (by omega) (by omega)))) ra1
                omega
              have d9 := dis_Q (tyQ_up u1 t9) La.2.1 n9
              rcases hC with ⟨q1, q2⟩ | ⟨h1, h2⟩
              · rw [q1, q2]
                exact ((F2948 36 k9 (by omega)).trans (F2947 36 k9 (by omega) (by omega)))
              · exact ((F2948 k j (by omega)).trans (F2947 k j (by omega) (by omega))))
            have FW : ∀ (j w9 : Nat), W[j]? = some w9 → ci_ h2948 37 j w9 := fun j w9 hj => by
              exact ci_up (cw j w9 hj) (((F2948 37 j (by omega)).trans (F2947 37 j (by omega) (by omega))))
            have CM : cmI h2948 36 := cm2 cm1 hg2947 (fun k j c _ => F2948 k j (by omega)) (by omega) (cm_ty36 hg2947 cm1) La.2.1 Q2948.2.2.1
            have ZI : zI Z τ1 h0 h2948 36 := zI_a (n := L.length) (zI_s zj Qb.1 u1 (by decide) (fun k j h1 h2 => F2947 k j h1 h2) ra1 nw2947) La.2.1 (by omega) ra1 (by omega) (fun k j c _ => F2948 k j (by omega))
            have NF : ¬ (w = false ∧ (e.2.1 = 6 ∨ e.2.1 = 7)) := fun q9 => by
              have e9 := ew0
              rw [if_neg (by rw [q9.1]; decide)] at e9
              omega
            exact ⟨τ1, u1, W, ⟨Q2948.1, CM, kx_up ml (((F2948 35 0 (by omega)).trans (F2947 35 0 (by omega) (by omega)))), ⟨_, (((F2948 35 6 (by omega)).trans (F2947 35 6 (by omega) (by omega)))).trans hn, by omega⟩, ci_up c7 (((F2948 35 7 (by omega)).trans (F2947 35 7 (by omega) (by omega)))), FW, ci_up cd (((F2948 38 2 (by omega)).trans (F2947 38 2 (by omega) (by omega)))), gR_up gr (((F2948 35 10 (by omega)).trans (F2947 35 10 (by omega) (by omega)))), FE⟩, ((F2948 35 8 (by omega)).trans (F2947 35 8 (by omega) (by omega))), ZI, Or.inl ⟨by omega, (by rw [if_neg (by exact NF)]), a, s9, rfs_up ra1 ((F2948 36 (L.length) (by omega))), ha1, Q2948, ty2949, n2948, by omega, by omega⟩⟩
        ·
          have Q2948_b := QC_fr Q2947 Q2948.1 F2948 (by omega)
          refine y_iT (c := .eq) (off := 15) (pc' := 75) (len := 3) (r := (0, 0, 0, 0)) (by decide +kernel) (acmpT (c := .eq) (by show _ = _; omega)) (by decide +kernel) ?_
          refine y_ic (c := 0) (len := 1) (r := (0, 0, 0, 0)) (by decide +kernel) (by decide) (fun y2952 hy2952 => ?_)
          refine y_rI (len := 1) (r := (0, 0, 0, 0)) (nL := 5) (k := 2) (n9 := 3) (hs := []) (by decide +kernel) rfl (zfit_b (by omega) (by omega)).2 ?_
          have FE : ∀ (k9 : Nat) (e9 : enT), L[k9]? = some e9 → prE τ1 h2948 36 k9 e9 := fun k9 e9 hk9 => prE_up (pE k9 e9 hk9) u1 Q2948.1 (fun a9 r9 g9 t9 k j hC => by
            have l9 := (List.getElem?_eq_some_iff.mp hk9).1
            have q9 := ty_lt Qb.1 t9.2.2.2.2.2.2.2.2
            have hl9 := len_389 Qb.1
            have n9 : a9 ≠ a := fun e8 => by
              subst e8
              have e7 := cm1.2 k9 L.length _ (by omega) (by omega) (rfs_up r9 ((F2947 36 k9 (by omega) (by omega)))) ra1
              omega
            have d9 := dis_Q (tyQ_up u1 t9) La.2.1 n9
            rcases hC with ⟨q1, q2⟩ | ⟨h1, h2⟩
            · rw [q1, q2]
              exact ((F2948 36 k9 (by omega)).trans (F2947 36 k9 (by omega) (by omega)))
            · exact ((F2948 k j (by omega)).trans (F2947 k j (by omega) (by omega))))
          have FW : ∀ (j w9 : Nat), W[j]? = some w9 → ci_ h2948 37 j w9 := fun j w9 hj => by
            exact ci_up (cw j w9 hj) (((F2948 37 j (by omega)).trans (F2947 37 j (by omega) (by omega))))
          have CM : cmI h2948 36 := cm2 cm1 hg2947 (fun k j c _ => F2948 k j (by omega)) (by omega) (cm_ty36 hg2947 cm1) La.2.1 Q2948.2.2.1
          have ZI : zI Z τ1 h0 h2948 36 := zI_a (n := L.length) (zI_s zj Qb.1 u1 (by decide) (fun k j h1 h2 => F2947 k j h1 h2) ra1 nw2947) La.2.1 (by omega) ra1 (by omega) (fun k j c _ => F2948 k j (by omega))
          exact ⟨τ1, u1, W, ⟨Q2948.1, CM, kx_up ml (((F2948 35 0 (by omega)).trans (F2947 35 0 (by omega) (by omega)))), ⟨_, (((F2948 35 6 (by omega)).trans (F2947 35 6 (by omega) (by omega)))).trans hn, by omega⟩, ci_up c7 (((F2948 35 7 (by omega)).trans (F2947 35 7 (by omega) (by omega)))), FW, ci_up cd (((F2948 38 2 (by omega)).trans (F2947 38 2 (by omega) (by omega)))), gR_up gr (((F2948 35 10 (by omega)).trans (F2947 35 10 (by omega) (by omega)))), FE⟩, ((F2948 35 8 (by omega)).trans (F2947 35 8 (by omega) (by omega))), ZI, Or.inr ⟨by omega, br_none2 ke n2948⟩⟩
      ·
        refine y_iF (c := .ne) (off := 15) (len := 3) (r := (0, 0, 0, 0)) (by decide +kernel) (acmpF (c := .ne) (by show _ = _; omega)) ?_
        refine y_same (i := .aload_n 3) (len := 1) (r := (0, 0, 0, 0)) (pc' := 32) (ls' := [some (.inl (some 35)), some (zi xf), some (zi xw), some (.inl (some b)), none]) (st' := [.inl (some b)]) (by decide +kernel) (fun k q => by cases q) rfl ?_
        refine y_cI (i := .invokevirtual 113) (len := 3) (r := (0, 97, 7, 771)) (nL := 1) (k := 2) (n := 1) (hs := []) (args := [.inl (some b)]) (rest := []) (l0 := [some (.inl (some b))]) (by decide +kernel) (Or.inr (Or.inl ⟨_, rfl⟩)) rfl rfl rfl rfl (Nat.le_of_ble_eq_true rfl) (zO Qb.1 Qb.2.1.1 aw1008 rfl) rfl (qI_le (by omega) (q_frk (d := 0) (st := e.2.1) Qb (ci_up c4 (rfl)))) (fun y2953 qy2953 hRy2953 => ?_)
        obtain ⟨rfl, hDy2953⟩ := hRy2953
        rcases hDy2953 with ⟨vy2953, ty2953⟩ | ⟨vy2953, ty2953⟩
        ·
          refine y_iF (c := .eq) (off := 8) (len := 3) (r := (0, 0, 0, 0)) (by decide +kernel) (acmpF (c := .eq) (by show ¬ (_ = _); omega)) ?_
          refine y_same (i := .aload_n 0) (len := 1) (r := (0, 0, 0, 0)) (pc' := 39) (ls' := [some (.inl (some 35)), some (zi xf), some (zi xw), some (.inl (some b)), none]) (st' := [.inl (some 35)]) (by decide +kernel) (fun k q => by cases q) rfl ?_
          refine y_same (i := .iload_n 1) (len := 1) (r := (0, 0, 0, 0)) (pc' := 40) (ls' := [some (.inl (some 35)), some (zi xf), some (zi xw), some (.inl (some b)), none]) (st' := [zi xf, .inl (some 35)]) (by decide +kernel) (fun k q => by cases q) rfl ?_
          refine y_cV (i := .invokevirtual 117) (len := 3) (r := (0, 40, 4, 775)) (nL := 2) (k := 0) (n := 2) (hs := []) (args := [.inl (some 35), zi xf]) (rest := []) (l0 := [some (.inl (some 35)), some (zi xf)]) (by decide +kernel) (Or.inr (Or.inl ⟨_, rfl⟩)) rfl rfl rfl rfl (Nat.le_of_ble_eq_true rfl) (zO Qb.1 (tv35 Qb.1) aw35 rfl) rfl (qV_le (by omega) (e_lw35 (d := 0) (n := W.length) (w := i) Qb.1 (ci_up c7 (rfl)) (hW (by omega)) (by omega))) (fun h2954 hR2954 => ?_)
          obtain ⟨hg2954, c72954, cw2954, F2954⟩ := hR2954
          have Q2954 := QC_up Qb hg2954 (fun k j _ _ _ => F2954 k j (by omega))
          refine y_same (i := .aload_n 0) (len := 1) (r := (0, 0, 0, 0)) (pc' := 44) (ls' := [some (.inl (some 35)), some (zi xf), some (zi xw), some (.inl (some b)), none]) (st' := [.inl (some 35)]) (by decide +kernel) (fun k q => by cases q) rfl ?_
          refine y_same (i := .aload_n 0) (len := 1) (r := (0, 0, 0, 0)) (pc' := 45) (ls' := [some (.inl (some 35)), some (zi xf), some (zi xw), some (.inl (some b)), none]) (st' := [.inl (some 35), .inl (some 35)]) (by decide +kernel) (fun k q => by cases q) rfl ?_
          have hv2955 := (F2954 35 6 (by omega)).trans hn
          refine y_get (j := 35) (len := 3) (r := (4, 6, 0, 289)) (by decide +kernel) hg2954 (tv35 hg2954) aw35 rfl rfl hv2955 ?_
          have cm2956 : cmI h2954 36 := cmI_up cm (fun k => (F2954 36 k (by omega))) (fun a h3 l => laQ_up l (fun k j h1 h2 _ _ => (F2954 k j (by omega))))
          have hL2956 := len_389 hg2954
          have lb2956 := ty_lt hg2954 Q2954.2.1.2.2.2.2.2.2.2.2
          obtain ⟨a, nw2956, hS2956⟩ := e_slx35 (d := 0) (t := t) (k := L.length) (xk := xn) hg2954 cm2956 (by omega) (by omega)
          refine y_cA (i := .invokevirtual 67) (len := 3) (r := (0, 33, 4, 505)) (nL := 3) (k := 3) (n := 2) (hs := []) (args := [.inl (some 35), zi xn]) (rest := []) (l0 := [some (.inl (some 35)), some (zi xn), none]) (by decide +kernel) (Or.inr (Or.inl ⟨_, rfl⟩)) rfl rfl rfl rfl (Nat.le_of_ble_eq_true rfl) (zO hg2954 (tv35 hg2954) aw35 rfl) rfl (qA_le (by omega) hS2956) (fun h2956 hR2956 => ?_)
          obtain ⟨τ1, u1, hg2956, cm1, ra1, La, ha1, F2956⟩ := hR2956
          have Q2956 := QC_tu Q2954 u1 hg2956 (fun k j _ _ _ => F2956 k j (by omega) (by omega))
          have nab : a ≠ b := fun e9 => by
            subst e9
            have e8 := cm1.2 i L.length _ (by omega) (by omega) (((F2956 36 i (by omega) (by omega)).trans (F2954 36 i (by omega))).trans rb) ra1
            omega
          have dab := dis_Q La.2.1 Q2956.2.1 nab
          refine y_same (i := .astore 4) (len := 2) (r := (0, 0, 0, 0)) (pc' := 53) (ls' := [some (.inl (some 35)), some (zi xf), some (zi xw), some (.inl (some b)), some (.inl (some a))]) (st' := []) (by decide +kernel) (fun k q => by cases q) rfl ?_
          refine y_same (i := .aload 4) (len := 2) (r := (0, 0, 0, 0)) (pc' := 55) (ls' := [some (.inl (some 35)), some (zi xf), some (zi xw), some (.inl (some b)), some (.inl (some a))]) (st' := [.inl (some a)]) (by decide +kernel) (fun k q => by cases q) rfl ?_
          refine y_same (i := .aload_n 3) (len := 1) (r := (0, 0, 0, 0)) (pc' := 56) (ls' := [some (.inl (some 35)), some (zi xf), some (zi xw), some (.inl (some b)), some (.inl (some a))]) (st' := [.inl (some b), .inl (some a)]) (by decide +kernel) (fun k q => by cases q) rfl ?_
          refine y_same (i := .iload_n 2) (len := 1) (r := (0, 0, 0, 0)) (pc' := 57) (ls' := [some (.inl (some 35)), some (zi xf), some (zi xw), some (.inl (some b)), some (.inl (some a))]) (st' := [zi xw, .inl (some b), .inl (some a)]) (by decide +kernel) (fun k q => by cases q) rfl ?_
          refine y_cI (i := .invokevirtual 120) (len := 3) (r := (0, 98, 7, 779)) (nL := 5) (k := 2) (n := 3) (hs := []) (args := [.inl (some a), .inl (some b), zi xw]) (rest := []) (l0 := [some (.inl (some a)), some (.inl (some b)), some (zi xw), none, none]) (by decide +kernel) (Or.inr (Or.inl ⟨_, rfl⟩)) rfl rfl rfl rfl (Nat.le_of_ble_eq_true rfl) (zO hg2956 La.2.1.1 aw1008 rfl) rfl (qI_le (by omega) (q_fol (d := 0) (w := w) La Q2956 dab nb (ci_up c4 (((F2956 b 4 (by omega) (by omega)).trans (F2954 b 4 (by omega))))) (ci_up (c8 h3 h8) (((F2956 b 8 (by omega) (by omega)).trans (F2954 b 8 (by omega))))) (fun q => ci_up (c9 h3 q) (((F2956 b 9 (by omega) (by omega)).trans (F2954 b 9 (by omega))))) ⟨h3, h8⟩ kip kiq k79 ew0)) (fun y2957 h2957 hRy2957 => ?_)
          rcases hRy2957 with ⟨v2957, s9, n2957, Q2957, F2957⟩ | ⟨v2957, n2957, s9, Q2957, F2957⟩
          ·
            have Q2957_b := QC_fr Q2956 Q2957.1 F2957 (by omega)
            refine y_iF (c := .eq) (off := 15) (len := 3) (r := (0, 0, 0, 0)) (by decide +kernel) (acmpF (c := .eq) (by show ¬ (_ = _); omega)) ?_
            refine y_same (i := .aload 4) (len := 2) (r := (0, 0, 0, 0)) (pc' := 65) (ls' := [some (.inl (some 35)), some (zi xf), some (zi xw), some (.inl (some b)), some (.inl (some a))]) (st' := [.inl (some a)]) (by decide +kernel) (fun k q => by cases q) rfl ?_
            refine y_cI (i := .invokevirtual 124) (len := 3) (r := (0, 81, 7, 823)) (nL := 1) (k := 2) (n := 1) (hs := []) (args := [.inl (some a)]) (rest := []) (l0 := [some (.inl (some a))]) (by decide +kernel) (Or.inr (Or.inl ⟨_, rfl⟩)) rfl rfl rfl rfl (Nat.le_of_ble_eq_true rfl) (zO Q2957.1 Q2957.2.1.1 aw1008 rfl) rfl (qI_le (by omega) (q_big (d := 0) Q2957)) (fun y2958 qy2958 hRy2958 => ?_)
            obtain ⟨rfl, hDy2958⟩ := hRy2958
            rcases hDy2958 with ⟨vy2958, ty2958⟩ | ⟨vy2958, ty2958⟩
            ·
              refine y_iT (c := .ne) (off := 7) (pc' := 75) (len := 3) (r := (0, 0, 0, 0)) (by decide +kernel) (acmpT (c := .ne) (by show ¬ (_ = _); omega)) (by decide +kernel) ?_
              refine y_ic (c := 0) (len := 1) (r := (0, 0, 0, 0)) (by decide +kernel) (by decide) (fun y2959 hy2959 => ?_)
              refine y_rI (len := 1) (r := (0, 0, 0, 0)) (nL := 5) (k := 2) (n9 := 3) (hs := []) (by decide +kernel) rfl (zfit_b (by omega) (by omega)).2 ?_
              have FE : ∀ (k9 : Nat) (e9 : enT), L[k9]? = some e9 → prE τ1 h2957 36 k9 e9 := fun k9 e9 hk9 => prE_up (pE k9 e9 hk9) u1 Q2957.1 (fun a9 r9 g9 t9 k j hC => by
                have l9 := (List.getElem?_eq_some_iff.mp hk9).1
                have q9 := ty_lt Qb.1 t9.2.2.2.2.2.2.2.2
                have hl9 := len_389 Qb.1
                have le9 : h2954.length = h.length := by rw [← hg2954.1.1, ← Qb.1.1.1]
                have n9 : a9 ≠ a := fun e8 => by
                  subst e8
                  have e7 := cm1.2 k9 L.length _ (by omega) (by omega) (rfs_up r9 (((F2956 36 k9 (by omega) (by omega)).trans (F2954 36 k9 (by omega))))) ra1
                  omega
                have d9 := dis_Q (tyQ_up u1 t9) La.2.1 n9
                rcases hC with ⟨q1, q2⟩ | ⟨h1, h2⟩
                · rw [q1, q2]
                  exact ((F2957 36 k9 (by omega)).trans ((F2956 36 k9 (by omega) (by omega)).trans (F2954 36 k9 (by omega))))
                · exact ((F2957 k j (by omega)).trans ((F2956 k j (by omega) (by omega)).trans (F2954 k j (by omega)))))
              have FW : ∀ (j w9 : Nat), (W ++ [i])[j]? = some w9 → ci_ h2957 37 j w9 := fun j w9 hj => by
                rcases Nat.lt_or_ge j W.length with q9 | q9
                · rw [List.getElem?_append_left q9] at hj
                  exact ci_up (cw j w9 hj) (((F2957 37 j (by omega)).trans ((F2956 37 j (by omega) (by omega)).trans (F2954 37 j (by omega)))))
                · rw [List.getElem?_append_right q9] at hj
                  obtain ⟨rfl, rfl⟩ : j = W.length ∧ w9 = i := by
                    rcases Nat.eq_or_lt_of_le q9 with q8 | q8
                    · rw [← q8, Nat.sub_self] at hj
                      cases hj
                      exact ⟨q8.symm, rfl⟩
                    · rw [List.getElem?_eq_none (by simp only [List.length_cons, List.length_nil]; omega)] at hj
                      cases hj
                  exact ci_up cw2954 (((F2957 37 (W.length) (by omega)).trans (F2956 37 (W.length) (by omega) (by omega))))
              have CM : cmI h2957 36 := cm2 cm1 hg2956 (fun k j c _ => F2957 k j (by omega)) (by omega) (cm_ty36 hg2956 cm1) La.2.1 Q2957.2.2.1
              have ZI : zI Z τ1 h0 h2957 36 := zI_a (n := L.length) (zI_s (zI_fr zj (fun k j c => F2954 k j (by omega))) hg2954 u1 (by decide) (fun k j h1 h2 => F2956 k j h1 h2) ra1 nw2956) La.2.1 (by omega) ra1 (by omega) (fun k j c _ => F2957 k j (by omega))
              exact ⟨τ1, u1, (W ++ [i]), ⟨Q2957.1, CM, kx_up ml (((F2957 35 0 (by omega)).trans ((F2956 35 0 (by omega) (by omega)).trans (F2954 35 0 (by omega))))), ⟨_, (((F2957 35 6 (by omega)).trans ((F2956 35 6 (by omega) (by omega)).trans (F2954 35 6 (by omega))))).trans hn, by omega⟩, (by rw [List.length_append]; exact ci_up c72954 (((F2957 35 7 (by omega)).trans (F2956 35 7 (by omega) (by omega))))), FW, ci_up cd (((F2957 38 2 (by omega)).trans ((F2956 38 2 (by omega) (by omega)).trans (F2954 38 2 (by omega))))), gR_up gr (((F2957 35 10 (by omega)).trans ((F2956 35 10 (by omega) (by omega)).trans (F2954 35 10 (by omega))))), FE⟩, ((F2957 35 8 (by omega)).trans ((F2956 35 8 (by omega) (by omega)).trans (F2954 35 8 (by omega)))), ZI, Or.inr ⟨by omega, br_none3 ke n2957 ty2958⟩⟩
            ·
              refine y_iF (c := .ne) (off := 7) (len := 3) (r := (0, 0, 0, 0)) (by decide +kernel) (acmpF (c := .ne) (by show _ = _; omega)) ?_
              refine y_ic (c := 1) (len := 1) (r := (0, 0, 0, 0)) (by decide +kernel) (by decide) (fun y2960 hy2960 => ?_)
              refine y_goto (off := 4) (pc' := 76) (len := 3) (r := (0, 0, 0, 0)) (by decide +kernel) (by decide +kernel) ?_
              refine y_rI (len := 1) (r := (0, 0, 0, 0)) (nL := 5) (k := 2) (n9 := 3) (hs := []) (by decide +kernel) rfl (zfit_b (by omega) (by omega)).2 ?_
              have FE : ∀ (k9 : Nat) (e9 : enT), L[k9]? = some e9 → prE τ1 h2957 36 k9 e9 := fun k9 e9 hk9 => prE_up (pE k9 e9 hk9) u1 Q2957.1 (fun a9 r9 g9 t9 k j hC => by
                have l9 := (List.getElem?_eq_some_iff.mp hk9).1
                have q9 := ty_lt Qb.1 t9.2.2.2.2.2.2.2.2
                have hl9 := len_389 Qb.1
                have le9 : h2954.length = h.length := by rw [← hg2954.1.1, ← Qb.1.1.1]
                have n9 : a9 ≠ a := fun e8 => by
                  subst e8
                  have e7 := cm1.2 k9 L.length _ (by omega) (by omega) (rfs_up r9 (((F2956 36 k9 (by omega) (by omega)).trans (F2954 36 k9 (by omega))))) ra1
                  omega
                have d9 := dis_Q (tyQ_up u1 t9) La.2.1 n9
                rcases hC with ⟨q1, q2⟩ | ⟨h1, h2⟩
                · rw [q1, q2]
                  exact ((F2957 36 k9 (by omega)).trans ((F2956 36 k9 (by omega) (by omega)).trans (F2954 36 k9 (by omega))))
                · exact ((F2957 k j (by omega)).trans ((F2956 k j (by omega) (by omega)).trans (F2954 k j (by omega)))))
              have FW : ∀ (j w9 : Nat), (W ++ [i])[j]? = some w9 → ci_ h2957 37 j w9 := fun j w9 hj => by
                rcases Nat.lt_or_ge j W.length with q9 | q9
                · rw [List.getElem?_append_left q9] at hj
                  exact ci_up (cw j w9 hj) (((F2957 37 j (by omega)).trans ((F2956 37 j (by omega) (by omega)).trans (F2954 37 j (by omega)))))
                · rw [List.getElem?_append_right q9] at hj
                  obtain ⟨rfl, rfl⟩ : j = W.length ∧ w9 = i := by
                    rcases Nat.eq_or_lt_of_le q9 with q8 | q8
                    · rw [← q8, Nat.sub_self] at hj
                      cases hj
                      exact ⟨q8.symm, rfl⟩
                    · rw [List.getElem?_eq_none (by simp only [List.length_cons, List.length_nil]; omega)] at hj
                      cases hj
                  exact ci_up cw2954 (((F2957 37 (W.length) (by omega)).trans (F2956 37 (W.length) (by omega) (by omega))))
              have CM : cmI h2957 36 := cm2 cm1 hg2956 (fun k j c _ => F2957 k j (by omega)) (by omega) (cm_ty36 hg2956 cm1) La.2.1 Q2957.2.2.1
              have ZI : zI Z τ1 h0 h2957 36 := zI_a (n := L.length) (zI_s (zI_fr zj (fun k j c => F2954 k j (by omega))) hg2954 u1 (by decide) (fun k j h1 h2 => F2956 k j h1 h2) ra1 nw2956) La.2.1 (by omega) ra1 (by omega) (fun k j c _ => F2957 k j (by omega))
              have WF : w = false := by
                cases w with
                | false => rfl
                | true => exact absurd (show xw.toInt = 1 from ew0) (by omega)
              exact ⟨τ1, u1, (W ++ [i]), ⟨Q2957.1, CM, kx_up ml (((F2957 35 0 (by omega)).trans ((F2956 35 0 (by omega) (by omega)).trans (F2954 35 0 (by omega))))), ⟨_, (((F2957 35 6 (by omega)).trans ((F2956 35 6 (by omega) (by omega)).trans (F2954 35 6 (by omega))))).trans hn, by omega⟩, (by rw [List.length_append]; exact ci_up c72954 (((F2957 35 7 (by omega)).trans (F2956 35 7 (by omega) (by omega))))), FW, ci_up cd (((F2957 38 2 (by omega)).trans ((F2956 38 2 (by omega) (by omega)).trans (F2954 38 2 (by omega))))), gR_up gr (((F2957 35 10 (by omega)).trans ((F2956 35 10 (by omega) (by omega)).trans (F2954 35 10 (by omega))))), FE⟩, ((F2957 35 8 (by omega)).trans ((F2956 35 8 (by omega) (by omega)).trans (F2954 35 8 (by omega)))), ZI, Or.inl ⟨by omega, (by rw [if_pos (by exact ⟨WF, ty2953⟩)]), a, s9, rfs_up ra1 ((F2957 36 (L.length) (by omega))), ha1, Q2957, ty2958, n2957, by omega, by omega⟩⟩
          ·
            have Q2957_b := QC_fr Q2956 Q2957.1 F2957 (by omega)
            refine y_iT (c := .eq) (off := 15) (pc' := 75) (len := 3) (r := (0, 0, 0, 0)) (by decide +kernel) (acmpT (c := .eq) (by show _ = _; omega)) (by decide +kernel) ?_
            refine y_ic (c := 0) (len := 1) (r := (0, 0, 0, 0)) (by decide +kernel) (by decide) (fun y2961 hy2961 => ?_)
            refine y_rI (len := 1) (r := (0, 0, 0, 0)) (nL := 5) (k := 2) (n9 := 3) (hs := []) (by decide +kernel) rfl (zfit_b (by omega) (by omega)).2 ?_
            have FE : ∀ (k9 : Nat) (e9 : enT), L[k9]? = some e9 → prE τ1 h2957 36 k9 e9 := fun k9 e9 hk9 => prE_up (pE k9 e9 hk9) u1 Q2957.1 (fun a9 r9 g9 t9 k j hC => by
              have l9 := (List.getElem?_eq_some_iff.mp hk9).1
              have q9 := ty_lt Qb.1 t9.2.2.2.2.2.2.2.2
              have hl9 := len_389 Qb.1
              have le9 : h2954.length = h.length := by rw [← hg2954.1.1, ← Qb.1.1.1]
              have n9 : a9 ≠ a := fun e8 => by
                subst e8
                have e7 := cm1.2 k9 L.length _ (by omega) (by omega) (rfs_up r9 (((F2956 36 k9 (by omega) (by omega)).trans (F2954 36 k9 (by omega))))) ra1
                omega
              have d9 := dis_Q (tyQ_up u1 t9) La.2.1 n9
              rcases hC with ⟨q1, q2⟩ | ⟨h1, h2⟩
              · rw [q1, q2]
                exact ((F2957 36 k9 (by omega)).trans ((F2956 36 k9 (by omega) (by omega)).trans (F2954 36 k9 (by omega))))
              · exact ((F2957 k j (by omega)).trans ((F2956 k j (by omega) (by omega)).trans (F2954 k j (by omega)))))
            have FW : ∀ (j w9 : Nat), (W ++ [i])[j]? = some w9 → ci_ h2957 37 j w9 := fun j w9 hj => by
              rcases Nat.lt_or_ge j W.length with q9 | q9
              · rw [List.getElem?_append_left q9] at hj
                exact ci_up (cw j w9 hj) (((F2957 37 j (by omega)).trans ((F2956 37 j (by omega) (by omega)).trans (F2954 37 j (by omega)))))
              · rw [List.getElem?_append_right q9] at hj
                obtain ⟨rfl, rfl⟩ : j = W.length ∧ w9 = i := by
                  rcases Nat.eq_or_lt_of_le q9 with q8 | q8
                  · rw [← q8, Nat.sub_self] at hj
                    cases hj
                    exact ⟨q8.symm, rfl⟩
                  · rw [List.getElem?_eq_none (by simp only [List.length_cons, List.length_nil]; omega)] at hj
                    cases hj
                exact ci_up cw2954 (((F2957 37 (W.length) (by omega)).trans (F2956 37 (W.length) (by omega) (by omega))))
            have CM : cmI h2957 36 := cm2 cm1 hg2956 (fun k j c _ => F2957 k j (by omega)) (by omega) (cm_ty36 hg2956 cm1) La.2.1 Q2957.2.2.1
            have ZI : zI Z τ1 h0 h2957 36 := zI_a (n := L.length) (zI_s (zI_fr zj (fun k j c => F2954 k j (by omega))) hg2954 u1 (by decide) (fun k j h1 h2 => F2956 k j h1 h2) ra1 nw2956) La.2.1 (by omega) ra1 (by omega) (fun k j c _ => F2957 k j (by omega))
            exact ⟨τ1, u1, (W ++ [i]), ⟨Q2957.1, CM, kx_up ml (((F2957 35 0 (by omega)).trans ((F2956 35 0 (by omega) (by omega)).trans (F2954 35 0 (by omega))))), ⟨_, (((F2957 35 6 (by omega)).trans ((F2956 35 6 (by omega) (by omega)).trans (F2954 35 6 (by omega))))).trans hn, by omega⟩, (by rw [List.length_append]; exact ci_up c72954 (((F2957 35 7 (by omega)).trans (F2956 35 7 (by omega) (by omega))))), FW, ci_up cd (((F2957 38 2 (by omega)).trans ((F2956 38 2 (by omega) (by omega)).trans (F2954 38 2 (by omega))))), gR_up gr (((F2957 35 10 (by omega)).trans ((F2956 35 10 (by omega) (by omega)).trans (F2954 35 10 (by omega))))), FE⟩, ((F2957 35 8 (by omega)).trans ((F2956 35 8 (by omega) (by omega)).trans (F2954 35 8 (by omega)))), ZI, Or.inr ⟨by omega, br_none2 ke n2957⟩⟩
        ·
          refine y_iT (c := .eq) (off := 8) (pc' := 43) (len := 3) (r := (0, 0, 0, 0)) (by decide +kernel) (acmpT (c := .eq) (by show _ = _; omega)) (by decide +kernel) ?_
          refine y_same (i := .aload_n 0) (len := 1) (r := (0, 0, 0, 0)) (pc' := 44) (ls' := [some (.inl (some 35)), some (zi xf), some (zi xw), some (.inl (some b)), none]) (st' := [.inl (some 35)]) (by decide +kernel) (fun k q => by cases q) rfl ?_
          refine y_same (i := .aload_n 0) (len := 1) (r := (0, 0, 0, 0)) (pc' := 45) (ls' := [some (.inl (some 35)), some (zi xf), some (zi xw), some (.inl (some b)), none]) (st' := [.inl (some 35), .inl (some 35)]) (by decide +kernel) (fun k q => by cases q) rfl ?_
          refine y_get (j := 35) (len := 3) (r := (4, 6, 0, 289)) (by decide +kernel) Qb.1 (tv35 Qb.1) aw35 rfl rfl hn ?_
          have cm2962 := cm
          have hL2962 := len_389 Qb.1
          have lb2962 := ty_lt Qb.1 Qb.2.1.2.2.2.2.2.2.2.2
          obtain ⟨a, nw2962, hS2962⟩ := e_slx35 (d := 0) (t := t) (k := L.length) (xk := xn) Qb.1 cm2962 (by omega) (by omega)
          refine y_cA (i := .invokevirtual 67) (len := 3) (r := (0, 33, 4, 505)) (nL := 3) (k := 3) (n := 2) (hs := []) (args := [.inl (some 35), zi xn]) (rest := []) (l0 := [some (.inl (some 35)), some (zi xn), none]) (by decide +kernel) (Or.inr (Or.inl ⟨_, rfl⟩)) rfl rfl rfl rfl (Nat.le_of_ble_eq_true rfl) (zO Qb.1 (tv35 Qb.1) aw35 rfl) rfl (qA_le (by omega) hS2962) (fun h2962 hR2962 => ?_)
          obtain ⟨τ1, u1, hg2962, cm1, ra1, La, ha1, F2962⟩ := hR2962
          have Q2962 := QC_tu Qb u1 hg2962 (fun k j _ _ _ => F2962 k j (by omega) (by omega))
          have nab : a ≠ b := fun e9 => by
            subst e9
            have e8 := cm1.2 i L.length _ (by omega) (by omega) ((F2962 36 i (by omega) (by omega)).trans rb) ra1
            omega
          have dab := dis_Q La.2.1 Q2962.2.1 nab
          refine y_same (i := .astore 4) (len := 2) (r := (0, 0, 0, 0)) (pc' := 53) (ls' := [some (.inl (some 35)), some (zi xf), some (zi xw), some (.inl (some b)), some (.inl (some a))]) (st' := []) (by decide +kernel) (fun k q => by cases q) rfl ?_
          refine y_same (i := .aload 4) (len := 2) (r := (0, 0, 0, 0)) (pc' := 55) (ls' := [some (.inl (some 35)), some (zi xf), some (zi xw), some (.inl (some b)), some (.inl (some a))]) (st' := [.inl (some a)]) (by decide +kernel) (fun k q => by cases q) rfl ?_
          refine y_same (i := .aload_n 3) (len := 1) (r := (0, 0, 0, 0)) (pc' := 56) (ls' := [some (.inl (some 35)), some (zi xf), some (zi xw), some (.inl (some b)), some (.inl (some a))]) (st' := [.inl (some b), .inl (some a)]) (by decide +kernel) (fun k q => by cases q) rfl ?_
          refine y_same (i := .iload_n 2) (len := 1) (r := (0, 0, 0, 0)) (pc' := 57) (ls' := [some (.inl (some 35)), some (zi xf), some (zi xw), some (.inl (some b)), some (.inl (some a))]) (st' := [zi xw, .inl (some b), .inl (some a)]) (by decide +kernel) (fun k q => by cases q) rfl ?_
          refine y_cI (i := .invokevirtual 120) (len := 3) (r := (0, 98, 7, 779)) (nL := 5) (k := 2) (n := 3) (hs := []) (args := [.inl (some a), .inl (some b), zi xw]) (rest := []) (l0 := [some (.inl (some a)), some (.inl (some b)), some (zi xw), none, none]) (by decide +kernel) (Or.inr (Or.inl ⟨_, rfl⟩)) rfl rfl rfl rfl (Nat.le_of_ble_eq_true rfl) (zO hg2962 La.2.1.1 aw1008 rfl) rfl (qI_le (by omega) (q_fol (d := 0) (w := w) La Q2962 dab nb (ci_up c4 ((F2962 b 4 (by omega) (by omega)))) (ci_up (c8 h3 h8) ((F2962 b 8 (by omega) (by omega)))) (fun q => ci_up (c9 h3 q) ((F2962 b 9 (by omega) (by omega)))) ⟨h3, h8⟩ kip kiq k79 ew0)) (fun y2963 h2963 hRy2963 => ?_)
          rcases hRy2963 with ⟨v2963, s9, n2963, Q2963, F2963⟩ | ⟨v2963, n2963, s9, Q2963, F2963⟩
          ·
            have Q2963_b := QC_fr Q2962 Q2963.1 F2963 (by omega)
            refine y_iF (c := .eq) (off := 15) (len := 3) (r := (0, 0, 0, 0)) (by decide +kernel) (acmpF (c := .eq) (by show ¬ (_ = _); omega)) ?_
            refine y_same (i := .aload 4) (len := 2) (r := (0, 0, 0, 0)) (pc' := 65) (ls' := [some (.inl (some 35)), some (zi xf), some (zi xw), some (.inl (some b)), some (.inl (some a))]) (st' := [.inl (some a)]) (by decide +kernel) (fun k q => by cases q) rfl ?_
            refine y_cI (i := .invokevirtual 124) (len := 3) (r := (0, 81, 7, 823)) (nL := 1) (k := 2) (n := 1) (hs := []) (args := [.inl (some a)]) (rest := []) (l0 := [some (.inl (some a))]) (by decide +kernel) (Or.inr (Or.inl ⟨_, rfl⟩)) rfl rfl rfl rfl (Nat.le_of_ble_eq_true rfl) (zO Q2963.1 Q2963.2.1.1 aw1008 rfl) rfl (qI_le (by omega) (q_big (d := 0) Q2963)) (fun y2964 qy2964 hRy2964 => ?_)
            obtain ⟨rfl, hDy2964⟩ := hRy2964
            rcases hDy2964 with ⟨vy2964, ty2964⟩ | ⟨vy2964, ty2964⟩
            ·
              refine y_iT (c := .ne) (off := 7) (pc' := 75) (len := 3) (r := (0, 0, 0, 0)) (by decide +kernel) (acmpT (c := .ne) (by show ¬ (_ = _); omega)) (by decide +kernel) ?_
              refine y_ic (c := 0) (len := 1) (r := (0, 0, 0, 0)) (by decide +kernel) (by decide) (fun y2965 hy2965 => ?_)
              refine y_rI (len := 1) (r := (0, 0, 0, 0)) (nL := 5) (k := 2) (n9 := 3) (hs := []) (by decide +kernel) rfl (zfit_b (by omega) (by omega)).2 ?_
              have FE : ∀ (k9 : Nat) (e9 : enT), L[k9]? = some e9 → prE τ1 h2963 36 k9 e9 := fun k9 e9 hk9 => prE_up (pE k9 e9 hk9) u1 Q2963.1 (fun a9 r9 g9 t9 k j hC => by
                have l9 := (List.getElem?_eq_some_iff.mp hk9).1
                have q9 := ty_lt Qb.1 t9.2.2.2.2.2.2.2.2
                have hl9 := len_389 Qb.1
                have n9 : a9 ≠ a := fun e8 => by
                  subst e8
                  have e7 := cm1.2 k9 L.length _ (by omega) (by omega) (rfs_up r9 ((F2962 36 k9 (by omega) (by omega)))) ra1
                  omega
                have d9 := dis_Q (tyQ_up u1 t9) La.2.1 n9
                rcases hC with ⟨q1, q2⟩ | ⟨h1, h2⟩
                · rw [q1, q2]
                  exact ((F2963 36 k9 (by omega)).trans (F2962 36 k9 (by omega) (by omega)))
                · exact ((F2963 k j (by omega)).trans (F2962 k j (by omega) (by omega))))
              have FW : ∀ (j w9 : Nat), W[j]? = some w9 → ci_ h2963 37 j w9 := fun j w9 hj => by
                exact ci_up (cw j w9 hj) (((F2963 37 j (by omega)).trans (F2962 37 j (by omega) (by omega))))
              have CM : cmI h2963 36 := cm2 cm1 hg2962 (fun k j c _ => F2963 k j (by omega)) (by omega) (cm_ty36 hg2962 cm1) La.2.1 Q2963.2.2.1
              have ZI : zI Z τ1 h0 h2963 36 := zI_a (n := L.length) (zI_s zj Qb.1 u1 (by decide) (fun k j h1 h2 => F2962 k j h1 h2) ra1 nw2962) La.2.1 (by omega) ra1 (by omega) (fun k j c _ => F2963 k j (by omega))
              exact ⟨τ1, u1, W, ⟨Q2963.1, CM, kx_up ml (((F2963 35 0 (by omega)).trans (F2962 35 0 (by omega) (by omega)))), ⟨_, (((F2963 35 6 (by omega)).trans (F2962 35 6 (by omega) (by omega)))).trans hn, by omega⟩, ci_up c7 (((F2963 35 7 (by omega)).trans (F2962 35 7 (by omega) (by omega)))), FW, ci_up cd (((F2963 38 2 (by omega)).trans (F2962 38 2 (by omega) (by omega)))), gR_up gr (((F2963 35 10 (by omega)).trans (F2962 35 10 (by omega) (by omega)))), FE⟩, ((F2963 35 8 (by omega)).trans (F2962 35 8 (by omega) (by omega))), ZI, Or.inr ⟨by omega, br_none3 ke n2963 ty2964⟩⟩
            ·
              refine y_iF (c := .ne) (off := 7) (len := 3) (r := (0, 0, 0, 0)) (by decide +kernel) (acmpF (c := .ne) (by show _ = _; omega)) ?_
              refine y_ic (c := 1) (len := 1) (r := (0, 0, 0, 0)) (by decide +kernel) (by decide) (fun y2966 hy2966 => ?_)
              refine y_goto (off := 4) (pc' := 76) (len := 3) (r := (0, 0, 0, 0)) (by decide +kernel) (by decide +kernel) ?_
              refine y_rI (len := 1) (r := (0, 0, 0, 0)) (nL := 5) (k := 2) (n9 := 3) (hs := []) (by decide +kernel) rfl (zfit_b (by omega) (by omega)).2 ?_
              have FE : ∀ (k9 : Nat) (e9 : enT), L[k9]? = some e9 → prE τ1 h2963 36 k9 e9 := fun k9 e9 hk9 => prE_up (pE k9 e9 hk9) u1 Q2963.1 (fun a9 r9 g9 t9 k j hC => by
                have l9 := (List.getElem?_eq_some_iff.mp hk9).1
                have q9 := ty_lt Qb.1 t9.2.2.2.2.2.2.2.2
                have hl9 := len_389 Qb.1
                have n9 : a9 ≠ a := fun e8 => by
                  subst e8
                  have e7 := cm1.2 k9 L.length _ (by omega) (by omega) (rfs_up r9 ((F2962 36 k9 (by omega) (by omega)))) ra1
                  omega
                have d9 := dis_Q (tyQ_up u1 t9) La.2.1 n9
                rcases hC with ⟨q1, q2⟩ | ⟨h1, h2⟩
                · rw [q1, q2]
                  exact ((F2963 36 k9 (by omega)).trans (F2962 36 k9 (by omega) (by omega)))
                · exact ((F2963 k j (by omega)).trans (F2962 k j (by omega) (by omega))))
              have FW : ∀ (j w9 : Nat), W[j]? = some w9 → ci_ h2963 37 j w9 := fun j w9 hj => by
                exact ci_up (cw j w9 hj) (((F2963 37 j (by omega)).trans (F2962 37 j (by omega) (by omega))))
              have CM : cmI h2963 36 := cm2 cm1 hg2962 (fun k j c _ => F2963 k j (by omega)) (by omega) (cm_ty36 hg2962 cm1) La.2.1 Q2963.2.2.1
              have ZI : zI Z τ1 h0 h2963 36 := zI_a (n := L.length) (zI_s zj Qb.1 u1 (by decide) (fun k j h1 h2 => F2962 k j h1 h2) ra1 nw2962) La.2.1 (by omega) ra1 (by omega) (fun k j c _ => F2963 k j (by omega))
              have NF : ¬ (w = false ∧ (e.2.1 = 6 ∨ e.2.1 = 7)) := fun q9 => ty2953 q9.2
              exact ⟨τ1, u1, W, ⟨Q2963.1, CM, kx_up ml (((F2963 35 0 (by omega)).trans (F2962 35 0 (by omega) (by omega)))), ⟨_, (((F2963 35 6 (by omega)).trans (F2962 35 6 (by omega) (by omega)))).trans hn, by omega⟩, ci_up c7 (((F2963 35 7 (by omega)).trans (F2962 35 7 (by omega) (by omega)))), FW, ci_up cd (((F2963 38 2 (by omega)).trans (F2962 38 2 (by omega) (by omega)))), gR_up gr (((F2963 35 10 (by omega)).trans (F2962 35 10 (by omega) (by omega)))), FE⟩, ((F2963 35 8 (by omega)).trans (F2962 35 8 (by omega) (by omega))), ZI, Or.inl ⟨by omega, (by rw [if_neg (by exact NF)]), a, s9, rfs_up ra1 ((F2963 36 (L.length) (by omega))), ha1, Q2963, ty2964, n2963, by omega, by omega⟩⟩
          ·
            have Q2963_b := QC_fr Q2962 Q2963.1 F2963 (by omega)
            refine y_iT (c := .eq) (off := 15) (pc' := 75) (len := 3) (r := (0, 0, 0, 0)) (by decide +kernel) (acmpT (c := .eq) (by show _ = _; omega)) (by decide +kernel) ?_
            refine y_ic (c := 0) (len := 1) (r := (0, 0, 0, 0)) (by decide +kernel) (by decide) (fun y2967 hy2967 => ?_)
            refine y_rI (len := 1) (r := (0, 0, 0, 0)) (nL := 5) (k := 2) (n9 := 3) (hs := []) (by decide +kernel) rfl (zfit_b (by omega) (by omega)).2 ?_
            have FE : ∀ (k9 : Nat) (e9 : enT), L[k9]? = some e9 → prE τ1 h2963 36 k9 e9 := fun k9 e9 hk9 => prE_up (pE k9 e9 hk9) u1 Q2963.1 (fun a9 r9 g9 t9 k j hC => by
              have l9 := (List.getElem?_eq_some_iff.mp hk9).1
              have q9 := ty_lt Qb.1 t9.2.2.2.2.2.2.2.2
              have hl9 := len_389 Qb.1
              have n9 : a9 ≠ a := fun e8 => by
                subst e8
                have e7 := cm1.2 k9 L.length _ (by omega) (by omega) (rfs_up r9 ((F2962 36 k9 (by omega) (by omega)))) ra1
                omega
              have d9 := dis_Q (tyQ_up u1 t9) La.2.1 n9
              rcases hC with ⟨q1, q2⟩ | ⟨h1, h2⟩
              · rw [q1, q2]
                exact ((F2963 36 k9 (by omega)).trans (F2962 36 k9 (by omega) (by omega)))
              · exact ((F2963 k j (by omega)).trans (F2962 k j (by omega) (by omega))))
            have FW : ∀ (j w9 : Nat), W[j]? = some w9 → ci_ h2963 37 j w9 := fun j w9 hj => by
              exact ci_up (cw j w9 hj) (((F2963 37 j (by omega)).trans (F2962 37 j (by omega) (by omega))))
            have CM : cmI h2963 36 := cm2 cm1 hg2962 (fun k j c _ => F2963 k j (by omega)) (by omega) (cm_ty36 hg2962 cm1) La.2.1 Q2963.2.2.1
            have ZI : zI Z τ1 h0 h2963 36 := zI_a (n := L.length) (zI_s zj Qb.1 u1 (by decide) (fun k j h1 h2 => F2962 k j h1 h2) ra1 nw2962) La.2.1 (by omega) ra1 (by omega) (fun k j c _ => F2963 k j (by omega))
            exact ⟨τ1, u1, W, ⟨Q2963.1, CM, kx_up ml (((F2963 35 0 (by omega)).trans (F2962 35 0 (by omega) (by omega)))), ⟨_, (((F2963 35 6 (by omega)).trans (F2962 35 6 (by omega) (by omega)))).trans hn, by omega⟩, ci_up c7 (((F2963 35 7 (by omega)).trans (F2962 35 7 (by omega) (by omega)))), FW, ci_up cd (((F2963 38 2 (by omega)).trans (F2962 38 2 (by omega) (by omega)))), gR_up gr (((F2963 35 10 (by omega)).trans (F2962 35 10 (by omega) (by omega)))), FE⟩, ((F2963 35 8 (by omega)).trans (F2962 35 8 (by omega) (by omega))), ZI, Or.inr ⟨by omega, br_none2 ke n2963⟩⟩
    ·
      refine y_cF (c := .lt) (off := 5) (len := 3) (r := (0, 0, 0, 0)) (by decide +kernel) (acmpF (c := .lt) (by show _ ≤ _; omega)) ?_
      refine y_ic (c := 0) (len := 1) (r := (0, 0, 0, 0)) (by decide +kernel) (by decide) (fun y2968 hy2968 => ?_)
      refine y_rI (len := 1) (r := (0, 0, 0, 0)) (nL := 5) (k := 2) (n9 := 3) (hs := []) (by decide +kernel) rfl (zfit_b (by omega) (by omega)).2 ?_
      exact ⟨τ, aup_refl _, W, ⟨Qb.1, cm, ml, ⟨_, hn, by omega⟩, c7, cw, cd, gr, pE⟩, rfl, zj, Or.inr ⟨by omega, br_none1 ke (by omega)⟩⟩
