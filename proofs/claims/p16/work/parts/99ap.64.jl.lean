/-! the class's prover: judge -/
theorem jh_e35 {Z : Nat → Prop} {h0 : zh} {d t i r : Nat} {τ : List Nat} {h : zh} {L : List enT} {W : List Nat} {xi : Int32} {l3 l4 l5 : Option zv} (I : prJ Z h0 τ h 35 1 L W) (hl : L.length ≤ 300) (ho : kx_ h 35 8 (r : Int)) (hr : r < 3) (hxi : xi.toInt = (i : Int)) (hi : i ≤ 299) : qX (d + 8) 37 156 [some (.inl (some 35)), some (.inl (some 2)), some (zi xi), l3, l4, l5] [] h t (rV (fun h1 => ∃ τ1, aup τ τ1 ∧ jdZ Z h0 τ1 h1 35 (L, r)) t) := by
  obtain ⟨⟨hg, cm, ml, c6, c7, cw, cd, gr, pE⟩, zj, ch⟩ := I
  obtain ⟨xo, ho8, eo8⟩ := ho
  refine y_inc (j := 2) (a := xi) (c := 1) (ls' := fun v => [some (.inl (some 35)), some (.inl (some 2)), some v, l3, l4, l5]) (len := 3) (r := (0, 0, 0, 0)) (by decide +kernel) rfl (fun _ => rfl) (by decide) (by omega) (by omega) (fun y2969 hy2969 => ?_)
  show qX (d + 8) 37 159 [some (.inl (some 35)), some (.inl (some 2)), some (zi y2969), l3, l4, l5] [] h t _
  refine y_goto (off := (-124)) (pc' := 35) (len := 3) (r := (0, 0, 0, 0)) (by decide +kernel) (by decide +kernel) ?_
  refine y_same (i := .iload_n 2) (len := 1) (r := (0, 0, 0, 0)) (pc' := 36) (ls' := [some (.inl (some 35)), some (.inl (some 2)), some (zi y2969), l3, l4, l5]) (st' := [zi y2969]) (by decide +kernel) (fun k q => by cases q) rfl ?_
  refine y_si (c := 300) (len := 3) (r := (0, 0, 0, 0)) (by decide +kernel) (by decide) (fun y2970 hy2970 => ?_)
  refine y_cF (c := .gt) (off := 123) (len := 3) (r := (0, 0, 0, 0)) (by decide +kernel) (acmpF (c := .gt) (by show _ ≤ _; omega)) ?_
  refine y_same (i := .aload_n 0) (len := 1) (r := (0, 0, 0, 0)) (pc' := 43) (ls' := [some (.inl (some 35)), some (.inl (some 2)), some (zi y2969), l3, l4, l5]) (st' := [.inl (some 35)]) (by decide +kernel) (fun k q => by cases q) rfl ?_
  refine y_get (j := 42) (len := 3) (r := (4, 8, 0, 292)) (by decide +kernel) hg (tv35 hg) aw35 rfl rfl ho8 ?_
  refine y_ic (c := 3) (len := 1) (r := (0, 0, 0, 0)) (by decide +kernel) (by decide) (fun y2971 hy2971 => ?_)
  refine y_cT (c := .ne) (off := 115) (pc' := 162) (len := 3) (r := (0, 0, 0, 0)) (by decide +kernel) (acmpT (c := .ne) (by show ¬ (_ = _); omega)) (by decide +kernel) ?_
  refine y_same (i := .aload_n 0) (len := 1) (r := (0, 0, 0, 0)) (pc' := 163) (ls' := [some (.inl (some 35)), some (.inl (some 2)), some (zi y2969), l3, l4, l5]) (st' := [.inl (some 35)]) (by decide +kernel) (fun k q => by cases q) rfl ?_
  refine y_ic (c := 1) (len := 1) (r := (0, 0, 0, 0)) (by decide +kernel) (by decide) (fun y2972 hy2972 => ?_)
  refine y_put (j := 31) (lo := 0) (hi := 1) (len := 3) (r := (4, 5, 1, 287)) (by decide +kernel) hg (tv35 hg) aw35 rfl rfl (by decide) rfl (by omega) (by omega) (zfit_b (by omega) (by omega)).1 (fun h2973 hg2973 hl2973 hs2973 ho2973 => ?_)
  have ho2973 : hO 35 5 h h2973 := ho2973
  have hs2973 : hsl h2973 35 5 = some (zi y2972) := hs2973
  refine y_rV (len := 1) (r := (0, 0, 0, 0)) (nL := 6) (n9 := 2) (hs := []) (by decide +kernel) rfl ?_
  exact ⟨τ, aup_refl _, ⟨hg2973, cmI_up cm (fun k => (ho2973 36 k (by omega))) (fun a9 g9 l => laQ_up l (fun k j _ _ _ _ => (ho2973 k j (by omega)))), ⟨_, hs2973, by omega⟩, ⟨_, ((ho2973 35 8 (by omega))).trans ho8, eo8⟩, ci_up c6 ((ho2973 35 6 (by omega))), hl, ci_up cd ((ho2973 38 2 (by omega))), gR_up gr ((ho2973 35 10 (by omega))), fun k e hk => prE_fr (pE k e hk) hg2973 (fun k j _ => (ho2973 k j (by omega)))⟩, zI_fr zj (fun k j _ => (ho2973 k j (by omega)))⟩
theorem bh_l35 {Z : Nat → Prop} {h0 : zh} {cy : cyT} (hcy : ∀ L i, cy L i = fun _ => False) {d t i i9 : Nat} {R : List enT × Nat} {τ : List Nat} {h : zh} {L : List enT} {W : List Nat} {e : enT} {w : Bool} {xi x3 x4 x5 : Int32} (I : prJ Z h0 τ h 35 1 L W) (wl : ∀ e ∈ L, wfE e) (ke : L[i]? = some e) (wf : wfE e) (h3 : 3 ≤ e.2.1) (h8 : e.2.1 ≤ 8) (hx5 : x5.toInt = (i : Int)) (hx4 : x4.toInt = if w = true then 1 else 0) (hlen : L.length ≤ 300) (hW : x4.toInt = 0 → W.length < 40) (hxi : xi.toInt = (i9 : Int)) (hi9 : i9 + 1 = L.length) (ho : kx_ h 35 8 3) (kn : brF cy true L i w = none → R = (L, 2)) (kk : ∀ (τ1 : List Nat) (h1 : zh) (E : enT) (W1 : List Nat) (xi1 : Int32) (l3 l4 l5 : Option zv), aup τ τ1 → prJ Z h0 τ1 h1 35 1 (L ++ [E]) W1 → W1 = (if w = false ∧ (e.2.1 = 6 ∨ e.2.1 = 7) then W ++ [i] else W) → brF cy true L i w = some E → wfE E → E.2.2.2.2.1 = e.2.2.2.2.1 + 1 → L.length < 300 → kx_ h1 35 8 3 → xi1.toInt = (L.length : Int) → qX (d + 8) 37 35 [some (.inl (some 35)), some (.inl (some 2)), some (zi xi1), l3, l4, l5] [] h1 t (rV (fun h2 => ∃ τ2, aup τ1 τ2 ∧ jdZ Z h0 τ2 h2 35 R) t)) : qX (d + 8) 37 131 [some (.inl (some 35)), some (.inl (some 2)), some (zi xi), some (zi x3), some (zi x4), some (zi x5)] [] h t (rV (fun h1 => ∃ τ1, aup τ τ1 ∧ jdZ Z h0 τ1 h1 35 R) t) := by
  obtain ⟨xo, ho8, eo8⟩ := ho
  obtain ⟨hg, cm, ml, c6, c7, cw, cd, gr, pE⟩ := id I.1
  have zj := I.2.1
  have ch := I.2.2
  refine y_same (i := .aload_n 0) (len := 1) (r := (0, 0, 0, 0)) (pc' := 132) (ls' := [some (.inl (some 35)), some (.inl (some 2)), some (zi xi), some (zi x3), some (zi x4), some (zi x5)]) (st' := [.inl (some 35)]) (by decide +kernel) (fun k q => by cases q) rfl ?_
  refine y_same (i := .iload 5) (len := 2) (r := (0, 0, 0, 0)) (pc' := 134) (ls' := [some (.inl (some 35)), some (.inl (some 2)), some (zi xi), some (zi x3), some (zi x4), some (zi x5)]) (st' := [zi x5, .inl (some 35)]) (by decide +kernel) (fun k q => by cases q) rfl ?_
  refine y_same (i := .iload 4) (len := 2) (r := (0, 0, 0, 0)) (pc' := 136) (ls' := [some (.inl (some 35)), some (.inl (some 2)), some (zi xi), some (zi x3), some (zi x4), some (zi x5)]) (st' := [zi x4, zi x5, .inl (some 35)]) (by decide +kernel) (fun k q => by cases q) rfl ?_
  refine y_cI (i := .invokevirtual 100) (len := 3) (r := (0, 41, 4, 767)) (nL := 5) (k := 2) (n := 3) (hs := []) (args := [.inl (some 35), zi x5, zi x4]) (rest := []) (l0 := [some (.inl (some 35)), some (zi x5), some (zi x4), none, none]) (by decide +kernel) (Or.inr (Or.inl ⟨_, rfl⟩)) rfl rfl rfl rfl (Nat.le_of_ble_eq_true rfl) (zO hg (tv35 hg) aw35 rfl) rfl (qI_le (by omega) (e_brh35 (cy := cy) (d := 0) (i := i) (w := w) I.1 zj ke wf h3 h8 (by omega) hx4 hlen hW)) (fun y2974 h2974 hRy2974 => ?_)
  obtain ⟨τ1, u1, W1, I1, f8, zj1, hDy2974⟩ := hRy2974
  obtain ⟨hg2974, cm1, ml1, c61, c71, cw1, cd1, gr1, pE1⟩ := id I1
  rcases hDy2974 with ⟨vy, eW, a, s9, ra, ha, Qa, nb, nx, l300, r40⟩ | ⟨vy, bn⟩
  ·
    refine y_iF (c := .eq) (off := 12) (len := 3) (r := (0, 0, 0, 0)) (by decide +kernel) (acmpF (c := .eq) (by show ¬ (_ = _); omega)) ?_
    refine y_same (i := .aload_n 0) (len := 1) (r := (0, 0, 0, 0)) (pc' := 143) (ls' := [some (.inl (some 35)), some (.inl (some 2)), some (zi xi), some (zi x3), some (zi x4), some (zi x5)]) (st' := [.inl (some 35)]) (by decide +kernel) (fun k q => by cases q) rfl ?_
    refine y_same (i := .iload 5) (len := 2) (r := (0, 0, 0, 0)) (pc' := 145) (ls' := [some (.inl (some 35)), some (.inl (some 2)), some (zi xi), some (zi x3), some (zi x4), some (zi x5)]) (st' := [zi x5, .inl (some 35)]) (by decide +kernel) (fun k q => by cases q) rfl ?_
    obtain ⟨b, rb, hb, lb, c4, c6, c5, qb, c8, c9⟩ := pE1 i e ke
    have hil := (List.getElem?_eq_some_iff.mp ke).1
    have nab : b ≠ a := fun e9 => by
      subst e9
      have e8 := cm1.2 i L.length _ (by omega) (by omega) rb ra
      omega
    have dab := dis_Q lb.2.1 Qa.2.1 nab
    refine y_cV (i := .invokevirtual 92) (len := 3) (r := (0, 42, 4, 631)) (nL := 4) (k := 0) (n := 2) (hs := []) (args := [.inl (some 35), zi x5]) (rest := []) (l0 := [some (.inl (some 35)), some (zi x5), none, none]) (by decide +kernel) (Or.inr (Or.inl ⟨_, rfl⟩)) rfl rfl rfl rfl (Nat.le_of_ble_eq_true rfl) (zO hg2974 (tv35 hg2974) aw35 rfl) rfl (qV_le (by omega) (e_set35n (d := 0) (n := L.length) (i := i) (row := e.2.2.2.2.1) (dn := dns L) ha Qa nb ra (by omega) c61 ml1 gr1 cd1 (Nat.le_trans dns_le (by omega)) (by omega) (by omega) rb hb lb.2.1.1 c6 (by omega) (by omega))) (fun h2975 hR2975 => ?_)
    obtain ⟨e9, sR, hg2975, pN, cN, dN, gN, F2975⟩ := hR2975
    refine y_goto (off := 8) (pc' := 156) (len := 3) (r := (0, 0, 0, 0)) (by decide +kernel) (by decide +kernel) ?_
    refine y_inc (j := 2) (a := xi) (c := 1) (ls' := fun v => [some (.inl (some 35)), some (.inl (some 2)), some v, some (zi x3), some (zi x4), some (zi x5)]) (len := 3) (r := (0, 0, 0, 0)) (by decide +kernel) rfl (fun _ => rfl) (by decide) (by omega) (by omega) (fun y2976 hy2976 => ?_)
    show qX (d + 8) 37 159 [some (.inl (some 35)), some (.inl (some 2)), some (zi y2976), some (zi x3), some (zi x4), some (zi x5)] [] h2975 t _
    refine y_goto (off := (-124)) (pc' := 35) (len := 3) (r := (0, 0, 0, 0)) (by decide +kernel) (by decide +kernel) ?_
    have okq := Qa.2.2.2.2
    obtain ⟨sE, ag⟩ := setF_ag (cy := cy) (lv := true) (L := L) (okS_Q okq) (by rw [hcy]; exact sR)
    have pF := prE_ag pN ag
    have wE := wf_set sE nb (by omega) (by omega) (prE_ok pF)
    have eb := br_some (cy := cy) (lv := true) (w := w) ke l300 r40 nx nb
    have I2a : prI τ1 h2975 35 1 (L ++ [setF cy true L s9 (i : Int) (e.2.2.2.2.1 + 1)]) W1 := by
      refine ⟨hg2975, cm2 cm1 hg2974 (fun k j h1 h2 => F2975 k j h1 (by omega) (by omega)) (by omega) (cm_ty36 hg2974 cm1) Qa.2.1 (by obtain ⟨a9, r9, -, l9, -⟩ := pF; have e7 := rfs_eq r9 (rfs_up ra ((F2975 36 (L.length) (by omega) (by omega) (by omega)))); rw [e7] at l9; exact l9.2.2), kx_up ml1 ((F2975 35 0 (by omega) (by omega) (by omega))), by rw [sn_len]; exact cN, ci_up c71 ((F2975 35 7 (by omega) (by omega) (by omega))), fun j w9 hj => ci_up (cw1 j w9 hj) ((F2975 37 j (by omega) (by omega) (by omega))), ?_, gN, fun k e8 hk => ?_⟩
      · rw [dns_app, ← ag.1]
        exact dN
      · rcases sn_cs hk with hk | ⟨rfl, rfl⟩
        · refine prE_up (pE1 k e8 hk) (aup_refl _) hg2975 (fun a9 r9 g9 t9 k8 j hC => ?_)
          have l9 := (List.getElem?_eq_some_iff.mp hk).1
          have n9 : a9 ≠ a := fun e7 => by
            subst e7
            have e6 := cm1.2 k L.length _ (by omega) (by omega) r9 ra
            omega
          have d9 := dis_Q t9 Qa.2.1 n9
          rcases hC with ⟨q1, q2⟩ | ⟨h1, h2⟩
          · rw [q1, q2]
            exact (F2975 36 k (by omega) (by omega) (by omega))
          · exact (F2975 k8 j (by omega) (by omega) (by omega))
        · exact pF
    have I2 : prJ Z h0 τ1 h2975 35 1 (L ++ [setF cy true L s9 (i : Int) (e.2.2.2.2.1 + 1)]) W1 := ⟨I2a, zI_a (n := L.length) zj1 Qa.2.1 (by omega) ra (by omega) (fun k j c1 c2 => F2975 k j c1 (by omega) (by omega)), chI_app ch ke sE.2.1 sE.1 h3 h8⟩
    refine qX_V (kk τ1 h2975 _ W1 y2976 (some (zi x3)) (some (zi x4)) (some (zi x5)) u1 I2 eW eb wE (sE.1) l300 ⟨_, ((F2975 35 8 (by omega) (by omega) (by omega))).trans (f8.trans ho8), eo8⟩ (by omega)) (fun h2 hR => ?_)
    obtain ⟨τ2, u2, o2⟩ := hR
    exact ⟨τ2, aup_trans u1 u2, o2⟩
  ·
    refine y_iT (c := .eq) (off := 12) (pc' := 151) (len := 3) (r := (0, 0, 0, 0)) (by decide +kernel) (acmpT (c := .eq) (by show _ = _; omega)) (by decide +kernel) ?_
    refine y_same (i := .aload_n 0) (len := 1) (r := (0, 0, 0, 0)) (pc' := 152) (ls' := [some (.inl (some 35)), some (.inl (some 2)), some (zi xi), some (zi x3), some (zi x4), some (zi x5)]) (st' := [.inl (some 35)]) (by decide +kernel) (fun k q => by cases q) rfl ?_
    refine y_ic (c := 2) (len := 1) (r := (0, 0, 0, 0)) (by decide +kernel) (by decide) (fun y2977 hy2977 => ?_)
    refine y_put (j := 42) (lo := (-2147483648)) (hi := 2147483647) (len := 3) (r := (4, 8, 0, 292)) (by decide +kernel) hg2974 (tv35 hg2974) aw35 rfl rfl (by decide) rfl (qin_full _).1 (qin_full _).2 rfl (fun h2978 hg2978 hl2978 hs2978 ho2978 => ?_)
    have ho2978 : hO 35 8 h2974 h2978 := ho2978
    have hs2978 : hsl h2978 35 8 = some (zi y2977) := hs2978
    have I2 : prJ Z h0 τ1 h2978 35 1 L W1 := ⟨⟨hg2978, cmI_up cm1 (fun k => (ho2978 36 k (by omega))) (fun a9 g9 l => laQ_up l (fun k j _ _ _ _ => (ho2978 k j (by omega)))), kx_up ml1 ((ho2978 35 0 (by omega))), ci_up c61 ((ho2978 35 6 (by omega))), ci_up c71 ((ho2978 35 7 (by omega))), fun j w9 hj => ci_up (cw1 j w9 hj) ((ho2978 37 j (by omega))), ci_up cd1 ((ho2978 38 2 (by omega))), gR_up gr1 ((ho2978 35 10 (by omega))), fun k e hk => prE_fr (pE1 k e hk) hg2978 (fun k j _ => (ho2978 k j (by omega)))⟩, zI_fr zj1 (fun k j _ => (ho2978 k j (by omega))), ch⟩
    rw [kn bn]
    refine qX_V (jh_e35 (r := 2) I2 hlen ⟨_, hs2978, by show _ = ((2 : Nat) : Int); omega⟩ (by decide) hxi (by omega)) (fun h2 hR => ?_)
    obtain ⟨τ2, u2, o2⟩ := hR
    exact ⟨τ2, aup_trans u1 u2, o2⟩
theorem jh_l35 {Z : Nat → Prop} {h0 : zh} {cy : cyT} (hcy : ∀ L i, cy L i = fun _ => False) {d t : Nat} : ∀ (f : Nat) (τ : List Nat) (h : zh) (L : List enT) (E : enT) (W : List Nat) (xi : Int32) (l3 l4 l5 : Option zv), prJ Z h0 τ h 35 1 (L ++ [E]) W → (∀ e ∈ L ++ [E], wfE e) → wkI (L ++ [E]) W E → f + (L ++ [E]).length = 301 → 1 ≤ f → xi.toInt = (L.length : Int) → kx_ h 35 8 3 → qX (d + 8) 37 35 [some (.inl (some 35)), some (.inl (some 2)), some (zi xi), l3, l4, l5] [] h t (rV (fun h1 => ∃ τ1, aup τ τ1 ∧ jdZ Z h0 τ1 h1 35 (conF cy true f L E (stk W))) t) := by
  intro f
  induction f with
  | zero =>
    intro τ h L E W xi l3 l4 l5 I wl wk hf h1 hxi ho
    omega
  | succ g ih =>
    intro τ h L E W xi l3 l4 l5 I wl wk hf h1 hxi ho
    obtain ⟨hg, cm, ml, c6, c7, cw, cd, gr, pE⟩ := id I.1
    have zj := I.2.1
    have ch := I.2.2
    obtain ⟨b, rb, hb, lb, c4, c6b, c5b, qb, c8b, c9b⟩ := pE L.length E sn_get
    obtain ⟨xs, hs4, es4⟩ := c4
    obtain ⟨xo, ho8, eo8⟩ := ho
    have sl := sn_len (L := L) (E := E)
    obtain ⟨xn, hn6, en6⟩ := id c6
    have wl8 := (wl E (List.mem_append_right _ List.mem_cons_self)).2.2.2
    rcases (show E.2.1 ≤ 2 ∨ E.2.1 = 9 ∨ (3 ≤ E.2.1 ∧ E.2.1 ≤ 8) by omega) with sc | s9 | sc
    · rcases List.eq_nil_or_concat W with eW | ⟨W2, w9, eW⟩
      · subst eW
        refine y_same (i := .iload_n 2) (len := 1) (r := (0, 0, 0, 0)) (pc' := 36) (ls' := [some (.inl (some 35)), some (.inl (some 2)), some (zi xi), l3, l4, l5]) (st' := [zi xi]) (by decide +kernel) (fun k q => by cases q) rfl ?_
        refine y_si (c := 300) (len := 3) (r := (0, 0, 0, 0)) (by decide +kernel) (by decide) (fun y2992 hy2992 => ?_)
        refine y_cF (c := .gt) (off := 123) (len := 3) (r := (0, 0, 0, 0)) (by decide +kernel) (acmpF (c := .gt) (by show _ ≤ _; omega)) ?_
        refine y_same (i := .aload_n 0) (len := 1) (r := (0, 0, 0, 0)) (pc' := 43) (ls' := [some (.inl (some 35)), some (.inl (some 2)), some (zi xi), l3, l4, l5]) (st' := [.inl (some 35)]) (by decide +kernel) (fun k q => by cases q) rfl ?_
        refine y_get (j := 42) (len := 3) (r := (4, 8, 0, 292)) (by decide +kernel) hg (tv35 hg) aw35 rfl rfl ho8 ?_
        refine y_ic (c := 3) (len := 1) (r := (0, 0, 0, 0)) (by decide +kernel) (by decide) (fun y2993 hy2993 => ?_)
        refine y_cF (c := .ne) (off := 115) (len := 3) (r := (0, 0, 0, 0)) (by decide +kernel) (acmpF (c := .ne) (by show _ = _; omega)) ?_
        refine y_same (i := .aload_n 0) (len := 1) (r := (0, 0, 0, 0)) (pc' := 51) (ls' := [some (.inl (some 35)), some (.inl (some 2)), some (zi xi), l3, l4, l5]) (st' := [.inl (some 35)]) (by decide +kernel) (fun k q => by cases q) rfl ?_
        refine y_get (j := 35) (len := 3) (r := (4, 6, 0, 289)) (by decide +kernel) hg (tv35 hg) aw35 rfl rfl hn6 ?_
        refine y_ic (c := 1) (len := 1) (r := (0, 0, 0, 0)) (by decide +kernel) (by decide) (fun y2994 hy2994 => ?_)
        refine y_sub (len := 1) (r := (0, 0, 0, 0)) (by decide +kernel) (by omega) (by omega) (fun y2995 hy2995 => ?_)
        refine y_same (i := .istore_n 3) (len := 1) (r := (0, 0, 0, 0)) (pc' := 57) (ls' := [some (.inl (some 35)), some (.inl (some 2)), some (zi xi), some (zi y2995), l4, l5]) (st' := []) (by decide +kernel) (fun k q => by cases q) rfl ?_
        refine y_same (i := .aload_n 0) (len := 1) (r := (0, 0, 0, 0)) (pc' := 58) (ls' := [some (.inl (some 35)), some (.inl (some 2)), some (zi xi), some (zi y2995), l4, l5]) (st' := [.inl (some 35)]) (by decide +kernel) (fun k q => by cases q) rfl ?_
        refine y_same (i := .iload_n 3) (len := 1) (r := (0, 0, 0, 0)) (pc' := 59) (ls' := [some (.inl (some 35)), some (.inl (some 2)), some (zi xi), some (zi y2995), l4, l5]) (st' := [zi y2995, .inl (some 35)]) (by decide +kernel) (fun k q => by cases q) rfl ?_
        refine y_cA (i := .invokevirtual 67) (len := 3) (r := (0, 33, 4, 505)) (nL := 3) (k := 3) (n := 2) (hs := []) (args := [.inl (some 35), zi y2995]) (rest := []) (l0 := [some (.inl (some 35)), some (zi y2995), none]) (by decide +kernel) (Or.inr (Or.inl ⟨_, rfl⟩)) rfl rfl rfl rfl (Nat.le_of_ble_eq_true rfl) (zO hg (tv35 hg) aw35 rfl) rfl (qA_le (by omega) (e_slo35 (d := 0) (k := L.length) hg (by omega) (by omega) rb)) (fun h2996 hR2996 => ?_)
        obtain rfl := hR2996
        refine y_get (j := 71) (len := 3) (r := (7, 4, 0, 20543)) (by decide +kernel) hg lb.2.1.1 aw1008 rfl rfl hs4 ?_
        refine y_ic (c := 2) (len := 1) (r := (0, 0, 0, 0)) (by decide +kernel) (by decide) (fun y2997 hy2997 => ?_)
        refine y_cF (c := .gt) (off := 7) (len := 3) (r := (0, 0, 0, 0)) (by decide +kernel) (acmpF (c := .gt) (by show _ ≤ _; omega)) ?_
        refine y_ic (c := 1) (len := 1) (r := (0, 0, 0, 0)) (by decide +kernel) (by decide) (fun y2998 hy2998 => ?_)
        refine y_goto (off := 4) (pc' := 74) (len := 3) (r := (0, 0, 0, 0)) (by decide +kernel) (by decide +kernel) ?_
        refine y_same (i := .istore 4) (len := 2) (r := (0, 0, 0, 0)) (pc' := 76) (ls' := [some (.inl (some 35)), some (.inl (some 2)), some (zi xi), some (zi y2995), some (zi y2998), l5]) (st' := []) (by decide +kernel) (fun k q => by cases q) rfl ?_
        refine y_same (i := .iload 4) (len := 2) (r := (0, 0, 0, 0)) (pc' := 78) (ls' := [some (.inl (some 35)), some (.inl (some 2)), some (zi xi), some (zi y2995), some (zi y2998), l5]) (st' := [zi y2998]) (by decide +kernel) (fun k q => by cases q) rfl ?_
        refine y_iF (c := .eq) (off := 10) (len := 3) (r := (0, 0, 0, 0)) (by decide +kernel) (acmpF (c := .eq) (by show ¬ (_ = _); omega)) ?_
        refine y_same (i := .aload_n 0) (len := 1) (r := (0, 0, 0, 0)) (pc' := 82) (ls' := [some (.inl (some 35)), some (.inl (some 2)), some (zi xi), some (zi y2995), some (zi y2998), l5]) (st' := [.inl (some 35)]) (by decide +kernel) (fun k q => by cases q) rfl ?_
        refine y_cI (i := .invokevirtual 96) (len := 3) (r := (0, 39, 4, 763)) (nL := 1) (k := 1) (n := 1) (hs := []) (args := [.inl (some 35)]) (rest := []) (l0 := [some (.inl (some 35))]) (by decide +kernel) (Or.inr (Or.inl ⟨_, rfl⟩)) rfl rfl rfl rfl (Nat.le_of_ble_eq_true rfl) (zO hg (tv35 hg) aw35 rfl) rfl (qI_le (by omega) (e_tw035 (d := 0) hg c7)) (fun y2999 qy2999 hRy2999 => ?_)
        obtain ⟨rfl, ey2999⟩ := hRy2999
        refine y_goto (off := 4) (pc' := 89) (len := 3) (r := (0, 0, 0, 0)) (by decide +kernel) (by decide +kernel) ?_
        refine y_same (i := .istore 5) (len := 2) (r := (0, 0, 0, 0)) (pc' := 91) (ls' := [some (.inl (some 35)), some (.inl (some 2)), some (zi xi), some (zi y2995), some (zi y2998), some (zi y2999)]) (st' := []) (by decide +kernel) (fun k q => by cases q) rfl ?_
        refine y_same (i := .aload_n 0) (len := 1) (r := (0, 0, 0, 0)) (pc' := 92) (ls' := [some (.inl (some 35)), some (.inl (some 2)), some (zi xi), some (zi y2995), some (zi y2998), some (zi y2999)]) (st' := [.inl (some 35)]) (by decide +kernel) (fun k q => by cases q) rfl ?_
        refine y_same (i := .iload_n 3) (len := 1) (r := (0, 0, 0, 0)) (pc' := 93) (ls' := [some (.inl (some 35)), some (.inl (some 2)), some (zi xi), some (zi y2995), some (zi y2998), some (zi y2999)]) (st' := [zi y2995, .inl (some 35)]) (by decide +kernel) (fun k q => by cases q) rfl ?_
        refine y_cA (i := .invokevirtual 67) (len := 3) (r := (0, 33, 4, 505)) (nL := 3) (k := 3) (n := 2) (hs := []) (args := [.inl (some 35), zi y2995]) (rest := []) (l0 := [some (.inl (some 35)), some (zi y2995), none]) (by decide +kernel) (Or.inr (Or.inl ⟨_, rfl⟩)) rfl rfl rfl rfl (Nat.le_of_ble_eq_true rfl) (zO hg (tv35 hg) aw35 rfl) rfl (qA_le (by omega) (e_slo35 (d := 0) (k := L.length) hg (by omega) (by omega) rb)) (fun h3000 hR3000 => ?_)
        obtain rfl := hR3000
        refine y_get (j := 71) (len := 3) (r := (7, 4, 0, 20543)) (by decide +kernel) hg lb.2.1.1 aw1008 rfl rfl hs4 ?_
        refine y_bi (c := 9) (len := 2) (r := (0, 0, 0, 0)) (by decide +kernel) (by decide) (fun y3001 hy3001 => ?_)
        refine y_cT (c := .ne) (off := 16) (pc' := 117) (len := 3) (r := (0, 0, 0, 0)) (by decide +kernel) (acmpT (c := .ne) (by show ¬ (_ = _); omega)) (by decide +kernel) ?_
        refine y_same (i := .iload 5) (len := 2) (r := (0, 0, 0, 0)) (pc' := 119) (ls' := [some (.inl (some 35)), some (.inl (some 2)), some (zi xi), some (zi y2995), some (zi y2998), some (zi y2999)]) (st' := [zi y2999]) (by decide +kernel) (fun k q => by cases q) rfl ?_
        refine y_ic (c := (-1)) (len := 1) (r := (0, 0, 0, 0)) (by decide +kernel) (by decide) (fun y3002 hy3002 => ?_)
        refine y_cF (c := .ne) (off := 11) (len := 3) (r := (0, 0, 0, 0)) (by decide +kernel) (acmpF (c := .ne) (by show _ = _; omega)) ?_
        refine y_same (i := .aload_n 0) (len := 1) (r := (0, 0, 0, 0)) (pc' := 124) (ls' := [some (.inl (some 35)), some (.inl (some 2)), some (zi xi), some (zi y2995), some (zi y2998), some (zi y2999)]) (st' := [.inl (some 35)]) (by decide +kernel) (fun k q => by cases q) rfl ?_
        refine y_ic (c := 1) (len := 1) (r := (0, 0, 0, 0)) (by decide +kernel) (by decide) (fun y3003 hy3003 => ?_)
        refine y_put (j := 42) (lo := (-2147483648)) (hi := 2147483647) (len := 3) (r := (4, 8, 0, 292)) (by decide +kernel) hg (tv35 hg) aw35 rfl rfl (by decide) rfl (qin_full _).1 (qin_full _).2 rfl (fun h3004 hg3004 hl3004 hs3004 ho3004 => ?_)
        have ho3004 : hO 35 8 h h3004 := ho3004
        have hs3004 : hsl h3004 35 8 = some (zi y3003) := hs3004
        refine y_goto (off := 28) (pc' := 156) (len := 3) (r := (0, 0, 0, 0)) (by decide +kernel) (by decide +kernel) ?_
        have I2 : prJ Z h0 τ h3004 35 1 (L ++ [E]) [] := ⟨⟨hg3004, cmI_up cm (fun k => (ho3004 36 k (by omega))) (fun a9 g9 l => laQ_up l (fun k j _ _ _ _ => (ho3004 k j (by omega)))), kx_up ml ((ho3004 35 0 (by omega))), ci_up c6 ((ho3004 35 6 (by omega))), ci_up c7 ((ho3004 35 7 (by omega))), fun j w9 hj => ci_up (cw j w9 hj) ((ho3004 37 j (by omega))), ci_up cd ((ho3004 38 2 (by omega))), gR_up gr ((ho3004 35 10 (by omega))), fun k e hk => prE_fr (pE k e hk) hg3004 (fun k j _ => (ho3004 k j (by omega)))⟩, zI_fr zj (fun k j _ => (ho3004 k j (by omega))), ch⟩
        have eR : conF cy true (g + 1) L E (stk []) = (L ++ [E], 1) := by
          show (if E.2.1 = 9 then _ else runF cy true (g + 1) (L ++ [E]) (toF E L.length (stk []))) = _
          rw [if_neg (by omega), toF, if_pos sc]
          rfl
        rw [eR]
        exact jh_e35 (r := 1) I2 (by omega) ⟨_, hs3004, by show _ = ((1 : Nat) : Int); omega⟩ (by decide) hxi (by omega)
      · rw [List.concat_eq_append] at eW
        subst eW
        rw [sn_len] at c7
        have cw9 := cw W2.length w9 sn_get
        have wk2 := wk.2
        rw [sn_len] at wk2
        have wl9 := (wl E (List.mem_append_right _ List.mem_cons_self)).2
        refine y_same (i := .iload_n 2) (len := 1) (r := (0, 0, 0, 0)) (pc' := 36) (ls' := [some (.inl (some 35)), some (.inl (some 2)), some (zi xi), l3, l4, l5]) (st' := [zi xi]) (by decide +kernel) (fun k q => by cases q) rfl ?_
        refine y_si (c := 300) (len := 3) (r := (0, 0, 0, 0)) (by decide +kernel) (by decide) (fun y3005 hy3005 => ?_)
        refine y_cF (c := .gt) (off := 123) (len := 3) (r := (0, 0, 0, 0)) (by decide +kernel) (acmpF (c := .gt) (by show _ ≤ _; omega)) ?_
        refine y_same (i := .aload_n 0) (len := 1) (r := (0, 0, 0, 0)) (pc' := 43) (ls' := [some (.inl (some 35)), some (.inl (some 2)), some (zi xi), l3, l4, l5]) (st' := [.inl (some 35)]) (by decide +kernel) (fun k q => by cases q) rfl ?_
        refine y_get (j := 42) (len := 3) (r := (4, 8, 0, 292)) (by decide +kernel) hg (tv35 hg) aw35 rfl rfl ho8 ?_
        refine y_ic (c := 3) (len := 1) (r := (0, 0, 0, 0)) (by decide +kernel) (by decide) (fun y3006 hy3006 => ?_)
        refine y_cF (c := .ne) (off := 115) (len := 3) (r := (0, 0, 0, 0)) (by decide +kernel) (acmpF (c := .ne) (by show _ = _; omega)) ?_
        refine y_same (i := .aload_n 0) (len := 1) (r := (0, 0, 0, 0)) (pc' := 51) (ls' := [some (.inl (some 35)), some (.inl (some 2)), some (zi xi), l3, l4, l5]) (st' := [.inl (some 35)]) (by decide +kernel) (fun k q => by cases q) rfl ?_
        refine y_get (j := 35) (len := 3) (r := (4, 6, 0, 289)) (by decide +kernel) hg (tv35 hg) aw35 rfl rfl hn6 ?_
        refine y_ic (c := 1) (len := 1) (r := (0, 0, 0, 0)) (by decide +kernel) (by decide) (fun y3007 hy3007 => ?_)
        refine y_sub (len := 1) (r := (0, 0, 0, 0)) (by decide +kernel) (by omega) (by omega) (fun y3008 hy3008 => ?_)
        refine y_same (i := .istore_n 3) (len := 1) (r := (0, 0, 0, 0)) (pc' := 57) (ls' := [some (.inl (some 35)), some (.inl (some 2)), some (zi xi), some (zi y3008), l4, l5]) (st' := []) (by decide +kernel) (fun k q => by cases q) rfl ?_
        refine y_same (i := .aload_n 0) (len := 1) (r := (0, 0, 0, 0)) (pc' := 58) (ls' := [some (.inl (some 35)), some (.inl (some 2)), some (zi xi), some (zi y3008), l4, l5]) (st' := [.inl (some 35)]) (by decide +kernel) (fun k q => by cases q) rfl ?_
        refine y_same (i := .iload_n 3) (len := 1) (r := (0, 0, 0, 0)) (pc' := 59) (ls' := [some (.inl (some 35)), some (.inl (some 2)), some (zi xi), some (zi y3008), l4, l5]) (st' := [zi y3008, .inl (some 35)]) (by decide +kernel) (fun k q => by cases q) rfl ?_
        refine y_cA (i := .invokevirtual 67) (len := 3) (r := (0, 33, 4, 505)) (nL := 3) (k := 3) (n := 2) (hs := []) (args := [.inl (some 35), zi y3008]) (rest := []) (l0 := [some (.inl (some 35)), some (zi y3008), none]) (by decide +kernel) (Or.inr (Or.inl ⟨_, rfl⟩)) rfl rfl rfl rfl (Nat.le_of_ble_eq_true rfl) (zO hg (tv35 hg) aw35 rfl) rfl (qA_le (by omega) (e_slo35 (d := 0) (k := L.length) hg (by omega) (by omega) rb)) (fun h3009 hR3009 => ?_)
        obtain rfl := hR3009
        refine y_get (j := 71) (len := 3) (r := (7, 4, 0, 20543)) (by decide +kernel) hg lb.2.1.1 aw1008 rfl rfl hs4 ?_
        refine y_ic (c := 2) (len := 1) (r := (0, 0, 0, 0)) (by decide +kernel) (by decide) (fun y3010 hy3010 => ?_)
        refine y_cF (c := .gt) (off := 7) (len := 3) (r := (0, 0, 0, 0)) (by decide +kernel) (acmpF (c := .gt) (by show _ ≤ _; omega)) ?_
        refine y_ic (c := 1) (len := 1) (r := (0, 0, 0, 0)) (by decide +kernel) (by decide) (fun y3011 hy3011 => ?_)
        refine y_goto (off := 4) (pc' := 74) (len := 3) (r := (0, 0, 0, 0)) (by decide +kernel) (by decide +kernel) ?_
        refine y_same (i := .istore 4) (len := 2) (r := (0, 0, 0, 0)) (pc' := 76) (ls' := [some (.inl (some 35)), some (.inl (some 2)), some (zi xi), some (zi y3008), some (zi y3011), l5]) (st' := []) (by decide +kernel) (fun k q => by cases q) rfl ?_
        refine y_same (i := .iload 4) (len := 2) (r := (0, 0, 0, 0)) (pc' := 78) (ls' := [some (.inl (some 35)), some (.inl (some 2)), some (zi xi), some (zi y3008), some (zi y3011), l5]) (st' := [zi y3011]) (by decide +kernel) (fun k q => by cases q) rfl ?_
        refine y_iF (c := .eq) (off := 10) (len := 3) (r := (0, 0, 0, 0)) (by decide +kernel) (acmpF (c := .eq) (by show ¬ (_ = _); omega)) ?_
        refine y_same (i := .aload_n 0) (len := 1) (r := (0, 0, 0, 0)) (pc' := 82) (ls' := [some (.inl (some 35)), some (.inl (some 2)), some (zi xi), some (zi y3008), some (zi y3011), l5]) (st' := [.inl (some 35)]) (by decide +kernel) (fun k q => by cases q) rfl ?_
        refine y_cI (i := .invokevirtual 96) (len := 3) (r := (0, 39, 4, 763)) (nL := 1) (k := 1) (n := 1) (hs := []) (args := [.inl (some 35)]) (rest := []) (l0 := [some (.inl (some 35))]) (by decide +kernel) (Or.inr (Or.inl ⟨_, rfl⟩)) rfl rfl rfl rfl (Nat.le_of_ble_eq_true rfl) (zO hg (tv35 hg) aw35 rfl) rfl (qI_le (by omega) (e_tw35 (d := 0) (n := W2.length) (w := w9) hg c7 (by omega) cw9)) (fun y3012 h3012 hRy3012 => ?_)
        obtain ⟨ey3012, hg3012, c73012, F3012⟩ := hRy3012
        refine y_goto (off := 4) (pc' := 89) (len := 3) (r := (0, 0, 0, 0)) (by decide +kernel) (by decide +kernel) ?_
        refine y_same (i := .istore 5) (len := 2) (r := (0, 0, 0, 0)) (pc' := 91) (ls' := [some (.inl (some 35)), some (.inl (some 2)), some (zi xi), some (zi y3008), some (zi y3011), some (zi y3012)]) (st' := []) (by decide +kernel) (fun k q => by cases q) rfl ?_
        refine y_same (i := .aload_n 0) (len := 1) (r := (0, 0, 0, 0)) (pc' := 92) (ls' := [some (.inl (some 35)), some (.inl (some 2)), some (zi xi), some (zi y3008), some (zi y3011), some (zi y3012)]) (st' := [.inl (some 35)]) (by decide +kernel) (fun k q => by cases q) rfl ?_
        refine y_same (i := .iload_n 3) (len := 1) (r := (0, 0, 0, 0)) (pc' := 93) (ls' := [some (.inl (some 35)), some (.inl (some 2)), some (zi xi), some (zi y3008), some (zi y3011), some (zi y3012)]) (st' := [zi y3008, .inl (some 35)]) (by decide +kernel) (fun k q => by cases q) rfl ?_
        refine y_cA (i := .invokevirtual 67) (len := 3) (r := (0, 33, 4, 505)) (nL := 3) (k := 3) (n := 2) (hs := []) (args := [.inl (some 35), zi y3008]) (rest := []) (l0 := [some (.inl (some 35)), some (zi y3008), none]) (by decide +kernel) (Or.inr (Or.inl ⟨_, rfl⟩)) rfl rfl rfl rfl (Nat.le_of_ble_eq_true rfl) (zO hg3012 (tv35 hg3012) aw35 rfl) rfl (qA_le (by omega) (e_slo35 (d := 0) (k := L.length) hg3012 (by omega) (by omega) (rfs_up rb ((F3012 36 (L.length) (by omega)))))) (fun h3013 hR3013 => ?_)
        obtain rfl := hR3013
        have hv3014 := (F3012 b 4 (by omega)).trans hs4
        refine y_get (j := 71) (len := 3) (r := (7, 4, 0, 20543)) (by decide +kernel) hg3012 lb.2.1.1 aw1008 rfl rfl hv3014 ?_
        refine y_bi (c := 9) (len := 2) (r := (0, 0, 0, 0)) (by decide +kernel) (by decide) (fun y3015 hy3015 => ?_)
        refine y_cT (c := .ne) (off := 16) (pc' := 117) (len := 3) (r := (0, 0, 0, 0)) (by decide +kernel) (acmpT (c := .ne) (by show ¬ (_ = _); omega)) (by decide +kernel) ?_
        refine y_same (i := .iload 5) (len := 2) (r := (0, 0, 0, 0)) (pc' := 119) (ls' := [some (.inl (some 35)), some (.inl (some 2)), some (zi xi), some (zi y3008), some (zi y3011), some (zi y3012)]) (st' := [zi y3012]) (by decide +kernel) (fun k q => by cases q) rfl ?_
        refine y_ic (c := (-1)) (len := 1) (r := (0, 0, 0, 0)) (by decide +kernel) (by decide) (fun y3016 hy3016 => ?_)
        refine y_cT (c := .ne) (off := 11) (pc' := 131) (len := 3) (r := (0, 0, 0, 0)) (by decide +kernel) (acmpT (c := .ne) (by show ¬ (_ = _); omega)) (by decide +kernel) ?_
        have I2 : prJ Z h0 τ h3012 35 1 (L ++ [E]) W2 := ⟨⟨hg3012, cmI_up cm (fun k => (F3012 36 k (by omega))) (fun a9 g9 l => laQ_up l (fun k j _ _ _ _ => (F3012 k j (by omega)))), kx_up ml ((F3012 35 0 (by omega))), ci_up c6 ((F3012 35 6 (by omega))), c73012, fun j w8 hj => ci_up (cw j w8 (sn_old hj)) ((F3012 37 j (by omega))), ci_up cd ((F3012 38 2 (by omega))), gR_up gr ((F3012 35 10 (by omega))), fun k e hk => prE_fr (pE k e hk) hg3012 (fun k j _ => (F3012 k j (by omega)))⟩, zI_fr zj (fun k j _ => (F3012 k j (by omega))), ch⟩
        obtain ⟨ew, kw, w3, w8, wr⟩ := wk.1 W2.length w9 sn_get
        have eS : conF cy true (g + 1) L E (stk (W2 ++ [w9])) = runF cy true (g + 1) (L ++ [E]) ((w9, true) :: stk W2) := by
          show (if E.2.1 = 9 then _ else runF cy true (g + 1) (L ++ [E]) (toF E L.length (stk (W2 ++ [w9])))) = _
          rw [if_neg (by omega), toF, if_pos sc, stk_sn]
        rw [eS]
        refine bh_l35 (cy := cy) hcy (i := w9) (i9 := L.length) (w := true) (R := _) I2 wl kw (wl ew (List.mem_of_getElem? kw)) w3 w8 (by omega) (by rw [if_pos rfl]; omega) (by omega) (fun q => absurd q (by omega)) hxi (by omega) ⟨_, ((F3012 35 8 (by omega))).trans ho8, eo8⟩ (fun bn => ?_) (fun τ1 h1 E1 W1 xi1 m3 m4 m5 u1 I1 eW1 eb1 wE1 er1 hl1 ho1 hx1 => ?_)
        · exact run_no bn
        · rw [run_br eb1]
          have eW2 : W1 = W2 := by rw [eW1, if_neg (fun q => absurd q.1 (by decide))]
          subst eW2
          refine ih τ1 h1 (L ++ [E]) E1 W1 xi1 m3 m4 m5 I1 (fun e9 m9 => ?_) ⟨fun j w8 hj => ?_, ?_⟩ (by rw [sn_len, sn_len]; rw [sn_len] at hf; omega) (by rw [sn_len] at hl1 hf; omega) (by omega) ho1
          · rcases List.mem_append.mp m9 with m9 | m9
            · exact wl e9 m9
            · rw [List.mem_singleton.mp m9]
              exact wE1
          · obtain ⟨e8, k8, b1, b2, b3⟩ := wk.1 j w8 (sn_old hj)
            exact ⟨e8, sn_old k8, b1, b2, b3⟩
          · omega
    ·
      refine y_same (i := .iload_n 2) (len := 1) (r := (0, 0, 0, 0)) (pc' := 36) (ls' := [some (.inl (some 35)), some (.inl (some 2)), some (zi xi), l3, l4, l5]) (st' := [zi xi]) (by decide +kernel) (fun k q => by cases q) rfl ?_
      refine y_si (c := 300) (len := 3) (r := (0, 0, 0, 0)) (by decide +kernel) (by decide) (fun y2979 hy2979 => ?_)
      refine y_cF (c := .gt) (off := 123) (len := 3) (r := (0, 0, 0, 0)) (by decide +kernel) (acmpF (c := .gt) (by show _ ≤ _; omega)) ?_
      refine y_same (i := .aload_n 0) (len := 1) (r := (0, 0, 0, 0)) (pc' := 43) (ls' := [some (.inl (some 35)), some (.inl (some 2)), some (zi xi), l3, l4, l5]) (st' := [.inl (some 35)]) (by decide +kernel) (fun k q => by cases q) rfl ?_
      refine y_get (j := 42) (len := 3) (r := (4, 8, 0, 292)) (by decide +kernel) hg (tv35 hg) aw35 rfl rfl ho8 ?_
      refine y_ic (c := 3) (len := 1) (r := (0, 0, 0, 0)) (by decide +kernel) (by decide) (fun y2980 hy2980 => ?_)
      refine y_cF (c := .ne) (off := 115) (len := 3) (r := (0, 0, 0, 0)) (by decide +kernel) (acmpF (c := .ne) (by show _ = _; omega)) ?_
      refine y_same (i := .aload_n 0) (len := 1) (r := (0, 0, 0, 0)) (pc' := 51) (ls' := [some (.inl (some 35)), some (.inl (some 2)), some (zi xi), l3, l4, l5]) (st' := [.inl (some 35)]) (by decide +kernel) (fun k q => by cases q) rfl ?_
      refine y_get (j := 35) (len := 3) (r := (4, 6, 0, 289)) (by decide +kernel) hg (tv35 hg) aw35 rfl rfl hn6 ?_
      refine y_ic (c := 1) (len := 1) (r := (0, 0, 0, 0)) (by decide +kernel) (by decide) (fun y2981 hy2981 => ?_)
      refine y_sub (len := 1) (r := (0, 0, 0, 0)) (by decide +kernel) (by omega) (by omega) (fun y2982 hy2982 => ?_)
      refine y_same (i := .istore_n 3) (len := 1) (r := (0, 0, 0, 0)) (pc' := 57) (ls' := [some (.inl (some 35)), some (.inl (some 2)), some (zi xi), some (zi y2982), l4, l5]) (st' := []) (by decide +kernel) (fun k q => by cases q) rfl ?_
      refine y_same (i := .aload_n 0) (len := 1) (r := (0, 0, 0, 0)) (pc' := 58) (ls' := [some (.inl (some 35)), some (.inl (some 2)), some (zi xi), some (zi y2982), l4, l5]) (st' := [.inl (some 35)]) (by decide +kernel) (fun k q => by cases q) rfl ?_
      refine y_same (i := .iload_n 3) (len := 1) (r := (0, 0, 0, 0)) (pc' := 59) (ls' := [some (.inl (some 35)), some (.inl (some 2)), some (zi xi), some (zi y2982), l4, l5]) (st' := [zi y2982, .inl (some 35)]) (by decide +kernel) (fun k q => by cases q) rfl ?_
      refine y_cA (i := .invokevirtual 67) (len := 3) (r := (0, 33, 4, 505)) (nL := 3) (k := 3) (n := 2) (hs := []) (args := [.inl (some 35), zi y2982]) (rest := []) (l0 := [some (.inl (some 35)), some (zi y2982), none]) (by decide +kernel) (Or.inr (Or.inl ⟨_, rfl⟩)) rfl rfl rfl rfl (Nat.le_of_ble_eq_true rfl) (zO hg (tv35 hg) aw35 rfl) rfl (qA_le (by omega) (e_slo35 (d := 0) (k := L.length) hg (by omega) (by omega) rb)) (fun h2983 hR2983 => ?_)
      obtain rfl := hR2983
      refine y_get (j := 71) (len := 3) (r := (7, 4, 0, 20543)) (by decide +kernel) hg lb.2.1.1 aw1008 rfl rfl hs4 ?_
      refine y_ic (c := 2) (len := 1) (r := (0, 0, 0, 0)) (by decide +kernel) (by decide) (fun y2984 hy2984 => ?_)
      refine y_cT (c := .gt) (off := 7) (pc' := 73) (len := 3) (r := (0, 0, 0, 0)) (by decide +kernel) (acmpT (c := .gt) (by show _ < _; omega)) (by decide +kernel) ?_
      refine y_ic (c := 0) (len := 1) (r := (0, 0, 0, 0)) (by decide +kernel) (by decide) (fun y2985 hy2985 => ?_)
      refine y_same (i := .istore 4) (len := 2) (r := (0, 0, 0, 0)) (pc' := 76) (ls' := [some (.inl (some 35)), some (.inl (some 2)), some (zi xi), some (zi y2982), some (zi y2985), l5]) (st' := []) (by decide +kernel) (fun k q => by cases q) rfl ?_
      refine y_same (i := .iload 4) (len := 2) (r := (0, 0, 0, 0)) (pc' := 78) (ls' := [some (.inl (some 35)), some (.inl (some 2)), some (zi xi), some (zi y2982), some (zi y2985), l5]) (st' := [zi y2985]) (by decide +kernel) (fun k q => by cases q) rfl ?_
      refine y_iT (c := .eq) (off := 10) (pc' := 88) (len := 3) (r := (0, 0, 0, 0)) (by decide +kernel) (acmpT (c := .eq) (by show _ = _; omega)) (by decide +kernel) ?_
      refine y_same (i := .iload_n 3) (len := 1) (r := (0, 0, 0, 0)) (pc' := 89) (ls' := [some (.inl (some 35)), some (.inl (some 2)), some (zi xi), some (zi y2982), some (zi y2985), l5]) (st' := [zi y2982]) (by decide +kernel) (fun k q => by cases q) rfl ?_
      refine y_same (i := .istore 5) (len := 2) (r := (0, 0, 0, 0)) (pc' := 91) (ls' := [some (.inl (some 35)), some (.inl (some 2)), some (zi xi), some (zi y2982), some (zi y2985), some (zi y2982)]) (st' := []) (by decide +kernel) (fun k q => by cases q) rfl ?_
      refine y_same (i := .aload_n 0) (len := 1) (r := (0, 0, 0, 0)) (pc' := 92) (ls' := [some (.inl (some 35)), some (.inl (some 2)), some (zi xi), some (zi y2982), some (zi y2985), some (zi y2982)]) (st' := [.inl (some 35)]) (by decide +kernel) (fun k q => by cases q) rfl ?_
      refine y_same (i := .iload_n 3) (len := 1) (r := (0, 0, 0, 0)) (pc' := 93) (ls' := [some (.inl (some 35)), some (.inl (some 2)), some (zi xi), some (zi y2982), some (zi y2985), some (zi y2982)]) (st' := [zi y2982, .inl (some 35)]) (by decide +kernel) (fun k q => by cases q) rfl ?_
      refine y_cA (i := .invokevirtual 67) (len := 3) (r := (0, 33, 4, 505)) (nL := 3) (k := 3) (n := 2) (hs := []) (args := [.inl (some 35), zi y2982]) (rest := []) (l0 := [some (.inl (some 35)), some (zi y2982), none]) (by decide +kernel) (Or.inr (Or.inl ⟨_, rfl⟩)) rfl rfl rfl rfl (Nat.le_of_ble_eq_true rfl) (zO hg (tv35 hg) aw35 rfl) rfl (qA_le (by omega) (e_slo35 (d := 0) (k := L.length) hg (by omega) (by omega) rb)) (fun h2986 hR2986 => ?_)
      obtain rfl := hR2986
      refine y_get (j := 71) (len := 3) (r := (7, 4, 0, 20543)) (by decide +kernel) hg lb.2.1.1 aw1008 rfl rfl hs4 ?_
      refine y_bi (c := 9) (len := 2) (r := (0, 0, 0, 0)) (by decide +kernel) (by decide) (fun y2987 hy2987 => ?_)
      refine y_cF (c := .ne) (off := 16) (len := 3) (r := (0, 0, 0, 0)) (by decide +kernel) (acmpF (c := .ne) (by show _ = _; omega)) ?_
      refine y_same (i := .aload_n 0) (len := 1) (r := (0, 0, 0, 0)) (pc' := 105) (ls' := [some (.inl (some 35)), some (.inl (some 2)), some (zi xi), some (zi y2982), some (zi y2985), some (zi y2982)]) (st' := [.inl (some 35)]) (by decide +kernel) (fun k q => by cases q) rfl ?_
      refine y_ic (c := 0) (len := 1) (r := (0, 0, 0, 0)) (by decide +kernel) (by decide) (fun y2988 hy2988 => ?_)
      refine y_put (j := 42) (lo := (-2147483648)) (hi := 2147483647) (len := 3) (r := (4, 8, 0, 292)) (by decide +kernel) hg (tv35 hg) aw35 rfl rfl (by decide) rfl (qin_full _).1 (qin_full _).2 rfl (fun h2989 hg2989 hl2989 hs2989 ho2989 => ?_)
      have ho2989 : hO 35 8 h h2989 := ho2989
      have hs2989 : hsl h2989 35 8 = some (zi y2988) := hs2989
      refine y_same (i := .aload_n 0) (len := 1) (r := (0, 0, 0, 0)) (pc' := 110) (ls' := [some (.inl (some 35)), some (.inl (some 2)), some (zi xi), some (zi y2982), some (zi y2985), some (zi y2982)]) (st' := [.inl (some 35)]) (by decide +kernel) (fun k q => by cases q) rfl ?_
      refine y_same (i := .iload_n 3) (len := 1) (r := (0, 0, 0, 0)) (pc' := 111) (ls' := [some (.inl (some 35)), some (.inl (some 2)), some (zi xi), some (zi y2982), some (zi y2985), some (zi y2982)]) (st' := [zi y2982, .inl (some 35)]) (by decide +kernel) (fun k q => by cases q) rfl ?_
      refine y_put (j := 51) (lo := (-2147483648)) (hi := 2147483647) (len := 3) (r := (4, 11, 0, 298)) (by decide +kernel) hg2989 (tv35 hg2989) aw35 rfl rfl (by decide) rfl (qin_full _).1 (qin_full _).2 rfl (fun h2990 hg2990 hl2990 hs2990 ho2990 => ?_)
      have ho2990 : hO 35 11 h2989 h2990 := ho2990
      have hs2990 : hsl h2990 35 11 = some (zi y2982) := hs2990
      refine y_goto (off := 42) (pc' := 156) (len := 3) (r := (0, 0, 0, 0)) (by decide +kernel) (by decide +kernel) ?_
      have I2 : prJ Z h0 τ h2990 35 1 (L ++ [E]) W := ⟨⟨hg2990, cmI_up cm (fun k => ((ho2990 36 k (by omega)).trans (ho2989 36 k (by omega)))) (fun a9 g9 l => laQ_up l (fun k j _ _ _ _ => ((ho2990 k j (by omega)).trans (ho2989 k j (by omega))))), kx_up ml (((ho2990 35 0 (by omega)).trans (ho2989 35 0 (by omega)))), ci_up c6 (((ho2990 35 6 (by omega)).trans (ho2989 35 6 (by omega)))), ci_up c7 (((ho2990 35 7 (by omega)).trans (ho2989 35 7 (by omega)))), fun j w9 hj => ci_up (cw j w9 hj) (((ho2990 37 j (by omega)).trans (ho2989 37 j (by omega)))), ci_up cd (((ho2990 38 2 (by omega)).trans (ho2989 38 2 (by omega)))), gR_up gr (((ho2990 35 10 (by omega)).trans (ho2989 35 10 (by omega)))), fun k e hk => prE_fr (pE k e hk) hg2990 (fun k j _ => ((ho2990 k j (by omega)).trans (ho2989 k j (by omega))))⟩, zI_fr zj (fun k j _ => ((ho2990 k j (by omega)).trans (ho2989 k j (by omega)))), ch⟩
      have eR : conF cy true (g + 1) L E (stk W) = (L ++ [E], 0) := if_pos s9
      rw [eR]
      have hv2991 := (ho2990 35 8 (Or.inr (by omega))).trans hs2989
      exact jh_e35 (r := 0) I2 (by omega) ⟨_, hv2991, by show _ = ((0 : Nat) : Int); omega⟩ (by decide) hxi (by omega)
    ·
      refine y_same (i := .iload_n 2) (len := 1) (r := (0, 0, 0, 0)) (pc' := 36) (ls' := [some (.inl (some 35)), some (.inl (some 2)), some (zi xi), l3, l4, l5]) (st' := [zi xi]) (by decide +kernel) (fun k q => by cases q) rfl ?_
      refine y_si (c := 300) (len := 3) (r := (0, 0, 0, 0)) (by decide +kernel) (by decide) (fun y3017 hy3017 => ?_)
      refine y_cF (c := .gt) (off := 123) (len := 3) (r := (0, 0, 0, 0)) (by decide +kernel) (acmpF (c := .gt) (by show _ ≤ _; omega)) ?_
      refine y_same (i := .aload_n 0) (len := 1) (r := (0, 0, 0, 0)) (pc' := 43) (ls' := [some (.inl (some 35)), some (.inl (some 2)), some (zi xi), l3, l4, l5]) (st' := [.inl (some 35)]) (by decide +kernel) (fun k q => by cases q) rfl ?_
      refine y_get (j := 42) (len := 3) (r := (4, 8, 0, 292)) (by decide +kernel) hg (tv35 hg) aw35 rfl rfl ho8 ?_
      refine y_ic (c := 3) (len := 1) (r := (0, 0, 0, 0)) (by decide +kernel) (by decide) (fun y3018 hy3018 => ?_)
      refine y_cF (c := .ne) (off := 115) (len := 3) (r := (0, 0, 0, 0)) (by decide +kernel) (acmpF (c := .ne) (by show _ = _; omega)) ?_
      refine y_same (i := .aload_n 0) (len := 1) (r := (0, 0, 0, 0)) (pc' := 51) (ls' := [some (.inl (some 35)), some (.inl (some 2)), some (zi xi), l3, l4, l5]) (st' := [.inl (some 35)]) (by decide +kernel) (fun k q => by cases q) rfl ?_
      refine y_get (j := 35) (len := 3) (r := (4, 6, 0, 289)) (by decide +kernel) hg (tv35 hg) aw35 rfl rfl hn6 ?_
      refine y_ic (c := 1) (len := 1) (r := (0, 0, 0, 0)) (by decide +kernel) (by decide) (fun y3019 hy3019 => ?_)
      refine y_sub (len := 1) (r := (0, 0, 0, 0)) (by decide +kernel) (by omega) (by omega) (fun y3020 hy3020 => ?_)
      refine y_same (i := .istore_n 3) (len := 1) (r := (0, 0, 0, 0)) (pc' := 57) (ls' := [some (.inl (some 35)), some (.inl (some 2)), some (zi xi), some (zi y3020), l4, l5]) (st' := []) (by decide +kernel) (fun k q => by cases q) rfl ?_
      refine y_same (i := .aload_n 0) (len := 1) (r := (0, 0, 0, 0)) (pc' := 58) (ls' := [some (.inl (some 35)), some (.inl (some 2)), some (zi xi), some (zi y3020), l4, l5]) (st' := [.inl (some 35)]) (by decide +kernel) (fun k q => by cases q) rfl ?_
      refine y_same (i := .iload_n 3) (len := 1) (r := (0, 0, 0, 0)) (pc' := 59) (ls' := [some (.inl (some 35)), some (.inl (some 2)), some (zi xi), some (zi y3020), l4, l5]) (st' := [zi y3020, .inl (some 35)]) (by decide +kernel) (fun k q => by cases q) rfl ?_
      refine y_cA (i := .invokevirtual 67) (len := 3) (r := (0, 33, 4, 505)) (nL := 3) (k := 3) (n := 2) (hs := []) (args := [.inl (some 35), zi y3020]) (rest := []) (l0 := [some (.inl (some 35)), some (zi y3020), none]) (by decide +kernel) (Or.inr (Or.inl ⟨_, rfl⟩)) rfl rfl rfl rfl (Nat.le_of_ble_eq_true rfl) (zO hg (tv35 hg) aw35 rfl) rfl (qA_le (by omega) (e_slo35 (d := 0) (k := L.length) hg (by omega) (by omega) rb)) (fun h3021 hR3021 => ?_)
      obtain rfl := hR3021
      refine y_get (j := 71) (len := 3) (r := (7, 4, 0, 20543)) (by decide +kernel) hg lb.2.1.1 aw1008 rfl rfl hs4 ?_
      refine y_ic (c := 2) (len := 1) (r := (0, 0, 0, 0)) (by decide +kernel) (by decide) (fun y3022 hy3022 => ?_)
      refine y_cT (c := .gt) (off := 7) (pc' := 73) (len := 3) (r := (0, 0, 0, 0)) (by decide +kernel) (acmpT (c := .gt) (by show _ < _; omega)) (by decide +kernel) ?_
      refine y_ic (c := 0) (len := 1) (r := (0, 0, 0, 0)) (by decide +kernel) (by decide) (fun y3023 hy3023 => ?_)
      refine y_same (i := .istore 4) (len := 2) (r := (0, 0, 0, 0)) (pc' := 76) (ls' := [some (.inl (some 35)), some (.inl (some 2)), some (zi xi), some (zi y3020), some (zi y3023), l5]) (st' := []) (by decide +kernel) (fun k q => by cases q) rfl ?_
      refine y_same (i := .iload 4) (len := 2) (r := (0, 0, 0, 0)) (pc' := 78) (ls' := [some (.inl (some 35)), some (.inl (some 2)), some (zi xi), some (zi y3020), some (zi y3023), l5]) (st' := [zi y3023]) (by decide +kernel) (fun k q => by cases q) rfl ?_
      refine y_iT (c := .eq) (off := 10) (pc' := 88) (len := 3) (r := (0, 0, 0, 0)) (by decide +kernel) (acmpT (c := .eq) (by show _ = _; omega)) (by decide +kernel) ?_
      refine y_same (i := .iload_n 3) (len := 1) (r := (0, 0, 0, 0)) (pc' := 89) (ls' := [some (.inl (some 35)), some (.inl (some 2)), some (zi xi), some (zi y3020), some (zi y3023), l5]) (st' := [zi y3020]) (by decide +kernel) (fun k q => by cases q) rfl ?_
      refine y_same (i := .istore 5) (len := 2) (r := (0, 0, 0, 0)) (pc' := 91) (ls' := [some (.inl (some 35)), some (.inl (some 2)), some (zi xi), some (zi y3020), some (zi y3023), some (zi y3020)]) (st' := []) (by decide +kernel) (fun k q => by cases q) rfl ?_
      refine y_same (i := .aload_n 0) (len := 1) (r := (0, 0, 0, 0)) (pc' := 92) (ls' := [some (.inl (some 35)), some (.inl (some 2)), some (zi xi), some (zi y3020), some (zi y3023), some (zi y3020)]) (st' := [.inl (some 35)]) (by decide +kernel) (fun k q => by cases q) rfl ?_
      refine y_same (i := .iload_n 3) (len := 1) (r := (0, 0, 0, 0)) (pc' := 93) (ls' := [some (.inl (some 35)), some (.inl (some 2)), some (zi xi), some (zi y3020), some (zi y3023), some (zi y3020)]) (st' := [zi y3020, .inl (some 35)]) (by decide +kernel) (fun k q => by cases q) rfl ?_
      refine y_cA (i := .invokevirtual 67) (len := 3) (r := (0, 33, 4, 505)) (nL := 3) (k := 3) (n := 2) (hs := []) (args := [.inl (some 35), zi y3020]) (rest := []) (l0 := [some (.inl (some 35)), some (zi y3020), none]) (by decide +kernel) (Or.inr (Or.inl ⟨_, rfl⟩)) rfl rfl rfl rfl (Nat.le_of_ble_eq_true rfl) (zO hg (tv35 hg) aw35 rfl) rfl (qA_le (by omega) (e_slo35 (d := 0) (k := L.length) hg (by omega) (by omega) rb)) (fun h3024 hR3024 => ?_)
      obtain rfl := hR3024
      refine y_get (j := 71) (len := 3) (r := (7, 4, 0, 20543)) (by decide +kernel) hg lb.2.1.1 aw1008 rfl rfl hs4 ?_
      refine y_bi (c := 9) (len := 2) (r := (0, 0, 0, 0)) (by decide +kernel) (by decide) (fun y3025 hy3025 => ?_)
      refine y_cT (c := .ne) (off := 16) (pc' := 117) (len := 3) (r := (0, 0, 0, 0)) (by decide +kernel) (acmpT (c := .ne) (by show ¬ (_ = _); omega)) (by decide +kernel) ?_
      refine y_same (i := .iload 5) (len := 2) (r := (0, 0, 0, 0)) (pc' := 119) (ls' := [some (.inl (some 35)), some (.inl (some 2)), some (zi xi), some (zi y3020), some (zi y3023), some (zi y3020)]) (st' := [zi y3020]) (by decide +kernel) (fun k q => by cases q) rfl ?_
      refine y_ic (c := (-1)) (len := 1) (r := (0, 0, 0, 0)) (by decide +kernel) (by decide) (fun y3026 hy3026 => ?_)
      refine y_cT (c := .ne) (off := 11) (pc' := 131) (len := 3) (r := (0, 0, 0, 0)) (by decide +kernel) (acmpT (c := .ne) (by show ¬ (_ = _); omega)) (by decide +kernel) ?_
      have I2 : prJ Z h0 τ h 35 1 (L ++ [E]) W := ⟨⟨hg, cmI_up cm (fun k => rfl) (fun a9 g9 l => laQ_up l (fun k j _ _ _ _ => rfl)), kx_up ml (rfl), ci_up c6 (rfl), ci_up c7 (rfl), fun j w9 hj => ci_up (cw j w9 hj) (rfl), ci_up cd (rfl), gR_up gr (rfl), fun k e hk => prE_fr (pE k e hk) hg (fun k j _ => rfl)⟩, zI_fr zj (fun k j _ => rfl), ch⟩
      have eS : conF cy true (g + 1) L E (stk W) = runF cy true (g + 1) (L ++ [E]) ((L.length, false) :: (if E.2.1 = 6 ∨ E.2.1 = 7 then (L.length, true) :: stk W else stk W)) := by
        show (if E.2.1 = 9 then _ else runF cy true (g + 1) (L ++ [E]) (toF E L.length (stk W))) = _
        rw [if_neg (by omega), toF, if_neg (by omega)]
      rw [eS]
      refine bh_l35 (cy := cy) hcy (i := L.length) (i9 := L.length) (w := false) (R := _) I2 wl sn_get (wl E (List.mem_append_right _ List.mem_cons_self)) (by omega) (by omega) (by omega) (by rw [if_neg (by decide)]; omega) (by omega) (fun _ => by have := (wl E (List.mem_append_right _ List.mem_cons_self)).2.2.1; have := wk.2; omega) hxi (by omega) ⟨_, (rfl).trans ho8, eo8⟩ (fun bn => ?_) (fun τ1 h1 E1 W1 xi1 m3 m4 m5 u1 I1 eW1 eb1 wE1 er1 hl1 ho1 hx1 => ?_)
      · exact run_no bn
      · rw [run_br eb1]
        have eT : (if E.2.1 = 6 ∨ E.2.1 = 7 then (L.length, true) :: stk W else stk W) = stk W1 := by
          by_cases q : E.2.1 = 6 ∨ E.2.1 = 7
          · rw [if_pos q, eW1, if_pos ⟨rfl, q⟩, stk_sn]
          · rw [if_neg q, eW1, if_neg (fun q9 => q q9.2)]
        rw [eT]
        have wl9 := (wl E (List.mem_append_right _ List.mem_cons_self)).2
        have wk2 := wk.2
        refine ih τ1 h1 (L ++ [E]) E1 W1 xi1 m3 m4 m5 I1 (fun e9 m9 => ?_) ?_ (by rw [sn_len, sn_len]; rw [sn_len] at hf; omega) (by rw [sn_len] at hl1 hf; omega) (by omega) ho1
        · rcases List.mem_append.mp m9 with m9 | m9
          · exact wl e9 m9
          · rw [List.mem_singleton.mp m9]
            exact wE1
        · by_cases q : E.2.1 = 6 ∨ E.2.1 = 7
          · rw [eW1, if_pos ⟨rfl, q⟩]
            refine ⟨fun j w8 hj => ?_, by rw [sn_len]; omega⟩
            rcases sn_cs hj with hj | ⟨q1, q2⟩
            · obtain ⟨e8, k8, b1, b2, b3⟩ := wk.1 j w8 hj
              exact ⟨e8, sn_old k8, b1, b2, b3⟩
            · rw [q2]
              exact ⟨E, sn_old sn_get, by omega, by omega, by omega⟩
          · rw [eW1, if_neg (fun q9 => q q9.2)]
            refine ⟨fun j w8 hj => ?_, by omega⟩
            obtain ⟨e8, k8, b1, b2, b3⟩ := wk.1 j w8 hj
            exact ⟨e8, sn_old k8, b1, b2, b3⟩
