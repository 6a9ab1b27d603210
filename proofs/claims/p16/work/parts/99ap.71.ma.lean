/-! the reference: ALIKE -/
def mpM (h : zh) (m : mp2) : Prop := ∀ x : Nat, x < 21 → kx_ h 68 x (m.1 x) ∧ kx_ h 69 x (m.2 x)
def FK (h h1 : zh) : Prop := ∀ k j, k ≠ 68 → k ≠ 69 → hsl h1 k j = hsl h k j
theorem FK_tr {h h1 h2 : zh} (a : FK h h1) (b : FK h1 h2) : FK h h2 := fun k j h1 h2 => (b k j h1 h2).trans (a k j h1 h2)
theorem mpM_st {h h1 : zh} {m : mp2} {x y : Nat} (H : mpM h m) (a : kx_ h1 68 x y) (b : kx_ h1 69 y x) (F3 : ∀ j, j ≠ x → hsl h1 68 j = hsl h 68 j) (F4 : ∀ j, j ≠ y → hsl h1 69 j = hsl h 69 j) : mpM h1 (up1 m.1 x y, up1 m.2 y x) := fun z hz => by
  refine ⟨?_, ?_⟩
  · show kx_ h1 68 z (up1 m.1 x y z)
    by_cases q : z = x
    · subst q
      rw [up1_at]
      exact a
    · rw [up1_ne (by omega)]
      exact kx_up (H z hz).1 (F3 z q)
  · show kx_ h1 69 z (up1 m.2 y x z)
    by_cases q : z = y
    · subst q
      rw [up1_at]
      exact b
    · rw [up1_ne (by omega)]
      exact kx_up (H z hz).2 (F4 z q)
theorem m_tls {d t x y : Nat} {τ : List Nat} {h : zh} {m : mp2} {xx xy : Int32} (hg : hG τ h) (H : mpM h m) (exx : xx.toInt = (x : Int)) (hx : x ≤ 20) (exy : xy.toInt = (y : Int)) (hy : y ≤ 20) : qI (d + 1) 220 [some (.inl (some 52)), some (zi xx), some (zi xy)] h t (fun y1 h1 => hG τ h1 ∧ FK h h1 ∧ ((y1.toInt = 1 ∧ ∃ m', tlO x y m = some m' ∧ mpM h1 m') ∨ (y1.toInt = 0 ∧ tlO x y m = none))) := by
  obtain ⟨xf, hf, ef⟩ := (H x (by omega)).1
  obtain ⟨xb, hb, eb⟩ := (H y (by omega)).2
  refine qI_of ?_
  refine y_same (i := .aload_n 0) (len := 1) (r := (0, 0, 0, 0)) (pc' := 1) (ls' := [some (.inl (some 52)), some (zi xx), some (zi xy)]) (st' := [.inl (some 52)]) (by decide +kernel) (fun k q => by cases q) rfl ?_
  refine y_get (j := 31) (len := 3) (r := (12, 13, 2, 1341)) (by decide +kernel) hg (t52 hg) at52 rfl rfl (g_r52 (f := 13) (T2 := 68) hg rfl (by decide)).1 ?_
  refine y_same (i := .iload_n 1) (len := 1) (r := (0, 0, 0, 0)) (pc' := 5) (ls' := [some (.inl (some 52)), some (zi xx), some (zi xy)]) (st' := [zi xx, .inl (some 68)]) (by decide +kernel) (fun k q => by cases q) rfl ?_
  refine y_ial (i := x) (len := 1) (r := (0, 0, 0, 0)) (by decide +kernel) hg (tu68 hg) at68 (by omega) hf ?_
  refine y_ic (c := (-1)) (len := 1) (r := (0, 0, 0, 0)) (by decide +kernel) (by decide) (fun y2592 hy2592 => ?_)
  rcases Decidable.em (xf.toInt ≠ y2592.toInt) with q2593 | q2593
  ·
    refine y_cT (c := .ne) (off := 27) (pc' := 34) (len := 3) (r := (0, 0, 0, 0)) (by decide +kernel) (acmpT (c := .ne) (by show ¬ (_ = _); omega)) (by decide +kernel) ?_
    refine y_same (i := .aload_n 0) (len := 1) (r := (0, 0, 0, 0)) (pc' := 35) (ls' := [some (.inl (some 52)), some (zi xx), some (zi xy)]) (st' := [.inl (some 52)]) (by decide +kernel) (fun k q => by cases q) rfl ?_
    refine y_get (j := 31) (len := 3) (r := (12, 13, 2, 1341)) (by decide +kernel) hg (t52 hg) at52 rfl rfl (g_r52 (f := 13) (T2 := 68) hg rfl (by decide)).1 ?_
    refine y_same (i := .iload_n 1) (len := 1) (r := (0, 0, 0, 0)) (pc' := 39) (ls' := [some (.inl (some 52)), some (zi xx), some (zi xy)]) (st' := [zi xx, .inl (some 68)]) (by decide +kernel) (fun k q => by cases q) rfl ?_
    refine y_ial (i := x) (len := 1) (r := (0, 0, 0, 0)) (by decide +kernel) hg (tu68 hg) at68 (by omega) hf ?_
    refine y_same (i := .iload_n 2) (len := 1) (r := (0, 0, 0, 0)) (pc' := 41) (ls' := [some (.inl (some 52)), some (zi xx), some (zi xy)]) (st' := [zi xy, zi xf]) (by decide +kernel) (fun k q => by cases q) rfl ?_
    rcases Decidable.em (xf.toInt ≠ xy.toInt) with q2594 | q2594
    ·
      refine y_cT (c := .ne) (off := 17) (pc' := 58) (len := 3) (r := (0, 0, 0, 0)) (by decide +kernel) (acmpT (c := .ne) (by show ¬ (_ = _); omega)) (by decide +kernel) ?_
      refine y_ic (c := 0) (len := 1) (r := (0, 0, 0, 0)) (by decide +kernel) (by decide) (fun y2595 hy2595 => ?_)
      refine y_rI (len := 1) (r := (0, 0, 0, 0)) (nL := 3) (k := 2) (n9 := 3) (hs := []) (by decide +kernel) rfl (zfit_b (by omega) (by omega)).2 ?_
      exact ⟨hg, fun k j _ _ => rfl, Or.inr ⟨by omega, tlO_no (fun q => by omega) (fun q => by omega)⟩⟩
    ·
      refine y_cF (c := .ne) (off := 17) (len := 3) (r := (0, 0, 0, 0)) (by decide +kernel) (acmpF (c := .ne) (by show _ = _; omega)) ?_
      refine y_same (i := .aload_n 0) (len := 1) (r := (0, 0, 0, 0)) (pc' := 45) (ls' := [some (.inl (some 52)), some (zi xx), some (zi xy)]) (st' := [.inl (some 52)]) (by decide +kernel) (fun k q => by cases q) rfl ?_
      refine y_get (j := 34) (len := 3) (r := (12, 14, 2, 1342)) (by decide +kernel) hg (t52 hg) at52 rfl rfl (g_r52 (f := 14) (T2 := 69) hg rfl (by decide)).1 ?_
      refine y_same (i := .iload_n 2) (len := 1) (r := (0, 0, 0, 0)) (pc' := 49) (ls' := [some (.inl (some 52)), some (zi xx), some (zi xy)]) (st' := [zi xy, .inl (some 69)]) (by decide +kernel) (fun k q => by cases q) rfl ?_
      refine y_ial (i := y) (len := 1) (r := (0, 0, 0, 0)) (by decide +kernel) hg (tu69 hg) at69 (by omega) hb ?_
      refine y_same (i := .iload_n 1) (len := 1) (r := (0, 0, 0, 0)) (pc' := 51) (ls' := [some (.inl (some 52)), some (zi xx), some (zi xy)]) (st' := [zi xx, zi xb]) (by decide +kernel) (fun k q => by cases q) rfl ?_
      rcases Decidable.em (xb.toInt ≠ xx.toInt) with q2596 | q2596
      ·
        refine y_cT (c := .ne) (off := 7) (pc' := 58) (len := 3) (r := (0, 0, 0, 0)) (by decide +kernel) (acmpT (c := .ne) (by show ¬ (_ = _); omega)) (by decide +kernel) ?_
        refine y_ic (c := 0) (len := 1) (r := (0, 0, 0, 0)) (by decide +kernel) (by decide) (fun y2597 hy2597 => ?_)
        refine y_rI (len := 1) (r := (0, 0, 0, 0)) (nL := 3) (k := 2) (n9 := 3) (hs := []) (by decide +kernel) rfl (zfit_b (by omega) (by omega)).2 ?_
        exact ⟨hg, fun k j _ _ => rfl, Or.inr ⟨by omega, tlO_no (fun q => by omega) (fun q => by omega)⟩⟩
      ·
        refine y_cF (c := .ne) (off := 7) (len := 3) (r := (0, 0, 0, 0)) (by decide +kernel) (acmpF (c := .ne) (by show _ = _; omega)) ?_
        refine y_ic (c := 1) (len := 1) (r := (0, 0, 0, 0)) (by decide +kernel) (by decide) (fun y2598 hy2598 => ?_)
        refine y_goto (off := 4) (pc' := 59) (len := 3) (r := (0, 0, 0, 0)) (by decide +kernel) (by decide +kernel) ?_
        refine y_rI (len := 1) (r := (0, 0, 0, 0)) (nL := 3) (k := 2) (n9 := 3) (hs := []) (by decide +kernel) rfl (zfit_b (by omega) (by omega)).2 ?_
        exact ⟨hg, fun k j _ _ => rfl, Or.inl ⟨by omega, m, tlO_old (fun q => by omega) (by omega) (by omega), H⟩⟩
  ·
    refine y_cF (c := .ne) (off := 27) (len := 3) (r := (0, 0, 0, 0)) (by decide +kernel) (acmpF (c := .ne) (by show _ = _; omega)) ?_
    refine y_same (i := .aload_n 0) (len := 1) (r := (0, 0, 0, 0)) (pc' := 11) (ls' := [some (.inl (some 52)), some (zi xx), some (zi xy)]) (st' := [.inl (some 52)]) (by decide +kernel) (fun k q => by cases q) rfl ?_
    refine y_get (j := 34) (len := 3) (r := (12, 14, 2, 1342)) (by decide +kernel) hg (t52 hg) at52 rfl rfl (g_r52 (f := 14) (T2 := 69) hg rfl (by decide)).1 ?_
    refine y_same (i := .iload_n 2) (len := 1) (r := (0, 0, 0, 0)) (pc' := 15) (ls' := [some (.inl (some 52)), some (zi xx), some (zi xy)]) (st' := [zi xy, .inl (some 69)]) (by decide +kernel) (fun k q => by cases q) rfl ?_
    refine y_ial (i := y) (len := 1) (r := (0, 0, 0, 0)) (by decide +kernel) hg (tu69 hg) at69 (by omega) hb ?_
    refine y_ic (c := (-1)) (len := 1) (r := (0, 0, 0, 0)) (by decide +kernel) (by decide) (fun y2599 hy2599 => ?_)
    rcases Decidable.em (xb.toInt ≠ y2599.toInt) with q2600 | q2600
    ·
      refine y_cT (c := .ne) (off := 17) (pc' := 34) (len := 3) (r := (0, 0, 0, 0)) (by decide +kernel) (acmpT (c := .ne) (by show ¬ (_ = _); omega)) (by decide +kernel) ?_
      refine y_same (i := .aload_n 0) (len := 1) (r := (0, 0, 0, 0)) (pc' := 35) (ls' := [some (.inl (some 52)), some (zi xx), some (zi xy)]) (st' := [.inl (some 52)]) (by decide +kernel) (fun k q => by cases q) rfl ?_
      refine y_get (j := 31) (len := 3) (r := (12, 13, 2, 1341)) (by decide +kernel) hg (t52 hg) at52 rfl rfl (g_r52 (f := 13) (T2 := 68) hg rfl (by decide)).1 ?_
      refine y_same (i := .iload_n 1) (len := 1) (r := (0, 0, 0, 0)) (pc' := 39) (ls' := [some (.inl (some 52)), some (zi xx), some (zi xy)]) (st' := [zi xx, .inl (some 68)]) (by decide +kernel) (fun k q => by cases q) rfl ?_
      refine y_ial (i := x) (len := 1) (r := (0, 0, 0, 0)) (by decide +kernel) hg (tu68 hg) at68 (by omega) hf ?_
      refine y_same (i := .iload_n 2) (len := 1) (r := (0, 0, 0, 0)) (pc' := 41) (ls' := [some (.inl (some 52)), some (zi xx), some (zi xy)]) (st' := [zi xy, zi xf]) (by decide +kernel) (fun k q => by cases q) rfl ?_
      rcases Decidable.em (xf.toInt ≠ xy.toInt) with q2601 | q2601
      ·
        refine y_cT (c := .ne) (off := 17) (pc' := 58) (len := 3) (r := (0, 0, 0, 0)) (by decide +kernel) (acmpT (c := .ne) (by show ¬ (_ = _); omega)) (by decide +kernel) ?_
        refine y_ic (c := 0) (len := 1) (r := (0, 0, 0, 0)) (by decide +kernel) (by decide) (fun y2602 hy2602 => ?_)
        refine y_rI (len := 1) (r := (0, 0, 0, 0)) (nL := 3) (k := 2) (n9 := 3) (hs := []) (by decide +kernel) rfl (zfit_b (by omega) (by omega)).2 ?_
        exact ⟨hg, fun k j _ _ => rfl, Or.inr ⟨by omega, tlO_no (fun q => by omega) (fun q => by omega)⟩⟩
      ·
        refine y_cF (c := .ne) (off := 17) (len := 3) (r := (0, 0, 0, 0)) (by decide +kernel) (acmpF (c := .ne) (by show _ = _; omega)) ?_
        refine y_same (i := .aload_n 0) (len := 1) (r := (0, 0, 0, 0)) (pc' := 45) (ls' := [some (.inl (some 52)), some (zi xx), some (zi xy)]) (st' := [.inl (some 52)]) (by decide +kernel) (fun k q => by cases q) rfl ?_
        refine y_get (j := 34) (len := 3) (r := (12, 14, 2, 1342)) (by decide +kernel) hg (t52 hg) at52 rfl rfl (g_r52 (f := 14) (T2 := 69) hg rfl (by decide)).1 ?_
        refine y_same (i := .iload_n 2) (len := 1) (r := (0, 0, 0, 0)) (pc' := 49) (ls' := [some (.inl (some 52)), some (zi xx), some (zi xy)]) (st' := [zi xy, .inl (some 69)]) (by decide +kernel) (fun k q => by cases q) rfl ?_
        refine y_ial (i := y) (len := 1) (r := (0, 0, 0, 0)) (by decide +kernel) hg (tu69 hg) at69 (by omega) hb ?_
        refine y_same (i := .iload_n 1) (len := 1) (r := (0, 0, 0, 0)) (pc' := 51) (ls' := [some (.inl (some 52)), some (zi xx), some (zi xy)]) (st' := [zi xx, zi xb]) (by decide +kernel) (fun k q => by cases q) rfl ?_
        rcases Decidable.em (xb.toInt ≠ xx.toInt) with q2603 | q2603
        ·
          refine y_cT (c := .ne) (off := 7) (pc' := 58) (len := 3) (r := (0, 0, 0, 0)) (by decide +kernel) (acmpT (c := .ne) (by show ¬ (_ = _); omega)) (by decide +kernel) ?_
          refine y_ic (c := 0) (len := 1) (r := (0, 0, 0, 0)) (by decide +kernel) (by decide) (fun y2604 hy2604 => ?_)
          refine y_rI (len := 1) (r := (0, 0, 0, 0)) (nL := 3) (k := 2) (n9 := 3) (hs := []) (by decide +kernel) rfl (zfit_b (by omega) (by omega)).2 ?_
          exact ⟨hg, fun k j _ _ => rfl, Or.inr ⟨by omega, tlO_no (fun q => by omega) (fun q => by omega)⟩⟩
        ·
          refine y_cF (c := .ne) (off := 7) (len := 3) (r := (0, 0, 0, 0)) (by decide +kernel) (acmpF (c := .ne) (by show _ = _; omega)) ?_
          refine y_ic (c := 1) (len := 1) (r := (0, 0, 0, 0)) (by decide +kernel) (by decide) (fun y2605 hy2605 => ?_)
          refine y_goto (off := 4) (pc' := 59) (len := 3) (r := (0, 0, 0, 0)) (by decide +kernel) (by decide +kernel) ?_
          refine y_rI (len := 1) (r := (0, 0, 0, 0)) (nL := 3) (k := 2) (n9 := 3) (hs := []) (by decide +kernel) rfl (zfit_b (by omega) (by omega)).2 ?_
          exact ⟨hg, fun k j _ _ => rfl, Or.inl ⟨by omega, m, tlO_old (fun q => by omega) (by omega) (by omega), H⟩⟩
    ·
      refine y_cF (c := .ne) (off := 17) (len := 3) (r := (0, 0, 0, 0)) (by decide +kernel) (acmpF (c := .ne) (by show _ = _; omega)) ?_
      refine y_same (i := .aload_n 0) (len := 1) (r := (0, 0, 0, 0)) (pc' := 21) (ls' := [some (.inl (some 52)), some (zi xx), some (zi xy)]) (st' := [.inl (some 52)]) (by decide +kernel) (fun k q => by cases q) rfl ?_
      refine y_get (j := 31) (len := 3) (r := (12, 13, 2, 1341)) (by decide +kernel) hg (t52 hg) at52 rfl rfl (g_r52 (f := 13) (T2 := 68) hg rfl (by decide)).1 ?_
      refine y_same (i := .iload_n 1) (len := 1) (r := (0, 0, 0, 0)) (pc' := 25) (ls' := [some (.inl (some 52)), some (zi xx), some (zi xy)]) (st' := [zi xx, .inl (some 68)]) (by decide +kernel) (fun k q => by cases q) rfl ?_
      refine y_same (i := .iload_n 2) (len := 1) (r := (0, 0, 0, 0)) (pc' := 26) (ls' := [some (.inl (some 52)), some (zi xx), some (zi xy)]) (st' := [zi xy, zi xx, .inl (some 68)]) (by decide +kernel) (fun k q => by cases q) rfl ?_
      refine y_ias (i := x) (len := 1) (r := (0, 0, 0, 0)) (by decide +kernel) hg (tu68 hg) at68 rfl (by omega) (by omega) (sr1 (by omega)) (by omega) (by omega) (fun h2606 hg2606 hl2606 hs2606 ho2606 => ?_)
      refine y_same (i := .aload_n 0) (len := 1) (r := (0, 0, 0, 0)) (pc' := 28) (ls' := [some (.inl (some 52)), some (zi xx), some (zi xy)]) (st' := [.inl (some 52)]) (by decide +kernel) (fun k q => by cases q) rfl ?_
      refine y_get (j := 34) (len := 3) (r := (12, 14, 2, 1342)) (by decide +kernel) hg2606 (t52 hg2606) at52 rfl rfl (g_r52 (f := 14) (T2 := 69) hg2606 rfl (by decide)).1 ?_
      refine y_same (i := .iload_n 2) (len := 1) (r := (0, 0, 0, 0)) (pc' := 32) (ls' := [some (.inl (some 52)), some (zi xx), some (zi xy)]) (st' := [zi xy, .inl (some 69)]) (by decide +kernel) (fun k q => by cases q) rfl ?_
      refine y_same (i := .iload_n 1) (len := 1) (r := (0, 0, 0, 0)) (pc' := 33) (ls' := [some (.inl (some 52)), some (zi xx), some (zi xy)]) (st' := [zi xx, zi xy, .inl (some 69)]) (by decide +kernel) (fun k q => by cases q) rfl ?_
      refine y_ias (i := y) (len := 1) (r := (0, 0, 0, 0)) (by decide +kernel) hg2606 (tu69 hg2606) at69 rfl (by omega) (by omega) (sr1 (by omega)) (by omega) (by omega) (fun h2607 hg2607 hl2607 hs2607 ho2607 => ?_)
      refine y_same (i := .aload_n 0) (len := 1) (r := (0, 0, 0, 0)) (pc' := 35) (ls' := [some (.inl (some 52)), some (zi xx), some (zi xy)]) (st' := [.inl (some 52)]) (by decide +kernel) (fun k q => by cases q) rfl ?_
      refine y_get (j := 31) (len := 3) (r := (12, 13, 2, 1341)) (by decide +kernel) hg2607 (t52 hg2607) at52 rfl rfl (g_r52 (f := 13) (T2 := 68) hg2607 rfl (by decide)).1 ?_
      refine y_same (i := .iload_n 1) (len := 1) (r := (0, 0, 0, 0)) (pc' := 39) (ls' := [some (.inl (some 52)), some (zi xx), some (zi xy)]) (st' := [zi xx, .inl (some 68)]) (by decide +kernel) (fun k q => by cases q) rfl ?_
      have hv2608 := (ho2607 68 x (Or.inl (by omega))).trans hs2606
      refine y_ial (i := x) (len := 1) (r := (0, 0, 0, 0)) (by decide +kernel) hg2607 (tu68 hg2607) at68 (by omega) hv2608 ?_
      refine y_same (i := .iload_n 2) (len := 1) (r := (0, 0, 0, 0)) (pc' := 41) (ls' := [some (.inl (some 52)), some (zi xx), some (zi xy)]) (st' := [zi xy, zi xy]) (by decide +kernel) (fun k q => by cases q) rfl ?_
      rcases Decidable.em (xy.toInt ≠ xy.toInt) with q2609 | q2609
      ·
        refine y_cT (c := .ne) (off := 17) (pc' := 58) (len := 3) (r := (0, 0, 0, 0)) (by decide +kernel) (acmpT (c := .ne) (by show ¬ (_ = _); omega)) (by decide +kernel) ?_
        refine y_ic (c := 0) (len := 1) (r := (0, 0, 0, 0)) (by decide +kernel) (by decide) (fun y2610 hy2610 => ?_)
        refine y_rI (len := 1) (r := (0, 0, 0, 0)) (nL := 3) (k := 2) (n9 := 3) (hs := []) (by decide +kernel) rfl (zfit_b (by omega) (by omega)).2 ?_
        exfalso
        omega
      ·
        refine y_cF (c := .ne) (off := 17) (len := 3) (r := (0, 0, 0, 0)) (by decide +kernel) (acmpF (c := .ne) (by show _ = _; omega)) ?_
        refine y_same (i := .aload_n 0) (len := 1) (r := (0, 0, 0, 0)) (pc' := 45) (ls' := [some (.inl (some 52)), some (zi xx), some (zi xy)]) (st' := [.inl (some 52)]) (by decide +kernel) (fun k q => by cases q) rfl ?_
        refine y_get (j := 34) (len := 3) (r := (12, 14, 2, 1342)) (by decide +kernel) hg2607 (t52 hg2607) at52 rfl rfl (g_r52 (f := 14) (T2 := 69) hg2607 rfl (by decide)).1 ?_
        refine y_same (i := .iload_n 2) (len := 1) (r := (0, 0, 0, 0)) (pc' := 49) (ls' := [some (.inl (some 52)), some (zi xx), some (zi xy)]) (st' := [zi xy, .inl (some 69)]) (by decide +kernel) (fun k q => by cases q) rfl ?_
        refine y_ial (i := y) (len := 1) (r := (0, 0, 0, 0)) (by decide +kernel) hg2607 (tu69 hg2607) at69 (by omega) hs2607 ?_
        refine y_same (i := .iload_n 1) (len := 1) (r := (0, 0, 0, 0)) (pc' := 51) (ls' := [some (.inl (some 52)), some (zi xx), some (zi xy)]) (st' := [zi xx, zi xx]) (by decide +kernel) (fun k q => by cases q) rfl ?_
        rcases Decidable.em (xx.toInt ≠ xx.toInt) with q2611 | q2611
        ·
          refine y_cT (c := .ne) (off := 7) (pc' := 58) (len := 3) (r := (0, 0, 0, 0)) (by decide +kernel) (acmpT (c := .ne) (by show ¬ (_ = _); omega)) (by decide +kernel) ?_
          refine y_ic (c := 0) (len := 1) (r := (0, 0, 0, 0)) (by decide +kernel) (by decide) (fun y2612 hy2612 => ?_)
          refine y_rI (len := 1) (r := (0, 0, 0, 0)) (nL := 3) (k := 2) (n9 := 3) (hs := []) (by decide +kernel) rfl (zfit_b (by omega) (by omega)).2 ?_
          exfalso
          omega
        ·
          refine y_cF (c := .ne) (off := 7) (len := 3) (r := (0, 0, 0, 0)) (by decide +kernel) (acmpF (c := .ne) (by show _ = _; omega)) ?_
          refine y_ic (c := 1) (len := 1) (r := (0, 0, 0, 0)) (by decide +kernel) (by decide) (fun y2613 hy2613 => ?_)
          refine y_goto (off := 4) (pc' := 59) (len := 3) (r := (0, 0, 0, 0)) (by decide +kernel) (by decide +kernel) ?_
          refine y_rI (len := 1) (r := (0, 0, 0, 0)) (nL := 3) (k := 2) (n9 := 3) (hs := []) (by decide +kernel) rfl (zfit_b (by omega) (by omega)).2 ?_
          exact ⟨hg2607, fun k j h1 h2 => ((ho2607 k j (by omega)).trans (ho2606 k j (by omega))), Or.inl ⟨by omega, _, tlO_new ⟨by omega, by omega⟩, mpM_st H ⟨_, hv2608, by omega⟩ ⟨_, hs2607, by omega⟩ (fun j hj => ((ho2607 68 j (by omega)).trans (ho2606 68 j (by omega)))) (fun j hj => ((ho2607 69 j (by omega)).trans (ho2606 69 j (by omega))))⟩⟩
theorem m_tlsI {d t : Nat} {x y : Int} {τ : List Nat} {h : zh} {m : mp2} {xx xy : Int32} (hg : hG τ h) (H : mpM h m) (exx : xx.toInt = x) (hx : 0 ≤ x ∧ x ≤ 20) (exy : xy.toInt = y) (hy : 0 ≤ y ∧ y ≤ 20) : qI (d + 1) 220 [some (.inl (some 52)), some (zi xx), some (zi xy)] h t (fun y1 h1 => hG τ h1 ∧ FK h h1 ∧ ((y1.toInt = 1 ∧ ∃ m', tlO x y m = some m' ∧ mpM h1 m') ∨ (y1.toInt = 0 ∧ tlO x y m = none))) := by
  have k := m_tls (d := d) (t := t) (x := x.toNat) (y := y.toNat) hg H (show xx.toInt = _ by omega) (by omega) (show xy.toInt = _ by omega) (by omega)
  rw [show ((x.toNat : Nat) : Int) = x by omega, show ((y.toNat : Nat) : Int) = y by omega] at k
  exact k
theorem m_ist {d t : Nat} {h : zh} {xk xw : Int32} : qI (d + 1) 222 [some (zi xk), some (zi xw)] h t (fun y h1 => h = h1 ∧ ((y.toInt = 1 ∧ (xw.toInt = 1 ∨ (xw.toInt = 2 ∧ xk.toInt ≠ 3) ∨ xk.toInt = 1)) ∨ (y.toInt = 0 ∧ ¬ (xw.toInt = 1 ∨ (xw.toInt = 2 ∧ xk.toInt ≠ 3) ∨ xk.toInt = 1)))) := by
  refine qI_of ?_
  refine y_same (i := .iload_n 1) (len := 1) (r := (0, 0, 0, 0)) (pc' := 1) (ls' := [some (zi xk), some (zi xw)]) (st' := [zi xw]) (by decide +kernel) (fun k q => by cases q) rfl ?_
  refine y_ic (c := 1) (len := 1) (r := (0, 0, 0, 0)) (by decide +kernel) (by decide) (fun y2614 hy2614 => ?_)
  rcases Decidable.em (xw.toInt = y2614.toInt) with q2615 | q2615
  ·
    refine y_cT (c := .eq) (off := 18) (pc' := 20) (len := 3) (r := (0, 0, 0, 0)) (by decide +kernel) (acmpT (c := .eq) (by show _ = _; omega)) (by decide +kernel) ?_
    refine y_ic (c := 1) (len := 1) (r := (0, 0, 0, 0)) (by decide +kernel) (by decide) (fun y2616 hy2616 => ?_)
    refine y_goto (off := 4) (pc' := 25) (len := 3) (r := (0, 0, 0, 0)) (by decide +kernel) (by decide +kernel) ?_
    refine y_rI (len := 1) (r := (0, 0, 0, 0)) (nL := 2) (k := 2) (n9 := 2) (hs := []) (by decide +kernel) rfl (zfit_b (by omega) (by omega)).2 ?_
    exact ⟨rfl, by omega⟩
  ·
    refine y_cF (c := .eq) (off := 18) (len := 3) (r := (0, 0, 0, 0)) (by decide +kernel) (acmpF (c := .eq) (by show ¬ (_ = _); omega)) ?_
    refine y_same (i := .iload_n 1) (len := 1) (r := (0, 0, 0, 0)) (pc' := 6) (ls' := [some (zi xk), some (zi xw)]) (st' := [zi xw]) (by decide +kernel) (fun k q => by cases q) rfl ?_
    refine y_ic (c := 2) (len := 1) (r := (0, 0, 0, 0)) (by decide +kernel) (by decide) (fun y2617 hy2617 => ?_)
    rcases Decidable.em (xw.toInt ≠ y2617.toInt) with q2618 | q2618
    ·
      refine y_cT (c := .ne) (off := 8) (pc' := 15) (len := 3) (r := (0, 0, 0, 0)) (by decide +kernel) (acmpT (c := .ne) (by show ¬ (_ = _); omega)) (by decide +kernel) ?_
      refine y_same (i := .iload_n 0) (len := 1) (r := (0, 0, 0, 0)) (pc' := 16) (ls' := [some (zi xk), some (zi xw)]) (st' := [zi xk]) (by decide +kernel) (fun k q => by cases q) rfl ?_
      refine y_ic (c := 1) (len := 1) (r := (0, 0, 0, 0)) (by decide +kernel) (by decide) (fun y2619 hy2619 => ?_)
      rcases Decidable.em (xk.toInt ≠ y2619.toInt) with q2620 | q2620
      ·
        refine y_cT (c := .ne) (off := 7) (pc' := 24) (len := 3) (r := (0, 0, 0, 0)) (by decide +kernel) (acmpT (c := .ne) (by show ¬ (_ = _); omega)) (by decide +kernel) ?_
        refine y_ic (c := 0) (len := 1) (r := (0, 0, 0, 0)) (by decide +kernel) (by decide) (fun y2621 hy2621 => ?_)
        refine y_rI (len := 1) (r := (0, 0, 0, 0)) (nL := 2) (k := 2) (n9 := 2) (hs := []) (by decide +kernel) rfl (zfit_b (by omega) (by omega)).2 ?_
        exact ⟨rfl, by omega⟩
      ·
        refine y_cF (c := .ne) (off := 7) (len := 3) (r := (0, 0, 0, 0)) (by decide +kernel) (acmpF (c := .ne) (by show _ = _; omega)) ?_
        refine y_ic (c := 1) (len := 1) (r := (0, 0, 0, 0)) (by decide +kernel) (by decide) (fun y2622 hy2622 => ?_)
        refine y_goto (off := 4) (pc' := 25) (len := 3) (r := (0, 0, 0, 0)) (by decide +kernel) (by decide +kernel) ?_
        refine y_rI (len := 1) (r := (0, 0, 0, 0)) (nL := 2) (k := 2) (n9 := 2) (hs := []) (by decide +kernel) rfl (zfit_b (by omega) (by omega)).2 ?_
        exact ⟨rfl, by omega⟩
    ·
      refine y_cF (c := .ne) (off := 8) (len := 3) (r := (0, 0, 0, 0)) (by decide +kernel) (acmpF (c := .ne) (by show _ = _; omega)) ?_
      refine y_same (i := .iload_n 0) (len := 1) (r := (0, 0, 0, 0)) (pc' := 11) (ls' := [some (zi xk), some (zi xw)]) (st' := [zi xk]) (by decide +kernel) (fun k q => by cases q) rfl ?_
      refine y_ic (c := 3) (len := 1) (r := (0, 0, 0, 0)) (by decide +kernel) (by decide) (fun y2623 hy2623 => ?_)
      rcases Decidable.em (xk.toInt ≠ y2623.toInt) with q2624 | q2624
      ·
        refine y_cT (c := .ne) (off := 8) (pc' := 20) (len := 3) (r := (0, 0, 0, 0)) (by decide +kernel) (acmpT (c := .ne) (by show ¬ (_ = _); omega)) (by decide +kernel) ?_
        refine y_ic (c := 1) (len := 1) (r := (0, 0, 0, 0)) (by decide +kernel) (by decide) (fun y2625 hy2625 => ?_)
        refine y_goto (off := 4) (pc' := 25) (len := 3) (r := (0, 0, 0, 0)) (by decide +kernel) (by decide +kernel) ?_
        refine y_rI (len := 1) (r := (0, 0, 0, 0)) (nL := 2) (k := 2) (n9 := 2) (hs := []) (by decide +kernel) rfl (zfit_b (by omega) (by omega)).2 ?_
        exact ⟨rfl, by omega⟩
      ·
        refine y_cF (c := .ne) (off := 8) (len := 3) (r := (0, 0, 0, 0)) (by decide +kernel) (acmpF (c := .ne) (by show _ = _; omega)) ?_
        refine y_same (i := .iload_n 0) (len := 1) (r := (0, 0, 0, 0)) (pc' := 16) (ls' := [some (zi xk), some (zi xw)]) (st' := [zi xk]) (by decide +kernel) (fun k q => by cases q) rfl ?_
        refine y_ic (c := 1) (len := 1) (r := (0, 0, 0, 0)) (by decide +kernel) (by decide) (fun y2626 hy2626 => ?_)
        rcases Decidable.em (xk.toInt ≠ y2626.toInt) with q2627 | q2627
        ·
          refine y_cT (c := .ne) (off := 7) (pc' := 24) (len := 3) (r := (0, 0, 0, 0)) (by decide +kernel) (acmpT (c := .ne) (by show ¬ (_ = _); omega)) (by decide +kernel) ?_
          refine y_ic (c := 0) (len := 1) (r := (0, 0, 0, 0)) (by decide +kernel) (by decide) (fun y2628 hy2628 => ?_)
          refine y_rI (len := 1) (r := (0, 0, 0, 0)) (nL := 2) (k := 2) (n9 := 2) (hs := []) (by decide +kernel) rfl (zfit_b (by omega) (by omega)).2 ?_
          exact ⟨rfl, by omega⟩
        ·
          refine y_cF (c := .ne) (off := 7) (len := 3) (r := (0, 0, 0, 0)) (by decide +kernel) (acmpF (c := .ne) (by show _ = _; omega)) ?_
          refine y_ic (c := 1) (len := 1) (r := (0, 0, 0, 0)) (by decide +kernel) (by decide) (fun y2629 hy2629 => ?_)
          refine y_goto (off := 4) (pc' := 25) (len := 3) (r := (0, 0, 0, 0)) (by decide +kernel) (by decide +kernel) ?_
          refine y_rI (len := 1) (r := (0, 0, 0, 0)) (nL := 2) (k := 2) (n9 := 2) (hs := []) (by decide +kernel) rfl (zfit_b (by omega) (by omega)).2 ?_
          exact ⟨rfl, by omega⟩
theorem mrw_L {d t : Nat} {τ : List Nat} {A B : Nat} {s s2 : sqT} (nA : 70 < A) (nB : 70 < B) (hl : s.1.length = s2.1.length) {xf xm xw : Int32} (exf : xf.toInt = 24) (exm : xm.toInt = (s.1.length : Int)) (exw : xw.toInt = 4) : ∀ (n : Nat) (h : zh) (k : Nat) (xa : Int32) (xk : Int32) (l8 : Option zv) (m : mp2), (QM τ h A s) → (QM τ h B s2) → (mpM h m) → (mpZ m) → (xa.toInt = 1) → (xk.toInt = (k : Int)) → (k ≤ s.1.length) → (s.1.length < k + n) → qX (d + 2) 221 6 [some (.inl (some 52)), some (.inl (some A)), some (.inl (some B)), some (zi xf), some (zi xm), some (zi xw), some (zi xa), some (zi xk), l8] [] h t (rI (fun y1 h1 => hG τ h1 ∧ FK h h1 ∧ ((y1.toInt = 1 ∧ ∃ m', tlR (s.1.drop k) (s2.1.drop k) m = some m' ∧ mpM h1 m') ∨ (y1.toInt = 0 ∧ tlR (s.1.drop k) (s2.1.drop k) m = none))) t) := by
  intro n
  induction n with
  | zero =>
    intro h k xa xk l8 m Q Q2 H hz hxa hxk hk hn
    exfalso
    omega
  | succ n ih =>
    intro h k xa xk l8 m Q Q2 H hz hxa hxk hk hn
    obtain ⟨T, c0, tA, aT, hc0, pT⟩ := Q.2.1
    obtain ⟨T2, c2, tB, aB, hc2, pB⟩ := Q2.2.1
    have lA := qm_lenL Q
    have lB := qm_lenL Q2
    refine y_same (i := .iload 7) (len := 2) (r := (0, 0, 0, 0)) (pc' := 8) (ls' := [some (.inl (some 52)), some (.inl (some A)), some (.inl (some B)), some (zi xf), some (zi xm), some (zi xw), some (zi xa), some (zi xk), l8]) (st' := [zi xk]) (by decide +kernel) (fun k q => by cases q) rfl ?_
    refine y_same (i := .iload 4) (len := 2) (r := (0, 0, 0, 0)) (pc' := 10) (ls' := [some (.inl (some 52)), some (.inl (some A)), some (.inl (some B)), some (zi xf), some (zi xm), some (zi xw), some (zi xa), some (zi xk), l8]) (st' := [zi xm, zi xk]) (by decide +kernel) (fun k q => by cases q) rfl ?_
    rcases Decidable.em (xk.toInt ≥ xm.toInt) with q2630 | q2630
    ·
      refine y_cT (c := .ge) (off := 110) (pc' := 120) (len := 3) (r := (0, 0, 0, 0)) (by decide +kernel) (acmpT (c := .ge) (by show _ ≤ _; omega)) (by decide +kernel) ?_
      refine y_same (i := .iload 6) (len := 2) (r := (0, 0, 0, 0)) (pc' := 122) (ls' := [some (.inl (some 52)), some (.inl (some A)), some (.inl (some B)), some (zi xf), some (zi xm), some (zi xw), some (zi xa), some (zi xk), l8]) (st' := [zi xa]) (by decide +kernel) (fun k q => by cases q) rfl ?_
      refine y_rI (len := 1) (r := (0, 0, 0, 0)) (nL := 9) (k := 2) (n9 := 6) (hs := []) (by decide +kernel) rfl (zfit_b (by omega) (by omega)).2 ?_
      exact ⟨Q.1, fun k j _ _ => rfl, Or.inl ⟨by omega, m, tlR_e (by omega) (by omega), H⟩⟩
    ·
      refine y_cF (c := .ge) (off := 110) (len := 3) (r := (0, 0, 0, 0)) (by decide +kernel) (acmpF (c := .ge) (by show _ < _; omega)) ?_
      refine y_same (i := .iload 6) (len := 2) (r := (0, 0, 0, 0)) (pc' := 15) (ls' := [some (.inl (some 52)), some (.inl (some A)), some (.inl (some B)), some (zi xf), some (zi xm), some (zi xw), some (zi xa), some (zi xk), l8]) (st' := [zi xa]) (by decide +kernel) (fun k q => by cases q) rfl ?_
      refine y_iF (c := .eq) (off := 105) (len := 3) (r := (0, 0, 0, 0)) (by decide +kernel) (acmpF (c := .eq) (by show ¬ (_ = _); omega)) ?_
      obtain ⟨ip, kip⟩ : ∃ i9, s.1[k]? = some i9 := ⟨_, List.getElem?_eq_getElem (by omega)⟩
      obtain ⟨iq, kiq⟩ : ∃ i9, s2.1[k]? = some i9 := ⟨_, List.getElem?_eq_getElem (by omega)⟩
      have oip := okQ_L Q.2.2.2 kip
      have pip := oip.1
      unfold okV at pip
      obtain ⟨aip, bip, cip, dip, ⟨haip, hbip, hcip, hdip⟩, eaip, ebip, ecip, edip⟩ := qm_itL Q kip
      have oiq := okQ_L Q2.2.2.2 kiq
      have piq := oiq.1
      unfold okV at piq
      obtain ⟨aiq, biq, ciq, diq, ⟨haiq, hbiq, hciq, hdiq⟩, eaiq, ebiq, eciq, ediq⟩ := qm_itL Q2 kiq
      refine y_same (i := .aload_n 1) (len := 1) (r := (0, 0, 0, 0)) (pc' := 19) (ls' := [some (.inl (some 52)), some (.inl (some A)), some (.inl (some B)), some (zi xf), some (zi xm), some (zi xw), some (zi xa), some (zi xk), l8]) (st' := [.inl (some A)]) (by decide +kernel) (fun k q => by cases q) rfl ?_
      refine y_same (i := .iload_n 3) (len := 1) (r := (0, 0, 0, 0)) (pc' := 20) (ls' := [some (.inl (some 52)), some (.inl (some A)), some (.inl (some B)), some (zi xf), some (zi xm), some (zi xw), some (zi xa), some (zi xk), l8]) (st' := [zi xf, .inl (some A)]) (by decide +kernel) (fun k q => by cases q) rfl ?_
      refine y_ic (c := 4) (len := 1) (r := (0, 0, 0, 0)) (by decide +kernel) (by decide) (fun y2631 hy2631 => ?_)
      refine y_same (i := .iload 7) (len := 2) (r := (0, 0, 0, 0)) (pc' := 23) (ls' := [some (.inl (some 52)), some (.inl (some A)), some (.inl (some B)), some (zi xf), some (zi xm), some (zi xw), some (zi xa), some (zi xk), l8]) (st' := [zi xk, zi y2631, zi xf, .inl (some A)]) (by decide +kernel) (fun k q => by cases q) rfl ?_
      refine y_mul (c := 4) (len := 1) (r := (0, 0, 0, 0)) (by decide +kernel) (by omega) (by omega) (by omega) (fun y2632 hy2632 => ?_)
      refine y_add (len := 1) (r := (0, 0, 0, 0)) (by decide +kernel) (by omega) (by omega) (fun y2633 hy2633 => ?_)
      refine y_ial (i := (24 + 4 * k)) (len := 1) (r := (0, 0, 0, 0)) (by decide +kernel) Q.1 tA aT (by omega) haip ?_
      refine y_same (i := .aload_n 2) (len := 1) (r := (0, 0, 0, 0)) (pc' := 27) (ls' := [some (.inl (some 52)), some (.inl (some A)), some (.inl (some B)), some (zi xf), some (zi xm), some (zi xw), some (zi xa), some (zi xk), l8]) (st' := [.inl (some B), zi aip]) (by decide +kernel) (fun k q => by cases q) rfl ?_
      refine y_same (i := .iload_n 3) (len := 1) (r := (0, 0, 0, 0)) (pc' := 28) (ls' := [some (.inl (some 52)), some (.inl (some A)), some (.inl (some B)), some (zi xf), some (zi xm), some (zi xw), some (zi xa), some (zi xk), l8]) (st' := [zi xf, .inl (some B), zi aip]) (by decide +kernel) (fun k q => by cases q) rfl ?_
      refine y_ic (c := 4) (len := 1) (r := (0, 0, 0, 0)) (by decide +kernel) (by decide) (fun y2634 hy2634 => ?_)
      refine y_same (i := .iload 7) (len := 2) (r := (0, 0, 0, 0)) (pc' := 31) (ls' := [some (.inl (some 52)), some (.inl (some A)), some (.inl (some B)), some (zi xf), some (zi xm), some (zi xw), some (zi xa), some (zi xk), l8]) (st' := [zi xk, zi y2634, zi xf, .inl (some B), zi aip]) (by decide +kernel) (fun k q => by cases q) rfl ?_
      refine y_mul (c := 4) (len := 1) (r := (0, 0, 0, 0)) (by decide +kernel) (by omega) (by omega) (by omega) (fun y2635 hy2635 => ?_)
      refine y_add (len := 1) (r := (0, 0, 0, 0)) (by decide +kernel) (by omega) (by omega) (fun y2636 hy2636 => ?_)
      refine y_ial (i := (24 + 4 * k)) (len := 1) (r := (0, 0, 0, 0)) (by decide +kernel) Q.1 tB aB (by omega) haiq ?_
      rcases Decidable.em (aip.toInt ≠ aiq.toInt) with q2637 | q2637
      ·
        refine y_cT (c := .ne) (off := 7) (pc' := 41) (len := 3) (r := (0, 0, 0, 0)) (by decide +kernel) (acmpT (c := .ne) (by show ¬ (_ = _); omega)) (by decide +kernel) ?_
        refine y_ic (c := 0) (len := 1) (r := (0, 0, 0, 0)) (by decide +kernel) (by decide) (fun y2638 hy2638 => ?_)
        refine y_same (i := .istore 6) (len := 2) (r := (0, 0, 0, 0)) (pc' := 44) (ls' := [some (.inl (some 52)), some (.inl (some A)), some (.inl (some B)), some (zi xf), some (zi xm), some (zi xw), some (zi y2638), some (zi xk), l8]) (st' := []) (by decide +kernel) (fun k q => by cases q) rfl ?_
        refine y_ic (c := 1) (len := 1) (r := (0, 0, 0, 0)) (by decide +kernel) (by decide) (fun y2639 hy2639 => ?_)
        refine y_same (i := .istore 8) (len := 2) (r := (0, 0, 0, 0)) (pc' := 47) (ls' := [some (.inl (some 52)), some (.inl (some A)), some (.inl (some B)), some (zi xf), some (zi xm), some (zi xw), some (zi y2638), some (zi xk), some (zi y2639)]) (st' := []) (by decide +kernel) (fun k q => by cases q) rfl ?_
        refine y_same (i := .iload 8) (len := 2) (r := (0, 0, 0, 0)) (pc' := 49) (ls' := [some (.inl (some 52)), some (.inl (some A)), some (.inl (some B)), some (zi xf), some (zi xm), some (zi xw), some (zi y2638), some (zi xk), some (zi y2639)]) (st' := [zi y2639]) (by decide +kernel) (fun k q => by cases q) rfl ?_
        refine y_same (i := .iload 5) (len := 2) (r := (0, 0, 0, 0)) (pc' := 51) (ls' := [some (.inl (some 52)), some (.inl (some A)), some (.inl (some B)), some (zi xf), some (zi xm), some (zi xw), some (zi y2638), some (zi xk), some (zi y2639)]) (st' := [zi xw, zi y2639]) (by decide +kernel) (fun k q => by cases q) rfl ?_
        refine y_cF (c := .ge) (off := 63) (len := 3) (r := (0, 0, 0, 0)) (by decide +kernel) (acmpF (c := .ge) (by show _ < _; omega)) ?_
        refine y_same (i := .iload 6) (len := 2) (r := (0, 0, 0, 0)) (pc' := 56) (ls' := [some (.inl (some 52)), some (.inl (some A)), some (.inl (some B)), some (zi xf), some (zi xm), some (zi xw), some (zi y2638), some (zi xk), some (zi y2639)]) (st' := [zi y2638]) (by decide +kernel) (fun k q => by cases q) rfl ?_
        refine y_iT (c := .eq) (off := 58) (pc' := 114) (len := 3) (r := (0, 0, 0, 0)) (by decide +kernel) (acmpT (c := .eq) (by show _ = _; omega)) (by decide +kernel) ?_
        refine y_inc (j := 7) (a := xk) (c := 1) (ls' := fun v => [some (.inl (some 52)), some (.inl (some A)), some (.inl (some B)), some (zi xf), some (zi xm), some (zi xw), some (zi y2638), some v, some (zi y2639)]) (len := 3) (r := (0, 0, 0, 0)) (by decide +kernel) rfl (fun _ => rfl) (by decide) (by omega) (by omega) (fun y2640 hy2640 => ?_)
        show qX (d + 2) 221 117 [some (.inl (some 52)), some (.inl (some A)), some (.inl (some B)), some (zi xf), some (zi xm), some (zi xw), some (zi y2638), some (zi y2640), some (zi y2639)] [] h t _
        refine y_goto (off := (-111)) (pc' := 6) (len := 3) (r := (0, 0, 0, 0)) (by decide +kernel) (by decide +kernel) ?_
        refine y_same (i := .iload 7) (len := 2) (r := (0, 0, 0, 0)) (pc' := 8) (ls' := [some (.inl (some 52)), some (.inl (some A)), some (.inl (some B)), some (zi xf), some (zi xm), some (zi xw), some (zi y2638), some (zi y2640), some (zi y2639)]) (st' := [zi y2640]) (by decide +kernel) (fun k q => by cases q) rfl ?_
        refine y_same (i := .iload 4) (len := 2) (r := (0, 0, 0, 0)) (pc' := 10) (ls' := [some (.inl (some 52)), some (.inl (some A)), some (.inl (some B)), some (zi xf), some (zi xm), some (zi xw), some (zi y2638), some (zi y2640), some (zi y2639)]) (st' := [zi xm, zi y2640]) (by decide +kernel) (fun k q => by cases q) rfl ?_
        rcases Decidable.em (y2640.toInt ≥ xm.toInt) with q2641 | q2641
        ·
          refine y_cT (c := .ge) (off := 110) (pc' := 120) (len := 3) (r := (0, 0, 0, 0)) (by decide +kernel) (acmpT (c := .ge) (by show _ ≤ _; omega)) (by decide +kernel) ?_
          refine y_same (i := .iload 6) (len := 2) (r := (0, 0, 0, 0)) (pc' := 122) (ls' := [some (.inl (some 52)), some (.inl (some A)), some (.inl (some B)), some (zi xf), some (zi xm), some (zi xw), some (zi y2638), some (zi y2640), some (zi y2639)]) (st' := [zi y2638]) (by decide +kernel) (fun k q => by cases q) rfl ?_
          refine y_rI (len := 1) (r := (0, 0, 0, 0)) (nL := 9) (k := 2) (n9 := 6) (hs := []) (by decide +kernel) rfl (zfit_b (by omega) (by omega)).2 ?_
          exact ⟨Q.1, fun k j h1 h2 => rfl, Or.inr ⟨by omega, tlR_n kip kiq (tlI_k (by omega))⟩⟩
        ·
          refine y_cF (c := .ge) (off := 110) (len := 3) (r := (0, 0, 0, 0)) (by decide +kernel) (acmpF (c := .ge) (by show _ < _; omega)) ?_
          refine y_same (i := .iload 6) (len := 2) (r := (0, 0, 0, 0)) (pc' := 15) (ls' := [some (.inl (some 52)), some (.inl (some A)), some (.inl (some B)), some (zi xf), some (zi xm), some (zi xw), some (zi y2638), some (zi y2640), some (zi y2639)]) (st' := [zi y2638]) (by decide +kernel) (fun k q => by cases q) rfl ?_
          refine y_iT (c := .eq) (off := 105) (pc' := 120) (len := 3) (r := (0, 0, 0, 0)) (by decide +kernel) (acmpT (c := .eq) (by show _ = _; omega)) (by decide +kernel) ?_
          refine y_same (i := .iload 6) (len := 2) (r := (0, 0, 0, 0)) (pc' := 122) (ls' := [some (.inl (some 52)), some (.inl (some A)), some (.inl (some B)), some (zi xf), some (zi xm), some (zi xw), some (zi y2638), some (zi y2640), some (zi y2639)]) (st' := [zi y2638]) (by decide +kernel) (fun k q => by cases q) rfl ?_
          refine y_rI (len := 1) (r := (0, 0, 0, 0)) (nL := 9) (k := 2) (n9 := 6) (hs := []) (by decide +kernel) rfl (zfit_b (by omega) (by omega)).2 ?_
          exact ⟨Q.1, fun k j h1 h2 => rfl, Or.inr ⟨by omega, tlR_n kip kiq (tlI_k (by omega))⟩⟩
      ·
        refine y_cF (c := .ne) (off := 7) (len := 3) (r := (0, 0, 0, 0)) (by decide +kernel) (acmpF (c := .ne) (by show _ = _; omega)) ?_
        refine y_ic (c := 1) (len := 1) (r := (0, 0, 0, 0)) (by decide +kernel) (by decide) (fun y2642 hy2642 => ?_)
        refine y_goto (off := 4) (pc' := 42) (len := 3) (r := (0, 0, 0, 0)) (by decide +kernel) (by decide +kernel) ?_
        refine y_same (i := .istore 6) (len := 2) (r := (0, 0, 0, 0)) (pc' := 44) (ls' := [some (.inl (some 52)), some (.inl (some A)), some (.inl (some B)), some (zi xf), some (zi xm), some (zi xw), some (zi y2642), some (zi xk), l8]) (st' := []) (by decide +kernel) (fun k q => by cases q) rfl ?_
        refine y_ic (c := 1) (len := 1) (r := (0, 0, 0, 0)) (by decide +kernel) (by decide) (fun y2643 hy2643 => ?_)
        refine y_same (i := .istore 8) (len := 2) (r := (0, 0, 0, 0)) (pc' := 47) (ls' := [some (.inl (some 52)), some (.inl (some A)), some (.inl (some B)), some (zi xf), some (zi xm), some (zi xw), some (zi y2642), some (zi xk), some (zi y2643)]) (st' := []) (by decide +kernel) (fun k q => by cases q) rfl ?_
        refine y_same (i := .iload 8) (len := 2) (r := (0, 0, 0, 0)) (pc' := 49) (ls' := [some (.inl (some 52)), some (.inl (some A)), some (.inl (some B)), some (zi xf), some (zi xm), some (zi xw), some (zi y2642), some (zi xk), some (zi y2643)]) (st' := [zi y2643]) (by decide +kernel) (fun k q => by cases q) rfl ?_
        refine y_same (i := .iload 5) (len := 2) (r := (0, 0, 0, 0)) (pc' := 51) (ls' := [some (.inl (some 52)), some (.inl (some A)), some (.inl (some B)), some (zi xf), some (zi xm), some (zi xw), some (zi y2642), some (zi xk), some (zi y2643)]) (st' := [zi xw, zi y2643]) (by decide +kernel) (fun k q => by cases q) rfl ?_
        refine y_cF (c := .ge) (off := 63) (len := 3) (r := (0, 0, 0, 0)) (by decide +kernel) (acmpF (c := .ge) (by show _ < _; omega)) ?_
        refine y_same (i := .iload 6) (len := 2) (r := (0, 0, 0, 0)) (pc' := 56) (ls' := [some (.inl (some 52)), some (.inl (some A)), some (.inl (some B)), some (zi xf), some (zi xm), some (zi xw), some (zi y2642), some (zi xk), some (zi y2643)]) (st' := [zi y2642]) (by decide +kernel) (fun k q => by cases q) rfl ?_
        refine y_iF (c := .eq) (off := 58) (len := 3) (r := (0, 0, 0, 0)) (by decide +kernel) (acmpF (c := .eq) (by show ¬ (_ = _); omega)) ?_
        refine y_same (i := .aload_n 1) (len := 1) (r := (0, 0, 0, 0)) (pc' := 60) (ls' := [some (.inl (some 52)), some (.inl (some A)), some (.inl (some B)), some (zi xf), some (zi xm), some (zi xw), some (zi y2642), some (zi xk), some (zi y2643)]) (st' := [.inl (some A)]) (by decide +kernel) (fun k q => by cases q) rfl ?_
        refine y_same (i := .iload_n 3) (len := 1) (r := (0, 0, 0, 0)) (pc' := 61) (ls' := [some (.inl (some 52)), some (.inl (some A)), some (.inl (some B)), some (zi xf), some (zi xm), some (zi xw), some (zi y2642), some (zi xk), some (zi y2643)]) (st' := [zi xf, .inl (some A)]) (by decide +kernel) (fun k q => by cases q) rfl ?_
        refine y_ic (c := 4) (len := 1) (r := (0, 0, 0, 0)) (by decide +kernel) (by decide) (fun y2644 hy2644 => ?_)
        refine y_same (i := .iload 7) (len := 2) (r := (0, 0, 0, 0)) (pc' := 64) (ls' := [some (.inl (some 52)), some (.inl (some A)), some (.inl (some B)), some (zi xf), some (zi xm), some (zi xw), some (zi y2642), some (zi xk), some (zi y2643)]) (st' := [zi xk, zi y2644, zi xf, .inl (some A)]) (by decide +kernel) (fun k q => by cases q) rfl ?_
        refine y_mul (c := 4) (len := 1) (r := (0, 0, 0, 0)) (by decide +kernel) (by omega) (by omega) (by omega) (fun y2645 hy2645 => ?_)
        refine y_add (len := 1) (r := (0, 0, 0, 0)) (by decide +kernel) (by omega) (by omega) (fun y2646 hy2646 => ?_)
        refine y_ial (i := (24 + 4 * k)) (len := 1) (r := (0, 0, 0, 0)) (by decide +kernel) Q.1 tA aT (by omega) haip ?_
        refine y_same (i := .iload 8) (len := 2) (r := (0, 0, 0, 0)) (pc' := 69) (ls' := [some (.inl (some 52)), some (.inl (some A)), some (.inl (some B)), some (zi xf), some (zi xm), some (zi xw), some (zi y2642), some (zi xk), some (zi y2643)]) (st' := [zi y2643, zi aip]) (by decide +kernel) (fun k q => by cases q) rfl ?_
        refine y_cI (i := .invokestatic 308) (len := 3) (r := (1, 222, 12, 1753)) (nL := 2) (k := 2) (n := 2) (hs := []) (args := [zi aip, zi y2643]) (rest := []) (l0 := [some (zi aip), some (zi y2643)]) (by decide +kernel) (Or.inl ⟨_, rfl⟩) rfl rfl rfl rfl (Nat.le_of_ble_eq_true rfl) rfl rfl (qI_le (by omega) (m_ist (d := 0))) (fun y2647 qy2647 hRy2647 => ?_)
        obtain ⟨rfl, hDy2647⟩ := hRy2647
        rcases hDy2647 with ⟨vy2647, by2647⟩ | ⟨vy2647, by2647⟩
        ·
          refine y_iF (c := .eq) (off := 32) (len := 3) (r := (0, 0, 0, 0)) (by decide +kernel) (acmpF (c := .eq) (by show ¬ (_ = _); omega)) ?_
          refine y_same (i := .aload_n 0) (len := 1) (r := (0, 0, 0, 0)) (pc' := 76) (ls' := [some (.inl (some 52)), some (.inl (some A)), some (.inl (some B)), some (zi xf), some (zi xm), some (zi xw), some (zi y2642), some (zi xk), some (zi y2643)]) (st' := [.inl (some 52)]) (by decide +kernel) (fun k q => by cases q) rfl ?_
          refine y_same (i := .aload_n 1) (len := 1) (r := (0, 0, 0, 0)) (pc' := 77) (ls' := [some (.inl (some 52)), some (.inl (some A)), some (.inl (some B)), some (zi xf), some (zi xm), some (zi xw), some (zi y2642), some (zi xk), some (zi y2643)]) (st' := [.inl (some A), .inl (some 52)]) (by decide +kernel) (fun k q => by cases q) rfl ?_
          refine y_same (i := .iload_n 3) (len := 1) (r := (0, 0, 0, 0)) (pc' := 78) (ls' := [some (.inl (some 52)), some (.inl (some A)), some (.inl (some B)), some (zi xf), some (zi xm), some (zi xw), some (zi y2642), some (zi xk), some (zi y2643)]) (st' := [zi xf, .inl (some A), .inl (some 52)]) (by decide +kernel) (fun k q => by cases q) rfl ?_
          refine y_ic (c := 4) (len := 1) (r := (0, 0, 0, 0)) (by decide +kernel) (by decide) (fun y2648 hy2648 => ?_)
          refine y_same (i := .iload 7) (len := 2) (r := (0, 0, 0, 0)) (pc' := 81) (ls' := [some (.inl (some 52)), some (.inl (some A)), some (.inl (some B)), some (zi xf), some (zi xm), some (zi xw), some (zi y2642), some (zi xk), some (zi y2643)]) (st' := [zi xk, zi y2648, zi xf, .inl (some A), .inl (some 52)]) (by decide +kernel) (fun k q => by cases q) rfl ?_
          refine y_mul (c := 4) (len := 1) (r := (0, 0, 0, 0)) (by decide +kernel) (by omega) (by omega) (by omega) (fun y2649 hy2649 => ?_)
          refine y_add (len := 1) (r := (0, 0, 0, 0)) (by decide +kernel) (by omega) (by omega) (fun y2650 hy2650 => ?_)
          refine y_same (i := .iload 8) (len := 2) (r := (0, 0, 0, 0)) (pc' := 85) (ls' := [some (.inl (some 52)), some (.inl (some A)), some (.inl (some B)), some (zi xf), some (zi xm), some (zi xw), some (zi y2642), some (zi xk), some (zi y2643)]) (st' := [zi y2643, zi y2650, .inl (some A), .inl (some 52)]) (by decide +kernel) (fun k q => by cases q) rfl ?_
          refine y_add (len := 1) (r := (0, 0, 0, 0)) (by decide +kernel) (by omega) (by omega) (fun y2651 hy2651 => ?_)
          refine y_ial (i := ((24 + 4 * k) + 1)) (len := 1) (r := (0, 0, 0, 0)) (by decide +kernel) Q.1 tA aT (by omega) hbip ?_
          refine y_same (i := .aload_n 2) (len := 1) (r := (0, 0, 0, 0)) (pc' := 88) (ls' := [some (.inl (some 52)), some (.inl (some A)), some (.inl (some B)), some (zi xf), some (zi xm), some (zi xw), some (zi y2642), some (zi xk), some (zi y2643)]) (st' := [.inl (some B), zi bip, .inl (some 52)]) (by decide +kernel) (fun k q => by cases q) rfl ?_
          refine y_same (i := .iload_n 3) (len := 1) (r := (0, 0, 0, 0)) (pc' := 89) (ls' := [some (.inl (some 52)), some (.inl (some A)), some (.inl (some B)), some (zi xf), some (zi xm), some (zi xw), some (zi y2642), some (zi xk), some (zi y2643)]) (st' := [zi xf, .inl (some B), zi bip, .inl (some 52)]) (by decide +kernel) (fun k q => by cases q) rfl ?_
          refine y_ic (c := 4) (len := 1) (r := (0, 0, 0, 0)) (by decide +kernel) (by decide) (fun y2652 hy2652 => ?_)
          refine y_same (i := .iload 7) (len := 2) (r := (0, 0, 0, 0)) (pc' := 92) (ls' := [some (.inl (some 52)), some (.inl (some A)), some (.inl (some B)), some (zi xf), some (zi xm), some (zi xw), some (zi y2642), some (zi xk), some (zi y2643)]) (st' := [zi xk, zi y2652, zi xf, .inl (some B), zi bip, .inl (some 52)]) (by decide +kernel) (fun k q => by cases q) rfl ?_
          refine y_mul (c := 4) (len := 1) (r := (0, 0, 0, 0)) (by decide +kernel) (by omega) (by omega) (by omega) (fun y2653 hy2653 => ?_)
          refine y_add (len := 1) (r := (0, 0, 0, 0)) (by decide +kernel) (by omega) (by omega) (fun y2654 hy2654 => ?_)
          refine y_same (i := .iload 8) (len := 2) (r := (0, 0, 0, 0)) (pc' := 96) (ls' := [some (.inl (some 52)), some (.inl (some A)), some (.inl (some B)), some (zi xf), some (zi xm), some (zi xw), some (zi y2642), some (zi xk), some (zi y2643)]) (st' := [zi y2643, zi y2654, .inl (some B), zi bip, .inl (some 52)]) (by decide +kernel) (fun k q => by cases q) rfl ?_
          refine y_add (len := 1) (r := (0, 0, 0, 0)) (by decide +kernel) (by omega) (by omega) (fun y2655 hy2655 => ?_)
          refine y_ial (i := ((24 + 4 * k) + 1)) (len := 1) (r := (0, 0, 0, 0)) (by decide +kernel) Q.1 tB aB (by omega) hbiq ?_
          refine y_cI (i := .invokevirtual 312) (len := 3) (r := (0, 220, 12, 1745)) (nL := 3) (k := 2) (n := 3) (hs := []) (args := [.inl (some 52), zi bip, zi biq]) (rest := []) (l0 := [some (.inl (some 52)), some (zi bip), some (zi biq)]) (by decide +kernel) (Or.inr (Or.inl ⟨_, rfl⟩)) rfl rfl rfl rfl (Nat.le_of_ble_eq_true rfl) (z52 Q.1) rfl (qI_le (by omega) (m_tlsI (d := 0) (x := ip.2.1) (y := iq.2.1) Q.1 H (by omega) (by omega) (by omega) (by omega))) (fun y2656 h2656 hRy2656 => ?_)
          obtain ⟨hg2656, F2656, hDy2656⟩ := hRy2656
          have Q2656_A := QM_up Q hg2656 (fun j => F2656 A j (by omega) (by omega))
          have Q2656_B := QM_up Q2 hg2656 (fun j => F2656 B j (by omega) (by omega))
          rcases hDy2656 with ⟨v2656, m2656, e2656, H2656⟩ | ⟨v2656, e2656⟩
          ·
            have hz2656 : mpZ m2656 := mpZ_O hz e2656
            refine y_goto (off := 5) (pc' := 106) (len := 3) (r := (0, 0, 0, 0)) (by decide +kernel) (by decide +kernel) ?_
            refine y_same (i := .istore 6) (len := 2) (r := (0, 0, 0, 0)) (pc' := 108) (ls' := [some (.inl (some 52)), some (.inl (some A)), some (.inl (some B)), some (zi xf), some (zi xm), some (zi xw), some (zi y2656), some (zi xk), some (zi y2643)]) (st' := []) (by decide +kernel) (fun k q => by cases q) rfl ?_
            refine y_inc (j := 8) (a := y2643) (c := 1) (ls' := fun v => [some (.inl (some 52)), some (.inl (some A)), some (.inl (some B)), some (zi xf), some (zi xm), some (zi xw), some (zi y2656), some (zi xk), some v]) (len := 3) (r := (0, 0, 0, 0)) (by decide +kernel) rfl (fun _ => rfl) (by decide) (by omega) (by omega) (fun y2657 hy2657 => ?_)
            show qX (d + 2) 221 111 [some (.inl (some 52)), some (.inl (some A)), some (.inl (some B)), some (zi xf), some (zi xm), some (zi xw), some (zi y2656), some (zi xk), some (zi y2657)] [] h2656 t _
            refine y_goto (off := (-64)) (pc' := 47) (len := 3) (r := (0, 0, 0, 0)) (by decide +kernel) (by decide +kernel) ?_
            refine y_same (i := .iload 8) (len := 2) (r := (0, 0, 0, 0)) (pc' := 49) (ls' := [some (.inl (some 52)), some (.inl (some A)), some (.inl (some B)), some (zi xf), some (zi xm), some (zi xw), some (zi y2656), some (zi xk), some (zi y2657)]) (st' := [zi y2657]) (by decide +kernel) (fun k q => by cases q) rfl ?_
            refine y_same (i := .iload 5) (len := 2) (r := (0, 0, 0, 0)) (pc' := 51) (ls' := [some (.inl (some 52)), some (.inl (some A)), some (.inl (some B)), some (zi xf), some (zi xm), some (zi xw), some (zi y2656), some (zi xk), some (zi y2657)]) (st' := [zi xw, zi y2657]) (by decide +kernel) (fun k q => by cases q) rfl ?_
            refine y_cF (c := .ge) (off := 63) (len := 3) (r := (0, 0, 0, 0)) (by decide +kernel) (acmpF (c := .ge) (by show _ < _; omega)) ?_
            refine y_same (i := .iload 6) (len := 2) (r := (0, 0, 0, 0)) (pc' := 56) (ls' := [some (.inl (some 52)), some (.inl (some A)), some (.inl (some B)), some (zi xf), some (zi xm), some (zi xw), some (zi y2656), some (zi xk), some (zi y2657)]) (st' := [zi y2656]) (by decide +kernel) (fun k q => by cases q) rfl ?_
            refine y_iF (c := .eq) (off := 58) (len := 3) (r := (0, 0, 0, 0)) (by decide +kernel) (acmpF (c := .eq) (by show ¬ (_ = _); omega)) ?_
            refine y_same (i := .aload_n 1) (len := 1) (r := (0, 0, 0, 0)) (pc' := 60) (ls' := [some (.inl (some 52)), some (.inl (some A)), some (.inl (some B)), some (zi xf), some (zi xm), some (zi xw), some (zi y2656), some (zi xk), some (zi y2657)]) (st' := [.inl (some A)]) (by decide +kernel) (fun k q => by cases q) rfl ?_
            refine y_same (i := .iload_n 3) (len := 1) (r := (0, 0, 0, 0)) (pc' := 61) (ls' := [some (.inl (some 52)), some (.inl (some A)), some (.inl (some B)), some (zi xf), some (zi xm), some (zi xw), some (zi y2656), some (zi xk), some (zi y2657)]) (st' := [zi xf, .inl (some A)]) (by decide +kernel) (fun k q => by cases q) rfl ?_
            refine y_ic (c := 4) (len := 1) (r := (0, 0, 0, 0)) (by decide +kernel) (by decide) (fun y2658 hy2658 => ?_)
            refine y_same (i := .iload 7) (len := 2) (r := (0, 0, 0, 0)) (pc' := 64) (ls' := [some (.inl (some 52)), some (.inl (some A)), some (.inl (some B)), some (zi xf), some (zi xm), some (zi xw), some (zi y2656), some (zi xk), some (zi y2657)]) (st' := [zi xk, zi y2658, zi xf, .inl (some A)]) (by decide +kernel) (fun k q => by cases q) rfl ?_
            refine y_mul (c := 4) (len := 1) (r := (0, 0, 0, 0)) (by decide +kernel) (by omega) (by omega) (by omega) (fun y2659 hy2659 => ?_)
            refine y_add (len := 1) (r := (0, 0, 0, 0)) (by decide +kernel) (by omega) (by omega) (fun y2660 hy2660 => ?_)
            obtain ⟨i2661, ki2661, zi2661⟩ : ∃ i9, s.1[k]? = some i9 ∧ i9 = ip := ⟨_, kip, rfl⟩
            obtain ⟨zai2661, zbi2661, zci2661, zdi2661⟩ : i2661.1 = ip.1 ∧ i2661.2.1 = ip.2.1 ∧ i2661.2.2.1 = ip.2.2.1 ∧ i2661.2.2.2 = ip.2.2.2 := by rw [zi2661]; exact ⟨rfl, rfl, rfl, rfl⟩
            have oi2661 := okQ_L Q2656_A.2.2.2 ki2661
            have pi2661 := oi2661.1
            unfold okV at pi2661
            obtain ⟨ai2661, bi2661, ci2661, di2661, ⟨hai2661, hbi2661, hci2661, hdi2661⟩, eai2661, ebi2661, eci2661, edi2661⟩ := qm_itL Q2656_A ki2661
            refine y_ial (i := (24 + 4 * k)) (len := 1) (r := (0, 0, 0, 0)) (by decide +kernel) hg2656 tA aT (by omega) hai2661 ?_
            refine y_same (i := .iload 8) (len := 2) (r := (0, 0, 0, 0)) (pc' := 69) (ls' := [some (.inl (some 52)), some (.inl (some A)), some (.inl (some B)), some (zi xf), some (zi xm), some (zi xw), some (zi y2656), some (zi xk), some (zi y2657)]) (st' := [zi y2657, zi ai2661]) (by decide +kernel) (fun k q => by cases q) rfl ?_
            refine y_cI (i := .invokestatic 308) (len := 3) (r := (1, 222, 12, 1753)) (nL := 2) (k := 2) (n := 2) (hs := []) (args := [zi ai2661, zi y2657]) (rest := []) (l0 := [some (zi ai2661), some (zi y2657)]) (by decide +kernel) (Or.inl ⟨_, rfl⟩) rfl rfl rfl rfl (Nat.le_of_ble_eq_true rfl) rfl rfl (qI_le (by omega) (m_ist (d := 0))) (fun y2662 qy2662 hRy2662 => ?_)
            obtain ⟨rfl, hDy2662⟩ := hRy2662
            rcases hDy2662 with ⟨vy2662, by2662⟩ | ⟨vy2662, by2662⟩
            ·
              refine y_iF (c := .eq) (off := 32) (len := 3) (r := (0, 0, 0, 0)) (by decide +kernel) (acmpF (c := .eq) (by show ¬ (_ = _); omega)) ?_
              refine y_same (i := .aload_n 0) (len := 1) (r := (0, 0, 0, 0)) (pc' := 76) (ls' := [some (.inl (some 52)), some (.inl (some A)), some (.inl (some B)), some (zi xf), some (zi xm), some (zi xw), some (zi y2656), some (zi xk), some (zi y2657)]) (st' := [.inl (some 52)]) (by decide +kernel) (fun k q => by cases q) rfl ?_
              refine y_same (i := .aload_n 1) (len := 1) (r := (0, 0, 0, 0)) (pc' := 77) (ls' := [some (.inl (some 52)), some (.inl (some A)), some (.inl (some B)), some (zi xf), some (zi xm), some (zi xw), some (zi y2656), some (zi xk), some (zi y2657)]) (st' := [.inl (some A), .inl (some 52)]) (by decide +kernel) (fun k q => by cases q) rfl ?_
              refine y_same (i := .iload_n 3) (len := 1) (r := (0, 0, 0, 0)) (pc' := 78) (ls' := [some (.inl (some 52)), some (.inl (some A)), some (.inl (some B)), some (zi xf), some (zi xm), some (zi xw), some (zi y2656), some (zi xk), some (zi y2657)]) (st' := [zi xf, .inl (some A), .inl (some 52)]) (by decide +kernel) (fun k q => by cases q) rfl ?_
              refine y_ic (c := 4) (len := 1) (r := (0, 0, 0, 0)) (by decide +kernel) (by decide) (fun y2663 hy2663 => ?_)
              refine y_same (i := .iload 7) (len := 2) (r := (0, 0, 0, 0)) (pc' := 81) (ls' := [some (.inl (some 52)), some (.inl (some A)), some (.inl (some B)), some (zi xf), some (zi xm), some (zi xw), some (zi y2656), some (zi xk), some (zi y2657)]) (st' := [zi xk, zi y2663, zi xf, .inl (some A), .inl (some 52)]) (by decide +kernel) (fun k q => by cases q) rfl ?_
              refine y_mul (c := 4) (len := 1) (r := (0, 0, 0, 0)) (by decide +kernel) (by omega) (by omega) (by omega) (fun y2664 hy2664 => ?_)
              refine y_add (len := 1) (r := (0, 0, 0, 0)) (by decide +kernel) (by omega) (by omega) (fun y2665 hy2665 => ?_)
              refine y_same (i := .iload 8) (len := 2) (r := (0, 0, 0, 0)) (pc' := 85) (ls' := [some (.inl (some 52)), some (.inl (some A)), some (.inl (some B)), some (zi xf), some (zi xm), some (zi xw), some (zi y2656), some (zi xk), some (zi y2657)]) (st' := [zi y2657, zi y2665, .inl (some A), .inl (some 52)]) (by decide +kernel) (fun k q => by cases q) rfl ?_
              refine y_add (len := 1) (r := (0, 0, 0, 0)) (by decide +kernel) (by omega) (by omega) (fun y2666 hy2666 => ?_)
              refine y_ial (i := ((24 + 4 * k) + 2)) (len := 1) (r := (0, 0, 0, 0)) (by decide +kernel) hg2656 tA aT (by omega) hci2661 ?_
              refine y_same (i := .aload_n 2) (len := 1) (r := (0, 0, 0, 0)) (pc' := 88) (ls' := [some (.inl (some 52)), some (.inl (some A)), some (.inl (some B)), some (zi xf), some (zi xm), some (zi xw), some (zi y2656), some (zi xk), some (zi y2657)]) (st' := [.inl (some B), zi ci2661, .inl (some 52)]) (by decide +kernel) (fun k q => by cases q) rfl ?_
              refine y_same (i := .iload_n 3) (len := 1) (r := (0, 0, 0, 0)) (pc' := 89) (ls' := [some (.inl (some 52)), some (.inl (some A)), some (.inl (some B)), some (zi xf), some (zi xm), some (zi xw), some (zi y2656), some (zi xk), some (zi y2657)]) (st' := [zi xf, .inl (some B), zi ci2661, .inl (some 52)]) (by decide +kernel) (fun k q => by cases q) rfl ?_
              refine y_ic (c := 4) (len := 1) (r := (0, 0, 0, 0)) (by decide +kernel) (by decide) (fun y2667 hy2667 => ?_)
              refine y_same (i := .iload 7) (len := 2) (r := (0, 0, 0, 0)) (pc' := 92) (ls' := [some (.inl (some 52)), some (.inl (some A)), some (.inl (some B)), some (zi xf), some (zi xm), some (zi xw), some (zi y2656), some (zi xk), some (zi y2657)]) (st' := [zi xk, zi y2667, zi xf, .inl (some B), zi ci2661, .inl (some 52)]) (by decide +kernel) (fun k q => by cases q) rfl ?_
              refine y_mul (c := 4) (len := 1) (r := (0, 0, 0, 0)) (by decide +kernel) (by omega) (by omega) (by omega) (fun y2668 hy2668 => ?_)
              refine y_add (len := 1) (r := (0, 0, 0, 0)) (by decide +kernel) (by omega) (by omega) (fun y2669 hy2669 => ?_)
              refine y_same (i := .iload 8) (len := 2) (r := (0, 0, 0, 0)) (pc' := 96) (ls' := [some (.inl (some 52)), some (.inl (some A)), some (.inl (some B)), some (zi xf), some (zi xm), some (zi xw), some (zi y2656), some (zi xk), some (zi y2657)]) (st' := [zi y2657, zi y2669, .inl (some B), zi ci2661, .inl (some 52)]) (by decide +kernel) (fun k q => by cases q) rfl ?_
              refine y_add (len := 1) (r := (0, 0, 0, 0)) (by decide +kernel) (by omega) (by omega) (fun y2670 hy2670 => ?_)
              obtain ⟨i2671, ki2671, zi2671⟩ : ∃ i9, s2.1[k]? = some i9 ∧ i9 = iq := ⟨_, kiq, rfl⟩
              obtain ⟨zai2671, zbi2671, zci2671, zdi2671⟩ : i2671.1 = iq.1 ∧ i2671.2.1 = iq.2.1 ∧ i2671.2.2.1 = iq.2.2.1 ∧ i2671.2.2.2 = iq.2.2.2 := by rw [zi2671]; exact ⟨rfl, rfl, rfl, rfl⟩
              have oi2671 := okQ_L Q2656_B.2.2.2 ki2671
              have pi2671 := oi2671.1
              unfold okV at pi2671
              obtain ⟨ai2671, bi2671, ci2671, di2671, ⟨hai2671, hbi2671, hci2671, hdi2671⟩, eai2671, ebi2671, eci2671, edi2671⟩ := qm_itL Q2656_B ki2671
              refine y_ial (i := ((24 + 4 * k) + 2)) (len := 1) (r := (0, 0, 0, 0)) (by decide +kernel) hg2656 tB aB (by omega) hci2671 ?_
              refine y_cI (i := .invokevirtual 312) (len := 3) (r := (0, 220, 12, 1745)) (nL := 3) (k := 2) (n := 3) (hs := []) (args := [.inl (some 52), zi ci2661, zi ci2671]) (rest := []) (l0 := [some (.inl (some 52)), some (zi ci2661), some (zi ci2671)]) (by decide +kernel) (Or.inr (Or.inl ⟨_, rfl⟩)) rfl rfl rfl rfl (Nat.le_of_ble_eq_true rfl) (z52 hg2656) rfl (qI_le (by omega) (m_tlsI (d := 0) (x := ip.2.2.1) (y := iq.2.2.1) hg2656 H2656 (by omega) (by omega) (by omega) (by omega))) (fun y2672 h2672 hRy2672 => ?_)
              obtain ⟨hg2672, F2672, hDy2672⟩ := hRy2672
              have Q2672_A := QM_up Q2656_A hg2672 (fun j => F2672 A j (by omega) (by omega))
              have Q2672_B := QM_up Q2656_B hg2672 (fun j => F2672 B j (by omega) (by omega))
              rcases hDy2672 with ⟨v2672, m2672, e2672, H2672⟩ | ⟨v2672, e2672⟩
              ·
                have hz2672 : mpZ m2672 := mpZ_O hz2656 e2672
                refine y_goto (off := 5) (pc' := 106) (len := 3) (r := (0, 0, 0, 0)) (by decide +kernel) (by decide +kernel) ?_
                refine y_same (i := .istore 6) (len := 2) (r := (0, 0, 0, 0)) (pc' := 108) (ls' := [some (.inl (some 52)), some (.inl (some A)), some (.inl (some B)), some (zi xf), some (zi xm), some (zi xw), some (zi y2672), some (zi xk), some (zi y2657)]) (st' := []) (by decide +kernel) (fun k q => by cases q) rfl ?_
                refine y_inc (j := 8) (a := y2657) (c := 1) (ls' := fun v => [some (.inl (some 52)), some (.inl (some A)), some (.inl (some B)), some (zi xf), some (zi xm), some (zi xw), some (zi y2672), some (zi xk), some v]) (len := 3) (r := (0, 0, 0, 0)) (by decide +kernel) rfl (fun _ => rfl) (by decide) (by omega) (by omega) (fun y2673 hy2673 => ?_)
                show qX (d + 2) 221 111 [some (.inl (some 52)), some (.inl (some A)), some (.inl (some B)), some (zi xf), some (zi xm), some (zi xw), some (zi y2672), some (zi xk), some (zi y2673)] [] h2672 t _
                refine y_goto (off := (-64)) (pc' := 47) (len := 3) (r := (0, 0, 0, 0)) (by decide +kernel) (by decide +kernel) ?_
                refine y_same (i := .iload 8) (len := 2) (r := (0, 0, 0, 0)) (pc' := 49) (ls' := [some (.inl (some 52)), some (.inl (some A)), some (.inl (some B)), some (zi xf), some (zi xm), some (zi xw), some (zi y2672), some (zi xk), some (zi y2673)]) (st' := [zi y2673]) (by decide +kernel) (fun k q => by cases q) rfl ?_
                refine y_same (i := .iload 5) (len := 2) (r := (0, 0, 0, 0)) (pc' := 51) (ls' := [some (.inl (some 52)), some (.inl (some A)), some (.inl (some B)), some (zi xf), some (zi xm), some (zi xw), some (zi y2672), some (zi xk), some (zi y2673)]) (st' := [zi xw, zi y2673]) (by decide +kernel) (fun k q => by cases q) rfl ?_
                refine y_cF (c := .ge) (off := 63) (len := 3) (r := (0, 0, 0, 0)) (by decide +kernel) (acmpF (c := .ge) (by show _ < _; omega)) ?_
                refine y_same (i := .iload 6) (len := 2) (r := (0, 0, 0, 0)) (pc' := 56) (ls' := [some (.inl (some 52)), some (.inl (some A)), some (.inl (some B)), some (zi xf), some (zi xm), some (zi xw), some (zi y2672), some (zi xk), some (zi y2673)]) (st' := [zi y2672]) (by decide +kernel) (fun k q => by cases q) rfl ?_
                refine y_iF (c := .eq) (off := 58) (len := 3) (r := (0, 0, 0, 0)) (by decide +kernel) (acmpF (c := .eq) (by show ¬ (_ = _); omega)) ?_
                refine y_same (i := .aload_n 1) (len := 1) (r := (0, 0, 0, 0)) (pc' := 60) (ls' := [some (.inl (some 52)), some (.inl (some A)), some (.inl (some B)), some (zi xf), some (zi xm), some (zi xw), some (zi y2672), some (zi xk), some (zi y2673)]) (st' := [.inl (some A)]) (by decide +kernel) (fun k q => by cases q) rfl ?_
                refine y_same (i := .iload_n 3) (len := 1) (r := (0, 0, 0, 0)) (pc' := 61) (ls' := [some (.inl (some 52)), some (.inl (some A)), some (.inl (some B)), some (zi xf), some (zi xm), some (zi xw), some (zi y2672), some (zi xk), some (zi y2673)]) (st' := [zi xf, .inl (some A)]) (by decide +kernel) (fun k q => by cases q) rfl ?_
                refine y_ic (c := 4) (len := 1) (r := (0, 0, 0, 0)) (by decide +kernel) (by decide) (fun y2674 hy2674 => ?_)
                refine y_same (i := .iload 7) (len := 2) (r := (0, 0, 0, 0)) (pc' := 64) (ls' := [some (.inl (some 52)), some (.inl (some A)), some (.inl (some B)), some (zi xf), some (zi xm), some (zi xw), some (zi y2672), some (zi xk), some (zi y2673)]) (st' := [zi xk, zi y2674, zi xf, .inl (some A)]) (by decide +kernel) (fun k q => by cases q) rfl ?_
                refine y_mul (c := 4) (len := 1) (r := (0, 0, 0, 0)) (by decide +kernel) (by omega) (by omega) (by omega) (fun y2675 hy2675 => ?_)
                refine y_add (len := 1) (r := (0, 0, 0, 0)) (by decide +kernel) (by omega) (by omega) (fun y2676 hy2676 => ?_)
                obtain ⟨i2677, ki2677, zi2677⟩ : ∃ i9, s.1[k]? = some i9 ∧ i9 = ip := ⟨_, kip, rfl⟩
                obtain ⟨zai2677, zbi2677, zci2677, zdi2677⟩ : i2677.1 = ip.1 ∧ i2677.2.1 = ip.2.1 ∧ i2677.2.2.1 = ip.2.2.1 ∧ i2677.2.2.2 = ip.2.2.2 := by rw [zi2677]; exact ⟨rfl, rfl, rfl, rfl⟩
                have oi2677 := okQ_L Q2672_A.2.2.2 ki2677
                have pi2677 := oi2677.1
                unfold okV at pi2677
                obtain ⟨ai2677, bi2677, ci2677, di2677, ⟨hai2677, hbi2677, hci2677, hdi2677⟩, eai2677, ebi2677, eci2677, edi2677⟩ := qm_itL Q2672_A ki2677
                refine y_ial (i := (24 + 4 * k)) (len := 1) (r := (0, 0, 0, 0)) (by decide +kernel) hg2672 tA aT (by omega) hai2677 ?_
                refine y_same (i := .iload 8) (len := 2) (r := (0, 0, 0, 0)) (pc' := 69) (ls' := [some (.inl (some 52)), some (.inl (some A)), some (.inl (some B)), some (zi xf), some (zi xm), some (zi xw), some (zi y2672), some (zi xk), some (zi y2673)]) (st' := [zi y2673, zi ai2677]) (by decide +kernel) (fun k q => by cases q) rfl ?_
                refine y_cI (i := .invokestatic 308) (len := 3) (r := (1, 222, 12, 1753)) (nL := 2) (k := 2) (n := 2) (hs := []) (args := [zi ai2677, zi y2673]) (rest := []) (l0 := [some (zi ai2677), some (zi y2673)]) (by decide +kernel) (Or.inl ⟨_, rfl⟩) rfl rfl rfl rfl (Nat.le_of_ble_eq_true rfl) rfl rfl (qI_le (by omega) (m_ist (d := 0))) (fun y2678 qy2678 hRy2678 => ?_)
                obtain ⟨rfl, hDy2678⟩ := hRy2678
                rcases hDy2678 with ⟨vy2678, by2678⟩ | ⟨vy2678, by2678⟩
                ·
                  refine y_iF (c := .eq) (off := 32) (len := 3) (r := (0, 0, 0, 0)) (by decide +kernel) (acmpF (c := .eq) (by show ¬ (_ = _); omega)) ?_
                  refine y_same (i := .aload_n 0) (len := 1) (r := (0, 0, 0, 0)) (pc' := 76) (ls' := [some (.inl (some 52)), some (.inl (some A)), some (.inl (some B)), some (zi xf), some (zi xm), some (zi xw), some (zi y2672), some (zi xk), some (zi y2673)]) (st' := [.inl (some 52)]) (by decide +kernel) (fun k q => by cases q) rfl ?_
                  refine y_same (i := .aload_n 1) (len := 1) (r := (0, 0, 0, 0)) (pc' := 77) (ls' := [some (.inl (some 52)), some (.inl (some A)), some (.inl (some B)), some (zi xf), some (zi xm), some (zi xw), some (zi y2672), some (zi xk), some (zi y2673)]) (st' := [.inl (some A), .inl (some 52)]) (by decide +kernel) (fun k q => by cases q) rfl ?_
                  refine y_same (i := .iload_n 3) (len := 1) (r := (0, 0, 0, 0)) (pc' := 78) (ls' := [some (.inl (some 52)), some (.inl (some A)), some (.inl (some B)), some (zi xf), some (zi xm), some (zi xw), some (zi y2672), some (zi xk), some (zi y2673)]) (st' := [zi xf, .inl (some A), .inl (some 52)]) (by decide +kernel) (fun k q => by cases q) rfl ?_
                  refine y_ic (c := 4) (len := 1) (r := (0, 0, 0, 0)) (by decide +kernel) (by decide) (fun y2679 hy2679 => ?_)
                  refine y_same (i := .iload 7) (len := 2) (r := (0, 0, 0, 0)) (pc' := 81) (ls' := [some (.inl (some 52)), some (.inl (some A)), some (.inl (some B)), some (zi xf), some (zi xm), some (zi xw), some (zi y2672), some (zi xk), some (zi y2673)]) (st' := [zi xk, zi y2679, zi xf, .inl (some A), .inl (some 52)]) (by decide +kernel) (fun k q => by cases q) rfl ?_
                  refine y_mul (c := 4) (len := 1) (r := (0, 0, 0, 0)) (by decide +kernel) (by omega) (by omega) (by omega) (fun y2680 hy2680 => ?_)
                  refine y_add (len := 1) (r := (0, 0, 0, 0)) (by decide +kernel) (by omega) (by omega) (fun y2681 hy2681 => ?_)
                  refine y_same (i := .iload 8) (len := 2) (r := (0, 0, 0, 0)) (pc' := 85) (ls' := [some (.inl (some 52)), some (.inl (some A)), some (.inl (some B)), some (zi xf), some (zi xm), some (zi xw), some (zi y2672), some (zi xk), some (zi y2673)]) (st' := [zi y2673, zi y2681, .inl (some A), .inl (some 52)]) (by decide +kernel) (fun k q => by cases q) rfl ?_
                  refine y_add (len := 1) (r := (0, 0, 0, 0)) (by decide +kernel) (by omega) (by omega) (fun y2682 hy2682 => ?_)
                  refine y_ial (i := ((24 + 4 * k) + 3)) (len := 1) (r := (0, 0, 0, 0)) (by decide +kernel) hg2672 tA aT (by omega) hdi2677 ?_
                  refine y_same (i := .aload_n 2) (len := 1) (r := (0, 0, 0, 0)) (pc' := 88) (ls' := [some (.inl (some 52)), some (.inl (some A)), some (.inl (some B)), some (zi xf), some (zi xm), some (zi xw), some (zi y2672), some (zi xk), some (zi y2673)]) (st' := [.inl (some B), zi di2677, .inl (some 52)]) (by decide +kernel) (fun k q => by cases q) rfl ?_
                  refine y_same (i := .iload_n 3) (len := 1) (r := (0, 0, 0, 0)) (pc' := 89) (ls' := [some (.inl (some 52)), some (.inl (some A)), some (.inl (some B)), some (zi xf), some (zi xm), some (zi xw), some (zi y2672), some (zi xk), some (zi y2673)]) (st' := [zi xf, .inl (some B), zi di2677, .inl (some 52)]) (by decide +kernel) (fun k q => by cases q) rfl ?_
                  refine y_ic (c := 4) (len := 1) (r := (0, 0, 0, 0)) (by decide +kernel) (by decide) (fun y2683 hy2683 => ?_)
                  refine y_same (i := .iload 7) (len := 2) (r := (0, 0, 0, 0)) (pc' := 92) (ls' := [some (.inl (some 52)), some (.inl (some A)), some (.inl (some B)), some (zi xf), some (zi xm), some (zi xw), some (zi y2672), some (zi xk), some (zi y2673)]) (st' := [zi xk, zi y2683, zi xf, .inl (some B), zi di2677, .inl (some 52)]) (by decide +kernel) (fun k q => by cases q) rfl ?_
                  refine y_mul (c := 4) (len := 1) (r := (0, 0, 0, 0)) (by decide +kernel) (by omega) (by omega) (by omega) (fun y2684 hy2684 => ?_)
                  refine y_add (len := 1) (r := (0, 0, 0, 0)) (by decide +kernel) (by omega) (by omega) (fun y2685 hy2685 => ?_)
                  refine y_same (i := .iload 8) (len := 2) (r := (0, 0, 0, 0)) (pc' := 96) (ls' := [some (.inl (some 52)), some (.inl (some A)), some (.inl (some B)), some (zi xf), some (zi xm), some (zi xw), some (zi y2672), some (zi xk), some (zi y2673)]) (st' := [zi y2673, zi y2685, .inl (some B), zi di2677, .inl (some 52)]) (by decide +kernel) (fun k q => by cases q) rfl ?_
                  refine y_add (len := 1) (r := (0, 0, 0, 0)) (by decide +kernel) (by omega) (by omega) (fun y2686 hy2686 => ?_)
                  obtain ⟨i2687, ki2687, zi2687⟩ : ∃ i9, s2.1[k]? = some i9 ∧ i9 = iq := ⟨_, kiq, rfl⟩
                  obtain ⟨zai2687, zbi2687, zci2687, zdi2687⟩ : i2687.1 = iq.1 ∧ i2687.2.1 = iq.2.1 ∧ i2687.2.2.1 = iq.2.2.1 ∧ i2687.2.2.2 = iq.2.2.2 := by rw [zi2687]; exact ⟨rfl, rfl, rfl, rfl⟩
                  have oi2687 := okQ_L Q2672_B.2.2.2 ki2687
                  have pi2687 := oi2687.1
                  unfold okV at pi2687
                  obtain ⟨ai2687, bi2687, ci2687, di2687, ⟨hai2687, hbi2687, hci2687, hdi2687⟩, eai2687, ebi2687, eci2687, edi2687⟩ := qm_itL Q2672_B ki2687
                  refine y_ial (i := ((24 + 4 * k) + 3)) (len := 1) (r := (0, 0, 0, 0)) (by decide +kernel) hg2672 tB aB (by omega) hdi2687 ?_
                  refine y_cI (i := .invokevirtual 312) (len := 3) (r := (0, 220, 12, 1745)) (nL := 3) (k := 2) (n := 3) (hs := []) (args := [.inl (some 52), zi di2677, zi di2687]) (rest := []) (l0 := [some (.inl (some 52)), some (zi di2677), some (zi di2687)]) (by decide +kernel) (Or.inr (Or.inl ⟨_, rfl⟩)) rfl rfl rfl rfl (Nat.le_of_ble_eq_true rfl) (z52 hg2672) rfl (qI_le (by omega) (m_tlsI (d := 0) (x := ip.2.2.2) (y := iq.2.2.2) hg2672 H2672 (by omega) (by omega) (by omega) (by omega))) (fun y2688 h2688 hRy2688 => ?_)
                  obtain ⟨hg2688, F2688, hDy2688⟩ := hRy2688
                  have Q2688_A := QM_up Q2672_A hg2688 (fun j => F2688 A j (by omega) (by omega))
                  have Q2688_B := QM_up Q2672_B hg2688 (fun j => F2688 B j (by omega) (by omega))
                  rcases hDy2688 with ⟨v2688, m2688, e2688, H2688⟩ | ⟨v2688, e2688⟩
                  ·
                    have hz2688 : mpZ m2688 := mpZ_O hz2672 e2688
                    refine y_goto (off := 5) (pc' := 106) (len := 3) (r := (0, 0, 0, 0)) (by decide +kernel) (by decide +kernel) ?_
                    refine y_same (i := .istore 6) (len := 2) (r := (0, 0, 0, 0)) (pc' := 108) (ls' := [some (.inl (some 52)), some (.inl (some A)), some (.inl (some B)), some (zi xf), some (zi xm), some (zi xw), some (zi y2688), some (zi xk), some (zi y2673)]) (st' := []) (by decide +kernel) (fun k q => by cases q) rfl ?_
                    refine y_inc (j := 8) (a := y2673) (c := 1) (ls' := fun v => [some (.inl (some 52)), some (.inl (some A)), some (.inl (some B)), some (zi xf), some (zi xm), some (zi xw), some (zi y2688), some (zi xk), some v]) (len := 3) (r := (0, 0, 0, 0)) (by decide +kernel) rfl (fun _ => rfl) (by decide) (by omega) (by omega) (fun y2689 hy2689 => ?_)
                    show qX (d + 2) 221 111 [some (.inl (some 52)), some (.inl (some A)), some (.inl (some B)), some (zi xf), some (zi xm), some (zi xw), some (zi y2688), some (zi xk), some (zi y2689)] [] h2688 t _
                    refine y_goto (off := (-64)) (pc' := 47) (len := 3) (r := (0, 0, 0, 0)) (by decide +kernel) (by decide +kernel) ?_
                    refine y_same (i := .iload 8) (len := 2) (r := (0, 0, 0, 0)) (pc' := 49) (ls' := [some (.inl (some 52)), some (.inl (some A)), some (.inl (some B)), some (zi xf), some (zi xm), some (zi xw), some (zi y2688), some (zi xk), some (zi y2689)]) (st' := [zi y2689]) (by decide +kernel) (fun k q => by cases q) rfl ?_
                    refine y_same (i := .iload 5) (len := 2) (r := (0, 0, 0, 0)) (pc' := 51) (ls' := [some (.inl (some 52)), some (.inl (some A)), some (.inl (some B)), some (zi xf), some (zi xm), some (zi xw), some (zi y2688), some (zi xk), some (zi y2689)]) (st' := [zi xw, zi y2689]) (by decide +kernel) (fun k q => by cases q) rfl ?_
                    refine y_cT (c := .ge) (off := 63) (pc' := 114) (len := 3) (r := (0, 0, 0, 0)) (by decide +kernel) (acmpT (c := .ge) (by show _ ≤ _; omega)) (by decide +kernel) ?_
                    refine y_inc (j := 7) (a := xk) (c := 1) (ls' := fun v => [some (.inl (some 52)), some (.inl (some A)), some (.inl (some B)), some (zi xf), some (zi xm), some (zi xw), some (zi y2688), some v, some (zi y2689)]) (len := 3) (r := (0, 0, 0, 0)) (by decide +kernel) rfl (fun _ => rfl) (by decide) (by omega) (by omega) (fun y2690 hy2690 => ?_)
                    show qX (d + 2) 221 117 [some (.inl (some 52)), some (.inl (some A)), some (.inl (some B)), some (zi xf), some (zi xm), some (zi xw), some (zi y2688), some (zi y2690), some (zi y2689)] [] h2688 t _
                    refine y_goto (off := (-111)) (pc' := 6) (len := 3) (r := (0, 0, 0, 0)) (by decide +kernel) (by decide +kernel) ?_
                    have tI := tlI_3 (by omega) e2656 e2672 e2688
                    have nx := tlR_s kip kiq tI
                    rw [nx]
                    refine qX_I (ih h2688 (k + 1) y2688 y2690 (some (zi y2689)) m2688 Q2688_A Q2688_B H2688 (mpZ_I hz tI) (by omega) (by omega) (by omega) (by omega)) (fun y h1 hR => ⟨hR.1, FK_tr (fun k j h1 h2 => ((F2688 k j (by omega) (by omega)).trans ((F2672 k j (by omega) (by omega)).trans (F2656 k j (by omega) (by omega))))) hR.2.1, hR.2.2⟩)
                  ·
                    refine y_goto (off := 5) (pc' := 106) (len := 3) (r := (0, 0, 0, 0)) (by decide +kernel) (by decide +kernel) ?_
                    refine y_same (i := .istore 6) (len := 2) (r := (0, 0, 0, 0)) (pc' := 108) (ls' := [some (.inl (some 52)), some (.inl (some A)), some (.inl (some B)), some (zi xf), some (zi xm), some (zi xw), some (zi y2688), some (zi xk), some (zi y2673)]) (st' := []) (by decide +kernel) (fun k q => by cases q) rfl ?_
                    refine y_inc (j := 8) (a := y2673) (c := 1) (ls' := fun v => [some (.inl (some 52)), some (.inl (some A)), some (.inl (some B)), some (zi xf), some (zi xm), some (zi xw), some (zi y2688), some (zi xk), some v]) (len := 3) (r := (0, 0, 0, 0)) (by decide +kernel) rfl (fun _ => rfl) (by decide) (by omega) (by omega) (fun y2691 hy2691 => ?_)
                    show qX (d + 2) 221 111 [some (.inl (some 52)), some (.inl (some A)), some (.inl (some B)), some (zi xf), some (zi xm), some (zi xw), some (zi y2688), some (zi xk), some (zi y2691)] [] h2688 t _
                    refine y_goto (off := (-64)) (pc' := 47) (len := 3) (r := (0, 0, 0, 0)) (by decide +kernel) (by decide +kernel) ?_
                    refine y_same (i := .iload 8) (len := 2) (r := (0, 0, 0, 0)) (pc' := 49) (ls' := [some (.inl (some 52)), some (.inl (some A)), some (.inl (some B)), some (zi xf), some (zi xm), some (zi xw), some (zi y2688), some (zi xk), some (zi y2691)]) (st' := [zi y2691]) (by decide +kernel) (fun k q => by cases q) rfl ?_
                    refine y_same (i := .iload 5) (len := 2) (r := (0, 0, 0, 0)) (pc' := 51) (ls' := [some (.inl (some 52)), some (.inl (some A)), some (.inl (some B)), some (zi xf), some (zi xm), some (zi xw), some (zi y2688), some (zi xk), some (zi y2691)]) (st' := [zi xw, zi y2691]) (by decide +kernel) (fun k q => by cases q) rfl ?_
                    refine y_cT (c := .ge) (off := 63) (pc' := 114) (len := 3) (r := (0, 0, 0, 0)) (by decide +kernel) (acmpT (c := .ge) (by show _ ≤ _; omega)) (by decide +kernel) ?_
                    refine y_inc (j := 7) (a := xk) (c := 1) (ls' := fun v => [some (.inl (some 52)), some (.inl (some A)), some (.inl (some B)), some (zi xf), some (zi xm), some (zi xw), some (zi y2688), some v, some (zi y2691)]) (len := 3) (r := (0, 0, 0, 0)) (by decide +kernel) rfl (fun _ => rfl) (by decide) (by omega) (by omega) (fun y2692 hy2692 => ?_)
                    show qX (d + 2) 221 117 [some (.inl (some 52)), some (.inl (some A)), some (.inl (some B)), some (zi xf), some (zi xm), some (zi xw), some (zi y2688), some (zi y2692), some (zi y2691)] [] h2688 t _
                    refine y_goto (off := (-111)) (pc' := 6) (len := 3) (r := (0, 0, 0, 0)) (by decide +kernel) (by decide +kernel) ?_
                    refine y_same (i := .iload 7) (len := 2) (r := (0, 0, 0, 0)) (pc' := 8) (ls' := [some (.inl (some 52)), some (.inl (some A)), some (.inl (some B)), some (zi xf), some (zi xm), some (zi xw), some (zi y2688), some (zi y2692), some (zi y2691)]) (st' := [zi y2692]) (by decide +kernel) (fun k q => by cases q) rfl ?_
                    refine y_same (i := .iload 4) (len := 2) (r := (0, 0, 0, 0)) (pc' := 10) (ls' := [some (.inl (some 52)), some (.inl (some A)), some (.inl (some B)), some (zi xf), some (zi xm), some (zi xw), some (zi y2688), some (zi y2692), some (zi y2691)]) (st' := [zi xm, zi y2692]) (by decide +kernel) (fun k q => by cases q) rfl ?_
                    rcases Decidable.em (y2692.toInt ≥ xm.toInt) with q2693 | q2693
                    ·
                      refine y_cT (c := .ge) (off := 110) (pc' := 120) (len := 3) (r := (0, 0, 0, 0)) (by decide +kernel) (acmpT (c := .ge) (by show _ ≤ _; omega)) (by decide +kernel) ?_
                      refine y_same (i := .iload 6) (len := 2) (r := (0, 0, 0, 0)) (pc' := 122) (ls' := [some (.inl (some 52)), some (.inl (some A)), some (.inl (some B)), some (zi xf), some (zi xm), some (zi xw), some (zi y2688), some (zi y2692), some (zi y2691)]) (st' := [zi y2688]) (by decide +kernel) (fun k q => by cases q) rfl ?_
                      refine y_rI (len := 1) (r := (0, 0, 0, 0)) (nL := 9) (k := 2) (n9 := 6) (hs := []) (by decide +kernel) rfl (zfit_b (by omega) (by omega)).2 ?_
                      exact ⟨hg2688, fun k j h1 h2 => ((F2688 k j (by omega) (by omega)).trans ((F2672 k j (by omega) (by omega)).trans (F2656 k j (by omega) (by omega)))), Or.inr ⟨by omega, tlR_n kip kiq (tlI_3 (by omega) e2656 e2672 e2688)⟩⟩
                    ·
                      refine y_cF (c := .ge) (off := 110) (len := 3) (r := (0, 0, 0, 0)) (by decide +kernel) (acmpF (c := .ge) (by show _ < _; omega)) ?_
                      refine y_same (i := .iload 6) (len := 2) (r := (0, 0, 0, 0)) (pc' := 15) (ls' := [some (.inl (some 52)), some (.inl (some A)), some (.inl (some B)), some (zi xf), some (zi xm), some (zi xw), some (zi y2688), some (zi y2692), some (zi y2691)]) (st' := [zi y2688]) (by decide +kernel) (fun k q => by cases q) rfl ?_
                      refine y_iT (c := .eq) (off := 105) (pc' := 120) (len := 3) (r := (0, 0, 0, 0)) (by decide +kernel) (acmpT (c := .eq) (by show _ = _; omega)) (by decide +kernel) ?_
                      refine y_same (i := .iload 6) (len := 2) (r := (0, 0, 0, 0)) (pc' := 122) (ls' := [some (.inl (some 52)), some (.inl (some A)), some (.inl (some B)), some (zi xf), some (zi xm), some (zi xw), some (zi y2688), some (zi y2692), some (zi y2691)]) (st' := [zi y2688]) (by decide +kernel) (fun k q => by cases q) rfl ?_
                      refine y_rI (len := 1) (r := (0, 0, 0, 0)) (nL := 9) (k := 2) (n9 := 6) (hs := []) (by decide +kernel) rfl (zfit_b (by omega) (by omega)).2 ?_
                      exact ⟨hg2688, fun k j h1 h2 => ((F2688 k j (by omega) (by omega)).trans ((F2672 k j (by omega) (by omega)).trans (F2656 k j (by omega) (by omega)))), Or.inr ⟨by omega, tlR_n kip kiq (tlI_3 (by omega) e2656 e2672 e2688)⟩⟩
                ·
                  have e0y2678 : tlO ip.2.2.2 iq.2.2.2 m2672 = some m2672 := by rw [show ip.2.2.2 = 0 from oip.2.1 (by omega), show iq.2.2.2 = 0 from oiq.2.1 (by omega)]; exact tlO_0 hz2672
                  refine y_iT (c := .eq) (off := 32) (pc' := 104) (len := 3) (r := (0, 0, 0, 0)) (by decide +kernel) (acmpT (c := .eq) (by show _ = _; omega)) (by decide +kernel) ?_
                  refine y_same (i := .iload 6) (len := 2) (r := (0, 0, 0, 0)) (pc' := 106) (ls' := [some (.inl (some 52)), some (.inl (some A)), some (.inl (some B)), some (zi xf), some (zi xm), some (zi xw), some (zi y2672), some (zi xk), some (zi y2673)]) (st' := [zi y2672]) (by decide +kernel) (fun k q => by cases q) rfl ?_
                  refine y_same (i := .istore 6) (len := 2) (r := (0, 0, 0, 0)) (pc' := 108) (ls' := [some (.inl (some 52)), some (.inl (some A)), some (.inl (some B)), some (zi xf), some (zi xm), some (zi xw), some (zi y2672), some (zi xk), some (zi y2673)]) (st' := []) (by decide +kernel) (fun k q => by cases q) rfl ?_
                  refine y_inc (j := 8) (a := y2673) (c := 1) (ls' := fun v => [some (.inl (some 52)), some (.inl (some A)), some (.inl (some B)), some (zi xf), some (zi xm), some (zi xw), some (zi y2672), some (zi xk), some v]) (len := 3) (r := (0, 0, 0, 0)) (by decide +kernel) rfl (fun _ => rfl) (by decide) (by omega) (by omega) (fun y2694 hy2694 => ?_)
                  show qX (d + 2) 221 111 [some (.inl (some 52)), some (.inl (some A)), some (.inl (some B)), some (zi xf), some (zi xm), some (zi xw), some (zi y2672), some (zi xk), some (zi y2694)] [] h2672 t _
                  refine y_goto (off := (-64)) (pc' := 47) (len := 3) (r := (0, 0, 0, 0)) (by decide +kernel) (by decide +kernel) ?_
                  refine y_same (i := .iload 8) (len := 2) (r := (0, 0, 0, 0)) (pc' := 49) (ls' := [some (.inl (some 52)), some (.inl (some A)), some (.inl (some B)), some (zi xf), some (zi xm), some (zi xw), some (zi y2672), some (zi xk), some (zi y2694)]) (st' := [zi y2694]) (by decide +kernel) (fun k q => by cases q) rfl ?_
                  refine y_same (i := .iload 5) (len := 2) (r := (0, 0, 0, 0)) (pc' := 51) (ls' := [some (.inl (some 52)), some (.inl (some A)), some (.inl (some B)), some (zi xf), some (zi xm), some (zi xw), some (zi y2672), some (zi xk), some (zi y2694)]) (st' := [zi xw, zi y2694]) (by decide +kernel) (fun k q => by cases q) rfl ?_
                  refine y_cT (c := .ge) (off := 63) (pc' := 114) (len := 3) (r := (0, 0, 0, 0)) (by decide +kernel) (acmpT (c := .ge) (by show _ ≤ _; omega)) (by decide +kernel) ?_
                  refine y_inc (j := 7) (a := xk) (c := 1) (ls' := fun v => [some (.inl (some 52)), some (.inl (some A)), some (.inl (some B)), some (zi xf), some (zi xm), some (zi xw), some (zi y2672), some v, some (zi y2694)]) (len := 3) (r := (0, 0, 0, 0)) (by decide +kernel) rfl (fun _ => rfl) (by decide) (by omega) (by omega) (fun y2695 hy2695 => ?_)
                  show qX (d + 2) 221 117 [some (.inl (some 52)), some (.inl (some A)), some (.inl (some B)), some (zi xf), some (zi xm), some (zi xw), some (zi y2672), some (zi y2695), some (zi y2694)] [] h2672 t _
                  refine y_goto (off := (-111)) (pc' := 6) (len := 3) (r := (0, 0, 0, 0)) (by decide +kernel) (by decide +kernel) ?_
                  have tI := tlI_3 (by omega) e2656 e2672 e0y2678
                  have nx := tlR_s kip kiq tI
                  rw [nx]
                  refine qX_I (ih h2672 (k + 1) y2672 y2695 (some (zi y2694)) m2672 Q2672_A Q2672_B H2672 (mpZ_I hz tI) (by omega) (by omega) (by omega) (by omega)) (fun y h1 hR => ⟨hR.1, FK_tr (fun k j h1 h2 => ((F2672 k j (by omega) (by omega)).trans (F2656 k j (by omega) (by omega)))) hR.2.1, hR.2.2⟩)
              ·
                refine y_goto (off := 5) (pc' := 106) (len := 3) (r := (0, 0, 0, 0)) (by decide +kernel) (by decide +kernel) ?_
                refine y_same (i := .istore 6) (len := 2) (r := (0, 0, 0, 0)) (pc' := 108) (ls' := [some (.inl (some 52)), some (.inl (some A)), some (.inl (some B)), some (zi xf), some (zi xm), some (zi xw), some (zi y2672), some (zi xk), some (zi y2657)]) (st' := []) (by decide +kernel) (fun k q => by cases q) rfl ?_
                refine y_inc (j := 8) (a := y2657) (c := 1) (ls' := fun v => [some (.inl (some 52)), some (.inl (some A)), some (.inl (some B)), some (zi xf), some (zi xm), some (zi xw), some (zi y2672), some (zi xk), some v]) (len := 3) (r := (0, 0, 0, 0)) (by decide +kernel) rfl (fun _ => rfl) (by decide) (by omega) (by omega) (fun y2696 hy2696 => ?_)
                show qX (d + 2) 221 111 [some (.inl (some 52)), some (.inl (some A)), some (.inl (some B)), some (zi xf), some (zi xm), some (zi xw), some (zi y2672), some (zi xk), some (zi y2696)] [] h2672 t _
                refine y_goto (off := (-64)) (pc' := 47) (len := 3) (r := (0, 0, 0, 0)) (by decide +kernel) (by decide +kernel) ?_
                refine y_same (i := .iload 8) (len := 2) (r := (0, 0, 0, 0)) (pc' := 49) (ls' := [some (.inl (some 52)), some (.inl (some A)), some (.inl (some B)), some (zi xf), some (zi xm), some (zi xw), some (zi y2672), some (zi xk), some (zi y2696)]) (st' := [zi y2696]) (by decide +kernel) (fun k q => by cases q) rfl ?_
                refine y_same (i := .iload 5) (len := 2) (r := (0, 0, 0, 0)) (pc' := 51) (ls' := [some (.inl (some 52)), some (.inl (some A)), some (.inl (some B)), some (zi xf), some (zi xm), some (zi xw), some (zi y2672), some (zi xk), some (zi y2696)]) (st' := [zi xw, zi y2696]) (by decide +kernel) (fun k q => by cases q) rfl ?_
                refine y_cF (c := .ge) (off := 63) (len := 3) (r := (0, 0, 0, 0)) (by decide +kernel) (acmpF (c := .ge) (by show _ < _; omega)) ?_
                refine y_same (i := .iload 6) (len := 2) (r := (0, 0, 0, 0)) (pc' := 56) (ls' := [some (.inl (some 52)), some (.inl (some A)), some (.inl (some B)), some (zi xf), some (zi xm), some (zi xw), some (zi y2672), some (zi xk), some (zi y2696)]) (st' := [zi y2672]) (by decide +kernel) (fun k q => by cases q) rfl ?_
                refine y_iT (c := .eq) (off := 58) (pc' := 114) (len := 3) (r := (0, 0, 0, 0)) (by decide +kernel) (acmpT (c := .eq) (by show _ = _; omega)) (by decide +kernel) ?_
                refine y_inc (j := 7) (a := xk) (c := 1) (ls' := fun v => [some (.inl (some 52)), some (.inl (some A)), some (.inl (some B)), some (zi xf), some (zi xm), some (zi xw), some (zi y2672), some v, some (zi y2696)]) (len := 3) (r := (0, 0, 0, 0)) (by decide +kernel) rfl (fun _ => rfl) (by decide) (by omega) (by omega) (fun y2697 hy2697 => ?_)
                show qX (d + 2) 221 117 [some (.inl (some 52)), some (.inl (some A)), some (.inl (some B)), some (zi xf), some (zi xm), some (zi xw), some (zi y2672), some (zi y2697), some (zi y2696)] [] h2672 t _
                refine y_goto (off := (-111)) (pc' := 6) (len := 3) (r := (0, 0, 0, 0)) (by decide +kernel) (by decide +kernel) ?_
                refine y_same (i := .iload 7) (len := 2) (r := (0, 0, 0, 0)) (pc' := 8) (ls' := [some (.inl (some 52)), some (.inl (some A)), some (.inl (some B)), some (zi xf), some (zi xm), some (zi xw), some (zi y2672), some (zi y2697), some (zi y2696)]) (st' := [zi y2697]) (by decide +kernel) (fun k q => by cases q) rfl ?_
                refine y_same (i := .iload 4) (len := 2) (r := (0, 0, 0, 0)) (pc' := 10) (ls' := [some (.inl (some 52)), some (.inl (some A)), some (.inl (some B)), some (zi xf), some (zi xm), some (zi xw), some (zi y2672), some (zi y2697), some (zi y2696)]) (st' := [zi xm, zi y2697]) (by decide +kernel) (fun k q => by cases q) rfl ?_
                rcases Decidable.em (y2697.toInt ≥ xm.toInt) with q2698 | q2698
                ·
                  refine y_cT (c := .ge) (off := 110) (pc' := 120) (len := 3) (r := (0, 0, 0, 0)) (by decide +kernel) (acmpT (c := .ge) (by show _ ≤ _; omega)) (by decide +kernel) ?_
                  refine y_same (i := .iload 6) (len := 2) (r := (0, 0, 0, 0)) (pc' := 122) (ls' := [some (.inl (some 52)), some (.inl (some A)), some (.inl (some B)), some (zi xf), some (zi xm), some (zi xw), some (zi y2672), some (zi y2697), some (zi y2696)]) (st' := [zi y2672]) (by decide +kernel) (fun k q => by cases q) rfl ?_
                  refine y_rI (len := 1) (r := (0, 0, 0, 0)) (nL := 9) (k := 2) (n9 := 6) (hs := []) (by decide +kernel) rfl (zfit_b (by omega) (by omega)).2 ?_
                  exact ⟨hg2672, fun k j h1 h2 => ((F2672 k j (by omega) (by omega)).trans (F2656 k j (by omega) (by omega))), Or.inr ⟨by omega, tlR_n kip kiq (tlI_2 (by omega) e2656 e2672)⟩⟩
                ·
                  refine y_cF (c := .ge) (off := 110) (len := 3) (r := (0, 0, 0, 0)) (by decide +kernel) (acmpF (c := .ge) (by show _ < _; omega)) ?_
                  refine y_same (i := .iload 6) (len := 2) (r := (0, 0, 0, 0)) (pc' := 15) (ls' := [some (.inl (some 52)), some (.inl (some A)), some (.inl (some B)), some (zi xf), some (zi xm), some (zi xw), some (zi y2672), some (zi y2697), some (zi y2696)]) (st' := [zi y2672]) (by decide +kernel) (fun k q => by cases q) rfl ?_
                  refine y_iT (c := .eq) (off := 105) (pc' := 120) (len := 3) (r := (0, 0, 0, 0)) (by decide +kernel) (acmpT (c := .eq) (by show _ = _; omega)) (by decide +kernel) ?_
                  refine y_same (i := .iload 6) (len := 2) (r := (0, 0, 0, 0)) (pc' := 122) (ls' := [some (.inl (some 52)), some (.inl (some A)), some (.inl (some B)), some (zi xf), some (zi xm), some (zi xw), some (zi y2672), some (zi y2697), some (zi y2696)]) (st' := [zi y2672]) (by decide +kernel) (fun k q => by cases q) rfl ?_
                  refine y_rI (len := 1) (r := (0, 0, 0, 0)) (nL := 9) (k := 2) (n9 := 6) (hs := []) (by decide +kernel) rfl (zfit_b (by omega) (by omega)).2 ?_
                  exact ⟨hg2672, fun k j h1 h2 => ((F2672 k j (by omega) (by omega)).trans (F2656 k j (by omega) (by omega))), Or.inr ⟨by omega, tlR_n kip kiq (tlI_2 (by omega) e2656 e2672)⟩⟩
            ·
              have e0y2662 : tlO ip.2.2.1 iq.2.2.1 m2656 = some m2656 := by rw [show ip.2.2.1 = 0 from oip.2.2 (by omega), show iq.2.2.1 = 0 from oiq.2.2 (by omega)]; exact tlO_0 hz2656
              refine y_iT (c := .eq) (off := 32) (pc' := 104) (len := 3) (r := (0, 0, 0, 0)) (by decide +kernel) (acmpT (c := .eq) (by show _ = _; omega)) (by decide +kernel) ?_
              refine y_same (i := .iload 6) (len := 2) (r := (0, 0, 0, 0)) (pc' := 106) (ls' := [some (.inl (some 52)), some (.inl (some A)), some (.inl (some B)), some (zi xf), some (zi xm), some (zi xw), some (zi y2656), some (zi xk), some (zi y2657)]) (st' := [zi y2656]) (by decide +kernel) (fun k q => by cases q) rfl ?_
              refine y_same (i := .istore 6) (len := 2) (r := (0, 0, 0, 0)) (pc' := 108) (ls' := [some (.inl (some 52)), some (.inl (some A)), some (.inl (some B)), some (zi xf), some (zi xm), some (zi xw), some (zi y2656), some (zi xk), some (zi y2657)]) (st' := []) (by decide +kernel) (fun k q => by cases q) rfl ?_
              refine y_inc (j := 8) (a := y2657) (c := 1) (ls' := fun v => [some (.inl (some 52)), some (.inl (some A)), some (.inl (some B)), some (zi xf), some (zi xm), some (zi xw), some (zi y2656), some (zi xk), some v]) (len := 3) (r := (0, 0, 0, 0)) (by decide +kernel) rfl (fun _ => rfl) (by decide) (by omega) (by omega) (fun y2699 hy2699 => ?_)
              show qX (d + 2) 221 111 [some (.inl (some 52)), some (.inl (some A)), some (.inl (some B)), some (zi xf), some (zi xm), some (zi xw), some (zi y2656), some (zi xk), some (zi y2699)] [] h2656 t _
              refine y_goto (off := (-64)) (pc' := 47) (len := 3) (r := (0, 0, 0, 0)) (by decide +kernel) (by decide +kernel) ?_
              refine y_same (i := .iload 8) (len := 2) (r := (0, 0, 0, 0)) (pc' := 49) (ls' := [some (.inl (some 52)), some (.inl (some A)), some (.inl (some B)), some (zi xf), some (zi xm), some (zi xw), some (zi y2656), some (zi xk), some (zi y2699)]) (st' := [zi y2699]) (by decide +kernel) (fun k q => by cases q) rfl ?_
              refine y_same (i := .iload 5) (len := 2) (r := (0, 0, 0, 0)) (pc' := 51) (ls' := [some (.inl (some 52)), some (.inl (some A)), some (.inl (some B)), some (zi xf), some (zi xm), some (zi xw), some (zi y2656), some (zi xk), some (zi y2699)]) (st' := [zi xw, zi y2699]) (by decide +kernel) (fun k q => by cases q) rfl ?_
              refine y_cF (c := .ge) (off := 63) (len := 3) (r := (0, 0, 0, 0)) (by decide +kernel) (acmpF (c := .ge) (by show _ < _; omega)) ?_
              refine y_same (i := .iload 6) (len := 2) (r := (0, 0, 0, 0)) (pc' := 56) (ls' := [some (.inl (some 52)), some (.inl (some A)), some (.inl (some B)), some (zi xf), some (zi xm), some (zi xw), some (zi y2656), some (zi xk), some (zi y2699)]) (st' := [zi y2656]) (by decide +kernel) (fun k q => by cases q) rfl ?_
              refine y_iF (c := .eq) (off := 58) (len := 3) (r := (0, 0, 0, 0)) (by decide +kernel) (acmpF (c := .eq) (by show ¬ (_ = _); omega)) ?_
              refine y_same (i := .aload_n 1) (len := 1) (r := (0, 0, 0, 0)) (pc' := 60) (ls' := [some (.inl (some 52)), some (.inl (some A)), some (.inl (some B)), some (zi xf), some (zi xm), some (zi xw), some (zi y2656), some (zi xk), some (zi y2699)]) (st' := [.inl (some A)]) (by decide +kernel) (fun k q => by cases q) rfl ?_
              refine y_same (i := .iload_n 3) (len := 1) (r := (0, 0, 0, 0)) (pc' := 61) (ls' := [some (.inl (some 52)), some (.inl (some A)), some (.inl (some B)), some (zi xf), some (zi xm), some (zi xw), some (zi y2656), some (zi xk), some (zi y2699)]) (st' := [zi xf, .inl (some A)]) (by decide +kernel) (fun k q => by cases q) rfl ?_
              refine y_ic (c := 4) (len := 1) (r := (0, 0, 0, 0)) (by decide +kernel) (by decide) (fun y2700 hy2700 => ?_)
              refine y_same (i := .iload 7) (len := 2) (r := (0, 0, 0, 0)) (pc' := 64) (ls' := [some (.inl (some 52)), some (.inl (some A)), some (.inl (some B)), some (zi xf), some (zi xm), some (zi xw), some (zi y2656), some (zi xk), some (zi y2699)]) (st' := [zi xk, zi y2700, zi xf, .inl (some A)]) (by decide +kernel) (fun k q => by cases q) rfl ?_
              refine y_mul (c := 4) (len := 1) (r := (0, 0, 0, 0)) (by decide +kernel) (by omega) (by omega) (by omega) (fun y2701 hy2701 => ?_)
              refine y_add (len := 1) (r := (0, 0, 0, 0)) (by decide +kernel) (by omega) (by omega) (fun y2702 hy2702 => ?_)
              refine y_ial (i := (24 + 4 * k)) (len := 1) (r := (0, 0, 0, 0)) (by decide +kernel) hg2656 tA aT (by omega) hai2661 ?_
              refine y_same (i := .iload 8) (len := 2) (r := (0, 0, 0, 0)) (pc' := 69) (ls' := [some (.inl (some 52)), some (.inl (some A)), some (.inl (some B)), some (zi xf), some (zi xm), some (zi xw), some (zi y2656), some (zi xk), some (zi y2699)]) (st' := [zi y2699, zi ai2661]) (by decide +kernel) (fun k q => by cases q) rfl ?_
              refine y_cI (i := .invokestatic 308) (len := 3) (r := (1, 222, 12, 1753)) (nL := 2) (k := 2) (n := 2) (hs := []) (args := [zi ai2661, zi y2699]) (rest := []) (l0 := [some (zi ai2661), some (zi y2699)]) (by decide +kernel) (Or.inl ⟨_, rfl⟩) rfl rfl rfl rfl (Nat.le_of_ble_eq_true rfl) rfl rfl (qI_le (by omega) (m_ist (d := 0))) (fun y2703 qy2703 hRy2703 => ?_)
              obtain ⟨rfl, hDy2703⟩ := hRy2703
              rcases hDy2703 with ⟨vy2703, by2703⟩ | ⟨vy2703, by2703⟩
              ·
                refine y_iF (c := .eq) (off := 32) (len := 3) (r := (0, 0, 0, 0)) (by decide +kernel) (acmpF (c := .eq) (by show ¬ (_ = _); omega)) ?_
                refine y_same (i := .aload_n 0) (len := 1) (r := (0, 0, 0, 0)) (pc' := 76) (ls' := [some (.inl (some 52)), some (.inl (some A)), some (.inl (some B)), some (zi xf), some (zi xm), some (zi xw), some (zi y2656), some (zi xk), some (zi y2699)]) (st' := [.inl (some 52)]) (by decide +kernel) (fun k q => by cases q) rfl ?_
                refine y_same (i := .aload_n 1) (len := 1) (r := (0, 0, 0, 0)) (pc' := 77) (ls' := [some (.inl (some 52)), some (.inl (some A)), some (.inl (some B)), some (zi xf), some (zi xm), some (zi xw), some (zi y2656), some (zi xk), some (zi y2699)]) (st' := [.inl (some A), .inl (some 52)]) (by decide +kernel) (fun k q => by cases q) rfl ?_
                refine y_same (i := .iload_n 3) (len := 1) (r := (0, 0, 0, 0)) (pc' := 78) (ls' := [some (.inl (some 52)), some (.inl (some A)), some (.inl (some B)), some (zi xf), some (zi xm), some (zi xw), some (zi y2656), some (zi xk), some (zi y2699)]) (st' := [zi xf, .inl (some A), .inl (some 52)]) (by decide +kernel) (fun k q => by cases q) rfl ?_
                refine y_ic (c := 4) (len := 1) (r := (0, 0, 0, 0)) (by decide +kernel) (by decide) (fun y2704 hy2704 => ?_)
                refine y_same (i := .iload 7) (len := 2) (r := (0, 0, 0, 0)) (pc' := 81) (ls' := [some (.inl (some 52)), some (.inl (some A)), some (.inl (some B)), some (zi xf), some (zi xm), some (zi xw), some (zi y2656), some (zi xk), some (zi y2699)]) (st' := [zi xk, zi y2704, zi xf, .inl (some A), .inl (some 52)]) (by decide +kernel) (fun k q => by cases q) rfl ?_
                refine y_mul (c := 4) (len := 1) (r := (0, 0, 0, 0)) (by decide +kernel) (by omega) (by omega) (by omega) (fun y2705 hy2705 => ?_)
                refine y_add (len := 1) (r := (0, 0, 0, 0)) (by decide +kernel) (by omega) (by omega) (fun y2706 hy2706 => ?_)
                refine y_same (i := .iload 8) (len := 2) (r := (0, 0, 0, 0)) (pc' := 85) (ls' := [some (.inl (some 52)), some (.inl (some A)), some (.inl (some B)), some (zi xf), some (zi xm), some (zi xw), some (zi y2656), some (zi xk), some (zi y2699)]) (st' := [zi y2699, zi y2706, .inl (some A), .inl (some 52)]) (by decide +kernel) (fun k q => by cases q) rfl ?_
                refine y_add (len := 1) (r := (0, 0, 0, 0)) (by decide +kernel) (by omega) (by omega) (fun y2707 hy2707 => ?_)
                refine y_ial (i := ((24 + 4 * k) + 3)) (len := 1) (r := (0, 0, 0, 0)) (by decide +kernel) hg2656 tA aT (by omega) hdi2661 ?_
                refine y_same (i := .aload_n 2) (len := 1) (r := (0, 0, 0, 0)) (pc' := 88) (ls' := [some (.inl (some 52)), some (.inl (some A)), some (.inl (some B)), some (zi xf), some (zi xm), some (zi xw), some (zi y2656), some (zi xk), some (zi y2699)]) (st' := [.inl (some B), zi di2661, .inl (some 52)]) (by decide +kernel) (fun k q => by cases q) rfl ?_
                refine y_same (i := .iload_n 3) (len := 1) (r := (0, 0, 0, 0)) (pc' := 89) (ls' := [some (.inl (some 52)), some (.inl (some A)), some (.inl (some B)), some (zi xf), some (zi xm), some (zi xw), some (zi y2656), some (zi xk), some (zi y2699)]) (st' := [zi xf, .inl (some B), zi di2661, .inl (some 52)]) (by decide +kernel) (fun k q => by cases q) rfl ?_
                refine y_ic (c := 4) (len := 1) (r := (0, 0, 0, 0)) (by decide +kernel) (by decide) (fun y2708 hy2708 => ?_)
                refine y_same (i := .iload 7) (len := 2) (r := (0, 0, 0, 0)) (pc' := 92) (ls' := [some (.inl (some 52)), some (.inl (some A)), some (.inl (some B)), some (zi xf), some (zi xm), some (zi xw), some (zi y2656), some (zi xk), some (zi y2699)]) (st' := [zi xk, zi y2708, zi xf, .inl (some B), zi di2661, .inl (some 52)]) (by decide +kernel) (fun k q => by cases q) rfl ?_
                refine y_mul (c := 4) (len := 1) (r := (0, 0, 0, 0)) (by decide +kernel) (by omega) (by omega) (by omega) (fun y2709 hy2709 => ?_)
                refine y_add (len := 1) (r := (0, 0, 0, 0)) (by decide +kernel) (by omega) (by omega) (fun y2710 hy2710 => ?_)
                refine y_same (i := .iload 8) (len := 2) (r := (0, 0, 0, 0)) (pc' := 96) (ls' := [some (.inl (some 52)), some (.inl (some A)), some (.inl (some B)), some (zi xf), some (zi xm), some (zi xw), some (zi y2656), some (zi xk), some (zi y2699)]) (st' := [zi y2699, zi y2710, .inl (some B), zi di2661, .inl (some 52)]) (by decide +kernel) (fun k q => by cases q) rfl ?_
                refine y_add (len := 1) (r := (0, 0, 0, 0)) (by decide +kernel) (by omega) (by omega) (fun y2711 hy2711 => ?_)
                obtain ⟨i2712, ki2712, zi2712⟩ : ∃ i9, s2.1[k]? = some i9 ∧ i9 = iq := ⟨_, kiq, rfl⟩
                obtain ⟨zai2712, zbi2712, zci2712, zdi2712⟩ : i2712.1 = iq.1 ∧ i2712.2.1 = iq.2.1 ∧ i2712.2.2.1 = iq.2.2.1 ∧ i2712.2.2.2 = iq.2.2.2 := by rw [zi2712]; exact ⟨rfl, rfl, rfl, rfl⟩
                have oi2712 := okQ_L Q2656_B.2.2.2 ki2712
                have pi2712 := oi2712.1
                unfold okV at pi2712
                obtain ⟨ai2712, bi2712, ci2712, di2712, ⟨hai2712, hbi2712, hci2712, hdi2712⟩, eai2712, ebi2712, eci2712, edi2712⟩ := qm_itL Q2656_B ki2712
                refine y_ial (i := ((24 + 4 * k) + 3)) (len := 1) (r := (0, 0, 0, 0)) (by decide +kernel) hg2656 tB aB (by omega) hdi2712 ?_
                refine y_cI (i := .invokevirtual 312) (len := 3) (r := (0, 220, 12, 1745)) (nL := 3) (k := 2) (n := 3) (hs := []) (args := [.inl (some 52), zi di2661, zi di2712]) (rest := []) (l0 := [some (.inl (some 52)), some (zi di2661), some (zi di2712)]) (by decide +kernel) (Or.inr (Or.inl ⟨_, rfl⟩)) rfl rfl rfl rfl (Nat.le_of_ble_eq_true rfl) (z52 hg2656) rfl (qI_le (by omega) (m_tlsI (d := 0) (x := ip.2.2.2) (y := iq.2.2.2) hg2656 H2656 (by omega) (by omega) (by omega) (by omega))) (fun y2713 h2713 hRy2713 => ?_)
                obtain ⟨hg2713, F2713, hDy2713⟩ := hRy2713
                have Q2713_A := QM_up Q2656_A hg2713 (fun j => F2713 A j (by omega) (by omega))
                have Q2713_B := QM_up Q2656_B hg2713 (fun j => F2713 B j (by omega) (by omega))
                rcases hDy2713 with ⟨v2713, m2713, e2713, H2713⟩ | ⟨v2713, e2713⟩
                ·
                  have hz2713 : mpZ m2713 := mpZ_O hz2656 e2713
                  refine y_goto (off := 5) (pc' := 106) (len := 3) (r := (0, 0, 0, 0)) (by decide +kernel) (by decide +kernel) ?_
                  refine y_same (i := .istore 6) (len := 2) (r := (0, 0, 0, 0)) (pc' := 108) (ls' := [some (.inl (some 52)), some (.inl (some A)), some (.inl (some B)), some (zi xf), some (zi xm), some (zi xw), some (zi y2713), some (zi xk), some (zi y2699)]) (st' := []) (by decide +kernel) (fun k q => by cases q) rfl ?_
                  refine y_inc (j := 8) (a := y2699) (c := 1) (ls' := fun v => [some (.inl (some 52)), some (.inl (some A)), some (.inl (some B)), some (zi xf), some (zi xm), some (zi xw), some (zi y2713), some (zi xk), some v]) (len := 3) (r := (0, 0, 0, 0)) (by decide +kernel) rfl (fun _ => rfl) (by decide) (by omega) (by omega) (fun y2714 hy2714 => ?_)
                  show qX (d + 2) 221 111 [some (.inl (some 52)), some (.inl (some A)), some (.inl (some B)), some (zi xf), some (zi xm), some (zi xw), some (zi y2713), some (zi xk), some (zi y2714)] [] h2713 t _
                  refine y_goto (off := (-64)) (pc' := 47) (len := 3) (r := (0, 0, 0, 0)) (by decide +kernel) (by decide +kernel) ?_
                  refine y_same (i := .iload 8) (len := 2) (r := (0, 0, 0, 0)) (pc' := 49) (ls' := [some (.inl (some 52)), some (.inl (some A)), some (.inl (some B)), some (zi xf), some (zi xm), some (zi xw), some (zi y2713), some (zi xk), some (zi y2714)]) (st' := [zi y2714]) (by decide +kernel) (fun k q => by cases q) rfl ?_
                  refine y_same (i := .iload 5) (len := 2) (r := (0, 0, 0, 0)) (pc' := 51) (ls' := [some (.inl (some 52)), some (.inl (some A)), some (.inl (some B)), some (zi xf), some (zi xm), some (zi xw), some (zi y2713), some (zi xk), some (zi y2714)]) (st' := [zi xw, zi y2714]) (by decide +kernel) (fun k q => by cases q) rfl ?_
                  refine y_cT (c := .ge) (off := 63) (pc' := 114) (len := 3) (r := (0, 0, 0, 0)) (by decide +kernel) (acmpT (c := .ge) (by show _ ≤ _; omega)) (by decide +kernel) ?_
                  refine y_inc (j := 7) (a := xk) (c := 1) (ls' := fun v => [some (.inl (some 52)), some (.inl (some A)), some (.inl (some B)), some (zi xf), some (zi xm), some (zi xw), some (zi y2713), some v, some (zi y2714)]) (len := 3) (r := (0, 0, 0, 0)) (by decide +kernel) rfl (fun _ => rfl) (by decide) (by omega) (by omega) (fun y2715 hy2715 => ?_)
                  show qX (d + 2) 221 117 [some (.inl (some 52)), some (.inl (some A)), some (.inl (some B)), some (zi xf), some (zi xm), some (zi xw), some (zi y2713), some (zi y2715), some (zi y2714)] [] h2713 t _
                  refine y_goto (off := (-111)) (pc' := 6) (len := 3) (r := (0, 0, 0, 0)) (by decide +kernel) (by decide +kernel) ?_
                  have tI := tlI_3 (by omega) e2656 e0y2662 e2713
                  have nx := tlR_s kip kiq tI
                  rw [nx]
                  refine qX_I (ih h2713 (k + 1) y2713 y2715 (some (zi y2714)) m2713 Q2713_A Q2713_B H2713 (mpZ_I hz tI) (by omega) (by omega) (by omega) (by omega)) (fun y h1 hR => ⟨hR.1, FK_tr (fun k j h1 h2 => ((F2713 k j (by omega) (by omega)).trans (F2656 k j (by omega) (by omega)))) hR.2.1, hR.2.2⟩)
                ·
                  refine y_goto (off := 5) (pc' := 106) (len := 3) (r := (0, 0, 0, 0)) (by decide +kernel) (by decide +kernel) ?_
                  refine y_same (i := .istore 6) (len := 2) (r := (0, 0, 0, 0)) (pc' := 108) (ls' := [some (.inl (some 52)), some (.inl (some A)), some (.inl (some B)), some (zi xf), some (zi xm), some (zi xw), some (zi y2713), some (zi xk), some (zi y2699)]) (st' := []) (by decide +kernel) (fun k q => by cases q) rfl ?_
                  refine y_inc (j := 8) (a := y2699) (c := 1) (ls' := fun v => [some (.inl (some 52)), some (.inl (some A)), some (.inl (some B)), some (zi xf), some (zi xm), some (zi xw), some (zi y2713), some (zi xk), some v]) (len := 3) (r := (0, 0, 0, 0)) (by decide +kernel) rfl (fun _ => rfl) (by decide) (by omega) (by omega) (fun y2716 hy2716 => ?_)
                  show qX (d + 2) 221 111 [some (.inl (some 52)), some (.inl (some A)), some (.inl (some B)), some (zi xf), some (zi xm), some (zi xw), some (zi y2713), some (zi xk), some (zi y2716)] [] h2713 t _
                  refine y_goto (off := (-64)) (pc' := 47) (len := 3) (r := (0, 0, 0, 0)) (by decide +kernel) (by decide +kernel) ?_
                  refine y_same (i := .iload 8) (len := 2) (r := (0, 0, 0, 0)) (pc' := 49) (ls' := [some (.inl (some 52)), some (.inl (some A)), some (.inl (some B)), some (zi xf), some (zi xm), some (zi xw), some (zi y2713), some (zi xk), some (zi y2716)]) (st' := [zi y2716]) (by decide +kernel) (fun k q => by cases q) rfl ?_
                  refine y_same (i := .iload 5) (len := 2) (r := (0, 0, 0, 0)) (pc' := 51) (ls' := [some (.inl (some 52)), some (.inl (some A)), some (.inl (some B)), some (zi xf), some (zi xm), some (zi xw), some (zi y2713), some (zi xk), some (zi y2716)]) (st' := [zi xw, zi y2716]) (by decide +kernel) (fun k q => by cases q) rfl ?_
                  refine y_cT (c := .ge) (off := 63) (pc' := 114) (len := 3) (r := (0, 0, 0, 0)) (by decide +kernel) (acmpT (c := .ge) (by show _ ≤ _; omega)) (by decide +kernel) ?_
                  refine y_inc (j := 7) (a := xk) (c := 1) (ls' := fun v => [some (.inl (some 52)), some (.inl (some A)), some (.inl (some B)), some (zi xf), some (zi xm), some (zi xw), some (zi y2713), some v, some (zi y2716)]) (len := 3) (r := (0, 0, 0, 0)) (by decide +kernel) rfl (fun _ => rfl) (by decide) (by omega) (by omega) (fun y2717 hy2717 => ?_)
                  show qX (d + 2) 221 117 [some (.inl (some 52)), some (.inl (some A)), some (.inl (some B)), some (zi xf), some (zi xm), some (zi xw), some (zi y2713), some (zi y2717), some (zi y2716)] [] h2713 t _
                  refine y_goto (off := (-111)) (pc' := 6) (len := 3) (r := (0, 0, 0, 0)) (by decide +kernel) (by decide +kernel) ?_
                  refine y_same (i := .iload 7) (len := 2) (r := (0, 0, 0, 0)) (pc' := 8) (ls' := [some (.inl (some 52)), some (.inl (some A)), some (.inl (some B)), some (zi xf), some (zi xm), some (zi xw), some (zi y2713), some (zi y2717), some (zi y2716)]) (st' := [zi y2717]) (by decide +kernel) (fun k q => by cases q) rfl ?_
                  refine y_same (i := .iload 4) (len := 2) (r := (0, 0, 0, 0)) (pc' := 10) (ls' := [some (.inl (some 52)), some (.inl (some A)), some (.inl (some B)), some (zi xf), some (zi xm), some (zi xw), some (zi y2713), some (zi y2717), some (zi y2716)]) (st' := [zi xm, zi y2717]) (by decide +kernel) (fun k q => by cases q) rfl ?_
                  rcases Decidable.em (y2717.toInt ≥ xm.toInt) with q2718 | q2718
                  ·
                    refine y_cT (c := .ge) (off := 110) (pc' := 120) (len := 3) (r := (0, 0, 0, 0)) (by decide +kernel) (acmpT (c := .ge) (by show _ ≤ _; omega)) (by decide +kernel) ?_
                    refine y_same (i := .iload 6) (len := 2) (r := (0, 0, 0, 0)) (pc' := 122) (ls' := [some (.inl (some 52)), some (.inl (some A)), some (.inl (some B)), some (zi xf), some (zi xm), some (zi xw), some (zi y2713), some (zi y2717), some (zi y2716)]) (st' := [zi y2713]) (by decide +kernel) (fun k q => by cases q) rfl ?_
                    refine y_rI (len := 1) (r := (0, 0, 0, 0)) (nL := 9) (k := 2) (n9 := 6) (hs := []) (by decide +kernel) rfl (zfit_b (by omega) (by omega)).2 ?_
                    exact ⟨hg2713, fun k j h1 h2 => ((F2713 k j (by omega) (by omega)).trans (F2656 k j (by omega) (by omega))), Or.inr ⟨by omega, tlR_n kip kiq (tlI_3 (by omega) e2656 e0y2662 e2713)⟩⟩
                  ·
                    refine y_cF (c := .ge) (off := 110) (len := 3) (r := (0, 0, 0, 0)) (by decide +kernel) (acmpF (c := .ge) (by show _ < _; omega)) ?_
                    refine y_same (i := .iload 6) (len := 2) (r := (0, 0, 0, 0)) (pc' := 15) (ls' := [some (.inl (some 52)), some (.inl (some A)), some (.inl (some B)), some (zi xf), some (zi xm), some (zi xw), some (zi y2713), some (zi y2717), some (zi y2716)]) (st' := [zi y2713]) (by decide +kernel) (fun k q => by cases q) rfl ?_
                    refine y_iT (c := .eq) (off := 105) (pc' := 120) (len := 3) (r := (0, 0, 0, 0)) (by decide +kernel) (acmpT (c := .eq) (by show _ = _; omega)) (by decide +kernel) ?_
                    refine y_same (i := .iload 6) (len := 2) (r := (0, 0, 0, 0)) (pc' := 122) (ls' := [some (.inl (some 52)), some (.inl (some A)), some (.inl (some B)), some (zi xf), some (zi xm), some (zi xw), some (zi y2713), some (zi y2717), some (zi y2716)]) (st' := [zi y2713]) (by decide +kernel) (fun k q => by cases q) rfl ?_
                    refine y_rI (len := 1) (r := (0, 0, 0, 0)) (nL := 9) (k := 2) (n9 := 6) (hs := []) (by decide +kernel) rfl (zfit_b (by omega) (by omega)).2 ?_
                    exact ⟨hg2713, fun k j h1 h2 => ((F2713 k j (by omega) (by omega)).trans (F2656 k j (by omega) (by omega))), Or.inr ⟨by omega, tlR_n kip kiq (tlI_3 (by omega) e2656 e0y2662 e2713)⟩⟩
              ·
                have e0y2703 : tlO ip.2.2.2 iq.2.2.2 m2656 = some m2656 := by rw [show ip.2.2.2 = 0 from oip.2.1 (by omega), show iq.2.2.2 = 0 from oiq.2.1 (by omega)]; exact tlO_0 hz2656
                refine y_iT (c := .eq) (off := 32) (pc' := 104) (len := 3) (r := (0, 0, 0, 0)) (by decide +kernel) (acmpT (c := .eq) (by show _ = _; omega)) (by decide +kernel) ?_
                refine y_same (i := .iload 6) (len := 2) (r := (0, 0, 0, 0)) (pc' := 106) (ls' := [some (.inl (some 52)), some (.inl (some A)), some (.inl (some B)), some (zi xf), some (zi xm), some (zi xw), some (zi y2656), some (zi xk), some (zi y2699)]) (st' := [zi y2656]) (by decide +kernel) (fun k q => by cases q) rfl ?_
                refine y_same (i := .istore 6) (len := 2) (r := (0, 0, 0, 0)) (pc' := 108) (ls' := [some (.inl (some 52)), some (.inl (some A)), some (.inl (some B)), some (zi xf), some (zi xm), some (zi xw), some (zi y2656), some (zi xk), some (zi y2699)]) (st' := []) (by decide +kernel) (fun k q => by cases q) rfl ?_
                refine y_inc (j := 8) (a := y2699) (c := 1) (ls' := fun v => [some (.inl (some 52)), some (.inl (some A)), some (.inl (some B)), some (zi xf), some (zi xm), some (zi xw), some (zi y2656), some (zi xk), some v]) (len := 3) (r := (0, 0, 0, 0)) (by decide +kernel) rfl (fun _ => rfl) (by decide) (by omega) (by omega) (fun y2719 hy2719 => ?_)
                show qX (d + 2) 221 111 [some (.inl (some 52)), some (.inl (some A)), some (.inl (some B)), some (zi xf), some (zi xm), some (zi xw), some (zi y2656), some (zi xk), some (zi y2719)] [] h2656 t _
                refine y_goto (off := (-64)) (pc' := 47) (len := 3) (r := (0, 0, 0, 0)) (by decide +kernel) (by decide +kernel) ?_
                refine y_same (i := .iload 8) (len := 2) (r := (0, 0, 0, 0)) (pc' := 49) (ls' := [some (.inl (some 52)), some (.inl (some A)), some (.inl (some B)), some (zi xf), some (zi xm), some (zi xw), some (zi y2656), some (zi xk), some (zi y2719)]) (st' := [zi y2719]) (by decide +kernel) (fun k q => by cases q) rfl ?_
                refine y_same (i := .iload 5) (len := 2) (r := (0, 0, 0, 0)) (pc' := 51) (ls' := [some (.inl (some 52)), some (.inl (some A)), some (.inl (some B)), some (zi xf), some (zi xm), some (zi xw), some (zi y2656), some (zi xk), some (zi y2719)]) (st' := [zi xw, zi y2719]) (by decide +kernel) (fun k q => by cases q) rfl ?_
                refine y_cT (c := .ge) (off := 63) (pc' := 114) (len := 3) (r := (0, 0, 0, 0)) (by decide +kernel) (acmpT (c := .ge) (by show _ ≤ _; omega)) (by decide +kernel) ?_
                refine y_inc (j := 7) (a := xk) (c := 1) (ls' := fun v => [some (.inl (some 52)), some (.inl (some A)), some (.inl (some B)), some (zi xf), some (zi xm), some (zi xw), some (zi y2656), some v, some (zi y2719)]) (len := 3) (r := (0, 0, 0, 0)) (by decide +kernel) rfl (fun _ => rfl) (by decide) (by omega) (by omega) (fun y2720 hy2720 => ?_)
                show qX (d + 2) 221 117 [some (.inl (some 52)), some (.inl (some A)), some (.inl (some B)), some (zi xf), some (zi xm), some (zi xw), some (zi y2656), some (zi y2720), some (zi y2719)] [] h2656 t _
                refine y_goto (off := (-111)) (pc' := 6) (len := 3) (r := (0, 0, 0, 0)) (by decide +kernel) (by decide +kernel) ?_
                have tI := tlI_3 (by omega) e2656 e0y2662 e0y2703
                have nx := tlR_s kip kiq tI
                rw [nx]
                refine qX_I (ih h2656 (k + 1) y2656 y2720 (some (zi y2719)) m2656 Q2656_A Q2656_B H2656 (mpZ_I hz tI) (by omega) (by omega) (by omega) (by omega)) (fun y h1 hR => ⟨hR.1, FK_tr (fun k j h1 h2 => (F2656 k j (by omega) (by omega))) hR.2.1, hR.2.2⟩)
          ·
            refine y_goto (off := 5) (pc' := 106) (len := 3) (r := (0, 0, 0, 0)) (by decide +kernel) (by decide +kernel) ?_
            refine y_same (i := .istore 6) (len := 2) (r := (0, 0, 0, 0)) (pc' := 108) (ls' := [some (.inl (some 52)), some (.inl (some A)), some (.inl (some B)), some (zi xf), some (zi xm), some (zi xw), some (zi y2656), some (zi xk), some (zi y2643)]) (st' := []) (by decide +kernel) (fun k q => by cases q) rfl ?_
            refine y_inc (j := 8) (a := y2643) (c := 1) (ls' := fun v => [some (.inl (some 52)), some (.inl (some A)), some (.inl (some B)), some (zi xf), some (zi xm), some (zi xw), some (zi y2656), some (zi xk), some v]) (len := 3) (r := (0, 0, 0, 0)) (by decide +kernel) rfl (fun _ => rfl) (by decide) (by omega) (by omega) (fun y2721 hy2721 => ?_)
            show qX (d + 2) 221 111 [some (.inl (some 52)), some (.inl (some A)), some (.inl (some B)), some (zi xf), some (zi xm), some (zi xw), some (zi y2656), some (zi xk), some (zi y2721)] [] h2656 t _
            refine y_goto (off := (-64)) (pc' := 47) (len := 3) (r := (0, 0, 0, 0)) (by decide +kernel) (by decide +kernel) ?_
            refine y_same (i := .iload 8) (len := 2) (r := (0, 0, 0, 0)) (pc' := 49) (ls' := [some (.inl (some 52)), some (.inl (some A)), some (.inl (some B)), some (zi xf), some (zi xm), some (zi xw), some (zi y2656), some (zi xk), some (zi y2721)]) (st' := [zi y2721]) (by decide +kernel) (fun k q => by cases q) rfl ?_
            refine y_same (i := .iload 5) (len := 2) (r := (0, 0, 0, 0)) (pc' := 51) (ls' := [some (.inl (some 52)), some (.inl (some A)), some (.inl (some B)), some (zi xf), some (zi xm), some (zi xw), some (zi y2656), some (zi xk), some (zi y2721)]) (st' := [zi xw, zi y2721]) (by decide +kernel) (fun k q => by cases q) rfl ?_
            refine y_cF (c := .ge) (off := 63) (len := 3) (r := (0, 0, 0, 0)) (by decide +kernel) (acmpF (c := .ge) (by show _ < _; omega)) ?_
            refine y_same (i := .iload 6) (len := 2) (r := (0, 0, 0, 0)) (pc' := 56) (ls' := [some (.inl (some 52)), some (.inl (some A)), some (.inl (some B)), some (zi xf), some (zi xm), some (zi xw), some (zi y2656), some (zi xk), some (zi y2721)]) (st' := [zi y2656]) (by decide +kernel) (fun k q => by cases q) rfl ?_
            refine y_iT (c := .eq) (off := 58) (pc' := 114) (len := 3) (r := (0, 0, 0, 0)) (by decide +kernel) (acmpT (c := .eq) (by show _ = _; omega)) (by decide +kernel) ?_
            refine y_inc (j := 7) (a := xk) (c := 1) (ls' := fun v => [some (.inl (some 52)), some (.inl (some A)), some (.inl (some B)), some (zi xf), some (zi xm), some (zi xw), some (zi y2656), some v, some (zi y2721)]) (len := 3) (r := (0, 0, 0, 0)) (by decide +kernel) rfl (fun _ => rfl) (by decide) (by omega) (by omega) (fun y2722 hy2722 => ?_)
            show qX (d + 2) 221 117 [some (.inl (some 52)), some (.inl (some A)), some (.inl (some B)), some (zi xf), some (zi xm), some (zi xw), some (zi y2656), some (zi y2722), some (zi y2721)] [] h2656 t _
            refine y_goto (off := (-111)) (pc' := 6) (len := 3) (r := (0, 0, 0, 0)) (by decide +kernel) (by decide +kernel) ?_
            refine y_same (i := .iload 7) (len := 2) (r := (0, 0, 0, 0)) (pc' := 8) (ls' := [some (.inl (some 52)), some (.inl (some A)), some (.inl (some B)), some (zi xf), some (zi xm), some (zi xw), some (zi y2656), some (zi y2722), some (zi y2721)]) (st' := [zi y2722]) (by decide +kernel) (fun k q => by cases q) rfl ?_
            refine y_same (i := .iload 4) (len := 2) (r := (0, 0, 0, 0)) (pc' := 10) (ls' := [some (.inl (some 52)), some (.inl (some A)), some (.inl (some B)), some (zi xf), some (zi xm), some (zi xw), some (zi y2656), some (zi y2722), some (zi y2721)]) (st' := [zi xm, zi y2722]) (by decide +kernel) (fun k q => by cases q) rfl ?_
            rcases Decidable.em (y2722.toInt ≥ xm.toInt) with q2723 | q2723
            ·
              refine y_cT (c := .ge) (off := 110) (pc' := 120) (len := 3) (r := (0, 0, 0, 0)) (by decide +kernel) (acmpT (c := .ge) (by show _ ≤ _; omega)) (by decide +kernel) ?_
              refine y_same (i := .iload 6) (len := 2) (r := (0, 0, 0, 0)) (pc' := 122) (ls' := [some (.inl (some 52)), some (.inl (some A)), some (.inl (some B)), some (zi xf), some (zi xm), some (zi xw), some (zi y2656), some (zi y2722), some (zi y2721)]) (st' := [zi y2656]) (by decide +kernel) (fun k q => by cases q) rfl ?_
              refine y_rI (len := 1) (r := (0, 0, 0, 0)) (nL := 9) (k := 2) (n9 := 6) (hs := []) (by decide +kernel) rfl (zfit_b (by omega) (by omega)).2 ?_
              exact ⟨hg2656, fun k j h1 h2 => (F2656 k j (by omega) (by omega)), Or.inr ⟨by omega, tlR_n kip kiq (tlI_1 (by omega) e2656)⟩⟩
            ·
              refine y_cF (c := .ge) (off := 110) (len := 3) (r := (0, 0, 0, 0)) (by decide +kernel) (acmpF (c := .ge) (by show _ < _; omega)) ?_
              refine y_same (i := .iload 6) (len := 2) (r := (0, 0, 0, 0)) (pc' := 15) (ls' := [some (.inl (some 52)), some (.inl (some A)), some (.inl (some B)), some (zi xf), some (zi xm), some (zi xw), some (zi y2656), some (zi y2722), some (zi y2721)]) (st' := [zi y2656]) (by decide +kernel) (fun k q => by cases q) rfl ?_
              refine y_iT (c := .eq) (off := 105) (pc' := 120) (len := 3) (r := (0, 0, 0, 0)) (by decide +kernel) (acmpT (c := .eq) (by show _ = _; omega)) (by decide +kernel) ?_
              refine y_same (i := .iload 6) (len := 2) (r := (0, 0, 0, 0)) (pc' := 122) (ls' := [some (.inl (some 52)), some (.inl (some A)), some (.inl (some B)), some (zi xf), some (zi xm), some (zi xw), some (zi y2656), some (zi y2722), some (zi y2721)]) (st' := [zi y2656]) (by decide +kernel) (fun k q => by cases q) rfl ?_
              refine y_rI (len := 1) (r := (0, 0, 0, 0)) (nL := 9) (k := 2) (n9 := 6) (hs := []) (by decide +kernel) rfl (zfit_b (by omega) (by omega)).2 ?_
              exact ⟨hg2656, fun k j h1 h2 => (F2656 k j (by omega) (by omega)), Or.inr ⟨by omega, tlR_n kip kiq (tlI_1 (by omega) e2656)⟩⟩
        ·
          exfalso
          omega
theorem m_rwL {d t : Nat} {τ : List Nat} {h : zh} {m : mp2} {A B : Nat} {s s2 : sqT} (nA : 70 < A) (nB : 70 < B) (hl : s.1.length = s2.1.length) {xf xm xw : Int32} (exf : xf.toInt = 24) (exm : xm.toInt = (s.1.length : Int)) (exw : xw.toInt = 4) (Q : QM τ h A s) (Q2 : QM τ h B s2) (H : mpM h m) (hz : mpZ m) : qI (d + 3) 221 [some (.inl (some 52)), some (.inl (some A)), some (.inl (some B)), some (zi xf), some (zi xm), some (zi xw), none, none, none] h t (fun y1 h1 => hG τ h1 ∧ FK h h1 ∧ ((y1.toInt = 1 ∧ ∃ m', tlR s.1 s2.1 m = some m' ∧ mpM h1 m') ∨ (y1.toInt = 0 ∧ tlR s.1 s2.1 m = none))) := by
  refine qI_of ?_
  refine y_ic (c := 1) (len := 1) (r := (0, 0, 0, 0)) (by decide +kernel) (by decide) (fun y2724 hy2724 => ?_)
  refine y_same (i := .istore 6) (len := 2) (r := (0, 0, 0, 0)) (pc' := 3) (ls' := [some (.inl (some 52)), some (.inl (some A)), some (.inl (some B)), some (zi xf), some (zi xm), some (zi xw), some (zi y2724), none, none]) (st' := []) (by decide +kernel) (fun k q => by cases q) rfl ?_
  refine y_ic (c := 0) (len := 1) (r := (0, 0, 0, 0)) (by decide +kernel) (by decide) (fun y2725 hy2725 => ?_)
  refine y_same (i := .istore 7) (len := 2) (r := (0, 0, 0, 0)) (pc' := 6) (ls' := [some (.inl (some 52)), some (.inl (some A)), some (.inl (some B)), some (zi xf), some (zi xm), some (zi xw), some (zi y2724), some (zi y2725), none]) (st' := []) (by decide +kernel) (fun k q => by cases q) rfl ?_
  exact mrw_L nA nB hl exf exm exw (s.1.length + 1) h 0 y2724 y2725 none m Q Q2 H hz (by omega) (by omega) (by omega) (by omega)
theorem mrw_R {d t : Nat} {τ : List Nat} {A B : Nat} {s s2 : sqT} (nA : 70 < A) (nB : 70 < B) (hl : s.2.1.length = s2.2.1.length) {xf xm xw : Int32} (exf : xf.toInt = 80) (exm : xm.toInt = (s.2.1.length : Int)) (exw : xw.toInt = 4) : ∀ (n : Nat) (h : zh) (k : Nat) (xa : Int32) (xk : Int32) (l8 : Option zv) (m : mp2), (QM τ h A s) → (QM τ h B s2) → (mpM h m) → (mpZ m) → (xa.toInt = 1) → (xk.toInt = (k : Int)) → (k ≤ s.2.1.length) → (s.2.1.length < k + n) → qX (d + 2) 221 6 [some (.inl (some 52)), some (.inl (some A)), some (.inl (some B)), some (zi xf), some (zi xm), some (zi xw), some (zi xa), some (zi xk), l8] [] h t (rI (fun y1 h1 => hG τ h1 ∧ FK h h1 ∧ ((y1.toInt = 1 ∧ ∃ m', tlR (s.2.1.drop k) (s2.2.1.drop k) m = some m' ∧ mpM h1 m') ∨ (y1.toInt = 0 ∧ tlR (s.2.1.drop k) (s2.2.1.drop k) m = none))) t) := by
  intro n
  induction n with
  | zero =>
    intro h k xa xk l8 m Q Q2 H hz hxa hxk hk hn
    exfalso
    omega
  | succ n ih =>
    intro h k xa xk l8 m Q Q2 H hz hxa hxk hk hn
    obtain ⟨T, c0, tA, aT, hc0, pT⟩ := Q.2.1
    obtain ⟨T2, c2, tB, aB, hc2, pB⟩ := Q2.2.1
    have lA := qm_lenR Q
    have lB := qm_lenR Q2
    refine y_same (i := .iload 7) (len := 2) (r := (0, 0, 0, 0)) (pc' := 8) (ls' := [some (.inl (some 52)), some (.inl (some A)), some (.inl (some B)), some (zi xf), some (zi xm), some (zi xw), some (zi xa), some (zi xk), l8]) (st' := [zi xk]) (by decide +kernel) (fun k q => by cases q) rfl ?_
    refine y_same (i := .iload 4) (len := 2) (r := (0, 0, 0, 0)) (pc' := 10) (ls' := [some (.inl (some 52)), some (.inl (some A)), some (.inl (some B)), some (zi xf), some (zi xm), some (zi xw), some (zi xa), some (zi xk), l8]) (st' := [zi xm, zi xk]) (by decide +kernel) (fun k q => by cases q) rfl ?_
    rcases Decidable.em (xk.toInt ≥ xm.toInt) with q2726 | q2726
    ·
      refine y_cT (c := .ge) (off := 110) (pc' := 120) (len := 3) (r := (0, 0, 0, 0)) (by decide +kernel) (acmpT (c := .ge) (by show _ ≤ _; omega)) (by decide +kernel) ?_
      refine y_same (i := .iload 6) (len := 2) (r := (0, 0, 0, 0)) (pc' := 122) (ls' := [some (.inl (some 52)), some (.inl (some A)), some (.inl (some B)), some (zi xf), some (zi xm), some (zi xw), some (zi xa), some (zi xk), l8]) (st' := [zi xa]) (by decide +kernel) (fun k q => by cases q) rfl ?_
      refine y_rI (len := 1) (r := (0, 0, 0, 0)) (nL := 9) (k := 2) (n9 := 6) (hs := []) (by decide +kernel) rfl (zfit_b (by omega) (by omega)).2 ?_
      exact ⟨Q.1, fun k j _ _ => rfl, Or.inl ⟨by omega, m, tlR_e (by omega) (by omega), H⟩⟩
    ·
      refine y_cF (c := .ge) (off := 110) (len := 3) (r := (0, 0, 0, 0)) (by decide +kernel) (acmpF (c := .ge) (by show _ < _; omega)) ?_
      refine y_same (i := .iload 6) (len := 2) (r := (0, 0, 0, 0)) (pc' := 15) (ls' := [some (.inl (some 52)), some (.inl (some A)), some (.inl (some B)), some (zi xf), some (zi xm), some (zi xw), some (zi xa), some (zi xk), l8]) (st' := [zi xa]) (by decide +kernel) (fun k q => by cases q) rfl ?_
      refine y_iF (c := .eq) (off := 105) (len := 3) (r := (0, 0, 0, 0)) (by decide +kernel) (acmpF (c := .eq) (by show ¬ (_ = _); omega)) ?_
      obtain ⟨ip, kip⟩ : ∃ i9, s.2.1[k]? = some i9 := ⟨_, List.getElem?_eq_getElem (by omega)⟩
      obtain ⟨iq, kiq⟩ : ∃ i9, s2.2.1[k]? = some i9 := ⟨_, List.getElem?_eq_getElem (by omega)⟩
      have oip := okQ_R Q.2.2.2 kip
      have pip := oip.1
      unfold okV at pip
      obtain ⟨aip, bip, cip, dip, ⟨haip, hbip, hcip, hdip⟩, eaip, ebip, ecip, edip⟩ := qm_itR Q kip
      have oiq := okQ_R Q2.2.2.2 kiq
      have piq := oiq.1
      unfold okV at piq
      obtain ⟨aiq, biq, ciq, diq, ⟨haiq, hbiq, hciq, hdiq⟩, eaiq, ebiq, eciq, ediq⟩ := qm_itR Q2 kiq
      refine y_same (i := .aload_n 1) (len := 1) (r := (0, 0, 0, 0)) (pc' := 19) (ls' := [some (.inl (some 52)), some (.inl (some A)), some (.inl (some B)), some (zi xf), some (zi xm), some (zi xw), some (zi xa), some (zi xk), l8]) (st' := [.inl (some A)]) (by decide +kernel) (fun k q => by cases q) rfl ?_
      refine y_same (i := .iload_n 3) (len := 1) (r := (0, 0, 0, 0)) (pc' := 20) (ls' := [some (.inl (some 52)), some (.inl (some A)), some (.inl (some B)), some (zi xf), some (zi xm), some (zi xw), some (zi xa), some (zi xk), l8]) (st' := [zi xf, .inl (some A)]) (by decide +kernel) (fun k q => by cases q) rfl ?_
      refine y_ic (c := 4) (len := 1) (r := (0, 0, 0, 0)) (by decide +kernel) (by decide) (fun y2727 hy2727 => ?_)
      refine y_same (i := .iload 7) (len := 2) (r := (0, 0, 0, 0)) (pc' := 23) (ls' := [some (.inl (some 52)), some (.inl (some A)), some (.inl (some B)), some (zi xf), some (zi xm), some (zi xw), some (zi xa), some (zi xk), l8]) (st' := [zi xk, zi y2727, zi xf, .inl (some A)]) (by decide +kernel) (fun k q => by cases q) rfl ?_
      refine y_mul (c := 4) (len := 1) (r := (0, 0, 0, 0)) (by decide +kernel) (by omega) (by omega) (by omega) (fun y2728 hy2728 => ?_)
      refine y_add (len := 1) (r := (0, 0, 0, 0)) (by decide +kernel) (by omega) (by omega) (fun y2729 hy2729 => ?_)
      refine y_ial (i := (80 + 4 * k)) (len := 1) (r := (0, 0, 0, 0)) (by decide +kernel) Q.1 tA aT (by omega) haip ?_
      refine y_same (i := .aload_n 2) (len := 1) (r := (0, 0, 0, 0)) (pc' := 27) (ls' := [some (.inl (some 52)), some (.inl (some A)), some (.inl (some B)), some (zi xf), some (zi xm), some (zi xw), some (zi xa), some (zi xk), l8]) (st' := [.inl (some B), zi aip]) (by decide +kernel) (fun k q => by cases q) rfl ?_
      refine y_same (i := .iload_n 3) (len := 1) (r := (0, 0, 0, 0)) (pc' := 28) (ls' := [some (.inl (some 52)), some (.inl (some A)), some (.inl (some B)), some (zi xf), some (zi xm), some (zi xw), some (zi xa), some (zi xk), l8]) (st' := [zi xf, .inl (some B), zi aip]) (by decide +kernel) (fun k q => by cases q) rfl ?_
      refine y_ic (c := 4) (len := 1) (r := (0, 0, 0, 0)) (by decide +kernel) (by decide) (fun y2730 hy2730 => ?_)
      refine y_same (i := .iload 7) (len := 2) (r := (0, 0, 0, 0)) (pc' := 31) (ls' := [some (.inl (some 52)), some (.inl (some A)), some (.inl (some B)), some (zi xf), some (zi xm), some (zi xw), some (zi xa), some (zi xk), l8]) (st' := [zi xk, zi y2730, zi xf, .inl (some B), zi aip]) (by decide +kernel) (fun k q => by cases q) rfl ?_
      refine y_mul (c := 4) (len := 1) (r := (0, 0, 0, 0)) (by decide +kernel) (by omega) (by omega) (by omega) (fun y2731 hy2731 => ?_)
      refine y_add (len := 1) (r := (0, 0, 0, 0)) (by decide +kernel) (by omega) (by omega) (fun y2732 hy2732 => ?_)
      refine y_ial (i := (80 + 4 * k)) (len := 1) (r := (0, 0, 0, 0)) (by decide +kernel) Q.1 tB aB (by omega) haiq ?_
      rcases Decidable.em (aip.toInt ≠ aiq.toInt) with q2733 | q2733
      ·
        refine y_cT (c := .ne) (off := 7) (pc' := 41) (len := 3) (r := (0, 0, 0, 0)) (by decide +kernel) (acmpT (c := .ne) (by show ¬ (_ = _); omega)) (by decide +kernel) ?_
        refine y_ic (c := 0) (len := 1) (r := (0, 0, 0, 0)) (by decide +kernel) (by decide) (fun y2734 hy2734 => ?_)
        refine y_same (i := .istore 6) (len := 2) (r := (0, 0, 0, 0)) (pc' := 44) (ls' := [some (.inl (some 52)), some (.inl (some A)), some (.inl (some B)), some (zi xf), some (zi xm), some (zi xw), some (zi y2734), some (zi xk), l8]) (st' := []) (by decide +kernel) (fun k q => by cases q) rfl ?_
        refine y_ic (c := 1) (len := 1) (r := (0, 0, 0, 0)) (by decide +kernel) (by decide) (fun y2735 hy2735 => ?_)
        refine y_same (i := .istore 8) (len := 2) (r := (0, 0, 0, 0)) (pc' := 47) (ls' := [some (.inl (some 52)), some (.inl (some A)), some (.inl (some B)), some (zi xf), some (zi xm), some (zi xw), some (zi y2734), some (zi xk), some (zi y2735)]) (st' := []) (by decide +kernel) (fun k q => by cases q) rfl ?_
        refine y_same (i := .iload 8) (len := 2) (r := (0, 0, 0, 0)) (pc' := 49) (ls' := [some (.inl (some 52)), some (.inl (some A)), some (.inl (some B)), some (zi xf), some (zi xm), some (zi xw), some (zi y2734), some (zi xk), some (zi y2735)]) (st' := [zi y2735]) (by decide +kernel) (fun k q => by cases q) rfl ?_
        refine y_same (i := .iload 5) (len := 2) (r := (0, 0, 0, 0)) (pc' := 51) (ls' := [some (.inl (some 52)), some (.inl (some A)), some (.inl (some B)), some (zi xf), some (zi xm), some (zi xw), some (zi y2734), some (zi xk), some (zi y2735)]) (st' := [zi xw, zi y2735]) (by decide +kernel) (fun k q => by cases q) rfl ?_
        refine y_cF (c := .ge) (off := 63) (len := 3) (r := (0, 0, 0, 0)) (by decide +kernel) (acmpF (c := .ge) (by show _ < _; omega)) ?_
        refine y_same (i := .iload 6) (len := 2) (r := (0, 0, 0, 0)) (pc' := 56) (ls' := [some (.inl (some 52)), some (.inl (some A)), some (.inl (some B)), some (zi xf), some (zi xm), some (zi xw), some (zi y2734), some (zi xk), some (zi y2735)]) (st' := [zi y2734]) (by decide +kernel) (fun k q => by cases q) rfl ?_
        refine y_iT (c := .eq) (off := 58) (pc' := 114) (len := 3) (r := (0, 0, 0, 0)) (by decide +kernel) (acmpT (c := .eq) (by show _ = _; omega)) (by decide +kernel) ?_
        refine y_inc (j := 7) (a := xk) (c := 1) (ls' := fun v => [some (.inl (some 52)), some (.inl (some A)), some (.inl (some B)), some (zi xf), some (zi xm), some (zi xw), some (zi y2734), some v, some (zi y2735)]) (len := 3) (r := (0, 0, 0, 0)) (by decide +kernel) rfl (fun _ => rfl) (by decide) (by omega) (by omega) (fun y2736 hy2736 => ?_)
        show qX (d + 2) 221 117 [some (.inl (some 52)), some (.inl (some A)), some (.inl (some B)), some (zi xf), some (zi xm), some (zi xw), some (zi y2734), some (zi y2736), some (zi y2735)] [] h t _
        refine y_goto (off := (-111)) (pc' := 6) (len := 3) (r := (0, 0, 0, 0)) (by decide +kernel) (by decide +kernel) ?_
        refine y_same (i := .iload 7) (len := 2) (r := (0, 0, 0, 0)) (pc' := 8) (ls' := [some (.inl (some 52)), some (.inl (some A)), some (.inl (some B)), some (zi xf), some (zi xm), some (zi xw), some (zi y2734), some (zi y2736), some (zi y2735)]) (st' := [zi y2736]) (by decide +kernel) (fun k q => by cases q) rfl ?_
        refine y_same (i := .iload 4) (len := 2) (r := (0, 0, 0, 0)) (pc' := 10) (ls' := [some (.inl (some 52)), some (.inl (some A)), some (.inl (some B)), some (zi xf), some (zi xm), some (zi xw), some (zi y2734), some (zi y2736), some (zi y2735)]) (st' := [zi xm, zi y2736]) (by decide +kernel) (fun k q => by cases q) rfl ?_
        rcases Decidable.em (y2736.toInt ≥ xm.toInt) with q2737 | q2737
        ·
          refine y_cT (c := .ge) (off := 110) (pc' := 120) (len := 3) (r := (0, 0, 0, 0)) (by decide +kernel) (acmpT (c := .ge) (by show _ ≤ _; omega)) (by decide +kernel) ?_
          refine y_same (i := .iload 6) (len := 2) (r := (0, 0, 0, 0)) (pc' := 122) (ls' := [some (.inl (some 52)), some (.inl (some A)), some (.inl (some B)), some (zi xf), some (zi xm), some (zi xw), some (zi y2734), some (zi y2736), some (zi y2735)]) (st' := [zi y2734]) (by decide +kernel) (fun k q => by cases q) rfl ?_
          refine y_rI (len := 1) (r := (0, 0, 0, 0)) (nL := 9) (k := 2) (n9 := 6) (hs := []) (by decide +kernel) rfl (zfit_b (by omega) (by omega)).2 ?_
          exact ⟨Q.1, fun k j h1 h2 => rfl, Or.inr ⟨by omega, tlR_n kip kiq (tlI_k (by omega))⟩⟩
        ·
          refine y_cF (c := .ge) (off := 110) (len := 3) (r := (0, 0, 0, 0)) (by decide +kernel) (acmpF (c := .ge) (by show _ < _; omega)) ?_
          refine y_same (i := .iload 6) (len := 2) (r := (0, 0, 0, 0)) (pc' := 15) (ls' := [some (.inl (some 52)), some (.inl (some A)), some (.inl (some B)), some (zi xf), some (zi xm), some (zi xw), some (zi y2734), some (zi y2736), some (zi y2735)]) (st' := [zi y2734]) (by decide +kernel) (fun k q => by cases q) rfl ?_
          refine y_iT (c := .eq) (off := 105) (pc' := 120) (len := 3) (r := (0, 0, 0, 0)) (by decide +kernel) (acmpT (c := .eq) (by show _ = _; omega)) (by decide +kernel) ?_
          refine y_same (i := .iload 6) (len := 2) (r := (0, 0, 0, 0)) (pc' := 122) (ls' := [some (.inl (some 52)), some (.inl (some A)), some (.inl (some B)), some (zi xf), some (zi xm), some (zi xw), some (zi y2734), some (zi y2736), some (zi y2735)]) (st' := [zi y2734]) (by decide +kernel) (fun k q => by cases q) rfl ?_
          refine y_rI (len := 1) (r := (0, 0, 0, 0)) (nL := 9) (k := 2) (n9 := 6) (hs := []) (by decide +kernel) rfl (zfit_b (by omega) (by omega)).2 ?_
          exact ⟨Q.1, fun k j h1 h2 => rfl, Or.inr ⟨by omega, tlR_n kip kiq (tlI_k (by omega))⟩⟩
      ·
        refine y_cF (c := .ne) (off := 7) (len := 3) (r := (0, 0, 0, 0)) (by decide +kernel) (acmpF (c := .ne) (by show _ = _; omega)) ?_
        refine y_ic (c := 1) (len := 1) (r := (0, 0, 0, 0)) (by decide +kernel) (by decide) (fun y2738 hy2738 => ?_)
        refine y_goto (off := 4) (pc' := 42) (len := 3) (r := (0, 0, 0, 0)) (by decide +kernel) (by decide +kernel) ?_
        refine y_same (i := .istore 6) (len := 2) (r := (0, 0, 0, 0)) (pc' := 44) (ls' := [some (.inl (some 52)), some (.inl (some A)), some (.inl (some B)), some (zi xf), some (zi xm), some (zi xw), some (zi y2738), some (zi xk), l8]) (st' := []) (by decide +kernel) (fun k q => by cases q) rfl ?_
        refine y_ic (c := 1) (len := 1) (r := (0, 0, 0, 0)) (by decide +kernel) (by decide) (fun y2739 hy2739 => ?_)
        refine y_same (i := .istore 8) (len := 2) (r := (0, 0, 0, 0)) (pc' := 47) (ls' := [some (.inl (some 52)), some (.inl (some A)), some (.inl (some B)), some (zi xf), some (zi xm), some (zi xw), some (zi y2738), some (zi xk), some (zi y2739)]) (st' := []) (by decide +kernel) (fun k q => by cases q) rfl ?_
        refine y_same (i := .iload 8) (len := 2) (r := (0, 0, 0, 0)) (pc' := 49) (ls' := [some (.inl (some 52)), some (.inl (some A)), some (.inl (some B)), some (zi xf), some (zi xm), some (zi xw), some (zi y2738), some (zi xk), some (zi y2739)]) (st' := [zi y2739]) (by decide +kernel) (fun k q => by cases q) rfl ?_
        refine y_same (i := .iload 5) (len := 2) (r := (0, 0, 0, 0)) (pc' := 51) (ls' := [some (.inl (some 52)), some (.inl (some A)), some (.inl (some B)), some (zi xf), some (zi xm), some (zi xw), some (zi y2738), some (zi xk), some (zi y2739)]) (st' := [zi xw, zi y2739]) (by decide +kernel) (fun k q => by cases q) rfl ?_
        refine y_cF (c := .ge) (off := 63) (len := 3) (r := (0, 0, 0, 0)) (by decide +kernel) (acmpF (c := .ge) (by show _ < _; omega)) ?_
        refine y_same (i := .iload 6) (len := 2) (r := (0, 0, 0, 0)) (pc' := 56) (ls' := [some (.inl (some 52)), some (.inl (some A)), some (.inl (some B)), some (zi xf), some (zi xm), some (zi xw), some (zi y2738), some (zi xk), some (zi y2739)]) (st' := [zi y2738]) (by decide +kernel) (fun k q => by cases q) rfl ?_
        refine y_iF (c := .eq) (off := 58) (len := 3) (r := (0, 0, 0, 0)) (by decide +kernel) (acmpF (c := .eq) (by show ¬ (_ = _); omega)) ?_
        refine y_same (i := .aload_n 1) (len := 1) (r := (0, 0, 0, 0)) (pc' := 60) (ls' := [some (.inl (some 52)), some (.inl (some A)), some (.inl (some B)), some (zi xf), some (zi xm), some (zi xw), some (zi y2738), some (zi xk), some (zi y2739)]) (st' := [.inl (some A)]) (by decide +kernel) (fun k q => by cases q) rfl ?_
        refine y_same (i := .iload_n 3) (len := 1) (r := (0, 0, 0, 0)) (pc' := 61) (ls' := [some (.inl (some 52)), some (.inl (some A)), some (.inl (some B)), some (zi xf), some (zi xm), some (zi xw), some (zi y2738), some (zi xk), some (zi y2739)]) (st' := [zi xf, .inl (some A)]) (by decide +kernel) (fun k q => by cases q) rfl ?_
        refine y_ic (c := 4) (len := 1) (r := (0, 0, 0, 0)) (by decide +kernel) (by decide) (fun y2740 hy2740 => ?_)
        refine y_same (i := .iload 7) (len := 2) (r := (0, 0, 0, 0)) (pc' := 64) (ls' := [some (.inl (some 52)), some (.inl (some A)), some (.inl (some B)), some (zi xf), some (zi xm), some (zi xw), some (zi y2738), some (zi xk), some (zi y2739)]) (st' := [zi xk, zi y2740, zi xf, .inl (some A)]) (by decide +kernel) (fun k q => by cases q) rfl ?_
        refine y_mul (c := 4) (len := 1) (r := (0, 0, 0, 0)) (by decide +kernel) (by omega) (by omega) (by omega) (fun y2741 hy2741 => ?_)
        refine y_add (len := 1) (r := (0, 0, 0, 0)) (by decide +kernel) (by omega) (by omega) (fun y2742 hy2742 => ?_)
        refine y_ial (i := (80 + 4 * k)) (len := 1) (r := (0, 0, 0, 0)) (by decide +kernel) Q.1 tA aT (by omega) haip ?_
        refine y_same (i := .iload 8) (len := 2) (r := (0, 0, 0, 0)) (pc' := 69) (ls' := [some (.inl (some 52)), some (.inl (some A)), some (.inl (some B)), some (zi xf), some (zi xm), some (zi xw), some (zi y2738), some (zi xk), some (zi y2739)]) (st' := [zi y2739, zi aip]) (by decide +kernel) (fun k q => by cases q) rfl ?_
        refine y_cI (i := .invokestatic 308) (len := 3) (r := (1, 222, 12, 1753)) (nL := 2) (k := 2) (n := 2) (hs := []) (args := [zi aip, zi y2739]) (rest := []) (l0 := [some (zi aip), some (zi y2739)]) (by decide +kernel) (Or.inl ⟨_, rfl⟩) rfl rfl rfl rfl (Nat.le_of_ble_eq_true rfl) rfl rfl (qI_le (by omega) (m_ist (d := 0))) (fun y2743 qy2743 hRy2743 => ?_)
        obtain ⟨rfl, hDy2743⟩ := hRy2743
        rcases hDy2743 with ⟨vy2743, by2743⟩ | ⟨vy2743, by2743⟩
        ·
          refine y_iF (c := .eq) (off := 32) (len := 3) (r := (0, 0, 0, 0)) (by decide +kernel) (acmpF (c := .eq) (by show ¬ (_ = _); omega)) ?_
          refine y_same (i := .aload_n 0) (len := 1) (r := (0, 0, 0, 0)) (pc' := 76) (ls' := [some (.inl (some 52)), some (.inl (some A)), some (.inl (some B)), some (zi xf), some (zi xm), some (zi xw), some (zi y2738), some (zi xk), some (zi y2739)]) (st' := [.inl (some 52)]) (by decide +kernel) (fun k q => by cases q) rfl ?_
          refine y_same (i := .aload_n 1) (len := 1) (r := (0, 0, 0, 0)) (pc' := 77) (ls' := [some (.inl (some 52)), some (.inl (some A)), some (.inl (some B)), some (zi xf), some (zi xm), some (zi xw), some (zi y2738), some (zi xk), some (zi y2739)]) (st' := [.inl (some A), .inl (some 52)]) (by decide +kernel) (fun k q => by cases q) rfl ?_
          refine y_same (i := .iload_n 3) (len := 1) (r := (0, 0, 0, 0)) (pc' := 78) (ls' := [some (.inl (some 52)), some (.inl (some A)), some (.inl (some B)), some (zi xf), some (zi xm), some (zi xw), some (zi y2738), some (zi xk), some (zi y2739)]) (st' := [zi xf, .inl (some A), .inl (some 52)]) (by decide +kernel) (fun k q => by cases q) rfl ?_
          refine y_ic (c := 4) (len := 1) (r := (0, 0, 0, 0)) (by decide +kernel) (by decide) (fun y2744 hy2744 => ?_)
          refine y_same (i := .iload 7) (len := 2) (r := (0, 0, 0, 0)) (pc' := 81) (ls' := [some (.inl (some 52)), some (.inl (some A)), some (.inl (some B)), some (zi xf), some (zi xm), some (zi xw), some (zi y2738), some (zi xk), some (zi y2739)]) (st' := [zi xk, zi y2744, zi xf, .inl (some A), .inl (some 52)]) (by decide +kernel) (fun k q => by cases q) rfl ?_
          refine y_mul (c := 4) (len := 1) (r := (0, 0, 0, 0)) (by decide +kernel) (by omega) (by omega) (by omega) (fun y2745 hy2745 => ?_)
          refine y_add (len := 1) (r := (0, 0, 0, 0)) (by decide +kernel) (by omega) (by omega) (fun y2746 hy2746 => ?_)
          refine y_same (i := .iload 8) (len := 2) (r := (0, 0, 0, 0)) (pc' := 85) (ls' := [some (.inl (some 52)), some (.inl (some A)), some (.inl (some B)), some (zi xf), some (zi xm), some (zi xw), some (zi y2738), some (zi xk), some (zi y2739)]) (st' := [zi y2739, zi y2746, .inl (some A), .inl (some 52)]) (by decide +kernel) (fun k q => by cases q) rfl ?_
          refine y_add (len := 1) (r := (0, 0, 0, 0)) (by decide +kernel) (by omega) (by omega) (fun y2747 hy2747 => ?_)
          refine y_ial (i := ((80 + 4 * k) + 1)) (len := 1) (r := (0, 0, 0, 0)) (by decide +kernel) Q.1 tA aT (by omega) hbip ?_
          refine y_same (i := .aload_n 2) (len := 1) (r := (0, 0, 0, 0)) (pc' := 88) (ls' := [some (.inl (some 52)), some (.inl (some A)), some (.inl (some B)), some (zi xf), some (zi xm), some (zi xw), some (zi y2738), some (zi xk), some (zi y2739)]) (st' := [.inl (some B), zi bip, .inl (some 52)]) (by decide +kernel) (fun k q => by cases q) rfl ?_
          refine y_same (i := .iload_n 3) (len := 1) (r := (0, 0, 0, 0)) (pc' := 89) (ls' := [some (.inl (some 52)), some (.inl (some A)), some (.inl (some B)), some (zi xf), some (zi xm), some (zi xw), some (zi y2738), some (zi xk), some (zi y2739)]) (st' := [zi xf, .inl (some B), zi bip, .inl (some 52)]) (by decide +kernel) (fun k q => by cases q) rfl ?_
          refine y_ic (c := 4) (len := 1) (r := (0, 0, 0, 0)) (by decide +kernel) (by decide) (fun y2748 hy2748 => ?_)
          refine y_same (i := .iload 7) (len := 2) (r := (0, 0, 0, 0)) (pc' := 92) (ls' := [some (.inl (some 52)), some (.inl (some A)), some (.inl (some B)), some (zi xf), some (zi xm), some (zi xw), some (zi y2738), some (zi xk), some (zi y2739)]) (st' := [zi xk, zi y2748, zi xf, .inl (some B), zi bip, .inl (some 52)]) (by decide +kernel) (fun k q => by cases q) rfl ?_
          refine y_mul (c := 4) (len := 1) (r := (0, 0, 0, 0)) (by decide +kernel) (by omega) (by omega) (by omega) (fun y2749 hy2749 => ?_)
          refine y_add (len := 1) (r := (0, 0, 0, 0)) (by decide +kernel) (by omega) (by omega) (fun y2750 hy2750 => ?_)
          refine y_same (i := .iload 8) (len := 2) (r := (0, 0, 0, 0)) (pc' := 96) (ls' := [some (.inl (some 52)), some (.inl (some A)), some (.inl (some B)), some (zi xf), some (zi xm), some (zi xw), some (zi y2738), some (zi xk), some (zi y2739)]) (st' := [zi y2739, zi y2750, .inl (some B), zi bip, .inl (some 52)]) (by decide +kernel) (fun k q => by cases q) rfl ?_
          refine y_add (len := 1) (r := (0, 0, 0, 0)) (by decide +kernel) (by omega) (by omega) (fun y2751 hy2751 => ?_)
          refine y_ial (i := ((80 + 4 * k) + 1)) (len := 1) (r := (0, 0, 0, 0)) (by decide +kernel) Q.1 tB aB (by omega) hbiq ?_
          refine y_cI (i := .invokevirtual 312) (len := 3) (r := (0, 220, 12, 1745)) (nL := 3) (k := 2) (n := 3) (hs := []) (args := [.inl (some 52), zi bip, zi biq]) (rest := []) (l0 := [some (.inl (some 52)), some (zi bip), some (zi biq)]) (by decide +kernel) (Or.inr (Or.inl ⟨_, rfl⟩)) rfl rfl rfl rfl (Nat.le_of_ble_eq_true rfl) (z52 Q.1) rfl (qI_le (by omega) (m_tlsI (d := 0) (x := ip.2.1) (y := iq.2.1) Q.1 H (by omega) (by omega) (by omega) (by omega))) (fun y2752 h2752 hRy2752 => ?_)
          obtain ⟨hg2752, F2752, hDy2752⟩ := hRy2752
          have Q2752_A := QM_up Q hg2752 (fun j => F2752 A j (by omega) (by omega))
          have Q2752_B := QM_up Q2 hg2752 (fun j => F2752 B j (by omega) (by omega))
          rcases hDy2752 with ⟨v2752, m2752, e2752, H2752⟩ | ⟨v2752, e2752⟩
          ·
            have hz2752 : mpZ m2752 := mpZ_O hz e2752
            refine y_goto (off := 5) (pc' := 106) (len := 3) (r := (0, 0, 0, 0)) (by decide +kernel) (by decide +kernel) ?_
            refine y_same (i := .istore 6) (len := 2) (r := (0, 0, 0, 0)) (pc' := 108) (ls' := [some (.inl (some 52)), some (.inl (some A)), some (.inl (some B)), some (zi xf), some (zi xm), some (zi xw), some (zi y2752), some (zi xk), some (zi y2739)]) (st' := []) (by decide +kernel) (fun k q => by cases q) rfl ?_
            refine y_inc (j := 8) (a := y2739) (c := 1) (ls' := fun v => [some (.inl (some 52)), some (.inl (some A)), some (.inl (some B)), some (zi xf), some (zi xm), some (zi xw), some (zi y2752), some (zi xk), some v]) (len := 3) (r := (0, 0, 0, 0)) (by decide +kernel) rfl (fun _ => rfl) (by decide) (by omega) (by omega) (fun y2753 hy2753 => ?_)
            show qX (d + 2) 221 111 [some (.inl (some 52)), some (.inl (some A)), some (.inl (some B)), some (zi xf), some (zi xm), some (zi xw), some (zi y2752), some (zi xk), some (zi y2753)] [] h2752 t _
            refine y_goto (off := (-64)) (pc' := 47) (len := 3) (r := (0, 0, 0, 0)) (by decide +kernel) (by decide +kernel) ?_
            refine y_same (i := .iload 8) (len := 2) (r := (0, 0, 0, 0)) (pc' := 49) (ls' := [some (.inl (some 52)), some (.inl (some A)), some (.inl (some B)), some (zi xf), some (zi xm), some (zi xw), some (zi y2752), some (zi xk), some (zi y2753)]) (st' := [zi y2753]) (by decide +kernel) (fun k q => by cases q) rfl ?_
            refine y_same (i := .iload 5) (len := 2) (r := (0, 0, 0, 0)) (pc' := 51) (ls' := [some (.inl (some 52)), some (.inl (some A)), some (.inl (some B)), some (zi xf), some (zi xm), some (zi xw), some (zi y2752), some (zi xk), some (zi y2753)]) (st' := [zi xw, zi y2753]) (by decide +kernel) (fun k q => by cases q) rfl ?_
            refine y_cF (c := .ge) (off := 63) (len := 3) (r := (0, 0, 0, 0)) (by decide +kernel) (acmpF (c := .ge) (by show _ < _; omega)) ?_
            refine y_same (i := .iload 6) (len := 2) (r := (0, 0, 0, 0)) (pc' := 56) (ls' := [some (.inl (some 52)), some (.inl (some A)), some (.inl (some B)), some (zi xf), some (zi xm), some (zi xw), some (zi y2752), some (zi xk), some (zi y2753)]) (st' := [zi y2752]) (by decide +kernel) (fun k q => by cases q) rfl ?_
            refine y_iF (c := .eq) (off := 58) (len := 3) (r := (0, 0, 0, 0)) (by decide +kernel) (acmpF (c := .eq) (by show ¬ (_ = _); omega)) ?_
            refine y_same (i := .aload_n 1) (len := 1) (r := (0, 0, 0, 0)) (pc' := 60) (ls' := [some (.inl (some 52)), some (.inl (some A)), some (.inl (some B)), some (zi xf), some (zi xm), some (zi xw), some (zi y2752), some (zi xk), some (zi y2753)]) (st' := [.inl (some A)]) (by decide +kernel) (fun k q => by cases q) rfl ?_
            refine y_same (i := .iload_n 3) (len := 1) (r := (0, 0, 0, 0)) (pc' := 61) (ls' := [some (.inl (some 52)), some (.inl (some A)), some (.inl (some B)), some (zi xf), some (zi xm), some (zi xw), some (zi y2752), some (zi xk), some (zi y2753)]) (st' := [zi xf, .inl (some A)]) (by decide +kernel) (fun k q => by cases q) rfl ?_
            refine y_ic (c := 4) (len := 1) (r := (0, 0, 0, 0)) (by decide +kernel) (by decide) (fun y2754 hy2754 => ?_)
            refine y_same (i := .iload 7) (len := 2) (r := (0, 0, 0, 0)) (pc' := 64) (ls' := [some (.inl (some 52)), some (.inl (some A)), some (.inl (some B)), some (zi xf), some (zi xm), some (zi xw), some (zi y2752), some (zi xk), some (zi y2753)]) (st' := [zi xk, zi y2754, zi xf, .inl (some A)]) (by decide +kernel) (fun k q => by cases q) rfl ?_
            refine y_mul (c := 4) (len := 1) (r := (0, 0, 0, 0)) (by decide +kernel) (by omega) (by omega) (by omega) (fun y2755 hy2755 => ?_)
            refine y_add (len := 1) (r := (0, 0, 0, 0)) (by decide +kernel) (by omega) (by omega) (fun y2756 hy2756 => ?_)
            obtain ⟨i2757, ki2757, zi2757⟩ : ∃ i9, s.2.1[k]? = some i9 ∧ i9 = ip := ⟨_, kip, rfl⟩
            obtain ⟨zai2757, zbi2757, zci2757, zdi2757⟩ : i2757.1 = ip.1 ∧ i2757.2.1 = ip.2.1 ∧ i2757.2.2.1 = ip.2.2.1 ∧ i2757.2.2.2 = ip.2.2.2 := by rw [zi2757]; exact ⟨rfl, rfl, rfl, rfl⟩
            have oi2757 := okQ_R Q2752_A.2.2.2 ki2757
            have pi2757 := oi2757.1
            unfold okV at pi2757
            obtain ⟨ai2757, bi2757, ci2757, di2757, ⟨hai2757, hbi2757, hci2757, hdi2757⟩, eai2757, ebi2757, eci2757, edi2757⟩ := qm_itR Q2752_A ki2757
            refine y_ial (i := (80 + 4 * k)) (len := 1) (r := (0, 0, 0, 0)) (by decide +kernel) hg2752 tA aT (by omega) hai2757 ?_
            refine y_same (i := .iload 8) (len := 2) (r := (0, 0, 0, 0)) (pc' := 69) (ls' := [some (.inl (some 52)), some (.inl (some A)), some (.inl (some B)), some (zi xf), some (zi xm), some (zi xw), some (zi y2752), some (zi xk), some (zi y2753)]) (st' := [zi y2753, zi ai2757]) (by decide +kernel) (fun k q => by cases q) rfl ?_
            refine y_cI (i := .invokestatic 308) (len := 3) (r := (1, 222, 12, 1753)) (nL := 2) (k := 2) (n := 2) (hs := []) (args := [zi ai2757, zi y2753]) (rest := []) (l0 := [some (zi ai2757), some (zi y2753)]) (by decide +kernel) (Or.inl ⟨_, rfl⟩) rfl rfl rfl rfl (Nat.le_of_ble_eq_true rfl) rfl rfl (qI_le (by omega) (m_ist (d := 0))) (fun y2758 qy2758 hRy2758 => ?_)
            obtain ⟨rfl, hDy2758⟩ := hRy2758
            rcases hDy2758 with ⟨vy2758, by2758⟩ | ⟨vy2758, by2758⟩
            ·
              refine y_iF (c := .eq) (off := 32) (len := 3) (r := (0, 0, 0, 0)) (by decide +kernel) (acmpF (c := .eq) (by show ¬ (_ = _); omega)) ?_
              refine y_same (i := .aload_n 0) (len := 1) (r := (0, 0, 0, 0)) (pc' := 76) (ls' := [some (.inl (some 52)), some (.inl (some A)), some (.inl (some B)), some (zi xf), some (zi xm), some (zi xw), some (zi y2752), some (zi xk), some (zi y2753)]) (st' := [.inl (some 52)]) (by decide +kernel) (fun k q => by cases q) rfl ?_
              refine y_same (i := .aload_n 1) (len := 1) (r := (0, 0, 0, 0)) (pc' := 77) (ls' := [some (.inl (some 52)), some (.inl (some A)), some (.inl (some B)), some (zi xf), some (zi xm), some (zi xw), some (zi y2752), some (zi xk), some (zi y2753)]) (st' := [.inl (some A), .inl (some 52)]) (by decide +kernel) (fun k q => by cases q) rfl ?_
              refine y_same (i := .iload_n 3) (len := 1) (r := (0, 0, 0, 0)) (pc' := 78) (ls' := [some (.inl (some 52)), some (.inl (some A)), some (.inl (some B)), some (zi xf), some (zi xm), some (zi xw), some (zi y2752), some (zi xk), some (zi y2753)]) (st' := [zi xf, .inl (some A), .inl (some 52)]) (by decide +kernel) (fun k q => by cases q) rfl ?_
              refine y_ic (c := 4) (len := 1) (r := (0, 0, 0, 0)) (by decide +kernel) (by decide) (fun y2759 hy2759 => ?_)
              refine y_same (i := .iload 7) (len := 2) (r := (0, 0, 0, 0)) (pc' := 81) (ls' := [some (.inl (some 52)), some (.inl (some A)), some (.inl (some B)), some (zi xf), some (zi xm), some (zi xw), some (zi y2752), some (zi xk), some (zi y2753)]) (st' := [zi xk, zi y2759, zi xf, .inl (some A), .inl (some 52)]) (by decide +kernel) (fun k q => by cases q) rfl ?_
              refine y_mul (c := 4) (len := 1) (r := (0, 0, 0, 0)) (by decide +kernel) (by omega) (by omega) (by omega) (fun y2760 hy2760 => ?_)
              refine y_add (len := 1) (r := (0, 0, 0, 0)) (by decide +kernel) (by omega) (by omega) (fun y2761 hy2761 => ?_)
              refine y_same (i := .iload 8) (len := 2) (r := (0, 0, 0, 0)) (pc' := 85) (ls' := [some (.inl (some 52)), some (.inl (some A)), some (.inl (some B)), some (zi xf), some (zi xm), some (zi xw), some (zi y2752), some (zi xk), some (zi y2753)]) (st' := [zi y2753, zi y2761, .inl (some A), .inl (some 52)]) (by decide +kernel) (fun k q => by cases q) rfl ?_
              refine y_add (len := 1) (r := (0, 0, 0, 0)) (by decide +kernel) (by omega) (by omega) (fun y2762 hy2762 => ?_)
              refine y_ial (i := ((80 + 4 * k) + 2)) (len := 1) (r := (0, 0, 0, 0)) (by decide +kernel) hg2752 tA aT (by omega) hci2757 ?_
              refine y_same (i := .aload_n 2) (len := 1) (r := (0, 0, 0, 0)) (pc' := 88) (ls' := [some (.inl (some 52)), some (.inl (some A)), some (.inl (some B)), some (zi xf), some (zi xm), some (zi xw), some (zi y2752), some (zi xk), some (zi y2753)]) (st' := [.inl (some B), zi ci2757, .inl (some 52)]) (by decide +kernel) (fun k q => by cases q) rfl ?_
              refine y_same (i := .iload_n 3) (len := 1) (r := (0, 0, 0, 0)) (pc' := 89) (ls' := [some (.inl (some 52)), some (.inl (some A)), some (.inl (some B)), some (zi xf), some (zi xm), some (zi xw), some (zi y2752), some (zi xk), some (zi y2753)]) (st' := [zi xf, .inl (some B), zi ci2757, .inl (some 52)]) (by decide +kernel) (fun k q => by cases q) rfl ?_
              refine y_ic (c := 4) (len := 1) (r := (0, 0, 0, 0)) (by decide +kernel) (by decide) (fun y2763 hy2763 => ?_)
              refine y_same (i := .iload 7) (len := 2) (r := (0, 0, 0, 0)) (pc' := 92) (ls' := [some (.inl (some 52)), some (.inl (some A)), some (.inl (some B)), some (zi xf), some (zi xm), some (zi xw), some (zi y2752), some (zi xk), some (zi y2753)]) (st' := [zi xk, zi y2763, zi xf, .inl (some B), zi ci2757, .inl (some 52)]) (by decide +kernel) (fun k q => by cases q) rfl ?_
              refine y_mul (c := 4) (len := 1) (r := (0, 0, 0, 0)) (by decide +kernel) (by omega) (by omega) (by omega) (fun y2764 hy2764 => ?_)
              refine y_add (len := 1) (r := (0, 0, 0, 0)) (by decide +kernel) (by omega) (by omega) (fun y2765 hy2765 => ?_)
              refine y_same (i := .iload 8) (len := 2) (r := (0, 0, 0, 0)) (pc' := 96) (ls' := [some (.inl (some 52)), some (.inl (some A)), some (.inl (some B)), some (zi xf), some (zi xm), some (zi xw), some (zi y2752), some (zi xk), some (zi y2753)]) (st' := [zi y2753, zi y2765, .inl (some B), zi ci2757, .inl (some 52)]) (by decide +kernel) (fun k q => by cases q) rfl ?_
              refine y_add (len := 1) (r := (0, 0, 0, 0)) (by decide +kernel) (by omega) (by omega) (fun y2766 hy2766 => ?_)
              obtain ⟨i2767, ki2767, zi2767⟩ : ∃ i9, s2.2.1[k]? = some i9 ∧ i9 = iq := ⟨_, kiq, rfl⟩
              obtain ⟨zai2767, zbi2767, zci2767, zdi2767⟩ : i2767.1 = iq.1 ∧ i2767.2.1 = iq.2.1 ∧ i2767.2.2.1 = iq.2.2.1 ∧ i2767.2.2.2 = iq.2.2.2 := by rw [zi2767]; exact ⟨rfl, rfl, rfl, rfl⟩
              have oi2767 := okQ_R Q2752_B.2.2.2 ki2767
              have pi2767 := oi2767.1
              unfold okV at pi2767
              obtain ⟨ai2767, bi2767, ci2767, di2767, ⟨hai2767, hbi2767, hci2767, hdi2767⟩, eai2767, ebi2767, eci2767, edi2767⟩ := qm_itR Q2752_B ki2767
              refine y_ial (i := ((80 + 4 * k) + 2)) (len := 1) (r := (0, 0, 0, 0)) (by decide +kernel) hg2752 tB aB (by omega) hci2767 ?_
              refine y_cI (i := .invokevirtual 312) (len := 3) (r := (0, 220, 12, 1745)) (nL := 3) (k := 2) (n := 3) (hs := []) (args := [.inl (some 52), zi ci2757, zi ci2767]) (rest := []) (l0 := [some (.inl (some 52)), some (zi ci2757), some (zi ci2767)]) (by decide +kernel) (Or.inr (Or.inl ⟨_, rfl⟩)) rfl rfl rfl rfl (Nat.le_of_ble_eq_true rfl) (z52 hg2752) rfl (qI_le (by omega) (m_tlsI (d := 0) (x := ip.2.2.1) (y := iq.2.2.1) hg2752 H2752 (by omega) (by omega) (by omega) (by omega))) (fun y2768 h2768 hRy2768 => ?_)
              obtain ⟨hg2768, F2768, hDy2768⟩ := hRy2768
              have Q2768_A := QM_up Q2752_A hg2768 (fun j => F2768 A j (by omega) (by omega))
              have Q2768_B := QM_up Q2752_B hg2768 (fun j => F2768 B j (by omega) (by omega))
              rcases hDy2768 with ⟨v2768, m2768, e2768, H2768⟩ | ⟨v2768, e2768⟩
              ·
                have hz2768 : mpZ m2768 := mpZ_O hz2752 e2768
                refine y_goto (off := 5) (pc' := 106) (len := 3) (r := (0, 0, 0, 0)) (by decide +kernel) (by decide +kernel) ?_
                refine y_same (i := .istore 6) (len := 2) (r := (0, 0, 0, 0)) (pc' := 108) (ls' := [some (.inl (some 52)), some (.inl (some A)), some (.inl (some B)), some (zi xf), some (zi xm), some (zi xw), some (zi y2768), some (zi xk), some (zi y2753)]) (st' := []) (by decide +kernel) (fun k q => by cases q) rfl ?_
                refine y_inc (j := 8) (a := y2753) (c := 1) (ls' := fun v => [some (.inl (some 52)), some (.inl (some A)), some (.inl (some B)), some (zi xf), some (zi xm), some (zi xw), some (zi y2768), some (zi xk), some v]) (len := 3) (r := (0, 0, 0, 0)) (by decide +kernel) rfl (fun _ => rfl) (by decide) (by omega) (by omega) (fun y2769 hy2769 => ?_)
                show qX (d + 2) 221 111 [some (.inl (some 52)), some (.inl (some A)), some (.inl (some B)), some (zi xf), some (zi xm), some (zi xw), some (zi y2768), some (zi xk), some (zi y2769)] [] h2768 t _
                refine y_goto (off := (-64)) (pc' := 47) (len := 3) (r := (0, 0, 0, 0)) (by decide +kernel) (by decide +kernel) ?_
                refine y_same (i := .iload 8) (len := 2) (r := (0, 0, 0, 0)) (pc' := 49) (ls' := [some (.inl (some 52)), some (.inl (some A)), some (.inl (some B)), some (zi xf), some (zi xm), some (zi xw), some (zi y2768), some (zi xk), some (zi y2769)]) (st' := [zi y2769]) (by decide +kernel) (fun k q => by cases q) rfl ?_
                refine y_same (i := .iload 5) (len := 2) (r := (0, 0, 0, 0)) (pc' := 51) (ls' := [some (.inl (some 52)), some (.inl (some A)), some (.inl (some B)), some (zi xf), some (zi xm), some (zi xw), some (zi y2768), some (zi xk), some (zi y2769)]) (st' := [zi xw, zi y2769]) (by decide +kernel) (fun k q => by cases q) rfl ?_
                refine y_cF (c := .ge) (off := 63) (len := 3) (r := (0, 0, 0, 0)) (by decide +kernel) (acmpF (c := .ge) (by show _ < _; omega)) ?_
                refine y_same (i := .iload 6) (len := 2) (r := (0, 0, 0, 0)) (pc' := 56) (ls' := [some (.inl (some 52)), some (.inl (some A)), some (.inl (some B)), some (zi xf), some (zi xm), some (zi xw), some (zi y2768), some (zi xk), some (zi y2769)]) (st' := [zi y2768]) (by decide +kernel) (fun k q => by cases q) rfl ?_
                refine y_iF (c := .eq) (off := 58) (len := 3) (r := (0, 0, 0, 0)) (by decide +kernel) (acmpF (c := .eq) (by show ¬ (_ = _); omega)) ?_
                refine y_same (i := .aload_n 1) (len := 1) (r := (0, 0, 0, 0)) (pc' := 60) (ls' := [some (.inl (some 52)), some (.inl (some A)), some (.inl (some B)), some (zi xf), some (zi xm), some (zi xw), some (zi y2768), some (zi xk), some (zi y2769)]) (st' := [.inl (some A)]) (by decide +kernel) (fun k q => by cases q) rfl ?_
                refine y_same (i := .iload_n 3) (len := 1) (r := (0, 0, 0, 0)) (pc' := 61) (ls' := [some (.inl (some 52)), some (.inl (some A)), some (.inl (some B)), some (zi xf), some (zi xm), some (zi xw), some (zi y2768), some (zi xk), some (zi y2769)]) (st' := [zi xf, .inl (some A)]) (by decide +kernel) (fun k q => by cases q) rfl ?_
                refine y_ic (c := 4) (len := 1) (r := (0, 0, 0, 0)) (by decide +kernel) (by decide) (fun y2770 hy2770 => ?_)
                refine y_same (i := .iload 7) (len := 2) (r := (0, 0, 0, 0)) (pc' := 64) (ls' := [some (.inl (some 52)), some (.inl (some A)), some (.inl (some B)), some (zi xf), some (zi xm), some (zi xw), some (zi y2768), some (zi xk), some (zi y2769)]) (st' := [zi xk, zi y2770, zi xf, .inl (some A)]) (by decide +kernel) (fun k q => by cases q) rfl ?_
                refine y_mul (c := 4) (len := 1) (r := (0, 0, 0, 0)) (by decide +kernel) (by omega) (by omega) (by omega) (fun y2771 hy2771 => ?_)
                refine y_add (len := 1) (r := (0, 0, 0, 0)) (by decide +kernel) (by omega) (by omega) (fun y2772 hy2772 => ?_)
                obtain ⟨i2773, ki2773, zi2773⟩ : ∃ i9, s.2.1[k]? = some i9 ∧ i9 = ip := ⟨_, kip, rfl⟩
                obtain ⟨zai2773, zbi2773, zci2773, zdi2773⟩ : i2773.1 = ip.1 ∧ i2773.2.1 = ip.2.1 ∧ i2773.2.2.1 = ip.2.2.1 ∧ i2773.2.2.2 = ip.2.2.2 := by rw [zi2773]; exact ⟨rfl, rfl, rfl, rfl⟩
                have oi2773 := okQ_R Q2768_A.2.2.2 ki2773
                have pi2773 := oi2773.1
                unfold okV at pi2773
                obtain ⟨ai2773, bi2773, ci2773, di2773, ⟨hai2773, hbi2773, hci2773, hdi2773⟩, eai2773, ebi2773, eci2773, edi2773⟩ := qm_itR Q2768_A ki2773
                refine y_ial (i := (80 + 4 * k)) (len := 1) (r := (0, 0, 0, 0)) (by decide +kernel) hg2768 tA aT (by omega) hai2773 ?_
                refine y_same (i := .iload 8) (len := 2) (r := (0, 0, 0, 0)) (pc' := 69) (ls' := [some (.inl (some 52)), some (.inl (some A)), some (.inl (some B)), some (zi xf), some (zi xm), some (zi xw), some (zi y2768), some (zi xk), some (zi y2769)]) (st' := [zi y2769, zi ai2773]) (by decide +kernel) (fun k q => by cases q) rfl ?_
                refine y_cI (i := .invokestatic 308) (len := 3) (r := (1, 222, 12, 1753)) (nL := 2) (k := 2) (n := 2) (hs := []) (args := [zi ai2773, zi y2769]) (rest := []) (l0 := [some (zi ai2773), some (zi y2769)]) (by decide +kernel) (Or.inl ⟨_, rfl⟩) rfl rfl rfl rfl (Nat.le_of_ble_eq_true rfl) rfl rfl (qI_le (by omega) (m_ist (d := 0))) (fun y2774 qy2774 hRy2774 => ?_)
                obtain ⟨rfl, hDy2774⟩ := hRy2774
                rcases hDy2774 with ⟨vy2774, by2774⟩ | ⟨vy2774, by2774⟩
                ·
                  refine y_iF (c := .eq) (off := 32) (len := 3) (r := (0, 0, 0, 0)) (by decide +kernel) (acmpF (c := .eq) (by show ¬ (_ = _); omega)) ?_
                  refine y_same (i := .aload_n 0) (len := 1) (r := (0, 0, 0, 0)) (pc' := 76) (ls' := [some (.inl (some 52)), some (.inl (some A)), some (.inl (some B)), some (zi xf), some (zi xm), some (zi xw), some (zi y2768), some (zi xk), some (zi y2769)]) (st' := [.inl (some 52)]) (by decide +kernel) (fun k q => by cases q) rfl ?_
                  refine y_same (i := .aload_n 1) (len := 1) (r := (0, 0, 0, 0)) (pc' := 77) (ls' := [some (.inl (some 52)), some (.inl (some A)), some (.inl (some B)), some (zi xf), some (zi xm), some (zi xw), some (zi y2768), some (zi xk), some (zi y2769)]) (st' := [.inl (some A), .inl (some 52)]) (by decide +kernel) (fun k q => by cases q) rfl ?_
                  refine y_same (i := .iload_n 3) (len := 1) (r := (0, 0, 0, 0)) (pc' := 78) (ls' := [some (.inl (some 52)), some (.inl (some A)), some (.inl (some B)), some (zi xf), some (zi xm), some (zi xw), some (zi y2768), some (zi xk), some (zi y2769)]) (st' := [zi xf, .inl (some A), .inl (some 52)]) (by decide +kernel) (fun k q => by cases q) rfl ?_
                  refine y_ic (c := 4) (len := 1) (r := (0, 0, 0, 0)) (by decide +kernel) (by decide) (fun y2775 hy2775 => ?_)
                  refine y_same (i := .iload 7) (len := 2) (r := (0, 0, 0, 0)) (pc' := 81) (ls' := [some (.inl (some 52)), some (.inl (some A)), some (.inl (some B)), some (zi xf), some (zi xm), some (zi xw), some (zi y2768), some (zi xk), some (zi y2769)]) (st' := [zi xk, zi y2775, zi xf, .inl (some A), .inl (some 52)]) (by decide +kernel) (fun k q => by cases q) rfl ?_
                  refine y_mul (c := 4) (len := 1) (r := (0, 0, 0, 0)) (by decide +kernel) (by omega) (by omega) (by omega) (fun y2776 hy2776 => ?_)
                  refine y_add (len := 1) (r := (0, 0, 0, 0)) (by decide +kernel) (by omega) (by omega) (fun y2777 hy2777 => ?_)
                  refine y_same (i := .iload 8) (len := 2) (r := (0, 0, 0, 0)) (pc' := 85) (ls' := [some (.inl (some 52)), some (.inl (some A)), some (.inl (some B)), some (zi xf), some (zi xm), some (zi xw), some (zi y2768), some (zi xk), some (zi y2769)]) (st' := [zi y2769, zi y2777, .inl (some A), .inl (some 52)]) (by decide +kernel) (fun k q => by cases q) rfl ?_
                  refine y_add (len := 1) (r := (0, 0, 0, 0)) (by decide +kernel) (by omega) (by omega) (fun y2778 hy2778 => ?_)
                  refine y_ial (i := ((80 + 4 * k) + 3)) (len := 1) (r := (0, 0, 0, 0)) (by decide +kernel) hg2768 tA aT (by omega) hdi2773 ?_
                  refine y_same (i := .aload_n 2) (len := 1) (r := (0, 0, 0, 0)) (pc' := 88) (ls' := [some (.inl (some 52)), some (.inl (some A)), some (.inl (some B)), some (zi xf), some (zi xm), some (zi xw), some (zi y2768), some (zi xk), some (zi y2769)]) (st' := [.inl (some B), zi di2773, .inl (some 52)]) (by decide +kernel) (fun k q => by cases q) rfl ?_
                  refine y_same (i := .iload_n 3) (len := 1) (r := (0, 0, 0, 0)) (pc' := 89) (ls' := [some (.inl (some 52)), some (.inl (some A)), some (.inl (some B)), some (zi xf), some (zi xm), some (zi xw), some (zi y2768), some (zi xk), some (zi y2769)]) (st' := [zi xf, .inl (some B), zi di2773, .inl (some 52)]) (by decide +kernel) (fun k q => by cases q) rfl ?_
                  refine y_ic (c := 4) (len := 1) (r := (0, 0, 0, 0)) (by decide +kernel) (by decide) (fun y2779 hy2779 => ?_)
                  refine y_same (i := .iload 7) (len := 2) (r := (0, 0, 0, 0)) (pc' := 92) (ls' := [some (.inl (some 52)), some (.inl (some A)), some (.inl (some B)), some (zi xf), some (zi xm), some (zi xw), some (zi y2768), some (zi xk), some (zi y2769)]) (st' := [zi xk, zi y2779, zi xf, .inl (some B), zi di2773, .inl (some 52)]) (by decide +kernel) (fun k q => by cases q) rfl ?_
                  refine y_mul (c := 4) (len := 1) (r := (0, 0, 0, 0)) (by decide +kernel) (by omega) (by omega) (by omega) (fun y2780 hy2780 => ?_)
                  refine y_add (len := 1) (r := (0, 0, 0, 0)) (by decide +kernel) (by omega) (by omega) (fun y2781 hy2781 => ?_)
                  refine y_same (i := .iload 8) (len := 2) (r := (0, 0, 0, 0)) (pc' := 96) (ls' := [some (.inl (some 52)), some (.inl (some A)), some (.inl (some B)), some (zi xf), some (zi xm), some (zi xw), some (zi y2768), some (zi xk), some (zi y2769)]) (st' := [zi y2769, zi y2781, .inl (some B), zi di2773, .inl (some 52)]) (by decide +kernel) (fun k q => by cases q) rfl ?_
                  refine y_add (len := 1) (r := (0, 0, 0, 0)) (by decide +kernel) (by omega) (by omega) (fun y2782 hy2782 => ?_)
                  obtain ⟨i2783, ki2783, zi2783⟩ : ∃ i9, s2.2.1[k]? = some i9 ∧ i9 = iq := ⟨_, kiq, rfl⟩
                  obtain ⟨zai2783, zbi2783, zci2783, zdi2783⟩ : i2783.1 = iq.1 ∧ i2783.2.1 = iq.2.1 ∧ i2783.2.2.1 = iq.2.2.1 ∧ i2783.2.2.2 = iq.2.2.2 := by rw [zi2783]; exact ⟨rfl, rfl, rfl, rfl⟩
                  have oi2783 := okQ_R Q2768_B.2.2.2 ki2783
                  have pi2783 := oi2783.1
                  unfold okV at pi2783
                  obtain ⟨ai2783, bi2783, ci2783, di2783, ⟨hai2783, hbi2783, hci2783, hdi2783⟩, eai2783, ebi2783, eci2783, edi2783⟩ := qm_itR Q2768_B ki2783
                  refine y_ial (i := ((80 + 4 * k) + 3)) (len := 1) (r := (0, 0, 0, 0)) (by decide +kernel) hg2768 tB aB (by omega) hdi2783 ?_
                  refine y_cI (i := .invokevirtual 312) (len := 3) (r := (0, 220, 12, 1745)) (nL := 3) (k := 2) (n := 3) (hs := []) (args := [.inl (some 52), zi di2773, zi di2783]) (rest := []) (l0 := [some (.inl (some 52)), some (zi di2773), some (zi di2783)]) (by decide +kernel) (Or.inr (Or.inl ⟨_, rfl⟩)) rfl rfl rfl rfl (Nat.le_of_ble_eq_true rfl) (z52 hg2768) rfl (qI_le (by omega) (m_tlsI (d := 0) (x := ip.2.2.2) (y := iq.2.2.2) hg2768 H2768 (by omega) (by omega) (by omega) (by omega))) (fun y2784 h2784 hRy2784 => ?_)
                  obtain ⟨hg2784, F2784, hDy2784⟩ := hRy2784
                  have Q2784_A := QM_up Q2768_A hg2784 (fun j => F2784 A j (by omega) (by omega))
                  have Q2784_B := QM_up Q2768_B hg2784 (fun j => F2784 B j (by omega) (by omega))
                  rcases hDy2784 with ⟨v2784, m2784, e2784, H2784⟩ | ⟨v2784, e2784⟩
                  ·
                    have hz2784 : mpZ m2784 := mpZ_O hz2768 e2784
                    refine y_goto (off := 5) (pc' := 106) (len := 3) (r := (0, 0, 0, 0)) (by decide +kernel) (by decide +kernel) ?_
                    refine y_same (i := .istore 6) (len := 2) (r := (0, 0, 0, 0)) (pc' := 108) (ls' := [some (.inl (some 52)), some (.inl (some A)), some (.inl (some B)), some (zi xf), some (zi xm), some (zi xw), some (zi y2784), some (zi xk), some (zi y2769)]) (st' := []) (by decide +kernel) (fun k q => by cases q) rfl ?_
                    refine y_inc (j := 8) (a := y2769) (c := 1) (ls' := fun v => [some (.inl (some 52)), some (.inl (some A)), some (.inl (some B)), some (zi xf), some (zi xm), some (zi xw), some (zi y2784), some (zi xk), some v]) (len := 3) (r := (0, 0, 0, 0)) (by decide +kernel) rfl (fun _ => rfl) (by decide) (by omega) (by omega) (fun y2785 hy2785 => ?_)
                    show qX (d + 2) 221 111 [some (.inl (some 52)), some (.inl (some A)), some (.inl (some B)), some (zi xf), some (zi xm), some (zi xw), some (zi y2784), some (zi xk), some (zi y2785)] [] h2784 t _
                    refine y_goto (off := (-64)) (pc' := 47) (len := 3) (r := (0, 0, 0, 0)) (by decide +kernel) (by decide +kernel) ?_
                    refine y_same (i := .iload 8) (len := 2) (r := (0, 0, 0, 0)) (pc' := 49) (ls' := [some (.inl (some 52)), some (.inl (some A)), some (.inl (some B)), some (zi xf), some (zi xm), some (zi xw), some (zi y2784), some (zi xk), some (zi y2785)]) (st' := [zi y2785]) (by decide +kernel) (fun k q => by cases q) rfl ?_
                    refine y_same (i := .iload 5) (len := 2) (r := (0, 0, 0, 0)) (pc' := 51) (ls' := [some (.inl (some 52)), some (.inl (some A)), some (.inl (some B)), some (zi xf), some (zi xm), some (zi xw), some (zi y2784), some (zi xk), some (zi y2785)]) (st' := [zi xw, zi y2785]) (by decide +kernel) (fun k q => by cases q) rfl ?_
                    refine y_cT (c := .ge) (off := 63) (pc' := 114) (len := 3) (r := (0, 0, 0, 0)) (by decide +kernel) (acmpT (c := .ge) (by show _ ≤ _; omega)) (by decide +kernel) ?_
                    refine y_inc (j := 7) (a := xk) (c := 1) (ls' := fun v => [some (.inl (some 52)), some (.inl (some A)), some (.inl (some B)), some (zi xf), some (zi xm), some (zi xw), some (zi y2784), some v, some (zi y2785)]) (len := 3) (r := (0, 0, 0, 0)) (by decide +kernel) rfl (fun _ => rfl) (by decide) (by omega) (by omega) (fun y2786 hy2786 => ?_)
                    show qX (d + 2) 221 117 [some (.inl (some 52)), some (.inl (some A)), some (.inl (some B)), some (zi xf), some (zi xm), some (zi xw), some (zi y2784), some (zi y2786), some (zi y2785)] [] h2784 t _
                    refine y_goto (off := (-111)) (pc' := 6) (len := 3) (r := (0, 0, 0, 0)) (by decide +kernel) (by decide +kernel) ?_
                    have tI := tlI_3 (by omega) e2752 e2768 e2784
                    have nx := tlR_s kip kiq tI
                    rw [nx]
                    refine qX_I (ih h2784 (k + 1) y2784 y2786 (some (zi y2785)) m2784 Q2784_A Q2784_B H2784 (mpZ_I hz tI) (by omega) (by omega) (by omega) (by omega)) (fun y h1 hR => ⟨hR.1, FK_tr (fun k j h1 h2 => ((F2784 k j (by omega) (by omega)).trans ((F2768 k j (by omega) (by omega)).trans (F2752 k j (by omega) (by omega))))) hR.2.1, hR.2.2⟩)
                  ·
                    refine y_goto (off := 5) (pc' := 106) (len := 3) (r := (0, 0, 0, 0)) (by decide +kernel) (by decide +kernel) ?_
                    refine y_same (i := .istore 6) (len := 2) (r := (0, 0, 0, 0)) (pc' := 108) (ls' := [some (.inl (some 52)), some (.inl (some A)), some (.inl (some B)), some (zi xf), some (zi xm), some (zi xw), some (zi y2784), some (zi xk), some (zi y2769)]) (st' := []) (by decide +kernel) (fun k q => by cases q) rfl ?_
                    refine y_inc (j := 8) (a := y2769) (c := 1) (ls' := fun v => [some (.inl (some 52)), some (.inl (some A)), some (.inl (some B)), some (zi xf), some (zi xm), some (zi xw), some (zi y2784), some (zi xk), some v]) (len := 3) (r := (0, 0, 0, 0)) (by decide +kernel) rfl (fun _ => rfl) (by decide) (by omega) (by omega) (fun y2787 hy2787 => ?_)
                    show qX (d + 2) 221 111 [some (.inl (some 52)), some (.inl (some A)), some (.inl (some B)), some (zi xf), some (zi xm), some (zi xw), some (zi y2784), some (zi xk), some (zi y2787)] [] h2784 t _
                    refine y_goto (off := (-64)) (pc' := 47) (len := 3) (r := (0, 0, 0, 0)) (by decide +kernel) (by decide +kernel) ?_
                    refine y_same (i := .iload 8) (len := 2) (r := (0, 0, 0, 0)) (pc' := 49) (ls' := [some (.inl (some 52)), some (.inl (some A)), some (.inl (some B)), some (zi xf), some (zi xm), some (zi xw), some (zi y2784), some (zi xk), some (zi y2787)]) (st' := [zi y2787]) (by decide +kernel) (fun k q => by cases q) rfl ?_
                    refine y_same (i := .iload 5) (len := 2) (r := (0, 0, 0, 0)) (pc' := 51) (ls' := [some (.inl (some 52)), some (.inl (some A)), some (.inl (some B)), some (zi xf), some (zi xm), some (zi xw), some (zi y2784), some (zi xk), some (zi y2787)]) (st' := [zi xw, zi y2787]) (by decide +kernel) (fun k q => by cases q) rfl ?_
                    refine y_cT (c := .ge) (off := 63) (pc' := 114) (len := 3) (r := (0, 0, 0, 0)) (by decide +kernel) (acmpT (c := .ge) (by show _ ≤ _; omega)) (by decide +kernel) ?_
                    refine y_inc (j := 7) (a := xk) (c := 1) (ls' := fun v => [some (.inl (some 52)), some (.inl (some A)), some (.inl (some B)), some (zi xf), some (zi xm), some (zi xw), some (zi y2784), some v, some (zi y2787)]) (len := 3) (r := (0, 0, 0, 0)) (by decide +kernel) rfl (fun _ => rfl) (by decide) (by omega) (by omega) (fun y2788 hy2788 => ?_)
                    show qX (d + 2) 221 117 [some (.inl (some 52)), some (.inl (some A)), some (.inl (some B)), some (zi xf), some (zi xm), some (zi xw), some (zi y2784), some (zi y2788), some (zi y2787)] [] h2784 t _
                    refine y_goto (off := (-111)) (pc' := 6) (len := 3) (r := (0, 0, 0, 0)) (by decide +kernel) (by decide +kernel) ?_
                    refine y_same (i := .iload 7) (len := 2) (r := (0, 0, 0, 0)) (pc' := 8) (ls' := [some (.inl (some 52)), some (.inl (some A)), some (.inl (some B)), some (zi xf), some (zi xm), some (zi xw), some (zi y2784), some (zi y2788), some (zi y2787)]) (st' := [zi y2788]) (by decide +kernel) (fun k q => by cases q) rfl ?_
                    refine y_same (i := .iload 4) (len := 2) (r := (0, 0, 0, 0)) (pc' := 10) (ls' := [some (.inl (some 52)), some (.inl (some A)), some (.inl (some B)), some (zi xf), some (zi xm), some (zi xw), some (zi y2784), some (zi y2788), some (zi y2787)]) (st' := [zi xm, zi y2788]) (by decide +kernel) (fun k q => by cases q) rfl ?_
                    rcases Decidable.em (y2788.toInt ≥ xm.toInt) with q2789 | q2789
                    ·
                      refine y_cT (c := .ge) (off := 110) (pc' := 120) (len := 3) (r := (0, 0, 0, 0)) (by decide +kernel) (acmpT (c := .ge) (by show _ ≤ _; omega)) (by decide +kernel) ?_
                      refine y_same (i := .iload 6) (len := 2) (r := (0, 0, 0, 0)) (pc' := 122) (ls' := [some (.inl (some 52)), some (.inl (some A)), some (.inl (some B)), some (zi xf), some (zi xm), some (zi xw), some (zi y2784), some (zi y2788), some (zi y2787)]) (st' := [zi y2784]) (by decide +kernel) (fun k q => by cases q) rfl ?_
                      refine y_rI (len := 1) (r := (0, 0, 0, 0)) (nL := 9) (k := 2) (n9 := 6) (hs := []) (by decide +kernel) rfl (zfit_b (by omega) (by omega)).2 ?_
                      exact ⟨hg2784, fun k j h1 h2 => ((F2784 k j (by omega) (by omega)).trans ((F2768 k j (by omega) (by omega)).trans (F2752 k j (by omega) (by omega)))), Or.inr ⟨by omega, tlR_n kip kiq (tlI_3 (by omega) e2752 e2768 e2784)⟩⟩
                    ·
                      refine y_cF (c := .ge) (off := 110) (len := 3) (r := (0, 0, 0, 0)) (by decide +kernel) (acmpF (c := .ge) (by show _ < _; omega)) ?_
                      refine y_same (i := .iload 6) (len := 2) (r := (0, 0, 0, 0)) (pc' := 15) (ls' := [some (.inl (some 52)), some (.inl (some A)), some (.inl (some B)), some (zi xf), some (zi xm), some (zi xw), some (zi y2784), some (zi y2788), some (zi y2787)]) (st' := [zi y2784]) (by decide +kernel) (fun k q => by cases q) rfl ?_
                      refine y_iT (c := .eq) (off := 105) (pc' := 120) (len := 3) (r := (0, 0, 0, 0)) (by decide +kernel) (acmpT (c := .eq) (by show _ = _; omega)) (by decide +kernel) ?_
                      refine y_same (i := .iload 6) (len := 2) (r := (0, 0, 0, 0)) (pc' := 122) (ls' := [some (.inl (some 52)), some (.inl (some A)), some (.inl (some B)), some (zi xf), some (zi xm), some (zi xw), some (zi y2784), some (zi y2788), some (zi y2787)]) (st' := [zi y2784]) (by decide +kernel) (fun k q => by cases q) rfl ?_
                      refine y_rI (len := 1) (r := (0, 0, 0, 0)) (nL := 9) (k := 2) (n9 := 6) (hs := []) (by decide +kernel) rfl (zfit_b (by omega) (by omega)).2 ?_
                      exact ⟨hg2784, fun k j h1 h2 => ((F2784 k j (by omega) (by omega)).trans ((F2768 k j (by omega) (by omega)).trans (F2752 k j (by omega) (by omega)))), Or.inr ⟨by omega, tlR_n kip kiq (tlI_3 (by omega) e2752 e2768 e2784)⟩⟩
                ·
                  have e0y2774 : tlO ip.2.2.2 iq.2.2.2 m2768 = some m2768 := by rw [show ip.2.2.2 = 0 from oip.2.1 (by omega), show iq.2.2.2 = 0 from oiq.2.1 (by omega)]; exact tlO_0 hz2768
                  refine y_iT (c := .eq) (off := 32) (pc' := 104) (len := 3) (r := (0, 0, 0, 0)) (by decide +kernel) (acmpT (c := .eq) (by show _ = _; omega)) (by decide +kernel) ?_
                  refine y_same (i := .iload 6) (len := 2) (r := (0, 0, 0, 0)) (pc' := 106) (ls' := [some (.inl (some 52)), some (.inl (some A)), some (.inl (some B)), some (zi xf), some (zi xm), some (zi xw), some (zi y2768), some (zi xk), some (zi y2769)]) (st' := [zi y2768]) (by decide +kernel) (fun k q => by cases q) rfl ?_
                  refine y_same (i := .istore 6) (len := 2) (r := (0, 0, 0, 0)) (pc' := 108) (ls' := [some (.inl (some 52)), some (.inl (some A)), some (.inl (some B)), some (zi xf), some (zi xm), some (zi xw), some (zi y2768), some (zi xk), some (zi y2769)]) (st' := []) (by decide +kernel) (fun k q => by cases q) rfl ?_
                  refine y_inc (j := 8) (a := y2769) (c := 1) (ls' := fun v => [some (.inl (some 52)), some (.inl (some A)), some (.inl (some B)), some (zi xf), some (zi xm), some (zi xw), some (zi y2768), some (zi xk), some v]) (len := 3) (r := (0, 0, 0, 0)) (by decide +kernel) rfl (fun _ => rfl) (by decide) (by omega) (by omega) (fun y2790 hy2790 => ?_)
                  show qX (d + 2) 221 111 [some (.inl (some 52)), some (.inl (some A)), some (.inl (some B)), some (zi xf), some (zi xm), some (zi xw), some (zi y2768), some (zi xk), some (zi y2790)] [] h2768 t _
                  refine y_goto (off := (-64)) (pc' := 47) (len := 3) (r := (0, 0, 0, 0)) (by decide +kernel) (by decide +kernel) ?_
                  refine y_same (i := .iload 8) (len := 2) (r := (0, 0, 0, 0)) (pc' := 49) (ls' := [some (.inl (some 52)), some (.inl (some A)), some (.inl (some B)), some (zi xf), some (zi xm), some (zi xw), some (zi y2768), some (zi xk), some (zi y2790)]) (st' := [zi y2790]) (by decide +kernel) (fun k q => by cases q) rfl ?_
                  refine y_same (i := .iload 5) (len := 2) (r := (0, 0, 0, 0)) (pc' := 51) (ls' := [some (.inl (some 52)), some (.inl (some A)), some (.inl (some B)), some (zi xf), some (zi xm), some (zi xw), some (zi y2768), some (zi xk), some (zi y2790)]) (st' := [zi xw, zi y2790]) (by decide +kernel) (fun k q => by cases q) rfl ?_
                  refine y_cT (c := .ge) (off := 63) (pc' := 114) (len := 3) (r := (0, 0, 0, 0)) (by decide +kernel) (acmpT (c := .ge) (by show _ ≤ _; omega)) (by decide +kernel) ?_
                  refine y_inc (j := 7) (a := xk) (c := 1) (ls' := fun v => [some (.inl (some 52)), some (.inl (some A)), some (.inl (some B)), some (zi xf), some (zi xm), some (zi xw), some (zi y2768), some v, some (zi y2790)]) (len := 3) (r := (0, 0, 0, 0)) (by decide +kernel) rfl (fun _ => rfl) (by decide) (by omega) (by omega) (fun y2791 hy2791 => ?_)
                  show qX (d + 2) 221 117 [some (.inl (some 52)), some (.inl (some A)), some (.inl (some B)), some (zi xf), some (zi xm), some (zi xw), some (zi y2768), some (zi y2791), some (zi y2790)] [] h2768 t _
                  refine y_goto (off := (-111)) (pc' := 6) (len := 3) (r := (0, 0, 0, 0)) (by decide +kernel) (by decide +kernel) ?_
                  have tI := tlI_3 (by omega) e2752 e2768 e0y2774
                  have nx := tlR_s kip kiq tI
                  rw [nx]
                  refine qX_I (ih h2768 (k + 1) y2768 y2791 (some (zi y2790)) m2768 Q2768_A Q2768_B H2768 (mpZ_I hz tI) (by omega) (by omega) (by omega) (by omega)) (fun y h1 hR => ⟨hR.1, FK_tr (fun k j h1 h2 => ((F2768 k j (by omega) (by omega)).trans (F2752 k j (by omega) (by omega)))) hR.2.1, hR.2.2⟩)
              ·
                refine y_goto (off := 5) (pc' := 106) (len := 3) (r := (0, 0, 0, 0)) (by decide +kernel) (by decide +kernel) ?_
                refine y_same (i := .istore 6) (len := 2) (r := (0, 0, 0, 0)) (pc' := 108) (ls' := [some (.inl (some 52)), some (.inl (some A)), some (.inl (some B)), some (zi xf), some (zi xm), some (zi xw), some (zi y2768), some (zi xk), some (zi y2753)]) (st' := []) (by decide +kernel) (fun k q => by cases q) rfl ?_
                refine y_inc (j := 8) (a := y2753) (c := 1) (ls' := fun v => [some (.inl (some 52)), some (.inl (some A)), some (.inl (some B)), some (zi xf), some (zi xm), some (zi xw), some (zi y2768), some (zi xk), some v]) (len := 3) (r := (0, 0, 0, 0)) (by decide +kernel) rfl (fun _ => rfl) (by decide) (by omega) (by omega) (fun y2792 hy2792 => ?_)
                show qX (d + 2) 221 111 [some (.inl (some 52)), some (.inl (some A)), some (.inl (some B)), some (zi xf), some (zi xm), some (zi xw), some (zi y2768), some (zi xk), some (zi y2792)] [] h2768 t _
                refine y_goto (off := (-64)) (pc' := 47) (len := 3) (r := (0, 0, 0, 0)) (by decide +kernel) (by decide +kernel) ?_
                refine y_same (i := .iload 8) (len := 2) (r := (0, 0, 0, 0)) (pc' := 49) (ls' := [some (.inl (some 52)), some (.inl (some A)), some (.inl (some B)), some (zi xf), some (zi xm), some (zi xw), some (zi y2768), some (zi xk), some (zi y2792)]) (st' := [zi y2792]) (by decide +kernel) (fun k q => by cases q) rfl ?_
                refine y_same (i := .iload 5) (len := 2) (r := (0, 0, 0, 0)) (pc' := 51) (ls' := [some (.inl (some 52)), some (.inl (some A)), some (.inl (some B)), some (zi xf), some (zi xm), some (zi xw), some (zi y2768), some (zi xk), some (zi y2792)]) (st' := [zi xw, zi y2792]) (by decide +kernel) (fun k q => by cases q) rfl ?_
                refine y_cF (c := .ge) (off := 63) (len := 3) (r := (0, 0, 0, 0)) (by decide +kernel) (acmpF (c := .ge) (by show _ < _; omega)) ?_
                refine y_same (i := .iload 6) (len := 2) (r := (0, 0, 0, 0)) (pc' := 56) (ls' := [some (.inl (some 52)), some (.inl (some A)), some (.inl (some B)), some (zi xf), some (zi xm), some (zi xw), some (zi y2768), some (zi xk), some (zi y2792)]) (st' := [zi y2768]) (by decide +kernel) (fun k q => by cases q) rfl ?_
                refine y_iT (c := .eq) (off := 58) (pc' := 114) (len := 3) (r := (0, 0, 0, 0)) (by decide +kernel) (acmpT (c := .eq) (by show _ = _; omega)) (by decide +kernel) ?_
                refine y_inc (j := 7) (a := xk) (c := 1) (ls' := fun v => [some (.inl (some 52)), some (.inl (some A)), some (.inl (some B)), some (zi xf), some (zi xm), some (zi xw), some (zi y2768), some v, some (zi y2792)]) (len := 3) (r := (0, 0, 0, 0)) (by decide +kernel) rfl (fun _ => rfl) (by decide) (by omega) (by omega) (fun y2793 hy2793 => ?_)
                show qX (d + 2) 221 117 [some (.inl (some 52)), some (.inl (some A)), some (.inl (some B)), some (zi xf), some (zi xm), some (zi xw), some (zi y2768), some (zi y2793), some (zi y2792)] [] h2768 t _
                refine y_goto (off := (-111)) (pc' := 6) (len := 3) (r := (0, 0, 0, 0)) (by decide +kernel) (by decide +kernel) ?_
                refine y_same (i := .iload 7) (len := 2) (r := (0, 0, 0, 0)) (pc' := 8) (ls' := [some (.inl (some 52)), some (.inl (some A)), some (.inl (some B)), some (zi xf), some (zi xm), some (zi xw), some (zi y2768), some (zi y2793), some (zi y2792)]) (st' := [zi y2793]) (by decide +kernel) (fun k q => by cases q) rfl ?_
                refine y_same (i := .iload 4) (len := 2) (r := (0, 0, 0, 0)) (pc' := 10) (ls' := [some (.inl (some 52)), some (.inl (some A)), some (.inl (some B)), some (zi xf), some (zi xm), some (zi xw), some (zi y2768), some (zi y2793), some (zi y2792)]) (st' := [zi xm, zi y2793]) (by decide +kernel) (fun k q => by cases q) rfl ?_
                rcases Decidable.em (y2793.toInt ≥ xm.toInt) with q2794 | q2794
                ·
                  refine y_cT (c := .ge) (off := 110) (pc' := 120) (len := 3) (r := (0, 0, 0, 0)) (by decide +kernel) (acmpT (c := .ge) (by show _ ≤ _; omega)) (by decide +kernel) ?_
                  refine y_same (i := .iload 6) (len := 2) (r := (0, 0, 0, 0)) (pc' := 122) (ls' := [some (.inl (some 52)), some (.inl (some A)), some (.inl (some B)), some (zi xf), some (zi xm), some (zi xw), some (zi y2768), some (zi y2793), some (zi y2792)]) (st' := [zi y2768]) (by decide +kernel) (fun k q => by cases q) rfl ?_
                  refine y_rI (len := 1) (r := (0, 0, 0, 0)) (nL := 9) (k := 2) (n9 := 6) (hs := []) (by decide +kernel) rfl (zfit_b (by omega) (by omega)).2 ?_
                  exact ⟨hg2768, fun k j h1 h2 => ((F2768 k j (by omega) (by omega)).trans (F2752 k j (by omega) (by omega))), Or.inr ⟨by omega, tlR_n kip kiq (tlI_2 (by omega) e2752 e2768)⟩⟩
                ·
                  refine y_cF (c := .ge) (off := 110) (len := 3) (r := (0, 0, 0, 0)) (by decide +kernel) (acmpF (c := .ge) (by show _ < _; omega)) ?_
                  refine y_same (i := .iload 6) (len := 2) (r := (0, 0, 0, 0)) (pc' := 15) (ls' := [some (.inl (some 52)), some (.inl (some A)), some (.inl (some B)), some (zi xf), some (zi xm), some (zi xw), some (zi y2768), some (zi y2793), some (zi y2792)]) (st' := [zi y2768]) (by decide +kernel) (fun k q => by cases q) rfl ?_
                  refine y_iT (c := .eq) (off := 105) (pc' := 120) (len := 3) (r := (0, 0, 0, 0)) (by decide +kernel) (acmpT (c := .eq) (by show _ = _; omega)) (by decide +kernel) ?_
                  refine y_same (i := .iload 6) (len := 2) (r := (0, 0, 0, 0)) (pc' := 122) (ls' := [some (.inl (some 52)), some (.inl (some A)), some (.inl (some B)), some (zi xf), some (zi xm), some (zi xw), some (zi y2768), some (zi y2793), some (zi y2792)]) (st' := [zi y2768]) (by decide +kernel) (fun k q => by cases q) rfl ?_
                  refine y_rI (len := 1) (r := (0, 0, 0, 0)) (nL := 9) (k := 2) (n9 := 6) (hs := []) (by decide +kernel) rfl (zfit_b (by omega) (by omega)).2 ?_
                  exact ⟨hg2768, fun k j h1 h2 => ((F2768 k j (by omega) (by omega)).trans (F2752 k j (by omega) (by omega))), Or.inr ⟨by omega, tlR_n kip kiq (tlI_2 (by omega) e2752 e2768)⟩⟩
            ·
              have e0y2758 : tlO ip.2.2.1 iq.2.2.1 m2752 = some m2752 := by rw [show ip.2.2.1 = 0 from oip.2.2 (by omega), show iq.2.2.1 = 0 from oiq.2.2 (by omega)]; exact tlO_0 hz2752
              refine y_iT (c := .eq) (off := 32) (pc' := 104) (len := 3) (r := (0, 0, 0, 0)) (by decide +kernel) (acmpT (c := .eq) (by show _ = _; omega)) (by decide +kernel) ?_
              refine y_same (i := .iload 6) (len := 2) (r := (0, 0, 0, 0)) (pc' := 106) (ls' := [some (.inl (some 52)), some (.inl (some A)), some (.inl (some B)), some (zi xf), some (zi xm), some (zi xw), some (zi y2752), some (zi xk), some (zi y2753)]) (st' := [zi y2752]) (by decide +kernel) (fun k q => by cases q) rfl ?_
              refine y_same (i := .istore 6) (len := 2) (r := (0, 0, 0, 0)) (pc' := 108) (ls' := [some (.inl (some 52)), some (.inl (some A)), some (.inl (some B)), some (zi xf), some (zi xm), some (zi xw), some (zi y2752), some (zi xk), some (zi y2753)]) (st' := []) (by decide +kernel) (fun k q => by cases q) rfl ?_
              refine y_inc (j := 8) (a := y2753) (c := 1) (ls' := fun v => [some (.inl (some 52)), some (.inl (some A)), some (.inl (some B)), some (zi xf), some (zi xm), some (zi xw), some (zi y2752), some (zi xk), some v]) (len := 3) (r := (0, 0, 0, 0)) (by decide +kernel) rfl (fun _ => rfl) (by decide) (by omega) (by omega) (fun y2795 hy2795 => ?_)
              show qX (d + 2) 221 111 [some (.inl (some 52)), some (.inl (some A)), some (.inl (some B)), some (zi xf), some (zi xm), some (zi xw), some (zi y2752), some (zi xk), some (zi y2795)] [] h2752 t _
              refine y_goto (off := (-64)) (pc' := 47) (len := 3) (r := (0, 0, 0, 0)) (by decide +kernel) (by decide +kernel) ?_
              refine y_same (i := .iload 8) (len := 2) (r := (0, 0, 0, 0)) (pc' := 49) (ls' := [some (.inl (some 52)), some (.inl (some A)), some (.inl (some B)), some (zi xf), some (zi xm), some (zi xw), some (zi y2752), some (zi xk), some (zi y2795)]) (st' := [zi y2795]) (by decide +kernel) (fun k q => by cases q) rfl ?_
              refine y_same (i := .iload 5) (len := 2) (r := (0, 0, 0, 0)) (pc' := 51) (ls' := [some (.inl (some 52)), some (.inl (some A)), some (.inl (some B)), some (zi xf), some (zi xm), some (zi xw), some (zi y2752), some (zi xk), some (zi y2795)]) (st' := [zi xw, zi y2795]) (by decide +kernel) (fun k q => by cases q) rfl ?_
              refine y_cF (c := .ge) (off := 63) (len := 3) (r := (0, 0, 0, 0)) (by decide +kernel) (acmpF (c := .ge) (by show _ < _; omega)) ?_
              refine y_same (i := .iload 6) (len := 2) (r := (0, 0, 0, 0)) (pc' := 56) (ls' := [some (.inl (some 52)), some (.inl (some A)), some (.inl (some B)), some (zi xf), some (zi xm), some (zi xw), some (zi y2752), some (zi xk), some (zi y2795)]) (st' := [zi y2752]) (by decide +kernel) (fun k q => by cases q) rfl ?_
              refine y_iF (c := .eq) (off := 58) (len := 3) (r := (0, 0, 0, 0)) (by decide +kernel) (acmpF (c := .eq) (by show ¬ (_ = _); omega)) ?_
              refine y_same (i := .aload_n 1) (len := 1) (r := (0, 0, 0, 0)) (pc' := 60) (ls' := [some (.inl (some 52)), some (.inl (some A)), some (.inl (some B)), some (zi xf), some (zi xm), some (zi xw), some (zi y2752), some (zi xk), some (zi y2795)]) (st' := [.inl (some A)]) (by decide +kernel) (fun k q => by cases q) rfl ?_
              refine y_same (i := .iload_n 3) (len := 1) (r := (0, 0, 0, 0)) (pc' := 61) (ls' := [some (.inl (some 52)), some (.inl (some A)), some (.inl (some B)), some (zi xf), some (zi xm), some (zi xw), some (zi y2752), some (zi xk), some (zi y2795)]) (st' := [zi xf, .inl (some A)]) (by decide +kernel) (fun k q => by cases q) rfl ?_
              refine y_ic (c := 4) (len := 1) (r := (0, 0, 0, 0)) (by decide +kernel) (by decide) (fun y2796 hy2796 => ?_)
              refine y_same (i := .iload 7) (len := 2) (r := (0, 0, 0, 0)) (pc' := 64) (ls' := [some (.inl (some 52)), some (.inl (some A)), some (.inl (some B)), some (zi xf), some (zi xm), some (zi xw), some (zi y2752), some (zi xk), some (zi y2795)]) (st' := [zi xk, zi y2796, zi xf, .inl (some A)]) (by decide +kernel) (fun k q => by cases q) rfl ?_
              refine y_mul (c := 4) (len := 1) (r := (0, 0, 0, 0)) (by decide +kernel) (by omega) (by omega) (by omega) (fun y2797 hy2797 => ?_)
              refine y_add (len := 1) (r := (0, 0, 0, 0)) (by decide +kernel) (by omega) (by omega) (fun y2798 hy2798 => ?_)
              refine y_ial (i := (80 + 4 * k)) (len := 1) (r := (0, 0, 0, 0)) (by decide +kernel) hg2752 tA aT (by omega) hai2757 ?_
              refine y_same (i := .iload 8) (len := 2) (r := (0, 0, 0, 0)) (pc' := 69) (ls' := [some (.inl (some 52)), some (.inl (some A)), some (.inl (some B)), some (zi xf), some (zi xm), some (zi xw), some (zi y2752), some (zi xk), some (zi y2795)]) (st' := [zi y2795, zi ai2757]) (by decide +kernel) (fun k q => by cases q) rfl ?_
              refine y_cI (i := .invokestatic 308) (len := 3) (r := (1, 222, 12, 1753)) (nL := 2) (k := 2) (n := 2) (hs := []) (args := [zi ai2757, zi y2795]) (rest := []) (l0 := [some (zi ai2757), some (zi y2795)]) (by decide +kernel) (Or.inl ⟨_, rfl⟩) rfl rfl rfl rfl (Nat.le_of_ble_eq_true rfl) rfl rfl (qI_le (by omega) (m_ist (d := 0))) (fun y2799 qy2799 hRy2799 => ?_)
              obtain ⟨rfl, hDy2799⟩ := hRy2799
              rcases hDy2799 with ⟨vy2799, by2799⟩ | ⟨vy2799, by2799⟩
              ·
                refine y_iF (c := .eq) (off := 32) (len := 3) (r := (0, 0, 0, 0)) (by decide +kernel) (acmpF (c := .eq) (by show ¬ (_ = _); omega)) ?_
                refine y_same (i := .aload_n 0) (len := 1) (r := (0, 0, 0, 0)) (pc' := 76) (ls' := [some (.inl (some 52)), some (.inl (some A)), some (.inl (some B)), some (zi xf), some (zi xm), some (zi xw), some (zi y2752), some (zi xk), some (zi y2795)]) (st' := [.inl (some 52)]) (by decide +kernel) (fun k q => by cases q) rfl ?_
                refine y_same (i := .aload_n 1) (len := 1) (r := (0, 0, 0, 0)) (pc' := 77) (ls' := [some (.inl (some 52)), some (.inl (some A)), some (.inl (some B)), some (zi xf), some (zi xm), some (zi xw), some (zi y2752), some (zi xk), some (zi y2795)]) (st' := [.inl (some A), .inl (some 52)]) (by decide +kernel) (fun k q => by cases q) rfl ?_
                refine y_same (i := .iload_n 3) (len := 1) (r := (0, 0, 0, 0)) (pc' := 78) (ls' := [some (.inl (some 52)), some (.inl (some A)), some (.inl (some B)), some (zi xf), some (zi xm), some (zi xw), some (zi y2752), some (zi xk), some (zi y2795)]) (st' := [zi xf, .inl (some A), .inl (some 52)]) (by decide +kernel) (fun k q => by cases q) rfl ?_
                refine y_ic (c := 4) (len := 1) (r := (0, 0, 0, 0)) (by decide +kernel) (by decide) (fun y2800 hy2800 => ?_)
                refine y_same (i := .iload 7) (len := 2) (r := (0, 0, 0, 0)) (pc' := 81) (ls' := [some (.inl (some 52)), some (.inl (some A)), some (.inl (some B)), some (zi xf), some (zi xm), some (zi xw), some (zi y2752), some (zi xk), some (zi y2795)]) (st' := [zi xk, zi y2800, zi xf, .inl (some A), .inl (some 52)]) (by decide +kernel) (fun k q => by cases q) rfl ?_
                refine y_mul (c := 4) (len := 1) (r := (0, 0, 0, 0)) (by decide +kernel) (by omega) (by omega) (by omega) (fun y2801 hy2801 => ?_)
                refine y_add (len := 1) (r := (0, 0, 0, 0)) (by decide +kernel) (by omega) (by omega) (fun y2802 hy2802 => ?_)
                refine y_same (i := .iload 8) (len := 2) (r := (0, 0, 0, 0)) (pc' := 85) (ls' := [some (.inl (some 52)), some (.inl (some A)), some (.inl (some B)), some (zi xf), some (zi xm), some (zi xw), some (zi y2752), some (zi xk), some (zi y2795)]) (st' := [zi y2795, zi y2802, .inl (some A), .inl (some 52)]) (by decide +kernel) (fun k q => by cases q) rfl ?_
                refine y_add (len := 1) (r := (0, 0, 0, 0)) (by decide +kernel) (by omega) (by omega) (fun y2803 hy2803 => ?_)
                refine y_ial (i := ((80 + 4 * k) + 3)) (len := 1) (r := (0, 0, 0, 0)) (by decide +kernel) hg2752 tA aT (by omega) hdi2757 ?_
                refine y_same (i := .aload_n 2) (len := 1) (r := (0, 0, 0, 0)) (pc' := 88) (ls' := [some (.inl (some 52)), some (.inl (some A)), some (.inl (some B)), some (zi xf), some (zi xm), some (zi xw), some (zi y2752), some (zi xk), some (zi y2795)]) (st' := [.inl (some B), zi di2757, .inl (some 52)]) (by decide +kernel) (fun k q => by cases q) rfl ?_
                refine y_same (i := .iload_n 3) (len := 1) (r := (0, 0, 0, 0)) (pc' := 89) (ls' := [some (.inl (some 52)), some (.inl (some A)), some (.inl (some B)), some (zi xf), some (zi xm), some (zi xw), some (zi y2752), some (zi xk), some (zi y2795)]) (st' := [zi xf, .inl (some B), zi di2757, .inl (some 52)]) (by decide +kernel) (fun k q => by cases q) rfl ?_
                refine y_ic (c := 4) (len := 1) (r := (0, 0, 0, 0)) (by decide +kernel) (by decide) (fun y2804 hy2804 => ?_)
                refine y_same (i := .iload 7) (len := 2) (r := (0, 0, 0, 0)) (pc' := 92) (ls' := [some (.inl (some 52)), some (.inl (some A)), some (.inl (some B)), some (zi xf), some (zi xm), some (zi xw), some (zi y2752), some (zi xk), some (zi y2795)]) (st' := [zi xk, zi y2804, zi xf, .inl (some B), zi di2757, .inl (some 52)]) (by decide +kernel) (fun k q => by cases q) rfl ?_
                refine y_mul (c := 4) (len := 1) (r := (0, 0, 0, 0)) (by decide +kernel) (by omega) (by omega) (by omega) (fun y2805 hy2805 => ?_)
                refine y_add (len := 1) (r := (0, 0, 0, 0)) (by decide +kernel) (by omega) (by omega) (fun y2806 hy2806 => ?_)
                refine y_same (i := .iload 8) (len := 2) (r := (0, 0, 0, 0)) (pc' := 96) (ls' := [some (.inl (some 52)), some (.inl (some A)), some (.inl (some B)), some (zi xf), some (zi xm), some (zi xw), some (zi y2752), some (zi xk), some (zi y2795)]) (st' := [zi y2795, zi y2806, .inl (some B), zi di2757, .inl (some 52)]) (by decide +kernel) (fun k q => by cases q) rfl ?_
                refine y_add (len := 1) (r := (0, 0, 0, 0)) (by decide +kernel) (by omega) (by omega) (fun y2807 hy2807 => ?_)
                obtain ⟨i2808, ki2808, zi2808⟩ : ∃ i9, s2.2.1[k]? = some i9 ∧ i9 = iq := ⟨_, kiq, rfl⟩
                obtain ⟨zai2808, zbi2808, zci2808, zdi2808⟩ : i2808.1 = iq.1 ∧ i2808.2.1 = iq.2.1 ∧ i2808.2.2.1 = iq.2.2.1 ∧ i2808.2.2.2 = iq.2.2.2 := by rw [zi2808]; exact ⟨rfl, rfl, rfl, rfl⟩
                have oi2808 := okQ_R Q2752_B.2.2.2 ki2808
                have pi2808 := oi2808.1
                unfold okV at pi2808
                obtain ⟨ai2808, bi2808, ci2808, di2808, ⟨hai2808, hbi2808, hci2808, hdi2808⟩, eai2808, ebi2808, eci2808, edi2808⟩ := qm_itR Q2752_B ki2808
                refine y_ial (i := ((80 + 4 * k) + 3)) (len := 1) (r := (0, 0, 0, 0)) (by decide +kernel) hg2752 tB aB (by omega) hdi2808 ?_
                refine y_cI (i := .invokevirtual 312) (len := 3) (r := (0, 220, 12, 1745)) (nL := 3) (k := 2) (n := 3) (hs := []) (args := [.inl (some 52), zi di2757, zi di2808]) (rest := []) (l0 := [some (.inl (some 52)), some (zi di2757), some (zi di2808)]) (by decide +kernel) (Or.inr (Or.inl ⟨_, rfl⟩)) rfl rfl rfl rfl (Nat.le_of_ble_eq_true rfl) (z52 hg2752) rfl (qI_le (by omega) (m_tlsI (d := 0) (x := ip.2.2.2) (y := iq.2.2.2) hg2752 H2752 (by omega) (by omega) (by omega) (by omega))) (fun y2809 h2809 hRy2809 => ?_)
                obtain ⟨hg2809, F2809, hDy2809⟩ := hRy2809
                have Q2809_A := QM_up Q2752_A hg2809 (fun j => F2809 A j (by omega) (by omega))
                have Q2809_B := QM_up Q2752_B hg2809 (fun j => F2809 B j (by omega) (by omega))
                rcases hDy2809 with ⟨v2809, m2809, e2809, H2809⟩ | ⟨v2809, e2809⟩
                ·
                  have hz2809 : mpZ m2809 := mpZ_O hz2752 e2809
                  refine y_goto (off := 5) (pc' := 106) (len := 3) (r := (0, 0, 0, 0)) (by decide +kernel) (by decide +kernel) ?_
                  refine y_same (i := .istore 6) (len := 2) (r := (0, 0, 0, 0)) (pc' := 108) (ls' := [some (.inl (some 52)), some (.inl (some A)), some (.inl (some B)), some (zi xf), some (zi xm), some (zi xw), some (zi y2809), some (zi xk), some (zi y2795)]) (st' := []) (by decide +kernel) (fun k q => by cases q) rfl ?_
                  refine y_inc (j := 8) (a := y2795) (c := 1) (ls' := fun v => [some (.inl (some 52)), some (.inl (some A)), some (.inl (some B)), some (zi xf), some (zi xm), some (zi xw), some (zi y2809), some (zi xk), some v]) (len := 3) (r := (0, 0, 0, 0)) (by decide +kernel) rfl (fun _ => rfl) (by decide) (by omega) (by omega) (fun y2810 hy2810 => ?_)
                  show qX (d + 2) 221 111 [some (.inl (some 52)), some (.inl (some A)), some (.inl (some B)), some (zi xf), some (zi xm), some (zi xw), some (zi y2809), some (zi xk), some (zi y2810)] [] h2809 t _
                  refine y_goto (off := (-64)) (pc' := 47) (len := 3) (r := (0, 0, 0, 0)) (by decide +kernel) (by decide +kernel) ?_
                  refine y_same (i := .iload 8) (len := 2) (r := (0, 0, 0, 0)) (pc' := 49) (ls' := [some (.inl (some 52)), some (.inl (some A)), some (.inl (some B)), some (zi xf), some (zi xm), some (zi xw), some (zi y2809), some (zi xk), some (zi y2810)]) (st' := [zi y2810]) (by decide +kernel) (fun k q => by cases q) rfl ?_
                  refine y_same (i := .iload 5) (len := 2) (r := (0, 0, 0, 0)) (pc' := 51) (ls' := [some (.inl (some 52)), some (.inl (some A)), some (.inl (some B)), some (zi xf), some (zi xm), some (zi xw), some (zi y2809), some (zi xk), some (zi y2810)]) (st' := [zi xw, zi y2810]) (by decide +kernel) (fun k q => by cases q) rfl ?_
                  refine y_cT (c := .ge) (off := 63) (pc' := 114) (len := 3) (r := (0, 0, 0, 0)) (by decide +kernel) (acmpT (c := .ge) (by show _ ≤ _; omega)) (by decide +kernel) ?_
                  refine y_inc (j := 7) (a := xk) (c := 1) (ls' := fun v => [some (.inl (some 52)), some (.inl (some A)), some (.inl (some B)), some (zi xf), some (zi xm), some (zi xw), some (zi y2809), some v, some (zi y2810)]) (len := 3) (r := (0, 0, 0, 0)) (by decide +kernel) rfl (fun _ => rfl) (by decide) (by omega) (by omega) (fun y2811 hy2811 => ?_)
                  show qX (d + 2) 221 117 [some (.inl (some 52)), some (.inl (some A)), some (.inl (some B)), some (zi xf), some (zi xm), some (zi xw), some (zi y2809), some (zi y2811), some (zi y2810)] [] h2809 t _
                  refine y_goto (off := (-111)) (pc' := 6) (len := 3) (r := (0, 0, 0, 0)) (by decide +kernel) (by decide +kernel) ?_
                  have tI := tlI_3 (by omega) e2752 e0y2758 e2809
                  have nx := tlR_s kip kiq tI
                  rw [nx]
                  refine qX_I (ih h2809 (k + 1) y2809 y2811 (some (zi y2810)) m2809 Q2809_A Q2809_B H2809 (mpZ_I hz tI) (by omega) (by omega) (by omega) (by omega)) (fun y h1 hR => ⟨hR.1, FK_tr (fun k j h1 h2 => ((F2809 k j (by omega) (by omega)).trans (F2752 k j (by omega) (by omega)))) hR.2.1, hR.2.2⟩)
                ·
                  refine y_goto (off := 5) (pc' := 106) (len := 3) (r := (0, 0, 0, 0)) (by decide +kernel) (by decide +kernel) ?_
                  refine y_same (i := .istore 6) (len := 2) (r := (0, 0, 0, 0)) (pc' := 108) (ls' := [some (.inl (some 52)), some (.inl (some A)), some (.inl (some B)), some (zi xf), some (zi xm), some (zi xw), some (zi y2809), some (zi xk), some (zi y2795)]) (st' := []) (by decide +kernel) (fun k q => by cases q) rfl ?_
                  refine y_inc (j := 8) (a := y2795) (c := 1) (ls' := fun v => [some (.inl (some 52)), some (.inl (some A)), some (.inl (some B)), some (zi xf), some (zi xm), some (zi xw), some (zi y2809), some (zi xk), some v]) (len := 3) (r := (0, 0, 0, 0)) (by decide +kernel) rfl (fun _ => rfl) (by decide) (by omega) (by omega) (fun y2812 hy2812 => ?_)
                  show qX (d + 2) 221 111 [some (.inl (some 52)), some (.inl (some A)), some (.inl (some B)), some (zi xf), some (zi xm), some (zi xw), some (zi y2809), some (zi xk), some (zi y2812)] [] h2809 t _
                  refine y_goto (off := (-64)) (pc' := 47) (len := 3) (r := (0, 0, 0, 0)) (by decide +kernel) (by decide +kernel) ?_
                  refine y_same (i := .iload 8) (len := 2) (r := (0, 0, 0, 0)) (pc' := 49) (ls' := [some (.inl (some 52)), some (.inl (some A)), some (.inl (some B)), some (zi xf), some (zi xm), some (zi xw), some (zi y2809), some (zi xk), some (zi y2812)]) (st' := [zi y2812]) (by decide +kernel) (fun k q => by cases q) rfl ?_
                  refine y_same (i := .iload 5) (len := 2) (r := (0, 0, 0, 0)) (pc' := 51) (ls' := [some (.inl (some 52)), some (.inl (some A)), some (.inl (some B)), some (zi xf), some (zi xm), some (zi xw), some (zi y2809), some (zi xk), some (zi y2812)]) (st' := [zi xw, zi y2812]) (by decide +kernel) (fun k q => by cases q) rfl ?_
                  refine y_cT (c := .ge) (off := 63) (pc' := 114) (len := 3) (r := (0, 0, 0, 0)) (by decide +kernel) (acmpT (c := .ge) (by show _ ≤ _; omega)) (by decide +kernel) ?_
                  refine y_inc (j := 7) (a := xk) (c := 1) (ls' := fun v => [some (.inl (some 52)), some (.inl (some A)), some (.inl (some B)), some (zi xf), some (zi xm), some (zi xw), some (zi y2809), some v, some (zi y2812)]) (len := 3) (r := (0, 0, 0, 0)) (by decide +kernel) rfl (fun _ => rfl) (by decide) (by omega) (by omega) (fun y2813 hy2813 => ?_)
                  show qX (d + 2) 221 117 [some (.inl (some 52)), some (.inl (some A)), some (.inl (some B)), some (zi xf), some (zi xm), some (zi xw), some (zi y2809), some (zi y2813), some (zi y2812)] [] h2809 t _
                  refine y_goto (off := (-111)) (pc' := 6) (len := 3) (r := (0, 0, 0, 0)) (by decide +kernel) (by decide +kernel) ?_
                  refine y_same (i := .iload 7) (len := 2) (r := (0, 0, 0, 0)) (pc' := 8) (ls' := [some (.inl (some 52)), some (.inl (some A)), some (.inl (some B)), some (zi xf), some (zi xm), some (zi xw), some (zi y2809), some (zi y2813), some (zi y2812)]) (st' := [zi y2813]) (by decide +kernel) (fun k q => by cases q) rfl ?_
                  refine y_same (i := .iload 4) (len := 2) (r := (0, 0, 0, 0)) (pc' := 10) (ls' := [some (.inl (some 52)), some (.inl (some A)), some (.inl (some B)), some (zi xf), some (zi xm), some (zi xw), some (zi y2809), some (zi y2813), some (zi y2812)]) (st' := [zi xm, zi y2813]) (by decide +kernel) (fun k q => by cases q) rfl ?_
                  rcases Decidable.em (y2813.toInt ≥ xm.toInt) with q2814 | q2814
                  ·
                    refine y_cT (c := .ge) (off := 110) (pc' := 120) (len := 3) (r := (0, 0, 0, 0)) (by decide +kernel) (acmpT (c := .ge) (by show _ ≤ _; omega)) (by decide +kernel) ?_
                    refine y_same (i := .iload 6) (len := 2) (r := (0, 0, 0, 0)) (pc' := 122) (ls' := [some (.inl (some 52)), some (.inl (some A)), some (.inl (some B)), some (zi xf), some (zi xm), some (zi xw), some (zi y2809), some (zi y2813), some (zi y2812)]) (st' := [zi y2809]) (by decide +kernel) (fun k q => by cases q) rfl ?_
                    refine y_rI (len := 1) (r := (0, 0, 0, 0)) (nL := 9) (k := 2) (n9 := 6) (hs := []) (by decide +kernel) rfl (zfit_b (by omega) (by omega)).2 ?_
                    exact ⟨hg2809, fun k j h1 h2 => ((F2809 k j (by omega) (by omega)).trans (F2752 k j (by omega) (by omega))), Or.inr ⟨by omega, tlR_n kip kiq (tlI_3 (by omega) e2752 e0y2758 e2809)⟩⟩
                  ·
                    refine y_cF (c := .ge) (off := 110) (len := 3) (r := (0, 0, 0, 0)) (by decide +kernel) (acmpF (c := .ge) (by show _ < _; omega)) ?_
                    refine y_same (i := .iload 6) (len := 2) (r := (0, 0, 0, 0)) (pc' := 15) (ls' := [some (.inl (some 52)), some (.inl (some A)), some (.inl (some B)), some (zi xf), some (zi xm), some (zi xw), some (zi y2809), some (zi y2813), some (zi y2812)]) (st' := [zi y2809]) (by decide +kernel) (fun k q => by cases q) rfl ?_
                    refine y_iT (c := .eq) (off := 105) (pc' := 120) (len := 3) (r := (0, 0, 0, 0)) (by decide +kernel) (acmpT (c := .eq) (by show _ = _; omega)) (by decide +kernel) ?_
                    refine y_same (i := .iload 6) (len := 2) (r := (0, 0, 0, 0)) (pc' := 122) (ls' := [some (.inl (some 52)), some (.inl (some A)), some (.inl (some B)), some (zi xf), some (zi xm), some (zi xw), some (zi y2809), some (zi y2813), some (zi y2812)]) (st' := [zi y2809]) (by decide +kernel) (fun k q => by cases q) rfl ?_
                    refine y_rI (len := 1) (r := (0, 0, 0, 0)) (nL := 9) (k := 2) (n9 := 6) (hs := []) (by decide +kernel) rfl (zfit_b (by omega) (by omega)).2 ?_
                    exact ⟨hg2809, fun k j h1 h2 => ((F2809 k j (by omega) (by omega)).trans (F2752 k j (by omega) (by omega))), Or.inr ⟨by omega, tlR_n kip kiq (tlI_3 (by omega) e2752 e0y2758 e2809)⟩⟩
              ·
                have e0y2799 : tlO ip.2.2.2 iq.2.2.2 m2752 = some m2752 := by rw [show ip.2.2.2 = 0 from oip.2.1 (by omega), show iq.2.2.2 = 0 from oiq.2.1 (by omega)]; exact tlO_0 hz2752
                refine y_iT (c := .eq) (off := 32) (pc' := 104) (len := 3) (r := (0, 0, 0, 0)) (by decide +kernel) (acmpT (c := .eq) (by show _ = _; omega)) (by decide +kernel) ?_
                refine y_same (i := .iload 6) (len := 2) (r := (0, 0, 0, 0)) (pc' := 106) (ls' := [some (.inl (some 52)), some (.inl (some A)), some (.inl (some B)), some (zi xf), some (zi xm), some (zi xw), some (zi y2752), some (zi xk), some (zi y2795)]) (st' := [zi y2752]) (by decide +kernel) (fun k q => by cases q) rfl ?_
                refine y_same (i := .istore 6) (len := 2) (r := (0, 0, 0, 0)) (pc' := 108) (ls' := [some (.inl (some 52)), some (.inl (some A)), some (.inl (some B)), some (zi xf), some (zi xm), some (zi xw), some (zi y2752), some (zi xk), some (zi y2795)]) (st' := []) (by decide +kernel) (fun k q => by cases q) rfl ?_
                refine y_inc (j := 8) (a := y2795) (c := 1) (ls' := fun v => [some (.inl (some 52)), some (.inl (some A)), some (.inl (some B)), some (zi xf), some (zi xm), some (zi xw), some (zi y2752), some (zi xk), some v]) (len := 3) (r := (0, 0, 0, 0)) (by decide +kernel) rfl (fun _ => rfl) (by decide) (by omega) (by omega) (fun y2815 hy2815 => ?_)
                show qX (d + 2) 221 111 [some (.inl (some 52)), some (.inl (some A)), some (.inl (some B)), some (zi xf), some (zi xm), some (zi xw), some (zi y2752), some (zi xk), some (zi y2815)] [] h2752 t _
                refine y_goto (off := (-64)) (pc' := 47) (len := 3) (r := (0, 0, 0, 0)) (by decide +kernel) (by decide +kernel) ?_
                refine y_same (i := .iload 8) (len := 2) (r := (0, 0, 0, 0)) (pc' := 49) (ls' := [some (.inl (some 52)), some (.inl (some A)), some (.inl (some B)), some (zi xf), some (zi xm), some (zi xw), some (zi y2752), some (zi xk), some (zi y2815)]) (st' := [zi y2815]) (by decide +kernel) (fun k q => by cases q) rfl ?_
                refine y_same (i := .iload 5) (len := 2) (r := (0, 0, 0, 0)) (pc' := 51) (ls' := [some (.inl (some 52)), some (.inl (some A)), some (.inl (some B)), some (zi xf), some (zi xm), some (zi xw), some (zi y2752), some (zi xk), some (zi y2815)]) (st' := [zi xw, zi y2815]) (by decide +kernel) (fun k q => by cases q) rfl ?_
                refine y_cT (c := .ge) (off := 63) (pc' := 114) (len := 3) (r := (0, 0, 0, 0)) (by decide +kernel) (acmpT (c := .ge) (by show _ ≤ _; omega)) (by decide +kernel) ?_
                refine y_inc (j := 7) (a := xk) (c := 1) (ls' := fun v => [some (.inl (some 52)), some (.inl (some A)), some (.inl (some B)), some (zi xf), some (zi xm), some (zi xw), some (zi y2752), some v, some (zi y2815)]) (len := 3) (r := (0, 0, 0, 0)) (by decide +kernel) rfl (fun _ => rfl) (by decide) (by omega) (by omega) (fun y2816 hy2816 => ?_)
                show qX (d + 2) 221 117 [some (.inl (some 52)), some (.inl (some A)), some (.inl (some B)), some (zi xf), some (zi xm), some (zi xw), some (zi y2752), some (zi y2816), some (zi y2815)] [] h2752 t _
                refine y_goto (off := (-111)) (pc' := 6) (len := 3) (r := (0, 0, 0, 0)) (by decide +kernel) (by decide +kernel) ?_
                have tI := tlI_3 (by omega) e2752 e0y2758 e0y2799
                have nx := tlR_s kip kiq tI
                rw [nx]
                refine qX_I (ih h2752 (k + 1) y2752 y2816 (some (zi y2815)) m2752 Q2752_A Q2752_B H2752 (mpZ_I hz tI) (by omega) (by omega) (by omega) (by omega)) (fun y h1 hR => ⟨hR.1, FK_tr (fun k j h1 h2 => (F2752 k j (by omega) (by omega))) hR.2.1, hR.2.2⟩)
          ·
            refine y_goto (off := 5) (pc' := 106) (len := 3) (r := (0, 0, 0, 0)) (by decide +kernel) (by decide +kernel) ?_
            refine y_same (i := .istore 6) (len := 2) (r := (0, 0, 0, 0)) (pc' := 108) (ls' := [some (.inl (some 52)), some (.inl (some A)), some (.inl (some B)), some (zi xf), some (zi xm), some (zi xw), some (zi y2752), some (zi xk), some (zi y2739)]) (st' := []) (by decide +kernel) (fun k q => by cases q) rfl ?_
            refine y_inc (j := 8) (a := y2739) (c := 1) (ls' := fun v => [some (.inl (some 52)), some (.inl (some A)), some (.inl (some B)), some (zi xf), some (zi xm), some (zi xw), some (zi y2752), some (zi xk), some v]) (len := 3) (r := (0, 0, 0, 0)) (by decide +kernel) rfl (fun _ => rfl) (by decide) (by omega) (by omega) (fun y2817 hy2817 => ?_)
            show qX (d + 2) 221 111 [some (.inl (some 52)), some (.inl (some A)), some (.inl (some B)), some (zi xf), some (zi xm), some (zi xw), some (zi y2752), some (zi xk), some (zi y2817)] [] h2752 t _
            refine y_goto (off := (-64)) (pc' := 47) (len := 3) (r := (0, 0, 0, 0)) (by decide +kernel) (by decide +kernel) ?_
            refine y_same (i := .iload 8) (len := 2) (r := (0, 0, 0, 0)) (pc' := 49) (ls' := [some (.inl (some 52)), some (.inl (some A)), some (.inl (some B)), some (zi xf), some (zi xm), some (zi xw), some (zi y2752), some (zi xk), some (zi y2817)]) (st' := [zi y2817]) (by decide +kernel) (fun k q => by cases q) rfl ?_
            refine y_same (i := .iload 5) (len := 2) (r := (0, 0, 0, 0)) (pc' := 51) (ls' := [some (.inl (some 52)), some (.inl (some A)), some (.inl (some B)), some (zi xf), some (zi xm), some (zi xw), some (zi y2752), some (zi xk), some (zi y2817)]) (st' := [zi xw, zi y2817]) (by decide +kernel) (fun k q => by cases q) rfl ?_
            refine y_cF (c := .ge) (off := 63) (len := 3) (r := (0, 0, 0, 0)) (by decide +kernel) (acmpF (c := .ge) (by show _ < _; omega)) ?_
            refine y_same (i := .iload 6) (len := 2) (r := (0, 0, 0, 0)) (pc' := 56) (ls' := [some (.inl (some 52)), some (.inl (some A)), some (.inl (some B)), some (zi xf), some (zi xm), some (zi xw), some (zi y2752), some (zi xk), some (zi y2817)]) (st' := [zi y2752]) (by decide +kernel) (fun k q => by cases q) rfl ?_
            refine y_iT (c := .eq) (off := 58) (pc' := 114) (len := 3) (r := (0, 0, 0, 0)) (by decide +kernel) (acmpT (c := .eq) (by show _ = _; omega)) (by decide +kernel) ?_
            refine y_inc (j := 7) (a := xk) (c := 1) (ls' := fun v => [some (.inl (some 52)), some (.inl (some A)), some (.inl (some B)), some (zi xf), some (zi xm), some (zi xw), some (zi y2752), some v, some (zi y2817)]) (len := 3) (r := (0, 0, 0, 0)) (by decide +kernel) rfl (fun _ => rfl) (by decide) (by omega) (by omega) (fun y2818 hy2818 => ?_)
            show qX (d + 2) 221 117 [some (.inl (some 52)), some (.inl (some A)), some (.inl (some B)), some (zi xf), some (zi xm), some (zi xw), some (zi y2752), some (zi y2818), some (zi y2817)] [] h2752 t _
            refine y_goto (off := (-111)) (pc' := 6) (len := 3) (r := (0, 0, 0, 0)) (by decide +kernel) (by decide +kernel) ?_
            refine y_same (i := .iload 7) (len := 2) (r := (0, 0, 0, 0)) (pc' := 8) (ls' := [some (.inl (some 52)), some (.inl (some A)), some (.inl (some B)), some (zi xf), some (zi xm), some (zi xw), some (zi y2752), some (zi y2818), some (zi y2817)]) (st' := [zi y2818]) (by decide +kernel) (fun k q => by cases q) rfl ?_
            refine y_same (i := .iload 4) (len := 2) (r := (0, 0, 0, 0)) (pc' := 10) (ls' := [some (.inl (some 52)), some (.inl (some A)), some (.inl (some B)), some (zi xf), some (zi xm), some (zi xw), some (zi y2752), some (zi y2818), some (zi y2817)]) (st' := [zi xm, zi y2818]) (by decide +kernel) (fun k q => by cases q) rfl ?_
            rcases Decidable.em (y2818.toInt ≥ xm.toInt) with q2819 | q2819
            ·
              refine y_cT (c := .ge) (off := 110) (pc' := 120) (len := 3) (r := (0, 0, 0, 0)) (by decide +kernel) (acmpT (c := .ge) (by show _ ≤ _; omega)) (by decide +kernel) ?_
              refine y_same (i := .iload 6) (len := 2) (r := (0, 0, 0, 0)) (pc' := 122) (ls' := [some (.inl (some 52)), some (.inl (some A)), some (.inl (some B)), some (zi xf), some (zi xm), some (zi xw), some (zi y2752), some (zi y2818), some (zi y2817)]) (st' := [zi y2752]) (by decide +kernel) (fun k q => by cases q) rfl ?_
              refine y_rI (len := 1) (r := (0, 0, 0, 0)) (nL := 9) (k := 2) (n9 := 6) (hs := []) (by decide +kernel) rfl (zfit_b (by omega) (by omega)).2 ?_
              exact ⟨hg2752, fun k j h1 h2 => (F2752 k j (by omega) (by omega)), Or.inr ⟨by omega, tlR_n kip kiq (tlI_1 (by omega) e2752)⟩⟩
            ·
              refine y_cF (c := .ge) (off := 110) (len := 3) (r := (0, 0, 0, 0)) (by decide +kernel) (acmpF (c := .ge) (by show _ < _; omega)) ?_
              refine y_same (i := .iload 6) (len := 2) (r := (0, 0, 0, 0)) (pc' := 15) (ls' := [some (.inl (some 52)), some (.inl (some A)), some (.inl (some B)), some (zi xf), some (zi xm), some (zi xw), some (zi y2752), some (zi y2818), some (zi y2817)]) (st' := [zi y2752]) (by decide +kernel) (fun k q => by cases q) rfl ?_
              refine y_iT (c := .eq) (off := 105) (pc' := 120) (len := 3) (r := (0, 0, 0, 0)) (by decide +kernel) (acmpT (c := .eq) (by show _ = _; omega)) (by decide +kernel) ?_
              refine y_same (i := .iload 6) (len := 2) (r := (0, 0, 0, 0)) (pc' := 122) (ls' := [some (.inl (some 52)), some (.inl (some A)), some (.inl (some B)), some (zi xf), some (zi xm), some (zi xw), some (zi y2752), some (zi y2818), some (zi y2817)]) (st' := [zi y2752]) (by decide +kernel) (fun k q => by cases q) rfl ?_
              refine y_rI (len := 1) (r := (0, 0, 0, 0)) (nL := 9) (k := 2) (n9 := 6) (hs := []) (by decide +kernel) rfl (zfit_b (by omega) (by omega)).2 ?_
              exact ⟨hg2752, fun k j h1 h2 => (F2752 k j (by omega) (by omega)), Or.inr ⟨by omega, tlR_n kip kiq (tlI_1 (by omega) e2752)⟩⟩
        ·
          exfalso
          omega
theorem m_rwR {d t : Nat} {τ : List Nat} {h : zh} {m : mp2} {A B : Nat} {s s2 : sqT} (nA : 70 < A) (nB : 70 < B) (hl : s.2.1.length = s2.2.1.length) {xf xm xw : Int32} (exf : xf.toInt = 80) (exm : xm.toInt = (s.2.1.length : Int)) (exw : xw.toInt = 4) (Q : QM τ h A s) (Q2 : QM τ h B s2) (H : mpM h m) (hz : mpZ m) : qI (d + 3) 221 [some (.inl (some 52)), some (.inl (some A)), some (.inl (some B)), some (zi xf), some (zi xm), some (zi xw), none, none, none] h t (fun y1 h1 => hG τ h1 ∧ FK h h1 ∧ ((y1.toInt = 1 ∧ ∃ m', tlR s.2.1 s2.2.1 m = some m' ∧ mpM h1 m') ∨ (y1.toInt = 0 ∧ tlR s.2.1 s2.2.1 m = none))) := by
  refine qI_of ?_
  refine y_ic (c := 1) (len := 1) (r := (0, 0, 0, 0)) (by decide +kernel) (by decide) (fun y2820 hy2820 => ?_)
  refine y_same (i := .istore 6) (len := 2) (r := (0, 0, 0, 0)) (pc' := 3) (ls' := [some (.inl (some 52)), some (.inl (some A)), some (.inl (some B)), some (zi xf), some (zi xm), some (zi xw), some (zi y2820), none, none]) (st' := []) (by decide +kernel) (fun k q => by cases q) rfl ?_
  refine y_ic (c := 0) (len := 1) (r := (0, 0, 0, 0)) (by decide +kernel) (by decide) (fun y2821 hy2821 => ?_)
  refine y_same (i := .istore 7) (len := 2) (r := (0, 0, 0, 0)) (pc' := 6) (ls' := [some (.inl (some 52)), some (.inl (some A)), some (.inl (some B)), some (zi xf), some (zi xm), some (zi xw), some (zi y2820), some (zi y2821), none]) (st' := []) (by decide +kernel) (fun k q => by cases q) rfl ?_
  exact mrw_R nA nB hl exf exm exw (s.2.1.length + 1) h 0 y2820 y2821 none m Q Q2 H hz (by omega) (by omega) (by omega) (by omega)
theorem mcw_l {d t : Nat} {τ : List Nat} {A B : Nat} {s s2 : sqT} (nA : 70 < A) (nB : 70 < B) (hl : s.2.2.1.length = s2.2.2.1.length) : ∀ (n : Nat) (h : zh) (k : Nat) (xa : Int32) (xk : Int32) (m : mp2), (QM τ h A s) → (QM τ h B s2) → (mpM h m) → (mpZ m) → (xa.toInt = 1) → (xk.toInt = (k : Int)) → (k ≤ s.2.2.1.length) → (s.2.2.1.length < k + n) → qX (d + 2) 223 5 [some (.inl (some 52)), some (.inl (some A)), some (.inl (some B)), some (zi xa), some (zi xk)] [] h t (rI (fun y1 h1 => hG τ h1 ∧ FK h h1 ∧ ((y1.toInt = 1 ∧ ∃ m', tlR (s.2.2.1.drop k) (s2.2.2.1.drop k) m = some m' ∧ mpM h1 m') ∨ (y1.toInt = 0 ∧ tlR (s.2.2.1.drop k) (s2.2.2.1.drop k) m = none))) t) := by
  intro n
  induction n with
  | zero =>
    intro h k xa xk m Q Q2 H hz hxa hxk hk hn
    exfalso
    omega
  | succ n ih =>
    intro h k xa xk m Q Q2 H hz hxa hxk hk hn
    obtain ⟨T, c0, tA, aT, hc0, pT⟩ := Q.2.1
    obtain ⟨T2, c2, tB, aB, hc2, pB⟩ := Q2.2.1
    have lA := qm_lenC Q
    have lB := qm_lenC Q2
    refine y_same (i := .iload 4) (len := 2) (r := (0, 0, 0, 0)) (pc' := 7) (ls' := [some (.inl (some 52)), some (.inl (some A)), some (.inl (some B)), some (zi xa), some (zi xk)]) (st' := [zi xk]) (by decide +kernel) (fun k q => by cases q) rfl ?_
    refine y_same (i := .aload_n 1) (len := 1) (r := (0, 0, 0, 0)) (pc' := 8) (ls' := [some (.inl (some 52)), some (.inl (some A)), some (.inl (some B)), some (zi xa), some (zi xk)]) (st' := [.inl (some A), zi xk]) (by decide +kernel) (fun k q => by cases q) rfl ?_
    refine y_ic (c := 2) (len := 1) (r := (0, 0, 0, 0)) (by decide +kernel) (by decide) (fun y2822 hy2822 => ?_)
    obtain ⟨z2823, hz2823, ez2823⟩ := Q.2.2.1.2.2.1
    have ez2823 : z2823.toInt = ((s.2.2.1.length : Nat) : Int) := ez2823
    have mz2823 := qm_lenC Q
    have mz2823 : s.2.2.1.length ≤ 14 := mz2823
    refine y_ial (i := 2) (len := 1) (r := (0, 0, 0, 0)) (by decide +kernel) Q.1 tA aT (by omega) hz2823 ?_
    rcases Decidable.em (xk.toInt ≥ z2823.toInt) with q2824 | q2824
    ·
      refine y_cT (c := .ge) (off := 86) (pc' := 96) (len := 3) (r := (0, 0, 0, 0)) (by decide +kernel) (acmpT (c := .ge) (by show _ ≤ _; omega)) (by decide +kernel) ?_
      refine y_same (i := .iload_n 3) (len := 1) (r := (0, 0, 0, 0)) (pc' := 97) (ls' := [some (.inl (some 52)), some (.inl (some A)), some (.inl (some B)), some (zi xa), some (zi xk)]) (st' := [zi xa]) (by decide +kernel) (fun k q => by cases q) rfl ?_
      refine y_rI (len := 1) (r := (0, 0, 0, 0)) (nL := 5) (k := 2) (n9 := 3) (hs := []) (by decide +kernel) rfl (zfit_b (by omega) (by omega)).2 ?_
      exact ⟨Q.1, fun k j _ _ => rfl, Or.inl ⟨by omega, m, tlR_e (by omega) (by omega), H⟩⟩
    ·
      refine y_cF (c := .ge) (off := 86) (len := 3) (r := (0, 0, 0, 0)) (by decide +kernel) (acmpF (c := .ge) (by show _ < _; omega)) ?_
      refine y_same (i := .iload_n 3) (len := 1) (r := (0, 0, 0, 0)) (pc' := 14) (ls' := [some (.inl (some 52)), some (.inl (some A)), some (.inl (some B)), some (zi xa), some (zi xk)]) (st' := [zi xa]) (by decide +kernel) (fun k q => by cases q) rfl ?_
      refine y_iF (c := .eq) (off := 82) (len := 3) (r := (0, 0, 0, 0)) (by decide +kernel) (acmpF (c := .eq) (by show ¬ (_ = _); omega)) ?_
      obtain ⟨ip, kip⟩ : ∃ i9, s.2.2.1[k]? = some i9 := ⟨_, List.getElem?_eq_getElem (by omega)⟩
      obtain ⟨iq, kiq⟩ : ∃ i9, s2.2.2.1[k]? = some i9 := ⟨_, List.getElem?_eq_getElem (by omega)⟩
      have oip := okQ_C Q.2.2.2 kip
      have pip := oip.1
      unfold okV at pip
      obtain ⟨aip, bip, cip, dip, ⟨haip, hbip, hcip, hdip⟩, eaip, ebip, ecip, edip⟩ := qm_itC Q kip
      have oiq := okQ_C Q2.2.2.2 kiq
      have piq := oiq.1
      unfold okV at piq
      obtain ⟨aiq, biq, ciq, diq, ⟨haiq, hbiq, hciq, hdiq⟩, eaiq, ebiq, eciq, ediq⟩ := qm_itC Q2 kiq
      refine y_same (i := .aload_n 1) (len := 1) (r := (0, 0, 0, 0)) (pc' := 18) (ls' := [some (.inl (some 52)), some (.inl (some A)), some (.inl (some B)), some (zi xa), some (zi xk)]) (st' := [.inl (some A)]) (by decide +kernel) (fun k q => by cases q) rfl ?_
      refine y_same (i := .iload 4) (len := 2) (r := (0, 0, 0, 0)) (pc' := 20) (ls' := [some (.inl (some 52)), some (.inl (some A)), some (.inl (some B)), some (zi xa), some (zi xk)]) (st' := [zi xk, .inl (some A)]) (by decide +kernel) (fun k q => by cases q) rfl ?_
      refine y_cI (i := .invokestatic 259) (len := 3) (r := (1, 199, 12, 1654)) (nL := 1) (k := 1) (n := 1) (hs := []) (args := [zi xk]) (rest := [.inl (some A)]) (l0 := [some (zi xk)]) (by decide +kernel) (Or.inl ⟨_, rfl⟩) rfl rfl rfl rfl (Nat.le_of_ble_eq_true rfl) rfl rfl (qI_le (by omega) (e_claimIn (d := 0) (by omega) (by omega))) (fun y2825 qy2825 hRy2825 => ?_)
      obtain ⟨rfl, hy2825⟩ := hRy2825
      refine y_ial (i := (136 + 4 * k)) (len := 1) (r := (0, 0, 0, 0)) (by decide +kernel) Q.1 tA aT (by omega) haip ?_
      refine y_same (i := .aload_n 2) (len := 1) (r := (0, 0, 0, 0)) (pc' := 25) (ls' := [some (.inl (some 52)), some (.inl (some A)), some (.inl (some B)), some (zi xa), some (zi xk)]) (st' := [.inl (some B), zi aip]) (by decide +kernel) (fun k q => by cases q) rfl ?_
      refine y_same (i := .iload 4) (len := 2) (r := (0, 0, 0, 0)) (pc' := 27) (ls' := [some (.inl (some 52)), some (.inl (some A)), some (.inl (some B)), some (zi xa), some (zi xk)]) (st' := [zi xk, .inl (some B), zi aip]) (by decide +kernel) (fun k q => by cases q) rfl ?_
      refine y_cI (i := .invokestatic 259) (len := 3) (r := (1, 199, 12, 1654)) (nL := 1) (k := 1) (n := 1) (hs := []) (args := [zi xk]) (rest := [.inl (some B), zi aip]) (l0 := [some (zi xk)]) (by decide +kernel) (Or.inl ⟨_, rfl⟩) rfl rfl rfl rfl (Nat.le_of_ble_eq_true rfl) rfl rfl (qI_le (by omega) (e_claimIn (d := 0) (by omega) (by omega))) (fun y2826 qy2826 hRy2826 => ?_)
      obtain ⟨rfl, hy2826⟩ := hRy2826
      refine y_ial (i := (136 + 4 * k)) (len := 1) (r := (0, 0, 0, 0)) (by decide +kernel) Q.1 tB aB (by omega) haiq ?_
      rcases Decidable.em (aip.toInt ≠ aiq.toInt) with q2827 | q2827
      ·
        refine y_cT (c := .ne) (off := 57) (pc' := 88) (len := 3) (r := (0, 0, 0, 0)) (by decide +kernel) (acmpT (c := .ne) (by show ¬ (_ = _); omega)) (by decide +kernel) ?_
        refine y_ic (c := 0) (len := 1) (r := (0, 0, 0, 0)) (by decide +kernel) (by decide) (fun y2828 hy2828 => ?_)
        refine y_same (i := .istore_n 3) (len := 1) (r := (0, 0, 0, 0)) (pc' := 90) (ls' := [some (.inl (some 52)), some (.inl (some A)), some (.inl (some B)), some (zi y2828), some (zi xk)]) (st' := []) (by decide +kernel) (fun k q => by cases q) rfl ?_
        refine y_inc (j := 4) (a := xk) (c := 1) (ls' := fun v => [some (.inl (some 52)), some (.inl (some A)), some (.inl (some B)), some (zi y2828), some v]) (len := 3) (r := (0, 0, 0, 0)) (by decide +kernel) rfl (fun _ => rfl) (by decide) (by omega) (by omega) (fun y2829 hy2829 => ?_)
        show qX (d + 2) 223 93 [some (.inl (some 52)), some (.inl (some A)), some (.inl (some B)), some (zi y2828), some (zi y2829)] [] h t _
        refine y_goto (off := (-88)) (pc' := 5) (len := 3) (r := (0, 0, 0, 0)) (by decide +kernel) (by decide +kernel) ?_
        refine y_same (i := .iload 4) (len := 2) (r := (0, 0, 0, 0)) (pc' := 7) (ls' := [some (.inl (some 52)), some (.inl (some A)), some (.inl (some B)), some (zi y2828), some (zi y2829)]) (st' := [zi y2829]) (by decide +kernel) (fun k q => by cases q) rfl ?_
        refine y_same (i := .aload_n 1) (len := 1) (r := (0, 0, 0, 0)) (pc' := 8) (ls' := [some (.inl (some 52)), some (.inl (some A)), some (.inl (some B)), some (zi y2828), some (zi y2829)]) (st' := [.inl (some A), zi y2829]) (by decide +kernel) (fun k q => by cases q) rfl ?_
        refine y_ic (c := 2) (len := 1) (r := (0, 0, 0, 0)) (by decide +kernel) (by decide) (fun y2830 hy2830 => ?_)
        refine y_ial (i := 2) (len := 1) (r := (0, 0, 0, 0)) (by decide +kernel) Q.1 tA aT (by omega) hz2823 ?_
        rcases Decidable.em (y2829.toInt ≥ z2823.toInt) with q2831 | q2831
        ·
          refine y_cT (c := .ge) (off := 86) (pc' := 96) (len := 3) (r := (0, 0, 0, 0)) (by decide +kernel) (acmpT (c := .ge) (by show _ ≤ _; omega)) (by decide +kernel) ?_
          refine y_same (i := .iload_n 3) (len := 1) (r := (0, 0, 0, 0)) (pc' := 97) (ls' := [some (.inl (some 52)), some (.inl (some A)), some (.inl (some B)), some (zi y2828), some (zi y2829)]) (st' := [zi y2828]) (by decide +kernel) (fun k q => by cases q) rfl ?_
          refine y_rI (len := 1) (r := (0, 0, 0, 0)) (nL := 5) (k := 2) (n9 := 3) (hs := []) (by decide +kernel) rfl (zfit_b (by omega) (by omega)).2 ?_
          exact ⟨Q.1, fun k j h1 h2 => rfl, Or.inr ⟨by omega, tlR_n kip kiq (tlI_k (by omega))⟩⟩
        ·
          refine y_cF (c := .ge) (off := 86) (len := 3) (r := (0, 0, 0, 0)) (by decide +kernel) (acmpF (c := .ge) (by show _ < _; omega)) ?_
          refine y_same (i := .iload_n 3) (len := 1) (r := (0, 0, 0, 0)) (pc' := 14) (ls' := [some (.inl (some 52)), some (.inl (some A)), some (.inl (some B)), some (zi y2828), some (zi y2829)]) (st' := [zi y2828]) (by decide +kernel) (fun k q => by cases q) rfl ?_
          refine y_iT (c := .eq) (off := 82) (pc' := 96) (len := 3) (r := (0, 0, 0, 0)) (by decide +kernel) (acmpT (c := .eq) (by show _ = _; omega)) (by decide +kernel) ?_
          refine y_same (i := .iload_n 3) (len := 1) (r := (0, 0, 0, 0)) (pc' := 97) (ls' := [some (.inl (some 52)), some (.inl (some A)), some (.inl (some B)), some (zi y2828), some (zi y2829)]) (st' := [zi y2828]) (by decide +kernel) (fun k q => by cases q) rfl ?_
          refine y_rI (len := 1) (r := (0, 0, 0, 0)) (nL := 5) (k := 2) (n9 := 3) (hs := []) (by decide +kernel) rfl (zfit_b (by omega) (by omega)).2 ?_
          exact ⟨Q.1, fun k j h1 h2 => rfl, Or.inr ⟨by omega, tlR_n kip kiq (tlI_k (by omega))⟩⟩
      ·
        refine y_cF (c := .ne) (off := 57) (len := 3) (r := (0, 0, 0, 0)) (by decide +kernel) (acmpF (c := .ne) (by show _ = _; omega)) ?_
        refine y_same (i := .aload_n 0) (len := 1) (r := (0, 0, 0, 0)) (pc' := 35) (ls' := [some (.inl (some 52)), some (.inl (some A)), some (.inl (some B)), some (zi xa), some (zi xk)]) (st' := [.inl (some 52)]) (by decide +kernel) (fun k q => by cases q) rfl ?_
        refine y_same (i := .aload_n 1) (len := 1) (r := (0, 0, 0, 0)) (pc' := 36) (ls' := [some (.inl (some 52)), some (.inl (some A)), some (.inl (some B)), some (zi xa), some (zi xk)]) (st' := [.inl (some A), .inl (some 52)]) (by decide +kernel) (fun k q => by cases q) rfl ?_
        refine y_same (i := .iload 4) (len := 2) (r := (0, 0, 0, 0)) (pc' := 38) (ls' := [some (.inl (some 52)), some (.inl (some A)), some (.inl (some B)), some (zi xa), some (zi xk)]) (st' := [zi xk, .inl (some A), .inl (some 52)]) (by decide +kernel) (fun k q => by cases q) rfl ?_
        refine y_cI (i := .invokestatic 259) (len := 3) (r := (1, 199, 12, 1654)) (nL := 1) (k := 1) (n := 1) (hs := []) (args := [zi xk]) (rest := [.inl (some A), .inl (some 52)]) (l0 := [some (zi xk)]) (by decide +kernel) (Or.inl ⟨_, rfl⟩) rfl rfl rfl rfl (Nat.le_of_ble_eq_true rfl) rfl rfl (qI_le (by omega) (e_claimIn (d := 0) (by omega) (by omega))) (fun y2832 qy2832 hRy2832 => ?_)
        obtain ⟨rfl, hy2832⟩ := hRy2832
        refine y_ic (c := 1) (len := 1) (r := (0, 0, 0, 0)) (by decide +kernel) (by decide) (fun y2833 hy2833 => ?_)
        refine y_add (len := 1) (r := (0, 0, 0, 0)) (by decide +kernel) (by omega) (by omega) (fun y2834 hy2834 => ?_)
        refine y_ial (i := ((136 + 4 * k) + 1)) (len := 1) (r := (0, 0, 0, 0)) (by decide +kernel) Q.1 tA aT (by omega) hbip ?_
        refine y_same (i := .aload_n 2) (len := 1) (r := (0, 0, 0, 0)) (pc' := 45) (ls' := [some (.inl (some 52)), some (.inl (some A)), some (.inl (some B)), some (zi xa), some (zi xk)]) (st' := [.inl (some B), zi bip, .inl (some 52)]) (by decide +kernel) (fun k q => by cases q) rfl ?_
        refine y_same (i := .iload 4) (len := 2) (r := (0, 0, 0, 0)) (pc' := 47) (ls' := [some (.inl (some 52)), some (.inl (some A)), some (.inl (some B)), some (zi xa), some (zi xk)]) (st' := [zi xk, .inl (some B), zi bip, .inl (some 52)]) (by decide +kernel) (fun k q => by cases q) rfl ?_
        refine y_cI (i := .invokestatic 259) (len := 3) (r := (1, 199, 12, 1654)) (nL := 1) (k := 1) (n := 1) (hs := []) (args := [zi xk]) (rest := [.inl (some B), zi bip, .inl (some 52)]) (l0 := [some (zi xk)]) (by decide +kernel) (Or.inl ⟨_, rfl⟩) rfl rfl rfl rfl (Nat.le_of_ble_eq_true rfl) rfl rfl (qI_le (by omega) (e_claimIn (d := 0) (by omega) (by omega))) (fun y2835 qy2835 hRy2835 => ?_)
        obtain ⟨rfl, hy2835⟩ := hRy2835
        refine y_ic (c := 1) (len := 1) (r := (0, 0, 0, 0)) (by decide +kernel) (by decide) (fun y2836 hy2836 => ?_)
        refine y_add (len := 1) (r := (0, 0, 0, 0)) (by decide +kernel) (by omega) (by omega) (fun y2837 hy2837 => ?_)
        refine y_ial (i := ((136 + 4 * k) + 1)) (len := 1) (r := (0, 0, 0, 0)) (by decide +kernel) Q.1 tB aB (by omega) hbiq ?_
        refine y_cI (i := .invokevirtual 312) (len := 3) (r := (0, 220, 12, 1745)) (nL := 3) (k := 2) (n := 3) (hs := []) (args := [.inl (some 52), zi bip, zi biq]) (rest := []) (l0 := [some (.inl (some 52)), some (zi bip), some (zi biq)]) (by decide +kernel) (Or.inr (Or.inl ⟨_, rfl⟩)) rfl rfl rfl rfl (Nat.le_of_ble_eq_true rfl) (z52 Q.1) rfl (qI_le (by omega) (m_tlsI (d := 0) (x := ip.2.1) (y := iq.2.1) Q.1 H (by omega) (by omega) (by omega) (by omega))) (fun y2838 h2838 hRy2838 => ?_)
        obtain ⟨hg2838, F2838, hDy2838⟩ := hRy2838
        have Q2838_A := QM_up Q hg2838 (fun j => F2838 A j (by omega) (by omega))
        have Q2838_B := QM_up Q2 hg2838 (fun j => F2838 B j (by omega) (by omega))
        rcases hDy2838 with ⟨v2838, m2838, e2838, H2838⟩ | ⟨v2838, e2838⟩
        ·
          have hz2838 : mpZ m2838 := mpZ_O hz e2838
          refine y_iF (c := .eq) (off := 32) (len := 3) (r := (0, 0, 0, 0)) (by decide +kernel) (acmpF (c := .eq) (by show ¬ (_ = _); omega)) ?_
          refine y_same (i := .aload_n 0) (len := 1) (r := (0, 0, 0, 0)) (pc' := 60) (ls' := [some (.inl (some 52)), some (.inl (some A)), some (.inl (some B)), some (zi xa), some (zi xk)]) (st' := [.inl (some 52)]) (by decide +kernel) (fun k q => by cases q) rfl ?_
          refine y_same (i := .aload_n 1) (len := 1) (r := (0, 0, 0, 0)) (pc' := 61) (ls' := [some (.inl (some 52)), some (.inl (some A)), some (.inl (some B)), some (zi xa), some (zi xk)]) (st' := [.inl (some A), .inl (some 52)]) (by decide +kernel) (fun k q => by cases q) rfl ?_
          refine y_same (i := .iload 4) (len := 2) (r := (0, 0, 0, 0)) (pc' := 63) (ls' := [some (.inl (some 52)), some (.inl (some A)), some (.inl (some B)), some (zi xa), some (zi xk)]) (st' := [zi xk, .inl (some A), .inl (some 52)]) (by decide +kernel) (fun k q => by cases q) rfl ?_
          refine y_cI (i := .invokestatic 259) (len := 3) (r := (1, 199, 12, 1654)) (nL := 1) (k := 1) (n := 1) (hs := []) (args := [zi xk]) (rest := [.inl (some A), .inl (some 52)]) (l0 := [some (zi xk)]) (by decide +kernel) (Or.inl ⟨_, rfl⟩) rfl rfl rfl rfl (Nat.le_of_ble_eq_true rfl) rfl rfl (qI_le (by omega) (e_claimIn (d := 0) (by omega) (by omega))) (fun y2839 qy2839 hRy2839 => ?_)
          obtain ⟨rfl, hy2839⟩ := hRy2839
          refine y_ic (c := 2) (len := 1) (r := (0, 0, 0, 0)) (by decide +kernel) (by decide) (fun y2840 hy2840 => ?_)
          refine y_add (len := 1) (r := (0, 0, 0, 0)) (by decide +kernel) (by omega) (by omega) (fun y2841 hy2841 => ?_)
          obtain ⟨i2842, ki2842, zi2842⟩ : ∃ i9, s.2.2.1[k]? = some i9 ∧ i9 = ip := ⟨_, kip, rfl⟩
          obtain ⟨zai2842, zbi2842, zci2842, zdi2842⟩ : i2842.1 = ip.1 ∧ i2842.2.1 = ip.2.1 ∧ i2842.2.2.1 = ip.2.2.1 ∧ i2842.2.2.2 = ip.2.2.2 := by rw [zi2842]; exact ⟨rfl, rfl, rfl, rfl⟩
          have oi2842 := okQ_C Q2838_A.2.2.2 ki2842
          have pi2842 := oi2842.1
          unfold okV at pi2842
          obtain ⟨ai2842, bi2842, ci2842, di2842, ⟨hai2842, hbi2842, hci2842, hdi2842⟩, eai2842, ebi2842, eci2842, edi2842⟩ := qm_itC Q2838_A ki2842
          refine y_ial (i := ((136 + 4 * k) + 2)) (len := 1) (r := (0, 0, 0, 0)) (by decide +kernel) hg2838 tA aT (by omega) hci2842 ?_
          refine y_same (i := .aload_n 2) (len := 1) (r := (0, 0, 0, 0)) (pc' := 70) (ls' := [some (.inl (some 52)), some (.inl (some A)), some (.inl (some B)), some (zi xa), some (zi xk)]) (st' := [.inl (some B), zi ci2842, .inl (some 52)]) (by decide +kernel) (fun k q => by cases q) rfl ?_
          refine y_same (i := .iload 4) (len := 2) (r := (0, 0, 0, 0)) (pc' := 72) (ls' := [some (.inl (some 52)), some (.inl (some A)), some (.inl (some B)), some (zi xa), some (zi xk)]) (st' := [zi xk, .inl (some B), zi ci2842, .inl (some 52)]) (by decide +kernel) (fun k q => by cases q) rfl ?_
          refine y_cI (i := .invokestatic 259) (len := 3) (r := (1, 199, 12, 1654)) (nL := 1) (k := 1) (n := 1) (hs := []) (args := [zi xk]) (rest := [.inl (some B), zi ci2842, .inl (some 52)]) (l0 := [some (zi xk)]) (by decide +kernel) (Or.inl ⟨_, rfl⟩) rfl rfl rfl rfl (Nat.le_of_ble_eq_true rfl) rfl rfl (qI_le (by omega) (e_claimIn (d := 0) (by omega) (by omega))) (fun y2843 qy2843 hRy2843 => ?_)
          obtain ⟨rfl, hy2843⟩ := hRy2843
          refine y_ic (c := 2) (len := 1) (r := (0, 0, 0, 0)) (by decide +kernel) (by decide) (fun y2844 hy2844 => ?_)
          refine y_add (len := 1) (r := (0, 0, 0, 0)) (by decide +kernel) (by omega) (by omega) (fun y2845 hy2845 => ?_)
          obtain ⟨i2846, ki2846, zi2846⟩ : ∃ i9, s2.2.2.1[k]? = some i9 ∧ i9 = iq := ⟨_, kiq, rfl⟩
          obtain ⟨zai2846, zbi2846, zci2846, zdi2846⟩ : i2846.1 = iq.1 ∧ i2846.2.1 = iq.2.1 ∧ i2846.2.2.1 = iq.2.2.1 ∧ i2846.2.2.2 = iq.2.2.2 := by rw [zi2846]; exact ⟨rfl, rfl, rfl, rfl⟩
          have oi2846 := okQ_C Q2838_B.2.2.2 ki2846
          have pi2846 := oi2846.1
          unfold okV at pi2846
          obtain ⟨ai2846, bi2846, ci2846, di2846, ⟨hai2846, hbi2846, hci2846, hdi2846⟩, eai2846, ebi2846, eci2846, edi2846⟩ := qm_itC Q2838_B ki2846
          refine y_ial (i := ((136 + 4 * k) + 2)) (len := 1) (r := (0, 0, 0, 0)) (by decide +kernel) hg2838 tB aB (by omega) hci2846 ?_
          refine y_cI (i := .invokevirtual 312) (len := 3) (r := (0, 220, 12, 1745)) (nL := 3) (k := 2) (n := 3) (hs := []) (args := [.inl (some 52), zi ci2842, zi ci2846]) (rest := []) (l0 := [some (.inl (some 52)), some (zi ci2842), some (zi ci2846)]) (by decide +kernel) (Or.inr (Or.inl ⟨_, rfl⟩)) rfl rfl rfl rfl (Nat.le_of_ble_eq_true rfl) (z52 hg2838) rfl (qI_le (by omega) (m_tlsI (d := 0) (x := ip.2.2.1) (y := iq.2.2.1) hg2838 H2838 (by omega) (by omega) (by omega) (by omega))) (fun y2847 h2847 hRy2847 => ?_)
          obtain ⟨hg2847, F2847, hDy2847⟩ := hRy2847
          have Q2847_A := QM_up Q2838_A hg2847 (fun j => F2847 A j (by omega) (by omega))
          have Q2847_B := QM_up Q2838_B hg2847 (fun j => F2847 B j (by omega) (by omega))
          rcases hDy2847 with ⟨v2847, m2847, e2847, H2847⟩ | ⟨v2847, e2847⟩
          ·
            have hz2847 : mpZ m2847 := mpZ_O hz2838 e2847
            refine y_iF (c := .eq) (off := 7) (len := 3) (r := (0, 0, 0, 0)) (by decide +kernel) (acmpF (c := .eq) (by show ¬ (_ = _); omega)) ?_
            have e0c : tlO ip.2.2.2 iq.2.2.2 m2847 = some m2847 := by rw [show ip.2.2.2 = 0 from oip.2.2, show iq.2.2.2 = 0 from oiq.2.2]; exact tlO_0 hz2847
            refine y_ic (c := 1) (len := 1) (r := (0, 0, 0, 0)) (by decide +kernel) (by decide) (fun y2848 hy2848 => ?_)
            refine y_goto (off := 4) (pc' := 89) (len := 3) (r := (0, 0, 0, 0)) (by decide +kernel) (by decide +kernel) ?_
            refine y_same (i := .istore_n 3) (len := 1) (r := (0, 0, 0, 0)) (pc' := 90) (ls' := [some (.inl (some 52)), some (.inl (some A)), some (.inl (some B)), some (zi y2848), some (zi xk)]) (st' := []) (by decide +kernel) (fun k q => by cases q) rfl ?_
            refine y_inc (j := 4) (a := xk) (c := 1) (ls' := fun v => [some (.inl (some 52)), some (.inl (some A)), some (.inl (some B)), some (zi y2848), some v]) (len := 3) (r := (0, 0, 0, 0)) (by decide +kernel) rfl (fun _ => rfl) (by decide) (by omega) (by omega) (fun y2849 hy2849 => ?_)
            show qX (d + 2) 223 93 [some (.inl (some 52)), some (.inl (some A)), some (.inl (some B)), some (zi y2848), some (zi y2849)] [] h2847 t _
            refine y_goto (off := (-88)) (pc' := 5) (len := 3) (r := (0, 0, 0, 0)) (by decide +kernel) (by decide +kernel) ?_
            have tI := tlI_3 (by omega) e2838 e2847 e0c
            have nx := tlR_s kip kiq tI
            rw [nx]
            refine qX_I (ih h2847 (k + 1) y2848 y2849 m2847 Q2847_A Q2847_B H2847 (mpZ_I hz tI) (by omega) (by omega) (by omega) (by omega)) (fun y h1 hR => ⟨hR.1, FK_tr (fun k j h1 h2 => ((F2847 k j (by omega) (by omega)).trans (F2838 k j (by omega) (by omega)))) hR.2.1, hR.2.2⟩)
          ·
            refine y_iT (c := .eq) (off := 7) (pc' := 88) (len := 3) (r := (0, 0, 0, 0)) (by decide +kernel) (acmpT (c := .eq) (by show _ = _; omega)) (by decide +kernel) ?_
            refine y_ic (c := 0) (len := 1) (r := (0, 0, 0, 0)) (by decide +kernel) (by decide) (fun y2850 hy2850 => ?_)
            refine y_same (i := .istore_n 3) (len := 1) (r := (0, 0, 0, 0)) (pc' := 90) (ls' := [some (.inl (some 52)), some (.inl (some A)), some (.inl (some B)), some (zi y2850), some (zi xk)]) (st' := []) (by decide +kernel) (fun k q => by cases q) rfl ?_
            refine y_inc (j := 4) (a := xk) (c := 1) (ls' := fun v => [some (.inl (some 52)), some (.inl (some A)), some (.inl (some B)), some (zi y2850), some v]) (len := 3) (r := (0, 0, 0, 0)) (by decide +kernel) rfl (fun _ => rfl) (by decide) (by omega) (by omega) (fun y2851 hy2851 => ?_)
            show qX (d + 2) 223 93 [some (.inl (some 52)), some (.inl (some A)), some (.inl (some B)), some (zi y2850), some (zi y2851)] [] h2847 t _
            refine y_goto (off := (-88)) (pc' := 5) (len := 3) (r := (0, 0, 0, 0)) (by decide +kernel) (by decide +kernel) ?_
            refine y_same (i := .iload 4) (len := 2) (r := (0, 0, 0, 0)) (pc' := 7) (ls' := [some (.inl (some 52)), some (.inl (some A)), some (.inl (some B)), some (zi y2850), some (zi y2851)]) (st' := [zi y2851]) (by decide +kernel) (fun k q => by cases q) rfl ?_
            refine y_same (i := .aload_n 1) (len := 1) (r := (0, 0, 0, 0)) (pc' := 8) (ls' := [some (.inl (some 52)), some (.inl (some A)), some (.inl (some B)), some (zi y2850), some (zi y2851)]) (st' := [.inl (some A), zi y2851]) (by decide +kernel) (fun k q => by cases q) rfl ?_
            refine y_ic (c := 2) (len := 1) (r := (0, 0, 0, 0)) (by decide +kernel) (by decide) (fun y2852 hy2852 => ?_)
            obtain ⟨z2853, hz2853, ez2853⟩ := Q2847_A.2.2.1.2.2.1
            have ez2853 : z2853.toInt = ((s.2.2.1.length : Nat) : Int) := ez2853
            have mz2853 := qm_lenC Q2847_A
            have mz2853 : s.2.2.1.length ≤ 14 := mz2853
            refine y_ial (i := 2) (len := 1) (r := (0, 0, 0, 0)) (by decide +kernel) hg2847 tA aT (by omega) hz2853 ?_
            rcases Decidable.em (y2851.toInt ≥ z2853.toInt) with q2854 | q2854
            ·
              refine y_cT (c := .ge) (off := 86) (pc' := 96) (len := 3) (r := (0, 0, 0, 0)) (by decide +kernel) (acmpT (c := .ge) (by show _ ≤ _; omega)) (by decide +kernel) ?_
              refine y_same (i := .iload_n 3) (len := 1) (r := (0, 0, 0, 0)) (pc' := 97) (ls' := [some (.inl (some 52)), some (.inl (some A)), some (.inl (some B)), some (zi y2850), some (zi y2851)]) (st' := [zi y2850]) (by decide +kernel) (fun k q => by cases q) rfl ?_
              refine y_rI (len := 1) (r := (0, 0, 0, 0)) (nL := 5) (k := 2) (n9 := 3) (hs := []) (by decide +kernel) rfl (zfit_b (by omega) (by omega)).2 ?_
              exact ⟨hg2847, fun k j h1 h2 => ((F2847 k j (by omega) (by omega)).trans (F2838 k j (by omega) (by omega))), Or.inr ⟨by omega, tlR_n kip kiq (tlI_2 (by omega) e2838 e2847)⟩⟩
            ·
              refine y_cF (c := .ge) (off := 86) (len := 3) (r := (0, 0, 0, 0)) (by decide +kernel) (acmpF (c := .ge) (by show _ < _; omega)) ?_
              refine y_same (i := .iload_n 3) (len := 1) (r := (0, 0, 0, 0)) (pc' := 14) (ls' := [some (.inl (some 52)), some (.inl (some A)), some (.inl (some B)), some (zi y2850), some (zi y2851)]) (st' := [zi y2850]) (by decide +kernel) (fun k q => by cases q) rfl ?_
              refine y_iT (c := .eq) (off := 82) (pc' := 96) (len := 3) (r := (0, 0, 0, 0)) (by decide +kernel) (acmpT (c := .eq) (by show _ = _; omega)) (by decide +kernel) ?_
              refine y_same (i := .iload_n 3) (len := 1) (r := (0, 0, 0, 0)) (pc' := 97) (ls' := [some (.inl (some 52)), some (.inl (some A)), some (.inl (some B)), some (zi y2850), some (zi y2851)]) (st' := [zi y2850]) (by decide +kernel) (fun k q => by cases q) rfl ?_
              refine y_rI (len := 1) (r := (0, 0, 0, 0)) (nL := 5) (k := 2) (n9 := 3) (hs := []) (by decide +kernel) rfl (zfit_b (by omega) (by omega)).2 ?_
              exact ⟨hg2847, fun k j h1 h2 => ((F2847 k j (by omega) (by omega)).trans (F2838 k j (by omega) (by omega))), Or.inr ⟨by omega, tlR_n kip kiq (tlI_2 (by omega) e2838 e2847)⟩⟩
        ·
          refine y_iT (c := .eq) (off := 32) (pc' := 88) (len := 3) (r := (0, 0, 0, 0)) (by decide +kernel) (acmpT (c := .eq) (by show _ = _; omega)) (by decide +kernel) ?_
          refine y_ic (c := 0) (len := 1) (r := (0, 0, 0, 0)) (by decide +kernel) (by decide) (fun y2855 hy2855 => ?_)
          refine y_same (i := .istore_n 3) (len := 1) (r := (0, 0, 0, 0)) (pc' := 90) (ls' := [some (.inl (some 52)), some (.inl (some A)), some (.inl (some B)), some (zi y2855), some (zi xk)]) (st' := []) (by decide +kernel) (fun k q => by cases q) rfl ?_
          refine y_inc (j := 4) (a := xk) (c := 1) (ls' := fun v => [some (.inl (some 52)), some (.inl (some A)), some (.inl (some B)), some (zi y2855), some v]) (len := 3) (r := (0, 0, 0, 0)) (by decide +kernel) rfl (fun _ => rfl) (by decide) (by omega) (by omega) (fun y2856 hy2856 => ?_)
          show qX (d + 2) 223 93 [some (.inl (some 52)), some (.inl (some A)), some (.inl (some B)), some (zi y2855), some (zi y2856)] [] h2838 t _
          refine y_goto (off := (-88)) (pc' := 5) (len := 3) (r := (0, 0, 0, 0)) (by decide +kernel) (by decide +kernel) ?_
          refine y_same (i := .iload 4) (len := 2) (r := (0, 0, 0, 0)) (pc' := 7) (ls' := [some (.inl (some 52)), some (.inl (some A)), some (.inl (some B)), some (zi y2855), some (zi y2856)]) (st' := [zi y2856]) (by decide +kernel) (fun k q => by cases q) rfl ?_
          refine y_same (i := .aload_n 1) (len := 1) (r := (0, 0, 0, 0)) (pc' := 8) (ls' := [some (.inl (some 52)), some (.inl (some A)), some (.inl (some B)), some (zi y2855), some (zi y2856)]) (st' := [.inl (some A), zi y2856]) (by decide +kernel) (fun k q => by cases q) rfl ?_
          refine y_ic (c := 2) (len := 1) (r := (0, 0, 0, 0)) (by decide +kernel) (by decide) (fun y2857 hy2857 => ?_)
          obtain ⟨z2858, hz2858, ez2858⟩ := Q2838_A.2.2.1.2.2.1
          have ez2858 : z2858.toInt = ((s.2.2.1.length : Nat) : Int) := ez2858
          have mz2858 := qm_lenC Q2838_A
          have mz2858 : s.2.2.1.length ≤ 14 := mz2858
          refine y_ial (i := 2) (len := 1) (r := (0, 0, 0, 0)) (by decide +kernel) hg2838 tA aT (by omega) hz2858 ?_
          rcases Decidable.em (y2856.toInt ≥ z2858.toInt) with q2859 | q2859
          ·
            refine y_cT (c := .ge) (off := 86) (pc' := 96) (len := 3) (r := (0, 0, 0, 0)) (by decide +kernel) (acmpT (c := .ge) (by show _ ≤ _; omega)) (by decide +kernel) ?_
            refine y_same (i := .iload_n 3) (len := 1) (r := (0, 0, 0, 0)) (pc' := 97) (ls' := [some (.inl (some 52)), some (.inl (some A)), some (.inl (some B)), some (zi y2855), some (zi y2856)]) (st' := [zi y2855]) (by decide +kernel) (fun k q => by cases q) rfl ?_
            refine y_rI (len := 1) (r := (0, 0, 0, 0)) (nL := 5) (k := 2) (n9 := 3) (hs := []) (by decide +kernel) rfl (zfit_b (by omega) (by omega)).2 ?_
            exact ⟨hg2838, fun k j h1 h2 => (F2838 k j (by omega) (by omega)), Or.inr ⟨by omega, tlR_n kip kiq (tlI_1 (by omega) e2838)⟩⟩
          ·
            refine y_cF (c := .ge) (off := 86) (len := 3) (r := (0, 0, 0, 0)) (by decide +kernel) (acmpF (c := .ge) (by show _ < _; omega)) ?_
            refine y_same (i := .iload_n 3) (len := 1) (r := (0, 0, 0, 0)) (pc' := 14) (ls' := [some (.inl (some 52)), some (.inl (some A)), some (.inl (some B)), some (zi y2855), some (zi y2856)]) (st' := [zi y2855]) (by decide +kernel) (fun k q => by cases q) rfl ?_
            refine y_iT (c := .eq) (off := 82) (pc' := 96) (len := 3) (r := (0, 0, 0, 0)) (by decide +kernel) (acmpT (c := .eq) (by show _ = _; omega)) (by decide +kernel) ?_
            refine y_same (i := .iload_n 3) (len := 1) (r := (0, 0, 0, 0)) (pc' := 97) (ls' := [some (.inl (some 52)), some (.inl (some A)), some (.inl (some B)), some (zi y2855), some (zi y2856)]) (st' := [zi y2855]) (by decide +kernel) (fun k q => by cases q) rfl ?_
            refine y_rI (len := 1) (r := (0, 0, 0, 0)) (nL := 5) (k := 2) (n9 := 3) (hs := []) (by decide +kernel) rfl (zfit_b (by omega) (by omega)).2 ?_
            exact ⟨hg2838, fun k j h1 h2 => (F2838 k j (by omega) (by omega)), Or.inr ⟨by omega, tlR_n kip kiq (tlI_1 (by omega) e2838)⟩⟩
theorem m_cw {d t : Nat} {τ : List Nat} {h : zh} {m : mp2} {A B : Nat} {s s2 : sqT} (nA : 70 < A) (nB : 70 < B) (hl : s.2.2.1.length = s2.2.2.1.length) (Q : QM τ h A s) (Q2 : QM τ h B s2) (H : mpM h m) (hz : mpZ m) : qI (d + 3) 223 [some (.inl (some 52)), some (.inl (some A)), some (.inl (some B)), none, none] h t (fun y1 h1 => hG τ h1 ∧ FK h h1 ∧ ((y1.toInt = 1 ∧ ∃ m', tlR s.2.2.1 s2.2.2.1 m = some m' ∧ mpM h1 m') ∨ (y1.toInt = 0 ∧ tlR s.2.2.1 s2.2.2.1 m = none))) := by
  refine qI_of ?_
  refine y_ic (c := 1) (len := 1) (r := (0, 0, 0, 0)) (by decide +kernel) (by decide) (fun y2860 hy2860 => ?_)
  refine y_same (i := .istore_n 3) (len := 1) (r := (0, 0, 0, 0)) (pc' := 2) (ls' := [some (.inl (some 52)), some (.inl (some A)), some (.inl (some B)), some (zi y2860), none]) (st' := []) (by decide +kernel) (fun k q => by cases q) rfl ?_
  refine y_ic (c := 0) (len := 1) (r := (0, 0, 0, 0)) (by decide +kernel) (by decide) (fun y2861 hy2861 => ?_)
  refine y_same (i := .istore 4) (len := 2) (r := (0, 0, 0, 0)) (pc' := 5) (ls' := [some (.inl (some 52)), some (.inl (some A)), some (.inl (some B)), some (zi y2860), some (zi y2861)]) (st' := []) (by decide +kernel) (fun k q => by cases q) rfl ?_
  exact mcw_l nA nB hl (s.2.2.1.length + 1) h 0 y2860 y2861 m Q Q2 H hz (by omega) (by omega) (by omega) (by omega)
