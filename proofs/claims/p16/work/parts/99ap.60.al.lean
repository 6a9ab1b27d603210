/-! the class: ALIKE -/
def mpH (h : zh) (m : mp2) : Prop := ∀ x : Nat, x < 21 → kx_ h 33 x (m.1 x) ∧ kx_ h 34 x (m.2 x)
def FN (h h1 : zh) : Prop := ∀ k j, k ≠ 33 → k ≠ 34 → hsl h1 k j = hsl h k j
theorem FN_tr {h h1 h2 : zh} (a : FN h h1) (b : FN h1 h2) : FN h h2 := fun k j h1 h2 => (b k j h1 h2).trans (a k j h1 h2)
theorem mpH_st {h h1 : zh} {m : mp2} {x y : Nat} (H : mpH h m) (a : kx_ h1 33 x y) (b : kx_ h1 34 y x) (F3 : ∀ j, j ≠ x → hsl h1 33 j = hsl h 33 j) (F4 : ∀ j, j ≠ y → hsl h1 34 j = hsl h 34 j) : mpH h1 (up1 m.1 x y, up1 m.2 y x) := fun z hz => by
  refine ⟨?_, ?_⟩
  · show kx_ h1 33 z (up1 m.1 x y z)
    by_cases q : z = x
    · subst q
      rw [up1_at]
      exact a
    · rw [up1_ne (by omega)]
      exact kx_up (H z hz).1 (F3 z q)
  · show kx_ h1 34 z (up1 m.2 y x z)
    by_cases q : z = y
    · subst q
      rw [up1_at]
      exact b
    · rw [up1_ne (by omega)]
      exact kx_up (H z hz).2 (F4 z q)
theorem e_tls {d t x y : Nat} {τ : List Nat} {h : zh} {m : mp2} {xx xy : Int32} (hg : hG τ h) (H : mpH h m) (exx : xx.toInt = (x : Int)) (hx : x ≤ 20) (exy : xy.toInt = (y : Int)) (hy : y ≤ 20) : qI (d + 2) 29 [some (.inl (some 32)), some (zi xx), some (zi xy)] h t (fun y1 h1 => hG τ h1 ∧ FN h h1 ∧ ((y1.toInt = 1 ∧ ∃ m', tlO x y m = some m' ∧ mpH h1 m') ∨ (y1.toInt = 0 ∧ tlO x y m = none))) := by
  obtain ⟨xf, hf, ef⟩ := (H x (by omega)).1
  obtain ⟨xb, hb, eb⟩ := (H y (by omega)).2
  refine qI_of ?_
  refine y_same (i := .iload_n 1) (len := 1) (r := (0, 0, 0, 0)) (pc' := 1) (ls' := [some (.inl (some 32)), some (zi xx), some (zi xy)]) (st' := [zi xx]) (by decide +kernel) (fun k q => by cases q) rfl ?_
  refine y_cI (i := .invokestatic 62) (len := 3) (r := (3, 157, 11, 732)) (nL := 1) (k := 2) (n := 1) (hs := []) (args := [zi xx]) (rest := []) (l0 := [some (zi xx)]) (by decide +kernel) (Or.inl ⟨_, rfl⟩) rfl rfl rfl rfl (Nat.le_of_ble_eq_true rfl) rfl rfl (qI_le (by omega) (c_isv (d := 0) (by omega) (by omega))) (fun y3280 qy3280 hRy3280 => ?_)
  obtain ⟨rfl, ey3280⟩ := hRy3280
  refine y_iF (c := .eq) (off := 10) (len := 3) (r := (0, 0, 0, 0)) (by decide +kernel) (acmpF (c := .eq) (by show ¬ (_ = _); omega)) ?_
  refine y_same (i := .iload_n 2) (len := 1) (r := (0, 0, 0, 0)) (pc' := 8) (ls' := [some (.inl (some 32)), some (zi xx), some (zi xy)]) (st' := [zi xy]) (by decide +kernel) (fun k q => by cases q) rfl ?_
  refine y_cI (i := .invokestatic 62) (len := 3) (r := (3, 157, 11, 732)) (nL := 1) (k := 2) (n := 1) (hs := []) (args := [zi xy]) (rest := []) (l0 := [some (zi xy)]) (by decide +kernel) (Or.inl ⟨_, rfl⟩) rfl rfl rfl rfl (Nat.le_of_ble_eq_true rfl) rfl rfl (qI_le (by omega) (c_isv (d := 0) (by omega) (by omega))) (fun y3281 qy3281 hRy3281 => ?_)
  obtain ⟨rfl, ey3281⟩ := hRy3281
  refine y_iT (c := .ne) (off := 5) (pc' := 16) (len := 3) (r := (0, 0, 0, 0)) (by decide +kernel) (acmpT (c := .ne) (by show ¬ (_ = _); omega)) (by decide +kernel) ?_
  refine y_same (i := .aload_n 0) (len := 1) (r := (0, 0, 0, 0)) (pc' := 17) (ls' := [some (.inl (some 32)), some (zi xx), some (zi xy)]) (st' := [.inl (some 32)]) (by decide +kernel) (fun k q => by cases q) rfl ?_
  refine y_get (j := 9) (len := 3) (r := (3, 0, 2, 275)) (by decide +kernel) hg (tv32 hg) aw32 rfl rfl (g_rU (f := 0) (T2 := 33) hg (tv32 hg) aw32 rfl (by decide)) ?_
  refine y_same (i := .iload_n 1) (len := 1) (r := (0, 0, 0, 0)) (pc' := 21) (ls' := [some (.inl (some 32)), some (zi xx), some (zi xy)]) (st' := [zi xx, .inl (some 33)]) (by decide +kernel) (fun k q => by cases q) rfl ?_
  refine y_ial (i := x) (len := 1) (r := (0, 0, 0, 0)) (by decide +kernel) hg (tv33 hg) aw33 (by omega) hf ?_
  refine y_ic (c := (-1)) (len := 1) (r := (0, 0, 0, 0)) (by decide +kernel) (by decide) (fun y3282 hy3282 => ?_)
  rcases Decidable.em (xf.toInt ≠ y3282.toInt) with q3283 | q3283
  ·
    refine y_cT (c := .ne) (off := 27) (pc' := 50) (len := 3) (r := (0, 0, 0, 0)) (by decide +kernel) (acmpT (c := .ne) (by show ¬ (_ = _); omega)) (by decide +kernel) ?_
    refine y_same (i := .aload_n 0) (len := 1) (r := (0, 0, 0, 0)) (pc' := 51) (ls' := [some (.inl (some 32)), some (zi xx), some (zi xy)]) (st' := [.inl (some 32)]) (by decide +kernel) (fun k q => by cases q) rfl ?_
    refine y_get (j := 9) (len := 3) (r := (3, 0, 2, 275)) (by decide +kernel) hg (tv32 hg) aw32 rfl rfl (g_rU (f := 0) (T2 := 33) hg (tv32 hg) aw32 rfl (by decide)) ?_
    refine y_same (i := .iload_n 1) (len := 1) (r := (0, 0, 0, 0)) (pc' := 55) (ls' := [some (.inl (some 32)), some (zi xx), some (zi xy)]) (st' := [zi xx, .inl (some 33)]) (by decide +kernel) (fun k q => by cases q) rfl ?_
    refine y_ial (i := x) (len := 1) (r := (0, 0, 0, 0)) (by decide +kernel) hg (tv33 hg) aw33 (by omega) hf ?_
    refine y_same (i := .iload_n 2) (len := 1) (r := (0, 0, 0, 0)) (pc' := 57) (ls' := [some (.inl (some 32)), some (zi xx), some (zi xy)]) (st' := [zi xy, zi xf]) (by decide +kernel) (fun k q => by cases q) rfl ?_
    rcases Decidable.em (xf.toInt ≠ xy.toInt) with q3284 | q3284
    ·
      refine y_cT (c := .ne) (off := 17) (pc' := 74) (len := 3) (r := (0, 0, 0, 0)) (by decide +kernel) (acmpT (c := .ne) (by show ¬ (_ = _); omega)) (by decide +kernel) ?_
      refine y_ic (c := 0) (len := 1) (r := (0, 0, 0, 0)) (by decide +kernel) (by decide) (fun y3285 hy3285 => ?_)
      refine y_rI (len := 1) (r := (0, 0, 0, 0)) (nL := 3) (k := 2) (n9 := 3) (hs := []) (by decide +kernel) rfl (zfit_b (by omega) (by omega)).2 ?_
      exact ⟨hg, fun k j _ _ => rfl, Or.inr ⟨by omega, tlO_no (fun q => by omega) (fun q => by omega)⟩⟩
    ·
      refine y_cF (c := .ne) (off := 17) (len := 3) (r := (0, 0, 0, 0)) (by decide +kernel) (acmpF (c := .ne) (by show _ = _; omega)) ?_
      refine y_same (i := .aload_n 0) (len := 1) (r := (0, 0, 0, 0)) (pc' := 61) (ls' := [some (.inl (some 32)), some (zi xx), some (zi xy)]) (st' := [.inl (some 32)]) (by decide +kernel) (fun k q => by cases q) rfl ?_
      refine y_get (j := 15) (len := 3) (r := (3, 1, 2, 276)) (by decide +kernel) hg (tv32 hg) aw32 rfl rfl (g_rU (f := 1) (T2 := 34) hg (tv32 hg) aw32 rfl (by decide)) ?_
      refine y_same (i := .iload_n 2) (len := 1) (r := (0, 0, 0, 0)) (pc' := 65) (ls' := [some (.inl (some 32)), some (zi xx), some (zi xy)]) (st' := [zi xy, .inl (some 34)]) (by decide +kernel) (fun k q => by cases q) rfl ?_
      refine y_ial (i := y) (len := 1) (r := (0, 0, 0, 0)) (by decide +kernel) hg (tv34 hg) aw34 (by omega) hb ?_
      refine y_same (i := .iload_n 1) (len := 1) (r := (0, 0, 0, 0)) (pc' := 67) (ls' := [some (.inl (some 32)), some (zi xx), some (zi xy)]) (st' := [zi xx, zi xb]) (by decide +kernel) (fun k q => by cases q) rfl ?_
      rcases Decidable.em (xb.toInt ≠ xx.toInt) with q3286 | q3286
      ·
        refine y_cT (c := .ne) (off := 7) (pc' := 74) (len := 3) (r := (0, 0, 0, 0)) (by decide +kernel) (acmpT (c := .ne) (by show ¬ (_ = _); omega)) (by decide +kernel) ?_
        refine y_ic (c := 0) (len := 1) (r := (0, 0, 0, 0)) (by decide +kernel) (by decide) (fun y3287 hy3287 => ?_)
        refine y_rI (len := 1) (r := (0, 0, 0, 0)) (nL := 3) (k := 2) (n9 := 3) (hs := []) (by decide +kernel) rfl (zfit_b (by omega) (by omega)).2 ?_
        exact ⟨hg, fun k j _ _ => rfl, Or.inr ⟨by omega, tlO_no (fun q => by omega) (fun q => by omega)⟩⟩
      ·
        refine y_cF (c := .ne) (off := 7) (len := 3) (r := (0, 0, 0, 0)) (by decide +kernel) (acmpF (c := .ne) (by show _ = _; omega)) ?_
        refine y_ic (c := 1) (len := 1) (r := (0, 0, 0, 0)) (by decide +kernel) (by decide) (fun y3288 hy3288 => ?_)
        refine y_goto (off := 4) (pc' := 75) (len := 3) (r := (0, 0, 0, 0)) (by decide +kernel) (by decide +kernel) ?_
        refine y_rI (len := 1) (r := (0, 0, 0, 0)) (nL := 3) (k := 2) (n9 := 3) (hs := []) (by decide +kernel) rfl (zfit_b (by omega) (by omega)).2 ?_
        exact ⟨hg, fun k j _ _ => rfl, Or.inl ⟨by omega, m, tlO_old (fun q => by omega) (by omega) (by omega), H⟩⟩
  ·
    refine y_cF (c := .ne) (off := 27) (len := 3) (r := (0, 0, 0, 0)) (by decide +kernel) (acmpF (c := .ne) (by show _ = _; omega)) ?_
    refine y_same (i := .aload_n 0) (len := 1) (r := (0, 0, 0, 0)) (pc' := 27) (ls' := [some (.inl (some 32)), some (zi xx), some (zi xy)]) (st' := [.inl (some 32)]) (by decide +kernel) (fun k q => by cases q) rfl ?_
    refine y_get (j := 15) (len := 3) (r := (3, 1, 2, 276)) (by decide +kernel) hg (tv32 hg) aw32 rfl rfl (g_rU (f := 1) (T2 := 34) hg (tv32 hg) aw32 rfl (by decide)) ?_
    refine y_same (i := .iload_n 2) (len := 1) (r := (0, 0, 0, 0)) (pc' := 31) (ls' := [some (.inl (some 32)), some (zi xx), some (zi xy)]) (st' := [zi xy, .inl (some 34)]) (by decide +kernel) (fun k q => by cases q) rfl ?_
    refine y_ial (i := y) (len := 1) (r := (0, 0, 0, 0)) (by decide +kernel) hg (tv34 hg) aw34 (by omega) hb ?_
    refine y_ic (c := (-1)) (len := 1) (r := (0, 0, 0, 0)) (by decide +kernel) (by decide) (fun y3289 hy3289 => ?_)
    rcases Decidable.em (xb.toInt ≠ y3289.toInt) with q3290 | q3290
    ·
      refine y_cT (c := .ne) (off := 17) (pc' := 50) (len := 3) (r := (0, 0, 0, 0)) (by decide +kernel) (acmpT (c := .ne) (by show ¬ (_ = _); omega)) (by decide +kernel) ?_
      refine y_same (i := .aload_n 0) (len := 1) (r := (0, 0, 0, 0)) (pc' := 51) (ls' := [some (.inl (some 32)), some (zi xx), some (zi xy)]) (st' := [.inl (some 32)]) (by decide +kernel) (fun k q => by cases q) rfl ?_
      refine y_get (j := 9) (len := 3) (r := (3, 0, 2, 275)) (by decide +kernel) hg (tv32 hg) aw32 rfl rfl (g_rU (f := 0) (T2 := 33) hg (tv32 hg) aw32 rfl (by decide)) ?_
      refine y_same (i := .iload_n 1) (len := 1) (r := (0, 0, 0, 0)) (pc' := 55) (ls' := [some (.inl (some 32)), some (zi xx), some (zi xy)]) (st' := [zi xx, .inl (some 33)]) (by decide +kernel) (fun k q => by cases q) rfl ?_
      refine y_ial (i := x) (len := 1) (r := (0, 0, 0, 0)) (by decide +kernel) hg (tv33 hg) aw33 (by omega) hf ?_
      refine y_same (i := .iload_n 2) (len := 1) (r := (0, 0, 0, 0)) (pc' := 57) (ls' := [some (.inl (some 32)), some (zi xx), some (zi xy)]) (st' := [zi xy, zi xf]) (by decide +kernel) (fun k q => by cases q) rfl ?_
      rcases Decidable.em (xf.toInt ≠ xy.toInt) with q3291 | q3291
      ·
        refine y_cT (c := .ne) (off := 17) (pc' := 74) (len := 3) (r := (0, 0, 0, 0)) (by decide +kernel) (acmpT (c := .ne) (by show ¬ (_ = _); omega)) (by decide +kernel) ?_
        refine y_ic (c := 0) (len := 1) (r := (0, 0, 0, 0)) (by decide +kernel) (by decide) (fun y3292 hy3292 => ?_)
        refine y_rI (len := 1) (r := (0, 0, 0, 0)) (nL := 3) (k := 2) (n9 := 3) (hs := []) (by decide +kernel) rfl (zfit_b (by omega) (by omega)).2 ?_
        exact ⟨hg, fun k j _ _ => rfl, Or.inr ⟨by omega, tlO_no (fun q => by omega) (fun q => by omega)⟩⟩
      ·
        refine y_cF (c := .ne) (off := 17) (len := 3) (r := (0, 0, 0, 0)) (by decide +kernel) (acmpF (c := .ne) (by show _ = _; omega)) ?_
        refine y_same (i := .aload_n 0) (len := 1) (r := (0, 0, 0, 0)) (pc' := 61) (ls' := [some (.inl (some 32)), some (zi xx), some (zi xy)]) (st' := [.inl (some 32)]) (by decide +kernel) (fun k q => by cases q) rfl ?_
        refine y_get (j := 15) (len := 3) (r := (3, 1, 2, 276)) (by decide +kernel) hg (tv32 hg) aw32 rfl rfl (g_rU (f := 1) (T2 := 34) hg (tv32 hg) aw32 rfl (by decide)) ?_
        refine y_same (i := .iload_n 2) (len := 1) (r := (0, 0, 0, 0)) (pc' := 65) (ls' := [some (.inl (some 32)), some (zi xx), some (zi xy)]) (st' := [zi xy, .inl (some 34)]) (by decide +kernel) (fun k q => by cases q) rfl ?_
        refine y_ial (i := y) (len := 1) (r := (0, 0, 0, 0)) (by decide +kernel) hg (tv34 hg) aw34 (by omega) hb ?_
        refine y_same (i := .iload_n 1) (len := 1) (r := (0, 0, 0, 0)) (pc' := 67) (ls' := [some (.inl (some 32)), some (zi xx), some (zi xy)]) (st' := [zi xx, zi xb]) (by decide +kernel) (fun k q => by cases q) rfl ?_
        rcases Decidable.em (xb.toInt ≠ xx.toInt) with q3293 | q3293
        ·
          refine y_cT (c := .ne) (off := 7) (pc' := 74) (len := 3) (r := (0, 0, 0, 0)) (by decide +kernel) (acmpT (c := .ne) (by show ¬ (_ = _); omega)) (by decide +kernel) ?_
          refine y_ic (c := 0) (len := 1) (r := (0, 0, 0, 0)) (by decide +kernel) (by decide) (fun y3294 hy3294 => ?_)
          refine y_rI (len := 1) (r := (0, 0, 0, 0)) (nL := 3) (k := 2) (n9 := 3) (hs := []) (by decide +kernel) rfl (zfit_b (by omega) (by omega)).2 ?_
          exact ⟨hg, fun k j _ _ => rfl, Or.inr ⟨by omega, tlO_no (fun q => by omega) (fun q => by omega)⟩⟩
        ·
          refine y_cF (c := .ne) (off := 7) (len := 3) (r := (0, 0, 0, 0)) (by decide +kernel) (acmpF (c := .ne) (by show _ = _; omega)) ?_
          refine y_ic (c := 1) (len := 1) (r := (0, 0, 0, 0)) (by decide +kernel) (by decide) (fun y3295 hy3295 => ?_)
          refine y_goto (off := 4) (pc' := 75) (len := 3) (r := (0, 0, 0, 0)) (by decide +kernel) (by decide +kernel) ?_
          refine y_rI (len := 1) (r := (0, 0, 0, 0)) (nL := 3) (k := 2) (n9 := 3) (hs := []) (by decide +kernel) rfl (zfit_b (by omega) (by omega)).2 ?_
          exact ⟨hg, fun k j _ _ => rfl, Or.inl ⟨by omega, m, tlO_old (fun q => by omega) (by omega) (by omega), H⟩⟩
    ·
      refine y_cF (c := .ne) (off := 17) (len := 3) (r := (0, 0, 0, 0)) (by decide +kernel) (acmpF (c := .ne) (by show _ = _; omega)) ?_
      refine y_same (i := .aload_n 0) (len := 1) (r := (0, 0, 0, 0)) (pc' := 37) (ls' := [some (.inl (some 32)), some (zi xx), some (zi xy)]) (st' := [.inl (some 32)]) (by decide +kernel) (fun k q => by cases q) rfl ?_
      refine y_get (j := 9) (len := 3) (r := (3, 0, 2, 275)) (by decide +kernel) hg (tv32 hg) aw32 rfl rfl (g_rU (f := 0) (T2 := 33) hg (tv32 hg) aw32 rfl (by decide)) ?_
      refine y_same (i := .iload_n 1) (len := 1) (r := (0, 0, 0, 0)) (pc' := 41) (ls' := [some (.inl (some 32)), some (zi xx), some (zi xy)]) (st' := [zi xx, .inl (some 33)]) (by decide +kernel) (fun k q => by cases q) rfl ?_
      refine y_same (i := .iload_n 2) (len := 1) (r := (0, 0, 0, 0)) (pc' := 42) (ls' := [some (.inl (some 32)), some (zi xx), some (zi xy)]) (st' := [zi xy, zi xx, .inl (some 33)]) (by decide +kernel) (fun k q => by cases q) rfl ?_
      refine y_ias (i := x) (len := 1) (r := (0, 0, 0, 0)) (by decide +kernel) hg (tv33 hg) aw33 rfl (by omega) (by omega) (sr1 (by omega)) (qin_full _).1 (qin_full _).2 (fun h3296 hg3296 hl3296 hs3296 ho3296 => ?_)
      refine y_same (i := .aload_n 0) (len := 1) (r := (0, 0, 0, 0)) (pc' := 44) (ls' := [some (.inl (some 32)), some (zi xx), some (zi xy)]) (st' := [.inl (some 32)]) (by decide +kernel) (fun k q => by cases q) rfl ?_
      refine y_get (j := 15) (len := 3) (r := (3, 1, 2, 276)) (by decide +kernel) hg3296 (tv32 hg3296) aw32 rfl rfl (g_rU (f := 1) (T2 := 34) hg3296 (tv32 hg3296) aw32 rfl (by decide)) ?_
      refine y_same (i := .iload_n 2) (len := 1) (r := (0, 0, 0, 0)) (pc' := 48) (ls' := [some (.inl (some 32)), some (zi xx), some (zi xy)]) (st' := [zi xy, .inl (some 34)]) (by decide +kernel) (fun k q => by cases q) rfl ?_
      refine y_same (i := .iload_n 1) (len := 1) (r := (0, 0, 0, 0)) (pc' := 49) (ls' := [some (.inl (some 32)), some (zi xx), some (zi xy)]) (st' := [zi xx, zi xy, .inl (some 34)]) (by decide +kernel) (fun k q => by cases q) rfl ?_
      refine y_ias (i := y) (len := 1) (r := (0, 0, 0, 0)) (by decide +kernel) hg3296 (tv34 hg3296) aw34 rfl (by omega) (by omega) (sr1 (by omega)) (qin_full _).1 (qin_full _).2 (fun h3297 hg3297 hl3297 hs3297 ho3297 => ?_)
      refine y_same (i := .aload_n 0) (len := 1) (r := (0, 0, 0, 0)) (pc' := 51) (ls' := [some (.inl (some 32)), some (zi xx), some (zi xy)]) (st' := [.inl (some 32)]) (by decide +kernel) (fun k q => by cases q) rfl ?_
      refine y_get (j := 9) (len := 3) (r := (3, 0, 2, 275)) (by decide +kernel) hg3297 (tv32 hg3297) aw32 rfl rfl (g_rU (f := 0) (T2 := 33) hg3297 (tv32 hg3297) aw32 rfl (by decide)) ?_
      refine y_same (i := .iload_n 1) (len := 1) (r := (0, 0, 0, 0)) (pc' := 55) (ls' := [some (.inl (some 32)), some (zi xx), some (zi xy)]) (st' := [zi xx, .inl (some 33)]) (by decide +kernel) (fun k q => by cases q) rfl ?_
      have hv3298 := (ho3297 33 x (Or.inl (by omega))).trans hs3296
      refine y_ial (i := x) (len := 1) (r := (0, 0, 0, 0)) (by decide +kernel) hg3297 (tv33 hg3297) aw33 (by omega) hv3298 ?_
      refine y_same (i := .iload_n 2) (len := 1) (r := (0, 0, 0, 0)) (pc' := 57) (ls' := [some (.inl (some 32)), some (zi xx), some (zi xy)]) (st' := [zi xy, zi xy]) (by decide +kernel) (fun k q => by cases q) rfl ?_
      rcases Decidable.em (xy.toInt ≠ xy.toInt) with q3299 | q3299
      ·
        refine y_cT (c := .ne) (off := 17) (pc' := 74) (len := 3) (r := (0, 0, 0, 0)) (by decide +kernel) (acmpT (c := .ne) (by show ¬ (_ = _); omega)) (by decide +kernel) ?_
        refine y_ic (c := 0) (len := 1) (r := (0, 0, 0, 0)) (by decide +kernel) (by decide) (fun y3300 hy3300 => ?_)
        refine y_rI (len := 1) (r := (0, 0, 0, 0)) (nL := 3) (k := 2) (n9 := 3) (hs := []) (by decide +kernel) rfl (zfit_b (by omega) (by omega)).2 ?_
        exfalso
        omega
      ·
        refine y_cF (c := .ne) (off := 17) (len := 3) (r := (0, 0, 0, 0)) (by decide +kernel) (acmpF (c := .ne) (by show _ = _; omega)) ?_
        refine y_same (i := .aload_n 0) (len := 1) (r := (0, 0, 0, 0)) (pc' := 61) (ls' := [some (.inl (some 32)), some (zi xx), some (zi xy)]) (st' := [.inl (some 32)]) (by decide +kernel) (fun k q => by cases q) rfl ?_
        refine y_get (j := 15) (len := 3) (r := (3, 1, 2, 276)) (by decide +kernel) hg3297 (tv32 hg3297) aw32 rfl rfl (g_rU (f := 1) (T2 := 34) hg3297 (tv32 hg3297) aw32 rfl (by decide)) ?_
        refine y_same (i := .iload_n 2) (len := 1) (r := (0, 0, 0, 0)) (pc' := 65) (ls' := [some (.inl (some 32)), some (zi xx), some (zi xy)]) (st' := [zi xy, .inl (some 34)]) (by decide +kernel) (fun k q => by cases q) rfl ?_
        refine y_ial (i := y) (len := 1) (r := (0, 0, 0, 0)) (by decide +kernel) hg3297 (tv34 hg3297) aw34 (by omega) hs3297 ?_
        refine y_same (i := .iload_n 1) (len := 1) (r := (0, 0, 0, 0)) (pc' := 67) (ls' := [some (.inl (some 32)), some (zi xx), some (zi xy)]) (st' := [zi xx, zi xx]) (by decide +kernel) (fun k q => by cases q) rfl ?_
        rcases Decidable.em (xx.toInt ≠ xx.toInt) with q3301 | q3301
        ·
          refine y_cT (c := .ne) (off := 7) (pc' := 74) (len := 3) (r := (0, 0, 0, 0)) (by decide +kernel) (acmpT (c := .ne) (by show ¬ (_ = _); omega)) (by decide +kernel) ?_
          refine y_ic (c := 0) (len := 1) (r := (0, 0, 0, 0)) (by decide +kernel) (by decide) (fun y3302 hy3302 => ?_)
          refine y_rI (len := 1) (r := (0, 0, 0, 0)) (nL := 3) (k := 2) (n9 := 3) (hs := []) (by decide +kernel) rfl (zfit_b (by omega) (by omega)).2 ?_
          exfalso
          omega
        ·
          refine y_cF (c := .ne) (off := 7) (len := 3) (r := (0, 0, 0, 0)) (by decide +kernel) (acmpF (c := .ne) (by show _ = _; omega)) ?_
          refine y_ic (c := 1) (len := 1) (r := (0, 0, 0, 0)) (by decide +kernel) (by decide) (fun y3303 hy3303 => ?_)
          refine y_goto (off := 4) (pc' := 75) (len := 3) (r := (0, 0, 0, 0)) (by decide +kernel) (by decide +kernel) ?_
          refine y_rI (len := 1) (r := (0, 0, 0, 0)) (nL := 3) (k := 2) (n9 := 3) (hs := []) (by decide +kernel) rfl (zfit_b (by omega) (by omega)).2 ?_
          exact ⟨hg3297, fun k j h1 h2 => ((ho3297 k j (by omega)).trans (ho3296 k j (by omega))), Or.inl ⟨by omega, _, tlO_new ⟨by omega, by omega⟩, mpH_st H ⟨_, hv3298, by omega⟩ ⟨_, hs3297, by omega⟩ (fun j hj => ((ho3297 33 j (by omega)).trans (ho3296 33 j (by omega)))) (fun j hj => ((ho3297 34 j (by omega)).trans (ho3296 34 j (by omega))))⟩⟩
theorem e_tlsI {d t : Nat} {x y : Int} {τ : List Nat} {h : zh} {m : mp2} {xx xy : Int32} (hg : hG τ h) (H : mpH h m) (exx : xx.toInt = x) (hx : 0 ≤ x ∧ x ≤ 20) (exy : xy.toInt = y) (hy : 0 ≤ y ∧ y ≤ 20) : qI (d + 2) 29 [some (.inl (some 32)), some (zi xx), some (zi xy)] h t (fun y1 h1 => hG τ h1 ∧ FN h h1 ∧ ((y1.toInt = 1 ∧ ∃ m', tlO x y m = some m' ∧ mpH h1 m') ∨ (y1.toInt = 0 ∧ tlO x y m = none))) := by
  have k := e_tls (d := d) (t := t) (x := x.toNat) (y := y.toNat) hg H (show xx.toInt = _ by omega) (by omega) (show xy.toInt = _ by omega) (by omega)
  rw [show ((x.toNat : Nat) : Int) = x by omega, show ((y.toNat : Nat) : Int) = y by omega] at k
  exact k
theorem trw_l {d t : Nat} {τ : List Nat} {RA IA RB IB : Nat} {P Q : List it4} (tRA : τ[RA]? = some 1004) (tIA : τ[IA]? = some 1007) (tRB : τ[RB]? = some 1004) (tIB : τ[IB]? = some 1007) (nA : 388 < RA ∧ 388 < IA) (nB : 388 < RB ∧ 388 < IB) (oP : okL P) (oQ : okL Q) (hPQ : P.length = Q.length) : ∀ (n : Nat) (h : zh) (i : Nat) (xi : Int32) (l4 : Option zv) (m : mp2), (hG τ h) → (mpH h m) → (rwC h RA IA P) → (rwC h RB IB Q) → (hsl h RA 0 = some (.inl (some IA))) → (hsl h RB 0 = some (.inl (some IB))) → (xi.toInt = (i : Int)) → (i ≤ P.length) → (P.length < i + n) → qX (d + 3) 28 15 [some (.inl (some 32)), some (.inl (some RA)), some (.inl (some RB)), some (zi xi), l4] [] h t (rI (fun y1 h1 => hG τ h1 ∧ FN h h1 ∧ ((y1.toInt = 1 ∧ ∃ m', tlR (P.drop i) (Q.drop i) m = some m' ∧ mpH h1 m') ∨ (y1.toInt = 0 ∧ tlR (P.drop i) (Q.drop i) m = none))) t) := by
  intro n
  induction n with
  | zero =>
    intro h i xi l4 m hg H rA rB pRA pRB hxi hi hn
    exfalso
    omega
  | succ n ih =>
    intro h i xi l4 m hg H rA rB pRA pRB hxi hi hn
    obtain ⟨xa, ha1, ea1⟩ := rA.1
    obtain ⟨xb, hb1, eb1⟩ := rB.1
    obtain ⟨x9, e9, l9, u9⟩ := g_int (i := 1) (lo := 0) (hi := 14) hg tRA aw1004 (by decide) rfl
    have e8 := ha1.symm.trans e9
    cases e8
    refine y_same (i := .iload_n 3) (len := 1) (r := (0, 0, 0, 0)) (pc' := 16) (ls' := [some (.inl (some 32)), some (.inl (some RA)), some (.inl (some RB)), some (zi xi), l4]) (st' := [zi xi]) (by decide +kernel) (fun k q => by cases q) rfl ?_
    refine y_same (i := .aload_n 1) (len := 1) (r := (0, 0, 0, 0)) (pc' := 17) (ls' := [some (.inl (some 32)), some (.inl (some RA)), some (.inl (some RB)), some (zi xi), l4]) (st' := [.inl (some RA), zi xi]) (by decide +kernel) (fun k q => by cases q) rfl ?_
    refine y_get (j := 48) (len := 3) (r := (6, 1, 0, 20166)) (by decide +kernel) hg tRA aw1004 rfl rfl ha1 ?_
    rcases Decidable.em (xi.toInt ≥ xa.toInt) with q3304 | q3304
    ·
      refine y_cT (c := .ge) (off := 64) (pc' := 84) (len := 3) (r := (0, 0, 0, 0)) (by decide +kernel) (acmpT (c := .ge) (by show _ ≤ _; omega)) (by decide +kernel) ?_
      refine y_ic (c := 1) (len := 1) (r := (0, 0, 0, 0)) (by decide +kernel) (by decide) (fun y3305 hy3305 => ?_)
      refine y_rI (len := 1) (r := (0, 0, 0, 0)) (nL := 5) (k := 2) (n9 := 3) (hs := []) (by decide +kernel) rfl (zfit_b (by omega) (by omega)).2 ?_
      exact ⟨hg, fun k j _ _ => rfl, Or.inl ⟨by omega, m, tlR_e (by omega) (by omega), H⟩⟩
    ·
      refine y_cF (c := .ge) (off := 64) (len := 3) (r := (0, 0, 0, 0)) (by decide +kernel) (acmpF (c := .ge) (by show _ < _; omega)) ?_
      obtain ⟨ip, kip⟩ : ∃ i9, P[i]? = some i9 := ⟨_, List.getElem?_eq_getElem (by omega)⟩
      obtain ⟨iq, kiq⟩ : ∃ i9, Q[i]? = some i9 := ⟨_, List.getElem?_eq_getElem (by omega)⟩
      have okip := oP i ip kip
      have zip := okip
      unfold okV at zip
      have okiq := oQ i iq kiq
      have ziq := okiq
      unfold okV at ziq
      refine y_same (i := .aload_n 1) (len := 1) (r := (0, 0, 0, 0)) (pc' := 24) (ls' := [some (.inl (some 32)), some (.inl (some RA)), some (.inl (some RB)), some (zi xi), l4]) (st' := [.inl (some RA)]) (by decide +kernel) (fun k q => by cases q) rfl ?_
      refine y_same (i := .iload_n 3) (len := 1) (r := (0, 0, 0, 0)) (pc' := 25) (ls' := [some (.inl (some 32)), some (.inl (some RA)), some (.inl (some RB)), some (zi xi), l4]) (st' := [zi xi, .inl (some RA)]) (by decide +kernel) (fun k q => by cases q) rfl ?_
      refine y_ic (c := 0) (len := 1) (r := (0, 0, 0, 0)) (by decide +kernel) (by decide) (fun y3306 hy3306 => ?_)
      refine y_cI (i := .invokevirtual 54) (len := 3) (r := (0, 64, 6, 727)) (nL := 3) (k := 1) (n := 3) (hs := []) (args := [.inl (some RA), zi xi, zi y3306]) (rest := []) (l0 := [some (.inl (some RA)), some (zi xi), some (zi y3306)]) (by decide +kernel) (Or.inr (Or.inl ⟨_, rfl⟩)) rfl rfl rfl rfl (Nat.le_of_ble_eq_true rfl) (zO hg tRA aw1004 rfl) rfl (qI_le (by omega) (e_tlV (d := 0) (k := i) (w := 0) hg tRA tIA (pRA) rA (by omega) kip (okip) (by omega) (by omega))) (fun y3307 qy3307 hRy3307 => ?_)
      obtain ⟨rfl, ey3307⟩ := hRy3307
      have ey3307 : y3307.toInt = ip.1 := ey3307
      refine y_same (i := .aload_n 2) (len := 1) (r := (0, 0, 0, 0)) (pc' := 30) (ls' := [some (.inl (some 32)), some (.inl (some RA)), some (.inl (some RB)), some (zi xi), l4]) (st' := [.inl (some RB), zi y3307]) (by decide +kernel) (fun k q => by cases q) rfl ?_
      refine y_same (i := .iload_n 3) (len := 1) (r := (0, 0, 0, 0)) (pc' := 31) (ls' := [some (.inl (some 32)), some (.inl (some RA)), some (.inl (some RB)), some (zi xi), l4]) (st' := [zi xi, .inl (some RB), zi y3307]) (by decide +kernel) (fun k q => by cases q) rfl ?_
      refine y_ic (c := 0) (len := 1) (r := (0, 0, 0, 0)) (by decide +kernel) (by decide) (fun y3308 hy3308 => ?_)
      refine y_cI (i := .invokevirtual 54) (len := 3) (r := (0, 64, 6, 727)) (nL := 3) (k := 1) (n := 3) (hs := []) (args := [.inl (some RB), zi xi, zi y3308]) (rest := [zi y3307]) (l0 := [some (.inl (some RB)), some (zi xi), some (zi y3308)]) (by decide +kernel) (Or.inr (Or.inl ⟨_, rfl⟩)) rfl rfl rfl rfl (Nat.le_of_ble_eq_true rfl) (zO hg tRB aw1004 rfl) rfl (qI_le (by omega) (e_tlV (d := 0) (k := i) (w := 0) hg tRB tIB (pRB) rB (by omega) kiq (okiq) (by omega) (by omega))) (fun y3309 qy3309 hRy3309 => ?_)
      obtain ⟨rfl, ey3309⟩ := hRy3309
      have ey3309 : y3309.toInt = iq.1 := ey3309
      rcases Decidable.em (y3307.toInt = y3309.toInt) with q3310 | q3310
      ·
        refine y_cT (c := .eq) (off := 5) (pc' := 40) (len := 3) (r := (0, 0, 0, 0)) (by decide +kernel) (acmpT (c := .eq) (by show _ = _; omega)) (by decide +kernel) ?_
        refine y_ic (c := 1) (len := 1) (r := (0, 0, 0, 0)) (by decide +kernel) (by decide) (fun y3311 hy3311 => ?_)
        refine y_same (i := .istore 4) (len := 2) (r := (0, 0, 0, 0)) (pc' := 43) (ls' := [some (.inl (some 32)), some (.inl (some RA)), some (.inl (some RB)), some (zi xi), some (zi y3311)]) (st' := []) (by decide +kernel) (fun k q => by cases q) rfl ?_
        refine y_same (i := .iload 4) (len := 2) (r := (0, 0, 0, 0)) (pc' := 45) (ls' := [some (.inl (some 32)), some (.inl (some RA)), some (.inl (some RB)), some (zi xi), some (zi y3311)]) (st' := [zi y3311]) (by decide +kernel) (fun k q => by cases q) rfl ?_
        refine y_ic (c := 3) (len := 1) (r := (0, 0, 0, 0)) (by decide +kernel) (by decide) (fun y3312 hy3312 => ?_)
        refine y_cF (c := .gt) (off := 32) (len := 3) (r := (0, 0, 0, 0)) (by decide +kernel) (acmpF (c := .gt) (by show _ ≤ _; omega)) ?_
        refine y_same (i := .aload_n 0) (len := 1) (r := (0, 0, 0, 0)) (pc' := 50) (ls' := [some (.inl (some 32)), some (.inl (some RA)), some (.inl (some RB)), some (zi xi), some (zi y3311)]) (st' := [.inl (some 32)]) (by decide +kernel) (fun k q => by cases q) rfl ?_
        refine y_same (i := .aload_n 1) (len := 1) (r := (0, 0, 0, 0)) (pc' := 51) (ls' := [some (.inl (some 32)), some (.inl (some RA)), some (.inl (some RB)), some (zi xi), some (zi y3311)]) (st' := [.inl (some RA), .inl (some 32)]) (by decide +kernel) (fun k q => by cases q) rfl ?_
        refine y_same (i := .iload_n 3) (len := 1) (r := (0, 0, 0, 0)) (pc' := 52) (ls' := [some (.inl (some 32)), some (.inl (some RA)), some (.inl (some RB)), some (zi xi), some (zi y3311)]) (st' := [zi xi, .inl (some RA), .inl (some 32)]) (by decide +kernel) (fun k q => by cases q) rfl ?_
        refine y_same (i := .iload 4) (len := 2) (r := (0, 0, 0, 0)) (pc' := 54) (ls' := [some (.inl (some 32)), some (.inl (some RA)), some (.inl (some RB)), some (zi xi), some (zi y3311)]) (st' := [zi y3311, zi xi, .inl (some RA), .inl (some 32)]) (by decide +kernel) (fun k q => by cases q) rfl ?_
        refine y_cI (i := .invokevirtual 54) (len := 3) (r := (0, 64, 6, 727)) (nL := 3) (k := 1) (n := 3) (hs := []) (args := [.inl (some RA), zi xi, zi y3311]) (rest := [.inl (some 32)]) (l0 := [some (.inl (some RA)), some (zi xi), some (zi y3311)]) (by decide +kernel) (Or.inr (Or.inl ⟨_, rfl⟩)) rfl rfl rfl rfl (Nat.le_of_ble_eq_true rfl) (zO hg tRA aw1004 rfl) rfl (qI_le (by omega) (e_tlV (d := 0) (k := i) (w := 1) hg tRA tIA (pRA) rA (by omega) kip (okip) (by omega) (by omega))) (fun y3313 qy3313 hRy3313 => ?_)
        obtain ⟨rfl, ey3313⟩ := hRy3313
        have ey3313 : y3313.toInt = ip.2.1 := ey3313
        refine y_same (i := .aload_n 2) (len := 1) (r := (0, 0, 0, 0)) (pc' := 58) (ls' := [some (.inl (some 32)), some (.inl (some RA)), some (.inl (some RB)), some (zi xi), some (zi y3311)]) (st' := [.inl (some RB), zi y3313, .inl (some 32)]) (by decide +kernel) (fun k q => by cases q) rfl ?_
        refine y_same (i := .iload_n 3) (len := 1) (r := (0, 0, 0, 0)) (pc' := 59) (ls' := [some (.inl (some 32)), some (.inl (some RA)), some (.inl (some RB)), some (zi xi), some (zi y3311)]) (st' := [zi xi, .inl (some RB), zi y3313, .inl (some 32)]) (by decide +kernel) (fun k q => by cases q) rfl ?_
        refine y_same (i := .iload 4) (len := 2) (r := (0, 0, 0, 0)) (pc' := 61) (ls' := [some (.inl (some 32)), some (.inl (some RA)), some (.inl (some RB)), some (zi xi), some (zi y3311)]) (st' := [zi y3311, zi xi, .inl (some RB), zi y3313, .inl (some 32)]) (by decide +kernel) (fun k q => by cases q) rfl ?_
        refine y_cI (i := .invokevirtual 54) (len := 3) (r := (0, 64, 6, 727)) (nL := 3) (k := 1) (n := 3) (hs := []) (args := [.inl (some RB), zi xi, zi y3311]) (rest := [zi y3313, .inl (some 32)]) (l0 := [some (.inl (some RB)), some (zi xi), some (zi y3311)]) (by decide +kernel) (Or.inr (Or.inl ⟨_, rfl⟩)) rfl rfl rfl rfl (Nat.le_of_ble_eq_true rfl) (zO hg tRB aw1004 rfl) rfl (qI_le (by omega) (e_tlV (d := 0) (k := i) (w := 1) hg tRB tIB (pRB) rB (by omega) kiq (okiq) (by omega) (by omega))) (fun y3314 qy3314 hRy3314 => ?_)
        obtain ⟨rfl, ey3314⟩ := hRy3314
        have ey3314 : y3314.toInt = iq.2.1 := ey3314
        refine y_cI (i := .invokevirtual 58) (len := 3) (r := (0, 29, 3, 728)) (nL := 3) (k := 2) (n := 3) (hs := []) (args := [.inl (some 32), zi y3313, zi y3314]) (rest := []) (l0 := [some (.inl (some 32)), some (zi y3313), some (zi y3314)]) (by decide +kernel) (Or.inr (Or.inl ⟨_, rfl⟩)) rfl rfl rfl rfl (Nat.le_of_ble_eq_true rfl) (zO hg (tv32 hg) aw32 rfl) rfl (qI_le (by omega) (e_tlsI (d := 0) (x := ip.2.1) (y := iq.2.1) hg H (by omega) (by omega) (by omega) (by omega))) (fun y3315 h3315 hRy3315 => ?_)
        obtain ⟨hg3315, F3315, hDy3315⟩ := hRy3315
        have rRA3315 := rwC_up rA (F3315 RA 1 (by omega) (by omega)) (fun j => F3315 IA j (by omega) (by omega))
        have rRB3315 := rwC_up rB (F3315 RB 1 (by omega) (by omega)) (fun j => F3315 IB j (by omega) (by omega))
        rcases hDy3315 with ⟨v3315, m3315, e3315, H3315⟩ | ⟨v3315, e3315⟩
        ·
          refine y_iT (c := .ne) (off := 5) (pc' := 72) (len := 3) (r := (0, 0, 0, 0)) (by decide +kernel) (acmpT (c := .ne) (by show ¬ (_ = _); omega)) (by decide +kernel) ?_
          refine y_inc (j := 4) (a := y3311) (c := 1) (ls' := fun v => [some (.inl (some 32)), some (.inl (some RA)), some (.inl (some RB)), some (zi xi), some v]) (len := 3) (r := (0, 0, 0, 0)) (by decide +kernel) rfl (fun _ => rfl) (by decide) (by omega) (by omega) (fun y3316 hy3316 => ?_)
          show qX (d + 3) 28 75 [some (.inl (some 32)), some (.inl (some RA)), some (.inl (some RB)), some (zi xi), some (zi y3316)] [] h3315 t _
          refine y_goto (off := (-32)) (pc' := 43) (len := 3) (r := (0, 0, 0, 0)) (by decide +kernel) (by decide +kernel) ?_
          refine y_same (i := .iload 4) (len := 2) (r := (0, 0, 0, 0)) (pc' := 45) (ls' := [some (.inl (some 32)), some (.inl (some RA)), some (.inl (some RB)), some (zi xi), some (zi y3316)]) (st' := [zi y3316]) (by decide +kernel) (fun k q => by cases q) rfl ?_
          refine y_ic (c := 3) (len := 1) (r := (0, 0, 0, 0)) (by decide +kernel) (by decide) (fun y3317 hy3317 => ?_)
          refine y_cF (c := .gt) (off := 32) (len := 3) (r := (0, 0, 0, 0)) (by decide +kernel) (acmpF (c := .gt) (by show _ ≤ _; omega)) ?_
          refine y_same (i := .aload_n 0) (len := 1) (r := (0, 0, 0, 0)) (pc' := 50) (ls' := [some (.inl (some 32)), some (.inl (some RA)), some (.inl (some RB)), some (zi xi), some (zi y3316)]) (st' := [.inl (some 32)]) (by decide +kernel) (fun k q => by cases q) rfl ?_
          refine y_same (i := .aload_n 1) (len := 1) (r := (0, 0, 0, 0)) (pc' := 51) (ls' := [some (.inl (some 32)), some (.inl (some RA)), some (.inl (some RB)), some (zi xi), some (zi y3316)]) (st' := [.inl (some RA), .inl (some 32)]) (by decide +kernel) (fun k q => by cases q) rfl ?_
          refine y_same (i := .iload_n 3) (len := 1) (r := (0, 0, 0, 0)) (pc' := 52) (ls' := [some (.inl (some 32)), some (.inl (some RA)), some (.inl (some RB)), some (zi xi), some (zi y3316)]) (st' := [zi xi, .inl (some RA), .inl (some 32)]) (by decide +kernel) (fun k q => by cases q) rfl ?_
          refine y_same (i := .iload 4) (len := 2) (r := (0, 0, 0, 0)) (pc' := 54) (ls' := [some (.inl (some 32)), some (.inl (some RA)), some (.inl (some RB)), some (zi xi), some (zi y3316)]) (st' := [zi y3316, zi xi, .inl (some RA), .inl (some 32)]) (by decide +kernel) (fun k q => by cases q) rfl ?_
          refine y_cI (i := .invokevirtual 54) (len := 3) (r := (0, 64, 6, 727)) (nL := 3) (k := 1) (n := 3) (hs := []) (args := [.inl (some RA), zi xi, zi y3316]) (rest := [.inl (some 32)]) (l0 := [some (.inl (some RA)), some (zi xi), some (zi y3316)]) (by decide +kernel) (Or.inr (Or.inl ⟨_, rfl⟩)) rfl rfl rfl rfl (Nat.le_of_ble_eq_true rfl) (zO hg3315 tRA aw1004 rfl) rfl (qI_le (by omega) (e_tlV (d := 0) (k := i) (w := 2) hg3315 tRA tIA (((F3315 RA 0 (by omega) (by omega))).trans pRA) rRA3315 (by omega) kip (okip) (by omega) (by omega))) (fun y3318 qy3318 hRy3318 => ?_)
          obtain ⟨rfl, ey3318⟩ := hRy3318
          have ey3318 : y3318.toInt = ip.2.2.1 := ey3318
          refine y_same (i := .aload_n 2) (len := 1) (r := (0, 0, 0, 0)) (pc' := 58) (ls' := [some (.inl (some 32)), some (.inl (some RA)), some (.inl (some RB)), some (zi xi), some (zi y3316)]) (st' := [.inl (some RB), zi y3318, .inl (some 32)]) (by decide +kernel) (fun k q => by cases q) rfl ?_
          refine y_same (i := .iload_n 3) (len := 1) (r := (0, 0, 0, 0)) (pc' := 59) (ls' := [some (.inl (some 32)), some (.inl (some RA)), some (.inl (some RB)), some (zi xi), some (zi y3316)]) (st' := [zi xi, .inl (some RB), zi y3318, .inl (some 32)]) (by decide +kernel) (fun k q => by cases q) rfl ?_
          refine y_same (i := .iload 4) (len := 2) (r := (0, 0, 0, 0)) (pc' := 61) (ls' := [some (.inl (some 32)), some (.inl (some RA)), some (.inl (some RB)), some (zi xi), some (zi y3316)]) (st' := [zi y3316, zi xi, .inl (some RB), zi y3318, .inl (some 32)]) (by decide +kernel) (fun k q => by cases q) rfl ?_
          refine y_cI (i := .invokevirtual 54) (len := 3) (r := (0, 64, 6, 727)) (nL := 3) (k := 1) (n := 3) (hs := []) (args := [.inl (some RB), zi xi, zi y3316]) (rest := [zi y3318, .inl (some 32)]) (l0 := [some (.inl (some RB)), some (zi xi), some (zi y3316)]) (by decide +kernel) (Or.inr (Or.inl ⟨_, rfl⟩)) rfl rfl rfl rfl (Nat.le_of_ble_eq_true rfl) (zO hg3315 tRB aw1004 rfl) rfl (qI_le (by omega) (e_tlV (d := 0) (k := i) (w := 2) hg3315 tRB tIB (((F3315 RB 0 (by omega) (by omega))).trans pRB) rRB3315 (by omega) kiq (okiq) (by omega) (by omega))) (fun y3319 qy3319 hRy3319 => ?_)
          obtain ⟨rfl, ey3319⟩ := hRy3319
          have ey3319 : y3319.toInt = iq.2.2.1 := ey3319
          refine y_cI (i := .invokevirtual 58) (len := 3) (r := (0, 29, 3, 728)) (nL := 3) (k := 2) (n := 3) (hs := []) (args := [.inl (some 32), zi y3318, zi y3319]) (rest := []) (l0 := [some (.inl (some 32)), some (zi y3318), some (zi y3319)]) (by decide +kernel) (Or.inr (Or.inl ⟨_, rfl⟩)) rfl rfl rfl rfl (Nat.le_of_ble_eq_true rfl) (zO hg3315 (tv32 hg3315) aw32 rfl) rfl (qI_le (by omega) (e_tlsI (d := 0) (x := ip.2.2.1) (y := iq.2.2.1) hg3315 H3315 (by omega) (by omega) (by omega) (by omega))) (fun y3320 h3320 hRy3320 => ?_)
          obtain ⟨hg3320, F3320, hDy3320⟩ := hRy3320
          have rRA3320 := rwC_up rRA3315 (F3320 RA 1 (by omega) (by omega)) (fun j => F3320 IA j (by omega) (by omega))
          have rRB3320 := rwC_up rRB3315 (F3320 RB 1 (by omega) (by omega)) (fun j => F3320 IB j (by omega) (by omega))
          rcases hDy3320 with ⟨v3320, m3320, e3320, H3320⟩ | ⟨v3320, e3320⟩
          ·
            refine y_iT (c := .ne) (off := 5) (pc' := 72) (len := 3) (r := (0, 0, 0, 0)) (by decide +kernel) (acmpT (c := .ne) (by show ¬ (_ = _); omega)) (by decide +kernel) ?_
            refine y_inc (j := 4) (a := y3316) (c := 1) (ls' := fun v => [some (.inl (some 32)), some (.inl (some RA)), some (.inl (some RB)), some (zi xi), some v]) (len := 3) (r := (0, 0, 0, 0)) (by decide +kernel) rfl (fun _ => rfl) (by decide) (by omega) (by omega) (fun y3321 hy3321 => ?_)
            show qX (d + 3) 28 75 [some (.inl (some 32)), some (.inl (some RA)), some (.inl (some RB)), some (zi xi), some (zi y3321)] [] h3320 t _
            refine y_goto (off := (-32)) (pc' := 43) (len := 3) (r := (0, 0, 0, 0)) (by decide +kernel) (by decide +kernel) ?_
            refine y_same (i := .iload 4) (len := 2) (r := (0, 0, 0, 0)) (pc' := 45) (ls' := [some (.inl (some 32)), some (.inl (some RA)), some (.inl (some RB)), some (zi xi), some (zi y3321)]) (st' := [zi y3321]) (by decide +kernel) (fun k q => by cases q) rfl ?_
            refine y_ic (c := 3) (len := 1) (r := (0, 0, 0, 0)) (by decide +kernel) (by decide) (fun y3322 hy3322 => ?_)
            refine y_cF (c := .gt) (off := 32) (len := 3) (r := (0, 0, 0, 0)) (by decide +kernel) (acmpF (c := .gt) (by show _ ≤ _; omega)) ?_
            refine y_same (i := .aload_n 0) (len := 1) (r := (0, 0, 0, 0)) (pc' := 50) (ls' := [some (.inl (some 32)), some (.inl (some RA)), some (.inl (some RB)), some (zi xi), some (zi y3321)]) (st' := [.inl (some 32)]) (by decide +kernel) (fun k q => by cases q) rfl ?_
            refine y_same (i := .aload_n 1) (len := 1) (r := (0, 0, 0, 0)) (pc' := 51) (ls' := [some (.inl (some 32)), some (.inl (some RA)), some (.inl (some RB)), some (zi xi), some (zi y3321)]) (st' := [.inl (some RA), .inl (some 32)]) (by decide +kernel) (fun k q => by cases q) rfl ?_
            refine y_same (i := .iload_n 3) (len := 1) (r := (0, 0, 0, 0)) (pc' := 52) (ls' := [some (.inl (some 32)), some (.inl (some RA)), some (.inl (some RB)), some (zi xi), some (zi y3321)]) (st' := [zi xi, .inl (some RA), .inl (some 32)]) (by decide +kernel) (fun k q => by cases q) rfl ?_
            refine y_same (i := .iload 4) (len := 2) (r := (0, 0, 0, 0)) (pc' := 54) (ls' := [some (.inl (some 32)), some (.inl (some RA)), some (.inl (some RB)), some (zi xi), some (zi y3321)]) (st' := [zi y3321, zi xi, .inl (some RA), .inl (some 32)]) (by decide +kernel) (fun k q => by cases q) rfl ?_
            refine y_cI (i := .invokevirtual 54) (len := 3) (r := (0, 64, 6, 727)) (nL := 3) (k := 1) (n := 3) (hs := []) (args := [.inl (some RA), zi xi, zi y3321]) (rest := [.inl (some 32)]) (l0 := [some (.inl (some RA)), some (zi xi), some (zi y3321)]) (by decide +kernel) (Or.inr (Or.inl ⟨_, rfl⟩)) rfl rfl rfl rfl (Nat.le_of_ble_eq_true rfl) (zO hg3320 tRA aw1004 rfl) rfl (qI_le (by omega) (e_tlV (d := 0) (k := i) (w := 3) hg3320 tRA tIA ((((F3320 RA 0 (by omega) (by omega)).trans (F3315 RA 0 (by omega) (by omega)))).trans pRA) rRA3320 (by omega) kip (okip) (by omega) (by omega))) (fun y3323 qy3323 hRy3323 => ?_)
            obtain ⟨rfl, ey3323⟩ := hRy3323
            have ey3323 : y3323.toInt = ip.2.2.2 := ey3323
            refine y_same (i := .aload_n 2) (len := 1) (r := (0, 0, 0, 0)) (pc' := 58) (ls' := [some (.inl (some 32)), some (.inl (some RA)), some (.inl (some RB)), some (zi xi), some (zi y3321)]) (st' := [.inl (some RB), zi y3323, .inl (some 32)]) (by decide +kernel) (fun k q => by cases q) rfl ?_
            refine y_same (i := .iload_n 3) (len := 1) (r := (0, 0, 0, 0)) (pc' := 59) (ls' := [some (.inl (some 32)), some (.inl (some RA)), some (.inl (some RB)), some (zi xi), some (zi y3321)]) (st' := [zi xi, .inl (some RB), zi y3323, .inl (some 32)]) (by decide +kernel) (fun k q => by cases q) rfl ?_
            refine y_same (i := .iload 4) (len := 2) (r := (0, 0, 0, 0)) (pc' := 61) (ls' := [some (.inl (some 32)), some (.inl (some RA)), some (.inl (some RB)), some (zi xi), some (zi y3321)]) (st' := [zi y3321, zi xi, .inl (some RB), zi y3323, .inl (some 32)]) (by decide +kernel) (fun k q => by cases q) rfl ?_
            refine y_cI (i := .invokevirtual 54) (len := 3) (r := (0, 64, 6, 727)) (nL := 3) (k := 1) (n := 3) (hs := []) (args := [.inl (some RB), zi xi, zi y3321]) (rest := [zi y3323, .inl (some 32)]) (l0 := [some (.inl (some RB)), some (zi xi), some (zi y3321)]) (by decide +kernel) (Or.inr (Or.inl ⟨_, rfl⟩)) rfl rfl rfl rfl (Nat.le_of_ble_eq_true rfl) (zO hg3320 tRB aw1004 rfl) rfl (qI_le (by omega) (e_tlV (d := 0) (k := i) (w := 3) hg3320 tRB tIB ((((F3320 RB 0 (by omega) (by omega)).trans (F3315 RB 0 (by omega) (by omega)))).trans pRB) rRB3320 (by omega) kiq (okiq) (by omega) (by omega))) (fun y3324 qy3324 hRy3324 => ?_)
            obtain ⟨rfl, ey3324⟩ := hRy3324
            have ey3324 : y3324.toInt = iq.2.2.2 := ey3324
            refine y_cI (i := .invokevirtual 58) (len := 3) (r := (0, 29, 3, 728)) (nL := 3) (k := 2) (n := 3) (hs := []) (args := [.inl (some 32), zi y3323, zi y3324]) (rest := []) (l0 := [some (.inl (some 32)), some (zi y3323), some (zi y3324)]) (by decide +kernel) (Or.inr (Or.inl ⟨_, rfl⟩)) rfl rfl rfl rfl (Nat.le_of_ble_eq_true rfl) (zO hg3320 (tv32 hg3320) aw32 rfl) rfl (qI_le (by omega) (e_tlsI (d := 0) (x := ip.2.2.2) (y := iq.2.2.2) hg3320 H3320 (by omega) (by omega) (by omega) (by omega))) (fun y3325 h3325 hRy3325 => ?_)
            obtain ⟨hg3325, F3325, hDy3325⟩ := hRy3325
            have rRA3325 := rwC_up rRA3320 (F3325 RA 1 (by omega) (by omega)) (fun j => F3325 IA j (by omega) (by omega))
            have rRB3325 := rwC_up rRB3320 (F3325 RB 1 (by omega) (by omega)) (fun j => F3325 IB j (by omega) (by omega))
            rcases hDy3325 with ⟨v3325, m3325, e3325, H3325⟩ | ⟨v3325, e3325⟩
            ·
              refine y_iT (c := .ne) (off := 5) (pc' := 72) (len := 3) (r := (0, 0, 0, 0)) (by decide +kernel) (acmpT (c := .ne) (by show ¬ (_ = _); omega)) (by decide +kernel) ?_
              refine y_inc (j := 4) (a := y3321) (c := 1) (ls' := fun v => [some (.inl (some 32)), some (.inl (some RA)), some (.inl (some RB)), some (zi xi), some v]) (len := 3) (r := (0, 0, 0, 0)) (by decide +kernel) rfl (fun _ => rfl) (by decide) (by omega) (by omega) (fun y3326 hy3326 => ?_)
              show qX (d + 3) 28 75 [some (.inl (some 32)), some (.inl (some RA)), some (.inl (some RB)), some (zi xi), some (zi y3326)] [] h3325 t _
              refine y_goto (off := (-32)) (pc' := 43) (len := 3) (r := (0, 0, 0, 0)) (by decide +kernel) (by decide +kernel) ?_
              refine y_same (i := .iload 4) (len := 2) (r := (0, 0, 0, 0)) (pc' := 45) (ls' := [some (.inl (some 32)), some (.inl (some RA)), some (.inl (some RB)), some (zi xi), some (zi y3326)]) (st' := [zi y3326]) (by decide +kernel) (fun k q => by cases q) rfl ?_
              refine y_ic (c := 3) (len := 1) (r := (0, 0, 0, 0)) (by decide +kernel) (by decide) (fun y3327 hy3327 => ?_)
              refine y_cT (c := .gt) (off := 32) (pc' := 78) (len := 3) (r := (0, 0, 0, 0)) (by decide +kernel) (acmpT (c := .gt) (by show _ < _; omega)) (by decide +kernel) ?_
              refine y_inc (j := 3) (a := xi) (c := 1) (ls' := fun v => [some (.inl (some 32)), some (.inl (some RA)), some (.inl (some RB)), some v, some (zi y3326)]) (len := 3) (r := (0, 0, 0, 0)) (by decide +kernel) rfl (fun _ => rfl) (by decide) (by omega) (by omega) (fun y3328 hy3328 => ?_)
              show qX (d + 3) 28 81 [some (.inl (some 32)), some (.inl (some RA)), some (.inl (some RB)), some (zi y3328), some (zi y3326)] [] h3325 t _
              refine y_goto (off := (-66)) (pc' := 15) (len := 3) (r := (0, 0, 0, 0)) (by decide +kernel) (by decide +kernel) ?_
              have nx := tlR_s kip kiq (tlI_3 (by omega) e3315 e3320 e3325)
              rw [nx]
              refine qX_I (ih h3325 (i + 1) y3328 (some (zi y3326)) m3325 hg3325 H3325 rRA3325 rRB3325 ((((F3325 RA 0 (by omega) (by omega)).trans ((F3320 RA 0 (by omega) (by omega)).trans (F3315 RA 0 (by omega) (by omega))))).trans pRA) ((((F3325 RB 0 (by omega) (by omega)).trans ((F3320 RB 0 (by omega) (by omega)).trans (F3315 RB 0 (by omega) (by omega))))).trans pRB) (by omega) (by omega) (by omega)) (fun y h1 hR => ⟨hR.1, FN_tr (fun k j h1 h2 => ((F3325 k j (by omega) (by omega)).trans ((F3320 k j (by omega) (by omega)).trans (F3315 k j (by omega) (by omega))))) hR.2.1, hR.2.2⟩)
            ·
              refine y_iF (c := .ne) (off := 5) (len := 3) (r := (0, 0, 0, 0)) (by decide +kernel) (acmpF (c := .ne) (by show _ = _; omega)) ?_
              refine y_ic (c := 0) (len := 1) (r := (0, 0, 0, 0)) (by decide +kernel) (by decide) (fun y3329 hy3329 => ?_)
              refine y_rI (len := 1) (r := (0, 0, 0, 0)) (nL := 5) (k := 2) (n9 := 3) (hs := []) (by decide +kernel) rfl (zfit_b (by omega) (by omega)).2 ?_
              exact ⟨hg3325, fun k j h1 h2 => ((F3325 k j (by omega) (by omega)).trans ((F3320 k j (by omega) (by omega)).trans (F3315 k j (by omega) (by omega)))), Or.inr ⟨by omega, tlR_n kip kiq (tlI_3 (by omega) e3315 e3320 e3325)⟩⟩
          ·
            refine y_iF (c := .ne) (off := 5) (len := 3) (r := (0, 0, 0, 0)) (by decide +kernel) (acmpF (c := .ne) (by show _ = _; omega)) ?_
            refine y_ic (c := 0) (len := 1) (r := (0, 0, 0, 0)) (by decide +kernel) (by decide) (fun y3330 hy3330 => ?_)
            refine y_rI (len := 1) (r := (0, 0, 0, 0)) (nL := 5) (k := 2) (n9 := 3) (hs := []) (by decide +kernel) rfl (zfit_b (by omega) (by omega)).2 ?_
            exact ⟨hg3320, fun k j h1 h2 => ((F3320 k j (by omega) (by omega)).trans (F3315 k j (by omega) (by omega))), Or.inr ⟨by omega, tlR_n kip kiq (tlI_2 (by omega) e3315 e3320)⟩⟩
        ·
          refine y_iF (c := .ne) (off := 5) (len := 3) (r := (0, 0, 0, 0)) (by decide +kernel) (acmpF (c := .ne) (by show _ = _; omega)) ?_
          refine y_ic (c := 0) (len := 1) (r := (0, 0, 0, 0)) (by decide +kernel) (by decide) (fun y3331 hy3331 => ?_)
          refine y_rI (len := 1) (r := (0, 0, 0, 0)) (nL := 5) (k := 2) (n9 := 3) (hs := []) (by decide +kernel) rfl (zfit_b (by omega) (by omega)).2 ?_
          exact ⟨hg3315, fun k j h1 h2 => (F3315 k j (by omega) (by omega)), Or.inr ⟨by omega, tlR_n kip kiq (tlI_1 (by omega) e3315)⟩⟩
      ·
        refine y_cF (c := .eq) (off := 5) (len := 3) (r := (0, 0, 0, 0)) (by decide +kernel) (acmpF (c := .eq) (by show ¬ (_ = _); omega)) ?_
        refine y_ic (c := 0) (len := 1) (r := (0, 0, 0, 0)) (by decide +kernel) (by decide) (fun y3332 hy3332 => ?_)
        refine y_rI (len := 1) (r := (0, 0, 0, 0)) (nL := 5) (k := 2) (n9 := 3) (hs := []) (by decide +kernel) rfl (zfit_b (by omega) (by omega)).2 ?_
        exact ⟨hg, fun k j h1 h2 => rfl, Or.inr ⟨by omega, tlR_n kip kiq (tlI_k (by omega))⟩⟩
theorem e_trw {d t : Nat} {τ : List Nat} {h : zh} {m : mp2} {RA IA RB IB : Nat} {P Q : List it4} (tRA : τ[RA]? = some 1004) (tIA : τ[IA]? = some 1007) (tRB : τ[RB]? = some 1004) (tIB : τ[IB]? = some 1007) (nA : 388 < RA ∧ 388 < IA) (nB : 388 < RB ∧ 388 < IB) (oP : okL P) (oQ : okL Q) (hg : hG τ h) (H : mpH h m) (rA : rwC h RA IA P) (rB : rwC h RB IB Q) (pRA : hsl h RA 0 = some (.inl (some IA))) (pRB : hsl h RB 0 = some (.inl (some IB))) : qI (d + 4) 28 [some (.inl (some 32)), some (.inl (some RA)), some (.inl (some RB)), none, none] h t (fun y1 h1 => hG τ h1 ∧ FN h h1 ∧ ((y1.toInt = 1 ∧ ∃ m', tlR P Q m = some m' ∧ mpH h1 m') ∨ (y1.toInt = 0 ∧ tlR P Q m = none))) := by
  obtain ⟨xa, ha1, ea1⟩ := rA.1
  obtain ⟨xb, hb1, eb1⟩ := rB.1
  refine qI_of ?_
  refine y_same (i := .aload_n 1) (len := 1) (r := (0, 0, 0, 0)) (pc' := 1) (ls' := [some (.inl (some 32)), some (.inl (some RA)), some (.inl (some RB)), none, none]) (st' := [.inl (some RA)]) (by decide +kernel) (fun k q => by cases q) rfl ?_
  refine y_get (j := 48) (len := 3) (r := (6, 1, 0, 20166)) (by decide +kernel) hg tRA aw1004 rfl rfl ha1 ?_
  refine y_same (i := .aload_n 2) (len := 1) (r := (0, 0, 0, 0)) (pc' := 5) (ls' := [some (.inl (some 32)), some (.inl (some RA)), some (.inl (some RB)), none, none]) (st' := [.inl (some RB), zi xa]) (by decide +kernel) (fun k q => by cases q) rfl ?_
  refine y_get (j := 48) (len := 3) (r := (6, 1, 0, 20166)) (by decide +kernel) hg tRB aw1004 rfl rfl hb1 ?_
  rcases Decidable.em (xa.toInt = xb.toInt) with q3333 | q3333
  ·
    refine y_cT (c := .eq) (off := 5) (pc' := 13) (len := 3) (r := (0, 0, 0, 0)) (by decide +kernel) (acmpT (c := .eq) (by show _ = _; omega)) (by decide +kernel) ?_
    refine y_ic (c := 0) (len := 1) (r := (0, 0, 0, 0)) (by decide +kernel) (by decide) (fun y3334 hy3334 => ?_)
    refine y_same (i := .istore_n 3) (len := 1) (r := (0, 0, 0, 0)) (pc' := 15) (ls' := [some (.inl (some 32)), some (.inl (some RA)), some (.inl (some RB)), some (zi y3334), none]) (st' := []) (by decide +kernel) (fun k q => by cases q) rfl ?_
    have k := trw_l (t := t) (d := d) tRA tIA tRB tIB nA nB oP oQ (by omega) (P.length + 1) h 0 y3334 none m hg H rA rB pRA pRB (by omega) (by omega) (by omega)
    exact k
  ·
    refine y_cF (c := .eq) (off := 5) (len := 3) (r := (0, 0, 0, 0)) (by decide +kernel) (acmpF (c := .eq) (by show ¬ (_ = _); omega)) ?_
    refine y_ic (c := 0) (len := 1) (r := (0, 0, 0, 0)) (by decide +kernel) (by decide) (fun y3335 hy3335 => ?_)
    refine y_rI (len := 1) (r := (0, 0, 0, 0)) (nL := 5) (k := 2) (n9 := 3) (hs := []) (by decide +kernel) rfl (zfit_b (by omega) (by omega)).2 ?_
    exact ⟨hg, fun k j _ _ => rfl, Or.inr ⟨by omega, tlR_ne (by omega)⟩⟩
theorem c_isvZ {d t : Nat} {h : zh} {x : Int32} : qI (d + 1) 157 [some (zi x)] h t (fun y h1 => h = h1 ∧ ((y.toInt = 1 ∧ 0 ≤ x.toInt ∧ x.toInt ≤ 20) ∨ (y.toInt = 0 ∧ ¬ (0 ≤ x.toInt ∧ x.toInt ≤ 20)))) := by
  refine qI_of ?_
  refine y_same (i := .iload_n 0) (len := 1) (r := (0, 0, 0, 0)) (pc' := 1) (ls' := [some (zi x)]) (st' := [zi x]) (by decide +kernel) (fun k q => by cases q) rfl ?_
  rcases Decidable.em (x.toInt < 0) with q3336 | q3336
  ·
    refine y_iT (c := .lt) (off := 13) (pc' := 14) (len := 3) (r := (0, 0, 0, 0)) (by decide +kernel) (acmpT (c := .lt) (by show _ < _; omega)) (by decide +kernel) ?_
    refine y_ic (c := 0) (len := 1) (r := (0, 0, 0, 0)) (by decide +kernel) (by decide) (fun y3337 hy3337 => ?_)
    refine y_rI (len := 1) (r := (0, 0, 0, 0)) (nL := 1) (k := 2) (n9 := 1) (hs := []) (by decide +kernel) rfl (zfit_b (by omega) (by omega)).2 ?_
    exact ⟨rfl, by omega⟩
  ·
    refine y_iF (c := .lt) (off := 13) (len := 3) (r := (0, 0, 0, 0)) (by decide +kernel) (acmpF (c := .lt) (by show _ ≤ _; omega)) ?_
    refine y_same (i := .iload_n 0) (len := 1) (r := (0, 0, 0, 0)) (pc' := 5) (ls' := [some (zi x)]) (st' := [zi x]) (by decide +kernel) (fun k q => by cases q) rfl ?_
    refine y_bi (c := 21) (len := 2) (r := (0, 0, 0, 0)) (by decide +kernel) (by decide) (fun y3338 hy3338 => ?_)
    rcases Decidable.em (x.toInt ≥ y3338.toInt) with q3339 | q3339
    ·
      refine y_cT (c := .ge) (off := 7) (pc' := 14) (len := 3) (r := (0, 0, 0, 0)) (by decide +kernel) (acmpT (c := .ge) (by show _ ≤ _; omega)) (by decide +kernel) ?_
      refine y_ic (c := 0) (len := 1) (r := (0, 0, 0, 0)) (by decide +kernel) (by decide) (fun y3340 hy3340 => ?_)
      refine y_rI (len := 1) (r := (0, 0, 0, 0)) (nL := 1) (k := 2) (n9 := 1) (hs := []) (by decide +kernel) rfl (zfit_b (by omega) (by omega)).2 ?_
      exact ⟨rfl, by omega⟩
    ·
      refine y_cF (c := .ge) (off := 7) (len := 3) (r := (0, 0, 0, 0)) (by decide +kernel) (acmpF (c := .ge) (by show _ < _; omega)) ?_
      refine y_ic (c := 1) (len := 1) (r := (0, 0, 0, 0)) (by decide +kernel) (by decide) (fun y3341 hy3341 => ?_)
      refine y_goto (off := 4) (pc' := 15) (len := 3) (r := (0, 0, 0, 0)) (by decide +kernel) (by decide +kernel) ?_
      refine y_rI (len := 1) (r := (0, 0, 0, 0)) (nL := 1) (k := 2) (n9 := 1) (hs := []) (by decide +kernel) rfl (zfit_b (by omega) (by omega)).2 ?_
      exact ⟨rfl, by omega⟩
theorem e_dhasN {d t : Nat} {τ : List Nat} {h : zh} {xa xb : Int32} {DA : Nat} (hg : hG τ h) (tDA : τ[DA]? = some 1009) (n : ¬ (0 ≤ xa.toInt ∧ xa.toInt ≤ 20 ∧ 0 ≤ xb.toInt ∧ xb.toInt ≤ 20)) : qI (d + 2) 3 [some (.inl (some DA)), some (zi xa), some (zi xb)] h t (fun y h1 => h = h1 ∧ y.toInt = 0) := by
  refine qI_of ?_
  refine y_same (i := .iload_n 1) (len := 1) (r := (0, 0, 0, 0)) (pc' := 1) (ls' := [some (.inl (some DA)), some (zi xa), some (zi xb)]) (st' := [zi xa]) (by decide +kernel) (fun k q => by cases q) rfl ?_
  refine y_cI (i := .invokestatic 27) (len := 3) (r := (3, 157, 11, 594)) (nL := 1) (k := 2) (n := 1) (hs := []) (args := [zi xa]) (rest := []) (l0 := [some (zi xa)]) (by decide +kernel) (Or.inl ⟨_, rfl⟩) rfl rfl rfl rfl (Nat.le_of_ble_eq_true rfl) rfl rfl (qI_le (by omega) (c_isvZ (d := 0) (x := xa))) (fun y3342 qy3342 hRy3342 => ?_)
  obtain ⟨rfl, hDy3342⟩ := hRy3342
  rcases hDy3342 with ⟨vy3342, by3342⟩ | ⟨vy3342, by3342⟩
  ·
    refine y_iF (c := .eq) (off := 28) (len := 3) (r := (0, 0, 0, 0)) (by decide +kernel) (acmpF (c := .eq) (by show ¬ (_ = _); omega)) ?_
    refine y_same (i := .iload_n 2) (len := 1) (r := (0, 0, 0, 0)) (pc' := 8) (ls' := [some (.inl (some DA)), some (zi xa), some (zi xb)]) (st' := [zi xb]) (by decide +kernel) (fun k q => by cases q) rfl ?_
    refine y_cI (i := .invokestatic 27) (len := 3) (r := (3, 157, 11, 594)) (nL := 1) (k := 2) (n := 1) (hs := []) (args := [zi xb]) (rest := []) (l0 := [some (zi xb)]) (by decide +kernel) (Or.inl ⟨_, rfl⟩) rfl rfl rfl rfl (Nat.le_of_ble_eq_true rfl) rfl rfl (qI_le (by omega) (c_isvZ (d := 0) (x := xb))) (fun y3343 qy3343 hRy3343 => ?_)
    obtain ⟨rfl, hDy3343⟩ := hRy3343
    rcases hDy3343 with ⟨vy3343, by3343⟩ | ⟨vy3343, by3343⟩
    ·
      exfalso
      omega
    ·
      refine y_iT (c := .eq) (off := 21) (pc' := 32) (len := 3) (r := (0, 0, 0, 0)) (by decide +kernel) (acmpT (c := .eq) (by show _ = _; omega)) (by decide +kernel) ?_
      refine y_ic (c := 0) (len := 1) (r := (0, 0, 0, 0)) (by decide +kernel) (by decide) (fun y3344 hy3344 => ?_)
      refine y_rI (len := 1) (r := (0, 0, 0, 0)) (nL := 3) (k := 2) (n9 := 3) (hs := []) (by decide +kernel) rfl (zfit_b (by omega) (by omega)).2 ?_
      exact ⟨rfl, by omega⟩
  ·
    refine y_iT (c := .eq) (off := 28) (pc' := 32) (len := 3) (r := (0, 0, 0, 0)) (by decide +kernel) (acmpT (c := .eq) (by show _ = _; omega)) (by decide +kernel) ?_
    refine y_ic (c := 0) (len := 1) (r := (0, 0, 0, 0)) (by decide +kernel) (by decide) (fun y3345 hy3345 => ?_)
    refine y_rI (len := 1) (r := (0, 0, 0, 0)) (nL := 3) (k := 2) (n9 := 3) (hs := []) (by decide +kernel) rfl (zfit_b (by omega) (by omega)).2 ?_
    exact ⟨rfl, by omega⟩
theorem e_dhasZ {d t : Nat} {a b : Int} {τ : List Nat} {h : zh} {xa xb : Int32} (hg : hG τ h) {DA OA : Nat} {D : dfT} (tDA : τ[DA]? = some 1009) (tOA : τ[OA]? = some 1010) (pO : hsl h DA 0 = some (.inl (some OA))) (dc : dC h OA 0 D) (od : okD D) (exa : xa.toInt = a) (exb : xb.toInt = b) : qI (d + 2) 3 [some (.inl (some DA)), some (zi xa), some (zi xb)] h t (fun y h1 => h = h1 ∧ ((y.toInt = 1 ∧ D a b) ∨ (y.toInt = 0 ∧ ¬ D a b))) := by
  by_cases q : 0 ≤ xa.toInt ∧ xa.toInt ≤ 20 ∧ 0 ≤ xb.toInt ∧ xb.toInt ≤ 20
  · have k := e_dhas (d := d) (t := t) (a := a.toNat) (b := b.toNat) (xa := xa) (xb := xb) hg tDA tOA pO dc (by omega) (by omega) (by omega) (by omega)
    rw [show ((a.toNat : Nat) : Int) = a by omega, show ((b.toNat : Nat) : Int) = b by omega] at k
    exact k
  · obtain ⟨y, h1, e, rfl, ey⟩ := e_dhasN (d := d) (t := t) hg tDA q
    exact ⟨y, _, e, rfl, Or.inr ⟨ey, fun z => by have := od.1 a b z; omega⟩⟩
theorem tps_y {d t x : Nat} {τ : List Nat} {h : zh} {m : mp2} {DA OA DB OB : Nat} {D E : dfT} (tDA : τ[DA]? = some 1009) (tOA : τ[OA]? = some 1010) (pO : hsl h DA 0 = some (.inl (some OA))) (dc : dC h OA 0 D) (tDB : τ[DB]? = some 1009) (tOB : τ[OB]? = some 1010) (pB : hsl h DB 0 = some (.inl (some OB))) (dcB : dC h OB 0 E) (od : okD D) (oe : okD E) (hg : hG τ h) (H : mpH h m) {xx : Int32} (hxx : xx.toInt = (x : Int)) (hx : x < 21) (kk : ∀ l4 : Option zv, (∀ j : Nat, j < 21 → D (x : Int) (j : Int) → E (m.1 x) (m.1 j)) → qX (d + 3) 30 69 [some (.inl (some 32)), some (.inl (some DA)), some (.inl (some DB)), some (zi xx), l4] [] h t (rI (fun y1 h1 => h = h1 ∧ ((y1.toInt = 1 ∧ pD D = pD E ∧ (∀ a b, D a b → E (m.1 a) (m.1 b))) ∨ (y1.toInt = 0 ∧ ¬ (pD D = pD E ∧ (∀ a b, D a b → E (m.1 a) (m.1 b)))))) t)) : ∀ (n : Nat) (y : Nat) (xy : Int32), (xy.toInt = (y : Int)) → (y ≤ 21) → (∀ j : Nat, j < y → D (x : Int) (j : Int) → E (m.1 x) (m.1 j)) → (21 < y + n) → qX (d + 3) 30 24 [some (.inl (some 32)), some (.inl (some DA)), some (.inl (some DB)), some (zi xx), some (zi xy)] [] h t (rI (fun y1 h1 => h = h1 ∧ ((y1.toInt = 1 ∧ pD D = pD E ∧ (∀ a b, D a b → E (m.1 a) (m.1 b))) ∨ (y1.toInt = 0 ∧ ¬ (pD D = pD E ∧ (∀ a b, D a b → E (m.1 a) (m.1 b)))))) t) := by
  intro n
  induction n with
  | zero =>
    intro y xy hxy hy c1 hn
    exfalso
    omega
  | succ n ih =>
    intro y xy hxy hy c1 hn
    skip
    refine y_same (i := .iload 4) (len := 2) (r := (0, 0, 0, 0)) (pc' := 26) (ls' := [some (.inl (some 32)), some (.inl (some DA)), some (.inl (some DB)), some (zi xx), some (zi xy)]) (st' := [zi xy]) (by decide +kernel) (fun k q => by cases q) rfl ?_
    refine y_bi (c := 21) (len := 2) (r := (0, 0, 0, 0)) (by decide +kernel) (by decide) (fun y3346 hy3346 => ?_)
    rcases Decidable.em (xy.toInt ≥ y3346.toInt) with q3347 | q3347
    ·
      refine y_cT (c := .ge) (off := 41) (pc' := 69) (len := 3) (r := (0, 0, 0, 0)) (by decide +kernel) (acmpT (c := .ge) (by show _ ≤ _; omega)) (by decide +kernel) ?_
      exact kk _ (fun j hj => c1 j (by omega))
    ·
      refine y_cF (c := .ge) (off := 41) (len := 3) (r := (0, 0, 0, 0)) (by decide +kernel) (acmpF (c := .ge) (by show _ < _; omega)) ?_
      refine y_same (i := .aload_n 1) (len := 1) (r := (0, 0, 0, 0)) (pc' := 32) (ls' := [some (.inl (some 32)), some (.inl (some DA)), some (.inl (some DB)), some (zi xx), some (zi xy)]) (st' := [.inl (some DA)]) (by decide +kernel) (fun k q => by cases q) rfl ?_
      refine y_same (i := .iload_n 3) (len := 1) (r := (0, 0, 0, 0)) (pc' := 33) (ls' := [some (.inl (some 32)), some (.inl (some DA)), some (.inl (some DB)), some (zi xx), some (zi xy)]) (st' := [zi xx, .inl (some DA)]) (by decide +kernel) (fun k q => by cases q) rfl ?_
      refine y_same (i := .iload 4) (len := 2) (r := (0, 0, 0, 0)) (pc' := 35) (ls' := [some (.inl (some 32)), some (.inl (some DA)), some (.inl (some DB)), some (zi xx), some (zi xy)]) (st' := [zi xy, zi xx, .inl (some DA)]) (by decide +kernel) (fun k q => by cases q) rfl ?_
      refine y_cI (i := .invokevirtual 72) (len := 3) (r := (0, 3, 0, 738)) (nL := 3) (k := 2) (n := 3) (hs := []) (args := [.inl (some DA), zi xx, zi xy]) (rest := []) (l0 := [some (.inl (some DA)), some (zi xx), some (zi xy)]) (by decide +kernel) (Or.inr (Or.inl ⟨_, rfl⟩)) rfl rfl rfl rfl (Nat.le_of_ble_eq_true rfl) (zO hg tDA aw1009 rfl) rfl (qI_le (by omega) (e_dhasZ (d := 0) (a := (x : Int)) (b := (y : Int)) hg tDA tOA pO dc od (by omega) (by omega))) (fun y3348 qy3348 hRy3348 => ?_)
      obtain ⟨rfl, hDy3348⟩ := hRy3348
      rcases hDy3348 with ⟨vy3348, by3348⟩ | ⟨vy3348, by3348⟩
      ·
        refine y_iF (c := .eq) (off := 25) (len := 3) (r := (0, 0, 0, 0)) (by decide +kernel) (acmpF (c := .eq) (by show ¬ (_ = _); omega)) ?_
        refine y_same (i := .aload_n 2) (len := 1) (r := (0, 0, 0, 0)) (pc' := 42) (ls' := [some (.inl (some 32)), some (.inl (some DA)), some (.inl (some DB)), some (zi xx), some (zi xy)]) (st' := [.inl (some DB)]) (by decide +kernel) (fun k q => by cases q) rfl ?_
        refine y_same (i := .aload_n 0) (len := 1) (r := (0, 0, 0, 0)) (pc' := 43) (ls' := [some (.inl (some 32)), some (.inl (some DA)), some (.inl (some DB)), some (zi xx), some (zi xy)]) (st' := [.inl (some 32), .inl (some DB)]) (by decide +kernel) (fun k q => by cases q) rfl ?_
        obtain ⟨xf, hf, ef⟩ := (H x (by omega)).1
        obtain ⟨xg, hg9, eg⟩ := (H y (by omega)).1
        refine y_get (j := 9) (len := 3) (r := (3, 0, 2, 275)) (by decide +kernel) hg (tv32 hg) aw32 rfl rfl (g_rU (f := 0) (T2 := 33) hg (tv32 hg) aw32 rfl (by decide)) ?_
        refine y_same (i := .iload_n 3) (len := 1) (r := (0, 0, 0, 0)) (pc' := 47) (ls' := [some (.inl (some 32)), some (.inl (some DA)), some (.inl (some DB)), some (zi xx), some (zi xy)]) (st' := [zi xx, .inl (some 33), .inl (some DB)]) (by decide +kernel) (fun k q => by cases q) rfl ?_
        refine y_ial (i := x) (len := 1) (r := (0, 0, 0, 0)) (by decide +kernel) hg (tv33 hg) aw33 (by omega) hf ?_
        refine y_same (i := .aload_n 0) (len := 1) (r := (0, 0, 0, 0)) (pc' := 49) (ls' := [some (.inl (some 32)), some (.inl (some DA)), some (.inl (some DB)), some (zi xx), some (zi xy)]) (st' := [.inl (some 32), zi xf, .inl (some DB)]) (by decide +kernel) (fun k q => by cases q) rfl ?_
        refine y_get (j := 9) (len := 3) (r := (3, 0, 2, 275)) (by decide +kernel) hg (tv32 hg) aw32 rfl rfl (g_rU (f := 0) (T2 := 33) hg (tv32 hg) aw32 rfl (by decide)) ?_
        refine y_same (i := .iload 4) (len := 2) (r := (0, 0, 0, 0)) (pc' := 54) (ls' := [some (.inl (some 32)), some (.inl (some DA)), some (.inl (some DB)), some (zi xx), some (zi xy)]) (st' := [zi xy, .inl (some 33), zi xf, .inl (some DB)]) (by decide +kernel) (fun k q => by cases q) rfl ?_
        refine y_ial (i := y) (len := 1) (r := (0, 0, 0, 0)) (by decide +kernel) hg (tv33 hg) aw33 (by omega) hg9 ?_
        refine y_cI (i := .invokevirtual 72) (len := 3) (r := (0, 3, 0, 738)) (nL := 3) (k := 2) (n := 3) (hs := []) (args := [.inl (some DB), zi xf, zi xg]) (rest := []) (l0 := [some (.inl (some DB)), some (zi xf), some (zi xg)]) (by decide +kernel) (Or.inr (Or.inl ⟨_, rfl⟩)) rfl rfl rfl rfl (Nat.le_of_ble_eq_true rfl) (zO hg tDB aw1009 rfl) rfl (qI_le (by omega) (e_dhasZ (d := 0) (a := m.1 x) (b := m.1 y) hg tDB tOB pB dcB oe (by omega) (by omega))) (fun y3349 qy3349 hRy3349 => ?_)
        obtain ⟨rfl, hDy3349⟩ := hRy3349
        rcases hDy3349 with ⟨vy3349, by3349⟩ | ⟨vy3349, by3349⟩
        ·
          refine y_iT (c := .ne) (off := 5) (pc' := 63) (len := 3) (r := (0, 0, 0, 0)) (by decide +kernel) (acmpT (c := .ne) (by show ¬ (_ = _); omega)) (by decide +kernel) ?_
          refine y_inc (j := 4) (a := xy) (c := 1) (ls' := fun v => [some (.inl (some 32)), some (.inl (some DA)), some (.inl (some DB)), some (zi xx), some v]) (len := 3) (r := (0, 0, 0, 0)) (by decide +kernel) rfl (fun _ => rfl) (by decide) (by omega) (by omega) (fun y3350 hy3350 => ?_)
          show qX (d + 3) 30 66 [some (.inl (some 32)), some (.inl (some DA)), some (.inl (some DB)), some (zi xx), some (zi y3350)] [] h t _
          refine y_goto (off := (-42)) (pc' := 24) (len := 3) (r := (0, 0, 0, 0)) (by decide +kernel) (by decide +kernel) ?_
          refine ih (y + 1) y3350 (by omega) (by omega) (fun j hj => ?_) (by omega)
          rcases Nat.lt_or_ge j y with q9 | q9
          · exact c1 j q9
          · obtain rfl : j = y := by omega
            exact fun _ => by3349
        ·
          refine y_iF (c := .ne) (off := 5) (len := 3) (r := (0, 0, 0, 0)) (by decide +kernel) (acmpF (c := .ne) (by show _ = _; omega)) ?_
          refine y_ic (c := 0) (len := 1) (r := (0, 0, 0, 0)) (by decide +kernel) (by decide) (fun y3351 hy3351 => ?_)
          refine y_rI (len := 1) (r := (0, 0, 0, 0)) (nL := 5) (k := 2) (n9 := 3) (hs := []) (by decide +kernel) rfl (zfit_b (by omega) (by omega)).2 ?_
          exact ⟨rfl, Or.inr ⟨by omega, fun q => by3349 (q.2 _ _ by3348)⟩⟩
      ·
        refine y_iT (c := .eq) (off := 25) (pc' := 63) (len := 3) (r := (0, 0, 0, 0)) (by decide +kernel) (acmpT (c := .eq) (by show _ = _; omega)) (by decide +kernel) ?_
        refine y_inc (j := 4) (a := xy) (c := 1) (ls' := fun v => [some (.inl (some 32)), some (.inl (some DA)), some (.inl (some DB)), some (zi xx), some v]) (len := 3) (r := (0, 0, 0, 0)) (by decide +kernel) rfl (fun _ => rfl) (by decide) (by omega) (by omega) (fun y3352 hy3352 => ?_)
        show qX (d + 3) 30 66 [some (.inl (some 32)), some (.inl (some DA)), some (.inl (some DB)), some (zi xx), some (zi y3352)] [] h t _
        refine y_goto (off := (-42)) (pc' := 24) (len := 3) (r := (0, 0, 0, 0)) (by decide +kernel) (by decide +kernel) ?_
        refine ih (y + 1) y3352 (by omega) (by omega) (fun j hj => ?_) (by omega)
        rcases Nat.lt_or_ge j y with q9 | q9
        · exact c1 j q9
        · obtain rfl : j = y := by omega
          exact fun q => absurd q  by3348
theorem tps_x {d t : Nat} {τ : List Nat} {h : zh} {m : mp2} {DA OA DB OB : Nat} {D E : dfT} (tDA : τ[DA]? = some 1009) (tOA : τ[OA]? = some 1010) (pO : hsl h DA 0 = some (.inl (some OA))) (dc : dC h OA 0 D) (tDB : τ[DB]? = some 1009) (tOB : τ[OB]? = some 1010) (pB : hsl h DB 0 = some (.inl (some OB))) (dcB : dC h OB 0 E) (od : okD D) (oe : okD E) (hg : hG τ h) (H : mpH h m) (hc : pD D = pD E) : ∀ (n : Nat) (x : Nat) (xx : Int32) (l4 : Option zv), (xx.toInt = (x : Int)) → (x ≤ 21) → (∀ i : Nat, i < x → ∀ j : Nat, j < 21 → D (i : Int) (j : Int) → E (m.1 i) (m.1 j)) → (21 < x + n) → qX (d + 3) 30 15 [some (.inl (some 32)), some (.inl (some DA)), some (.inl (some DB)), some (zi xx), l4] [] h t (rI (fun y1 h1 => h = h1 ∧ ((y1.toInt = 1 ∧ pD D = pD E ∧ (∀ a b, D a b → E (m.1 a) (m.1 b))) ∨ (y1.toInt = 0 ∧ ¬ (pD D = pD E ∧ (∀ a b, D a b → E (m.1 a) (m.1 b)))))) t) := by
  intro n
  induction n with
  | zero =>
    intro x xx l4 hxx hx c1 hn
    exfalso
    omega
  | succ n ih =>
    intro x xx l4 hxx hx c1 hn
    skip
    refine y_same (i := .iload_n 3) (len := 1) (r := (0, 0, 0, 0)) (pc' := 16) (ls' := [some (.inl (some 32)), some (.inl (some DA)), some (.inl (some DB)), some (zi xx), l4]) (st' := [zi xx]) (by decide +kernel) (fun k q => by cases q) rfl ?_
    refine y_bi (c := 21) (len := 2) (r := (0, 0, 0, 0)) (by decide +kernel) (by decide) (fun y3353 hy3353 => ?_)
    rcases Decidable.em (xx.toInt ≥ y3353.toInt) with q3354 | q3354
    ·
      refine y_cT (c := .ge) (off := 57) (pc' := 75) (len := 3) (r := (0, 0, 0, 0)) (by decide +kernel) (acmpT (c := .ge) (by show _ ≤ _; omega)) (by decide +kernel) ?_
      refine y_ic (c := 1) (len := 1) (r := (0, 0, 0, 0)) (by decide +kernel) (by decide) (fun y3355 hy3355 => ?_)
      refine y_rI (len := 1) (r := (0, 0, 0, 0)) (nL := 5) (k := 2) (n9 := 3) (hs := []) (by decide +kernel) rfl (zfit_b (by omega) (by omega)).2 ?_
      refine ⟨rfl, Or.inl ⟨by omega, hc, fun a b q9 => ?_⟩⟩
      obtain ⟨⟨a1, a2⟩, b1, b2⟩ := od.1 a b q9
      have ea : ((a.toNat : Nat) : Int) = a := by omega
      have eb : ((b.toNat : Nat) : Int) = b := by omega
      rw [← ea, ← eb] at q9 ⊢
      exact c1 a.toNat (by omega) b.toNat (by omega) q9
    ·
      refine y_cF (c := .ge) (off := 57) (len := 3) (r := (0, 0, 0, 0)) (by decide +kernel) (acmpF (c := .ge) (by show _ < _; omega)) ?_
      refine y_ic (c := 0) (len := 1) (r := (0, 0, 0, 0)) (by decide +kernel) (by decide) (fun y3356 hy3356 => ?_)
      refine y_same (i := .istore 4) (len := 2) (r := (0, 0, 0, 0)) (pc' := 24) (ls' := [some (.inl (some 32)), some (.inl (some DA)), some (.inl (some DB)), some (zi xx), some (zi y3356)]) (st' := []) (by decide +kernel) (fun k q => by cases q) rfl ?_
      refine tps_y tDA tOA pO dc tDB tOB pB dcB od oe hg H hxx (by omega) (fun l9 c9 => ?_) 22 0 y3356 (by omega) (by omega) (fun j hj => absurd hj (Nat.not_lt_zero j)) (by omega)
      refine y_inc (j := 3) (a := xx) (c := 1) (ls' := fun v => [some (.inl (some 32)), some (.inl (some DA)), some (.inl (some DB)), some v, l9]) (len := 3) (r := (0, 0, 0, 0)) (by decide +kernel) rfl (fun _ => rfl) (by decide) (by omega) (by omega) (fun y3357 hy3357 => ?_)
      show qX (d + 3) 30 72 [some (.inl (some 32)), some (.inl (some DA)), some (.inl (some DB)), some (zi y3357), l9] [] h t _
      refine y_goto (off := (-57)) (pc' := 15) (len := 3) (r := (0, 0, 0, 0)) (by decide +kernel) (by decide +kernel) ?_
      refine ih (x + 1) y3357 l9 (by omega) (by omega) (fun i hi j hj => ?_) (by omega)
      rcases Nat.lt_or_ge i x with q9 | q9
      · exact c1 i q9 j hj
      · obtain rfl : i = x := by omega
        exact c9 j hj
theorem e_tps {d t : Nat} {τ : List Nat} {h : zh} {m : mp2} {DA OA DB OB : Nat} {D E : dfT} (tDA : τ[DA]? = some 1009) (tOA : τ[OA]? = some 1010) (pO : hsl h DA 0 = some (.inl (some OA))) (dc : dC h OA 0 D) (tDB : τ[DB]? = some 1009) (tOB : τ[OB]? = some 1010) (pB : hsl h DB 0 = some (.inl (some OB))) (dcB : dC h OB 0 E) (od : okD D) (oe : okD E) (hg : hG τ h) (H : mpH h m) : qI (d + 4) 30 [some (.inl (some 32)), some (.inl (some DA)), some (.inl (some DB)), none, none] h t (fun y1 h1 => h = h1 ∧ ((y1.toInt = 1 ∧ pD D = pD E ∧ (∀ a b, D a b → E (m.1 a) (m.1 b))) ∨ (y1.toInt = 0 ∧ ¬ (pD D = pD E ∧ (∀ a b, D a b → E (m.1 a) (m.1 b)))))) := by
  obtain ⟨f, hf⟩ := dC_f dc
  obtain ⟨g, hg9⟩ := dC_f dcB
  have cf := cnt_pD od (f := f) (fun x hx => (hf x hx).2)
  have cg := cnt_pD oe (f := g) (fun x hx => (hg9 x hx).2)
  refine qI_of ?_
  refine y_same (i := .aload_n 1) (len := 1) (r := (0, 0, 0, 0)) (pc' := 1) (ls' := [some (.inl (some 32)), some (.inl (some DA)), some (.inl (some DB)), none, none]) (st' := [.inl (some DA)]) (by decide +kernel) (fun k q => by cases q) rfl ?_
  refine y_cI (i := .invokevirtual 66) (len := 3) (r := (0, 7, 0, 737)) (nL := 3) (k := 1) (n := 1) (hs := []) (args := [.inl (some DA)]) (rest := []) (l0 := [some (.inl (some DA)), none, none]) (by decide +kernel) (Or.inr (Or.inl ⟨_, rfl⟩)) rfl rfl rfl rfl (Nat.le_of_ble_eq_true rfl) (zO hg tDA aw1009 rfl) rfl (qI_le (by omega) (e_dcnt (d := 0) (f := f) hg tDA tOA pO (fun x hx => (hf x hx).1))) (fun y3358 qy3358 hRy3358 => ?_)
  obtain ⟨rfl, ey3358⟩ := hRy3358
  have ny3358 : y3358.toInt = ((pD D : Nat) : Int) := by rw [ey3358, cf]; exact nI_toInt (Nat.lt_of_le_of_lt pD_le (by decide))
  refine y_same (i := .aload_n 2) (len := 1) (r := (0, 0, 0, 0)) (pc' := 5) (ls' := [some (.inl (some 32)), some (.inl (some DA)), some (.inl (some DB)), none, none]) (st' := [.inl (some DB), zi y3358]) (by decide +kernel) (fun k q => by cases q) rfl ?_
  refine y_cI (i := .invokevirtual 66) (len := 3) (r := (0, 7, 0, 737)) (nL := 3) (k := 1) (n := 1) (hs := []) (args := [.inl (some DB)]) (rest := [zi y3358]) (l0 := [some (.inl (some DB)), none, none]) (by decide +kernel) (Or.inr (Or.inl ⟨_, rfl⟩)) rfl rfl rfl rfl (Nat.le_of_ble_eq_true rfl) (zO hg tDB aw1009 rfl) rfl (qI_le (by omega) (e_dcnt (d := 0) (f := g) hg tDB tOB pB (fun x hx => (hg9 x hx).1))) (fun y3359 qy3359 hRy3359 => ?_)
  obtain ⟨rfl, ey3359⟩ := hRy3359
  have ny3359 : y3359.toInt = ((pD E : Nat) : Int) := by rw [ey3359, cg]; exact nI_toInt (Nat.lt_of_le_of_lt pD_le (by decide))
  rcases Decidable.em (y3358.toInt = y3359.toInt) with q3360 | q3360
  ·
    refine y_cT (c := .eq) (off := 5) (pc' := 13) (len := 3) (r := (0, 0, 0, 0)) (by decide +kernel) (acmpT (c := .eq) (by show _ = _; omega)) (by decide +kernel) ?_
    refine y_ic (c := 0) (len := 1) (r := (0, 0, 0, 0)) (by decide +kernel) (by decide) (fun y3361 hy3361 => ?_)
    refine y_same (i := .istore_n 3) (len := 1) (r := (0, 0, 0, 0)) (pc' := 15) (ls' := [some (.inl (some 32)), some (.inl (some DA)), some (.inl (some DB)), some (zi y3361), none]) (st' := []) (by decide +kernel) (fun k q => by cases q) rfl ?_
    exact tps_x tDA tOA pO dc tDB tOB pB dcB od oe hg H (by omega) 22 0 y3361 none (by omega) (by omega) (fun i hi => absurd hi (Nat.not_lt_zero i)) (by omega)
  ·
    refine y_cF (c := .eq) (off := 5) (len := 3) (r := (0, 0, 0, 0)) (by decide +kernel) (acmpF (c := .eq) (by show ¬ (_ = _); omega)) ?_
    refine y_ic (c := 0) (len := 1) (r := (0, 0, 0, 0)) (by decide +kernel) (by decide) (fun y3362 hy3362 => ?_)
    refine y_rI (len := 1) (r := (0, 0, 0, 0)) (nL := 5) (k := 2) (n9 := 3) (hs := []) (by decide +kernel) rfl (zfit_b (by omega) (by omega)).2 ?_
    exact ⟨rfl, Or.inr ⟨by omega, fun q => by have := q.1; omega⟩⟩
