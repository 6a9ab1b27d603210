/-! small heaps: all of them -/
def wOK (h : zh) (xa xb : Int32) : Prop := LV h 0 xa.toInt.toNat ∧ LV h 1 xb.toInt.toNat ∧ hsl h 55 (46 * 0 + 0) = some (zi xa) ∧ hsl h 55 (46 * 1 + 0) = some (zi xb)
theorem wOK_up {h h1 : zh} {xa xb : Int32} (w : wOK h xa xb) (e1 : ∀ j, hsl h1 55 j = hsl h 55 j) (e2 : ∀ j, hsl h1 381 j = hsl h 381 j) : wOK h1 xa xb := ⟨LV_up w.1 e1 e2, LV_up w.2.1 e1 e2, (e1 _).trans w.2.2.1, (e1 _).trans w.2.2.2⟩
theorem cnt_le {τ : List Nat} {h : zh} {xa xb : Int32} (hg : hG τ h) (w : wOK h xa xb) : (0 ≤ xa.toInt ∧ xa.toInt ≤ 5) ∧ (0 ≤ xb.toInt ∧ xb.toInt ≤ 5) := by
  obtain ⟨x, e, l, u⟩ := g55 (i := 46 * 0 + 0) hg (by decide) (by decide) (by decide)
  obtain ⟨x', e', l', u'⟩ := g55 (i := 46 * 1 + 0) hg (by decide) (by decide) (by decide)
  rw [w.2.2.1] at e
  rw [w.2.2.2] at e'
  cases e
  cases e'
  exact ⟨⟨l, u⟩, ⟨l', u'⟩⟩
theorem wg_l {τ0 : List Nat} {h0 : zh} {t : Nat} : ∀ (n : Nat) (τ : List Nat) (h : zh), oF (fun k j => (k < 383 ∨ 387 < k) ∧ (k ≠ 52 ∨ j < 39 ∨ j = 40 ∨ 45 < j)) τ0 h0 τ h → ∀ (k : Nat) (xk : Int32), xk.toInt = (k : Int) → k ≤ 6 → 6 ≤ k + n → qX 42 256 75 [some (.inl (some 52)), some (zi xk)] [] h t (rV (fun h1 => ∃ τ1, oF (fun k j => (k < 383 ∨ 387 < k) ∧ (k ≠ 52 ∨ j < 39 ∨ j = 40 ∨ 45 < j)) τ0 h0 τ1 h1) t) := by
  intro n
  induction n with
  | zero =>
    intro τ h O0 k xk hxk hk hn
    have hg := O0.2.1
    refine y_same (i := .iload_n 1) (len := 1) (r := (0, 0, 0, 0)) (pc' := 76) (ls' := [some (.inl (some 52)), some (zi xk)]) (st' := [zi xk]) (by decide +kernel) (fun k q => by cases q) rfl ?_
    refine y_ic (c := 5) (len := 1) (r := (0, 0, 0, 0)) (by decide +kernel) (by decide) (fun y764 hy764 => ?_)
    refine y_cT (c := .gt) (off := 21) (pc' := 98) (len := 3) (r := (0, 0, 0, 0)) (by decide +kernel) (acmpT (c := .gt) (by show _ < _; omega)) (by decide +kernel) ?_
    refine y_rV (len := 1) (r := (0, 0, 0, 0)) (nL := 2) (n9 := 1) (hs := []) (by decide +kernel) rfl ?_
    exact ⟨_, O0⟩
  | succ n ih =>
    intro τ h O0 k xk hxk hk hn
    have hg := O0.2.1
    refine y_same (i := .iload_n 1) (len := 1) (r := (0, 0, 0, 0)) (pc' := 76) (ls' := [some (.inl (some 52)), some (zi xk)]) (st' := [zi xk]) (by decide +kernel) (fun k q => by cases q) rfl ?_
    refine y_ic (c := 5) (len := 1) (r := (0, 0, 0, 0)) (by decide +kernel) (by decide) (fun y765 hy765 => ?_)
    rcases Decidable.em (xk.toInt > y765.toInt) with q766 | q766
    ·
      refine y_cT (c := .gt) (off := 21) (pc' := 98) (len := 3) (r := (0, 0, 0, 0)) (by decide +kernel) (acmpT (c := .gt) (by show _ < _; omega)) (by decide +kernel) ?_
      refine y_rV (len := 1) (r := (0, 0, 0, 0)) (nL := 2) (n9 := 1) (hs := []) (by decide +kernel) rfl ?_
      exact ⟨_, O0⟩
    ·
      refine y_cF (c := .gt) (off := 21) (len := 3) (r := (0, 0, 0, 0)) (by decide +kernel) (acmpF (c := .gt) (by show _ ≤ _; omega)) ?_
      refine y_same (i := .aload_n 0) (len := 1) (r := (0, 0, 0, 0)) (pc' := 81) (ls' := [some (.inl (some 52)), some (zi xk)]) (st' := [.inl (some 52)]) (by decide +kernel) (fun k q => by cases q) rfl ?_
      refine y_get (j := 89) (len := 3) (r := (12, 46, 2, 1374)) (by decide +kernel) hg (t52 hg) at52 rfl rfl (g_r52 (f := 46) (T2 := 387) hg rfl (by decide)).1 ?_
      refine y_same (i := .iload_n 1) (len := 1) (r := (0, 0, 0, 0)) (pc' := 85) (ls' := [some (.inl (some 52)), some (zi xk)]) (st' := [zi xk, .inl (some 387)]) (by decide +kernel) (fun k q => by cases q) rfl ?_
      refine y_same (i := .aload_n 0) (len := 1) (r := (0, 0, 0, 0)) (pc' := 86) (ls' := [some (.inl (some 52)), some (zi xk)]) (st' := [.inl (some 52), zi xk, .inl (some 387)]) (by decide +kernel) (fun k q => by cases q) rfl ?_
      refine y_get (j := 70) (len := 3) (r := (12, 33, 2, 1361)) (by decide +kernel) hg (t52 hg) at52 rfl rfl (g_r52 (f := 33) (T2 := 381) hg rfl (by decide)).1 ?_
      refine y_same (i := .iload_n 1) (len := 1) (r := (0, 0, 0, 0)) (pc' := 90) (ls' := [some (.inl (some 52)), some (zi xk)]) (st' := [zi xk, .inl (some 381), zi xk, .inl (some 387)]) (by decide +kernel) (fun k q => by cases q) rfl ?_
      obtain ⟨v767, hv768, lv767, uv767⟩ := g_int (i := k) hg (tu381 hg) at381 (show k < 6 by omega) (sr1 (by omega))
      refine y_ial (i := k) (len := 1) (r := (0, 0, 0, 0)) (by decide +kernel) hg (tu381 hg) at381 (by omega) hv768 ?_
      refine y_ias (i := k) (len := 1) (r := (0, 0, 0, 0)) (by decide +kernel) hg (tu387 hg) at387 rfl (by omega) (by omega) (sr1 (by omega)) (by omega) (by omega) (fun h769 hg769 hl769 hs769 ho769 => ?_)
      refine y_inc (j := 1) (a := xk) (c := 1) (ls' := fun v => [some (.inl (some 52)), some v]) (len := 3) (r := (0, 0, 0, 0)) (by decide +kernel) rfl (fun _ => rfl) (by decide) (by omega) (by omega) (fun y770 hy770 => ?_)
      show qX 42 256 95 [some (.inl (some 52)), some (zi y770)] [] h769 t _
      refine y_goto (off := (-20)) (pc' := 75) (len := 3) (r := (0, 0, 0, 0)) (by decide +kernel) (by decide +kernel) ?_
      exact ih τ h769 ⟨aup_trans O0.1 (aup_refl _), hg769, fun k T j hk (hC : (k < 383 ∨ 387 < k) ∧ (k ≠ 52 ∨ j < 39 ∨ j = 40 ∨ 45 < j)) => ((ho769 k j (by omega))).trans (O0.2.2 k T j hk hC)⟩ (k + 1) y770 (by omega) (by omega) (by omega)
theorem e_weighs {t : Nat} {τ : List Nat} {h : zh} {xa xb : Int32} (hg : hG τ h) (w : wOK h xa xb) : qV 43 256 [some (.inl (some 52)), none] h t (fun h1 => ∃ τ1, oF (fun k j => (k < 383 ∨ 387 < k) ∧ (k ≠ 52 ∨ j < 39 ∨ j = 40 ∨ 45 < j)) τ h τ1 h1) := by
  have hc := cnt_le hg w
  refine qV_of ?_
  refine y_same (i := .aload_n 0) (len := 1) (r := (0, 0, 0, 0)) (pc' := 1) (ls' := [some (.inl (some 52)), none]) (st' := [.inl (some 52)]) (by decide +kernel) (fun k q => by cases q) rfl ?_
  refine y_cI (i := .invokevirtual 438) (len := 3) (r := (0, 250, 12, 1814)) (nL := 2) (k := 2) (n := 1) (hs := []) (args := [.inl (some 52)]) (rest := []) (l0 := [some (.inl (some 52)), none]) (by decide +kernel) (Or.inr (Or.inl ⟨_, rfl⟩)) rfl rfl rfl rfl (Nat.le_of_ble_eq_true rfl) (z52 hg) rfl (e_isBuilt (m := xa.toInt.toNat) hg w.1 w.2.2.1 (by omega) (by omega)) (fun y771 h771 hRy771 => ?_)
  obtain ⟨ly771, uy771, τ771, O771⟩ := hRy771
  rcases Decidable.em (y771.toInt ≠ 0) with q772 | q772
  ·
    refine y_iT (c := .ne) (off := 4) (pc' := 8) (len := 3) (r := (0, 0, 0, 0)) (by decide +kernel) (acmpT (c := .ne) (by show ¬ (_ = _); omega)) (by decide +kernel) ?_
    refine y_same (i := .aload_n 0) (len := 1) (r := (0, 0, 0, 0)) (pc' := 9) (ls' := [some (.inl (some 52)), none]) (st' := [.inl (some 52)]) (by decide +kernel) (fun k q => by cases q) rfl ?_
    refine y_same (i := .dup) (len := 1) (r := (0, 0, 0, 0)) (pc' := 10) (ls' := [some (.inl (some 52)), none]) (st' := [.inl (some 52), .inl (some 52)]) (by decide +kernel) (fun k q => by cases q) rfl ?_
    obtain ⟨v773, hv774, lv773, uv773⟩ := g_int (i := 41) (lo := (-2147483648)) (hi := 2147483647) O771.2.1 (t52 O771.2.1) at52 (by decide) rfl
    refine y_get (j := 441) (len := 3) (r := (12, 41, 0, 1369)) (by decide +kernel) O771.2.1 (t52 O771.2.1) at52 rfl rfl hv774 ?_
    refine y_ic (c := 1) (len := 1) (r := (0, 0, 0, 0)) (by decide +kernel) (by decide) (fun y775 hy775 => ?_)
    refine y_bp (i := .iadd) (f := fun x y => x + y) (len := 1) (r := (0, 0, 0, 0)) (by decide +kernel) rfl rfl (fun y776 hy776 => ?_)
    refine y_put (j := 441) (lo := (-2147483648)) (hi := 2147483647) (len := 3) (r := (12, 41, 0, 1369)) (by decide +kernel) O771.2.1 (t52 O771.2.1) at52 rfl rfl (by decide) rfl (qin_full _).1 (qin_full _).2 rfl (fun h777 hg777 hl777 hs777 ho777 => ?_)
    have ho777 : hO 52 41 h771 h777 := ho777
    have hs777 : hsl h777 52 41 = some (zi y776) := hs777
    refine y_same (i := .aload_n 0) (len := 1) (r := (0, 0, 0, 0)) (pc' := 19) (ls' := [some (.inl (some 52)), none]) (st' := [.inl (some 52)]) (by decide +kernel) (fun k q => by cases q) rfl ?_
    have F1 : oF (fun k j => (k < 383 ∨ 387 < k) ∧ (k ≠ 52 ∨ j < 39 ∨ j = 40 ∨ 45 < j)) τ h τ771 h777 := ⟨O771.1, hg777, fun k T j hk (hC : (k < 383 ∨ 387 < k) ∧ (k ≠ 52 ∨ j < 39 ∨ j = 40 ∨ 45 < j)) => ((ho777 k j (by omega)).trans (O771.2.2 k T j hk (show k ≠ 383 ∧ k ≠ 384 ∧ k ≠ 385 ∧ (k ≠ 52 ∨ j ≠ 39) by omega)))⟩
    have w1 := wOK_up w (fun j => F1.2.2 55 55 j (tu55 hg) (show (55 < 383 ∨ 387 < 55) ∧ (55 ≠ 52 ∨ j < 39 ∨ j = 40 ∨ 45 < j) by omega)) (fun j => F1.2.2 381 381 j (tu381 hg) (show (381 < 383 ∨ 387 < 381) ∧ (381 ≠ 52 ∨ j < 39 ∨ j = 40 ∨ 45 < j) by omega))
    refine y_cI (i := .invokevirtual 444) (len := 3) (r := (0, 254, 12, 1834)) (nL := 2) (k := 2) (n := 1) (hs := []) (args := [.inl (some 52)]) (rest := []) (l0 := [some (.inl (some 52)), none]) (by decide +kernel) (Or.inr (Or.inl ⟨_, rfl⟩)) rfl rfl rfl rfl (Nat.le_of_ble_eq_true rfl) (z52 hg777) rfl (e_isRight (m := xb.toInt.toNat) hg777 w1.2.1 w1.2.2.2 (by omega) (by omega)) (fun y778 h778 hRy778 => ?_)
    obtain ⟨ly778, uy778, τ778, O778⟩ := hRy778
    rcases Decidable.em (y778.toInt = 0) with q779 | q779
    ·
      refine y_iT (c := .eq) (off := 14) (pc' := 36) (len := 3) (r := (0, 0, 0, 0)) (by decide +kernel) (acmpT (c := .eq) (by show _ = _; omega)) (by decide +kernel) ?_
      refine y_same (i := .aload_n 0) (len := 1) (r := (0, 0, 0, 0)) (pc' := 37) (ls' := [some (.inl (some 52)), none]) (st' := [.inl (some 52)]) (by decide +kernel) (fun k q => by cases q) rfl ?_
      obtain ⟨v780, hv781, lv780, uv780⟩ := g_int (i := 43) (lo := (-2147483648)) (hi := 2147483647) O778.2.1 (t52 O778.2.1) at52 (by decide) rfl
      refine y_get (j := 450) (len := 3) (r := (12, 43, 0, 1371)) (by decide +kernel) O778.2.1 (t52 O778.2.1) at52 rfl rfl hv781 ?_
      refine y_ic (c := (-1)) (len := 1) (r := (0, 0, 0, 0)) (by decide +kernel) (by decide) (fun y782 hy782 => ?_)
      rcases Decidable.em (v780.toInt = y782.toInt) with q783 | q783
      ·
        refine y_cT (c := .eq) (off := 4) (pc' := 45) (len := 3) (r := (0, 0, 0, 0)) (by decide +kernel) (acmpT (c := .eq) (by show _ = _; omega)) (by decide +kernel) ?_
        refine y_same (i := .aload_n 0) (len := 1) (r := (0, 0, 0, 0)) (pc' := 46) (ls' := [some (.inl (some 52)), none]) (st' := [.inl (some 52)]) (by decide +kernel) (fun k q => by cases q) rfl ?_
        refine y_same (i := .aload_n 0) (len := 1) (r := (0, 0, 0, 0)) (pc' := 47) (ls' := [some (.inl (some 52)), none]) (st' := [.inl (some 52), .inl (some 52)]) (by decide +kernel) (fun k q => by cases q) rfl ?_
        have hv784 := (O778.2.2 52 52 41 (t52 hg777) (show 52 ≠ 386 by omega)).trans hs777
        refine y_get (j := 441) (len := 3) (r := (12, 41, 0, 1369)) (by decide +kernel) O778.2.1 (t52 O778.2.1) at52 rfl rfl hv784 ?_
        refine y_ic (c := 1) (len := 1) (r := (0, 0, 0, 0)) (by decide +kernel) (by decide) (fun y785 hy785 => ?_)
        refine y_bp (i := .isub) (f := fun x y => x - y) (len := 1) (r := (0, 0, 0, 0)) (by decide +kernel) rfl rfl (fun y786 hy786 => ?_)
        refine y_put (j := 450) (lo := (-2147483648)) (hi := 2147483647) (len := 3) (r := (12, 43, 0, 1371)) (by decide +kernel) O778.2.1 (t52 O778.2.1) at52 rfl rfl (by decide) rfl (qin_full _).1 (qin_full _).2 rfl (fun h787 hg787 hl787 hs787 ho787 => ?_)
        have ho787 : hO 52 43 h778 h787 := ho787
        have hs787 : hsl h787 52 43 = some (zi y786) := hs787
        refine y_same (i := .aload_n 0) (len := 1) (r := (0, 0, 0, 0)) (pc' := 56) (ls' := [some (.inl (some 52)), none]) (st' := [.inl (some 52)]) (by decide +kernel) (fun k q => by cases q) rfl ?_
        refine y_same (i := .aload_n 0) (len := 1) (r := (0, 0, 0, 0)) (pc' := 57) (ls' := [some (.inl (some 52)), none]) (st' := [.inl (some 52), .inl (some 52)]) (by decide +kernel) (fun k q => by cases q) rfl ?_
        refine y_ic (c := 0) (len := 1) (r := (0, 0, 0, 0)) (by decide +kernel) (by decide) (fun y788 hy788 => ?_)
        refine y_cI (i := .invokevirtual 453) (len := 3) (r := (0, 255, 12, 1850)) (nL := 4) (k := 1) (n := 2) (hs := []) (args := [.inl (some 52), zi y788]) (rest := [.inl (some 52)]) (l0 := [some (.inl (some 52)), some (zi y788), none, none]) (by decide +kernel) (Or.inr (Or.inl ⟨_, rfl⟩)) rfl rfl rfl rfl (Nat.le_of_ble_eq_true rfl) (z52 hg787) rfl (qI_le (by decide) (e_placesWith hg787)) (fun y789 qy789 hRy789 => ?_)
        have hRy789 : h787 = qy789 := hRy789
        subst hRy789
        refine y_put (j := 456) (lo := (-2147483648)) (hi := 2147483647) (len := 3) (r := (12, 44, 0, 1372)) (by decide +kernel) hg787 (t52 hg787) at52 rfl rfl (by decide) rfl (qin_full _).1 (qin_full _).2 rfl (fun h790 hg790 hl790 hs790 ho790 => ?_)
        have ho790 : hO 52 44 h787 h790 := ho790
        have hs790 : hsl h790 52 44 = some (zi y789) := hs790
        refine y_same (i := .aload_n 0) (len := 1) (r := (0, 0, 0, 0)) (pc' := 65) (ls' := [some (.inl (some 52)), none]) (st' := [.inl (some 52)]) (by decide +kernel) (fun k q => by cases q) rfl ?_
        refine y_same (i := .aload_n 0) (len := 1) (r := (0, 0, 0, 0)) (pc' := 66) (ls' := [some (.inl (some 52)), none]) (st' := [.inl (some 52), .inl (some 52)]) (by decide +kernel) (fun k q => by cases q) rfl ?_
        refine y_ic (c := 1) (len := 1) (r := (0, 0, 0, 0)) (by decide +kernel) (by decide) (fun y791 hy791 => ?_)
        refine y_cI (i := .invokevirtual 453) (len := 3) (r := (0, 255, 12, 1850)) (nL := 4) (k := 1) (n := 2) (hs := []) (args := [.inl (some 52), zi y791]) (rest := [.inl (some 52)]) (l0 := [some (.inl (some 52)), some (zi y791), none, none]) (by decide +kernel) (Or.inr (Or.inl ⟨_, rfl⟩)) rfl rfl rfl rfl (Nat.le_of_ble_eq_true rfl) (z52 hg790) rfl (qI_le (by decide) (e_placesWith hg790)) (fun y792 qy792 hRy792 => ?_)
        have hRy792 : h790 = qy792 := hRy792
        subst hRy792
        refine y_put (j := 459) (lo := (-2147483648)) (hi := 2147483647) (len := 3) (r := (12, 45, 0, 1373)) (by decide +kernel) hg790 (t52 hg790) at52 rfl rfl (by decide) rfl (qin_full _).1 (qin_full _).2 rfl (fun h793 hg793 hl793 hs793 ho793 => ?_)
        have ho793 : hO 52 45 h790 h793 := ho793
        have hs793 : hsl h793 52 45 = some (zi y792) := hs793
        refine y_ic (c := 0) (len := 1) (r := (0, 0, 0, 0)) (by decide +kernel) (by decide) (fun y794 hy794 => ?_)
        refine y_same (i := .istore_n 1) (len := 1) (r := (0, 0, 0, 0)) (pc' := 75) (ls' := [some (.inl (some 52)), some (zi y794)]) (st' := []) (by decide +kernel) (fun k q => by cases q) rfl ?_
        exact wg_l 6 τ778 h793 ⟨(aup_trans O771.1 O778.1), hg793, fun k T j hk (hC : (k < 383 ∨ 387 < k) ∧ (k ≠ 52 ∨ j < 39 ∨ j = 40 ∨ 45 < j)) => ((ho793 k j (by omega)).trans ((ho790 k j (by omega)).trans ((ho787 k j (by omega)).trans ((O778.2.2 k T j (O771.1 _ _ hk) (show k ≠ 386 by omega)).trans ((ho777 k j (by omega)).trans (O771.2.2 k T j hk (show k ≠ 383 ∧ k ≠ 384 ∧ k ≠ 385 ∧ (k ≠ 52 ∨ j ≠ 39) by omega)))))))⟩ 0 y794 (by omega) (by omega) (by omega)
      ·
        refine y_cF (c := .eq) (off := 4) (len := 3) (r := (0, 0, 0, 0)) (by decide +kernel) (acmpF (c := .eq) (by show ¬ (_ = _); omega)) ?_
        refine y_rV (len := 1) (r := (0, 0, 0, 0)) (nL := 2) (n9 := 1) (hs := []) (by decide +kernel) rfl ?_
        exact ⟨_, ⟨(aup_trans O771.1 O778.1), O778.2.1, fun k T j hk (hC : (k < 383 ∨ 387 < k) ∧ (k ≠ 52 ∨ j < 39 ∨ j = 40 ∨ 45 < j)) => ((O778.2.2 k T j (O771.1 _ _ hk) (show k ≠ 386 by omega)).trans ((ho777 k j (by omega)).trans (O771.2.2 k T j hk (show k ≠ 383 ∧ k ≠ 384 ∧ k ≠ 385 ∧ (k ≠ 52 ∨ j ≠ 39) by omega))))⟩⟩
    ·
      refine y_iF (c := .eq) (off := 14) (len := 3) (r := (0, 0, 0, 0)) (by decide +kernel) (acmpF (c := .eq) (by show ¬ (_ = _); omega)) ?_
      refine y_same (i := .aload_n 0) (len := 1) (r := (0, 0, 0, 0)) (pc' := 26) (ls' := [some (.inl (some 52)), none]) (st' := [.inl (some 52)]) (by decide +kernel) (fun k q => by cases q) rfl ?_
      refine y_same (i := .dup) (len := 1) (r := (0, 0, 0, 0)) (pc' := 27) (ls' := [some (.inl (some 52)), none]) (st' := [.inl (some 52), .inl (some 52)]) (by decide +kernel) (fun k q => by cases q) rfl ?_
      obtain ⟨v795, hv796, lv795, uv795⟩ := g_int (i := 42) (lo := (-2147483648)) (hi := 2147483647) O778.2.1 (t52 O778.2.1) at52 (by decide) rfl
      refine y_get (j := 447) (len := 3) (r := (12, 42, 0, 1370)) (by decide +kernel) O778.2.1 (t52 O778.2.1) at52 rfl rfl hv796 ?_
      refine y_ic (c := 1) (len := 1) (r := (0, 0, 0, 0)) (by decide +kernel) (by decide) (fun y797 hy797 => ?_)
      refine y_bp (i := .iadd) (f := fun x y => x + y) (len := 1) (r := (0, 0, 0, 0)) (by decide +kernel) rfl rfl (fun y798 hy798 => ?_)
      refine y_put (j := 447) (lo := (-2147483648)) (hi := 2147483647) (len := 3) (r := (12, 42, 0, 1370)) (by decide +kernel) O778.2.1 (t52 O778.2.1) at52 rfl rfl (by decide) rfl (qin_full _).1 (qin_full _).2 rfl (fun h799 hg799 hl799 hs799 ho799 => ?_)
      have ho799 : hO 52 42 h778 h799 := ho799
      have hs799 : hsl h799 52 42 = some (zi y798) := hs799
      refine y_rV (len := 1) (r := (0, 0, 0, 0)) (nL := 2) (n9 := 1) (hs := []) (by decide +kernel) rfl ?_
      exact ⟨_, ⟨(aup_trans O771.1 O778.1), hg799, fun k T j hk (hC : (k < 383 ∨ 387 < k) ∧ (k ≠ 52 ∨ j < 39 ∨ j = 40 ∨ 45 < j)) => ((ho799 k j (by omega)).trans ((O778.2.2 k T j (O771.1 _ _ hk) (show k ≠ 386 by omega)).trans ((ho777 k j (by omega)).trans (O771.2.2 k T j hk (show k ≠ 383 ∧ k ≠ 384 ∧ k ≠ 385 ∧ (k ≠ 52 ∨ j ≠ 39) by omega)))))⟩⟩
  ·
    refine y_iF (c := .ne) (off := 4) (len := 3) (r := (0, 0, 0, 0)) (by decide +kernel) (acmpF (c := .ne) (by show _ = _; omega)) ?_
    refine y_rV (len := 1) (r := (0, 0, 0, 0)) (nL := 2) (n9 := 1) (hs := []) (by decide +kernel) rfl ?_
    exact ⟨_, ⟨O771.1, O771.2.1, fun k T j hk (hC : (k < 383 ∨ 387 < k) ∧ (k ≠ 52 ∨ j < 39 ∨ j = 40 ∨ 45 < j)) => (O771.2.2 k T j hk (show k ≠ 383 ∧ k ≠ 384 ∧ k ≠ 385 ∧ (k ≠ 52 ∨ j ≠ 39) by omega))⟩⟩
theorem sh_l {D : Nat} {τ0 : List Nat} {h0 : zh} {t q mm : Nat} {xa xb xk xm : Int32} {l2 : Option zv} (hg0 : hG τ0 h0) (w0 : wOK h0 xa xb) (hxk : xk.toInt = (q : Int)) (hq : q < 5) (hxm : xm.toInt = (mm : Int)) (hmm : mm ≤ 3) (ihr : ∀ (τ : List Nat) (h : zh), hG τ h → wOK h xa xb → ∀ x : Int32, x.toInt = (q : Int) + 1 → qV D 257 [some (.inl (some 52)), some (zi x), none, none, none] h t (fun h1 => ∃ τ1, oF (fun k j => (k < 382 ∨ 387 < k) ∧ (k ≠ 52 ∨ j < 39 ∨ j = 40 ∨ 45 < j)) τ h τ1 h1)) : ∀ (m : Nat) (τ : List Nat) (h : zh), oF (fun k j => (k < 382 ∨ 387 < k) ∧ (k ≠ 52 ∨ j < 39 ∨ j = 40 ∨ 45 < j)) τ0 h0 τ h → ∀ (n : Nat) (xn : Int32), xn.toInt = (n : Int) → n ≤ mm + 1 → mm + 1 ≤ n + m → qX D 257 51 [some (.inl (some 52)), some (zi xk), l2, some (zi xm), some (zi xn)] [] h t (rV (fun h1 => ∃ τ1, oF (fun k j => (k < 382 ∨ 387 < k) ∧ (k ≠ 52 ∨ j < 39 ∨ j = 40 ∨ 45 < j)) τ0 h0 τ1 h1) t) := by
  intro m
  induction m with
  | zero =>
    intro τ h O0 n xn hxn hn hm
    have hg := O0.2.1
    refine y_same (i := .iload 4) (len := 2) (r := (0, 0, 0, 0)) (pc' := 53) (ls' := [some (.inl (some 52)), some (zi xk), l2, some (zi xm), some (zi xn)]) (st' := [zi xn]) (by decide +kernel) (fun k q => by cases q) rfl ?_
    refine y_same (i := .iload_n 3) (len := 1) (r := (0, 0, 0, 0)) (pc' := 54) (ls' := [some (.inl (some 52)), some (zi xk), l2, some (zi xm), some (zi xn)]) (st' := [zi xm, zi xn]) (by decide +kernel) (fun k q => by cases q) rfl ?_
    refine y_cT (c := .gt) (off := 24) (pc' := 78) (len := 3) (r := (0, 0, 0, 0)) (by decide +kernel) (acmpT (c := .gt) (by show _ < _; omega)) (by decide +kernel) ?_
    refine y_rV (len := 1) (r := (0, 0, 0, 0)) (nL := 5) (n9 := 2) (hs := []) (by decide +kernel) rfl ?_
    exact ⟨_, O0⟩
  | succ m ih =>
    intro τ h O0 n xn hxn hn hm
    have hg := O0.2.1
    refine y_same (i := .iload 4) (len := 2) (r := (0, 0, 0, 0)) (pc' := 53) (ls' := [some (.inl (some 52)), some (zi xk), l2, some (zi xm), some (zi xn)]) (st' := [zi xn]) (by decide +kernel) (fun k q => by cases q) rfl ?_
    refine y_same (i := .iload_n 3) (len := 1) (r := (0, 0, 0, 0)) (pc' := 54) (ls' := [some (.inl (some 52)), some (zi xk), l2, some (zi xm), some (zi xn)]) (st' := [zi xm, zi xn]) (by decide +kernel) (fun k q => by cases q) rfl ?_
    rcases Decidable.em (xn.toInt > xm.toInt) with q800 | q800
    ·
      refine y_cT (c := .gt) (off := 24) (pc' := 78) (len := 3) (r := (0, 0, 0, 0)) (by decide +kernel) (acmpT (c := .gt) (by show _ < _; omega)) (by decide +kernel) ?_
      refine y_rV (len := 1) (r := (0, 0, 0, 0)) (nL := 5) (n9 := 2) (hs := []) (by decide +kernel) rfl ?_
      exact ⟨_, O0⟩
    ·
      refine y_cF (c := .gt) (off := 24) (len := 3) (r := (0, 0, 0, 0)) (by decide +kernel) (acmpF (c := .gt) (by show _ ≤ _; omega)) ?_
      refine y_same (i := .aload_n 0) (len := 1) (r := (0, 0, 0, 0)) (pc' := 58) (ls' := [some (.inl (some 52)), some (zi xk), l2, some (zi xm), some (zi xn)]) (st' := [.inl (some 52)]) (by decide +kernel) (fun k q => by cases q) rfl ?_
      refine y_get (j := 73) (len := 3) (r := (12, 34, 2, 1362)) (by decide +kernel) hg (t52 hg) at52 rfl rfl (g_r52 (f := 34) (T2 := 382) hg rfl (by decide)).1 ?_
      refine y_same (i := .iload_n 1) (len := 1) (r := (0, 0, 0, 0)) (pc' := 62) (ls' := [some (.inl (some 52)), some (zi xk), l2, some (zi xm), some (zi xn)]) (st' := [zi xk, .inl (some 382)]) (by decide +kernel) (fun k q => by cases q) rfl ?_
      refine y_same (i := .iload 4) (len := 2) (r := (0, 0, 0, 0)) (pc' := 64) (ls' := [some (.inl (some 52)), some (zi xk), l2, some (zi xm), some (zi xn)]) (st' := [zi xn, zi xk, .inl (some 382)]) (by decide +kernel) (fun k q => by cases q) rfl ?_
      refine y_ias (i := q) (len := 1) (r := (0, 0, 0, 0)) (by decide +kernel) hg (tu382 hg) at382 rfl (by omega) (by omega) (sr1 (by omega)) (by omega) (by omega) (fun h801 hg801 hl801 hs801 ho801 => ?_)
      refine y_same (i := .aload_n 0) (len := 1) (r := (0, 0, 0, 0)) (pc' := 66) (ls' := [some (.inl (some 52)), some (zi xk), l2, some (zi xm), some (zi xn)]) (st' := [.inl (some 52)]) (by decide +kernel) (fun k q => by cases q) rfl ?_
      refine y_same (i := .iload_n 1) (len := 1) (r := (0, 0, 0, 0)) (pc' := 67) (ls' := [some (.inl (some 52)), some (zi xk), l2, some (zi xm), some (zi xn)]) (st' := [zi xk, .inl (some 52)]) (by decide +kernel) (fun k q => by cases q) rfl ?_
      refine y_ic (c := 1) (len := 1) (r := (0, 0, 0, 0)) (by decide +kernel) (by decide) (fun y802 hy802 => ?_)
      refine y_add (len := 1) (r := (0, 0, 0, 0)) (by decide +kernel) (by omega) (by omega) (fun y803 hy803 => ?_)
      have F804 : oF (fun k j => (k < 382 ∨ 387 < k) ∧ (k ≠ 52 ∨ j < 39 ∨ j = 40 ∨ 45 < j)) τ0 h0 τ h801 := ⟨aup_trans O0.1 (aup_refl _), hg801, fun k T j hk (hC : (k < 382 ∨ 387 < k) ∧ (k ≠ 52 ∨ j < 39 ∨ j = 40 ∨ 45 < j)) => ((ho801 k j (by omega))).trans (O0.2.2 k T j hk hC)⟩
      have w804 := wOK_up w0 (fun j => F804.2.2 55 55 j (tu55 hg0) (show (55 < 382 ∨ 387 < 55) ∧ (55 ≠ 52 ∨ j < 39 ∨ j = 40 ∨ 45 < j) by omega)) (fun j => F804.2.2 381 381 j (tu381 hg0) (show (381 < 382 ∨ 387 < 381) ∧ (381 ≠ 52 ∨ j < 39 ∨ j = 40 ∨ 45 < j) by omega))
      refine y_cV (i := .invokevirtual 465) (len := 3) (r := (0, 257, 12, 1806)) (nL := 5) (k := 0) (n := 2) (hs := []) (args := [.inl (some 52), zi y803]) (rest := []) (l0 := [some (.inl (some 52)), some (zi y803), none, none, none]) (by decide +kernel) (Or.inr (Or.inl ⟨_, rfl⟩)) rfl rfl rfl rfl (Nat.le_of_ble_eq_true rfl) (z52 hg801) rfl (ihr τ h801 hg801 w804 y803 (by omega)) (fun h804 hR804 => ?_)
      obtain ⟨τ804, O804⟩ := hR804
      refine y_inc (j := 4) (a := xn) (c := 1) (ls' := fun v => [some (.inl (some 52)), some (zi xk), l2, some (zi xm), some v]) (len := 3) (r := (0, 0, 0, 0)) (by decide +kernel) rfl (fun _ => rfl) (by decide) (by omega) (by omega) (fun y805 hy805 => ?_)
      show qX D 257 75 [some (.inl (some 52)), some (zi xk), l2, some (zi xm), some (zi y805)] [] h804 t _
      refine y_goto (off := (-24)) (pc' := 51) (len := 3) (r := (0, 0, 0, 0)) (by decide +kernel) (by decide +kernel) ?_
      exact ih τ804 h804 ⟨aup_trans O0.1 O804.1, O804.2.1, fun k T j hk (hC : (k < 382 ∨ 387 < k) ∧ (k ≠ 52 ∨ j < 39 ∨ j = 40 ∨ 45 < j)) => (((O804.2.2 k T j (O0.1 _ _ hk) (show (k < 382 ∨ 387 < k) ∧ (k ≠ 52 ∨ j < 39 ∨ j = 40 ∨ 45 < j) by omega)).trans (ho801 k j (by omega)))).trans (O0.2.2 k T j hk hC)⟩ (n + 1) y805 (by omega) (by omega) (by omega)
theorem e_shapes {t : Nat} {xa xb : Int32} : ∀ (j q : Nat), (q : Int) + j = xa.toInt → ∀ (τ : List Nat) (h : zh), hG τ h → wOK h xa xb → ∀ xk : Int32, xk.toInt = (q : Int) → qV (44 + j) 257 [some (.inl (some 52)), some (zi xk), none, none, none] h t (fun h1 => ∃ τ1, oF (fun k j => (k < 382 ∨ 387 < k) ∧ (k ≠ 52 ∨ j < 39 ∨ j = 40 ∨ 45 < j)) τ h τ1 h1) := by
  intro j
  induction j with
  | zero =>
    intro q hq τ h hg w xk hxk
    have hc := cnt_le hg w
    refine qV_of ?_
    show qX (43 + 0) _ _ _ _ _ _ _
    refine y_same (i := .iload_n 1) (len := 1) (r := (0, 0, 0, 0)) (pc' := 1) (ls' := [some (.inl (some 52)), some (zi xk), none, none, none]) (st' := [zi xk]) (by decide +kernel) (fun k q => by cases q) rfl ?_
    refine y_same (i := .aload_n 0) (len := 1) (r := (0, 0, 0, 0)) (pc' := 2) (ls' := [some (.inl (some 52)), some (zi xk), none, none, none]) (st' := [.inl (some 52), zi xk]) (by decide +kernel) (fun k q => by cases q) rfl ?_
    refine y_get (j := 20) (len := 3) (r := (12, 9, 2, 1337)) (by decide +kernel) hg (t52 hg) at52 rfl rfl (g_r52 (f := 9) (T2 := 55) hg rfl (by decide)).1 ?_
    refine y_ic (c := 0) (len := 1) (r := (0, 0, 0, 0)) (by decide +kernel) (by decide) (fun y806 hy806 => ?_)
    refine y_cI (i := .invokestatic 143) (len := 3) (r := (1, 166, 12, 1543)) (nL := 2) (k := 1) (n := 2) (hs := []) (args := [.inl (some 55), zi y806]) (rest := [zi xk]) (l0 := [some (.inl (some 55)), some (zi y806)]) (by decide +kernel) (Or.inl ⟨_, rfl⟩) rfl rfl rfl rfl (Nat.le_of_ble_eq_true rfl) rfl rfl (e_parts (s := 0) hg (by omega) (by omega) w.2.2.1) (fun y807 qy807 hRy807 => ?_)
    obtain ⟨rfl, rfl⟩ := hRy807
    refine y_cF (c := .ne) (off := 8) (len := 3) (r := (0, 0, 0, 0)) (by decide +kernel) (acmpF (c := .ne) (by show _ = _; omega)) ?_
    refine y_same (i := .aload_n 0) (len := 1) (r := (0, 0, 0, 0)) (pc' := 13) (ls' := [some (.inl (some 52)), some (zi xk), none, none, none]) (st' := [.inl (some 52)]) (by decide +kernel) (fun k q => by cases q) rfl ?_
    refine y_cV (i := .invokevirtual 462) (len := 3) (r := (0, 256, 12, 1810)) (nL := 2) (k := 0) (n := 1) (hs := []) (args := [.inl (some 52)]) (rest := []) (l0 := [some (.inl (some 52)), none]) (by decide +kernel) (Or.inr (Or.inl ⟨_, rfl⟩)) rfl rfl rfl rfl (Nat.le_of_ble_eq_true rfl) (z52 hg) rfl (qV_le (by omega) (e_weighs hg w)) (fun h808 hR808 => ?_)
    obtain ⟨τ808, O808⟩ := hR808
    refine y_rV (len := 1) (r := (0, 0, 0, 0)) (nL := 5) (n9 := 2) (hs := []) (by decide +kernel) rfl ?_
    exact ⟨_, ⟨O808.1, O808.2.1, fun k T j hk (hC : (k < 382 ∨ 387 < k) ∧ (k ≠ 52 ∨ j < 39 ∨ j = 40 ∨ 45 < j)) => (O808.2.2 k T j hk (show (k < 383 ∨ 387 < k) ∧ (k ≠ 52 ∨ j < 39 ∨ j = 40 ∨ 45 < j) by omega))⟩⟩
  | succ j ihj =>
    intro q hq τ h hg w xk hxk
    have hc := cnt_le hg w
    have e44 : 44 + (j + 1) = (43 + (j + 1)) + 1 := by omega
    rw [e44]
    have ihj : ∀ q : Nat, (q : Int) + j = xa.toInt → ∀ (τ : List Nat) (h : zh), hG τ h → wOK h xa xb → ∀ xk : Int32, xk.toInt = (q : Int) → qV (43 + (j + 1)) 257 [some (.inl (some 52)), some (zi xk), none, none, none] h t (fun h1 => ∃ τ1, oF (fun k j => (k < 382 ∨ 387 < k) ∧ (k ≠ 52 ∨ j < 39 ∨ j = 40 ∨ 45 < j)) τ h τ1 h1) := by
      have e45 : 43 + (j + 1) = 44 + j := by omega
      rw [e45]
      exact ihj
    refine qV_of ?_
    refine y_same (i := .iload_n 1) (len := 1) (r := (0, 0, 0, 0)) (pc' := 1) (ls' := [some (.inl (some 52)), some (zi xk), none, none, none]) (st' := [zi xk]) (by decide +kernel) (fun k q => by cases q) rfl ?_
    refine y_same (i := .aload_n 0) (len := 1) (r := (0, 0, 0, 0)) (pc' := 2) (ls' := [some (.inl (some 52)), some (zi xk), none, none, none]) (st' := [.inl (some 52), zi xk]) (by decide +kernel) (fun k q => by cases q) rfl ?_
    refine y_get (j := 20) (len := 3) (r := (12, 9, 2, 1337)) (by decide +kernel) hg (t52 hg) at52 rfl rfl (g_r52 (f := 9) (T2 := 55) hg rfl (by decide)).1 ?_
    refine y_ic (c := 0) (len := 1) (r := (0, 0, 0, 0)) (by decide +kernel) (by decide) (fun y809 hy809 => ?_)
    refine y_cI (i := .invokestatic 143) (len := 3) (r := (1, 166, 12, 1543)) (nL := 2) (k := 1) (n := 2) (hs := []) (args := [.inl (some 55), zi y809]) (rest := [zi xk]) (l0 := [some (.inl (some 55)), some (zi y809)]) (by decide +kernel) (Or.inl ⟨_, rfl⟩) rfl rfl rfl rfl (Nat.le_of_ble_eq_true rfl) rfl rfl (e_parts (s := 0) hg (by omega) (by omega) w.2.2.1) (fun y810 qy810 hRy810 => ?_)
    obtain ⟨rfl, rfl⟩ := hRy810
    refine y_cT (c := .ne) (off := 8) (pc' := 17) (len := 3) (r := (0, 0, 0, 0)) (by decide +kernel) (acmpT (c := .ne) (by show ¬ (_ = _); omega)) (by decide +kernel) ?_
    refine y_same (i := .aload_n 0) (len := 1) (r := (0, 0, 0, 0)) (pc' := 18) (ls' := [some (.inl (some 52)), some (zi xk), none, none, none]) (st' := [.inl (some 52)]) (by decide +kernel) (fun k q => by cases q) rfl ?_
    refine y_get (j := 20) (len := 3) (r := (12, 9, 2, 1337)) (by decide +kernel) hg (t52 hg) at52 rfl rfl (g_r52 (f := 9) (T2 := 55) hg rfl (by decide)).1 ?_
    refine y_ic (c := 0) (len := 1) (r := (0, 0, 0, 0)) (by decide +kernel) (by decide) (fun y811 hy811 => ?_)
    refine y_same (i := .iload_n 1) (len := 1) (r := (0, 0, 0, 0)) (pc' := 23) (ls' := [some (.inl (some 52)), some (zi xk), none, none, none]) (st' := [zi xk, zi y811, .inl (some 55)]) (by decide +kernel) (fun k q => by cases q) rfl ?_
    refine y_cI (i := .invokestatic 147) (len := 3) (r := (1, 168, 12, 1546)) (nL := 2) (k := 1) (n := 2) (hs := []) (args := [zi y811, zi xk]) (rest := [.inl (some 55)]) (l0 := [some (zi y811), some (zi xk)]) (by decide +kernel) (Or.inl ⟨_, rfl⟩) rfl rfl rfl rfl (Nat.le_of_ble_eq_true rfl) rfl rfl (e_partAt (s := 0) (k := q) (by omega) (by omega) (by omega) (by omega)) (fun y812 qy812 hRy812 => ?_)
    obtain ⟨rfl, hy812⟩ := hRy812
    obtain ⟨v813, hv814, lv813, uv813⟩ := g55 (i := (46 * 0 + 2 + 4 * q)) hg (by omega) (by omega) (by omega)
    refine y_ial (i := (46 * 0 + 2 + 4 * q)) (len := 1) (r := (0, 0, 0, 0)) (by decide +kernel) hg (tu55 hg) at55 (by omega) hv814 ?_
    refine y_same (i := .istore_n 2) (len := 1) (r := (0, 0, 0, 0)) (pc' := 28) (ls' := [some (.inl (some 52)), some (zi xk), some (zi v813), none, none]) (st' := []) (by decide +kernel) (fun k q => by cases q) rfl ?_
    refine y_same (i := .iload_n 2) (len := 1) (r := (0, 0, 0, 0)) (pc' := 29) (ls' := [some (.inl (some 52)), some (zi xk), some (zi v813), none, none]) (st' := [zi v813]) (by decide +kernel) (fun k q => by cases q) rfl ?_
    refine y_ic (c := 2) (len := 1) (r := (0, 0, 0, 0)) (by decide +kernel) (by decide) (fun y815 hy815 => ?_)
    rcases Decidable.em (v813.toInt ≠ y815.toInt) with q816 | q816
    ·
      refine y_cT (c := .ne) (off := 7) (pc' := 37) (len := 3) (r := (0, 0, 0, 0)) (by decide +kernel) (acmpT (c := .ne) (by show ¬ (_ = _); omega)) (by decide +kernel) ?_
      refine y_same (i := .iload_n 2) (len := 1) (r := (0, 0, 0, 0)) (pc' := 38) (ls' := [some (.inl (some 52)), some (zi xk), some (zi v813), none, none]) (st' := [zi v813]) (by decide +kernel) (fun k q => by cases q) rfl ?_
      refine y_ic (c := 3) (len := 1) (r := (0, 0, 0, 0)) (by decide +kernel) (by decide) (fun y817 hy817 => ?_)
      rcases Decidable.em (v813.toInt ≠ y817.toInt) with q818 | q818
      ·
        refine y_cT (c := .ne) (off := 7) (pc' := 46) (len := 3) (r := (0, 0, 0, 0)) (by decide +kernel) (acmpT (c := .ne) (by show ¬ (_ = _); omega)) (by decide +kernel) ?_
        refine y_ic (c := 0) (len := 1) (r := (0, 0, 0, 0)) (by decide +kernel) (by decide) (fun y819 hy819 => ?_)
        refine y_same (i := .istore_n 3) (len := 1) (r := (0, 0, 0, 0)) (pc' := 48) (ls' := [some (.inl (some 52)), some (zi xk), some (zi v813), some (zi y819), none]) (st' := []) (by decide +kernel) (fun k q => by cases q) rfl ?_
        refine y_ic (c := 0) (len := 1) (r := (0, 0, 0, 0)) (by decide +kernel) (by decide) (fun y820 hy820 => ?_)
        refine y_same (i := .istore 4) (len := 2) (r := (0, 0, 0, 0)) (pc' := 51) (ls' := [some (.inl (some 52)), some (zi xk), some (zi v813), some (zi y819), some (zi y820)]) (st' := []) (by decide +kernel) (fun k q => by cases q) rfl ?_
        exact sh_l (mm := 0) hg w hxk (by omega) (by omega) (by omega) (fun τ h hg w x hx => ihj (q + 1) (by omega) τ h hg w x (by omega)) 4 τ h (oF_refl hg) 0 y820 (by omega) (by omega) (by omega)
      ·
        refine y_cF (c := .ne) (off := 7) (len := 3) (r := (0, 0, 0, 0)) (by decide +kernel) (acmpF (c := .ne) (by show _ = _; omega)) ?_
        refine y_ic (c := 3) (len := 1) (r := (0, 0, 0, 0)) (by decide +kernel) (by decide) (fun y821 hy821 => ?_)
        refine y_goto (off := 4) (pc' := 47) (len := 3) (r := (0, 0, 0, 0)) (by decide +kernel) (by decide +kernel) ?_
        refine y_same (i := .istore_n 3) (len := 1) (r := (0, 0, 0, 0)) (pc' := 48) (ls' := [some (.inl (some 52)), some (zi xk), some (zi v813), some (zi y821), none]) (st' := []) (by decide +kernel) (fun k q => by cases q) rfl ?_
        refine y_ic (c := 0) (len := 1) (r := (0, 0, 0, 0)) (by decide +kernel) (by decide) (fun y822 hy822 => ?_)
        refine y_same (i := .istore 4) (len := 2) (r := (0, 0, 0, 0)) (pc' := 51) (ls' := [some (.inl (some 52)), some (zi xk), some (zi v813), some (zi y821), some (zi y822)]) (st' := []) (by decide +kernel) (fun k q => by cases q) rfl ?_
        exact sh_l (mm := 3) hg w hxk (by omega) (by omega) (by omega) (fun τ h hg w x hx => ihj (q + 1) (by omega) τ h hg w x (by omega)) 4 τ h (oF_refl hg) 0 y822 (by omega) (by omega) (by omega)
    ·
      refine y_cF (c := .ne) (off := 7) (len := 3) (r := (0, 0, 0, 0)) (by decide +kernel) (acmpF (c := .ne) (by show _ = _; omega)) ?_
      refine y_ic (c := 2) (len := 1) (r := (0, 0, 0, 0)) (by decide +kernel) (by decide) (fun y823 hy823 => ?_)
      refine y_goto (off := 13) (pc' := 47) (len := 3) (r := (0, 0, 0, 0)) (by decide +kernel) (by decide +kernel) ?_
      refine y_same (i := .istore_n 3) (len := 1) (r := (0, 0, 0, 0)) (pc' := 48) (ls' := [some (.inl (some 52)), some (zi xk), some (zi v813), some (zi y823), none]) (st' := []) (by decide +kernel) (fun k q => by cases q) rfl ?_
      refine y_ic (c := 0) (len := 1) (r := (0, 0, 0, 0)) (by decide +kernel) (by decide) (fun y824 hy824 => ?_)
      refine y_same (i := .istore 4) (len := 2) (r := (0, 0, 0, 0)) (pc' := 51) (ls' := [some (.inl (some 52)), some (zi xk), some (zi v813), some (zi y823), some (zi y824)]) (st' := []) (by decide +kernel) (fun k q => by cases q) rfl ?_
      exact sh_l (mm := 2) hg w hxk (by omega) (by omega) (by omega) (fun τ h hg w x hx => ihj (q + 1) (by omega) τ h hg w x (by omega)) 4 τ h (oF_refl hg) 0 y824 (by omega) (by omega) (by omega)
