/-! the class's small heaps: whether a heap is one of a side -/
theorem tkP_0y {H : hpT} {f : tlT} {u u' : usT} {i : it4} {X Y : Nat} (h0 : i.1 = 0) (hX : vX_ f i = X) (hY : vY_ f i = Y) (t : tkA H u X 0 = some u') (e : H.2.1 X = Y) : tkP H f u i = some u' := by
  unfold tkP
  rw [if_pos h0, hX, hY, t]
  exact if_pos e
theorem tkP_0x {H : hpT} {f : tlT} {u u' : usT} {i : it4} {X Y : Nat} (h0 : i.1 = 0) (hX : vX_ f i = X) (hY : vY_ f i = Y) (t : tkA H u X 0 = some u') (e : ¬ H.2.1 X = Y) : tkP H f u i = none := by
  unfold tkP
  rw [if_pos h0, hX, hY, t]
  exact if_neg e
theorem tkP_0n {H : hpT} {f : tlT} {u : usT} {i : it4} {X : Nat} (h0 : i.1 = 0) (hX : vX_ f i = X) (t : tkA H u X 0 = none) : tkP H f u i = none := by
  unfold tkP
  rw [if_pos h0, hX, t]
theorem tkP_1y {H : hpT} {f : tlT} {u u' : usT} {i : it4} {X Y Z : Nat} (h0 : i.1 = 1) (hX : vX_ f i = X) (hY : vY_ f i = Y) (hZ : vZ_ f i = Z) (t : tkA H u X 1 = some u') (e : H.2.1 X = Y) (e2 : H.2.2.1 X = Z) : tkP H f u i = some u' := by
  unfold tkP
  rw [if_neg (by omega), if_pos h0, hX, hY, hZ, t]
  exact if_pos ⟨e, e2⟩
theorem tkP_1x {H : hpT} {f : tlT} {u u' : usT} {i : it4} {X Y : Nat} (h0 : i.1 = 1) (hX : vX_ f i = X) (hY : vY_ f i = Y) (t : tkA H u X 1 = some u') (e : ¬ H.2.1 X = Y) : tkP H f u i = none := by
  unfold tkP
  rw [if_neg (by omega), if_pos h0, hX, hY, t]
  exact if_neg (fun q => e q.1)
theorem tkP_1z {H : hpT} {f : tlT} {u u' : usT} {i : it4} {X Z : Nat} (h0 : i.1 = 1) (hX : vX_ f i = X) (hZ : vZ_ f i = Z) (t : tkA H u X 1 = some u') (e : ¬ H.2.2.1 X = Z) : tkP H f u i = none := by
  unfold tkP
  rw [if_neg (by omega), if_pos h0, hX, hZ, t]
  exact if_neg (fun q => e q.2)
theorem tkP_1n {H : hpT} {f : tlT} {u : usT} {i : it4} {X : Nat} (h0 : i.1 = 1) (hX : vX_ f i = X) (t : tkA H u X 1 = none) : tkP H f u i = none := by
  unfold tkP
  rw [if_neg (by omega), if_pos h0, hX, t]
theorem tkP_2 {H : hpT} {f : tlT} {u : usT} {i : it4} {X Y : Nat} (h0 : i.1 = 2) (hX : vX_ f i = X) (hY : vY_ f i = Y) : tkP H f u i = tkL H 11 u X Y := by
  unfold tkP
  rw [if_neg (by omega), if_neg (by omega), if_pos h0, hX, hY]
theorem tkP_3 {H : hpT} {f : tlT} {u : usT} {i : it4} {X : Nat} (h0 : i.1 < 0 ∨ 2 < i.1) (hX : vX_ f i = X) : tkP H f u i = tkT H 23 u [X] := by
  unfold tkP
  rw [if_neg (by omega), if_neg (by omega), if_neg (by omega), hX]
theorem e_tp {d t i : Nat} {τ : List Nat} {h : zh} {H : hpT} {u : usT} {f : tlT} {ik : it4} {xi : Int32} (hg : hG τ h) {RA IA : Nat} {l : List it4} (tRA : τ[RA]? = some 1002) (tIA : τ[IA]? = some 1005) (hRA : RA < 42) (hIA : IA < 42) (pA : hsl h RA 0 = some (.inl (some IA))) (r : rwC h RA IA l) (okk : okI ik) (hk : l[i]? = some ik) (exi : xi.toInt = (i : Int)) (vc : vC_ h f) (hfb : ∀ v, v ≤ 5 → f v ≤ 5) (hp : hpC h H) (uc : usC h u) (hw : hpW H) : qI (d + 4) 19 [some (.inl (some 43)), some (.inl (some RA)), some (zi xi), none, none] h t (fun y9 h1 => hG τ h1 ∧ (∀ k j, (k ≠ 48 ∧ (k ≠ 43 ∨ j ≠ 5)) → hsl h1 k j = hsl h k j) ∧ ((∃ u', tkP H f u ik = some u' ∧ y9.toInt = 1 ∧ usC h1 u') ∨ (tkP H f u ik = none ∧ y9.toInt = 0))) := by
  have okk2 := okk
  unfold okI at okk2
  obtain ⟨xl, hl, el⟩ := r.1
  have hk9 := (List.getElem?_eq_some_iff.mp hk).1
  refine qI_of ?_
  refine y_same (i := .aload_n 0) (len := 1) (r := (0, 0, 0, 0)) (pc' := 1) (ls' := [some (.inl (some 43)), some (.inl (some RA)), some (zi xi), none, none]) (st' := [.inl (some 43)]) (by decide +kernel) (fun k q => by cases q) rfl ?_
  refine y_same (i := .aload_n 1) (len := 1) (r := (0, 0, 0, 0)) (pc' := 2) (ls' := [some (.inl (some 43)), some (.inl (some RA)), some (zi xi), none, none]) (st' := [.inl (some RA), .inl (some 43)]) (by decide +kernel) (fun k q => by cases q) rfl ?_
  refine y_same (i := .iload_n 2) (len := 1) (r := (0, 0, 0, 0)) (pc' := 3) (ls' := [some (.inl (some 43)), some (.inl (some RA)), some (zi xi), none, none]) (st' := [zi xi, .inl (some RA), .inl (some 43)]) (by decide +kernel) (fun k q => by cases q) rfl ?_
  refine y_ic (c := 1) (len := 1) (r := (0, 0, 0, 0)) (by decide +kernel) (by decide) (fun y3385 hy3385 => ?_)
  refine y_cI (i := .invokevirtual 51) (len := 3) (r := (0, 64, 6, 1210)) (nL := 3) (k := 1) (n := 3) (hs := []) (args := [.inl (some RA), zi xi, zi y3385]) (rest := [.inl (some 43)]) (l0 := [some (.inl (some RA)), some (zi xi), some (zi y3385)]) (by decide +kernel) (Or.inr (Or.inl ⟨_, rfl⟩)) rfl rfl rfl rfl (Nat.le_of_ble_eq_true rfl) (zO hg tRA aw1002 rfl) rfl (qI_le (by omega) (e_tell5 (d := 0) (RA := RA) (IA := IA) (w := 1) hg tRA tIA pA r (by omega) hk okk (by omega) (by omega))) (fun y3386 qy3386 hRy3386 => ?_)
  obtain ⟨rfl, ey3386⟩ := hRy3386
  have ey3386 : y3386.toInt = ik.2.1 := ey3386
  refine y_cI (i := .invokevirtual 54) (len := 3) (r := (0, 11, 1, 1211)) (nL := 2) (k := 1) (n := 2) (hs := []) (args := [.inl (some 43), zi y3386]) (rest := []) (l0 := [some (.inl (some 43)), some (zi y3386)]) (by decide +kernel) (Or.inr (Or.inl ⟨_, rfl⟩)) rfl rfl rfl rfl (Nat.le_of_ble_eq_true rfl) (zO hg (tv43 hg) aw43 rfl) rfl (qI_le (by omega) (e_val (d := 0) (v := ik.2.1.toNat) hg vc (by omega) (by omega))) (fun y3387 qy3387 hRy3387 => ?_)
  obtain ⟨rfl, ey3387⟩ := hRy3387
  obtain ⟨X3388, eX3388⟩ : ∃ X, f (ik.2.1.toNat) = X := ⟨_, rfl⟩
  have bX3388 : X3388 ≤ 5 := by
    rw [← eX3388]
    exact hfb _ (by omega)
  rw [eX3388] at ey3387
  refine y_same (i := .istore_n 3) (len := 1) (r := (0, 0, 0, 0)) (pc' := 11) (ls' := [some (.inl (some 43)), some (.inl (some RA)), some (zi xi), some (zi y3387), none]) (st' := []) (by decide +kernel) (fun k q => by cases q) rfl ?_
  refine y_same (i := .aload_n 0) (len := 1) (r := (0, 0, 0, 0)) (pc' := 12) (ls' := [some (.inl (some 43)), some (.inl (some RA)), some (zi xi), some (zi y3387), none]) (st' := [.inl (some 43)]) (by decide +kernel) (fun k q => by cases q) rfl ?_
  refine y_same (i := .aload_n 1) (len := 1) (r := (0, 0, 0, 0)) (pc' := 13) (ls' := [some (.inl (some 43)), some (.inl (some RA)), some (zi xi), some (zi y3387), none]) (st' := [.inl (some RA), .inl (some 43)]) (by decide +kernel) (fun k q => by cases q) rfl ?_
  refine y_same (i := .iload_n 2) (len := 1) (r := (0, 0, 0, 0)) (pc' := 14) (ls' := [some (.inl (some 43)), some (.inl (some RA)), some (zi xi), some (zi y3387), none]) (st' := [zi xi, .inl (some RA), .inl (some 43)]) (by decide +kernel) (fun k q => by cases q) rfl ?_
  refine y_ic (c := 2) (len := 1) (r := (0, 0, 0, 0)) (by decide +kernel) (by decide) (fun y3389 hy3389 => ?_)
  refine y_cI (i := .invokevirtual 51) (len := 3) (r := (0, 64, 6, 1210)) (nL := 3) (k := 1) (n := 3) (hs := []) (args := [.inl (some RA), zi xi, zi y3389]) (rest := [.inl (some 43)]) (l0 := [some (.inl (some RA)), some (zi xi), some (zi y3389)]) (by decide +kernel) (Or.inr (Or.inl ⟨_, rfl⟩)) rfl rfl rfl rfl (Nat.le_of_ble_eq_true rfl) (zO hg tRA aw1002 rfl) rfl (qI_le (by omega) (e_tell5 (d := 0) (RA := RA) (IA := IA) (w := 2) hg tRA tIA pA r (by omega) hk okk (by omega) (by omega))) (fun y3390 qy3390 hRy3390 => ?_)
  obtain ⟨rfl, ey3390⟩ := hRy3390
  have ey3390 : y3390.toInt = ik.2.2.1 := ey3390
  refine y_cI (i := .invokevirtual 54) (len := 3) (r := (0, 11, 1, 1211)) (nL := 2) (k := 1) (n := 2) (hs := []) (args := [.inl (some 43), zi y3390]) (rest := []) (l0 := [some (.inl (some 43)), some (zi y3390)]) (by decide +kernel) (Or.inr (Or.inl ⟨_, rfl⟩)) rfl rfl rfl rfl (Nat.le_of_ble_eq_true rfl) (zO hg (tv43 hg) aw43 rfl) rfl (qI_le (by omega) (e_val (d := 0) (v := ik.2.2.1.toNat) hg vc (by omega) (by omega))) (fun y3391 qy3391 hRy3391 => ?_)
  obtain ⟨rfl, ey3391⟩ := hRy3391
  obtain ⟨X3392, eX3392⟩ : ∃ X, f (ik.2.2.1.toNat) = X := ⟨_, rfl⟩
  have bX3392 : X3392 ≤ 5 := by
    rw [← eX3392]
    exact hfb _ (by omega)
  rw [eX3392] at ey3391
  refine y_same (i := .istore 4) (len := 2) (r := (0, 0, 0, 0)) (pc' := 23) (ls' := [some (.inl (some 43)), some (.inl (some RA)), some (zi xi), some (zi y3387), some (zi y3391)]) (st' := []) (by decide +kernel) (fun k q => by cases q) rfl ?_
  refine y_same (i := .aload_n 1) (len := 1) (r := (0, 0, 0, 0)) (pc' := 24) (ls' := [some (.inl (some 43)), some (.inl (some RA)), some (zi xi), some (zi y3387), some (zi y3391)]) (st' := [.inl (some RA)]) (by decide +kernel) (fun k q => by cases q) rfl ?_
  refine y_same (i := .iload_n 2) (len := 1) (r := (0, 0, 0, 0)) (pc' := 25) (ls' := [some (.inl (some 43)), some (.inl (some RA)), some (zi xi), some (zi y3387), some (zi y3391)]) (st' := [zi xi, .inl (some RA)]) (by decide +kernel) (fun k q => by cases q) rfl ?_
  refine y_ic (c := 0) (len := 1) (r := (0, 0, 0, 0)) (by decide +kernel) (by decide) (fun y3393 hy3393 => ?_)
  refine y_cI (i := .invokevirtual 51) (len := 3) (r := (0, 64, 6, 1210)) (nL := 3) (k := 1) (n := 3) (hs := []) (args := [.inl (some RA), zi xi, zi y3393]) (rest := []) (l0 := [some (.inl (some RA)), some (zi xi), some (zi y3393)]) (by decide +kernel) (Or.inr (Or.inl ⟨_, rfl⟩)) rfl rfl rfl rfl (Nat.le_of_ble_eq_true rfl) (zO hg tRA aw1002 rfl) rfl (qI_le (by omega) (e_tell5 (d := 0) (RA := RA) (IA := IA) (w := 0) hg tRA tIA pA r (by omega) hk okk (by omega) (by omega))) (fun y3394 qy3394 hRy3394 => ?_)
  obtain ⟨rfl, ey3394⟩ := hRy3394
  have ey3394 : y3394.toInt = ik.1 := ey3394
  rcases (show y3394.toInt = 0 ∨ y3394.toInt = 1 ∨ y3394.toInt = 2 ∨ (y3394.toInt < 0 ∨ 2 < y3394.toInt) by omega) with q3395 | q3395 | q3395 | q3395
  ·
    refine y_sw (dflt := 106) (lo := 0) (hi := 2) (offs := #[27, 53, 98]) (off := 27) (pc' := 56) (len := 27) (r := (0, 0, 0, 0)) (by decide +kernel) (zswI (k := 0) (by omega) (by omega) (by omega) rfl) (by decide +kernel) ?_
    refine y_same (i := .aload_n 0) (len := 1) (r := (0, 0, 0, 0)) (pc' := 57) (ls' := [some (.inl (some 43)), some (.inl (some RA)), some (zi xi), some (zi y3387), some (zi y3391)]) (st' := [.inl (some 43)]) (by decide +kernel) (fun k q => by cases q) rfl ?_
    refine y_same (i := .iload_n 3) (len := 1) (r := (0, 0, 0, 0)) (pc' := 58) (ls' := [some (.inl (some 43)), some (.inl (some RA)), some (zi xi), some (zi y3387), some (zi y3391)]) (st' := [zi y3387, .inl (some 43)]) (by decide +kernel) (fun k q => by cases q) rfl ?_
    refine y_ic (c := 0) (len := 1) (r := (0, 0, 0, 0)) (by decide +kernel) (by decide) (fun y3396 hy3396 => ?_)
    refine y_cI (i := .invokevirtual 75) (len := 3) (r := (0, 20, 1, 1268)) (nL := 3) (k := 2) (n := 3) (hs := []) (args := [.inl (some 43), zi y3387, zi y3396]) (rest := []) (l0 := [some (.inl (some 43)), some (zi y3387), some (zi y3396)]) (by decide +kernel) (Or.inr (Or.inl ⟨_, rfl⟩)) rfl rfl rfl rfl (Nat.le_of_ble_eq_true rfl) (zO hg (tv43 hg) aw43 rfl) rfl (qI_le (by omega) (e_tkA (d := 0) (w := X3388) (k := 0) (u := u) hg hp uc (by omega) (by omega) (by omega))) (fun y3397 h3397 hRy3397 => ?_)
    rcases hRy3397 with ⟨u3397, tk3397, hg3397, hy3397, uc3397, F3397⟩ | ⟨tk3397, hy3397, hh3397⟩
    ·
      obtain ⟨t13397, t23397, t33397, t43397⟩ := tkA_some tk3397
      obtain ⟨⟨xa3397, ha3397, ea3397⟩, xb3397, hb3397, eb3397⟩ := (hp.1 X3388 t13397 (by omega)).2 (by rw [t23397]; decide)
      refine y_iF (c := .eq) (off := 18) (len := 3) (r := (0, 0, 0, 0)) (by decide +kernel) (acmpF (c := .eq) (by show ¬ (_ = _); omega)) ?_
      refine y_same (i := .aload_n 0) (len := 1) (r := (0, 0, 0, 0)) (pc' := 66) (ls' := [some (.inl (some 43)), some (.inl (some RA)), some (zi xi), some (zi y3387), some (zi y3391)]) (st' := [.inl (some 43)]) (by decide +kernel) (fun k q => by cases q) rfl ?_
      refine y_get (j := 18) (len := 3) (r := (1, 2, 2, 339)) (by decide +kernel) hg3397 (tv43 hg3397) aw43 rfl rfl (g_rU (f := 2) (T2 := 46) hg3397 (tv43 hg3397) aw43 rfl (by decide)) ?_
      refine y_same (i := .iload_n 3) (len := 1) (r := (0, 0, 0, 0)) (pc' := 70) (ls' := [some (.inl (some 43)), some (.inl (some RA)), some (zi xi), some (zi y3387), some (zi y3391)]) (st' := [zi y3387, .inl (some 46)]) (by decide +kernel) (fun k q => by cases q) rfl ?_
      have hv3398 := (F3397 46 X3388 (by omega)).trans ha3397
      refine y_ial (i := X3388) (len := 1) (r := (0, 0, 0, 0)) (by decide +kernel) hg3397 (tv46 hg3397) aw46 (by omega) hv3398 ?_
      refine y_same (i := .iload 4) (len := 2) (r := (0, 0, 0, 0)) (pc' := 73) (ls' := [some (.inl (some 43)), some (.inl (some RA)), some (zi xi), some (zi y3387), some (zi y3391)]) (st' := [zi y3391, zi xa3397]) (by decide +kernel) (fun k q => by cases q) rfl ?_
      rcases Decidable.em (xa3397.toInt ≠ y3391.toInt) with q3399 | q3399
      ·
        refine y_cT (c := .ne) (off := 7) (pc' := 80) (len := 3) (r := (0, 0, 0, 0)) (by decide +kernel) (acmpT (c := .ne) (by show ¬ (_ = _); omega)) (by decide +kernel) ?_
        refine y_ic (c := 0) (len := 1) (r := (0, 0, 0, 0)) (by decide +kernel) (by decide) (fun y3400 hy3400 => ?_)
        refine y_rI (len := 1) (r := (0, 0, 0, 0)) (nL := 5) (k := 2) (n9 := 3) (hs := []) (by decide +kernel) rfl (zfit_b (by omega) (by omega)).2 ?_
        exact ⟨hg3397, fun k j hC => (F3397 k j (by omega)), Or.inr ⟨tkP_0x (by omega) eX3388 eX3392 tk3397 (by omega), by omega⟩⟩
      ·
        refine y_cF (c := .ne) (off := 7) (len := 3) (r := (0, 0, 0, 0)) (by decide +kernel) (acmpF (c := .ne) (by show _ = _; omega)) ?_
        refine y_ic (c := 1) (len := 1) (r := (0, 0, 0, 0)) (by decide +kernel) (by decide) (fun y3401 hy3401 => ?_)
        refine y_goto (off := 4) (pc' := 81) (len := 3) (r := (0, 0, 0, 0)) (by decide +kernel) (by decide +kernel) ?_
        refine y_rI (len := 1) (r := (0, 0, 0, 0)) (nL := 5) (k := 2) (n9 := 3) (hs := []) (by decide +kernel) rfl (zfit_b (by omega) (by omega)).2 ?_
        exact ⟨hg3397, fun k j hC => (F3397 k j (by omega)), Or.inl ⟨_, tkP_0y (by omega) eX3388 eX3392 tk3397 (by omega), by omega, uc3397⟩⟩
    ·
      subst hh3397
      refine y_iT (c := .eq) (off := 18) (pc' := 80) (len := 3) (r := (0, 0, 0, 0)) (by decide +kernel) (acmpT (c := .eq) (by show _ = _; omega)) (by decide +kernel) ?_
      refine y_ic (c := 0) (len := 1) (r := (0, 0, 0, 0)) (by decide +kernel) (by decide) (fun y3402 hy3402 => ?_)
      refine y_rI (len := 1) (r := (0, 0, 0, 0)) (nL := 5) (k := 2) (n9 := 3) (hs := []) (by decide +kernel) rfl (zfit_b (by omega) (by omega)).2 ?_
      exact ⟨hg, fun k j hC => rfl, Or.inr ⟨tkP_0n (by omega) eX3388 tk3397, by omega⟩⟩
  ·
    refine y_sw (dflt := 106) (lo := 0) (hi := 2) (offs := #[27, 53, 98]) (off := 53) (pc' := 82) (len := 27) (r := (0, 0, 0, 0)) (by decide +kernel) (zswI (k := 1) (by omega) (by omega) (by omega) rfl) (by decide +kernel) ?_
    refine y_same (i := .aload_n 0) (len := 1) (r := (0, 0, 0, 0)) (pc' := 83) (ls' := [some (.inl (some 43)), some (.inl (some RA)), some (zi xi), some (zi y3387), some (zi y3391)]) (st' := [.inl (some 43)]) (by decide +kernel) (fun k q => by cases q) rfl ?_
    refine y_same (i := .iload_n 3) (len := 1) (r := (0, 0, 0, 0)) (pc' := 84) (ls' := [some (.inl (some 43)), some (.inl (some RA)), some (zi xi), some (zi y3387), some (zi y3391)]) (st' := [zi y3387, .inl (some 43)]) (by decide +kernel) (fun k q => by cases q) rfl ?_
    refine y_ic (c := 1) (len := 1) (r := (0, 0, 0, 0)) (by decide +kernel) (by decide) (fun y3403 hy3403 => ?_)
    refine y_cI (i := .invokevirtual 75) (len := 3) (r := (0, 20, 1, 1268)) (nL := 3) (k := 2) (n := 3) (hs := []) (args := [.inl (some 43), zi y3387, zi y3403]) (rest := []) (l0 := [some (.inl (some 43)), some (zi y3387), some (zi y3403)]) (by decide +kernel) (Or.inr (Or.inl ⟨_, rfl⟩)) rfl rfl rfl rfl (Nat.le_of_ble_eq_true rfl) (zO hg (tv43 hg) aw43 rfl) rfl (qI_le (by omega) (e_tkA (d := 0) (w := X3388) (k := 1) (u := u) hg hp uc (by omega) (by omega) (by omega))) (fun y3404 h3404 hRy3404 => ?_)
    rcases hRy3404 with ⟨u3404, tk3404, hg3404, hy3404, uc3404, F3404⟩ | ⟨tk3404, hy3404, hh3404⟩
    ·
      obtain ⟨t13404, t23404, t33404, t43404⟩ := tkA_some tk3404
      obtain ⟨⟨xa3404, ha3404, ea3404⟩, xb3404, hb3404, eb3404⟩ := (hp.1 X3388 t13404 (by omega)).2 (by rw [t23404]; decide)
      refine y_iF (c := .eq) (off := 37) (len := 3) (r := (0, 0, 0, 0)) (by decide +kernel) (acmpF (c := .eq) (by show ¬ (_ = _); omega)) ?_
      refine y_same (i := .aload_n 0) (len := 1) (r := (0, 0, 0, 0)) (pc' := 92) (ls' := [some (.inl (some 43)), some (.inl (some RA)), some (zi xi), some (zi y3387), some (zi y3391)]) (st' := [.inl (some 43)]) (by decide +kernel) (fun k q => by cases q) rfl ?_
      refine y_get (j := 18) (len := 3) (r := (1, 2, 2, 339)) (by decide +kernel) hg3404 (tv43 hg3404) aw43 rfl rfl (g_rU (f := 2) (T2 := 46) hg3404 (tv43 hg3404) aw43 rfl (by decide)) ?_
      refine y_same (i := .iload_n 3) (len := 1) (r := (0, 0, 0, 0)) (pc' := 96) (ls' := [some (.inl (some 43)), some (.inl (some RA)), some (zi xi), some (zi y3387), some (zi y3391)]) (st' := [zi y3387, .inl (some 46)]) (by decide +kernel) (fun k q => by cases q) rfl ?_
      have hv3405 := (F3404 46 X3388 (by omega)).trans ha3404
      refine y_ial (i := X3388) (len := 1) (r := (0, 0, 0, 0)) (by decide +kernel) hg3404 (tv46 hg3404) aw46 (by omega) hv3405 ?_
      refine y_same (i := .iload 4) (len := 2) (r := (0, 0, 0, 0)) (pc' := 99) (ls' := [some (.inl (some 43)), some (.inl (some RA)), some (zi xi), some (zi y3387), some (zi y3391)]) (st' := [zi y3391, zi xa3404]) (by decide +kernel) (fun k q => by cases q) rfl ?_
      rcases Decidable.em (xa3404.toInt ≠ y3391.toInt) with q3406 | q3406
      ·
        refine y_cT (c := .ne) (off := 26) (pc' := 125) (len := 3) (r := (0, 0, 0, 0)) (by decide +kernel) (acmpT (c := .ne) (by show ¬ (_ = _); omega)) (by decide +kernel) ?_
        refine y_ic (c := 0) (len := 1) (r := (0, 0, 0, 0)) (by decide +kernel) (by decide) (fun y3407 hy3407 => ?_)
        refine y_rI (len := 1) (r := (0, 0, 0, 0)) (nL := 5) (k := 2) (n9 := 3) (hs := []) (by decide +kernel) rfl (zfit_b (by omega) (by omega)).2 ?_
        exact ⟨hg3404, fun k j hC => (F3404 k j (by omega)), Or.inr ⟨tkP_1x (by omega) eX3388 eX3392 tk3404 (by omega), by omega⟩⟩
      ·
        refine y_cF (c := .ne) (off := 26) (len := 3) (r := (0, 0, 0, 0)) (by decide +kernel) (acmpF (c := .ne) (by show _ = _; omega)) ?_
        refine y_same (i := .aload_n 0) (len := 1) (r := (0, 0, 0, 0)) (pc' := 103) (ls' := [some (.inl (some 43)), some (.inl (some RA)), some (zi xi), some (zi y3387), some (zi y3391)]) (st' := [.inl (some 43)]) (by decide +kernel) (fun k q => by cases q) rfl ?_
        refine y_get (j := 21) (len := 3) (r := (1, 3, 2, 340)) (by decide +kernel) hg3404 (tv43 hg3404) aw43 rfl rfl (g_rU (f := 3) (T2 := 47) hg3404 (tv43 hg3404) aw43 rfl (by decide)) ?_
        refine y_same (i := .iload_n 3) (len := 1) (r := (0, 0, 0, 0)) (pc' := 107) (ls' := [some (.inl (some 43)), some (.inl (some RA)), some (zi xi), some (zi y3387), some (zi y3391)]) (st' := [zi y3387, .inl (some 47)]) (by decide +kernel) (fun k q => by cases q) rfl ?_
        have hv3408 := (F3404 47 X3388 (by omega)).trans hb3404
        refine y_ial (i := X3388) (len := 1) (r := (0, 0, 0, 0)) (by decide +kernel) hg3404 (tv47 hg3404) aw47 (by omega) hv3408 ?_
        refine y_same (i := .aload_n 0) (len := 1) (r := (0, 0, 0, 0)) (pc' := 109) (ls' := [some (.inl (some 43)), some (.inl (some RA)), some (zi xi), some (zi y3387), some (zi y3391)]) (st' := [.inl (some 43), zi xb3404]) (by decide +kernel) (fun k q => by cases q) rfl ?_
        refine y_same (i := .aload_n 1) (len := 1) (r := (0, 0, 0, 0)) (pc' := 110) (ls' := [some (.inl (some 43)), some (.inl (some RA)), some (zi xi), some (zi y3387), some (zi y3391)]) (st' := [.inl (some RA), .inl (some 43), zi xb3404]) (by decide +kernel) (fun k q => by cases q) rfl ?_
        refine y_same (i := .iload_n 2) (len := 1) (r := (0, 0, 0, 0)) (pc' := 111) (ls' := [some (.inl (some 43)), some (.inl (some RA)), some (zi xi), some (zi y3387), some (zi y3391)]) (st' := [zi xi, .inl (some RA), .inl (some 43), zi xb3404]) (by decide +kernel) (fun k q => by cases q) rfl ?_
        refine y_ic (c := 3) (len := 1) (r := (0, 0, 0, 0)) (by decide +kernel) (by decide) (fun y3409 hy3409 => ?_)
        refine y_cI (i := .invokevirtual 51) (len := 3) (r := (0, 64, 6, 1210)) (nL := 3) (k := 1) (n := 3) (hs := []) (args := [.inl (some RA), zi xi, zi y3409]) (rest := [.inl (some 43), zi xb3404]) (l0 := [some (.inl (some RA)), some (zi xi), some (zi y3409)]) (by decide +kernel) (Or.inr (Or.inl ⟨_, rfl⟩)) rfl rfl rfl rfl (Nat.le_of_ble_eq_true rfl) (zO hg3404 tRA aw1002 rfl) rfl (qI_le (by omega) (e_tell5 (d := 0) (RA := RA) (IA := IA) (w := 3) hg3404 tRA tIA ((F3404 RA 0 (by omega)).trans pA) (rwC_up2 r (fun k j hk => (F3404 k j (by omega)))) (by omega) hk okk (by omega) (by omega))) (fun y3410 qy3410 hRy3410 => ?_)
        obtain ⟨rfl, ey3410⟩ := hRy3410
        have ey3410 : y3410.toInt = ik.2.2.2 := ey3410
        refine y_cI (i := .invokevirtual 54) (len := 3) (r := (0, 11, 1, 1211)) (nL := 2) (k := 1) (n := 2) (hs := []) (args := [.inl (some 43), zi y3410]) (rest := [zi xb3404]) (l0 := [some (.inl (some 43)), some (zi y3410)]) (by decide +kernel) (Or.inr (Or.inl ⟨_, rfl⟩)) rfl rfl rfl rfl (Nat.le_of_ble_eq_true rfl) (zO hg3404 (tv43 hg3404) aw43 rfl) rfl (qI_le (by omega) (e_val (d := 0) (v := ik.2.2.2.toNat) hg3404 (vC_up vc (fun j => (F3404 44 j (by omega)))) (by omega) (by omega))) (fun y3411 qy3411 hRy3411 => ?_)
        obtain ⟨rfl, ey3411⟩ := hRy3411
        obtain ⟨X3412, eX3412⟩ : ∃ X, f (ik.2.2.2.toNat) = X := ⟨_, rfl⟩
        have bX3412 : X3412 ≤ 5 := by
          rw [← eX3412]
          exact hfb _ (by omega)
        rw [eX3412] at ey3411
        rcases Decidable.em (xb3404.toInt ≠ y3411.toInt) with q3413 | q3413
        ·
          refine y_cT (c := .ne) (off := 7) (pc' := 125) (len := 3) (r := (0, 0, 0, 0)) (by decide +kernel) (acmpT (c := .ne) (by show ¬ (_ = _); omega)) (by decide +kernel) ?_
          refine y_ic (c := 0) (len := 1) (r := (0, 0, 0, 0)) (by decide +kernel) (by decide) (fun y3414 hy3414 => ?_)
          refine y_rI (len := 1) (r := (0, 0, 0, 0)) (nL := 5) (k := 2) (n9 := 3) (hs := []) (by decide +kernel) rfl (zfit_b (by omega) (by omega)).2 ?_
          exact ⟨hg3404, fun k j hC => (F3404 k j (by omega)), Or.inr ⟨tkP_1z (by omega) eX3388 eX3412 tk3404 (by omega), by omega⟩⟩
        ·
          refine y_cF (c := .ne) (off := 7) (len := 3) (r := (0, 0, 0, 0)) (by decide +kernel) (acmpF (c := .ne) (by show _ = _; omega)) ?_
          refine y_ic (c := 1) (len := 1) (r := (0, 0, 0, 0)) (by decide +kernel) (by decide) (fun y3415 hy3415 => ?_)
          refine y_goto (off := 4) (pc' := 126) (len := 3) (r := (0, 0, 0, 0)) (by decide +kernel) (by decide +kernel) ?_
          refine y_rI (len := 1) (r := (0, 0, 0, 0)) (nL := 5) (k := 2) (n9 := 3) (hs := []) (by decide +kernel) rfl (zfit_b (by omega) (by omega)).2 ?_
          exact ⟨hg3404, fun k j hC => (F3404 k j (by omega)), Or.inl ⟨_, tkP_1y (by omega) eX3388 eX3392 eX3412 tk3404 (by omega) (by omega), by omega, uc3404⟩⟩
    ·
      subst hh3404
      refine y_iT (c := .eq) (off := 37) (pc' := 125) (len := 3) (r := (0, 0, 0, 0)) (by decide +kernel) (acmpT (c := .eq) (by show _ = _; omega)) (by decide +kernel) ?_
      refine y_ic (c := 0) (len := 1) (r := (0, 0, 0, 0)) (by decide +kernel) (by decide) (fun y3416 hy3416 => ?_)
      refine y_rI (len := 1) (r := (0, 0, 0, 0)) (nL := 5) (k := 2) (n9 := 3) (hs := []) (by decide +kernel) rfl (zfit_b (by omega) (by omega)).2 ?_
      exact ⟨hg, fun k j hC => rfl, Or.inr ⟨tkP_1n (by omega) eX3388 tk3404, by omega⟩⟩
  ·
    refine y_sw (dflt := 106) (lo := 0) (hi := 2) (offs := #[27, 53, 98]) (off := 98) (pc' := 127) (len := 27) (r := (0, 0, 0, 0)) (by decide +kernel) (zswI (k := 2) (by omega) (by omega) (by omega) rfl) (by decide +kernel) ?_
    refine y_same (i := .aload_n 0) (len := 1) (r := (0, 0, 0, 0)) (pc' := 128) (ls' := [some (.inl (some 43)), some (.inl (some RA)), some (zi xi), some (zi y3387), some (zi y3391)]) (st' := [.inl (some 43)]) (by decide +kernel) (fun k q => by cases q) rfl ?_
    refine y_same (i := .iload_n 3) (len := 1) (r := (0, 0, 0, 0)) (pc' := 129) (ls' := [some (.inl (some 43)), some (.inl (some RA)), some (zi xi), some (zi y3387), some (zi y3391)]) (st' := [zi y3387, .inl (some 43)]) (by decide +kernel) (fun k q => by cases q) rfl ?_
    refine y_same (i := .iload 4) (len := 2) (r := (0, 0, 0, 0)) (pc' := 131) (ls' := [some (.inl (some 43)), some (.inl (some RA)), some (zi xi), some (zi y3387), some (zi y3391)]) (st' := [zi y3391, zi y3387, .inl (some 43)]) (by decide +kernel) (fun k q => by cases q) rfl ?_
    refine y_cI (i := .invokevirtual 79) (len := 3) (r := (0, 21, 1, 1272)) (nL := 5) (k := 2) (n := 3) (hs := []) (args := [.inl (some 43), zi y3387, zi y3391]) (rest := []) (l0 := [some (.inl (some 43)), some (zi y3387), some (zi y3391), none, none]) (by decide +kernel) (Or.inr (Or.inl ⟨_, rfl⟩)) rfl rfl rfl rfl (Nat.le_of_ble_eq_true rfl) (zO hg (tv43 hg) aw43 rfl) rfl (qI_le (by omega) (e_tl (d := 0) (x := X3388) (y := X3392) (u := u) hg hp uc hw (by omega) (by omega) (by omega))) (fun y3417 h3417 hRy3417 => ?_)
    obtain ⟨hg3417, F3417, hD3417⟩ := hRy3417
    have by3417 : 0 ≤ y3417.toInt ∧ y3417.toInt ≤ 1 := by
      rcases hD3417 with ⟨_, _, q9, _⟩ | ⟨_, q9⟩ <;> omega
    refine y_rI (len := 1) (r := (0, 0, 0, 0)) (nL := 5) (k := 2) (n9 := 3) (hs := []) (by decide +kernel) rfl (zfit_b (by omega) (by omega)).2 ?_
    rw [tkP_2 (by omega) eX3388 eX3392]
    exact ⟨hg3417, fun k j hC => (F3417 k j (by omega)), hD3417⟩
  ·
    refine y_sw (dflt := 106) (lo := 0) (hi := 2) (offs := #[27, 53, 98]) (off := 106) (pc' := 135) (len := 27) (r := (0, 0, 0, 0)) (by decide +kernel) (zswO (by omega)) (by decide +kernel) ?_
    refine y_same (i := .aload_n 0) (len := 1) (r := (0, 0, 0, 0)) (pc' := 136) (ls' := [some (.inl (some 43)), some (.inl (some RA)), some (zi xi), some (zi y3387), some (zi y3391)]) (st' := [.inl (some 43)]) (by decide +kernel) (fun k q => by cases q) rfl ?_
    refine y_same (i := .iload_n 3) (len := 1) (r := (0, 0, 0, 0)) (pc' := 137) (ls' := [some (.inl (some 43)), some (.inl (some RA)), some (zi xi), some (zi y3387), some (zi y3391)]) (st' := [zi y3387, .inl (some 43)]) (by decide +kernel) (fun k q => by cases q) rfl ?_
    refine y_cI (i := .invokevirtual 82) (len := 3) (r := (0, 22, 1, 1276)) (nL := 5) (k := 2) (n := 2) (hs := []) (args := [.inl (some 43), zi y3387]) (rest := []) (l0 := [some (.inl (some 43)), some (zi y3387), none, none, none]) (by decide +kernel) (Or.inr (Or.inl ⟨_, rfl⟩)) rfl rfl rfl rfl (Nat.le_of_ble_eq_true rfl) (zO hg (tv43 hg) aw43 rfl) rfl (qI_le (by omega) (e_tt (d := 0) (x := X3388) (u := u) hg hp uc hw (by omega) (by omega))) (fun y3418 h3418 hRy3418 => ?_)
    obtain ⟨hg3418, F3418, hD3418⟩ := hRy3418
    have by3418 : 0 ≤ y3418.toInt ∧ y3418.toInt ≤ 1 := by
      rcases hD3418 with ⟨_, _, q9, _⟩ | ⟨_, q9⟩ <;> omega
    refine y_rI (len := 1) (r := (0, 0, 0, 0)) (nL := 5) (k := 2) (n9 := 3) (hs := []) (by decide +kernel) rfl (zfit_b (by omega) (by omega)).2 ?_
    rw [tkP_3 (by omega) eX3388]
    exact ⟨hg3418, fun k j hC => (F3418 k j (by omega)), hD3418⟩
theorem ns_l {d t S : Nat} {τ : List Nat} {h : zh} {H : hpT} {u : usT} (hg : hG τ h) (hp : hpC h H) {s9 : Nat} (hs9 : s9 < 2048) (hs5 : hsl h 43 5 = some (zi (Int32.ofInt (s9 : Int)))) (us : ∀ w, 1 ≤ w → w ≤ 10 → s9.testBit w = u w) : ∀ (n : Nat) (i : Nat) (xi : Int32), (xi.toInt = (i : Int)) → (1 ≤ i) → (i ≤ 11) → (∀ v, 1 ≤ v → v < i → H.1 v ≠ -1 → u v = true) → (12 ≤ i + n) → qX (d + 1) 18 53 [some (.inl (some 43)), some (.inl (some S)), some (zi xi)] [] h t (rI (fun y h1 => h = h1 ∧ ((y.toInt = 1 ∧ nst H u) ∨ (y.toInt = 0 ∧ ¬ nst H u))) t) := by
  intro n
  induction n with
  | zero =>
    intro i xi hxi hi1 hi c1 hn
    exfalso
    omega
  | succ n ih =>
    intro i xi hxi hi1 hi c1 hn
    skip
    refine y_same (i := .iload_n 2) (len := 1) (r := (0, 0, 0, 0)) (pc' := 54) (ls' := [some (.inl (some 43)), some (.inl (some S)), some (zi xi)]) (st' := [zi xi]) (by decide +kernel) (fun k q => by cases q) rfl ?_
    refine y_bi (c := 11) (len := 2) (r := (0, 0, 0, 0)) (by decide +kernel) (by decide) (fun y3419 hy3419 => ?_)
    rcases Decidable.em (xi.toInt ≥ y3419.toInt) with q3420 | q3420
    ·
      refine y_cT (c := .ge) (off := 32) (pc' := 88) (len := 3) (r := (0, 0, 0, 0)) (by decide +kernel) (acmpT (c := .ge) (by show _ ≤ _; omega)) (by decide +kernel) ?_
      refine y_ic (c := 1) (len := 1) (r := (0, 0, 0, 0)) (by decide +kernel) (by decide) (fun y3421 hy3421 => ?_)
      refine y_rI (len := 1) (r := (0, 0, 0, 0)) (nL := 3) (k := 2) (n9 := 2) (hs := []) (by decide +kernel) rfl (zfit_b (by omega) (by omega)).2 ?_
      exact ⟨rfl, Or.inl ⟨by omega, fun v h1 h2 q7 => c1 v h1 (by omega) q7⟩⟩
    ·
      refine y_cF (c := .ge) (off := 32) (len := 3) (r := (0, 0, 0, 0)) (by decide +kernel) (acmpF (c := .ge) (by show _ < _; omega)) ?_
      obtain ⟨⟨xv, hv, ev⟩, -⟩ := hp.1 i (by omega) (by omega)
      refine y_same (i := .aload_n 0) (len := 1) (r := (0, 0, 0, 0)) (pc' := 60) (ls' := [some (.inl (some 43)), some (.inl (some S)), some (zi xi)]) (st' := [.inl (some 43)]) (by decide +kernel) (fun k q => by cases q) rfl ?_
      refine y_get (j := 15) (len := 3) (r := (1, 1, 2, 338)) (by decide +kernel) hg (tv43 hg) aw43 rfl rfl (g_rU (f := 1) (T2 := 45) hg (tv43 hg) aw43 rfl (by decide)) ?_
      refine y_same (i := .iload_n 2) (len := 1) (r := (0, 0, 0, 0)) (pc' := 64) (ls' := [some (.inl (some 43)), some (.inl (some S)), some (zi xi)]) (st' := [zi xi, .inl (some 45)]) (by decide +kernel) (fun k q => by cases q) rfl ?_
      refine y_ial (i := i) (len := 1) (r := (0, 0, 0, 0)) (by decide +kernel) hg (tv45 hg) aw45 (by omega) hv ?_
      refine y_ic (c := (-1)) (len := 1) (r := (0, 0, 0, 0)) (by decide +kernel) (by decide) (fun y3422 hy3422 => ?_)
      rcases Decidable.em (xv.toInt = y3422.toInt) with q3423 | q3423
      ·
        refine y_cT (c := .eq) (off := 16) (pc' := 82) (len := 3) (r := (0, 0, 0, 0)) (by decide +kernel) (acmpT (c := .eq) (by show _ = _; omega)) (by decide +kernel) ?_
        refine y_inc (j := 2) (a := xi) (c := 1) (ls' := fun v => [some (.inl (some 43)), some (.inl (some S)), some v]) (len := 3) (r := (0, 0, 0, 0)) (by decide +kernel) rfl (fun _ => rfl) (by decide) (by omega) (by omega) (fun y3424 hy3424 => ?_)
        show qX (d + 1) 18 85 [some (.inl (some 43)), some (.inl (some S)), some (zi y3424)] [] h t _
        refine y_goto (off := (-32)) (pc' := 53) (len := 3) (r := (0, 0, 0, 0)) (by decide +kernel) (by decide +kernel) ?_
        refine ih (i + 1) y3424 (by omega) (by omega) (by omega) (fun v h1 h2 q7 => ?_) (by omega)
        rcases Nat.lt_or_eq_of_le (Nat.le_of_lt_succ h2) with q8 | q8
        · exact c1 v h1 q8 q7
        · subst q8
          exact absurd (by omega) q7
      ·
        refine y_cF (c := .eq) (off := 16) (len := 3) (r := (0, 0, 0, 0)) (by decide +kernel) (acmpF (c := .eq) (by show ¬ (_ = _); omega)) ?_
        refine y_same (i := .aload_n 0) (len := 1) (r := (0, 0, 0, 0)) (pc' := 70) (ls' := [some (.inl (some 43)), some (.inl (some S)), some (zi xi)]) (st' := [.inl (some 43)]) (by decide +kernel) (fun k q => by cases q) rfl ?_
        refine y_get (j := 27) (len := 3) (r := (1, 5, 0, 342)) (by decide +kernel) hg (tv43 hg) aw43 rfl rfl hs5 ?_
        refine y_same (i := .iload_n 2) (len := 1) (r := (0, 0, 0, 0)) (pc' := 74) (ls' := [some (.inl (some 43)), some (.inl (some S)), some (zi xi)]) (st' := [zi xi, zi (Int32.ofInt (s9 : Int))]) (by decide +kernel) (fun k q => by cases q) rfl ?_
        refine y_bp (i := .ishr) (f := fun x y => x >>> (y &&& 31)) (len := 1) (r := (0, 0, 0, 0)) (by decide +kernel) rfl rfl (fun y3425 hy3425 => ?_)
        have hy3425 : y3425 = (Int32.ofInt (s9 : Int)) >>> (xi &&& 31) := hy3425
        refine y_ic (c := 1) (len := 1) (r := (0, 0, 0, 0)) (by decide +kernel) (by decide) (fun y3426 hy3426 => ?_)
        refine y_bp (i := .iand) (f := fun x y => x &&& y) (len := 1) (r := (0, 0, 0, 0)) (by decide +kernel) rfl rfl (fun y3427 hy3427 => ?_)
        have hy3427 : y3427 = y3425 &&& y3426 := hy3427
        have ea : y3427.toInt = (if s9.testBit i then 1 else 0 : Int) := by
          rw [hy3427, hy3425, i32_of hxi, ofI (w := 1) hy3426 rfl, sb_tab s9 hs9 i (by omega)]
        rw [us i (by omega) (by omega)] at ea
        rcases Decidable.em (y3427.toInt ≠ 0) with q3428 | q3428
        ·
          refine y_iT (c := .ne) (off := 5) (pc' := 82) (len := 3) (r := (0, 0, 0, 0)) (by decide +kernel) (acmpT (c := .ne) (by show ¬ (_ = _); omega)) (by decide +kernel) ?_
          refine y_inc (j := 2) (a := xi) (c := 1) (ls' := fun v => [some (.inl (some 43)), some (.inl (some S)), some v]) (len := 3) (r := (0, 0, 0, 0)) (by decide +kernel) rfl (fun _ => rfl) (by decide) (by omega) (by omega) (fun y3429 hy3429 => ?_)
          show qX (d + 1) 18 85 [some (.inl (some 43)), some (.inl (some S)), some (zi y3429)] [] h t _
          refine y_goto (off := (-32)) (pc' := 53) (len := 3) (r := (0, 0, 0, 0)) (by decide +kernel) (by decide +kernel) ?_
          refine ih (i + 1) y3429 (by omega) (by omega) (by omega) (fun v h1 h2 q7 => ?_) (by omega)
          rcases Nat.lt_or_eq_of_le (Nat.le_of_lt_succ h2) with q8 | q8
          · exact c1 v h1 q8 q7
          · subst q8
            cases h9 : u v with
            | true => rfl
            | false =>
              rw [h9] at ea
              exfalso
              simp only [Bool.false_eq_true, if_false] at ea
              omega
        ·
          refine y_iF (c := .ne) (off := 5) (len := 3) (r := (0, 0, 0, 0)) (by decide +kernel) (acmpF (c := .ne) (by show _ = _; omega)) ?_
          refine y_ic (c := 0) (len := 1) (r := (0, 0, 0, 0)) (by decide +kernel) (by decide) (fun y3430 hy3430 => ?_)
          refine y_rI (len := 1) (r := (0, 0, 0, 0)) (nL := 3) (k := 2) (n9 := 2) (hs := []) (by decide +kernel) rfl (zfit_b (by omega) (by omega)).2 ?_
          refine ⟨rfl, Or.inr ⟨by omega, fun q7 => ?_⟩⟩
          have h9 := q7 i (by omega) (by omega) (by omega)
          rw [h9] at ea
          simp only [if_true] at ea
          omega
theorem io_l {d t S RA IA : Nat} {τ : List Nat} {h0 : zh} {l : List it4} {f : tlT} {H : hpT} (tS : τ[S]? = some 1001) (hS : S < 42) (pS0' : hsl h0 S 0 = some (.inl (some RA))) (tRA : τ[RA]? = some 1002) (tIA : τ[IA]? = some 1005) (hRA : RA < 42) (hIA : IA < 42) (pA0 : hsl h0 RA 0 = some (.inl (some IA))) (r0 : rwC h0 RA IA l) (ok : ∀ (j : Nat) (i : it4), l[j]? = some i → okI i) (vc0 : vC_ h0 f) (hfb : ∀ v, v ≤ 5 → f v ≤ 5) (hp0' : hpC h0 H) (hw : hpW H) (hl5 : l.length ≤ 5) : ∀ (n : Nat) (h : zh) (u : usT) (i : Nat) (xi : Int32), (hG τ h) → (usC h u) → (∀ k j, (k ≠ 48 ∧ (k ≠ 43 ∨ j ≠ 5)) → hsl h k j = hsl h0 k j) → (xi.toInt = (i : Int)) → (i ≤ l.length) → (l.length < i + n) → qX (d + 4) 18 20 [some (.inl (some 43)), some (.inl (some S)), some (zi xi)] [] h t (rI (fun y h1 => hG τ h1 ∧ (∀ k j, (k ≠ 48 ∧ (k ≠ 43 ∨ j ≠ 5)) → hsl h1 k j = hsl h0 k j) ∧ ((y.toInt = 1 ∧ ∃ u', tkPs H f u (l.drop i) = some u' ∧ nst H u') ∨ (y.toInt = 0 ∧ ¬ ∃ u', tkPs H f u (l.drop i) = some u' ∧ nst H u'))) t) := by
  intro n
  induction n with
  | zero =>
    intro h u i xi hg uc F0 hxi hi hn
    exfalso
    omega
  | succ n ih =>
    intro h u i xi hg uc F0 hxi hi hn
    have pS0 : hsl h S 0 = some (.inl (some RA)) := (F0 _ _ (by omega)).trans pS0'
    have pA : hsl h RA 0 = some (.inl (some IA)) := (F0 _ _ (by omega)).trans pA0
    have r : rwC h RA IA l := rwC_up2 r0 (fun k j hk => F0 _ _ (by omega))
    have vc : vC_ h f := vC_up vc0 (fun j => F0 _ _ (by omega))
    have hp : hpC h H := hpC_up hp0' (fun k j hC => F0 _ _ (by omega))
    obtain ⟨xl, hl, el⟩ := r.1
    refine y_same (i := .iload_n 2) (len := 1) (r := (0, 0, 0, 0)) (pc' := 21) (ls' := [some (.inl (some 43)), some (.inl (some S)), some (zi xi)]) (st' := [zi xi]) (by decide +kernel) (fun k q => by cases q) rfl ?_
    refine y_same (i := .aload_n 1) (len := 1) (r := (0, 0, 0, 0)) (pc' := 22) (ls' := [some (.inl (some 43)), some (.inl (some S)), some (zi xi)]) (st' := [.inl (some S), zi xi]) (by decide +kernel) (fun k q => by cases q) rfl ?_
    refine y_get (j := 68) (len := 3) (r := (8, 0, 2, 20184)) (by decide +kernel) hg tS aw1001 rfl rfl pS0 ?_
    refine y_get (j := 46) (len := 3) (r := (6, 1, 0, 20169)) (by decide +kernel) hg tRA aw1002 rfl rfl hl ?_
    rcases Decidable.em (xi.toInt ≥ xl.toInt) with q3431 | q3431
    ·
      refine y_cT (c := .ge) (off := 23) (pc' := 51) (len := 3) (r := (0, 0, 0, 0)) (by decide +kernel) (acmpT (c := .ge) (by show _ ≤ _; omega)) (by decide +kernel) ?_
      refine y_ic (c := 1) (len := 1) (r := (0, 0, 0, 0)) (by decide +kernel) (by decide) (fun y3432 hy3432 => ?_)
      refine y_same (i := .istore_n 2) (len := 1) (r := (0, 0, 0, 0)) (pc' := 53) (ls' := [some (.inl (some 43)), some (.inl (some S)), some (zi y3432)]) (st' := []) (by decide +kernel) (fun k q => by cases q) rfl ?_
      obtain ⟨s9, hs9, hs5, us⟩ := uc
      refine qX_I (ns_l (u := u) hg hp hs9 hs5 us 11 1 y3432 (by omega) (by omega) (by omega) (fun v h1 h2 => by omega) (by omega)) (fun y h1 hR => ?_)
      obtain ⟨rfl, hR⟩ := hR
      rw [List.drop_of_length_le (show l.length ≤ i by omega)]
      refine ⟨hg, F0, ?_⟩
      rcases hR with ⟨q1, q2⟩ | ⟨q1, q2⟩
      · exact Or.inl ⟨q1, u, rfl, q2⟩
      · refine Or.inr ⟨q1, fun q3 => ?_⟩
        obtain ⟨u9, e9, q3⟩ := q3
        cases e9
        exact q2 q3
    ·
      refine y_cF (c := .ge) (off := 23) (len := 3) (r := (0, 0, 0, 0)) (by decide +kernel) (acmpF (c := .ge) (by show _ < _; omega)) ?_
      obtain ⟨ik, hk⟩ : ∃ ik, l[i]? = some ik := ⟨_, List.getElem?_eq_getElem (by omega)⟩
      have okk := ok i ik hk
      refine y_same (i := .aload_n 0) (len := 1) (r := (0, 0, 0, 0)) (pc' := 32) (ls' := [some (.inl (some 43)), some (.inl (some S)), some (zi xi)]) (st' := [.inl (some 43)]) (by decide +kernel) (fun k q => by cases q) rfl ?_
      refine y_same (i := .aload_n 1) (len := 1) (r := (0, 0, 0, 0)) (pc' := 33) (ls' := [some (.inl (some 43)), some (.inl (some S)), some (zi xi)]) (st' := [.inl (some S), .inl (some 43)]) (by decide +kernel) (fun k q => by cases q) rfl ?_
      refine y_get (j := 68) (len := 3) (r := (8, 0, 2, 20184)) (by decide +kernel) hg tS aw1001 rfl rfl pS0 ?_
      refine y_same (i := .iload_n 2) (len := 1) (r := (0, 0, 0, 0)) (pc' := 37) (ls' := [some (.inl (some 43)), some (.inl (some S)), some (zi xi)]) (st' := [zi xi, .inl (some RA), .inl (some 43)]) (by decide +kernel) (fun k q => by cases q) rfl ?_
      refine y_cI (i := .invokevirtual 71) (len := 3) (r := (0, 19, 1, 1264)) (nL := 5) (k := 2) (n := 3) (hs := []) (args := [.inl (some 43), .inl (some RA), zi xi]) (rest := []) (l0 := [some (.inl (some 43)), some (.inl (some RA)), some (zi xi), none, none]) (by decide +kernel) (Or.inr (Or.inl ⟨_, rfl⟩)) rfl rfl rfl rfl (Nat.le_of_ble_eq_true rfl) (zO hg (tv43 hg) aw43 rfl) rfl (qI_le (by omega) (e_tp (d := 0) (i := i) (u := u) (H := H) (f := f) hg tRA tIA hRA hIA pA r okk hk hxi vc hfb hp uc hw)) (fun y3433 h3433 hRy3433 => ?_)
      obtain ⟨hg3433, F3433, hD3433⟩ := hRy3433
      rcases hD3433 with ⟨u3433, tk3433, hy3433, uc3433⟩ | ⟨tk3433, hy3433⟩
      ·
        refine y_iT (c := .ne) (off := 5) (pc' := 45) (len := 3) (r := (0, 0, 0, 0)) (by decide +kernel) (acmpT (c := .ne) (by show ¬ (_ = _); omega)) (by decide +kernel) ?_
        refine y_inc (j := 2) (a := xi) (c := 1) (ls' := fun v => [some (.inl (some 43)), some (.inl (some S)), some v]) (len := 3) (r := (0, 0, 0, 0)) (by decide +kernel) rfl (fun _ => rfl) (by decide) (by omega) (by omega) (fun y3434 hy3434 => ?_)
        show qX (d + 4) 18 48 [some (.inl (some 43)), some (.inl (some S)), some (zi y3434)] [] h3433 t _
        refine y_goto (off := (-28)) (pc' := 20) (len := 3) (r := (0, 0, 0, 0)) (by decide +kernel) (by decide +kernel) ?_
        rw [drop_c hk, tkPs_s tk3433]
        exact ih h3433 u3433 (i + 1) y3434 hg3433 uc3433 (fun k j hC => ((F3433 k j (by omega))).trans (F0 k j hC)) (by omega) (by omega) (by omega)
      ·
        refine y_iF (c := .ne) (off := 5) (len := 3) (r := (0, 0, 0, 0)) (by decide +kernel) (acmpF (c := .ne) (by show _ = _; omega)) ?_
        refine y_ic (c := 0) (len := 1) (r := (0, 0, 0, 0)) (by decide +kernel) (by decide) (fun y3435 hy3435 => ?_)
        refine y_rI (len := 1) (r := (0, 0, 0, 0)) (nL := 3) (k := 2) (n9 := 2) (hs := []) (by decide +kernel) rfl (zfit_b (by omega) (by omega)).2 ?_
        rw [drop_c hk, tkPs_n tk3433]
        refine ⟨hg3433, fun k j hC => ((F3433 k j (by omega))).trans (F0 k j hC), Or.inr ⟨by omega, fun q3 => ?_⟩⟩
        obtain ⟨u9, e9, -⟩ := q3
        cases e9
theorem e_isOf {d t S : Nat} {τ : List Nat} {h : zh} {q : sdT} {f : tlT} {H : hpT} (hg : hG τ h) (ty : tyS τ S) (hS : S + 4 < 42) (la : laS h S) (sd : sdC h S q) (ok1 : ∀ (j : Nat) (i : it4), q.1[j]? = some i → okI i) (ok2 : ∀ (j : Nat) (i : it4), q.2[j]? = some i → okI i) (hl5 : q.1.length ≤ 5) (vc : vC_ h f) (hfb : ∀ v, v ≤ 5 → f v ≤ 5) (hp : hpC h H) (hw : hpW H) : qI (d + 5) 18 [some (.inl (some 43)), some (.inl (some S)), none] h t (fun y h1 => hG τ h1 ∧ (∀ k j, (k ≠ 48 ∧ (k ≠ 43 ∨ j ≠ 5)) → hsl h1 k j = hsl h k j) ∧ ((y.toInt = 1 ∧ fit_ H f q) ∨ (y.toInt = 0 ∧ ¬ fit_ H f q))) := by
  refine qI_of ?_
  refine y_same (i := .aload_n 0) (len := 1) (r := (0, 0, 0, 0)) (pc' := 1) (ls' := [some (.inl (some 43)), some (.inl (some S)), none]) (st' := [.inl (some 43)]) (by decide +kernel) (fun k q => by cases q) rfl ?_
  refine y_ic (c := 0) (len := 1) (r := (0, 0, 0, 0)) (by decide +kernel) (by decide) (fun y3436 hy3436 => ?_)
  refine y_put (j := 27) (lo := (-2147483648)) (hi := 2147483647) (len := 3) (r := (1, 5, 0, 342)) (by decide +kernel) hg (tv43 hg) aw43 rfl rfl (by decide) rfl (qin_full _).1 (qin_full _).2 rfl (fun h3437 hg3437 hl3437 hs3437 ho3437 => ?_)
  have ho3437 : hO 43 5 h h3437 := ho3437
  have hs3437 : hsl h3437 43 5 = some (zi y3436) := hs3437
  refine y_same (i := .aload_n 0) (len := 1) (r := (0, 0, 0, 0)) (pc' := 6) (ls' := [some (.inl (some 43)), some (.inl (some S)), none]) (st' := [.inl (some 43)]) (by decide +kernel) (fun k q => by cases q) rfl ?_
  refine y_same (i := .aload_n 1) (len := 1) (r := (0, 0, 0, 0)) (pc' := 7) (ls' := [some (.inl (some 43)), some (.inl (some S)), none]) (st' := [.inl (some S), .inl (some 43)]) (by decide +kernel) (fun k q => by cases q) rfl ?_
  have hv3438 := (ho3437 S 1 (Or.inl (by omega))).trans la.2.1
  refine y_get (j := 58) (len := 3) (r := (8, 1, 2, 20191)) (by decide +kernel) hg3437 ty.1 aw1001 rfl rfl hv3438 ?_
  refine y_cI (i := .invokevirtual 64) (len := 3) (r := (0, 17, 1, 1263)) (nL := 4) (k := 2) (n := 2) (hs := []) (args := [.inl (some 43), .inl (some ((S + 3)))]) (rest := []) (l0 := [some (.inl (some 43)), some (.inl (some ((S + 3)))), none, none]) (by decide +kernel) (Or.inr (Or.inl ⟨_, rfl⟩)) rfl rfl rfl rfl (Nat.le_of_ble_eq_true rfl) (zO hg3437 (tv43 hg3437) aw43 rfl) rfl (qI_le (by omega) (e_so6 (d := 0) (RA := S + 3) (IA := S + 4) (l := q.2) hg3437 (vC_up vc (fun j => (ho3437 44 j (by omega)))) ty.2.2.2.1 ty.2.2.2.2 ((ho3437 (S + 3) 0 (by omega)).trans la.2.2.2) (rwC_up2 sd.2 (fun k j hk => (ho3437 k j (by omega)))) ok2)) (fun y3439 qy3439 hRy3439 => ?_)
  obtain ⟨rfl, hDy3439⟩ := hRy3439
  rcases hDy3439 with ⟨hyy3439, soy3439⟩ | ⟨hyy3439, soy3439⟩
  ·
    refine y_iT (c := .ne) (off := 5) (pc' := 18) (len := 3) (r := (0, 0, 0, 0)) (by decide +kernel) (acmpT (c := .ne) (by show ¬ (_ = _); omega)) (by decide +kernel) ?_
    refine y_ic (c := 0) (len := 1) (r := (0, 0, 0, 0)) (by decide +kernel) (by decide) (fun y3440 hy3440 => ?_)
    refine y_same (i := .istore_n 2) (len := 1) (r := (0, 0, 0, 0)) (pc' := 20) (ls' := [some (.inl (some 43)), some (.inl (some S)), some (zi y3440)]) (st' := []) (by decide +kernel) (fun k q => by cases q) rfl ?_
    refine qX_I (io_l (h0 := h3437) (RA := S + 1) (IA := S + 2) (l := q.1) ty.1 (by omega) ((ho3437 S 0 (by omega)).trans la.1) ty.2.1 ty.2.2.1 (by omega) (by omega) ((ho3437 (S + 1) 0 (by omega)).trans la.2.2.1) (rwC_up2 sd.1 (fun k j hk => (ho3437 k j (by omega)))) ok1 (vC_up vc (fun j => (ho3437 44 j (by omega)))) hfb (hpC_up hp (fun k j hC => (ho3437 k j (by omega)))) hw hl5 (q.1.length + 1) h3437 (fun _ => false) 0 y3440 hg3437 ⟨0, by omega, by rw [hs3437, ofI (w := 0) hy3436 rfl]; rfl, fun w _ _ => Nat.zero_testBit w⟩ (fun k j _ => rfl) (by omega) (by omega) (by omega)) (fun y h1 hR => ⟨hR.1, fun k j hC => (hR.2.1 k j hC).trans ((ho3437 k j (by omega))), ?_⟩)
    rcases hR.2.2 with ⟨q1, q2⟩ | ⟨q1, q2⟩
    · exact Or.inl ⟨q1, soy3439, q2⟩
    · exact Or.inr ⟨q1, fun q3 => q2 q3.2⟩
  ·
    refine y_iF (c := .ne) (off := 5) (len := 3) (r := (0, 0, 0, 0)) (by decide +kernel) (acmpF (c := .ne) (by show _ = _; omega)) ?_
    refine y_ic (c := 0) (len := 1) (r := (0, 0, 0, 0)) (by decide +kernel) (by decide) (fun y3441 hy3441 => ?_)
    refine y_rI (len := 1) (r := (0, 0, 0, 0)) (nL := 3) (k := 2) (n9 := 2) (hs := []) (by decide +kernel) rfl (zfit_b (by omega) (by omega)).2 ?_
    exact ⟨hg3437, fun k j hC => (ho3437 k j (by omega)), Or.inr ⟨by omega, fun q3 => soy3439 q3.1⟩⟩
theorem rng_c {i : Nat} (h : i < 11) : List.range' i (11 - i) = i :: List.range' (i + 1) (11 - (i + 1)) := by
  rw [show 11 - i = (11 - (i + 1)) + 1 by omega, List.range'_succ]
theorem ch_l {d t : Nat} {τ : List Nat} {h : zh} {H : hpT} {k9 : Int} {xk : Int32} (hg : hG τ h) (hp : hpC h H) (hxk : xk.toInt = k9) : ∀ (n : Nat) (i : Nat) (c : Nat) (xi : Int32) (xc : Int32), (xi.toInt = (i : Int)) → (xc.toInt = (c : Int)) → (1 ≤ i) → (i ≤ 11 ∧ c ≤ i) → (12 ≤ i + n) → qX d 16 4 [some (.inl (some 43)), some (zi xk), some (zi xc), some (zi xi)] [] h t (rI (fun y h1 => h = h1 ∧ y.toInt = ((c + ((List.range' i (11 - i)).filter (fun w => decide (H.1 w = k9))).length : Nat) : Int)) t) := by
  intro n
  induction n with
  | zero =>
    intro i c xi xc hxi hxc hi1 hi hn
    exfalso
    omega
  | succ n ih =>
    intro i c xi xc hxi hxc hi1 hi hn
    skip
    refine y_same (i := .iload_n 3) (len := 1) (r := (0, 0, 0, 0)) (pc' := 5) (ls' := [some (.inl (some 43)), some (zi xk), some (zi xc), some (zi xi)]) (st' := [zi xi]) (by decide +kernel) (fun k q => by cases q) rfl ?_
    refine y_bi (c := 11) (len := 2) (r := (0, 0, 0, 0)) (by decide +kernel) (by decide) (fun y3442 hy3442 => ?_)
    rcases Decidable.em (xi.toInt ≥ y3442.toInt) with q3443 | q3443
    ·
      refine y_cT (c := .ge) (off := 22) (pc' := 29) (len := 3) (r := (0, 0, 0, 0)) (by decide +kernel) (acmpT (c := .ge) (by show _ ≤ _; omega)) (by decide +kernel) ?_
      refine y_same (i := .iload_n 2) (len := 1) (r := (0, 0, 0, 0)) (pc' := 30) (ls' := [some (.inl (some 43)), some (zi xk), some (zi xc), some (zi xi)]) (st' := [zi xc]) (by decide +kernel) (fun k q => by cases q) rfl ?_
      refine y_rI (len := 1) (r := (0, 0, 0, 0)) (nL := 4) (k := 1) (n9 := 2) (hs := []) (by decide +kernel) rfl rfl ?_
      have e9 : 11 - i = 0 := by omega
      rw [e9]
      exact ⟨rfl, by simp only [List.range'_zero, List.filter_nil, List.length_nil]; omega⟩
    ·
      refine y_cF (c := .ge) (off := 22) (len := 3) (r := (0, 0, 0, 0)) (by decide +kernel) (acmpF (c := .ge) (by show _ < _; omega)) ?_
      obtain ⟨⟨xv, hv, ev⟩, -⟩ := hp.1 i (by omega) (by omega)
      refine y_same (i := .aload_n 0) (len := 1) (r := (0, 0, 0, 0)) (pc' := 11) (ls' := [some (.inl (some 43)), some (zi xk), some (zi xc), some (zi xi)]) (st' := [.inl (some 43)]) (by decide +kernel) (fun k q => by cases q) rfl ?_
      refine y_get (j := 15) (len := 3) (r := (1, 1, 2, 338)) (by decide +kernel) hg (tv43 hg) aw43 rfl rfl (g_rU (f := 1) (T2 := 45) hg (tv43 hg) aw43 rfl (by decide)) ?_
      refine y_same (i := .iload_n 3) (len := 1) (r := (0, 0, 0, 0)) (pc' := 15) (ls' := [some (.inl (some 43)), some (zi xk), some (zi xc), some (zi xi)]) (st' := [zi xi, .inl (some 45)]) (by decide +kernel) (fun k q => by cases q) rfl ?_
      refine y_ial (i := i) (len := 1) (r := (0, 0, 0, 0)) (by decide +kernel) hg (tv45 hg) aw45 (by omega) hv ?_
      refine y_same (i := .iload_n 1) (len := 1) (r := (0, 0, 0, 0)) (pc' := 17) (ls' := [some (.inl (some 43)), some (zi xk), some (zi xc), some (zi xi)]) (st' := [zi xk, zi xv]) (by decide +kernel) (fun k q => by cases q) rfl ?_
      rcases Decidable.em (xv.toInt ≠ xk.toInt) with q3444 | q3444
      ·
        refine y_cT (c := .ne) (off := 6) (pc' := 23) (len := 3) (r := (0, 0, 0, 0)) (by decide +kernel) (acmpT (c := .ne) (by show ¬ (_ = _); omega)) (by decide +kernel) ?_
        refine y_inc (j := 3) (a := xi) (c := 1) (ls' := fun v => [some (.inl (some 43)), some (zi xk), some (zi xc), some v]) (len := 3) (r := (0, 0, 0, 0)) (by decide +kernel) rfl (fun _ => rfl) (by decide) (by omega) (by omega) (fun y3445 hy3445 => ?_)
        show qX d 16 26 [some (.inl (some 43)), some (zi xk), some (zi xc), some (zi y3445)] [] h t _
        refine y_goto (off := (-22)) (pc' := 4) (len := 3) (r := (0, 0, 0, 0)) (by decide +kernel) (by decide +kernel) ?_
        refine qX_I (ih (i + 1) c y3445 xc (by omega) (by omega) (by omega) (by omega) (by omega)) (fun y h1 hR => ?_)
        rw [rng_c (by omega), List.filter_cons, decide_eq_false (by omega)]
        refine ⟨hR.1, ?_⟩
        have e9 := hR.2
        exact e9
      ·
        refine y_cF (c := .ne) (off := 6) (len := 3) (r := (0, 0, 0, 0)) (by decide +kernel) (acmpF (c := .ne) (by show _ = _; omega)) ?_
        refine y_inc (j := 2) (a := xc) (c := 1) (ls' := fun v => [some (.inl (some 43)), some (zi xk), some v, some (zi xi)]) (len := 3) (r := (0, 0, 0, 0)) (by decide +kernel) rfl (fun _ => rfl) (by decide) (by omega) (by omega) (fun y3446 hy3446 => ?_)
        show qX d 16 23 [some (.inl (some 43)), some (zi xk), some (zi y3446), some (zi xi)] [] h t _
        refine y_inc (j := 3) (a := xi) (c := 1) (ls' := fun v => [some (.inl (some 43)), some (zi xk), some (zi y3446), some v]) (len := 3) (r := (0, 0, 0, 0)) (by decide +kernel) rfl (fun _ => rfl) (by decide) (by omega) (by omega) (fun y3447 hy3447 => ?_)
        show qX d 16 26 [some (.inl (some 43)), some (zi xk), some (zi y3446), some (zi y3447)] [] h t _
        refine y_goto (off := (-22)) (pc' := 4) (len := 3) (r := (0, 0, 0, 0)) (by decide +kernel) (by decide +kernel) ?_
        refine qX_I (ih (i + 1) (c + 1) y3447 y3446 (by omega) (by omega) (by omega) (by omega) (by omega)) (fun y h1 hR => ?_)
        rw [rng_c (by omega), List.filter_cons, decide_eq_true (by omega)]
        refine ⟨hR.1, ?_⟩
        have e9 := hR.2
        simp only [if_true, List.length_cons]
        omega
theorem e_ch {d t : Nat} {τ : List Nat} {h : zh} {H : hpT} {k9 : Int} {xk : Int32} (hg : hG τ h) (hp : hpC h H) (hxk : xk.toInt = k9) : qI (d + 1) 16 [some (.inl (some 43)), some (zi xk), none, none] h t (fun y h1 => h = h1 ∧ y.toInt = (cntK H k9 : Int)) := by
  refine qI_of ?_
  refine y_ic (c := 0) (len := 1) (r := (0, 0, 0, 0)) (by decide +kernel) (by decide) (fun y3448 hy3448 => ?_)
  refine y_same (i := .istore_n 2) (len := 1) (r := (0, 0, 0, 0)) (pc' := 2) (ls' := [some (.inl (some 43)), some (zi xk), some (zi y3448), none]) (st' := []) (by decide +kernel) (fun k q => by cases q) rfl ?_
  refine y_ic (c := 1) (len := 1) (r := (0, 0, 0, 0)) (by decide +kernel) (by decide) (fun y3449 hy3449 => ?_)
  refine y_same (i := .istore_n 3) (len := 1) (r := (0, 0, 0, 0)) (pc' := 4) (ls' := [some (.inl (some 43)), some (zi xk), some (zi y3448), some (zi y3449)]) (st' := []) (by decide +kernel) (fun k q => by cases q) rfl ?_
  refine qX_I (ch_l hg hp hxk 11 1 0 y3449 y3448 (by omega) (by omega) (by omega) (by omega) (by omega)) (fun y h1 hR => ⟨hR.1, ?_⟩)
  have e9 := hR.2
  rw [Nat.zero_add] at e9
  exact e9
