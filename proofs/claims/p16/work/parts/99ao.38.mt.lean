/-! the reference: the STEP, a sequent comes -/
theorem it_ext {p q : it4} (h1 : p.1 = q.1) (h2 : p.2.1 = q.2.1) (h3 : p.2.2.1 = q.2.2.1) (h4 : p.2.2.2 = q.2.2.2) : p = q := by
  obtain ⟨a, b, c, d⟩ := p
  obtain ⟨a', b', c', d'⟩ := q
  have h1 : a = a' := h1
  have h2 : b = b' := h2
  have h3 : c = c' := h3
  have h4 : d = d' := h4
  rw [h1, h2, h3, h4]
theorem m_can {d t A : Nat} {τ : List Nat} {h : zh} {s : sqT} (Q : QM τ h A s) {w r l : Nat} {ip iq : it4} {xw xr xl : Int32} (exw : xw.toInt = (w : Int)) (hw : 3 ≤ w ∧ w ≤ 7) (exr : xr.toInt = ((80 + 4 * r : Nat) : Int)) (kip : s.2.1[r]? = some ip) (exl : xl.toInt = ((24 + 4 * l : Nat) : Int)) (kiq : s.1[l]? = some iq) : qI (d + 4) 235 [some (.inl (some A)), some (zi xw), some (zi xr), some (zi xl), none, none] h t (fun y h1 => h = h1 ∧ ((y.toInt = 1 ∧ ftq_ s w ip iq) ∨ (y.toInt = 0 ∧ ¬ ftq_ s w ip iq))) := by
  obtain ⟨T, c0, tA, aT, hc0, pT⟩ := Q.2.1
  have hr9 := (List.getElem?_eq_some_iff.mp kip).1
  have hl9 := (List.getElem?_eq_some_iff.mp kiq).1
  have lL := qm_lenL Q
  have lR := qm_lenR Q
  refine qI_of ?_
  have oip := okQ_R Q.2.2.2 kip
  have pip := oip.1
  unfold okV at pip
  obtain ⟨aip, bip, cip, dip, ⟨haip, hbip, hcip, hdip⟩, eaip, ebip, ecip, edip⟩ := qm_itR Q kip
  have oiq := okQ_L Q.2.2.2 kiq
  have piq := oiq.1
  unfold okV at piq
  obtain ⟨aiq, biq, ciq, diq, ⟨haiq, hbiq, hciq, hdiq⟩, eaiq, ebiq, eciq, ediq⟩ := qm_itL Q kiq
  refine y_same (i := .aload_n 0) (len := 1) (r := (0, 0, 0, 0)) (pc' := 1) (ls' := [some (.inl (some A)), some (zi xw), some (zi xr), some (zi xl), none, none]) (st' := [.inl (some A)]) (by decide +kernel) (fun k q => by cases q) rfl ?_
  refine y_same (i := .iload_n 2) (len := 1) (r := (0, 0, 0, 0)) (pc' := 2) (ls' := [some (.inl (some A)), some (zi xw), some (zi xr), some (zi xl), none, none]) (st' := [zi xr, .inl (some A)]) (by decide +kernel) (fun k q => by cases q) rfl ?_
  refine y_ic (c := 1) (len := 1) (r := (0, 0, 0, 0)) (by decide +kernel) (by decide) (fun y3421 hy3421 => ?_)
  refine y_add (len := 1) (r := (0, 0, 0, 0)) (by decide +kernel) (by omega) (by omega) (fun y3422 hy3422 => ?_)
  refine y_ial (i := ((80 + 4 * r) + 1)) (len := 1) (r := (0, 0, 0, 0)) (by decide +kernel) Q.1 tA aT (by omega) hbip ?_
  refine y_same (i := .aload_n 0) (len := 1) (r := (0, 0, 0, 0)) (pc' := 6) (ls' := [some (.inl (some A)), some (zi xw), some (zi xr), some (zi xl), none, none]) (st' := [.inl (some A), zi bip]) (by decide +kernel) (fun k q => by cases q) rfl ?_
  refine y_same (i := .iload_n 3) (len := 1) (r := (0, 0, 0, 0)) (pc' := 7) (ls' := [some (.inl (some A)), some (zi xw), some (zi xr), some (zi xl), none, none]) (st' := [zi xl, .inl (some A), zi bip]) (by decide +kernel) (fun k q => by cases q) rfl ?_
  refine y_ic (c := 1) (len := 1) (r := (0, 0, 0, 0)) (by decide +kernel) (by decide) (fun y3423 hy3423 => ?_)
  refine y_add (len := 1) (r := (0, 0, 0, 0)) (by decide +kernel) (by omega) (by omega) (fun y3424 hy3424 => ?_)
  refine y_ial (i := ((24 + 4 * l) + 1)) (len := 1) (r := (0, 0, 0, 0)) (by decide +kernel) Q.1 tA aT (by omega) hbiq ?_
  rcases Decidable.em (bip.toInt = biq.toInt) with q3425 | q3425
  ·
    refine y_cT (c := .eq) (off := 5) (pc' := 15) (len := 3) (r := (0, 0, 0, 0)) (by decide +kernel) (acmpT (c := .eq) (by show _ = _; omega)) (by decide +kernel) ?_
    refine y_same (i := .aload_n 0) (len := 1) (r := (0, 0, 0, 0)) (pc' := 16) (ls' := [some (.inl (some A)), some (zi xw), some (zi xr), some (zi xl), none, none]) (st' := [.inl (some A)]) (by decide +kernel) (fun k q => by cases q) rfl ?_
    refine y_same (i := .iload_n 2) (len := 1) (r := (0, 0, 0, 0)) (pc' := 17) (ls' := [some (.inl (some A)), some (zi xw), some (zi xr), some (zi xl), none, none]) (st' := [zi xr, .inl (some A)]) (by decide +kernel) (fun k q => by cases q) rfl ?_
    refine y_ial (i := (80 + 4 * r)) (len := 1) (r := (0, 0, 0, 0)) (by decide +kernel) Q.1 tA aT (by omega) haip ?_
    refine y_same (i := .istore 4) (len := 2) (r := (0, 0, 0, 0)) (pc' := 20) (ls' := [some (.inl (some A)), some (zi xw), some (zi xr), some (zi xl), some (zi aip), none]) (st' := []) (by decide +kernel) (fun k q => by cases q) rfl ?_
    refine y_same (i := .aload_n 0) (len := 1) (r := (0, 0, 0, 0)) (pc' := 21) (ls' := [some (.inl (some A)), some (zi xw), some (zi xr), some (zi xl), some (zi aip), none]) (st' := [.inl (some A)]) (by decide +kernel) (fun k q => by cases q) rfl ?_
    refine y_same (i := .iload_n 3) (len := 1) (r := (0, 0, 0, 0)) (pc' := 22) (ls' := [some (.inl (some A)), some (zi xw), some (zi xr), some (zi xl), some (zi aip), none]) (st' := [zi xl, .inl (some A)]) (by decide +kernel) (fun k q => by cases q) rfl ?_
    refine y_ial (i := (24 + 4 * l)) (len := 1) (r := (0, 0, 0, 0)) (by decide +kernel) Q.1 tA aT (by omega) haiq ?_
    refine y_same (i := .istore 5) (len := 2) (r := (0, 0, 0, 0)) (pc' := 25) (ls' := [some (.inl (some A)), some (zi xw), some (zi xr), some (zi xl), some (zi aip), some (zi aiq)]) (st' := []) (by decide +kernel) (fun k q => by cases q) rfl ?_
    refine y_same (i := .iload_n 1) (len := 1) (r := (0, 0, 0, 0)) (pc' := 26) (ls' := [some (.inl (some A)), some (zi xw), some (zi xr), some (zi xl), some (zi aip), some (zi aiq)]) (st' := [zi xw]) (by decide +kernel) (fun k q => by cases q) rfl ?_
    rcases (show xw.toInt = 3 ∨ xw.toInt = 4 ∨ xw.toInt = 5 ∨ xw.toInt = 6 ∨ (xw.toInt < 3 ∨ 6 < xw.toInt) by omega) with q3426 | q3426 | q3426 | q3426 | q3426
    ·
      refine y_sw (dflt := 153) (lo := 3) (hi := 6) (offs := #[30, 69, 90, 136]) (off := 30) (pc' := 56) (len := 30) (r := (0, 0, 0, 0)) (by decide +kernel) (zswI (k := 0) (by omega) (by omega) (by omega) rfl) (by decide +kernel) ?_
      refine y_same (i := .iload 4) (len := 2) (r := (0, 0, 0, 0)) (pc' := 58) (ls' := [some (.inl (some A)), some (zi xw), some (zi xr), some (zi xl), some (zi aip), some (zi aiq)]) (st' := [zi aip]) (by decide +kernel) (fun k q => by cases q) rfl ?_
      refine y_same (i := .iload 5) (len := 2) (r := (0, 0, 0, 0)) (pc' := 60) (ls' := [some (.inl (some A)), some (zi xw), some (zi xr), some (zi xl), some (zi aip), some (zi aiq)]) (st' := [zi aiq, zi aip]) (by decide +kernel) (fun k q => by cases q) rfl ?_
      rcases Decidable.em (aip.toInt ≠ aiq.toInt) with q3427 | q3427
      ·
        refine y_cT (c := .ne) (off := 33) (pc' := 93) (len := 3) (r := (0, 0, 0, 0)) (by decide +kernel) (acmpT (c := .ne) (by show ¬ (_ = _); omega)) (by decide +kernel) ?_
        refine y_ic (c := 0) (len := 1) (r := (0, 0, 0, 0)) (by decide +kernel) (by decide) (fun y3428 hy3428 => ?_)
        refine y_rI (len := 1) (r := (0, 0, 0, 0)) (nL := 6) (k := 2) (n9 := 4) (hs := []) (by decide +kernel) rfl (zfit_b (by omega) (by omega)).2 ?_
        refine ⟨rfl, Or.inr ⟨by omega, fun q9 => ?_⟩⟩
        rcases q9 with ⟨e0, ⟨w9, c⟩ | ⟨w9, c1, c2⟩ | ⟨w9, ⟨c1, c2⟩ | ⟨c1, c2, c3⟩⟩ | ⟨w9, c1, c2⟩ | ⟨w9, c⟩⟩
        · have c1 := congrArg (fun q : it4 => q.1) c
          have c2 := congrArg (fun q : it4 => q.2.2.1) c
          have c3 := congrArg (fun q : it4 => q.2.2.2) c
          try simp only at c1 c2 c3
          omega
        · omega
        · omega
        · omega
        · omega
        · omega
      ·
        refine y_cF (c := .ne) (off := 33) (len := 3) (r := (0, 0, 0, 0)) (by decide +kernel) (acmpF (c := .ne) (by show _ = _; omega)) ?_
        refine y_same (i := .aload_n 0) (len := 1) (r := (0, 0, 0, 0)) (pc' := 64) (ls' := [some (.inl (some A)), some (zi xw), some (zi xr), some (zi xl), some (zi aip), some (zi aiq)]) (st' := [.inl (some A)]) (by decide +kernel) (fun k q => by cases q) rfl ?_
        refine y_same (i := .iload_n 2) (len := 1) (r := (0, 0, 0, 0)) (pc' := 65) (ls' := [some (.inl (some A)), some (zi xw), some (zi xr), some (zi xl), some (zi aip), some (zi aiq)]) (st' := [zi xr, .inl (some A)]) (by decide +kernel) (fun k q => by cases q) rfl ?_
        refine y_ic (c := 2) (len := 1) (r := (0, 0, 0, 0)) (by decide +kernel) (by decide) (fun y3429 hy3429 => ?_)
        refine y_add (len := 1) (r := (0, 0, 0, 0)) (by decide +kernel) (by omega) (by omega) (fun y3430 hy3430 => ?_)
        refine y_ial (i := ((80 + 4 * r) + 2)) (len := 1) (r := (0, 0, 0, 0)) (by decide +kernel) Q.1 tA aT (by omega) hcip ?_
        refine y_same (i := .aload_n 0) (len := 1) (r := (0, 0, 0, 0)) (pc' := 69) (ls' := [some (.inl (some A)), some (zi xw), some (zi xr), some (zi xl), some (zi aip), some (zi aiq)]) (st' := [.inl (some A), zi cip]) (by decide +kernel) (fun k q => by cases q) rfl ?_
        refine y_same (i := .iload_n 3) (len := 1) (r := (0, 0, 0, 0)) (pc' := 70) (ls' := [some (.inl (some A)), some (zi xw), some (zi xr), some (zi xl), some (zi aip), some (zi aiq)]) (st' := [zi xl, .inl (some A), zi cip]) (by decide +kernel) (fun k q => by cases q) rfl ?_
        refine y_ic (c := 2) (len := 1) (r := (0, 0, 0, 0)) (by decide +kernel) (by decide) (fun y3431 hy3431 => ?_)
        refine y_add (len := 1) (r := (0, 0, 0, 0)) (by decide +kernel) (by omega) (by omega) (fun y3432 hy3432 => ?_)
        refine y_ial (i := ((24 + 4 * l) + 2)) (len := 1) (r := (0, 0, 0, 0)) (by decide +kernel) Q.1 tA aT (by omega) hciq ?_
        rcases Decidable.em (cip.toInt ≠ ciq.toInt) with q3433 | q3433
        ·
          refine y_cT (c := .ne) (off := 20) (pc' := 93) (len := 3) (r := (0, 0, 0, 0)) (by decide +kernel) (acmpT (c := .ne) (by show ¬ (_ = _); omega)) (by decide +kernel) ?_
          refine y_ic (c := 0) (len := 1) (r := (0, 0, 0, 0)) (by decide +kernel) (by decide) (fun y3434 hy3434 => ?_)
          refine y_rI (len := 1) (r := (0, 0, 0, 0)) (nL := 6) (k := 2) (n9 := 4) (hs := []) (by decide +kernel) rfl (zfit_b (by omega) (by omega)).2 ?_
          refine ⟨rfl, Or.inr ⟨by omega, fun q9 => ?_⟩⟩
          rcases q9 with ⟨e0, ⟨w9, c⟩ | ⟨w9, c1, c2⟩ | ⟨w9, ⟨c1, c2⟩ | ⟨c1, c2, c3⟩⟩ | ⟨w9, c1, c2⟩ | ⟨w9, c⟩⟩
          · have c1 := congrArg (fun q : it4 => q.1) c
            have c2 := congrArg (fun q : it4 => q.2.2.1) c
            have c3 := congrArg (fun q : it4 => q.2.2.2) c
            try simp only at c1 c2 c3
            omega
          · omega
          · omega
          · omega
          · omega
          · omega
        ·
          refine y_cF (c := .ne) (off := 20) (len := 3) (r := (0, 0, 0, 0)) (by decide +kernel) (acmpF (c := .ne) (by show _ = _; omega)) ?_
          refine y_same (i := .aload_n 0) (len := 1) (r := (0, 0, 0, 0)) (pc' := 77) (ls' := [some (.inl (some A)), some (zi xw), some (zi xr), some (zi xl), some (zi aip), some (zi aiq)]) (st' := [.inl (some A)]) (by decide +kernel) (fun k q => by cases q) rfl ?_
          refine y_same (i := .iload_n 2) (len := 1) (r := (0, 0, 0, 0)) (pc' := 78) (ls' := [some (.inl (some A)), some (zi xw), some (zi xr), some (zi xl), some (zi aip), some (zi aiq)]) (st' := [zi xr, .inl (some A)]) (by decide +kernel) (fun k q => by cases q) rfl ?_
          refine y_ic (c := 3) (len := 1) (r := (0, 0, 0, 0)) (by decide +kernel) (by decide) (fun y3435 hy3435 => ?_)
          refine y_add (len := 1) (r := (0, 0, 0, 0)) (by decide +kernel) (by omega) (by omega) (fun y3436 hy3436 => ?_)
          refine y_ial (i := ((80 + 4 * r) + 3)) (len := 1) (r := (0, 0, 0, 0)) (by decide +kernel) Q.1 tA aT (by omega) hdip ?_
          refine y_same (i := .aload_n 0) (len := 1) (r := (0, 0, 0, 0)) (pc' := 82) (ls' := [some (.inl (some A)), some (zi xw), some (zi xr), some (zi xl), some (zi aip), some (zi aiq)]) (st' := [.inl (some A), zi dip]) (by decide +kernel) (fun k q => by cases q) rfl ?_
          refine y_same (i := .iload_n 3) (len := 1) (r := (0, 0, 0, 0)) (pc' := 83) (ls' := [some (.inl (some A)), some (zi xw), some (zi xr), some (zi xl), some (zi aip), some (zi aiq)]) (st' := [zi xl, .inl (some A), zi dip]) (by decide +kernel) (fun k q => by cases q) rfl ?_
          refine y_ic (c := 3) (len := 1) (r := (0, 0, 0, 0)) (by decide +kernel) (by decide) (fun y3437 hy3437 => ?_)
          refine y_add (len := 1) (r := (0, 0, 0, 0)) (by decide +kernel) (by omega) (by omega) (fun y3438 hy3438 => ?_)
          refine y_ial (i := ((24 + 4 * l) + 3)) (len := 1) (r := (0, 0, 0, 0)) (by decide +kernel) Q.1 tA aT (by omega) hdiq ?_
          rcases Decidable.em (dip.toInt ≠ diq.toInt) with q3439 | q3439
          ·
            refine y_cT (c := .ne) (off := 7) (pc' := 93) (len := 3) (r := (0, 0, 0, 0)) (by decide +kernel) (acmpT (c := .ne) (by show ¬ (_ = _); omega)) (by decide +kernel) ?_
            refine y_ic (c := 0) (len := 1) (r := (0, 0, 0, 0)) (by decide +kernel) (by decide) (fun y3440 hy3440 => ?_)
            refine y_rI (len := 1) (r := (0, 0, 0, 0)) (nL := 6) (k := 2) (n9 := 4) (hs := []) (by decide +kernel) rfl (zfit_b (by omega) (by omega)).2 ?_
            refine ⟨rfl, Or.inr ⟨by omega, fun q9 => ?_⟩⟩
            rcases q9 with ⟨e0, ⟨w9, c⟩ | ⟨w9, c1, c2⟩ | ⟨w9, ⟨c1, c2⟩ | ⟨c1, c2, c3⟩⟩ | ⟨w9, c1, c2⟩ | ⟨w9, c⟩⟩
            · have c1 := congrArg (fun q : it4 => q.1) c
              have c2 := congrArg (fun q : it4 => q.2.2.1) c
              have c3 := congrArg (fun q : it4 => q.2.2.2) c
              try simp only at c1 c2 c3
              omega
            · omega
            · omega
            · omega
            · omega
            · omega
          ·
            refine y_cF (c := .ne) (off := 7) (len := 3) (r := (0, 0, 0, 0)) (by decide +kernel) (acmpF (c := .ne) (by show _ = _; omega)) ?_
            refine y_ic (c := 1) (len := 1) (r := (0, 0, 0, 0)) (by decide +kernel) (by decide) (fun y3441 hy3441 => ?_)
            refine y_goto (off := 4) (pc' := 94) (len := 3) (r := (0, 0, 0, 0)) (by decide +kernel) (by decide +kernel) ?_
            refine y_rI (len := 1) (r := (0, 0, 0, 0)) (nL := 6) (k := 2) (n9 := 4) (hs := []) (by decide +kernel) rfl (zfit_b (by omega) (by omega)).2 ?_
            exact ⟨rfl, Or.inl ⟨by omega, by omega, Or.inl ⟨by omega, it_ext (by omega) (by omega) (by omega) (by omega)⟩⟩⟩
    ·
      refine y_sw (dflt := 153) (lo := 3) (hi := 6) (offs := #[30, 69, 90, 136]) (off := 69) (pc' := 95) (len := 30) (r := (0, 0, 0, 0)) (by decide +kernel) (zswI (k := 1) (by omega) (by omega) (by omega) rfl) (by decide +kernel) ?_
      refine y_same (i := .iload 4) (len := 2) (r := (0, 0, 0, 0)) (pc' := 97) (ls' := [some (.inl (some A)), some (zi xw), some (zi xr), some (zi xl), some (zi aip), some (zi aiq)]) (st' := [zi aip]) (by decide +kernel) (fun k q => by cases q) rfl ?_
      refine y_cI (i := .invokestatic 273) (len := 3) (r := (1, 204, 12, 1715)) (nL := 1) (k := 2) (n := 1) (hs := []) (args := [zi aip]) (rest := []) (l0 := [some (zi aip)]) (by decide +kernel) (Or.inl ⟨_, rfl⟩) rfl rfl rfl rfl (Nat.le_of_ble_eq_true rfl) rfl rfl (qI_le (by omega) (m_isc (d := 0))) (fun y3442 qy3442 hRy3442 => ?_)
      obtain ⟨rfl, hDy3442⟩ := hRy3442
      rcases hDy3442 with ⟨vy3442, ty3442⟩ | ⟨vy3442, ty3442⟩
      ·
        refine y_iF (c := .eq) (off := 14) (len := 3) (r := (0, 0, 0, 0)) (by decide +kernel) (acmpF (c := .eq) (by show ¬ (_ = _); omega)) ?_
        refine y_same (i := .iload 4) (len := 2) (r := (0, 0, 0, 0)) (pc' := 105) (ls' := [some (.inl (some A)), some (zi xw), some (zi xr), some (zi xl), some (zi aip), some (zi aiq)]) (st' := [zi aip]) (by decide +kernel) (fun k q => by cases q) rfl ?_
        refine y_same (i := .iload 5) (len := 2) (r := (0, 0, 0, 0)) (pc' := 107) (ls' := [some (.inl (some A)), some (zi xw), some (zi xr), some (zi xl), some (zi aip), some (zi aiq)]) (st' := [zi aiq, zi aip]) (by decide +kernel) (fun k q => by cases q) rfl ?_
        rcases Decidable.em (aip.toInt ≠ aiq.toInt) with q3443 | q3443
        ·
          refine y_cT (c := .ne) (off := 7) (pc' := 114) (len := 3) (r := (0, 0, 0, 0)) (by decide +kernel) (acmpT (c := .ne) (by show ¬ (_ = _); omega)) (by decide +kernel) ?_
          refine y_ic (c := 0) (len := 1) (r := (0, 0, 0, 0)) (by decide +kernel) (by decide) (fun y3444 hy3444 => ?_)
          refine y_rI (len := 1) (r := (0, 0, 0, 0)) (nL := 6) (k := 2) (n9 := 4) (hs := []) (by decide +kernel) rfl (zfit_b (by omega) (by omega)).2 ?_
          refine ⟨rfl, Or.inr ⟨by omega, fun q9 => ?_⟩⟩
          rcases q9 with ⟨e0, ⟨w9, c⟩ | ⟨w9, c1, c2⟩ | ⟨w9, ⟨c1, c2⟩ | ⟨c1, c2, c3⟩⟩ | ⟨w9, c1, c2⟩ | ⟨w9, c⟩⟩
          · have c1 := congrArg (fun q : it4 => q.1) c
            have c2 := congrArg (fun q : it4 => q.2.2.1) c
            have c3 := congrArg (fun q : it4 => q.2.2.2) c
            try simp only at c1 c2 c3
            omega
          · omega
          · omega
          · omega
          · omega
          · omega
        ·
          refine y_cF (c := .ne) (off := 7) (len := 3) (r := (0, 0, 0, 0)) (by decide +kernel) (acmpF (c := .ne) (by show _ = _; omega)) ?_
          refine y_ic (c := 1) (len := 1) (r := (0, 0, 0, 0)) (by decide +kernel) (by decide) (fun y3445 hy3445 => ?_)
          refine y_goto (off := 4) (pc' := 115) (len := 3) (r := (0, 0, 0, 0)) (by decide +kernel) (by decide +kernel) ?_
          refine y_rI (len := 1) (r := (0, 0, 0, 0)) (nL := 6) (k := 2) (n9 := 4) (hs := []) (by decide +kernel) rfl (zfit_b (by omega) (by omega)).2 ?_
          exact ⟨rfl, Or.inl ⟨by omega, by omega, Or.inr (Or.inl ⟨by omega, by omega, by omega⟩)⟩⟩
      ·
        refine y_iT (c := .eq) (off := 14) (pc' := 114) (len := 3) (r := (0, 0, 0, 0)) (by decide +kernel) (acmpT (c := .eq) (by show _ = _; omega)) (by decide +kernel) ?_
        refine y_ic (c := 0) (len := 1) (r := (0, 0, 0, 0)) (by decide +kernel) (by decide) (fun y3446 hy3446 => ?_)
        refine y_rI (len := 1) (r := (0, 0, 0, 0)) (nL := 6) (k := 2) (n9 := 4) (hs := []) (by decide +kernel) rfl (zfit_b (by omega) (by omega)).2 ?_
        refine ⟨rfl, Or.inr ⟨by omega, fun q9 => ?_⟩⟩
        rcases q9 with ⟨e0, ⟨w9, c⟩ | ⟨w9, c1, c2⟩ | ⟨w9, ⟨c1, c2⟩ | ⟨c1, c2, c3⟩⟩ | ⟨w9, c1, c2⟩ | ⟨w9, c⟩⟩
        · have c1 := congrArg (fun q : it4 => q.1) c
          have c2 := congrArg (fun q : it4 => q.2.2.1) c
          have c3 := congrArg (fun q : it4 => q.2.2.2) c
          try simp only at c1 c2 c3
          omega
        · omega
        · omega
        · omega
        · omega
        · omega
    ·
      refine y_sw (dflt := 153) (lo := 3) (hi := 6) (offs := #[30, 69, 90, 136]) (off := 90) (pc' := 116) (len := 30) (r := (0, 0, 0, 0)) (by decide +kernel) (zswI (k := 2) (by omega) (by omega) (by omega) rfl) (by decide +kernel) ?_
      refine y_same (i := .iload 4) (len := 2) (r := (0, 0, 0, 0)) (pc' := 118) (ls' := [some (.inl (some A)), some (zi xw), some (zi xr), some (zi xl), some (zi aip), some (zi aiq)]) (st' := [zi aip]) (by decide +kernel) (fun k q => by cases q) rfl ?_
      refine y_ic (c := 2) (len := 1) (r := (0, 0, 0, 0)) (by decide +kernel) (by decide) (fun y3447 hy3447 => ?_)
      rcases Decidable.em (aip.toInt ≠ y3447.toInt) with q3448 | q3448
      ·
        refine y_cT (c := .ne) (off := 25) (pc' := 144) (len := 3) (r := (0, 0, 0, 0)) (by decide +kernel) (acmpT (c := .ne) (by show ¬ (_ = _); omega)) (by decide +kernel) ?_
        refine y_same (i := .iload 4) (len := 2) (r := (0, 0, 0, 0)) (pc' := 146) (ls' := [some (.inl (some A)), some (zi xw), some (zi xr), some (zi xl), some (zi aip), some (zi aiq)]) (st' := [zi aip]) (by decide +kernel) (fun k q => by cases q) rfl ?_
        refine y_ic (c := 3) (len := 1) (r := (0, 0, 0, 0)) (by decide +kernel) (by decide) (fun y3449 hy3449 => ?_)
        rcases Decidable.em (aip.toInt ≠ y3449.toInt) with q3450 | q3450
        ·
          refine y_cT (c := .ne) (off := 13) (pc' := 160) (len := 3) (r := (0, 0, 0, 0)) (by decide +kernel) (acmpT (c := .ne) (by show ¬ (_ = _); omega)) (by decide +kernel) ?_
          refine y_ic (c := 0) (len := 1) (r := (0, 0, 0, 0)) (by decide +kernel) (by decide) (fun y3451 hy3451 => ?_)
          refine y_rI (len := 1) (r := (0, 0, 0, 0)) (nL := 6) (k := 2) (n9 := 4) (hs := []) (by decide +kernel) rfl (zfit_b (by omega) (by omega)).2 ?_
          refine ⟨rfl, Or.inr ⟨by omega, fun q9 => ?_⟩⟩
          rcases q9 with ⟨e0, ⟨w9, c⟩ | ⟨w9, c1, c2⟩ | ⟨w9, ⟨c1, c2⟩ | ⟨c1, c2, c3⟩⟩ | ⟨w9, c1, c2⟩ | ⟨w9, c⟩⟩
          · have c1 := congrArg (fun q : it4 => q.1) c
            have c2 := congrArg (fun q : it4 => q.2.2.1) c
            have c3 := congrArg (fun q : it4 => q.2.2.2) c
            try simp only at c1 c2 c3
            omega
          · omega
          · omega
          · omega
          · omega
          · omega
        ·
          refine y_cF (c := .ne) (off := 13) (len := 3) (r := (0, 0, 0, 0)) (by decide +kernel) (acmpF (c := .ne) (by show _ = _; omega)) ?_
          refine y_same (i := .iload 5) (len := 2) (r := (0, 0, 0, 0)) (pc' := 152) (ls' := [some (.inl (some A)), some (zi xw), some (zi xr), some (zi xl), some (zi aip), some (zi aiq)]) (st' := [zi aiq]) (by decide +kernel) (fun k q => by cases q) rfl ?_
          refine y_ic (c := 1) (len := 1) (r := (0, 0, 0, 0)) (by decide +kernel) (by decide) (fun y3452 hy3452 => ?_)
          rcases Decidable.em (aiq.toInt ≠ y3452.toInt) with q3453 | q3453
          ·
            refine y_cT (c := .ne) (off := 7) (pc' := 160) (len := 3) (r := (0, 0, 0, 0)) (by decide +kernel) (acmpT (c := .ne) (by show ¬ (_ = _); omega)) (by decide +kernel) ?_
            refine y_ic (c := 0) (len := 1) (r := (0, 0, 0, 0)) (by decide +kernel) (by decide) (fun y3454 hy3454 => ?_)
            refine y_rI (len := 1) (r := (0, 0, 0, 0)) (nL := 6) (k := 2) (n9 := 4) (hs := []) (by decide +kernel) rfl (zfit_b (by omega) (by omega)).2 ?_
            refine ⟨rfl, Or.inr ⟨by omega, fun q9 => ?_⟩⟩
            rcases q9 with ⟨e0, ⟨w9, c⟩ | ⟨w9, c1, c2⟩ | ⟨w9, ⟨c1, c2⟩ | ⟨c1, c2, c3⟩⟩ | ⟨w9, c1, c2⟩ | ⟨w9, c⟩⟩
            · have c1 := congrArg (fun q : it4 => q.1) c
              have c2 := congrArg (fun q : it4 => q.2.2.1) c
              have c3 := congrArg (fun q : it4 => q.2.2.2) c
              try simp only at c1 c2 c3
              omega
            · omega
            · omega
            · omega
            · omega
            · omega
          ·
            refine y_cF (c := .ne) (off := 7) (len := 3) (r := (0, 0, 0, 0)) (by decide +kernel) (acmpF (c := .ne) (by show _ = _; omega)) ?_
            refine y_ic (c := 1) (len := 1) (r := (0, 0, 0, 0)) (by decide +kernel) (by decide) (fun y3455 hy3455 => ?_)
            refine y_goto (off := 4) (pc' := 161) (len := 3) (r := (0, 0, 0, 0)) (by decide +kernel) (by decide +kernel) ?_
            refine y_rI (len := 1) (r := (0, 0, 0, 0)) (nL := 6) (k := 2) (n9 := 4) (hs := []) (by decide +kernel) rfl (zfit_b (by omega) (by omega)).2 ?_
            exact ⟨rfl, Or.inl ⟨by omega, by omega, Or.inr (Or.inr (Or.inl ⟨by omega, Or.inl ⟨by omega, by omega⟩⟩))⟩⟩
      ·
        refine y_cF (c := .ne) (off := 25) (len := 3) (r := (0, 0, 0, 0)) (by decide +kernel) (acmpF (c := .ne) (by show _ = _; omega)) ?_
        refine y_same (i := .iload 5) (len := 2) (r := (0, 0, 0, 0)) (pc' := 124) (ls' := [some (.inl (some A)), some (zi xw), some (zi xr), some (zi xl), some (zi aip), some (zi aiq)]) (st' := [zi aiq]) (by decide +kernel) (fun k q => by cases q) rfl ?_
        rcases Decidable.em (aiq.toInt ≠ 0) with q3456 | q3456
        ·
          refine y_iT (c := .ne) (off := 20) (pc' := 144) (len := 3) (r := (0, 0, 0, 0)) (by decide +kernel) (acmpT (c := .ne) (by show ¬ (_ = _); omega)) (by decide +kernel) ?_
          refine y_same (i := .iload 4) (len := 2) (r := (0, 0, 0, 0)) (pc' := 146) (ls' := [some (.inl (some A)), some (zi xw), some (zi xr), some (zi xl), some (zi aip), some (zi aiq)]) (st' := [zi aip]) (by decide +kernel) (fun k q => by cases q) rfl ?_
          refine y_ic (c := 3) (len := 1) (r := (0, 0, 0, 0)) (by decide +kernel) (by decide) (fun y3457 hy3457 => ?_)
          rcases Decidable.em (aip.toInt ≠ y3457.toInt) with q3458 | q3458
          ·
            refine y_cT (c := .ne) (off := 13) (pc' := 160) (len := 3) (r := (0, 0, 0, 0)) (by decide +kernel) (acmpT (c := .ne) (by show ¬ (_ = _); omega)) (by decide +kernel) ?_
            refine y_ic (c := 0) (len := 1) (r := (0, 0, 0, 0)) (by decide +kernel) (by decide) (fun y3459 hy3459 => ?_)
            refine y_rI (len := 1) (r := (0, 0, 0, 0)) (nL := 6) (k := 2) (n9 := 4) (hs := []) (by decide +kernel) rfl (zfit_b (by omega) (by omega)).2 ?_
            refine ⟨rfl, Or.inr ⟨by omega, fun q9 => ?_⟩⟩
            rcases q9 with ⟨e0, ⟨w9, c⟩ | ⟨w9, c1, c2⟩ | ⟨w9, ⟨c1, c2⟩ | ⟨c1, c2, c3⟩⟩ | ⟨w9, c1, c2⟩ | ⟨w9, c⟩⟩
            · have c1 := congrArg (fun q : it4 => q.1) c
              have c2 := congrArg (fun q : it4 => q.2.2.1) c
              have c3 := congrArg (fun q : it4 => q.2.2.2) c
              try simp only at c1 c2 c3
              omega
            · omega
            · omega
            · omega
            · omega
            · omega
          ·
            refine y_cF (c := .ne) (off := 13) (len := 3) (r := (0, 0, 0, 0)) (by decide +kernel) (acmpF (c := .ne) (by show _ = _; omega)) ?_
            refine y_same (i := .iload 5) (len := 2) (r := (0, 0, 0, 0)) (pc' := 152) (ls' := [some (.inl (some A)), some (zi xw), some (zi xr), some (zi xl), some (zi aip), some (zi aiq)]) (st' := [zi aiq]) (by decide +kernel) (fun k q => by cases q) rfl ?_
            refine y_ic (c := 1) (len := 1) (r := (0, 0, 0, 0)) (by decide +kernel) (by decide) (fun y3460 hy3460 => ?_)
            rcases Decidable.em (aiq.toInt ≠ y3460.toInt) with q3461 | q3461
            ·
              refine y_cT (c := .ne) (off := 7) (pc' := 160) (len := 3) (r := (0, 0, 0, 0)) (by decide +kernel) (acmpT (c := .ne) (by show ¬ (_ = _); omega)) (by decide +kernel) ?_
              refine y_ic (c := 0) (len := 1) (r := (0, 0, 0, 0)) (by decide +kernel) (by decide) (fun y3462 hy3462 => ?_)
              refine y_rI (len := 1) (r := (0, 0, 0, 0)) (nL := 6) (k := 2) (n9 := 4) (hs := []) (by decide +kernel) rfl (zfit_b (by omega) (by omega)).2 ?_
              refine ⟨rfl, Or.inr ⟨by omega, fun q9 => ?_⟩⟩
              rcases q9 with ⟨e0, ⟨w9, c⟩ | ⟨w9, c1, c2⟩ | ⟨w9, ⟨c1, c2⟩ | ⟨c1, c2, c3⟩⟩ | ⟨w9, c1, c2⟩ | ⟨w9, c⟩⟩
              · have c1 := congrArg (fun q : it4 => q.1) c
                have c2 := congrArg (fun q : it4 => q.2.2.1) c
                have c3 := congrArg (fun q : it4 => q.2.2.2) c
                try simp only at c1 c2 c3
                omega
              · omega
              · omega
              · omega
              · omega
              · omega
            ·
              refine y_cF (c := .ne) (off := 7) (len := 3) (r := (0, 0, 0, 0)) (by decide +kernel) (acmpF (c := .ne) (by show _ = _; omega)) ?_
              refine y_ic (c := 1) (len := 1) (r := (0, 0, 0, 0)) (by decide +kernel) (by decide) (fun y3463 hy3463 => ?_)
              refine y_goto (off := 4) (pc' := 161) (len := 3) (r := (0, 0, 0, 0)) (by decide +kernel) (by decide +kernel) ?_
              refine y_rI (len := 1) (r := (0, 0, 0, 0)) (nL := 6) (k := 2) (n9 := 4) (hs := []) (by decide +kernel) rfl (zfit_b (by omega) (by omega)).2 ?_
              exact ⟨rfl, Or.inl ⟨by omega, by omega, Or.inr (Or.inr (Or.inl ⟨by omega, Or.inl ⟨by omega, by omega⟩⟩))⟩⟩
        ·
          refine y_iF (c := .ne) (off := 20) (len := 3) (r := (0, 0, 0, 0)) (by decide +kernel) (acmpF (c := .ne) (by show _ = _; omega)) ?_
          refine y_same (i := .aload_n 0) (len := 1) (r := (0, 0, 0, 0)) (pc' := 128) (ls' := [some (.inl (some A)), some (zi xw), some (zi xr), some (zi xl), some (zi aip), some (zi aiq)]) (st' := [.inl (some A)]) (by decide +kernel) (fun k q => by cases q) rfl ?_
          refine y_same (i := .aload_n 0) (len := 1) (r := (0, 0, 0, 0)) (pc' := 129) (ls' := [some (.inl (some A)), some (zi xw), some (zi xr), some (zi xl), some (zi aip), some (zi aiq)]) (st' := [.inl (some A), .inl (some A)]) (by decide +kernel) (fun k q => by cases q) rfl ?_
          refine y_same (i := .iload_n 2) (len := 1) (r := (0, 0, 0, 0)) (pc' := 130) (ls' := [some (.inl (some A)), some (zi xw), some (zi xr), some (zi xl), some (zi aip), some (zi aiq)]) (st' := [zi xr, .inl (some A), .inl (some A)]) (by decide +kernel) (fun k q => by cases q) rfl ?_
          refine y_ic (c := 1) (len := 1) (r := (0, 0, 0, 0)) (by decide +kernel) (by decide) (fun y3464 hy3464 => ?_)
          refine y_add (len := 1) (r := (0, 0, 0, 0)) (by decide +kernel) (by omega) (by omega) (fun y3465 hy3465 => ?_)
          refine y_ial (i := ((80 + 4 * r) + 1)) (len := 1) (r := (0, 0, 0, 0)) (by decide +kernel) Q.1 tA aT (by omega) hbip ?_
          refine y_same (i := .aload_n 0) (len := 1) (r := (0, 0, 0, 0)) (pc' := 134) (ls' := [some (.inl (some A)), some (zi xw), some (zi xr), some (zi xl), some (zi aip), some (zi aiq)]) (st' := [.inl (some A), zi bip, .inl (some A)]) (by decide +kernel) (fun k q => by cases q) rfl ?_
          refine y_same (i := .iload_n 2) (len := 1) (r := (0, 0, 0, 0)) (pc' := 135) (ls' := [some (.inl (some A)), some (zi xw), some (zi xr), some (zi xl), some (zi aip), some (zi aiq)]) (st' := [zi xr, .inl (some A), zi bip, .inl (some A)]) (by decide +kernel) (fun k q => by cases q) rfl ?_
          refine y_ic (c := 2) (len := 1) (r := (0, 0, 0, 0)) (by decide +kernel) (by decide) (fun y3466 hy3466 => ?_)
          refine y_add (len := 1) (r := (0, 0, 0, 0)) (by decide +kernel) (by omega) (by omega) (fun y3467 hy3467 => ?_)
          refine y_ial (i := ((80 + 4 * r) + 2)) (len := 1) (r := (0, 0, 0, 0)) (by decide +kernel) Q.1 tA aT (by omega) hcip ?_
          refine y_cI (i := .invokestatic 298) (len := 3) (r := (1, 212, 12, 1727)) (nL := 5) (k := 2) (n := 3) (hs := []) (args := [.inl (some A), zi bip, zi cip]) (rest := []) (l0 := [some (.inl (some A)), some (zi bip), some (zi cip), none, none]) (by decide +kernel) (Or.inl ⟨_, rfl⟩) rfl rfl rfl rfl (Nat.le_of_ble_eq_true rfl) rfl rfl (qI_le (by omega) (m_kn (d := 0) (x := ip.2.1) (y := ip.2.2.1) Q (by omega) (by omega) (by omega) (by omega))) (fun y3468 qy3468 hRy3468 => ?_)
          obtain ⟨rfl, hDy3468⟩ := hRy3468
          rcases hDy3468 with ⟨vy3468, ty3468⟩ | ⟨vy3468, ty3468⟩
          ·
            refine y_iT (c := .ne) (off := 15) (pc' := 156) (len := 3) (r := (0, 0, 0, 0)) (by decide +kernel) (acmpT (c := .ne) (by show ¬ (_ = _); omega)) (by decide +kernel) ?_
            refine y_ic (c := 1) (len := 1) (r := (0, 0, 0, 0)) (by decide +kernel) (by decide) (fun y3469 hy3469 => ?_)
            refine y_goto (off := 4) (pc' := 161) (len := 3) (r := (0, 0, 0, 0)) (by decide +kernel) (by decide +kernel) ?_
            refine y_rI (len := 1) (r := (0, 0, 0, 0)) (nL := 6) (k := 2) (n9 := 4) (hs := []) (by decide +kernel) rfl (zfit_b (by omega) (by omega)).2 ?_
            exact ⟨rfl, Or.inl ⟨by omega, by omega, Or.inr (Or.inr (Or.inl ⟨by omega, Or.inr ⟨by omega, by omega, ty3468⟩⟩))⟩⟩
          ·
            refine y_iF (c := .ne) (off := 15) (len := 3) (r := (0, 0, 0, 0)) (by decide +kernel) (acmpF (c := .ne) (by show _ = _; omega)) ?_
            refine y_same (i := .iload 4) (len := 2) (r := (0, 0, 0, 0)) (pc' := 146) (ls' := [some (.inl (some A)), some (zi xw), some (zi xr), some (zi xl), some (zi aip), some (zi aiq)]) (st' := [zi aip]) (by decide +kernel) (fun k q => by cases q) rfl ?_
            refine y_ic (c := 3) (len := 1) (r := (0, 0, 0, 0)) (by decide +kernel) (by decide) (fun y3470 hy3470 => ?_)
            rcases Decidable.em (aip.toInt ≠ y3470.toInt) with q3471 | q3471
            ·
              refine y_cT (c := .ne) (off := 13) (pc' := 160) (len := 3) (r := (0, 0, 0, 0)) (by decide +kernel) (acmpT (c := .ne) (by show ¬ (_ = _); omega)) (by decide +kernel) ?_
              refine y_ic (c := 0) (len := 1) (r := (0, 0, 0, 0)) (by decide +kernel) (by decide) (fun y3472 hy3472 => ?_)
              refine y_rI (len := 1) (r := (0, 0, 0, 0)) (nL := 6) (k := 2) (n9 := 4) (hs := []) (by decide +kernel) rfl (zfit_b (by omega) (by omega)).2 ?_
              refine ⟨rfl, Or.inr ⟨by omega, fun q9 => ?_⟩⟩
              rcases q9 with ⟨e0, ⟨w9, c⟩ | ⟨w9, c1, c2⟩ | ⟨w9, ⟨c1, c2⟩ | ⟨c1, c2, c3⟩⟩ | ⟨w9, c1, c2⟩ | ⟨w9, c⟩⟩
              · have c1 := congrArg (fun q : it4 => q.1) c
                have c2 := congrArg (fun q : it4 => q.2.2.1) c
                have c3 := congrArg (fun q : it4 => q.2.2.2) c
                try simp only at c1 c2 c3
                omega
              · omega
              · omega
              · exact absurd c3 ty3468
              · omega
              · omega
            ·
              refine y_cF (c := .ne) (off := 13) (len := 3) (r := (0, 0, 0, 0)) (by decide +kernel) (acmpF (c := .ne) (by show _ = _; omega)) ?_
              refine y_same (i := .iload 5) (len := 2) (r := (0, 0, 0, 0)) (pc' := 152) (ls' := [some (.inl (some A)), some (zi xw), some (zi xr), some (zi xl), some (zi aip), some (zi aiq)]) (st' := [zi aiq]) (by decide +kernel) (fun k q => by cases q) rfl ?_
              refine y_ic (c := 1) (len := 1) (r := (0, 0, 0, 0)) (by decide +kernel) (by decide) (fun y3473 hy3473 => ?_)
              rcases Decidable.em (aiq.toInt ≠ y3473.toInt) with q3474 | q3474
              ·
                refine y_cT (c := .ne) (off := 7) (pc' := 160) (len := 3) (r := (0, 0, 0, 0)) (by decide +kernel) (acmpT (c := .ne) (by show ¬ (_ = _); omega)) (by decide +kernel) ?_
                refine y_ic (c := 0) (len := 1) (r := (0, 0, 0, 0)) (by decide +kernel) (by decide) (fun y3475 hy3475 => ?_)
                refine y_rI (len := 1) (r := (0, 0, 0, 0)) (nL := 6) (k := 2) (n9 := 4) (hs := []) (by decide +kernel) rfl (zfit_b (by omega) (by omega)).2 ?_
                refine ⟨rfl, Or.inr ⟨by omega, fun q9 => ?_⟩⟩
                rcases q9 with ⟨e0, ⟨w9, c⟩ | ⟨w9, c1, c2⟩ | ⟨w9, ⟨c1, c2⟩ | ⟨c1, c2, c3⟩⟩ | ⟨w9, c1, c2⟩ | ⟨w9, c⟩⟩
                · have c1 := congrArg (fun q : it4 => q.1) c
                  have c2 := congrArg (fun q : it4 => q.2.2.1) c
                  have c3 := congrArg (fun q : it4 => q.2.2.2) c
                  try simp only at c1 c2 c3
                  omega
                · omega
                · omega
                · exact absurd c3 ty3468
                · omega
                · omega
              ·
                refine y_cF (c := .ne) (off := 7) (len := 3) (r := (0, 0, 0, 0)) (by decide +kernel) (acmpF (c := .ne) (by show _ = _; omega)) ?_
                refine y_ic (c := 1) (len := 1) (r := (0, 0, 0, 0)) (by decide +kernel) (by decide) (fun y3476 hy3476 => ?_)
                refine y_goto (off := 4) (pc' := 161) (len := 3) (r := (0, 0, 0, 0)) (by decide +kernel) (by decide +kernel) ?_
                refine y_rI (len := 1) (r := (0, 0, 0, 0)) (nL := 6) (k := 2) (n9 := 4) (hs := []) (by decide +kernel) rfl (zfit_b (by omega) (by omega)).2 ?_
                exact ⟨rfl, Or.inl ⟨by omega, by omega, Or.inr (Or.inr (Or.inl ⟨by omega, Or.inl ⟨by omega, by omega⟩⟩))⟩⟩
    ·
      refine y_sw (dflt := 153) (lo := 3) (hi := 6) (offs := #[30, 69, 90, 136]) (off := 136) (pc' := 162) (len := 30) (r := (0, 0, 0, 0)) (by decide +kernel) (zswI (k := 3) (by omega) (by omega) (by omega) rfl) (by decide +kernel) ?_
      refine y_same (i := .iload 4) (len := 2) (r := (0, 0, 0, 0)) (pc' := 164) (ls' := [some (.inl (some A)), some (zi xw), some (zi xr), some (zi xl), some (zi aip), some (zi aiq)]) (st' := [zi aip]) (by decide +kernel) (fun k q => by cases q) rfl ?_
      refine y_ic (c := 2) (len := 1) (r := (0, 0, 0, 0)) (by decide +kernel) (by decide) (fun y3477 hy3477 => ?_)
      rcases Decidable.em (aip.toInt ≠ y3477.toInt) with q3478 | q3478
      ·
        refine y_cT (c := .ne) (off := 12) (pc' := 177) (len := 3) (r := (0, 0, 0, 0)) (by decide +kernel) (acmpT (c := .ne) (by show ¬ (_ = _); omega)) (by decide +kernel) ?_
        refine y_ic (c := 0) (len := 1) (r := (0, 0, 0, 0)) (by decide +kernel) (by decide) (fun y3479 hy3479 => ?_)
        refine y_rI (len := 1) (r := (0, 0, 0, 0)) (nL := 6) (k := 2) (n9 := 4) (hs := []) (by decide +kernel) rfl (zfit_b (by omega) (by omega)).2 ?_
        refine ⟨rfl, Or.inr ⟨by omega, fun q9 => ?_⟩⟩
        rcases q9 with ⟨e0, ⟨w9, c⟩ | ⟨w9, c1, c2⟩ | ⟨w9, ⟨c1, c2⟩ | ⟨c1, c2, c3⟩⟩ | ⟨w9, c1, c2⟩ | ⟨w9, c⟩⟩
        · have c1 := congrArg (fun q : it4 => q.1) c
          have c2 := congrArg (fun q : it4 => q.2.2.1) c
          have c3 := congrArg (fun q : it4 => q.2.2.2) c
          try simp only at c1 c2 c3
          omega
        · omega
        · omega
        · omega
        · omega
        · omega
      ·
        refine y_cF (c := .ne) (off := 12) (len := 3) (r := (0, 0, 0, 0)) (by decide +kernel) (acmpF (c := .ne) (by show _ = _; omega)) ?_
        refine y_same (i := .iload 5) (len := 2) (r := (0, 0, 0, 0)) (pc' := 170) (ls' := [some (.inl (some A)), some (zi xw), some (zi xr), some (zi xl), some (zi aip), some (zi aiq)]) (st' := [zi aiq]) (by decide +kernel) (fun k q => by cases q) rfl ?_
        rcases Decidable.em (aiq.toInt ≠ 0) with q3480 | q3480
        ·
          refine y_iT (c := .ne) (off := 7) (pc' := 177) (len := 3) (r := (0, 0, 0, 0)) (by decide +kernel) (acmpT (c := .ne) (by show ¬ (_ = _); omega)) (by decide +kernel) ?_
          refine y_ic (c := 0) (len := 1) (r := (0, 0, 0, 0)) (by decide +kernel) (by decide) (fun y3481 hy3481 => ?_)
          refine y_rI (len := 1) (r := (0, 0, 0, 0)) (nL := 6) (k := 2) (n9 := 4) (hs := []) (by decide +kernel) rfl (zfit_b (by omega) (by omega)).2 ?_
          refine ⟨rfl, Or.inr ⟨by omega, fun q9 => ?_⟩⟩
          rcases q9 with ⟨e0, ⟨w9, c⟩ | ⟨w9, c1, c2⟩ | ⟨w9, ⟨c1, c2⟩ | ⟨c1, c2, c3⟩⟩ | ⟨w9, c1, c2⟩ | ⟨w9, c⟩⟩
          · have c1 := congrArg (fun q : it4 => q.1) c
            have c2 := congrArg (fun q : it4 => q.2.2.1) c
            have c3 := congrArg (fun q : it4 => q.2.2.2) c
            try simp only at c1 c2 c3
            omega
          · omega
          · omega
          · omega
          · omega
          · omega
        ·
          refine y_iF (c := .ne) (off := 7) (len := 3) (r := (0, 0, 0, 0)) (by decide +kernel) (acmpF (c := .ne) (by show _ = _; omega)) ?_
          refine y_ic (c := 1) (len := 1) (r := (0, 0, 0, 0)) (by decide +kernel) (by decide) (fun y3482 hy3482 => ?_)
          refine y_goto (off := 4) (pc' := 178) (len := 3) (r := (0, 0, 0, 0)) (by decide +kernel) (by decide +kernel) ?_
          refine y_rI (len := 1) (r := (0, 0, 0, 0)) (nL := 6) (k := 2) (n9 := 4) (hs := []) (by decide +kernel) rfl (zfit_b (by omega) (by omega)).2 ?_
          exact ⟨rfl, Or.inl ⟨by omega, by omega, Or.inr (Or.inr (Or.inr (Or.inl ⟨by omega, by omega, by omega⟩)))⟩⟩
    ·
      refine y_sw (dflt := 153) (lo := 3) (hi := 6) (offs := #[30, 69, 90, 136]) (off := 153) (pc' := 179) (len := 30) (r := (0, 0, 0, 0)) (by decide +kernel) (zswO (by omega)) (by decide +kernel) ?_
      refine y_same (i := .iload 5) (len := 2) (r := (0, 0, 0, 0)) (pc' := 181) (ls' := [some (.inl (some A)), some (zi xw), some (zi xr), some (zi xl), some (zi aip), some (zi aiq)]) (st' := [zi aiq]) (by decide +kernel) (fun k q => by cases q) rfl ?_
      refine y_cI (i := .invokestatic 273) (len := 3) (r := (1, 204, 12, 1715)) (nL := 1) (k := 2) (n := 1) (hs := []) (args := [zi aiq]) (rest := []) (l0 := [some (zi aiq)]) (by decide +kernel) (Or.inl ⟨_, rfl⟩) rfl rfl rfl rfl (Nat.le_of_ble_eq_true rfl) rfl rfl (qI_le (by omega) (m_isc (d := 0))) (fun y3483 qy3483 hRy3483 => ?_)
      obtain ⟨rfl, hDy3483⟩ := hRy3483
      rcases hDy3483 with ⟨vy3483, ty3483⟩ | ⟨vy3483, ty3483⟩
      ·
        refine y_iT (c := .ne) (off := 7) (pc' := 191) (len := 3) (r := (0, 0, 0, 0)) (by decide +kernel) (acmpT (c := .ne) (by show ¬ (_ = _); omega)) (by decide +kernel) ?_
        refine y_ic (c := 0) (len := 1) (r := (0, 0, 0, 0)) (by decide +kernel) (by decide) (fun y3484 hy3484 => ?_)
        refine y_rI (len := 1) (r := (0, 0, 0, 0)) (nL := 6) (k := 2) (n9 := 4) (hs := []) (by decide +kernel) rfl (zfit_b (by omega) (by omega)).2 ?_
        refine ⟨rfl, Or.inr ⟨by omega, fun q9 => ?_⟩⟩
        rcases q9 with ⟨e0, ⟨w9, c⟩ | ⟨w9, c1, c2⟩ | ⟨w9, ⟨c1, c2⟩ | ⟨c1, c2, c3⟩⟩ | ⟨w9, c1, c2⟩ | ⟨w9, c⟩⟩
        · have c1 := congrArg (fun q : it4 => q.1) c
          have c2 := congrArg (fun q : it4 => q.2.2.1) c
          have c3 := congrArg (fun q : it4 => q.2.2.2) c
          try simp only at c1 c2 c3
          omega
        · omega
        · omega
        · omega
        · omega
        · omega
      ·
        refine y_iF (c := .ne) (off := 7) (len := 3) (r := (0, 0, 0, 0)) (by decide +kernel) (acmpF (c := .ne) (by show _ = _; omega)) ?_
        refine y_ic (c := 1) (len := 1) (r := (0, 0, 0, 0)) (by decide +kernel) (by decide) (fun y3485 hy3485 => ?_)
        refine y_goto (off := 4) (pc' := 192) (len := 3) (r := (0, 0, 0, 0)) (by decide +kernel) (by decide +kernel) ?_
        refine y_rI (len := 1) (r := (0, 0, 0, 0)) (nL := 6) (k := 2) (n9 := 4) (hs := []) (by decide +kernel) rfl (zfit_b (by omega) (by omega)).2 ?_
        exact ⟨rfl, Or.inl ⟨by omega, by omega, Or.inr (Or.inr (Or.inr (Or.inr ⟨by omega, by omega⟩)))⟩⟩
  ·
    refine y_cF (c := .eq) (off := 5) (len := 3) (r := (0, 0, 0, 0)) (by decide +kernel) (acmpF (c := .eq) (by show ¬ (_ = _); omega)) ?_
    refine y_ic (c := 0) (len := 1) (r := (0, 0, 0, 0)) (by decide +kernel) (by decide) (fun y3486 hy3486 => ?_)
    refine y_rI (len := 1) (r := (0, 0, 0, 0)) (nL := 6) (k := 2) (n9 := 4) (hs := []) (by decide +kernel) rfl (zfit_b (by omega) (by omega)).2 ?_
    refine ⟨rfl, Or.inr ⟨by omega, fun q9 => ?_⟩⟩
    rcases q9 with ⟨e0, ⟨w9, c⟩ | ⟨w9, c1, c2⟩ | ⟨w9, ⟨c1, c2⟩ | ⟨c1, c2, c3⟩⟩ | ⟨w9, c1, c2⟩ | ⟨w9, c⟩⟩
    · have c1 := congrArg (fun q : it4 => q.1) c
      have c2 := congrArg (fun q : it4 => q.2.2.1) c
      have c3 := congrArg (fun q : it4 => q.2.2.2) c
      try simp only at c1 c2 c3
      omega
    · omega
    · omega
    · omega
    · omega
    · omega
def fdR (τ : List Nat) (n : Nat) (h : zh) (s : sqT) (w : Nat) (y : Int32) (h1 : zh) : Prop := (y.toInt = 1 ∧ hG τ h1 ∧ (∃ (r l : Nat) (p q : it4), s.2.1[r]? = some p ∧ s.1[l]? = some q ∧ ftq_ s w p q ∧ (∀ (r9 l9 : Nat) (p q : it4), s.2.1[r9]? = some p → s.1[l9]? = some q → (r9 < r ∨ (r9 = r ∧ l9 < l)) → ¬ ftq_ s w p q) ∧ ci_ h1 374 n r ∧ ci_ h1 375 n l) ∧ ∀ k j, ((k ≠ 374 ∧ k ≠ 375) ∨ j ≠ n) → hsl h1 k j = hsl h k j) ∨ (y.toInt = 0 ∧ h = h1 ∧ ∀ p q, p ∈ s.2.1 → q ∈ s.1 → ¬ ftq_ s w p q)
theorem fdm_l {d t n : Nat} {τ : List Nat} {h : zh} {s : sqT} (Q : QM τ h (71 + n) s) (hn9 : n < 300) {w r : Nat} {ip : it4} {xk xw xr : Int32} (hxk : xk.toInt = (n : Int)) (hxw : xw.toInt = (w : Int)) (hw : 3 ≤ w ∧ w ≤ 7) (hxr : xr.toInt = (r : Int)) (hr12 : s.2.1.length ≤ 12) (hl12 : s.1.length ≤ 12) (kip : s.2.1[r]? = some ip) (e2 : ∀ (r9 : Nat) (p q : it4), r9 < r → s.2.1[r9]? = some p → q ∈ s.1 → ¬ ftq_ s w p q) (kk : ∀ l5 : Option zv, (∀ (j : Nat) (q : it4), s.1[j]? = some q → ¬ ftq_ s w ip q) → qX (d + 4) 234 74 [some (.inl (some 52)), some (zi xk), some (zi xw), some (.inl (some (71 + n))), some (zi xr), l5] [] h t (rI (fdR τ n h s w) t)) : ∀ (n9 : Nat) (l : Nat) (xl : Int32), (xl.toInt = (l : Int)) → (l ≤ s.1.length) → (∀ (j : Nat) (q : it4), j < l → s.1[j]? = some q → ¬ ftq_ s w ip q) → (s.1.length < l + n9) → qX (d + 4) 234 21 [some (.inl (some 52)), some (zi xk), some (zi xw), some (.inl (some ((71 + n)))), some (zi xr), some (zi xl)] [] h t (rI (fdR τ n h s w) t) := by
  intro n9
  induction n9 with
  | zero =>
    intro l xl hxl hl c1 hn
    exfalso
    omega
  | succ n9 ih =>
    intro l xl hxl hl c1 hn
    obtain ⟨T, c0, tA, aT, hc0, pT⟩ := Q.2.1
    have hr9 := (List.getElem?_eq_some_iff.mp kip).1
    refine y_same (i := .iload 5) (len := 2) (r := (0, 0, 0, 0)) (pc' := 23) (ls' := [some (.inl (some 52)), some (zi xk), some (zi xw), some (.inl (some ((71 + n)))), some (zi xr), some (zi xl)]) (st' := [zi xl]) (by decide +kernel) (fun k q => by cases q) rfl ?_
    refine y_same (i := .aload_n 3) (len := 1) (r := (0, 0, 0, 0)) (pc' := 24) (ls' := [some (.inl (some 52)), some (zi xk), some (zi xw), some (.inl (some ((71 + n)))), some (zi xr), some (zi xl)]) (st' := [.inl (some ((71 + n))), zi xl]) (by decide +kernel) (fun k q => by cases q) rfl ?_
    refine y_ic (c := 0) (len := 1) (r := (0, 0, 0, 0)) (by decide +kernel) (by decide) (fun y3487 hy3487 => ?_)
    obtain ⟨z3488, hz3488, ez3488⟩ := Q.2.2.1.1
    have ez3488 : z3488.toInt = ((s.1.length : Nat) : Int) := ez3488
    have mz3488 := qm_lenL Q
    have mz3488 : s.1.length ≤ 14 := mz3488
    refine y_ial (i := 0) (len := 1) (r := (0, 0, 0, 0)) (by decide +kernel) Q.1 tA aT (by omega) hz3488 ?_
    rcases Decidable.em (xl.toInt ≥ z3488.toInt) with q3489 | q3489
    ·
      refine y_cT (c := .ge) (off := 48) (pc' := 74) (len := 3) (r := (0, 0, 0, 0)) (by decide +kernel) (acmpT (c := .ge) (by show _ ≤ _; omega)) (by decide +kernel) ?_
      exact kk _ (fun j q h2 => c1 j q (by have := (List.getElem?_eq_some_iff.mp h2).1; omega) h2)
    ·
      refine y_cF (c := .ge) (off := 48) (len := 3) (r := (0, 0, 0, 0)) (by decide +kernel) (acmpF (c := .ge) (by show _ < _; omega)) ?_
      refine y_same (i := .aload_n 3) (len := 1) (r := (0, 0, 0, 0)) (pc' := 30) (ls' := [some (.inl (some 52)), some (zi xk), some (zi xw), some (.inl (some ((71 + n)))), some (zi xr), some (zi xl)]) (st' := [.inl (some ((71 + n)))]) (by decide +kernel) (fun k q => by cases q) rfl ?_
      refine y_same (i := .iload_n 2) (len := 1) (r := (0, 0, 0, 0)) (pc' := 31) (ls' := [some (.inl (some 52)), some (zi xk), some (zi xw), some (.inl (some ((71 + n)))), some (zi xr), some (zi xl)]) (st' := [zi xw, .inl (some ((71 + n)))]) (by decide +kernel) (fun k q => by cases q) rfl ?_
      refine y_same (i := .iload 4) (len := 2) (r := (0, 0, 0, 0)) (pc' := 33) (ls' := [some (.inl (some 52)), some (zi xk), some (zi xw), some (.inl (some ((71 + n)))), some (zi xr), some (zi xl)]) (st' := [zi xr, zi xw, .inl (some ((71 + n)))]) (by decide +kernel) (fun k q => by cases q) rfl ?_
      refine y_cI (i := .invokestatic 256) (len := 3) (r := (1, 198, 12, 1651)) (nL := 1) (k := 1) (n := 1) (hs := []) (args := [zi xr]) (rest := [zi xw, .inl (some ((71 + n)))]) (l0 := [some (zi xr)]) (by decide +kernel) (Or.inl ⟨_, rfl⟩) rfl rfl rfl rfl (Nat.le_of_ble_eq_true rfl) rfl rfl (qI_le (by omega) (e_rightAt (d := 0) (by omega) (by omega))) (fun y3490 qy3490 hRy3490 => ?_)
      obtain ⟨rfl, hy3490⟩ := hRy3490
      refine y_same (i := .iload 5) (len := 2) (r := (0, 0, 0, 0)) (pc' := 38) (ls' := [some (.inl (some 52)), some (zi xk), some (zi xw), some (.inl (some ((71 + n)))), some (zi xr), some (zi xl)]) (st' := [zi xl, zi y3490, zi xw, .inl (some ((71 + n)))]) (by decide +kernel) (fun k q => by cases q) rfl ?_
      refine y_cI (i := .invokestatic 249) (len := 3) (r := (1, 197, 12, 1644)) (nL := 1) (k := 1) (n := 1) (hs := []) (args := [zi xl]) (rest := [zi y3490, zi xw, .inl (some ((71 + n)))]) (l0 := [some (zi xl)]) (by decide +kernel) (Or.inl ⟨_, rfl⟩) rfl rfl rfl rfl (Nat.le_of_ble_eq_true rfl) rfl rfl (qI_le (by omega) (e_leftAt (d := 0) (by omega) (by omega))) (fun y3491 qy3491 hRy3491 => ?_)
      obtain ⟨rfl, hy3491⟩ := hRy3491
      obtain ⟨i3493, ki3493⟩ : ∃ i9, s.1[l]? = some i9 := ⟨_, List.getElem?_eq_getElem (by omega)⟩
      have oi3493 := okQ_L Q.2.2.2 ki3493
      have pi3493 := oi3493.1
      unfold okV at pi3493
      obtain ⟨ai3493, bi3493, ci3493, di3493, ⟨hai3493, hbi3493, hci3493, hdi3493⟩, eai3493, ebi3493, eci3493, edi3493⟩ := qm_itL Q ki3493
      refine y_cI (i := .invokestatic 378) (len := 3) (r := (1, 235, 12, 1764)) (nL := 6) (k := 2) (n := 4) (hs := []) (args := [.inl (some ((71 + n))), zi xw, zi y3490, zi y3491]) (rest := []) (l0 := [some (.inl (some ((71 + n)))), some (zi xw), some (zi y3490), some (zi y3491), none, none]) (by decide +kernel) (Or.inl ⟨_, rfl⟩) rfl rfl rfl rfl (Nat.le_of_ble_eq_true rfl) rfl rfl (qI_le (by omega) (m_can (d := 0) (w := w) (r := r) (l := l) Q (by omega) hw (by omega) kip (by omega) ki3493)) (fun y3492 qy3492 hRy3492 => ?_)
      obtain ⟨rfl, hDy3492⟩ := hRy3492
      rcases hDy3492 with ⟨vy3492, ty3492⟩ | ⟨vy3492, ty3492⟩
      ·
        refine y_iT (c := .ne) (off := 6) (pc' := 50) (len := 3) (r := (0, 0, 0, 0)) (by decide +kernel) (acmpT (c := .ne) (by show ¬ (_ = _); omega)) (by decide +kernel) ?_
        refine y_same (i := .aload_n 0) (len := 1) (r := (0, 0, 0, 0)) (pc' := 51) (ls' := [some (.inl (some 52)), some (zi xk), some (zi xw), some (.inl (some ((71 + n)))), some (zi xr), some (zi xl)]) (st' := [.inl (some 52)]) (by decide +kernel) (fun k q => by cases q) rfl ?_
        refine y_get (j := 49) (len := 3) (r := (12, 19, 2, 1347)) (by decide +kernel) Q.1 (t52 Q.1) at52 rfl rfl (g_r52 (f := 19) (T2 := 374) Q.1 rfl (by decide)).1 ?_
        refine y_same (i := .iload_n 1) (len := 1) (r := (0, 0, 0, 0)) (pc' := 55) (ls' := [some (.inl (some 52)), some (zi xk), some (zi xw), some (.inl (some ((71 + n)))), some (zi xr), some (zi xl)]) (st' := [zi xk, .inl (some 374)]) (by decide +kernel) (fun k q => by cases q) rfl ?_
        refine y_same (i := .iload 4) (len := 2) (r := (0, 0, 0, 0)) (pc' := 57) (ls' := [some (.inl (some 52)), some (zi xk), some (zi xw), some (.inl (some ((71 + n)))), some (zi xr), some (zi xl)]) (st' := [zi xr, zi xk, .inl (some 374)]) (by decide +kernel) (fun k q => by cases q) rfl ?_
        refine y_ias (i := n) (len := 1) (r := (0, 0, 0, 0)) (by decide +kernel) Q.1 (tu374 Q.1) at374 rfl (by omega) (by omega) (sr1 (by omega)) (by omega) (by omega) (fun h3494 hg3494 hl3494 hs3494 ho3494 => ?_)
        have Q3494 := QM_up Q hg3494 (fun j => ho3494 (71 + n) j (by omega))
        refine y_same (i := .aload_n 0) (len := 1) (r := (0, 0, 0, 0)) (pc' := 59) (ls' := [some (.inl (some 52)), some (zi xk), some (zi xw), some (.inl (some ((71 + n)))), some (zi xr), some (zi xl)]) (st' := [.inl (some 52)]) (by decide +kernel) (fun k q => by cases q) rfl ?_
        refine y_get (j := 52) (len := 3) (r := (12, 20, 2, 1348)) (by decide +kernel) hg3494 (t52 hg3494) at52 rfl rfl (g_r52 (f := 20) (T2 := 375) hg3494 rfl (by decide)).1 ?_
        refine y_same (i := .iload_n 1) (len := 1) (r := (0, 0, 0, 0)) (pc' := 63) (ls' := [some (.inl (some 52)), some (zi xk), some (zi xw), some (.inl (some ((71 + n)))), some (zi xr), some (zi xl)]) (st' := [zi xk, .inl (some 375)]) (by decide +kernel) (fun k q => by cases q) rfl ?_
        refine y_same (i := .iload 5) (len := 2) (r := (0, 0, 0, 0)) (pc' := 65) (ls' := [some (.inl (some 52)), some (zi xk), some (zi xw), some (.inl (some ((71 + n)))), some (zi xr), some (zi xl)]) (st' := [zi xl, zi xk, .inl (some 375)]) (by decide +kernel) (fun k q => by cases q) rfl ?_
        refine y_ias (i := n) (len := 1) (r := (0, 0, 0, 0)) (by decide +kernel) hg3494 (tu375 hg3494) at375 rfl (by omega) (by omega) (sr1 (by omega)) (by omega) (by omega) (fun h3495 hg3495 hl3495 hs3495 ho3495 => ?_)
        have Q3495 := QM_up Q3494 hg3495 (fun j => ho3495 (71 + n) j (by omega))
        refine y_ic (c := 1) (len := 1) (r := (0, 0, 0, 0)) (by decide +kernel) (by decide) (fun y3496 hy3496 => ?_)
        refine y_rI (len := 1) (r := (0, 0, 0, 0)) (nL := 6) (k := 2) (n9 := 3) (hs := []) (by decide +kernel) rfl (zfit_b (by omega) (by omega)).2 ?_
        have hv3497 := (ho3495 374 n (Or.inl (by omega))).trans hs3494
        refine Or.inl ⟨by omega, hg3495, ⟨r, l, ip, i3493, kip, ki3493, ty3492, fun r9 l9 p q a1 a2 a3 => ?_, ⟨_, hv3497, hxr⟩, ⟨_, hs3495, hxl⟩⟩, fun k j hC => ((ho3495 k j (by omega)).trans (ho3494 k j (by omega)))⟩
        rcases a3 with a3 | ⟨a3, a4⟩
        · exact e2 r9 p q a3 a1 (List.mem_of_getElem? a2)
        · subst a3
          cases kip.symm.trans a1
          exact c1 l9 q a4 a2
      ·
        refine y_iF (c := .ne) (off := 6) (len := 3) (r := (0, 0, 0, 0)) (by decide +kernel) (acmpF (c := .ne) (by show _ = _; omega)) ?_
        refine y_goto (off := 21) (pc' := 68) (len := 3) (r := (0, 0, 0, 0)) (by decide +kernel) (by decide +kernel) ?_
        refine y_inc (j := 5) (a := xl) (c := 1) (ls' := fun v => [some (.inl (some 52)), some (zi xk), some (zi xw), some (.inl (some ((71 + n)))), some (zi xr), some v]) (len := 3) (r := (0, 0, 0, 0)) (by decide +kernel) rfl (fun _ => rfl) (by decide) (by omega) (by omega) (fun y3498 hy3498 => ?_)
        show qX (d + 4) 234 71 [some (.inl (some 52)), some (zi xk), some (zi xw), some (.inl (some ((71 + n)))), some (zi xr), some (zi y3498)] [] h t _
        refine y_goto (off := (-50)) (pc' := 21) (len := 3) (r := (0, 0, 0, 0)) (by decide +kernel) (by decide +kernel) ?_
        refine ih (l + 1) y3498 (by omega) (by omega) (fun j q hj h2 => ?_) (by omega)
        rcases Nat.lt_or_ge j l with q9 | q9
        · exact c1 j q q9 h2
        · obtain rfl : j = l := by omega
          cases ki3493.symm.trans h2
          exact ty3492
theorem fdm_m {d t n : Nat} {τ : List Nat} {h : zh} {s : sqT} (Q : QM τ h (71 + n) s) (hn9 : n < 300) {w : Nat} {xk xw : Int32} (hxk : xk.toInt = (n : Int)) (hxw : xw.toInt = (w : Int)) (hw : 3 ≤ w ∧ w ≤ 7) (hr12 : s.2.1.length ≤ 12) (hl12 : s.1.length ≤ 12) : ∀ (n9 : Nat) (r : Nat) (xr : Int32) (l5 : Option zv), (xr.toInt = (r : Int)) → (r ≤ s.2.1.length) → (∀ (r9 : Nat) (p q : it4), r9 < r → s.2.1[r9]? = some p → q ∈ s.1 → ¬ ftq_ s w p q) → (s.2.1.length < r + n9) → qX (d + 4) 234 10 [some (.inl (some 52)), some (zi xk), some (zi xw), some (.inl (some ((71 + n)))), some (zi xr), l5] [] h t (rI (fdR τ n h s w) t) := by
  intro n9
  induction n9 with
  | zero =>
    intro r xr l5 hxr hr c1 hn
    exfalso
    omega
  | succ n9 ih =>
    intro r xr l5 hxr hr c1 hn
    obtain ⟨T, c0, tA, aT, hc0, pT⟩ := Q.2.1
    refine y_same (i := .iload 4) (len := 2) (r := (0, 0, 0, 0)) (pc' := 12) (ls' := [some (.inl (some 52)), some (zi xk), some (zi xw), some (.inl (some ((71 + n)))), some (zi xr), l5]) (st' := [zi xr]) (by decide +kernel) (fun k q => by cases q) rfl ?_
    refine y_same (i := .aload_n 3) (len := 1) (r := (0, 0, 0, 0)) (pc' := 13) (ls' := [some (.inl (some 52)), some (zi xk), some (zi xw), some (.inl (some ((71 + n)))), some (zi xr), l5]) (st' := [.inl (some ((71 + n))), zi xr]) (by decide +kernel) (fun k q => by cases q) rfl ?_
    refine y_ic (c := 1) (len := 1) (r := (0, 0, 0, 0)) (by decide +kernel) (by decide) (fun y3499 hy3499 => ?_)
    obtain ⟨z3500, hz3500, ez3500⟩ := Q.2.2.1.2.1
    have ez3500 : z3500.toInt = ((s.2.1.length : Nat) : Int) := ez3500
    have mz3500 := qm_lenR Q
    have mz3500 : s.2.1.length ≤ 14 := mz3500
    refine y_ial (i := 1) (len := 1) (r := (0, 0, 0, 0)) (by decide +kernel) Q.1 tA aT (by omega) hz3500 ?_
    rcases Decidable.em (xr.toInt ≥ z3500.toInt) with q3501 | q3501
    ·
      refine y_cT (c := .ge) (off := 65) (pc' := 80) (len := 3) (r := (0, 0, 0, 0)) (by decide +kernel) (acmpT (c := .ge) (by show _ ≤ _; omega)) (by decide +kernel) ?_
      refine y_ic (c := 0) (len := 1) (r := (0, 0, 0, 0)) (by decide +kernel) (by decide) (fun y3502 hy3502 => ?_)
      refine y_rI (len := 1) (r := (0, 0, 0, 0)) (nL := 6) (k := 2) (n9 := 3) (hs := []) (by decide +kernel) rfl (zfit_b (by omega) (by omega)).2 ?_
      exact Or.inr ⟨by omega, rfl, fun p q m1 m2 => by obtain ⟨j, hj⟩ := List.getElem?_of_mem m1; exact c1 j p q (by have := (List.getElem?_eq_some_iff.mp hj).1; omega) hj m2⟩
    ·
      refine y_cF (c := .ge) (off := 65) (len := 3) (r := (0, 0, 0, 0)) (by decide +kernel) (acmpF (c := .ge) (by show _ < _; omega)) ?_
      refine y_ic (c := 0) (len := 1) (r := (0, 0, 0, 0)) (by decide +kernel) (by decide) (fun y3503 hy3503 => ?_)
      refine y_same (i := .istore 5) (len := 2) (r := (0, 0, 0, 0)) (pc' := 21) (ls' := [some (.inl (some 52)), some (zi xk), some (zi xw), some (.inl (some ((71 + n)))), some (zi xr), some (zi y3503)]) (st' := []) (by decide +kernel) (fun k q => by cases q) rfl ?_
      obtain ⟨ip, kip⟩ : ∃ i9, s.2.1[r]? = some i9 := ⟨_, List.getElem?_eq_getElem (by omega)⟩
      refine fdm_l Q hn9 hxk hxw hw hxr hr12 hl12 kip c1 (fun l9 c9 => ?_) (s.1.length + 1) 0 y3503 (by omega) (by omega) (fun j _ h2 => absurd h2 (Nat.not_lt_zero j)) (by omega)
      refine y_inc (j := 4) (a := xr) (c := 1) (ls' := fun v => [some (.inl (some 52)), some (zi xk), some (zi xw), some (.inl (some ((71 + n)))), some v, l9]) (len := 3) (r := (0, 0, 0, 0)) (by decide +kernel) rfl (fun _ => rfl) (by decide) (by omega) (by omega) (fun y3504 hy3504 => ?_)
      show qX (d + 4) 234 77 [some (.inl (some 52)), some (zi xk), some (zi xw), some (.inl (some ((71 + n)))), some (zi y3504), l9] [] h t _
      refine y_goto (off := (-67)) (pc' := 10) (len := 3) (r := (0, 0, 0, 0)) (by decide +kernel) (by decide +kernel) ?_
      refine ih (r + 1) y3504 l9 (by omega) (by omega) (fun r9 p q hj h2 m => ?_) (by omega)
      rcases Nat.lt_or_ge r9 r with q9 | q9
      · exact c1 r9 p q q9 h2 m
      · obtain rfl : r9 = r := by omega
        cases kip.symm.trans h2
        obtain ⟨j, hj9⟩ := List.getElem?_of_mem m
        exact c9 j q hj9
theorem m_fds {d t n : Nat} {τ : List Nat} {h : zh} {s : sqT} (Q : QM τ h (71 + n) s) (hn9 : n < 300) {w : Nat} {xk xw : Int32} (hxk : xk.toInt = (n : Int)) (hxw : xw.toInt = (w : Int)) (hw : 3 ≤ w ∧ w ≤ 7) (hr12 : s.2.1.length ≤ 12) (hl12 : s.1.length ≤ 12) : qI (d + 5) 234 [some (.inl (some 52)), some (zi xk), some (zi xw), none, none, none] h t (fdR τ n h s w) := by
  refine qI_of ?_
  refine y_same (i := .aload_n 0) (len := 1) (r := (0, 0, 0, 0)) (pc' := 1) (ls' := [some (.inl (some 52)), some (zi xk), some (zi xw), none, none, none]) (st' := [.inl (some 52)]) (by decide +kernel) (fun k q => by cases q) rfl ?_
  refine y_get (j := 37) (len := 3) (r := (12, 15, 2, 1343)) (by decide +kernel) Q.1 (t52 Q.1) at52 rfl rfl (g_r52 (f := 15) (T2 := 70) Q.1 rfl (by decide)).1 ?_
  refine y_same (i := .iload_n 1) (len := 1) (r := (0, 0, 0, 0)) (pc' := 5) (ls' := [some (.inl (some 52)), some (zi xk), some (zi xw), none, none, none]) (st' := [zi xk, .inl (some 70)]) (by decide +kernel) (fun k q => by cases q) rfl ?_
  refine y_aal (i := n) (len := 1) (r := (0, 0, 0, 0)) (by decide +kernel) Q.1 (tu70 Q.1) at70 rfl (by omega) (Q.1.2.2 n (by omega)) ?_
  refine y_same (i := .astore_n 3) (len := 1) (r := (0, 0, 0, 0)) (pc' := 7) (ls' := [some (.inl (some 52)), some (zi xk), some (zi xw), some (.inl (some ((71 + n)))), none, none]) (st' := []) (by decide +kernel) (fun k q => by cases q) rfl ?_
  refine y_ic (c := 0) (len := 1) (r := (0, 0, 0, 0)) (by decide +kernel) (by decide) (fun y3505 hy3505 => ?_)
  refine y_same (i := .istore 4) (len := 2) (r := (0, 0, 0, 0)) (pc' := 10) (ls' := [some (.inl (some 52)), some (zi xk), some (zi xw), some (.inl (some ((71 + n)))), some (zi y3505), none]) (st' := []) (by decide +kernel) (fun k q => by cases q) rfl ?_
  exact fdm_m Q hn9 hxk hxw hw hr12 hl12 (s.2.1.length + 1) 0 y3505 none (by omega) (by omega) (fun r9 _ _ h2 => absurd h2 (Nat.not_lt_zero r9)) (by omega)
theorem emm_l {d t n : Nat} {τ : List Nat} {h : zh} {s : sqT} (Q : QM τ h (71 + n) s) (hn9 : n < 300) {xk : Int32} (hxk : xk.toInt = (n : Int)) (hr12 : s.2.1.length ≤ 12) : ∀ (n9 : Nat) (i : Nat) (xi : Int32), (xi.toInt = (i : Int)) → (i ≤ s.2.1.length) → (∀ (j : Nat) (q : it4), j < i → s.2.1[j]? = some q → q.1 < 2) → (s.2.1.length < i + n9) → qX (d + 1) 236 2 [some (.inl (some 52)), some (zi xk), some (zi xi)] [] h t (rI (fun y h1 => (y.toInt = 1 ∧ hG τ h1 ∧ (∃ (r : Nat) (p : it4), s.2.1[r]? = some p ∧ 2 ≤ p.1 ∧ (∀ (r9 : Nat) (p : it4), r9 < r → s.2.1[r9]? = some p → p.1 < 2) ∧ ci_ h1 374 n r) ∧ ∀ k j, ((k ≠ 374 ∧ k ≠ 375) ∨ j ≠ n) → hsl h1 k j = hsl h k j) ∨ (y.toInt = 0 ∧ h = h1 ∧ ∀ p ∈ s.2.1, p.1 < 2)) t) := by
  intro n9
  induction n9 with
  | zero =>
    intro i xi hxi hi c1 hn
    exfalso
    omega
  | succ n9 ih =>
    intro i xi hxi hi c1 hn
    obtain ⟨T, c0, tA, aT, hc0, pT⟩ := Q.2.1
    refine y_same (i := .iload_n 2) (len := 1) (r := (0, 0, 0, 0)) (pc' := 3) (ls' := [some (.inl (some 52)), some (zi xk), some (zi xi)]) (st' := [zi xi]) (by decide +kernel) (fun k q => by cases q) rfl ?_
    refine y_same (i := .aload_n 0) (len := 1) (r := (0, 0, 0, 0)) (pc' := 4) (ls' := [some (.inl (some 52)), some (zi xk), some (zi xi)]) (st' := [.inl (some 52), zi xi]) (by decide +kernel) (fun k q => by cases q) rfl ?_
    refine y_get (j := 37) (len := 3) (r := (12, 15, 2, 1343)) (by decide +kernel) Q.1 (t52 Q.1) at52 rfl rfl (g_r52 (f := 15) (T2 := 70) Q.1 rfl (by decide)).1 ?_
    refine y_same (i := .iload_n 1) (len := 1) (r := (0, 0, 0, 0)) (pc' := 8) (ls' := [some (.inl (some 52)), some (zi xk), some (zi xi)]) (st' := [zi xk, .inl (some 70), zi xi]) (by decide +kernel) (fun k q => by cases q) rfl ?_
    refine y_aal (i := n) (len := 1) (r := (0, 0, 0, 0)) (by decide +kernel) Q.1 (tu70 Q.1) at70 rfl (by omega) (Q.1.2.2 n (by omega)) ?_
    refine y_ic (c := 1) (len := 1) (r := (0, 0, 0, 0)) (by decide +kernel) (by decide) (fun y3506 hy3506 => ?_)
    obtain ⟨z3507, hz3507, ez3507⟩ := Q.2.2.1.2.1
    have ez3507 : z3507.toInt = ((s.2.1.length : Nat) : Int) := ez3507
    have mz3507 := qm_lenR Q
    have mz3507 : s.2.1.length ≤ 14 := mz3507
    refine y_ial (i := 1) (len := 1) (r := (0, 0, 0, 0)) (by decide +kernel) Q.1 tA aT (by omega) hz3507 ?_
    rcases Decidable.em (xi.toInt ≥ z3507.toInt) with q3508 | q3508
    ·
      refine y_cT (c := .ge) (off := 45) (pc' := 56) (len := 3) (r := (0, 0, 0, 0)) (by decide +kernel) (acmpT (c := .ge) (by show _ ≤ _; omega)) (by decide +kernel) ?_
      refine y_ic (c := 0) (len := 1) (r := (0, 0, 0, 0)) (by decide +kernel) (by decide) (fun y3509 hy3509 => ?_)
      refine y_rI (len := 1) (r := (0, 0, 0, 0)) (nL := 3) (k := 2) (n9 := 2) (hs := []) (by decide +kernel) rfl (zfit_b (by omega) (by omega)).2 ?_
      exact Or.inr ⟨by omega, rfl, fun p m => by obtain ⟨j, hj⟩ := List.getElem?_of_mem m; exact c1 j p (by have := (List.getElem?_eq_some_iff.mp hj).1; omega) hj⟩
    ·
      refine y_cF (c := .ge) (off := 45) (len := 3) (r := (0, 0, 0, 0)) (by decide +kernel) (acmpF (c := .ge) (by show _ < _; omega)) ?_
      refine y_same (i := .aload_n 0) (len := 1) (r := (0, 0, 0, 0)) (pc' := 15) (ls' := [some (.inl (some 52)), some (zi xk), some (zi xi)]) (st' := [.inl (some 52)]) (by decide +kernel) (fun k q => by cases q) rfl ?_
      refine y_get (j := 37) (len := 3) (r := (12, 15, 2, 1343)) (by decide +kernel) Q.1 (t52 Q.1) at52 rfl rfl (g_r52 (f := 15) (T2 := 70) Q.1 rfl (by decide)).1 ?_
      refine y_same (i := .iload_n 1) (len := 1) (r := (0, 0, 0, 0)) (pc' := 19) (ls' := [some (.inl (some 52)), some (zi xk), some (zi xi)]) (st' := [zi xk, .inl (some 70)]) (by decide +kernel) (fun k q => by cases q) rfl ?_
      refine y_aal (i := n) (len := 1) (r := (0, 0, 0, 0)) (by decide +kernel) Q.1 (tu70 Q.1) at70 rfl (by omega) (Q.1.2.2 n (by omega)) ?_
      refine y_same (i := .iload_n 2) (len := 1) (r := (0, 0, 0, 0)) (pc' := 21) (ls' := [some (.inl (some 52)), some (zi xk), some (zi xi)]) (st' := [zi xi, .inl (some ((71 + n)))]) (by decide +kernel) (fun k q => by cases q) rfl ?_
      refine y_cI (i := .invokestatic 256) (len := 3) (r := (1, 198, 12, 1651)) (nL := 1) (k := 1) (n := 1) (hs := []) (args := [zi xi]) (rest := [.inl (some ((71 + n)))]) (l0 := [some (zi xi)]) (by decide +kernel) (Or.inl ⟨_, rfl⟩) rfl rfl rfl rfl (Nat.le_of_ble_eq_true rfl) rfl rfl (qI_le (by omega) (e_rightAt (d := 0) (by omega) (by omega))) (fun y3510 qy3510 hRy3510 => ?_)
      obtain ⟨rfl, hy3510⟩ := hRy3510
      obtain ⟨i3511, ki3511⟩ : ∃ i9, s.2.1[i]? = some i9 := ⟨_, List.getElem?_eq_getElem (by omega)⟩
      have oi3511 := okQ_R Q.2.2.2 ki3511
      have pi3511 := oi3511.1
      unfold okV at pi3511
      obtain ⟨ai3511, bi3511, ci3511, di3511, ⟨hai3511, hbi3511, hci3511, hdi3511⟩, eai3511, ebi3511, eci3511, edi3511⟩ := qm_itR Q ki3511
      refine y_ial (i := (80 + 4 * i)) (len := 1) (r := (0, 0, 0, 0)) (by decide +kernel) Q.1 tA aT (by omega) hai3511 ?_
      refine y_cI (i := .invokestatic 273) (len := 3) (r := (1, 204, 12, 1715)) (nL := 1) (k := 2) (n := 1) (hs := []) (args := [zi ai3511]) (rest := []) (l0 := [some (zi ai3511)]) (by decide +kernel) (Or.inl ⟨_, rfl⟩) rfl rfl rfl rfl (Nat.le_of_ble_eq_true rfl) rfl rfl (qI_le (by omega) (m_isc (d := 0))) (fun y3512 qy3512 hRy3512 => ?_)
      obtain ⟨rfl, hDy3512⟩ := hRy3512
      rcases hDy3512 with ⟨vy3512, ty3512⟩ | ⟨vy3512, ty3512⟩
      ·
        refine y_iF (c := .eq) (off := 6) (len := 3) (r := (0, 0, 0, 0)) (by decide +kernel) (acmpF (c := .eq) (by show ¬ (_ = _); omega)) ?_
        refine y_goto (off := 19) (pc' := 50) (len := 3) (r := (0, 0, 0, 0)) (by decide +kernel) (by decide +kernel) ?_
        refine y_inc (j := 2) (a := xi) (c := 1) (ls' := fun v => [some (.inl (some 52)), some (zi xk), some v]) (len := 3) (r := (0, 0, 0, 0)) (by decide +kernel) rfl (fun _ => rfl) (by decide) (by omega) (by omega) (fun y3513 hy3513 => ?_)
        show qX (d + 1) 236 53 [some (.inl (some 52)), some (zi xk), some (zi y3513)] [] h t _
        refine y_goto (off := (-51)) (pc' := 2) (len := 3) (r := (0, 0, 0, 0)) (by decide +kernel) (by decide +kernel) ?_
        refine ih (i + 1) y3513 (by omega) (by omega) (fun j q hj h2 => ?_) (by omega)
        rcases Nat.lt_or_ge j i with q9 | q9
        · exact c1 j q q9 h2
        · obtain rfl : j = i := by omega
          cases ki3511.symm.trans h2
          omega
      ·
        refine y_iT (c := .eq) (off := 6) (pc' := 34) (len := 3) (r := (0, 0, 0, 0)) (by decide +kernel) (acmpT (c := .eq) (by show _ = _; omega)) (by decide +kernel) ?_
        refine y_same (i := .aload_n 0) (len := 1) (r := (0, 0, 0, 0)) (pc' := 35) (ls' := [some (.inl (some 52)), some (zi xk), some (zi xi)]) (st' := [.inl (some 52)]) (by decide +kernel) (fun k q => by cases q) rfl ?_
        refine y_get (j := 49) (len := 3) (r := (12, 19, 2, 1347)) (by decide +kernel) Q.1 (t52 Q.1) at52 rfl rfl (g_r52 (f := 19) (T2 := 374) Q.1 rfl (by decide)).1 ?_
        refine y_same (i := .iload_n 1) (len := 1) (r := (0, 0, 0, 0)) (pc' := 39) (ls' := [some (.inl (some 52)), some (zi xk), some (zi xi)]) (st' := [zi xk, .inl (some 374)]) (by decide +kernel) (fun k q => by cases q) rfl ?_
        refine y_same (i := .iload_n 2) (len := 1) (r := (0, 0, 0, 0)) (pc' := 40) (ls' := [some (.inl (some 52)), some (zi xk), some (zi xi)]) (st' := [zi xi, zi xk, .inl (some 374)]) (by decide +kernel) (fun k q => by cases q) rfl ?_
        refine y_ias (i := n) (len := 1) (r := (0, 0, 0, 0)) (by decide +kernel) Q.1 (tu374 Q.1) at374 rfl (by omega) (by omega) (sr1 (by omega)) (by omega) (by omega) (fun h3514 hg3514 hl3514 hs3514 ho3514 => ?_)
        have Q3514 := QM_up Q hg3514 (fun j => ho3514 (71 + n) j (by omega))
        refine y_same (i := .aload_n 0) (len := 1) (r := (0, 0, 0, 0)) (pc' := 42) (ls' := [some (.inl (some 52)), some (zi xk), some (zi xi)]) (st' := [.inl (some 52)]) (by decide +kernel) (fun k q => by cases q) rfl ?_
        refine y_get (j := 52) (len := 3) (r := (12, 20, 2, 1348)) (by decide +kernel) hg3514 (t52 hg3514) at52 rfl rfl (g_r52 (f := 20) (T2 := 375) hg3514 rfl (by decide)).1 ?_
        refine y_same (i := .iload_n 1) (len := 1) (r := (0, 0, 0, 0)) (pc' := 46) (ls' := [some (.inl (some 52)), some (zi xk), some (zi xi)]) (st' := [zi xk, .inl (some 375)]) (by decide +kernel) (fun k q => by cases q) rfl ?_
        refine y_ic (c := 0) (len := 1) (r := (0, 0, 0, 0)) (by decide +kernel) (by decide) (fun y3515 hy3515 => ?_)
        refine y_ias (i := n) (len := 1) (r := (0, 0, 0, 0)) (by decide +kernel) hg3514 (tu375 hg3514) at375 rfl (by omega) (by omega) (sr1 (by omega)) (by omega) (by omega) (fun h3516 hg3516 hl3516 hs3516 ho3516 => ?_)
        have Q3516 := QM_up Q3514 hg3516 (fun j => ho3516 (71 + n) j (by omega))
        refine y_ic (c := 1) (len := 1) (r := (0, 0, 0, 0)) (by decide +kernel) (by decide) (fun y3517 hy3517 => ?_)
        refine y_rI (len := 1) (r := (0, 0, 0, 0)) (nL := 3) (k := 2) (n9 := 2) (hs := []) (by decide +kernel) rfl (zfit_b (by omega) (by omega)).2 ?_
        have hv3518 := (ho3516 374 n (Or.inl (by omega))).trans hs3514
        exact Or.inl ⟨by omega, hg3516, ⟨i, i3511, ki3511, by omega, c1, ⟨_, hv3518, hxi⟩⟩, fun k j hC => ((ho3516 k j (by omega)).trans (ho3514 k j (by omega)))⟩
theorem m_emp {d t n : Nat} {τ : List Nat} {h : zh} {s : sqT} (Q : QM τ h (71 + n) s) (hn9 : n < 300) {xk : Int32} (hxk : xk.toInt = (n : Int)) (hr12 : s.2.1.length ≤ 12) : qI (d + 2) 236 [some (.inl (some 52)), some (zi xk), none] h t (fun y h1 => (y.toInt = 1 ∧ hG τ h1 ∧ (∃ (r : Nat) (p : it4), s.2.1[r]? = some p ∧ 2 ≤ p.1 ∧ (∀ (r9 : Nat) (p : it4), r9 < r → s.2.1[r9]? = some p → p.1 < 2) ∧ ci_ h1 374 n r) ∧ ∀ k j, ((k ≠ 374 ∧ k ≠ 375) ∨ j ≠ n) → hsl h1 k j = hsl h k j) ∨ (y.toInt = 0 ∧ h = h1 ∧ ∀ p ∈ s.2.1, p.1 < 2)) := by
  refine qI_of ?_
  refine y_ic (c := 0) (len := 1) (r := (0, 0, 0, 0)) (by decide +kernel) (by decide) (fun y3519 hy3519 => ?_)
  refine y_same (i := .istore_n 2) (len := 1) (r := (0, 0, 0, 0)) (pc' := 2) (ls' := [some (.inl (some 52)), some (zi xk), some (zi y3519)]) (st' := []) (by decide +kernel) (fun k q => by cases q) rfl ?_
  exact emm_l Q hn9 hxk hr12 (s.2.1.length + 1) 0 y3519 (by omega) (by omega) (fun j _ h2 => absurd h2 (Nat.not_lt_zero j)) (by omega)
def stM (τ : List Nat) (h0 : zh) (n : Nat) (s : sqT) (h1 : zh) : Prop := hG τ h1 ∧ (∃ st r l : Nat, fnd_ s st r l ∧ ci_ h1 373 n st ∧ (st ≤ 8 → ci_ h1 374 n r) ∧ (st ≤ 7 → ci_ h1 375 n l)) ∧ ∀ k j, ((k ≠ 373 ∧ k ≠ 374 ∧ k ≠ 375) ∨ j ≠ n) → hsl h1 k j = hsl h0 k j
theorem stm_l {d t n : Nat} {τ : List Nat} {s : sqT} (hn9 : n < 300) {xk : Int32} (hxk : xk.toInt = (n : Int)) (hr12 : s.2.1.length ≤ 12) (hl12 : s.1.length ≤ 12) {l3 l4 : Option zv} : ∀ (n9 : Nat) (h : zh) (w : Nat), QM τ h (71 + n) s → ci_ h 373 n w → 3 ≤ w → w ≤ 8 → nof_ s w → 8 < w + n9 → qX (d + 5) 233 150 [some (.inl (some 52)), some (zi xk), some (.inl (some ((71 + n)))), l3, l4] [] h t (rV (stM τ h n s) t) := by
  intro n9
  induction n9 with
  | zero =>
    intro h w Q c h3 h8 e1 hn
    omega
  | succ n9 ih =>
    intro h w Q c h3 h8 e1 hn
    obtain ⟨xs, hs373, es⟩ := c
    obtain ⟨T, c0, tA, aT, hc0, pT⟩ := Q.2.1
    refine y_same (i := .aload_n 0) (len := 1) (r := (0, 0, 0, 0)) (pc' := 151) (ls' := [some (.inl (some 52)), some (zi xk), some (.inl (some ((71 + n)))), l3, l4]) (st' := [.inl (some 52)]) (by decide +kernel) (fun k q => by cases q) rfl ?_
    refine y_get (j := 46) (len := 3) (r := (12, 18, 2, 1346)) (by decide +kernel) Q.1 (t52 Q.1) at52 rfl rfl (g_r52 (f := 18) (T2 := 373) Q.1 rfl (by decide)).1 ?_
    refine y_same (i := .iload_n 1) (len := 1) (r := (0, 0, 0, 0)) (pc' := 155) (ls' := [some (.inl (some 52)), some (zi xk), some (.inl (some ((71 + n)))), l3, l4]) (st' := [zi xk, .inl (some 373)]) (by decide +kernel) (fun k q => by cases q) rfl ?_
    refine y_ial (i := n) (len := 1) (r := (0, 0, 0, 0)) (by decide +kernel) Q.1 (tu373 Q.1) at373 (by omega) hs373 ?_
    refine y_bi (c := 8) (len := 2) (r := (0, 0, 0, 0)) (by decide +kernel) (by decide) (fun y3520 hy3520 => ?_)
    rcases Decidable.em (xs.toInt ≥ y3520.toInt) with q3521 | q3521
    ·
      refine y_cT (c := .ge) (off := 30) (pc' := 188) (len := 3) (r := (0, 0, 0, 0)) (by decide +kernel) (acmpT (c := .ge) (by show _ ≤ _; omega)) (by decide +kernel) ?_
      refine y_same (i := .aload_n 0) (len := 1) (r := (0, 0, 0, 0)) (pc' := 189) (ls' := [some (.inl (some 52)), some (zi xk), some (.inl (some ((71 + n)))), l3, l4]) (st' := [.inl (some 52)]) (by decide +kernel) (fun k q => by cases q) rfl ?_
      refine y_get (j := 46) (len := 3) (r := (12, 18, 2, 1346)) (by decide +kernel) Q.1 (t52 Q.1) at52 rfl rfl (g_r52 (f := 18) (T2 := 373) Q.1 rfl (by decide)).1 ?_
      refine y_same (i := .iload_n 1) (len := 1) (r := (0, 0, 0, 0)) (pc' := 193) (ls' := [some (.inl (some 52)), some (zi xk), some (.inl (some ((71 + n)))), l3, l4]) (st' := [zi xk, .inl (some 373)]) (by decide +kernel) (fun k q => by cases q) rfl ?_
      refine y_ial (i := n) (len := 1) (r := (0, 0, 0, 0)) (by decide +kernel) Q.1 (tu373 Q.1) at373 (by omega) hs373 ?_
      refine y_bi (c := 8) (len := 2) (r := (0, 0, 0, 0)) (by decide +kernel) (by decide) (fun y3522 hy3522 => ?_)
      rcases Decidable.em (xs.toInt ≠ y3522.toInt) with q3523 | q3523
      ·
        refine y_cT (c := .ne) (off := 19) (pc' := 215) (len := 3) (r := (0, 0, 0, 0)) (by decide +kernel) (acmpT (c := .ne) (by show ¬ (_ = _); omega)) (by decide +kernel) ?_
        refine y_rV (len := 1) (r := (0, 0, 0, 0)) (nL := 5) (n9 := 2) (hs := []) (by decide +kernel) rfl ?_
        exfalso
        omega
      ·
        refine y_cF (c := .ne) (off := 19) (len := 3) (r := (0, 0, 0, 0)) (by decide +kernel) (acmpF (c := .ne) (by show _ = _; omega)) ?_
        refine y_same (i := .aload_n 0) (len := 1) (r := (0, 0, 0, 0)) (pc' := 200) (ls' := [some (.inl (some 52)), some (zi xk), some (.inl (some ((71 + n)))), l3, l4]) (st' := [.inl (some 52)]) (by decide +kernel) (fun k q => by cases q) rfl ?_
        refine y_same (i := .iload_n 1) (len := 1) (r := (0, 0, 0, 0)) (pc' := 201) (ls' := [some (.inl (some 52)), some (zi xk), some (.inl (some ((71 + n)))), l3, l4]) (st' := [zi xk, .inl (some 52)]) (by decide +kernel) (fun k q => by cases q) rfl ?_
        refine y_cI (i := .invokevirtual 375) (len := 3) (r := (0, 236, 12, 1767)) (nL := 3) (k := 2) (n := 2) (hs := []) (args := [.inl (some 52), zi xk]) (rest := []) (l0 := [some (.inl (some 52)), some (zi xk), none]) (by decide +kernel) (Or.inr (Or.inl ⟨_, rfl⟩)) rfl rfl rfl rfl (Nat.le_of_ble_eq_true rfl) (z52 Q.1) rfl (qI_le (by omega) (m_emp (d := 0) Q hn9 (by omega) hr12)) (fun y3524 h3524 hRy3524 => ?_)
        rcases hRy3524 with ⟨v3524, hg3524, ⟨r, p9, k1, k2, k3, cr⟩, F3524⟩ | ⟨v3524, rfl, ne9⟩
        ·
          refine y_iT (c := .ne) (off := 11) (pc' := 215) (len := 3) (r := (0, 0, 0, 0)) (by decide +kernel) (acmpT (c := .ne) (by show ¬ (_ = _); omega)) (by decide +kernel) ?_
          refine y_rV (len := 1) (r := (0, 0, 0, 0)) (nL := 5) (n9 := 2) (hs := []) (by decide +kernel) rfl ?_
          have hv3525 := (F3524 373 n (by omega)).trans hs373
          obtain rfl : w = 8 := by omega
          exact ⟨hg3524, ⟨8, r, 0, Or.inr (Or.inl ⟨rfl, e1, ⟨p9, k1, k2⟩, k3⟩), ⟨_, hv3525, by omega⟩, fun _ => cr, fun q => absurd q (by omega)⟩, fun k j hC => (F3524 k j (by omega))⟩
        ·
          refine y_iF (c := .ne) (off := 11) (len := 3) (r := (0, 0, 0, 0)) (by decide +kernel) (acmpF (c := .ne) (by show _ = _; omega)) ?_
          refine y_same (i := .aload_n 0) (len := 1) (r := (0, 0, 0, 0)) (pc' := 208) (ls' := [some (.inl (some 52)), some (zi xk), some (.inl (some ((71 + n)))), l3, l4]) (st' := [.inl (some 52)]) (by decide +kernel) (fun k q => by cases q) rfl ?_
          refine y_get (j := 46) (len := 3) (r := (12, 18, 2, 1346)) (by decide +kernel) Q.1 (t52 Q.1) at52 rfl rfl (g_r52 (f := 18) (T2 := 373) Q.1 rfl (by decide)).1 ?_
          refine y_same (i := .iload_n 1) (len := 1) (r := (0, 0, 0, 0)) (pc' := 212) (ls' := [some (.inl (some 52)), some (zi xk), some (.inl (some ((71 + n)))), l3, l4]) (st' := [zi xk, .inl (some 373)]) (by decide +kernel) (fun k q => by cases q) rfl ?_
          refine y_bi (c := 9) (len := 2) (r := (0, 0, 0, 0)) (by decide +kernel) (by decide) (fun y3526 hy3526 => ?_)
          refine y_ias (i := n) (len := 1) (r := (0, 0, 0, 0)) (by decide +kernel) Q.1 (tu373 Q.1) at373 rfl (by omega) (by omega) (sr1 (by omega)) (by omega) (by omega) (fun h3527 hg3527 hl3527 hs3527 ho3527 => ?_)
          have Q3527 := QM_up Q hg3527 (fun j => ho3527 (71 + n) j (by omega))
          refine y_rV (len := 1) (r := (0, 0, 0, 0)) (nL := 5) (n9 := 2) (hs := []) (by decide +kernel) rfl ?_
          obtain rfl : w = 8 := by omega
          exact ⟨hg3527, ⟨9, 0, 0, Or.inr (Or.inr ⟨rfl, e1, ne9⟩), ⟨_, hs3527, by omega⟩, fun q => absurd q (by omega), fun q => absurd q (by omega)⟩, fun k j hC => (ho3527 k j (by omega))⟩
    ·
      refine y_cF (c := .ge) (off := 30) (len := 3) (r := (0, 0, 0, 0)) (by decide +kernel) (acmpF (c := .ge) (by show _ < _; omega)) ?_
      refine y_same (i := .aload_n 0) (len := 1) (r := (0, 0, 0, 0)) (pc' := 162) (ls' := [some (.inl (some 52)), some (zi xk), some (.inl (some ((71 + n)))), l3, l4]) (st' := [.inl (some 52)]) (by decide +kernel) (fun k q => by cases q) rfl ?_
      refine y_same (i := .iload_n 1) (len := 1) (r := (0, 0, 0, 0)) (pc' := 163) (ls' := [some (.inl (some 52)), some (zi xk), some (.inl (some ((71 + n)))), l3, l4]) (st' := [zi xk, .inl (some 52)]) (by decide +kernel) (fun k q => by cases q) rfl ?_
      refine y_same (i := .aload_n 0) (len := 1) (r := (0, 0, 0, 0)) (pc' := 164) (ls' := [some (.inl (some 52)), some (zi xk), some (.inl (some ((71 + n)))), l3, l4]) (st' := [.inl (some 52), zi xk, .inl (some 52)]) (by decide +kernel) (fun k q => by cases q) rfl ?_
      refine y_get (j := 46) (len := 3) (r := (12, 18, 2, 1346)) (by decide +kernel) Q.1 (t52 Q.1) at52 rfl rfl (g_r52 (f := 18) (T2 := 373) Q.1 rfl (by decide)).1 ?_
      refine y_same (i := .iload_n 1) (len := 1) (r := (0, 0, 0, 0)) (pc' := 168) (ls' := [some (.inl (some 52)), some (zi xk), some (.inl (some ((71 + n)))), l3, l4]) (st' := [zi xk, .inl (some 373), zi xk, .inl (some 52)]) (by decide +kernel) (fun k q => by cases q) rfl ?_
      refine y_ial (i := n) (len := 1) (r := (0, 0, 0, 0)) (by decide +kernel) Q.1 (tu373 Q.1) at373 (by omega) hs373 ?_
      refine y_cI (i := .invokevirtual 372) (len := 3) (r := (0, 234, 12, 1760)) (nL := 6) (k := 2) (n := 3) (hs := []) (args := [.inl (some 52), zi xk, zi xs]) (rest := []) (l0 := [some (.inl (some 52)), some (zi xk), some (zi xs), none, none, none]) (by decide +kernel) (Or.inr (Or.inl ⟨_, rfl⟩)) rfl rfl rfl rfl (Nat.le_of_ble_eq_true rfl) (z52 Q.1) rfl (qI_le (by omega) (m_fds (d := 0) (w := w) Q hn9 (by omega) (by omega) ⟨h3, by omega⟩ hr12 hl12)) (fun y3528 h3528 hRy3528 => ?_)
      unfold fdR at hRy3528
      rcases hRy3528 with ⟨v3528, hg3528, ⟨r, l, p9, q9, k1, k2, f1, f2, cr, cl⟩, F3528⟩ | ⟨v3528, rfl, nf⟩
      ·
        refine y_iT (c := .ne) (off := 16) (pc' := 188) (len := 3) (r := (0, 0, 0, 0)) (by decide +kernel) (acmpT (c := .ne) (by show ¬ (_ = _); omega)) (by decide +kernel) ?_
        refine y_same (i := .aload_n 0) (len := 1) (r := (0, 0, 0, 0)) (pc' := 189) (ls' := [some (.inl (some 52)), some (zi xk), some (.inl (some ((71 + n)))), l3, l4]) (st' := [.inl (some 52)]) (by decide +kernel) (fun k q => by cases q) rfl ?_
        refine y_get (j := 46) (len := 3) (r := (12, 18, 2, 1346)) (by decide +kernel) hg3528 (t52 hg3528) at52 rfl rfl (g_r52 (f := 18) (T2 := 373) hg3528 rfl (by decide)).1 ?_
        refine y_same (i := .iload_n 1) (len := 1) (r := (0, 0, 0, 0)) (pc' := 193) (ls' := [some (.inl (some 52)), some (zi xk), some (.inl (some ((71 + n)))), l3, l4]) (st' := [zi xk, .inl (some 373)]) (by decide +kernel) (fun k q => by cases q) rfl ?_
        have hv3529 := (F3528 373 n (by omega)).trans hs373
        refine y_ial (i := n) (len := 1) (r := (0, 0, 0, 0)) (by decide +kernel) hg3528 (tu373 hg3528) at373 (by omega) hv3529 ?_
        refine y_bi (c := 8) (len := 2) (r := (0, 0, 0, 0)) (by decide +kernel) (by decide) (fun y3530 hy3530 => ?_)
        refine y_cT (c := .ne) (off := 19) (pc' := 215) (len := 3) (r := (0, 0, 0, 0)) (by decide +kernel) (acmpT (c := .ne) (by show ¬ (_ = _); omega)) (by decide +kernel) ?_
        refine y_rV (len := 1) (r := (0, 0, 0, 0)) (nL := 5) (n9 := 2) (hs := []) (by decide +kernel) rfl ?_
        exact ⟨hg3528, ⟨w, r, l, Or.inl ⟨h3, by omega, e1, ⟨p9, q9, k1, k2, f1⟩, f2⟩, ⟨_, hv3529, by omega⟩, fun _ => cr, fun _ => cl⟩, fun k j hC => (F3528 k j (by omega))⟩
      ·
        refine y_iF (c := .ne) (off := 16) (len := 3) (r := (0, 0, 0, 0)) (by decide +kernel) (acmpF (c := .ne) (by show _ = _; omega)) ?_
        refine y_same (i := .aload_n 0) (len := 1) (r := (0, 0, 0, 0)) (pc' := 176) (ls' := [some (.inl (some 52)), some (zi xk), some (.inl (some ((71 + n)))), l3, l4]) (st' := [.inl (some 52)]) (by decide +kernel) (fun k q => by cases q) rfl ?_
        refine y_get (j := 46) (len := 3) (r := (12, 18, 2, 1346)) (by decide +kernel) Q.1 (t52 Q.1) at52 rfl rfl (g_r52 (f := 18) (T2 := 373) Q.1 rfl (by decide)).1 ?_
        refine y_same (i := .iload_n 1) (len := 1) (r := (0, 0, 0, 0)) (pc' := 180) (ls' := [some (.inl (some 52)), some (zi xk), some (.inl (some ((71 + n)))), l3, l4]) (st' := [zi xk, .inl (some 373)]) (by decide +kernel) (fun k q => by cases q) rfl ?_
        refine y_same (i := .dup2) (len := 1) (r := (0, 0, 0, 0)) (pc' := 181) (ls' := [some (.inl (some 52)), some (zi xk), some (.inl (some ((71 + n)))), l3, l4]) (st' := [zi xk, .inl (some 373), zi xk, .inl (some 373)]) (by decide +kernel) (fun k q => by cases q) rfl ?_
        refine y_ial (i := n) (len := 1) (r := (0, 0, 0, 0)) (by decide +kernel) Q.1 (tu373 Q.1) at373 (by omega) hs373 ?_
        refine y_ic (c := 1) (len := 1) (r := (0, 0, 0, 0)) (by decide +kernel) (by decide) (fun y3531 hy3531 => ?_)
        refine y_add (len := 1) (r := (0, 0, 0, 0)) (by decide +kernel) (by omega) (by omega) (fun y3532 hy3532 => ?_)
        refine y_ias (i := n) (len := 1) (r := (0, 0, 0, 0)) (by decide +kernel) Q.1 (tu373 Q.1) at373 rfl (by omega) (by omega) (sr1 (by omega)) (by omega) (by omega) (fun h3533 hg3533 hl3533 hs3533 ho3533 => ?_)
        have Q3533 := QM_up Q hg3533 (fun j => ho3533 (71 + n) j (by omega))
        refine y_goto (off := (-35)) (pc' := 150) (len := 3) (r := (0, 0, 0, 0)) (by decide +kernel) (by decide +kernel) ?_
        refine qX_V (ih h3533 (w + 1) Q3533 ⟨_, hs3533, by omega⟩ (by omega) (by omega) (fun v p q g1 g2 m1 m2 => ?_) (by omega)) (fun h1 hR => ⟨hR.1, hR.2.1, fun k j hC => (hR.2.2 k j hC).trans (ho3533 k j (by omega))⟩)
        rcases Nat.lt_or_ge v w with q9 | q9
        · exact e1 v p q g1 q9 m1 m2
        · obtain rfl : v = w := by omega
          exact nf p q m1 m2
theorem m_stp {d t n : Nat} {τ : List Nat} {h : zh} {s : sqT} (Q : QM τ h (71 + n) s) (hn9 : n < 300) {xk : Int32} (hxk : xk.toInt = (n : Int)) (hr12 : s.2.1.length ≤ 12) (hl12 : s.1.length ≤ 12) (cf : ∃ x : Int32, hsl h 371 n = some (zi x)) (co : kx_ h 52 32 1) (cl : kx_ h 376 n (-1)) : qV (d + 6) 233 [some (.inl (some 52)), some (zi xk), none, none, none] h t (fun h1 => (dn_ true s ∧ hG τ h1 ∧ ci_ h1 373 n 2 ∧ ∀ k j, ((k ≠ 373 ∧ k ≠ 374 ∧ k ≠ 375) ∨ j ≠ n) → hsl h1 k j = hsl h k j) ∨ (¬ dn_ true s ∧ stM τ h n s h1)) := by
  obtain ⟨T, c0, tA, aT, hc0, pT⟩ := Q.2.1
  obtain ⟨xf, hf371⟩ := cf
  obtain ⟨xo, ho32, eo⟩ := co
  obtain ⟨xq, hl376, eq⟩ := cl
  refine qV_of ?_
  refine y_same (i := .aload_n 0) (len := 1) (r := (0, 0, 0, 0)) (pc' := 1) (ls' := [some (.inl (some 52)), some (zi xk), none, none, none]) (st' := [.inl (some 52)]) (by decide +kernel) (fun k q => by cases q) rfl ?_
  refine y_get (j := 37) (len := 3) (r := (12, 15, 2, 1343)) (by decide +kernel) Q.1 (t52 Q.1) at52 rfl rfl (g_r52 (f := 15) (T2 := 70) Q.1 rfl (by decide)).1 ?_
  refine y_same (i := .iload_n 1) (len := 1) (r := (0, 0, 0, 0)) (pc' := 5) (ls' := [some (.inl (some 52)), some (zi xk), none, none, none]) (st' := [zi xk, .inl (some 70)]) (by decide +kernel) (fun k q => by cases q) rfl ?_
  refine y_aal (i := n) (len := 1) (r := (0, 0, 0, 0)) (by decide +kernel) Q.1 (tu70 Q.1) at70 rfl (by omega) (Q.1.2.2 n (by omega)) ?_
  refine y_same (i := .astore_n 2) (len := 1) (r := (0, 0, 0, 0)) (pc' := 7) (ls' := [some (.inl (some 52)), some (zi xk), some (.inl (some ((71 + n)))), none, none]) (st' := []) (by decide +kernel) (fun k q => by cases q) rfl ?_
  refine y_ic (c := 0) (len := 1) (r := (0, 0, 0, 0)) (by decide +kernel) (by decide) (fun y3534 hy3534 => ?_)
  refine y_same (i := .istore_n 3) (len := 1) (r := (0, 0, 0, 0)) (pc' := 9) (ls' := [some (.inl (some 52)), some (zi xk), some (.inl (some ((71 + n)))), some (zi y3534), none]) (st' := []) (by decide +kernel) (fun k q => by cases q) rfl ?_
  refine y_same (i := .aload_n 0) (len := 1) (r := (0, 0, 0, 0)) (pc' := 10) (ls' := [some (.inl (some 52)), some (zi xk), some (.inl (some ((71 + n)))), some (zi y3534), none]) (st' := [.inl (some 52)]) (by decide +kernel) (fun k q => by cases q) rfl ?_
  refine y_get (j := 40) (len := 3) (r := (12, 16, 2, 1344)) (by decide +kernel) Q.1 (t52 Q.1) at52 rfl rfl (g_r52 (f := 16) (T2 := 371) Q.1 rfl (by decide)).1 ?_
  refine y_same (i := .iload_n 1) (len := 1) (r := (0, 0, 0, 0)) (pc' := 14) (ls' := [some (.inl (some 52)), some (zi xk), some (.inl (some ((71 + n)))), some (zi y3534), none]) (st' := [zi xk, .inl (some 371)]) (by decide +kernel) (fun k q => by cases q) rfl ?_
  refine y_ial (i := n) (len := 1) (r := (0, 0, 0, 0)) (by decide +kernel) Q.1 (tu371 Q.1) at371 (by omega) hf371 ?_
  refine y_same (i := .istore 4) (len := 2) (r := (0, 0, 0, 0)) (pc' := 17) (ls' := [some (.inl (some 52)), some (zi xk), some (.inl (some ((71 + n)))), some (zi y3534), some (zi xf)]) (st' := []) (by decide +kernel) (fun k q => by cases q) rfl ?_
  refine y_same (i := .iload 4) (len := 2) (r := (0, 0, 0, 0)) (pc' := 19) (ls' := [some (.inl (some 52)), some (zi xk), some (.inl (some ((71 + n)))), some (zi y3534), some (zi xf)]) (st' := [zi xf]) (by decide +kernel) (fun k q => by cases q) rfl ?_
  refine y_ic (c := (-1)) (len := 1) (r := (0, 0, 0, 0)) (by decide +kernel) (by decide) (fun y3535 hy3535 => ?_)
  rcases Decidable.em (xf.toInt = y3535.toInt) with q3536 | q3536
  ·
    refine y_cT (c := .eq) (off := 68) (pc' := 88) (len := 3) (r := (0, 0, 0, 0)) (by decide +kernel) (acmpT (c := .eq) (by show _ = _; omega)) (by decide +kernel) ?_
    refine y_same (i := .aload_n 0) (len := 1) (r := (0, 0, 0, 0)) (pc' := 89) (ls' := [some (.inl (some 52)), some (zi xk), some (.inl (some ((71 + n)))), some (zi y3534), some (zi xf)]) (st' := [.inl (some 52)]) (by decide +kernel) (fun k q => by cases q) rfl ?_
    refine y_get (j := 55) (len := 3) (r := (12, 21, 2, 1349)) (by decide +kernel) Q.1 (t52 Q.1) at52 rfl rfl (g_r52 (f := 21) (T2 := 376) Q.1 rfl (by decide)).1 ?_
    refine y_same (i := .iload_n 1) (len := 1) (r := (0, 0, 0, 0)) (pc' := 93) (ls' := [some (.inl (some 52)), some (zi xk), some (.inl (some ((71 + n)))), some (zi y3534), some (zi xf)]) (st' := [zi xk, .inl (some 376)]) (by decide +kernel) (fun k q => by cases q) rfl ?_
    refine y_ial (i := n) (len := 1) (r := (0, 0, 0, 0)) (by decide +kernel) Q.1 (tu376 Q.1) at376 (by omega) hl376 ?_
    refine y_ic (c := (-1)) (len := 1) (r := (0, 0, 0, 0)) (by decide +kernel) (by decide) (fun y3537 hy3537 => ?_)
    refine y_cT (c := .eq) (off := 13) (pc' := 108) (len := 3) (r := (0, 0, 0, 0)) (by decide +kernel) (acmpT (c := .eq) (by show _ = _; omega)) (by decide +kernel) ?_
    refine y_same (i := .aload_n 2) (len := 1) (r := (0, 0, 0, 0)) (pc' := 109) (ls' := [some (.inl (some 52)), some (zi xk), some (.inl (some ((71 + n)))), some (zi y3534), some (zi xf)]) (st' := [.inl (some ((71 + n)))]) (by decide +kernel) (fun k q => by cases q) rfl ?_
    refine y_ic (c := 1) (len := 1) (r := (0, 0, 0, 0)) (by decide +kernel) (by decide) (fun y3538 hy3538 => ?_)
    obtain ⟨z3539, hz3539, ez3539⟩ := Q.2.2.1.2.1
    have ez3539 : z3539.toInt = ((s.2.1.length : Nat) : Int) := ez3539
    have mz3539 := qm_lenR Q
    have mz3539 : s.2.1.length ≤ 14 := mz3539
    refine y_ial (i := 1) (len := 1) (r := (0, 0, 0, 0)) (by decide +kernel) Q.1 tA aT (by omega) hz3539 ?_
    rcases Decidable.em (z3539.toInt ≠ 0) with q3540 | q3540
    ·
      refine y_iT (c := .ne) (off := 32) (pc' := 143) (len := 3) (r := (0, 0, 0, 0)) (by decide +kernel) (acmpT (c := .ne) (by show ¬ (_ = _); omega)) (by decide +kernel) ?_
      refine y_same (i := .aload_n 0) (len := 1) (r := (0, 0, 0, 0)) (pc' := 144) (ls' := [some (.inl (some 52)), some (zi xk), some (.inl (some ((71 + n)))), some (zi y3534), some (zi xf)]) (st' := [.inl (some 52)]) (by decide +kernel) (fun k q => by cases q) rfl ?_
      refine y_get (j := 46) (len := 3) (r := (12, 18, 2, 1346)) (by decide +kernel) Q.1 (t52 Q.1) at52 rfl rfl (g_r52 (f := 18) (T2 := 373) Q.1 rfl (by decide)).1 ?_
      refine y_same (i := .iload_n 1) (len := 1) (r := (0, 0, 0, 0)) (pc' := 148) (ls' := [some (.inl (some 52)), some (zi xk), some (.inl (some ((71 + n)))), some (zi y3534), some (zi xf)]) (st' := [zi xk, .inl (some 373)]) (by decide +kernel) (fun k q => by cases q) rfl ?_
      refine y_ic (c := 3) (len := 1) (r := (0, 0, 0, 0)) (by decide +kernel) (by decide) (fun y3541 hy3541 => ?_)
      refine y_ias (i := n) (len := 1) (r := (0, 0, 0, 0)) (by decide +kernel) Q.1 (tu373 Q.1) at373 rfl (by omega) (by omega) (sr1 (by omega)) (by omega) (by omega) (fun h3542 hg3542 hl3542 hs3542 ho3542 => ?_)
      have Q3542 := QM_up Q hg3542 (fun j => ho3542 (71 + n) j (by omega))
      refine qX_V (stm_l hn9 hxk hr12 hl12 6 h3542 3 Q3542 ⟨_, hs3542, by omega⟩ (by omega) (by omega) (fun v _ _ g1 g2 => absurd g2 (by omega)) (by omega)) (fun h1 hR => Or.inr ⟨fun q9 => by obtain ⟨z1, z2, -⟩ := q9; have z1 := List.length_eq_zero_iff.mpr z1; have z2 := List.length_eq_zero_iff.mpr z2; omega, hR.1, hR.2.1, fun k j hC => (hR.2.2 k j hC).trans ((ho3542 k j (by omega)))⟩)
    ·
      refine y_iF (c := .ne) (off := 32) (len := 3) (r := (0, 0, 0, 0)) (by decide +kernel) (acmpF (c := .ne) (by show _ = _; omega)) ?_
      refine y_same (i := .aload_n 2) (len := 1) (r := (0, 0, 0, 0)) (pc' := 115) (ls' := [some (.inl (some 52)), some (zi xk), some (.inl (some ((71 + n)))), some (zi y3534), some (zi xf)]) (st' := [.inl (some ((71 + n)))]) (by decide +kernel) (fun k q => by cases q) rfl ?_
      refine y_ic (c := 2) (len := 1) (r := (0, 0, 0, 0)) (by decide +kernel) (by decide) (fun y3543 hy3543 => ?_)
      obtain ⟨z3544, hz3544, ez3544⟩ := Q.2.2.1.2.2.1
      have ez3544 : z3544.toInt = ((s.2.2.1.length : Nat) : Int) := ez3544
      have mz3544 := qm_lenC Q
      have mz3544 : s.2.2.1.length ≤ 14 := mz3544
      refine y_ial (i := 2) (len := 1) (r := (0, 0, 0, 0)) (by decide +kernel) Q.1 tA aT (by omega) hz3544 ?_
      rcases Decidable.em (z3544.toInt ≠ 0) with q3545 | q3545
      ·
        refine y_iT (c := .ne) (off := 26) (pc' := 143) (len := 3) (r := (0, 0, 0, 0)) (by decide +kernel) (acmpT (c := .ne) (by show ¬ (_ = _); omega)) (by decide +kernel) ?_
        refine y_same (i := .aload_n 0) (len := 1) (r := (0, 0, 0, 0)) (pc' := 144) (ls' := [some (.inl (some 52)), some (zi xk), some (.inl (some ((71 + n)))), some (zi y3534), some (zi xf)]) (st' := [.inl (some 52)]) (by decide +kernel) (fun k q => by cases q) rfl ?_
        refine y_get (j := 46) (len := 3) (r := (12, 18, 2, 1346)) (by decide +kernel) Q.1 (t52 Q.1) at52 rfl rfl (g_r52 (f := 18) (T2 := 373) Q.1 rfl (by decide)).1 ?_
        refine y_same (i := .iload_n 1) (len := 1) (r := (0, 0, 0, 0)) (pc' := 148) (ls' := [some (.inl (some 52)), some (zi xk), some (.inl (some ((71 + n)))), some (zi y3534), some (zi xf)]) (st' := [zi xk, .inl (some 373)]) (by decide +kernel) (fun k q => by cases q) rfl ?_
        refine y_ic (c := 3) (len := 1) (r := (0, 0, 0, 0)) (by decide +kernel) (by decide) (fun y3546 hy3546 => ?_)
        refine y_ias (i := n) (len := 1) (r := (0, 0, 0, 0)) (by decide +kernel) Q.1 (tu373 Q.1) at373 rfl (by omega) (by omega) (sr1 (by omega)) (by omega) (by omega) (fun h3547 hg3547 hl3547 hs3547 ho3547 => ?_)
        have Q3547 := QM_up Q hg3547 (fun j => ho3547 (71 + n) j (by omega))
        refine qX_V (stm_l hn9 hxk hr12 hl12 6 h3547 3 Q3547 ⟨_, hs3547, by omega⟩ (by omega) (by omega) (fun v _ _ g1 g2 => absurd g2 (by omega)) (by omega)) (fun h1 hR => Or.inr ⟨fun q9 => by obtain ⟨z1, z2, -⟩ := q9; have z1 := List.length_eq_zero_iff.mpr z1; have z2 := List.length_eq_zero_iff.mpr z2; omega, hR.1, hR.2.1, fun k j hC => (hR.2.2 k j hC).trans ((ho3547 k j (by omega)))⟩)
      ·
        refine y_iF (c := .ne) (off := 26) (len := 3) (r := (0, 0, 0, 0)) (by decide +kernel) (acmpF (c := .ne) (by show _ = _; omega)) ?_
        refine y_same (i := .aload_n 0) (len := 1) (r := (0, 0, 0, 0)) (pc' := 121) (ls' := [some (.inl (some 52)), some (zi xk), some (.inl (some ((71 + n)))), some (zi y3534), some (zi xf)]) (st' := [.inl (some 52)]) (by decide +kernel) (fun k q => by cases q) rfl ?_
        refine y_get (j := 363) (len := 3) (r := (12, 32, 1, 1360)) (by decide +kernel) Q.1 (t52 Q.1) at52 rfl rfl ho32 ?_
        refine y_iT (c := .ne) (off := 9) (pc' := 133) (len := 3) (r := (0, 0, 0, 0)) (by decide +kernel) (acmpT (c := .ne) (by show ¬ (_ = _); omega)) (by decide +kernel) ?_
        refine y_same (i := .aload_n 0) (len := 1) (r := (0, 0, 0, 0)) (pc' := 134) (ls' := [some (.inl (some 52)), some (zi xk), some (.inl (some ((71 + n)))), some (zi y3534), some (zi xf)]) (st' := [.inl (some 52)]) (by decide +kernel) (fun k q => by cases q) rfl ?_
        refine y_get (j := 46) (len := 3) (r := (12, 18, 2, 1346)) (by decide +kernel) Q.1 (t52 Q.1) at52 rfl rfl (g_r52 (f := 18) (T2 := 373) Q.1 rfl (by decide)).1 ?_
        refine y_same (i := .iload_n 1) (len := 1) (r := (0, 0, 0, 0)) (pc' := 138) (ls' := [some (.inl (some 52)), some (zi xk), some (.inl (some ((71 + n)))), some (zi y3534), some (zi xf)]) (st' := [zi xk, .inl (some 373)]) (by decide +kernel) (fun k q => by cases q) rfl ?_
        refine y_ic (c := 2) (len := 1) (r := (0, 0, 0, 0)) (by decide +kernel) (by decide) (fun y3548 hy3548 => ?_)
        refine y_ias (i := n) (len := 1) (r := (0, 0, 0, 0)) (by decide +kernel) Q.1 (tu373 Q.1) at373 rfl (by omega) (by omega) (sr1 (by omega)) (by omega) (by omega) (fun h3549 hg3549 hl3549 hs3549 ho3549 => ?_)
        have Q3549 := QM_up Q hg3549 (fun j => ho3549 (71 + n) j (by omega))
        refine y_goto (off := 75) (pc' := 215) (len := 3) (r := (0, 0, 0, 0)) (by decide +kernel) (by decide +kernel) ?_
        refine y_rV (len := 1) (r := (0, 0, 0, 0)) (nL := 5) (n9 := 2) (hs := []) (by decide +kernel) rfl ?_
        exact Or.inl ⟨⟨List.length_eq_zero_iff.mp (by omega), List.length_eq_zero_iff.mp (by omega), Or.inl rfl⟩, hg3549, ⟨_, hs3549, by omega⟩, fun k j hC => (ho3549 k j (by omega))⟩
  ·
    refine y_cF (c := .eq) (off := 68) (len := 3) (r := (0, 0, 0, 0)) (by decide +kernel) (acmpF (c := .eq) (by show ¬ (_ = _); omega)) ?_
    refine y_same (i := .aload_n 0) (len := 1) (r := (0, 0, 0, 0)) (pc' := 24) (ls' := [some (.inl (some 52)), some (zi xk), some (.inl (some ((71 + n)))), some (zi y3534), some (zi xf)]) (st' := [.inl (some 52)]) (by decide +kernel) (fun k q => by cases q) rfl ?_
    refine y_get (j := 363) (len := 3) (r := (12, 32, 1, 1360)) (by decide +kernel) Q.1 (t52 Q.1) at52 rfl rfl ho32 ?_
    refine y_iT (c := .ne) (off := 61) (pc' := 88) (len := 3) (r := (0, 0, 0, 0)) (by decide +kernel) (acmpT (c := .ne) (by show ¬ (_ = _); omega)) (by decide +kernel) ?_
    refine y_same (i := .aload_n 0) (len := 1) (r := (0, 0, 0, 0)) (pc' := 89) (ls' := [some (.inl (some 52)), some (zi xk), some (.inl (some ((71 + n)))), some (zi y3534), some (zi xf)]) (st' := [.inl (some 52)]) (by decide +kernel) (fun k q => by cases q) rfl ?_
    refine y_get (j := 55) (len := 3) (r := (12, 21, 2, 1349)) (by decide +kernel) Q.1 (t52 Q.1) at52 rfl rfl (g_r52 (f := 21) (T2 := 376) Q.1 rfl (by decide)).1 ?_
    refine y_same (i := .iload_n 1) (len := 1) (r := (0, 0, 0, 0)) (pc' := 93) (ls' := [some (.inl (some 52)), some (zi xk), some (.inl (some ((71 + n)))), some (zi y3534), some (zi xf)]) (st' := [zi xk, .inl (some 376)]) (by decide +kernel) (fun k q => by cases q) rfl ?_
    refine y_ial (i := n) (len := 1) (r := (0, 0, 0, 0)) (by decide +kernel) Q.1 (tu376 Q.1) at376 (by omega) hl376 ?_
    refine y_ic (c := (-1)) (len := 1) (r := (0, 0, 0, 0)) (by decide +kernel) (by decide) (fun y3550 hy3550 => ?_)
    refine y_cT (c := .eq) (off := 13) (pc' := 108) (len := 3) (r := (0, 0, 0, 0)) (by decide +kernel) (acmpT (c := .eq) (by show _ = _; omega)) (by decide +kernel) ?_
    refine y_same (i := .aload_n 2) (len := 1) (r := (0, 0, 0, 0)) (pc' := 109) (ls' := [some (.inl (some 52)), some (zi xk), some (.inl (some ((71 + n)))), some (zi y3534), some (zi xf)]) (st' := [.inl (some ((71 + n)))]) (by decide +kernel) (fun k q => by cases q) rfl ?_
    refine y_ic (c := 1) (len := 1) (r := (0, 0, 0, 0)) (by decide +kernel) (by decide) (fun y3551 hy3551 => ?_)
    obtain ⟨z3552, hz3552, ez3552⟩ := Q.2.2.1.2.1
    have ez3552 : z3552.toInt = ((s.2.1.length : Nat) : Int) := ez3552
    have mz3552 := qm_lenR Q
    have mz3552 : s.2.1.length ≤ 14 := mz3552
    refine y_ial (i := 1) (len := 1) (r := (0, 0, 0, 0)) (by decide +kernel) Q.1 tA aT (by omega) hz3552 ?_
    rcases Decidable.em (z3552.toInt ≠ 0) with q3553 | q3553
    ·
      refine y_iT (c := .ne) (off := 32) (pc' := 143) (len := 3) (r := (0, 0, 0, 0)) (by decide +kernel) (acmpT (c := .ne) (by show ¬ (_ = _); omega)) (by decide +kernel) ?_
      refine y_same (i := .aload_n 0) (len := 1) (r := (0, 0, 0, 0)) (pc' := 144) (ls' := [some (.inl (some 52)), some (zi xk), some (.inl (some ((71 + n)))), some (zi y3534), some (zi xf)]) (st' := [.inl (some 52)]) (by decide +kernel) (fun k q => by cases q) rfl ?_
      refine y_get (j := 46) (len := 3) (r := (12, 18, 2, 1346)) (by decide +kernel) Q.1 (t52 Q.1) at52 rfl rfl (g_r52 (f := 18) (T2 := 373) Q.1 rfl (by decide)).1 ?_
      refine y_same (i := .iload_n 1) (len := 1) (r := (0, 0, 0, 0)) (pc' := 148) (ls' := [some (.inl (some 52)), some (zi xk), some (.inl (some ((71 + n)))), some (zi y3534), some (zi xf)]) (st' := [zi xk, .inl (some 373)]) (by decide +kernel) (fun k q => by cases q) rfl ?_
      refine y_ic (c := 3) (len := 1) (r := (0, 0, 0, 0)) (by decide +kernel) (by decide) (fun y3554 hy3554 => ?_)
      refine y_ias (i := n) (len := 1) (r := (0, 0, 0, 0)) (by decide +kernel) Q.1 (tu373 Q.1) at373 rfl (by omega) (by omega) (sr1 (by omega)) (by omega) (by omega) (fun h3555 hg3555 hl3555 hs3555 ho3555 => ?_)
      have Q3555 := QM_up Q hg3555 (fun j => ho3555 (71 + n) j (by omega))
      refine qX_V (stm_l hn9 hxk hr12 hl12 6 h3555 3 Q3555 ⟨_, hs3555, by omega⟩ (by omega) (by omega) (fun v _ _ g1 g2 => absurd g2 (by omega)) (by omega)) (fun h1 hR => Or.inr ⟨fun q9 => by obtain ⟨z1, z2, -⟩ := q9; have z1 := List.length_eq_zero_iff.mpr z1; have z2 := List.length_eq_zero_iff.mpr z2; omega, hR.1, hR.2.1, fun k j hC => (hR.2.2 k j hC).trans ((ho3555 k j (by omega)))⟩)
    ·
      refine y_iF (c := .ne) (off := 32) (len := 3) (r := (0, 0, 0, 0)) (by decide +kernel) (acmpF (c := .ne) (by show _ = _; omega)) ?_
      refine y_same (i := .aload_n 2) (len := 1) (r := (0, 0, 0, 0)) (pc' := 115) (ls' := [some (.inl (some 52)), some (zi xk), some (.inl (some ((71 + n)))), some (zi y3534), some (zi xf)]) (st' := [.inl (some ((71 + n)))]) (by decide +kernel) (fun k q => by cases q) rfl ?_
      refine y_ic (c := 2) (len := 1) (r := (0, 0, 0, 0)) (by decide +kernel) (by decide) (fun y3556 hy3556 => ?_)
      obtain ⟨z3557, hz3557, ez3557⟩ := Q.2.2.1.2.2.1
      have ez3557 : z3557.toInt = ((s.2.2.1.length : Nat) : Int) := ez3557
      have mz3557 := qm_lenC Q
      have mz3557 : s.2.2.1.length ≤ 14 := mz3557
      refine y_ial (i := 2) (len := 1) (r := (0, 0, 0, 0)) (by decide +kernel) Q.1 tA aT (by omega) hz3557 ?_
      rcases Decidable.em (z3557.toInt ≠ 0) with q3558 | q3558
      ·
        refine y_iT (c := .ne) (off := 26) (pc' := 143) (len := 3) (r := (0, 0, 0, 0)) (by decide +kernel) (acmpT (c := .ne) (by show ¬ (_ = _); omega)) (by decide +kernel) ?_
        refine y_same (i := .aload_n 0) (len := 1) (r := (0, 0, 0, 0)) (pc' := 144) (ls' := [some (.inl (some 52)), some (zi xk), some (.inl (some ((71 + n)))), some (zi y3534), some (zi xf)]) (st' := [.inl (some 52)]) (by decide +kernel) (fun k q => by cases q) rfl ?_
        refine y_get (j := 46) (len := 3) (r := (12, 18, 2, 1346)) (by decide +kernel) Q.1 (t52 Q.1) at52 rfl rfl (g_r52 (f := 18) (T2 := 373) Q.1 rfl (by decide)).1 ?_
        refine y_same (i := .iload_n 1) (len := 1) (r := (0, 0, 0, 0)) (pc' := 148) (ls' := [some (.inl (some 52)), some (zi xk), some (.inl (some ((71 + n)))), some (zi y3534), some (zi xf)]) (st' := [zi xk, .inl (some 373)]) (by decide +kernel) (fun k q => by cases q) rfl ?_
        refine y_ic (c := 3) (len := 1) (r := (0, 0, 0, 0)) (by decide +kernel) (by decide) (fun y3559 hy3559 => ?_)
        refine y_ias (i := n) (len := 1) (r := (0, 0, 0, 0)) (by decide +kernel) Q.1 (tu373 Q.1) at373 rfl (by omega) (by omega) (sr1 (by omega)) (by omega) (by omega) (fun h3560 hg3560 hl3560 hs3560 ho3560 => ?_)
        have Q3560 := QM_up Q hg3560 (fun j => ho3560 (71 + n) j (by omega))
        refine qX_V (stm_l hn9 hxk hr12 hl12 6 h3560 3 Q3560 ⟨_, hs3560, by omega⟩ (by omega) (by omega) (fun v _ _ g1 g2 => absurd g2 (by omega)) (by omega)) (fun h1 hR => Or.inr ⟨fun q9 => by obtain ⟨z1, z2, -⟩ := q9; have z1 := List.length_eq_zero_iff.mpr z1; have z2 := List.length_eq_zero_iff.mpr z2; omega, hR.1, hR.2.1, fun k j hC => (hR.2.2 k j hC).trans ((ho3560 k j (by omega)))⟩)
      ·
        refine y_iF (c := .ne) (off := 26) (len := 3) (r := (0, 0, 0, 0)) (by decide +kernel) (acmpF (c := .ne) (by show _ = _; omega)) ?_
        refine y_same (i := .aload_n 0) (len := 1) (r := (0, 0, 0, 0)) (pc' := 121) (ls' := [some (.inl (some 52)), some (zi xk), some (.inl (some ((71 + n)))), some (zi y3534), some (zi xf)]) (st' := [.inl (some 52)]) (by decide +kernel) (fun k q => by cases q) rfl ?_
        refine y_get (j := 363) (len := 3) (r := (12, 32, 1, 1360)) (by decide +kernel) Q.1 (t52 Q.1) at52 rfl rfl ho32 ?_
        refine y_iT (c := .ne) (off := 9) (pc' := 133) (len := 3) (r := (0, 0, 0, 0)) (by decide +kernel) (acmpT (c := .ne) (by show ¬ (_ = _); omega)) (by decide +kernel) ?_
        refine y_same (i := .aload_n 0) (len := 1) (r := (0, 0, 0, 0)) (pc' := 134) (ls' := [some (.inl (some 52)), some (zi xk), some (.inl (some ((71 + n)))), some (zi y3534), some (zi xf)]) (st' := [.inl (some 52)]) (by decide +kernel) (fun k q => by cases q) rfl ?_
        refine y_get (j := 46) (len := 3) (r := (12, 18, 2, 1346)) (by decide +kernel) Q.1 (t52 Q.1) at52 rfl rfl (g_r52 (f := 18) (T2 := 373) Q.1 rfl (by decide)).1 ?_
        refine y_same (i := .iload_n 1) (len := 1) (r := (0, 0, 0, 0)) (pc' := 138) (ls' := [some (.inl (some 52)), some (zi xk), some (.inl (some ((71 + n)))), some (zi y3534), some (zi xf)]) (st' := [zi xk, .inl (some 373)]) (by decide +kernel) (fun k q => by cases q) rfl ?_
        refine y_ic (c := 2) (len := 1) (r := (0, 0, 0, 0)) (by decide +kernel) (by decide) (fun y3561 hy3561 => ?_)
        refine y_ias (i := n) (len := 1) (r := (0, 0, 0, 0)) (by decide +kernel) Q.1 (tu373 Q.1) at373 rfl (by omega) (by omega) (sr1 (by omega)) (by omega) (by omega) (fun h3562 hg3562 hl3562 hs3562 ho3562 => ?_)
        have Q3562 := QM_up Q hg3562 (fun j => ho3562 (71 + n) j (by omega))
        refine y_goto (off := 75) (pc' := 215) (len := 3) (r := (0, 0, 0, 0)) (by decide +kernel) (by decide +kernel) ?_
        refine y_rV (len := 1) (r := (0, 0, 0, 0)) (nL := 5) (n9 := 2) (hs := []) (by decide +kernel) rfl ?_
        exact Or.inl ⟨⟨List.length_eq_zero_iff.mp (by omega), List.length_eq_zero_iff.mp (by omega), Or.inl rfl⟩, hg3562, ⟨_, hs3562, by omega⟩, fun k j hC => (ho3562 k j (by omega))⟩
