/-! the reference's overPart, exactly -/
theorem opE_ref {R : List enT × Nat} (h3 : R.2 ≤ 2) {i : Int} : (∃ (j : Nat) (e : enT), 0 ≤ i ∧ i ≤ ovF R - 1 ∧ (dix R.1 0)[i.toNat]? = some j ∧ j < R.1.length ∧ i < (R.1.length : Int) ∧ R.1[j]? = some e ∧ e.2.1 = 2 ∧ opE R i = some e) ∨ (¬ (0 ≤ i ∧ i ≤ ovF R - 1) ∧ opE R i = none) := by
  by_cases q1 : R.2 = 1
  · have ho : ovF R = (dns R.1 : Int) := by
      unfold ovF
      rw [if_neg (by omega), if_neg (by omega)]
    have hl : (dix R.1 0).length = dns R.1 := dix_len
    have hd : dns R.1 ≤ R.1.length := dns_le
    by_cases q : 0 ≤ i ∧ i ≤ ovF R - 1
    · obtain ⟨j, hj⟩ : ∃ j, (dix R.1 0)[i.toNat]? = some j := ⟨_, List.getElem?_eq_getElem (by omega)⟩
      obtain ⟨p, e, a, b, c⟩ := dix_at _ _ _ _ hj
      have e9 : p = j := by omega
      subst e9
      refine Or.inl ⟨p, e, q.1, q.2, hj, (List.getElem?_eq_some_iff.mp b).1, by omega, b, c, ?_⟩
      unfold opE
      rw [if_pos ⟨q1, q.1⟩, hj]
      exact b
    · refine Or.inr ⟨q, ?_⟩
      unfold opE
      by_cases q2 : 0 ≤ i
      · rw [if_pos ⟨q1, q2⟩, List.getElem?_eq_none (by omega)]
      · rw [if_neg (fun q9 => q2 q9.2)]
  · refine Or.inr ⟨?_, opE_ne q1⟩
    unfold ovF
    split
    · omega
    · split
      · omega
      · omega
theorem run_len {cy : cyT} {lv : Bool} : ∀ (f : Nat) (L : List enT) (T : List (Nat × Bool)), (runF cy lv f L T).2 ≤ 2 ∨ (runF cy lv f L T).1.length = L.length + f
  | 0, L, T => Or.inr rfl
  | f + 1, L, [] => Or.inl (by show 1 ≤ 2; omega)
  | f + 1, L, (i, w) :: T => by
    have key : ∀ o : Option enT, (match o with
      | none => (L, 2)
      | some e => if e.2.1 = 9 then (L ++ [e], 0) else runF cy lv f (L ++ [e]) (toF e L.length T)).2 ≤ 2 ∨ (match o with
      | none => (L, 2)
      | some e => if e.2.1 = 9 then (L ++ [e], 0) else runF cy lv f (L ++ [e]) (toF e L.length T)).1.length = L.length + (f + 1) := by
      intro o
      cases o with
      | none => exact Or.inl (Nat.le_refl 2)
      | some e =>
        by_cases q : e.2.1 = 9
        · refine Or.inl ?_
          show (if e.2.1 = 9 then (L ++ [e], 0) else runF cy lv f (L ++ [e]) (toF e L.length T)).2 ≤ 2
          rw [if_pos q]
          exact Nat.zero_le _
        · show (if e.2.1 = 9 then (L ++ [e], 0) else runF cy lv f (L ++ [e]) (toF e L.length T)).2 ≤ 2 ∨ (if e.2.1 = 9 then (L ++ [e], 0) else runF cy lv f (L ++ [e]) (toF e L.length T)).1.length = L.length + (f + 1)
          rw [if_neg q]
          rcases run_len f (L ++ [e]) (toF e L.length T) with a | a
          · exact Or.inl a
          · refine Or.inr ?_
            rw [a, List.length_append]
            show L.length + 1 + f = _
            omega
    exact key (brF cy lv L i w)
theorem prf_le2 {cy : cyT} {lv : Bool} {b : bsT} (h : (prfF cy lv b).1.length ≤ 300) : (prfF cy lv b).2 ≤ 2 := by
  unfold prfF conF at h ⊢
  by_cases q : (setF cy lv [] (bgA b) (-1) 1).2.1 = 9
  · rw [if_pos q]
    exact Nat.zero_le _
  · rw [if_neg q] at h ⊢
    rcases run_len (cy := cy) (lv := lv) 300 ([] ++ [setF cy lv [] (bgA b) (-1) 1]) (toF (setF cy lv [] (bgA b) (-1) 1) ([] : List enT).length []) with a | a
    · exact a
    · rw [a] at h
      have h8 : ([] ++ [setF cy lv [] (bgA b) (-1) 1] : List enT).length = 1 := rfl
      omega
theorem mq_11 {t : Nat} {τ : List Nat} {h : zh} {R : List enT × Nat} {xi xk xw y z : Int32} (hg : hG τ h) (hz : hsl h 52 0 = some (zi z)) (ez : z.toInt = 0) (ey : y.toInt = ovF R) (y1 : -3 ≤ y.toInt) (y2 : y.toInt ≤ 300) (en : enM1 h R) (h3 : R.2 ≤ 2) : qX 14 245 11 [some (.inl (some 52)), some (zi xi), some (zi xk), some (zi xw), some (zi y), none] [] h t (rI (fun v h1 => (∃ z : Int32, hsl h1 52 0 = some (zi z) ∧ z.toInt = (opA R xi.toInt xk.toInt xw.toInt).1) ∧ ((opA R xi.toInt xk.toInt xw.toInt).1 = 0 → v.toInt = (opA R xi.toInt xk.toInt xw.toInt).2) ∧ kJY h h1) t) := by
  have hl3 := en.2.2.1
  refine y_same (i := .aload_n 0) (len := 1) (r := (0, 0, 0, 0)) (pc' := 12) (ls' := [some (.inl (some 52)), some (zi xi), some (zi xk), some (zi xw), some (zi y), none]) (st' := [.inl (some 52)]) (by decide +kernel) (fun k q => by cases q) rfl ?_
  refine y_same (i := .iload_n 1) (len := 1) (r := (0, 0, 0, 0)) (pc' := 13) (ls' := [some (.inl (some 52)), some (zi xi), some (zi xk), some (zi xw), some (zi y), none]) (st' := [zi xi, .inl (some 52)]) (by decide +kernel) (fun k q => by cases q) rfl ?_
  refine y_ic (c := 0) (len := 1) (r := (0, 0, 0, 0)) (by decide +kernel) (by decide) (fun y2702 hy2702 => ?_)
  refine y_same (i := .iload 4) (len := 2) (r := (0, 0, 0, 0)) (pc' := 16) (ls' := [some (.inl (some 52)), some (zi xi), some (zi xk), some (zi xw), some (zi y), none]) (st' := [zi y, zi y2702, zi xi, .inl (some 52)]) (by decide +kernel) (fun k q => by cases q) rfl ?_
  refine y_ic (c := 1) (len := 1) (r := (0, 0, 0, 0)) (by decide +kernel) (by decide) (fun y2703 hy2703 => ?_)
  refine y_sub (len := 1) (r := (0, 0, 0, 0)) (by decide +kernel) (by omega) (by omega) (fun y2704 hy2704 => ?_)
  rcases opE_ref (R := R) h3 (i := xi.toInt) with ⟨j, e, n0, n1, n2, n3, n6, n4, n7, n5⟩ | ⟨n1, n5⟩
  ·
    refine y_cI (i := .invokestatic 200) (len := 3) (r := (1, 162, 12, 1486)) (nL := 3) (k := 2) (n := 3) (hs := []) (args := [zi xi, zi y2702, zi y2704]) (rest := [.inl (some 52)]) (l0 := [some (zi xi), some (zi y2702), some (zi y2704)]) (by decide +kernel) (Or.inl ⟨_, rfl⟩) rfl rfl rfl rfl (Nat.le_of_ble_eq_true rfl) rfl rfl (qI_le (by decide) (m_in (d := 0) (by omega) (by omega))) (fun y2705 qy2705 hRy2705 => ?_)
    obtain ⟨rfl, hy2705⟩ := hRy2705
    obtain ⟨i, hi⟩ : ∃ i : Nat, xi.toInt = (i : Int) := ⟨xi.toInt.toNat, by omega⟩
    have hi9 : xi.toInt.toNat = i := by omega
    rw [hi9] at n2
    obtain ⟨xd, hd9, ed9⟩ := en.2.2.2.1 i j n2
    refine y_iT (c := .ne) (off := 7) (pc' := 28) (len := 3) (r := (0, 0, 0, 0)) (by decide +kernel) (acmpT (c := .ne) (by show ¬ (_ = _); omega)) (by decide +kernel) ?_
    refine y_ic (c := 0) (len := 1) (r := (0, 0, 0, 0)) (by decide +kernel) (by decide) (fun y2706 hy2706 => ?_)
    refine y_ic (c := 1) (len := 1) (r := (0, 0, 0, 0)) (by decide +kernel) (by decide) (fun y2707 hy2707 => ?_)
    refine y_ic (c := 0) (len := 1) (r := (0, 0, 0, 0)) (by decide +kernel) (by decide) (fun y2708 hy2708 => ?_)
    refine y_cI (i := .invokevirtual 204) (len := 3) (r := (0, 161, 12, 1489)) (nL := 4) (k := 2) (n := 4) (hs := []) (args := [.inl (some 52), zi y2706, zi y2707, zi y2708]) (rest := []) (l0 := [some (.inl (some 52)), some (zi y2706), some (zi y2707), some (zi y2708)]) (by decide +kernel) (Or.inr (Or.inl ⟨_, rfl⟩)) rfl rfl rfl rfl (Nat.le_of_ble_eq_true rfl) (z52 hg) rfl (qI_le (by decide) (m_bad (d := 0) hg (by omega) hz (by omega))) (fun y2709 qy2709 hRy2709 => ?_)
    obtain ⟨rfl, hy2709⟩ := hRy2709
    refine y_iT (c := .eq) (off := 5) (pc' := 39) (len := 3) (r := (0, 0, 0, 0)) (by decide +kernel) (acmpT (c := .eq) (by show _ = _; omega)) (by decide +kernel) ?_
    refine y_same (i := .aload_n 0) (len := 1) (r := (0, 0, 0, 0)) (pc' := 40) (ls' := [some (.inl (some 52)), some (zi xi), some (zi xk), some (zi xw), some (zi y), none]) (st' := [.inl (some 52)]) (by decide +kernel) (fun k q => by cases q) rfl ?_
    refine y_get (j := 37) (len := 3) (r := (12, 15, 2, 1343)) (by decide +kernel) hg (t52 hg) at52 rfl rfl (g_r52 (f := 15) (T2 := 70) hg rfl (by decide)).1 ?_
    refine y_same (i := .aload_n 0) (len := 1) (r := (0, 0, 0, 0)) (pc' := 44) (ls' := [some (.inl (some 52)), some (zi xi), some (zi xk), some (zi xw), some (zi y), none]) (st' := [.inl (some 52), .inl (some 70)]) (by decide +kernel) (fun k q => by cases q) rfl ?_
    refine y_get (j := 58) (len := 3) (r := (12, 22, 2, 1350)) (by decide +kernel) hg (t52 hg) at52 rfl rfl (g_r52 (f := 22) (T2 := 377) hg rfl (by decide)).1 ?_
    refine y_same (i := .iload_n 1) (len := 1) (r := (0, 0, 0, 0)) (pc' := 48) (ls' := [some (.inl (some 52)), some (zi xi), some (zi xk), some (zi xw), some (zi y), none]) (st' := [zi xi, .inl (some 377), .inl (some 70)]) (by decide +kernel) (fun k q => by cases q) rfl ?_
    refine y_ial (i := i) (len := 1) (r := (0, 0, 0, 0)) (by decide +kernel) hg (tu377 hg) at377 (by omega) hd9 ?_
    refine y_aal (i := j) (len := 1) (r := (0, 0, 0, 0)) (by decide +kernel) hg (tu70 hg) at70 rfl (by omega) (hg.2.2 j (by omega)) ?_
    have Q9 : QM τ h (71 + j) e.1 := ⟨hg, rwT_r hg (by omega), (en.2.2.2.2 j e n4 (by omega)).1, (en.2.2.2.2 j e n4 (by omega)).2⟩
    refine y_same (i := .astore 5) (len := 2) (r := (0, 0, 0, 0)) (pc' := 52) (ls' := [some (.inl (some 52)), some (zi xi), some (zi xk), some (zi xw), some (zi y), some (.inl (some ((71 + j))))]) (st' := []) (by decide +kernel) (fun k q => by cases q) rfl ?_
    refine y_same (i := .iload_n 2) (len := 1) (r := (0, 0, 0, 0)) (pc' := 53) (ls' := [some (.inl (some 52)), some (zi xi), some (zi xk), some (zi xw), some (zi y), some (.inl (some ((71 + j))))]) (st' := [zi xk]) (by decide +kernel) (fun k q => by cases q) rfl ?_
    refine y_ic (c := (-1)) (len := 1) (r := (0, 0, 0, 0)) (by decide +kernel) (by decide) (fun y2710 hy2710 => ?_)
    rcases Decidable.em (xk.toInt ≠ y2710.toInt) with q2711 | q2711
    ·
      refine y_cT (c := .ne) (off := 8) (pc' := 62) (len := 3) (r := (0, 0, 0, 0)) (by decide +kernel) (acmpT (c := .ne) (by show ¬ (_ = _); omega)) (by decide +kernel) ?_
      refine y_same (i := .aload_n 0) (len := 1) (r := (0, 0, 0, 0)) (pc' := 63) (ls' := [some (.inl (some 52)), some (zi xi), some (zi xk), some (zi xw), some (zi y), some (.inl (some ((71 + j))))]) (st' := [.inl (some 52)]) (by decide +kernel) (fun k q => by cases q) rfl ?_
      refine y_same (i := .iload_n 2) (len := 1) (r := (0, 0, 0, 0)) (pc' := 64) (ls' := [some (.inl (some 52)), some (zi xi), some (zi xk), some (zi xw), some (zi y), some (.inl (some ((71 + j))))]) (st' := [zi xk, .inl (some 52)]) (by decide +kernel) (fun k q => by cases q) rfl ?_
      refine y_ic (c := 0) (len := 1) (r := (0, 0, 0, 0)) (by decide +kernel) (by decide) (fun y2712 hy2712 => ?_)
      refine y_same (i := .aload 5) (len := 2) (r := (0, 0, 0, 0)) (pc' := 67) (ls' := [some (.inl (some 52)), some (zi xi), some (zi xk), some (zi xw), some (zi y), some (.inl (some ((71 + j))))]) (st' := [.inl (some ((71 + j))), zi y2712, zi xk, .inl (some 52)]) (by decide +kernel) (fun k q => by cases q) rfl ?_
      refine y_ic (c := 0) (len := 1) (r := (0, 0, 0, 0)) (by decide +kernel) (by decide) (fun y2713 hy2713 => ?_)
      obtain ⟨z2714, hz2714, ez2714⟩ := Q9.2.2.1.1
      have ez2714 : z2714.toInt = ((e.1.1.length : Nat) : Int) := ez2714
      have mz2714 := qm_lenL Q9
      have mz2714 : e.1.1.length ≤ 14 := mz2714
      refine y_ial (i := 0) (len := 1) (r := (0, 0, 0, 0)) (by decide +kernel) Q9.1 (tuR Q9.1 (by omega)) at1012 (by omega) hz2714 ?_
      refine y_ic (c := 1) (len := 1) (r := (0, 0, 0, 0)) (by decide +kernel) (by decide) (fun y2715 hy2715 => ?_)
      refine y_sub (len := 1) (r := (0, 0, 0, 0)) (by decide +kernel) (by omega) (by omega) (fun y2716 hy2716 => ?_)
      rcases Decidable.em (0 ≤ xk.toInt ∧ xk.toInt < (e.1.1.length : Int)) with bk | bk
      ·
        obtain ⟨k, hk⟩ : ∃ k : Nat, xk.toInt = (k : Int) := ⟨xk.toInt.toNat, by omega⟩
        refine y_cI (i := .invokestatic 200) (len := 3) (r := (1, 162, 12, 1486)) (nL := 3) (k := 2) (n := 3) (hs := []) (args := [zi xk, zi y2712, zi y2716]) (rest := [.inl (some 52)]) (l0 := [some (zi xk), some (zi y2712), some (zi y2716)]) (by decide +kernel) (Or.inl ⟨_, rfl⟩) rfl rfl rfl rfl (Nat.le_of_ble_eq_true rfl) rfl rfl (qI_le (by decide) (m_in (d := 0) (by omega) (by omega))) (fun y2717 qy2717 hRy2717 => ?_)
        obtain ⟨rfl, hy2717⟩ := hRy2717
        refine y_iT (c := .ne) (off := 7) (pc' := 81) (len := 3) (r := (0, 0, 0, 0)) (by decide +kernel) (acmpT (c := .ne) (by show ¬ (_ = _); omega)) (by decide +kernel) ?_
        refine y_ic (c := 0) (len := 1) (r := (0, 0, 0, 0)) (by decide +kernel) (by decide) (fun y2718 hy2718 => ?_)
        refine y_ic (c := 1) (len := 1) (r := (0, 0, 0, 0)) (by decide +kernel) (by decide) (fun y2719 hy2719 => ?_)
        refine y_ic (c := 0) (len := 1) (r := (0, 0, 0, 0)) (by decide +kernel) (by decide) (fun y2720 hy2720 => ?_)
        refine y_cI (i := .invokevirtual 204) (len := 3) (r := (0, 161, 12, 1489)) (nL := 4) (k := 2) (n := 4) (hs := []) (args := [.inl (some 52), zi y2718, zi y2719, zi y2720]) (rest := []) (l0 := [some (.inl (some 52)), some (zi y2718), some (zi y2719), some (zi y2720)]) (by decide +kernel) (Or.inr (Or.inl ⟨_, rfl⟩)) rfl rfl rfl rfl (Nat.le_of_ble_eq_true rfl) (z52 Q9.1) rfl (qI_le (by decide) (m_bad (d := 0) Q9.1 (by omega) hz (by omega))) (fun y2721 qy2721 hRy2721 => ?_)
        obtain ⟨rfl, hy2721⟩ := hRy2721
        refine y_iF (c := .ne) (off := 26) (len := 3) (r := (0, 0, 0, 0)) (by decide +kernel) (acmpF (c := .ne) (by show _ = _; omega)) ?_
        refine y_same (i := .aload_n 0) (len := 1) (r := (0, 0, 0, 0)) (pc' := 91) (ls' := [some (.inl (some 52)), some (zi xi), some (zi xk), some (zi xw), some (zi y), some (.inl (some ((71 + j))))]) (st' := [.inl (some 52)]) (by decide +kernel) (fun k q => by cases q) rfl ?_
        refine y_same (i := .iload_n 3) (len := 1) (r := (0, 0, 0, 0)) (pc' := 92) (ls' := [some (.inl (some 52)), some (zi xi), some (zi xk), some (zi xw), some (zi y), some (.inl (some ((71 + j))))]) (st' := [zi xw, .inl (some 52)]) (by decide +kernel) (fun k q => by cases q) rfl ?_
        refine y_ic (c := 0) (len := 1) (r := (0, 0, 0, 0)) (by decide +kernel) (by decide) (fun y2722 hy2722 => ?_)
        refine y_ic (c := 3) (len := 1) (r := (0, 0, 0, 0)) (by decide +kernel) (by decide) (fun y2723 hy2723 => ?_)
        rcases (show xw.toInt = 0 ∨ xw.toInt = 1 ∨ xw.toInt = 2 ∨ xw.toInt = 3 ∨ ¬ (0 ≤ xw.toInt ∧ xw.toInt ≤ 3) by omega) with bw | bw | bw | bw | bw
        ·
          refine y_cI (i := .invokestatic 200) (len := 3) (r := (1, 162, 12, 1486)) (nL := 3) (k := 2) (n := 3) (hs := []) (args := [zi xw, zi y2722, zi y2723]) (rest := [.inl (some 52)]) (l0 := [some (zi xw), some (zi y2722), some (zi y2723)]) (by decide +kernel) (Or.inl ⟨_, rfl⟩) rfl rfl rfl rfl (Nat.le_of_ble_eq_true rfl) rfl rfl (qI_le (by decide) (m_in (d := 0) (by omega) (by omega))) (fun y2724 qy2724 hRy2724 => ?_)
          obtain ⟨rfl, hy2724⟩ := hRy2724
          refine y_iT (c := .ne) (off := 7) (pc' := 104) (len := 3) (r := (0, 0, 0, 0)) (by decide +kernel) (acmpT (c := .ne) (by show ¬ (_ = _); omega)) (by decide +kernel) ?_
          refine y_ic (c := 0) (len := 1) (r := (0, 0, 0, 0)) (by decide +kernel) (by decide) (fun y2725 hy2725 => ?_)
          refine y_ic (c := 2) (len := 1) (r := (0, 0, 0, 0)) (by decide +kernel) (by decide) (fun y2726 hy2726 => ?_)
          refine y_ic (c := 1) (len := 1) (r := (0, 0, 0, 0)) (by decide +kernel) (by decide) (fun y2727 hy2727 => ?_)
          refine y_cI (i := .invokevirtual 204) (len := 3) (r := (0, 161, 12, 1489)) (nL := 4) (k := 2) (n := 4) (hs := []) (args := [.inl (some 52), zi y2725, zi y2726, zi y2727]) (rest := []) (l0 := [some (.inl (some 52)), some (zi y2725), some (zi y2726), some (zi y2727)]) (by decide +kernel) (Or.inr (Or.inl ⟨_, rfl⟩)) rfl rfl rfl rfl (Nat.le_of_ble_eq_true rfl) (z52 Q9.1) rfl (qI_le (by decide) (m_bad (d := 0) Q9.1 (by omega) hz (by omega))) (fun y2728 qy2728 hRy2728 => ?_)
          obtain ⟨rfl, hy2728⟩ := hRy2728
          refine y_iT (c := .eq) (off := 5) (pc' := 115) (len := 3) (r := (0, 0, 0, 0)) (by decide +kernel) (acmpT (c := .eq) (by show _ = _; omega)) (by decide +kernel) ?_
          refine y_same (i := .aload 5) (len := 2) (r := (0, 0, 0, 0)) (pc' := 117) (ls' := [some (.inl (some 52)), some (zi xi), some (zi xk), some (zi xw), some (zi y), some (.inl (some ((71 + j))))]) (st' := [.inl (some ((71 + j)))]) (by decide +kernel) (fun k q => by cases q) rfl ?_
          refine y_same (i := .iload_n 2) (len := 1) (r := (0, 0, 0, 0)) (pc' := 118) (ls' := [some (.inl (some 52)), some (zi xi), some (zi xk), some (zi xw), some (zi y), some (.inl (some ((71 + j))))]) (st' := [zi xk, .inl (some ((71 + j)))]) (by decide +kernel) (fun k q => by cases q) rfl ?_
          refine y_cI (i := .invokestatic 249) (len := 3) (r := (1, 197, 12, 1644)) (nL := 1) (k := 1) (n := 1) (hs := []) (args := [zi xk]) (rest := [.inl (some ((71 + j)))]) (l0 := [some (zi xk)]) (by decide +kernel) (Or.inl ⟨_, rfl⟩) rfl rfl rfl rfl (Nat.le_of_ble_eq_true rfl) rfl rfl (qI_le (by omega) (e_leftAt (d := 0) (by omega) (by omega))) (fun y2729 qy2729 hRy2729 => ?_)
          obtain ⟨rfl, hy2729⟩ := hRy2729
          refine y_same (i := .iload_n 3) (len := 1) (r := (0, 0, 0, 0)) (pc' := 122) (ls' := [some (.inl (some 52)), some (zi xi), some (zi xk), some (zi xw), some (zi y), some (.inl (some ((71 + j))))]) (st' := [zi xw, zi y2729, .inl (some ((71 + j)))]) (by decide +kernel) (fun k q => by cases q) rfl ?_
          refine y_add (len := 1) (r := (0, 0, 0, 0)) (by decide +kernel) (by omega) (by omega) (fun y2730 hy2730 => ?_)
          obtain ⟨i2731, ki2731⟩ : ∃ i9, e.1.1[k]? = some i9 := ⟨_, List.getElem?_eq_getElem (by omega)⟩
          have oi2731 := okQ_L Q9.2.2.2 ki2731
          have pi2731 := oi2731.1
          unfold okV at pi2731
          obtain ⟨ai2731, bi2731, ci2731, di2731, ⟨hai2731, hbi2731, hci2731, hdi2731⟩, eai2731, ebi2731, eci2731, edi2731⟩ := qm_itL Q9 ki2731
          refine y_ial (i := (24 + 4 * k)) (len := 1) (r := (0, 0, 0, 0)) (by decide +kernel) Q9.1 (tuR Q9.1 (by omega)) at1012 (by omega) hai2731 ?_
          refine y_rI (len := 1) (r := (0, 0, 0, 0)) (nL := 6) (k := 1) (n9 := 4) (hs := []) (by decide +kernel) rfl rfl ?_
          have ho : opA R xi.toInt xk.toInt xw.toInt = (0, cmp_ i2731 0) := by
            rw [opA_s n5, opQ_t (by omega) (show e.1.1[xk.toInt.toNat]? = some i2731 by rw [show xk.toInt.toNat = k by omega]; exact ki2731) (by omega), show xw.toInt.toNat = 0 by omega]
          exact ⟨⟨_, hz, by rw [ho]; show _ = (0 : Int); omega⟩, fun q9 => (by rw [ho] at q9 ⊢; exact eai2731), fun _ j9 => j9⟩
        ·
          refine y_cI (i := .invokestatic 200) (len := 3) (r := (1, 162, 12, 1486)) (nL := 3) (k := 2) (n := 3) (hs := []) (args := [zi xw, zi y2722, zi y2723]) (rest := [.inl (some 52)]) (l0 := [some (zi xw), some (zi y2722), some (zi y2723)]) (by decide +kernel) (Or.inl ⟨_, rfl⟩) rfl rfl rfl rfl (Nat.le_of_ble_eq_true rfl) rfl rfl (qI_le (by decide) (m_in (d := 0) (by omega) (by omega))) (fun y2724 qy2724 hRy2724 => ?_)
          obtain ⟨rfl, hy2724⟩ := hRy2724
          refine y_iT (c := .ne) (off := 7) (pc' := 104) (len := 3) (r := (0, 0, 0, 0)) (by decide +kernel) (acmpT (c := .ne) (by show ¬ (_ = _); omega)) (by decide +kernel) ?_
          refine y_ic (c := 0) (len := 1) (r := (0, 0, 0, 0)) (by decide +kernel) (by decide) (fun y2732 hy2732 => ?_)
          refine y_ic (c := 2) (len := 1) (r := (0, 0, 0, 0)) (by decide +kernel) (by decide) (fun y2733 hy2733 => ?_)
          refine y_ic (c := 1) (len := 1) (r := (0, 0, 0, 0)) (by decide +kernel) (by decide) (fun y2734 hy2734 => ?_)
          refine y_cI (i := .invokevirtual 204) (len := 3) (r := (0, 161, 12, 1489)) (nL := 4) (k := 2) (n := 4) (hs := []) (args := [.inl (some 52), zi y2732, zi y2733, zi y2734]) (rest := []) (l0 := [some (.inl (some 52)), some (zi y2732), some (zi y2733), some (zi y2734)]) (by decide +kernel) (Or.inr (Or.inl ⟨_, rfl⟩)) rfl rfl rfl rfl (Nat.le_of_ble_eq_true rfl) (z52 Q9.1) rfl (qI_le (by decide) (m_bad (d := 0) Q9.1 (by omega) hz (by omega))) (fun y2735 qy2735 hRy2735 => ?_)
          obtain ⟨rfl, hy2735⟩ := hRy2735
          refine y_iT (c := .eq) (off := 5) (pc' := 115) (len := 3) (r := (0, 0, 0, 0)) (by decide +kernel) (acmpT (c := .eq) (by show _ = _; omega)) (by decide +kernel) ?_
          refine y_same (i := .aload 5) (len := 2) (r := (0, 0, 0, 0)) (pc' := 117) (ls' := [some (.inl (some 52)), some (zi xi), some (zi xk), some (zi xw), some (zi y), some (.inl (some ((71 + j))))]) (st' := [.inl (some ((71 + j)))]) (by decide +kernel) (fun k q => by cases q) rfl ?_
          refine y_same (i := .iload_n 2) (len := 1) (r := (0, 0, 0, 0)) (pc' := 118) (ls' := [some (.inl (some 52)), some (zi xi), some (zi xk), some (zi xw), some (zi y), some (.inl (some ((71 + j))))]) (st' := [zi xk, .inl (some ((71 + j)))]) (by decide +kernel) (fun k q => by cases q) rfl ?_
          refine y_cI (i := .invokestatic 249) (len := 3) (r := (1, 197, 12, 1644)) (nL := 1) (k := 1) (n := 1) (hs := []) (args := [zi xk]) (rest := [.inl (some ((71 + j)))]) (l0 := [some (zi xk)]) (by decide +kernel) (Or.inl ⟨_, rfl⟩) rfl rfl rfl rfl (Nat.le_of_ble_eq_true rfl) rfl rfl (qI_le (by omega) (e_leftAt (d := 0) (by omega) (by omega))) (fun y2736 qy2736 hRy2736 => ?_)
          obtain ⟨rfl, hy2736⟩ := hRy2736
          refine y_same (i := .iload_n 3) (len := 1) (r := (0, 0, 0, 0)) (pc' := 122) (ls' := [some (.inl (some 52)), some (zi xi), some (zi xk), some (zi xw), some (zi y), some (.inl (some ((71 + j))))]) (st' := [zi xw, zi y2736, .inl (some ((71 + j)))]) (by decide +kernel) (fun k q => by cases q) rfl ?_
          refine y_add (len := 1) (r := (0, 0, 0, 0)) (by decide +kernel) (by omega) (by omega) (fun y2737 hy2737 => ?_)
          obtain ⟨i2738, ki2738⟩ : ∃ i9, e.1.1[k]? = some i9 := ⟨_, List.getElem?_eq_getElem (by omega)⟩
          have oi2738 := okQ_L Q9.2.2.2 ki2738
          have pi2738 := oi2738.1
          unfold okV at pi2738
          obtain ⟨ai2738, bi2738, ci2738, di2738, ⟨hai2738, hbi2738, hci2738, hdi2738⟩, eai2738, ebi2738, eci2738, edi2738⟩ := qm_itL Q9 ki2738
          refine y_ial (i := ((24 + 4 * k) + 1)) (len := 1) (r := (0, 0, 0, 0)) (by decide +kernel) Q9.1 (tuR Q9.1 (by omega)) at1012 (by omega) hbi2738 ?_
          refine y_rI (len := 1) (r := (0, 0, 0, 0)) (nL := 6) (k := 1) (n9 := 4) (hs := []) (by decide +kernel) rfl rfl ?_
          have ho : opA R xi.toInt xk.toInt xw.toInt = (0, cmp_ i2738 1) := by
            rw [opA_s n5, opQ_t (by omega) (show e.1.1[xk.toInt.toNat]? = some i2738 by rw [show xk.toInt.toNat = k by omega]; exact ki2738) (by omega), show xw.toInt.toNat = 1 by omega]
          exact ⟨⟨_, hz, by rw [ho]; show _ = (0 : Int); omega⟩, fun q9 => (by rw [ho] at q9 ⊢; exact ebi2738), fun _ j9 => j9⟩
        ·
          refine y_cI (i := .invokestatic 200) (len := 3) (r := (1, 162, 12, 1486)) (nL := 3) (k := 2) (n := 3) (hs := []) (args := [zi xw, zi y2722, zi y2723]) (rest := [.inl (some 52)]) (l0 := [some (zi xw), some (zi y2722), some (zi y2723)]) (by decide +kernel) (Or.inl ⟨_, rfl⟩) rfl rfl rfl rfl (Nat.le_of_ble_eq_true rfl) rfl rfl (qI_le (by decide) (m_in (d := 0) (by omega) (by omega))) (fun y2724 qy2724 hRy2724 => ?_)
          obtain ⟨rfl, hy2724⟩ := hRy2724
          refine y_iT (c := .ne) (off := 7) (pc' := 104) (len := 3) (r := (0, 0, 0, 0)) (by decide +kernel) (acmpT (c := .ne) (by show ¬ (_ = _); omega)) (by decide +kernel) ?_
          refine y_ic (c := 0) (len := 1) (r := (0, 0, 0, 0)) (by decide +kernel) (by decide) (fun y2739 hy2739 => ?_)
          refine y_ic (c := 2) (len := 1) (r := (0, 0, 0, 0)) (by decide +kernel) (by decide) (fun y2740 hy2740 => ?_)
          refine y_ic (c := 1) (len := 1) (r := (0, 0, 0, 0)) (by decide +kernel) (by decide) (fun y2741 hy2741 => ?_)
          refine y_cI (i := .invokevirtual 204) (len := 3) (r := (0, 161, 12, 1489)) (nL := 4) (k := 2) (n := 4) (hs := []) (args := [.inl (some 52), zi y2739, zi y2740, zi y2741]) (rest := []) (l0 := [some (.inl (some 52)), some (zi y2739), some (zi y2740), some (zi y2741)]) (by decide +kernel) (Or.inr (Or.inl ⟨_, rfl⟩)) rfl rfl rfl rfl (Nat.le_of_ble_eq_true rfl) (z52 Q9.1) rfl (qI_le (by decide) (m_bad (d := 0) Q9.1 (by omega) hz (by omega))) (fun y2742 qy2742 hRy2742 => ?_)
          obtain ⟨rfl, hy2742⟩ := hRy2742
          refine y_iT (c := .eq) (off := 5) (pc' := 115) (len := 3) (r := (0, 0, 0, 0)) (by decide +kernel) (acmpT (c := .eq) (by show _ = _; omega)) (by decide +kernel) ?_
          refine y_same (i := .aload 5) (len := 2) (r := (0, 0, 0, 0)) (pc' := 117) (ls' := [some (.inl (some 52)), some (zi xi), some (zi xk), some (zi xw), some (zi y), some (.inl (some ((71 + j))))]) (st' := [.inl (some ((71 + j)))]) (by decide +kernel) (fun k q => by cases q) rfl ?_
          refine y_same (i := .iload_n 2) (len := 1) (r := (0, 0, 0, 0)) (pc' := 118) (ls' := [some (.inl (some 52)), some (zi xi), some (zi xk), some (zi xw), some (zi y), some (.inl (some ((71 + j))))]) (st' := [zi xk, .inl (some ((71 + j)))]) (by decide +kernel) (fun k q => by cases q) rfl ?_
          refine y_cI (i := .invokestatic 249) (len := 3) (r := (1, 197, 12, 1644)) (nL := 1) (k := 1) (n := 1) (hs := []) (args := [zi xk]) (rest := [.inl (some ((71 + j)))]) (l0 := [some (zi xk)]) (by decide +kernel) (Or.inl ⟨_, rfl⟩) rfl rfl rfl rfl (Nat.le_of_ble_eq_true rfl) rfl rfl (qI_le (by omega) (e_leftAt (d := 0) (by omega) (by omega))) (fun y2743 qy2743 hRy2743 => ?_)
          obtain ⟨rfl, hy2743⟩ := hRy2743
          refine y_same (i := .iload_n 3) (len := 1) (r := (0, 0, 0, 0)) (pc' := 122) (ls' := [some (.inl (some 52)), some (zi xi), some (zi xk), some (zi xw), some (zi y), some (.inl (some ((71 + j))))]) (st' := [zi xw, zi y2743, .inl (some ((71 + j)))]) (by decide +kernel) (fun k q => by cases q) rfl ?_
          refine y_add (len := 1) (r := (0, 0, 0, 0)) (by decide +kernel) (by omega) (by omega) (fun y2744 hy2744 => ?_)
          obtain ⟨i2745, ki2745⟩ : ∃ i9, e.1.1[k]? = some i9 := ⟨_, List.getElem?_eq_getElem (by omega)⟩
          have oi2745 := okQ_L Q9.2.2.2 ki2745
          have pi2745 := oi2745.1
          unfold okV at pi2745
          obtain ⟨ai2745, bi2745, ci2745, di2745, ⟨hai2745, hbi2745, hci2745, hdi2745⟩, eai2745, ebi2745, eci2745, edi2745⟩ := qm_itL Q9 ki2745
          refine y_ial (i := ((24 + 4 * k) + 2)) (len := 1) (r := (0, 0, 0, 0)) (by decide +kernel) Q9.1 (tuR Q9.1 (by omega)) at1012 (by omega) hci2745 ?_
          refine y_rI (len := 1) (r := (0, 0, 0, 0)) (nL := 6) (k := 1) (n9 := 4) (hs := []) (by decide +kernel) rfl rfl ?_
          have ho : opA R xi.toInt xk.toInt xw.toInt = (0, cmp_ i2745 2) := by
            rw [opA_s n5, opQ_t (by omega) (show e.1.1[xk.toInt.toNat]? = some i2745 by rw [show xk.toInt.toNat = k by omega]; exact ki2745) (by omega), show xw.toInt.toNat = 2 by omega]
          exact ⟨⟨_, hz, by rw [ho]; show _ = (0 : Int); omega⟩, fun q9 => (by rw [ho] at q9 ⊢; exact eci2745), fun _ j9 => j9⟩
        ·
          refine y_cI (i := .invokestatic 200) (len := 3) (r := (1, 162, 12, 1486)) (nL := 3) (k := 2) (n := 3) (hs := []) (args := [zi xw, zi y2722, zi y2723]) (rest := [.inl (some 52)]) (l0 := [some (zi xw), some (zi y2722), some (zi y2723)]) (by decide +kernel) (Or.inl ⟨_, rfl⟩) rfl rfl rfl rfl (Nat.le_of_ble_eq_true rfl) rfl rfl (qI_le (by decide) (m_in (d := 0) (by omega) (by omega))) (fun y2724 qy2724 hRy2724 => ?_)
          obtain ⟨rfl, hy2724⟩ := hRy2724
          refine y_iT (c := .ne) (off := 7) (pc' := 104) (len := 3) (r := (0, 0, 0, 0)) (by decide +kernel) (acmpT (c := .ne) (by show ¬ (_ = _); omega)) (by decide +kernel) ?_
          refine y_ic (c := 0) (len := 1) (r := (0, 0, 0, 0)) (by decide +kernel) (by decide) (fun y2746 hy2746 => ?_)
          refine y_ic (c := 2) (len := 1) (r := (0, 0, 0, 0)) (by decide +kernel) (by decide) (fun y2747 hy2747 => ?_)
          refine y_ic (c := 1) (len := 1) (r := (0, 0, 0, 0)) (by decide +kernel) (by decide) (fun y2748 hy2748 => ?_)
          refine y_cI (i := .invokevirtual 204) (len := 3) (r := (0, 161, 12, 1489)) (nL := 4) (k := 2) (n := 4) (hs := []) (args := [.inl (some 52), zi y2746, zi y2747, zi y2748]) (rest := []) (l0 := [some (.inl (some 52)), some (zi y2746), some (zi y2747), some (zi y2748)]) (by decide +kernel) (Or.inr (Or.inl ⟨_, rfl⟩)) rfl rfl rfl rfl (Nat.le_of_ble_eq_true rfl) (z52 Q9.1) rfl (qI_le (by decide) (m_bad (d := 0) Q9.1 (by omega) hz (by omega))) (fun y2749 qy2749 hRy2749 => ?_)
          obtain ⟨rfl, hy2749⟩ := hRy2749
          refine y_iT (c := .eq) (off := 5) (pc' := 115) (len := 3) (r := (0, 0, 0, 0)) (by decide +kernel) (acmpT (c := .eq) (by show _ = _; omega)) (by decide +kernel) ?_
          refine y_same (i := .aload 5) (len := 2) (r := (0, 0, 0, 0)) (pc' := 117) (ls' := [some (.inl (some 52)), some (zi xi), some (zi xk), some (zi xw), some (zi y), some (.inl (some ((71 + j))))]) (st' := [.inl (some ((71 + j)))]) (by decide +kernel) (fun k q => by cases q) rfl ?_
          refine y_same (i := .iload_n 2) (len := 1) (r := (0, 0, 0, 0)) (pc' := 118) (ls' := [some (.inl (some 52)), some (zi xi), some (zi xk), some (zi xw), some (zi y), some (.inl (some ((71 + j))))]) (st' := [zi xk, .inl (some ((71 + j)))]) (by decide +kernel) (fun k q => by cases q) rfl ?_
          refine y_cI (i := .invokestatic 249) (len := 3) (r := (1, 197, 12, 1644)) (nL := 1) (k := 1) (n := 1) (hs := []) (args := [zi xk]) (rest := [.inl (some ((71 + j)))]) (l0 := [some (zi xk)]) (by decide +kernel) (Or.inl ⟨_, rfl⟩) rfl rfl rfl rfl (Nat.le_of_ble_eq_true rfl) rfl rfl (qI_le (by omega) (e_leftAt (d := 0) (by omega) (by omega))) (fun y2750 qy2750 hRy2750 => ?_)
          obtain ⟨rfl, hy2750⟩ := hRy2750
          refine y_same (i := .iload_n 3) (len := 1) (r := (0, 0, 0, 0)) (pc' := 122) (ls' := [some (.inl (some 52)), some (zi xi), some (zi xk), some (zi xw), some (zi y), some (.inl (some ((71 + j))))]) (st' := [zi xw, zi y2750, .inl (some ((71 + j)))]) (by decide +kernel) (fun k q => by cases q) rfl ?_
          refine y_add (len := 1) (r := (0, 0, 0, 0)) (by decide +kernel) (by omega) (by omega) (fun y2751 hy2751 => ?_)
          obtain ⟨i2752, ki2752⟩ : ∃ i9, e.1.1[k]? = some i9 := ⟨_, List.getElem?_eq_getElem (by omega)⟩
          have oi2752 := okQ_L Q9.2.2.2 ki2752
          have pi2752 := oi2752.1
          unfold okV at pi2752
          obtain ⟨ai2752, bi2752, ci2752, di2752, ⟨hai2752, hbi2752, hci2752, hdi2752⟩, eai2752, ebi2752, eci2752, edi2752⟩ := qm_itL Q9 ki2752
          refine y_ial (i := ((24 + 4 * k) + 3)) (len := 1) (r := (0, 0, 0, 0)) (by decide +kernel) Q9.1 (tuR Q9.1 (by omega)) at1012 (by omega) hdi2752 ?_
          refine y_rI (len := 1) (r := (0, 0, 0, 0)) (nL := 6) (k := 1) (n9 := 4) (hs := []) (by decide +kernel) rfl rfl ?_
          have ho : opA R xi.toInt xk.toInt xw.toInt = (0, cmp_ i2752 3) := by
            rw [opA_s n5, opQ_t (by omega) (show e.1.1[xk.toInt.toNat]? = some i2752 by rw [show xk.toInt.toNat = k by omega]; exact ki2752) (by omega), show xw.toInt.toNat = 3 by omega]
          exact ⟨⟨_, hz, by rw [ho]; show _ = (0 : Int); omega⟩, fun q9 => (by rw [ho] at q9 ⊢; exact edi2752), fun _ j9 => j9⟩
        ·
          refine y_cI (i := .invokestatic 200) (len := 3) (r := (1, 162, 12, 1486)) (nL := 3) (k := 2) (n := 3) (hs := []) (args := [zi xw, zi y2722, zi y2723]) (rest := [.inl (some 52)]) (l0 := [some (zi xw), some (zi y2722), some (zi y2723)]) (by decide +kernel) (Or.inl ⟨_, rfl⟩) rfl rfl rfl rfl (Nat.le_of_ble_eq_true rfl) rfl rfl (qI_le (by decide) (m_in0 (d := 0) (by omega))) (fun y2724 qy2724 hRy2724 => ?_)
          obtain ⟨rfl, hy2724⟩ := hRy2724
          refine y_iF (c := .ne) (off := 7) (len := 3) (r := (0, 0, 0, 0)) (by decide +kernel) (acmpF (c := .ne) (by show _ = _; omega)) ?_
          refine y_ic (c := 1) (len := 1) (r := (0, 0, 0, 0)) (by decide +kernel) (by decide) (fun y2753 hy2753 => ?_)
          refine y_goto (off := 4) (pc' := 105) (len := 3) (r := (0, 0, 0, 0)) (by decide +kernel) (by decide +kernel) ?_
          refine y_ic (c := 2) (len := 1) (r := (0, 0, 0, 0)) (by decide +kernel) (by decide) (fun y2754 hy2754 => ?_)
          refine y_ic (c := 1) (len := 1) (r := (0, 0, 0, 0)) (by decide +kernel) (by decide) (fun y2755 hy2755 => ?_)
          refine y_cI (i := .invokevirtual 204) (len := 3) (r := (0, 161, 12, 1489)) (nL := 4) (k := 2) (n := 4) (hs := []) (args := [.inl (some 52), zi y2753, zi y2754, zi y2755]) (rest := []) (l0 := [some (.inl (some 52)), some (zi y2753), some (zi y2754), some (zi y2755)]) (by decide +kernel) (Or.inr (Or.inl ⟨_, rfl⟩)) rfl rfl rfl rfl (Nat.le_of_ble_eq_true rfl) (z52 Q9.1) rfl (qI_le (by decide) (m_bad1 (d := 0) (e := 1) Q9.1 (by omega) (by omega) (by omega) (by omega) hz (by omega))) (fun y2756 h2756 hRy2756 => ?_)
          obtain ⟨hg2756, hy2756, ⟨z2756, hz2756, ez2756⟩, F2756⟩ := hRy2756
          refine y_iF (c := .eq) (off := 5) (len := 3) (r := (0, 0, 0, 0)) (by decide +kernel) (acmpF (c := .eq) (by show ¬ (_ = _); omega)) ?_
          refine y_ic (c := 0) (len := 1) (r := (0, 0, 0, 0)) (by decide +kernel) (by decide) (fun y2757 hy2757 => ?_)
          refine y_rI (len := 1) (r := (0, 0, 0, 0)) (nL := 6) (k := 1) (n9 := 4) (hs := []) (by decide +kernel) rfl rfl ?_
          obtain ⟨q, kq⟩ : ∃ q, e.1.1[k]? = some q := ⟨_, List.getElem?_eq_getElem (by omega)⟩
          have ho : opA R xi.toInt xk.toInt xw.toInt = (2, 0) := by
            rw [opA_s n5, opQ_f (by omega) (show e.1.1[xk.toInt.toNat]? = some q by rw [show xk.toInt.toNat = k by omega]; exact kq) (by omega)]
          exact ⟨⟨_, hz2756, by rw [ho]; show _ = (2 : Int); omega⟩, fun q9 => (by rw [ho] at q9 ⊢; exact absurd q9 (by decide)), fun _ j9 => JMx_kp ⟨fun j => (F2756 373 j (by omega)), fun j => (F2756 377 j (by omega)), fun k j hk => (F2756 (71 + k) j (by omega)), (F2756 52 26 (by omega)), (F2756 52 27 (by omega)), (F2756 52 29 (by omega)), (F2756 52 32 (by omega))⟩ (F2756 52 31 (by omega)) j9⟩
      ·
        refine y_cI (i := .invokestatic 200) (len := 3) (r := (1, 162, 12, 1486)) (nL := 3) (k := 2) (n := 3) (hs := []) (args := [zi xk, zi y2712, zi y2716]) (rest := [.inl (some 52)]) (l0 := [some (zi xk), some (zi y2712), some (zi y2716)]) (by decide +kernel) (Or.inl ⟨_, rfl⟩) rfl rfl rfl rfl (Nat.le_of_ble_eq_true rfl) rfl rfl (qI_le (by decide) (m_in0 (d := 0) (by omega))) (fun y2717 qy2717 hRy2717 => ?_)
        obtain ⟨rfl, hy2717⟩ := hRy2717
        refine y_iF (c := .ne) (off := 7) (len := 3) (r := (0, 0, 0, 0)) (by decide +kernel) (acmpF (c := .ne) (by show _ = _; omega)) ?_
        refine y_ic (c := 1) (len := 1) (r := (0, 0, 0, 0)) (by decide +kernel) (by decide) (fun y2758 hy2758 => ?_)
        refine y_goto (off := 4) (pc' := 82) (len := 3) (r := (0, 0, 0, 0)) (by decide +kernel) (by decide +kernel) ?_
        refine y_ic (c := 1) (len := 1) (r := (0, 0, 0, 0)) (by decide +kernel) (by decide) (fun y2759 hy2759 => ?_)
        refine y_ic (c := 0) (len := 1) (r := (0, 0, 0, 0)) (by decide +kernel) (by decide) (fun y2760 hy2760 => ?_)
        refine y_cI (i := .invokevirtual 204) (len := 3) (r := (0, 161, 12, 1489)) (nL := 4) (k := 2) (n := 4) (hs := []) (args := [.inl (some 52), zi y2758, zi y2759, zi y2760]) (rest := []) (l0 := [some (.inl (some 52)), some (zi y2758), some (zi y2759), some (zi y2760)]) (by decide +kernel) (Or.inr (Or.inl ⟨_, rfl⟩)) rfl rfl rfl rfl (Nat.le_of_ble_eq_true rfl) (z52 Q9.1) rfl (qI_le (by decide) (m_bad1 (d := 0) (e := 0) Q9.1 (by omega) (by omega) (by omega) (by omega) hz (by omega))) (fun y2761 h2761 hRy2761 => ?_)
        obtain ⟨hg2761, hy2761, ⟨z2761, hz2761, ez2761⟩, F2761⟩ := hRy2761
        refine y_iT (c := .ne) (off := 26) (pc' := 113) (len := 3) (r := (0, 0, 0, 0)) (by decide +kernel) (acmpT (c := .ne) (by show ¬ (_ = _); omega)) (by decide +kernel) ?_
        refine y_ic (c := 0) (len := 1) (r := (0, 0, 0, 0)) (by decide +kernel) (by decide) (fun y2762 hy2762 => ?_)
        refine y_rI (len := 1) (r := (0, 0, 0, 0)) (nL := 6) (k := 1) (n9 := 4) (hs := []) (by decide +kernel) rfl rfl ?_
        have ho : opA R xi.toInt xk.toInt xw.toInt = (1, 0) := by
          rw [opA_s n5, opQ_n (by omega) (by omega)]
        exact ⟨⟨_, hz2761, by rw [ho]; show _ = (1 : Int); omega⟩, fun q9 => (by rw [ho] at q9 ⊢; exact absurd q9 (by decide)), fun _ j9 => JMx_kp ⟨fun j => (F2761 373 j (by omega)), fun j => (F2761 377 j (by omega)), fun k j hk => (F2761 (71 + k) j (by omega)), (F2761 52 26 (by omega)), (F2761 52 27 (by omega)), (F2761 52 29 (by omega)), (F2761 52 32 (by omega))⟩ (F2761 52 31 (by omega)) j9⟩
    ·
      refine y_cF (c := .ne) (off := 8) (len := 3) (r := (0, 0, 0, 0)) (by decide +kernel) (acmpF (c := .ne) (by show _ = _; omega)) ?_
      refine y_same (i := .aload 5) (len := 2) (r := (0, 0, 0, 0)) (pc' := 59) (ls' := [some (.inl (some 52)), some (zi xi), some (zi xk), some (zi xw), some (zi y), some (.inl (some ((71 + j))))]) (st' := [.inl (some ((71 + j)))]) (by decide +kernel) (fun k q => by cases q) rfl ?_
      refine y_ic (c := 0) (len := 1) (r := (0, 0, 0, 0)) (by decide +kernel) (by decide) (fun y2763 hy2763 => ?_)
      obtain ⟨z2764, hz2764, ez2764⟩ := Q9.2.2.1.1
      have ez2764 : z2764.toInt = ((e.1.1.length : Nat) : Int) := ez2764
      have mz2764 := qm_lenL Q9
      have mz2764 : e.1.1.length ≤ 14 := mz2764
      refine y_ial (i := 0) (len := 1) (r := (0, 0, 0, 0)) (by decide +kernel) Q9.1 (tuR Q9.1 (by omega)) at1012 (by omega) hz2764 ?_
      refine y_rI (len := 1) (r := (0, 0, 0, 0)) (nL := 6) (k := 1) (n9 := 4) (hs := []) (by decide +kernel) rfl rfl ?_
      have ho : opA R xi.toInt xk.toInt xw.toInt = (0, (e.1.1.length : Int)) := by
        rw [opA_s n5, opQ_l (by omega)]
      exact ⟨⟨_, hz, by rw [ho]; show _ = (0 : Int); omega⟩, fun q9 => (by rw [ho] at q9 ⊢; show _ = (e.1.1.length : Int); omega), fun _ j9 => j9⟩
  ·
    refine y_cI (i := .invokestatic 200) (len := 3) (r := (1, 162, 12, 1486)) (nL := 3) (k := 2) (n := 3) (hs := []) (args := [zi xi, zi y2702, zi y2704]) (rest := [.inl (some 52)]) (l0 := [some (zi xi), some (zi y2702), some (zi y2704)]) (by decide +kernel) (Or.inl ⟨_, rfl⟩) rfl rfl rfl rfl (Nat.le_of_ble_eq_true rfl) rfl rfl (qI_le (by decide) (m_in0 (d := 0) (by omega))) (fun y2705 qy2705 hRy2705 => ?_)
    obtain ⟨rfl, hy2705⟩ := hRy2705
    refine y_iF (c := .ne) (off := 7) (len := 3) (r := (0, 0, 0, 0)) (by decide +kernel) (acmpF (c := .ne) (by show _ = _; omega)) ?_
    refine y_ic (c := 1) (len := 1) (r := (0, 0, 0, 0)) (by decide +kernel) (by decide) (fun y2765 hy2765 => ?_)
    refine y_goto (off := 4) (pc' := 29) (len := 3) (r := (0, 0, 0, 0)) (by decide +kernel) (by decide +kernel) ?_
    refine y_ic (c := 1) (len := 1) (r := (0, 0, 0, 0)) (by decide +kernel) (by decide) (fun y2766 hy2766 => ?_)
    refine y_ic (c := 0) (len := 1) (r := (0, 0, 0, 0)) (by decide +kernel) (by decide) (fun y2767 hy2767 => ?_)
    refine y_cI (i := .invokevirtual 204) (len := 3) (r := (0, 161, 12, 1489)) (nL := 4) (k := 2) (n := 4) (hs := []) (args := [.inl (some 52), zi y2765, zi y2766, zi y2767]) (rest := []) (l0 := [some (.inl (some 52)), some (zi y2765), some (zi y2766), some (zi y2767)]) (by decide +kernel) (Or.inr (Or.inl ⟨_, rfl⟩)) rfl rfl rfl rfl (Nat.le_of_ble_eq_true rfl) (z52 hg) rfl (qI_le (by decide) (m_bad1 (d := 0) (e := 0) hg (by omega) (by omega) (by omega) (by omega) hz (by omega))) (fun y2768 h2768 hRy2768 => ?_)
    obtain ⟨hg2768, hy2768, ⟨z2768, hz2768, ez2768⟩, F2768⟩ := hRy2768
    refine y_iF (c := .eq) (off := 5) (len := 3) (r := (0, 0, 0, 0)) (by decide +kernel) (acmpF (c := .eq) (by show ¬ (_ = _); omega)) ?_
    refine y_ic (c := 0) (len := 1) (r := (0, 0, 0, 0)) (by decide +kernel) (by decide) (fun y2769 hy2769 => ?_)
    refine y_rI (len := 1) (r := (0, 0, 0, 0)) (nL := 6) (k := 1) (n9 := 4) (hs := []) (by decide +kernel) rfl rfl ?_
    have ho : opA R xi.toInt xk.toInt xw.toInt = (1, 0) := by
      exact opA_n n5
    exact ⟨⟨_, hz2768, by rw [ho]; show _ = (1 : Int); omega⟩, fun q9 => (by rw [ho] at q9 ⊢; exact absurd q9 (by decide)), fun _ j9 => JMx_kp ⟨fun j => (F2768 373 j (by omega)), fun j => (F2768 377 j (by omega)), fun k j hk => (F2768 (71 + k) j (by omega)), (F2768 52 26 (by omega)), (F2768 52 27 (by omega)), (F2768 52 29 (by omega)), (F2768 52 32 (by omega))⟩ (F2768 52 31 (by omega)) j9⟩
