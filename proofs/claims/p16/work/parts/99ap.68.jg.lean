/-! the class's prover: from the start -/
theorem fil28_l {d t : Nat} {τ : List Nat} {h0 : zh} {xv xm : Int32} (hxm : xm.toInt = 10) : ∀ (n : Nat) (h : zh) (i : Nat) (xi : Int32), hG τ h → (∀ j, j < i → hsl h 31 j = some (zi xv)) → (∀ k j, k ≠ 31 → hsl h k j = hsl h0 k j) → xi.toInt = (i : Int) → i ≤ 10 → 10 ≤ i + n → qX d 274 5 [some (.inl (some 31)), some (zi xv), some (zi xi), some (zi xm)] [] h t (rV (fun h1 => hG τ h1 ∧ (∀ j, j < 10 → hsl h1 31 j = some (zi xv)) ∧ ∀ k j, k ≠ 31 → hsl h1 k j = hsl h0 k j) t) := by
  intro n
  induction n with
  | zero =>
    intro h i xi hg c1 c2 hxi hi hn
    refine y_same (i := .iload_n 2) (len := 1) (r := (0, 0, 0, 0)) (pc' := 6) (ls' := [some (.inl (some 31)), some (zi xv), some (zi xi), some (zi xm)]) (st' := [zi xi]) (by decide +kernel) (fun k q => by cases q) rfl ?_
    refine y_same (i := .iload_n 3) (len := 1) (r := (0, 0, 0, 0)) (pc' := 7) (ls' := [some (.inl (some 31)), some (zi xv), some (zi xi), some (zi xm)]) (st' := [zi xm, zi xi]) (by decide +kernel) (fun k q => by cases q) rfl ?_
    refine y_cT (c := .ge) (off := 13) (pc' := 20) (len := 3) (r := (0, 0, 0, 0)) (by decide +kernel) (acmpT (c := .ge) (by show _ ≤ _; omega)) (by decide +kernel) ?_
    refine y_rV (len := 1) (r := (0, 0, 0, 0)) (nL := 4) (n9 := 2) (hs := []) (by decide +kernel) rfl ?_
    exact ⟨hg, fun j hj => c1 j (by omega), c2⟩
  | succ n ih =>
    intro h i xi hg c1 c2 hxi hi hn
    rcases Nat.lt_or_ge i 10 with q | q
    ·
      refine y_same (i := .iload_n 2) (len := 1) (r := (0, 0, 0, 0)) (pc' := 6) (ls' := [some (.inl (some 31)), some (zi xv), some (zi xi), some (zi xm)]) (st' := [zi xi]) (by decide +kernel) (fun k q => by cases q) rfl ?_
      refine y_same (i := .iload_n 3) (len := 1) (r := (0, 0, 0, 0)) (pc' := 7) (ls' := [some (.inl (some 31)), some (zi xv), some (zi xi), some (zi xm)]) (st' := [zi xm, zi xi]) (by decide +kernel) (fun k q => by cases q) rfl ?_
      refine y_cF (c := .ge) (off := 13) (len := 3) (r := (0, 0, 0, 0)) (by decide +kernel) (acmpF (c := .ge) (by show _ < _; omega)) ?_
      refine y_same (i := .aload_n 0) (len := 1) (r := (0, 0, 0, 0)) (pc' := 11) (ls' := [some (.inl (some 31)), some (zi xv), some (zi xi), some (zi xm)]) (st' := [.inl (some 31)]) (by decide +kernel) (fun k q => by cases q) rfl ?_
      refine y_same (i := .iload_n 2) (len := 1) (r := (0, 0, 0, 0)) (pc' := 12) (ls' := [some (.inl (some 31)), some (zi xv), some (zi xi), some (zi xm)]) (st' := [zi xi, .inl (some 31)]) (by decide +kernel) (fun k q => by cases q) rfl ?_
      refine y_same (i := .iload_n 1) (len := 1) (r := (0, 0, 0, 0)) (pc' := 13) (ls' := [some (.inl (some 31)), some (zi xv), some (zi xi), some (zi xm)]) (st' := [zi xv, zi xi, .inl (some 31)]) (by decide +kernel) (fun k q => by cases q) rfl ?_
      refine y_ias (i := i) (len := 1) (r := (0, 0, 0, 0)) (by decide +kernel) hg (tv31 hg) aw31 rfl (by omega) (by omega) (sr1 (by omega)) (qin_full _).1 (qin_full _).2 (fun h3027 hg3027 hl3027 hs3027 ho3027 => ?_)
      refine y_inc (j := 2) (a := xi) (c := 1) (ls' := fun v => [some (.inl (some 31)), some (zi xv), some v, some (zi xm)]) (len := 3) (r := (0, 0, 0, 0)) (by decide +kernel) rfl (fun _ => rfl) (by decide) (by omega) (by omega) (fun y3028 hy3028 => ?_)
      show qX d 274 17 [some (.inl (some 31)), some (zi xv), some (zi y3028), some (zi xm)] [] h3027 t _
      refine y_goto (off := (-12)) (pc' := 5) (len := 3) (r := (0, 0, 0, 0)) (by decide +kernel) (by decide +kernel) ?_
      refine ih h3027 (i + 1) y3028 hg3027 (fun j hj => ?_) (fun k j hk => (ho3027 k j (Or.inl hk)).trans (c2 k j hk)) (by omega) (by omega) (by omega)
      rcases Nat.lt_or_ge j i with q9 | q9
      · exact (ho3027 31 j (Or.inr (by omega))).trans (c1 j q9)
      · obtain rfl : j = i := by omega
        exact hs3027
    ·
      refine y_same (i := .iload_n 2) (len := 1) (r := (0, 0, 0, 0)) (pc' := 6) (ls' := [some (.inl (some 31)), some (zi xv), some (zi xi), some (zi xm)]) (st' := [zi xi]) (by decide +kernel) (fun k q => by cases q) rfl ?_
      refine y_same (i := .iload_n 3) (len := 1) (r := (0, 0, 0, 0)) (pc' := 7) (ls' := [some (.inl (some 31)), some (zi xv), some (zi xi), some (zi xm)]) (st' := [zi xm, zi xi]) (by decide +kernel) (fun k q => by cases q) rfl ?_
      refine y_cT (c := .ge) (off := 13) (pc' := 20) (len := 3) (r := (0, 0, 0, 0)) (by decide +kernel) (acmpT (c := .ge) (by show _ ≤ _; omega)) (by decide +kernel) ?_
      refine y_rV (len := 1) (r := (0, 0, 0, 0)) (nL := 4) (n9 := 2) (hs := []) (by decide +kernel) rfl ?_
      exact ⟨hg, fun j hj => c1 j (by omega), c2⟩
theorem e_fil28 {d t : Nat} {τ : List Nat} {h : zh} {xv : Int32} (hg : hG τ h) : qV (d + 1) 274 [some (.inl (some 31)), some (zi xv), none, none] h t (fun h1 => hG τ h1 ∧ (∀ j, j < 10 → hsl h1 31 j = some (zi xv)) ∧ ∀ k j, k ≠ 31 → hsl h1 k j = hsl h k j) := by
  refine qV_of ?_
  refine y_ic (c := 0) (len := 1) (r := (0, 0, 0, 0)) (by decide +kernel) (by decide) (fun y3029 hy3029 => ?_)
  refine y_same (i := .istore_n 2) (len := 1) (r := (0, 0, 0, 0)) (pc' := 2) (ls' := [some (.inl (some 31)), some (zi xv), some (zi y3029), none]) (st' := []) (by decide +kernel) (fun k q => by cases q) rfl ?_
  refine y_same (i := .aload_n 0) (len := 1) (r := (0, 0, 0, 0)) (pc' := 3) (ls' := [some (.inl (some 31)), some (zi xv), some (zi y3029), none]) (st' := [.inl (some 31)]) (by decide +kernel) (fun k q => by cases q) rfl ?_
  refine y_aln (len := 1) (r := (0, 0, 0, 0)) (by decide +kernel) hg (tv31 hg) aw31 (by decide) (fun y3030 hy3030 => ?_)
  refine y_same (i := .istore_n 3) (len := 1) (r := (0, 0, 0, 0)) (pc' := 5) (ls' := [some (.inl (some 31)), some (zi xv), some (zi y3029), some (zi y3030)]) (st' := []) (by decide +kernel) (fun k q => by cases q) rfl ?_
  exact fil28_l (by omega) 10 h 0 y3029 hg (fun j hj => absurd hj (Nat.not_lt_zero j)) (fun k j _ => rfl) (by omega) (by omega) (by omega)
theorem e_clr28 {d t : Nat} {τ : List Nat} {h : zh} (hg : hG τ h) : qV (d + 2) 38 [some (.inl (some 28))] h t (fun h1 => hG τ h1 ∧ ci_ h1 28 6 0 ∧ ci_ h1 28 7 0 ∧ kx_ h1 28 8 3 ∧ gR h1 28 ∧ ci_ h1 31 2 0 ∧ ∀ k j, (k ≠ 28 ∨ j < 6) → k ≠ 31 → hsl h1 k j = hsl h k j) := by
  refine qV_of ?_
  refine y_same (i := .aload_n 0) (len := 1) (r := (0, 0, 0, 0)) (pc' := 1) (ls' := [some (.inl (some 28))]) (st' := [.inl (some 28)]) (by decide +kernel) (fun k q => by cases q) rfl ?_
  refine y_get (j := 21) (len := 3) (r := (4, 3, 2, 285)) (by decide +kernel) hg (tv28 hg) aw28 rfl rfl (g_rU (f := 3) (T2 := 31) hg (tv28 hg) aw28 rfl (by decide)) ?_
  refine y_ic (c := 0) (len := 1) (r := (0, 0, 0, 0)) (by decide +kernel) (by decide) (fun y3031 hy3031 => ?_)
  refine y_cV (i := .invokestatic 104) (len := 3) (r := (1, 274, 60, 502)) (nL := 4) (k := 0) (n := 2) (hs := []) (args := [.inl (some 31), zi y3031]) (rest := []) (l0 := [some (.inl (some 31)), some (zi y3031), none, none]) (by decide +kernel) (Or.inl ⟨_, rfl⟩) rfl rfl rfl rfl (Nat.le_of_ble_eq_true rfl) rfl rfl (qV_le (by omega) (e_fil28 (d := 0) hg)) (fun h3032 hR3032 => ?_)
  obtain ⟨hg3032, c3032, F3032⟩ := hR3032
  refine y_same (i := .aload_n 0) (len := 1) (r := (0, 0, 0, 0)) (pc' := 9) (ls' := [some (.inl (some 28))]) (st' := [.inl (some 28)]) (by decide +kernel) (fun k q => by cases q) rfl ?_
  refine y_ic (c := 0) (len := 1) (r := (0, 0, 0, 0)) (by decide +kernel) (by decide) (fun y3033 hy3033 => ?_)
  refine y_put (j := 35) (lo := (-2147483648)) (hi := 2147483647) (len := 3) (r := (4, 6, 0, 289)) (by decide +kernel) hg3032 (tv28 hg3032) aw28 rfl rfl (by decide) rfl (qin_full _).1 (qin_full _).2 rfl (fun h3034 hg3034 hl3034 hs3034 ho3034 => ?_)
  have ho3034 : hO 28 6 h3032 h3034 := ho3034
  have hs3034 : hsl h3034 28 6 = some (zi y3033) := hs3034
  refine y_same (i := .aload_n 0) (len := 1) (r := (0, 0, 0, 0)) (pc' := 14) (ls' := [some (.inl (some 28))]) (st' := [.inl (some 28)]) (by decide +kernel) (fun k q => by cases q) rfl ?_
  refine y_ic (c := 0) (len := 1) (r := (0, 0, 0, 0)) (by decide +kernel) (by decide) (fun y3035 hy3035 => ?_)
  refine y_put (j := 39) (lo := (-2147483648)) (hi := 2147483647) (len := 3) (r := (4, 7, 0, 291)) (by decide +kernel) hg3034 (tv28 hg3034) aw28 rfl rfl (by decide) rfl (qin_full _).1 (qin_full _).2 rfl (fun h3036 hg3036 hl3036 hs3036 ho3036 => ?_)
  have ho3036 : hO 28 7 h3034 h3036 := ho3036
  have hs3036 : hsl h3036 28 7 = some (zi y3035) := hs3036
  refine y_same (i := .aload_n 0) (len := 1) (r := (0, 0, 0, 0)) (pc' := 19) (ls' := [some (.inl (some 28))]) (st' := [.inl (some 28)]) (by decide +kernel) (fun k q => by cases q) rfl ?_
  refine y_ic (c := 3) (len := 1) (r := (0, 0, 0, 0)) (by decide +kernel) (by decide) (fun y3037 hy3037 => ?_)
  refine y_put (j := 42) (lo := (-2147483648)) (hi := 2147483647) (len := 3) (r := (4, 8, 0, 292)) (by decide +kernel) hg3036 (tv28 hg3036) aw28 rfl rfl (by decide) rfl (qin_full _).1 (qin_full _).2 rfl (fun h3038 hg3038 hl3038 hs3038 ho3038 => ?_)
  have ho3038 : hO 28 8 h3036 h3038 := ho3038
  have hs3038 : hsl h3038 28 8 = some (zi y3037) := hs3038
  refine y_same (i := .aload_n 0) (len := 1) (r := (0, 0, 0, 0)) (pc' := 24) (ls' := [some (.inl (some 28))]) (st' := [.inl (some 28)]) (by decide +kernel) (fun k q => by cases q) rfl ?_
  refine y_ic (c := 0) (len := 1) (r := (0, 0, 0, 0)) (by decide +kernel) (by decide) (fun y3039 hy3039 => ?_)
  refine y_put (j := 45) (lo := (-2147483648)) (hi := 2147483647) (len := 3) (r := (4, 9, 0, 294)) (by decide +kernel) hg3038 (tv28 hg3038) aw28 rfl rfl (by decide) rfl (qin_full _).1 (qin_full _).2 rfl (fun h3040 hg3040 hl3040 hs3040 ho3040 => ?_)
  have ho3040 : hO 28 9 h3038 h3040 := ho3040
  have hs3040 : hsl h3040 28 9 = some (zi y3039) := hs3040
  refine y_same (i := .aload_n 0) (len := 1) (r := (0, 0, 0, 0)) (pc' := 29) (ls' := [some (.inl (some 28))]) (st' := [.inl (some 28)]) (by decide +kernel) (fun k q => by cases q) rfl ?_
  refine y_ic (c := 0) (len := 1) (r := (0, 0, 0, 0)) (by decide +kernel) (by decide) (fun y3041 hy3041 => ?_)
  refine y_put (j := 48) (lo := (-2147483648)) (hi := 2147483647) (len := 3) (r := (4, 10, 0, 296)) (by decide +kernel) hg3040 (tv28 hg3040) aw28 rfl rfl (by decide) rfl (qin_full _).1 (qin_full _).2 rfl (fun h3042 hg3042 hl3042 hs3042 ho3042 => ?_)
  have ho3042 : hO 28 10 h3040 h3042 := ho3042
  have hs3042 : hsl h3042 28 10 = some (zi y3041) := hs3042
  refine y_same (i := .aload_n 0) (len := 1) (r := (0, 0, 0, 0)) (pc' := 34) (ls' := [some (.inl (some 28))]) (st' := [.inl (some 28)]) (by decide +kernel) (fun k q => by cases q) rfl ?_
  refine y_ic (c := (-1)) (len := 1) (r := (0, 0, 0, 0)) (by decide +kernel) (by decide) (fun y3043 hy3043 => ?_)
  refine y_put (j := 51) (lo := (-2147483648)) (hi := 2147483647) (len := 3) (r := (4, 11, 0, 298)) (by decide +kernel) hg3042 (tv28 hg3042) aw28 rfl rfl (by decide) rfl (qin_full _).1 (qin_full _).2 rfl (fun h3044 hg3044 hl3044 hs3044 ho3044 => ?_)
  have ho3044 : hO 28 11 h3042 h3044 := ho3044
  have hs3044 : hsl h3044 28 11 = some (zi y3043) := hs3044
  refine y_rV (len := 1) (r := (0, 0, 0, 0)) (nL := 1) (n9 := 1) (hs := []) (by decide +kernel) rfl ?_
  have hv3045 := (ho3036 28 6 (Or.inr (by omega))).trans hs3034
  have hv3046 := (ho3038 28 6 (Or.inr (by omega))).trans hv3045
  have hv3047 := (ho3040 28 6 (Or.inr (by omega))).trans hv3046
  have hv3048 := (ho3042 28 6 (Or.inr (by omega))).trans hv3047
  have hv3049 := (ho3044 28 6 (Or.inr (by omega))).trans hv3048
  have hv3050 := (ho3038 28 7 (Or.inr (by omega))).trans hs3036
  have hv3051 := (ho3040 28 7 (Or.inr (by omega))).trans hv3050
  have hv3052 := (ho3042 28 7 (Or.inr (by omega))).trans hv3051
  have hv3053 := (ho3044 28 7 (Or.inr (by omega))).trans hv3052
  have hv3054 := (ho3040 28 8 (Or.inr (by omega))).trans hs3038
  have hv3055 := (ho3042 28 8 (Or.inr (by omega))).trans hv3054
  have hv3056 := (ho3044 28 8 (Or.inr (by omega))).trans hv3055
  have hv3057 := (ho3044 28 10 (Or.inr (by omega))).trans hs3042
  exact ⟨hg3044, ⟨_, hv3049, by omega⟩, ⟨_, hv3053, by omega⟩, ⟨_, hv3056, by omega⟩, ⟨_, hv3057, by omega⟩, ⟨_, (((ho3044 31 2 (by omega)).trans ((ho3042 31 2 (by omega)).trans ((ho3040 31 2 (by omega)).trans ((ho3038 31 2 (by omega)).trans ((ho3036 31 2 (by omega)).trans (ho3034 31 2 (by omega)))))))).trans (c3032 2 (by omega)), by omega⟩, fun k j h1 h2 => ((ho3044 k j (by omega)).trans ((ho3042 k j (by omega)).trans ((ho3040 k j (by omega)).trans ((ho3038 k j (by omega)).trans ((ho3036 k j (by omega)).trans ((ho3034 k j (by omega)).trans (F3032 k j (by omega))))))))⟩
theorem e_jdh28 {Z : Nat → Prop}  {d t u v : Nat} {τ : List Nat} {h : zh} {b : bsT} (hg : hG τ h) (cm : cmI h 29) (ml : kx_ h 28 0 0) (hu : uv_ u v) (l2 : layC h 2) (b2 : bsC h 2 u v b) (ok : okB b) (j0 : kx_ h 28 5 0) (zj : zI Z τ h h 29) : qV (d + 12) 37 [some (.inl (some 28)), some (.inl (some 2)), none, none, none, none] h t (fun h1 => ∃ τ1, aup τ τ1 ∧ jdZ Z h τ1 h1 28 (prfF cyP false b)) := by
  obtain ⟨xj, hj5, ej5⟩ := j0
  have hL0 := len_389 hg
  have uv0 : (u = 1 ∧ v = 6) ∨ (u = 6 ∧ v = 1) := hu
  refine qV_of ?_
  refine y_same (i := .aload_n 0) (len := 1) (r := (0, 0, 0, 0)) (pc' := 1) (ls' := [some (.inl (some 28)), some (.inl (some 2)), none, none, none, none]) (st' := [.inl (some 28)]) (by decide +kernel) (fun k q => by cases q) rfl ?_
  refine y_get (j := 31) (len := 3) (r := (4, 5, 1, 287)) (by decide +kernel) hg (tv28 hg) aw28 rfl rfl hj5 ?_
  refine y_iT (c := .eq) (off := 4) (pc' := 8) (len := 3) (r := (0, 0, 0, 0)) (by decide +kernel) (acmpT (c := .eq) (by show _ = _; omega)) (by decide +kernel) ?_
  refine y_same (i := .aload_n 0) (len := 1) (r := (0, 0, 0, 0)) (pc' := 9) (ls' := [some (.inl (some 28)), some (.inl (some 2)), none, none, none, none]) (st' := [.inl (some 28)]) (by decide +kernel) (fun k q => by cases q) rfl ?_
  refine y_cV (i := .invokevirtual 76) (len := 3) (r := (0, 38, 4, 498)) (nL := 1) (k := 0) (n := 1) (hs := []) (args := [.inl (some 28)]) (rest := []) (l0 := [some (.inl (some 28))]) (by decide +kernel) (Or.inr (Or.inl ⟨_, rfl⟩)) rfl rfl rfl rfl (Nat.le_of_ble_eq_true rfl) (zO hg (tv28 hg) aw28 rfl) rfl (qV_le (by omega) (e_clr28 (d := 0) hg)) (fun h3058 hR3058 => ?_)
  obtain ⟨hg3058, c6, c7, o8, gr, c2, F3058⟩ := hR3058
  refine y_same (i := .aload_n 0) (len := 1) (r := (0, 0, 0, 0)) (pc' := 13) (ls' := [some (.inl (some 28)), some (.inl (some 2)), none, none, none, none]) (st' := [.inl (some 28)]) (by decide +kernel) (fun k q => by cases q) rfl ?_
  refine y_ic (c := 0) (len := 1) (r := (0, 0, 0, 0)) (by decide +kernel) (by decide) (fun y3059 hy3059 => ?_)
  have cm3060 : cmI h3058 29 := cmI_up cm (fun k => (F3058 29 k (by omega) (by omega))) (fun a h3 l => laQ_up l (fun k j h1 h2 _ _ => (F3058 k j (by omega) (by omega))))
  have hL3060 := len_389 hg3058
  have zc3060 : zI Z τ h h3058 29 := zI_fr zj (fun k j c => (F3058 k j (by omega) (by omega)))
  obtain ⟨a, nw3060, hS3060⟩ := e_slx28 (d := 0) (t := t) (k := 0) (xk := y3059) hg3058 cm3060 (by omega) (by omega)
  refine y_cA (i := .invokevirtual 67) (len := 3) (r := (0, 33, 4, 505)) (nL := 3) (k := 3) (n := 2) (hs := []) (args := [.inl (some 28), zi y3059]) (rest := []) (l0 := [some (.inl (some 28)), some (zi y3059), none]) (by decide +kernel) (Or.inr (Or.inl ⟨_, rfl⟩)) rfl rfl rfl rfl (Nat.le_of_ble_eq_true rfl) (zO hg3058 (tv28 hg3058) aw28 rfl) rfl (qA_le (by omega) hS3060) (fun h3060 hR3060 => ?_)
  obtain ⟨τ1, u1, hg3060, cm1, ra1, La, ha1, F3060⟩ := hR3060
  have zs3060 : zI Z τ1 h h3060 29 := zI_s zc3060 hg3058 u1 (by decide) (fun k j h1 h2 => F3060 k j h1 h2) ra1 nw3060
  refine y_same (i := .aload_n 1) (len := 1) (r := (0, 0, 0, 0)) (pc' := 18) (ls' := [some (.inl (some 28)), some (.inl (some 2)), none, none, none, none]) (st' := [.inl (some 2), .inl (some a)]) (by decide +kernel) (fun k q => by cases q) rfl ?_
  refine y_get (j := 79) (len := 3) (r := (9, 0, 2, 20200)) (by decide +kernel) hg3060 (tv2 hg3060) aw1000 rfl rfl (rfs_up b2.1 (((F3060 2 0 (by omega) (by omega)).trans (F3058 2 0 (by omega) (by omega))))) ?_
  refine y_same (i := .aload_n 1) (len := 1) (r := (0, 0, 0, 0)) (pc' := 22) (ls' := [some (.inl (some 28)), some (.inl (some 2)), none, none, none, none]) (st' := [.inl (some 2), .inl (some ((2 + u))), .inl (some a)]) (by decide +kernel) (fun k q => by cases q) rfl ?_
  refine y_get (j := 85) (len := 3) (r := (9, 1, 2, 20204)) (by decide +kernel) hg3060 (tv2 hg3060) aw1000 rfl rfl (rfs_up b2.2.1 (((F3060 2 1 (by omega) (by omega)).trans (F3058 2 1 (by omega) (by omega))))) ?_
  have uv : (u = 1 ∧ v = 6) ∨ (u = 6 ∧ v = 1) := hu
  have lA := lay_u (layC_up l2 (fun k j h1 h2 => ((F3060 k j (by omega) (by omega)).trans (F3058 k j (by omega) (by omega))))) hu
  have tB := tyB_of hg3060 hu (tv2 hg3060) (rfs_up b2.1 (((F3060 2 0 (by omega) (by omega)).trans (F3058 2 0 (by omega) (by omega))))) (rfs_up b2.2.1 (((F3060 2 1 (by omega) (by omega)).trans (F3058 2 1 (by omega) (by omega))))) (layC_up l2 (fun k j h1 h2 => ((F3060 k j (by omega) (by omega)).trans (F3058 k j (by omega) (by omega)))))
  have tA := ty_u tB hu
  refine y_cV (i := .invokevirtual 88) (len := 3) (r := (0, 77, 7, 576)) (nL := 6) (k := 0) (n := 3) (hs := []) (args := [.inl (some a), .inl (some ((2 + u))), .inl (some ((2 + v)))]) (rest := []) (l0 := [some (.inl (some a)), some (.inl (some ((2 + u)))), some (.inl (some ((2 + v)))), none, none, none]) (by decide +kernel) (Or.inr (Or.inl ⟨_, rfl⟩)) rfl rfl rfl rfl (Nat.le_of_ble_eq_true rfl) (zO hg3060 La.2.1.1 aw1008 rfl) rfl (qV_le (by omega) (q_bg (d := 0) (A := b.1) (B := b.2) La tA.1 tA.2 lA.1 lA.2 (sdC_up b2.2.2.1 (fun k j h1 h2 => ((F3060 k j (by omega) (by omega)).trans (F3058 k j (by omega) (by omega))))) (sdC_up b2.2.2.2 (fun k j h1 h2 => ((F3060 k j (by omega) (by omega)).trans (F3058 k j (by omega) (by omega))))) (by omega) (by omega) ok)) (fun h3061 hR3061 => ?_)
  obtain ⟨Q3061, F3061⟩ := hR3061
  refine y_same (i := .aload_n 0) (len := 1) (r := (0, 0, 0, 0)) (pc' := 29) (ls' := [some (.inl (some 28)), some (.inl (some 2)), none, none, none, none]) (st' := [.inl (some 28)]) (by decide +kernel) (fun k q => by cases q) rfl ?_
  refine y_ic (c := (-1)) (len := 1) (r := (0, 0, 0, 0)) (by decide +kernel) (by decide) (fun y3062 hy3062 => ?_)
  have CMs : cmI h3061 29 := cm2 cm1 hg3060 (fun k j h1 h2 => (F3061 k j (by omega))) (by omega) (cm_ty29 hg3060 cm1) La.2.1 Q3061.2.2.1
  have zb : zI Z τ1 h h3061 29 := zI_a (n := 0) zs3060 La.2.1 (by decide) ra1 (by omega) (fun k j h1 h2 => (F3061 k j (by omega)))
  refine y_cV (i := .invokevirtual 92) (len := 3) (r := (0, 42, 4, 631)) (nL := 4) (k := 0) (n := 2) (hs := []) (args := [.inl (some 28), zi y3062]) (rest := []) (l0 := [some (.inl (some 28)), some (zi y3062), none, none]) (by decide +kernel) (Or.inr (Or.inl ⟨_, rfl⟩)) rfl rfl rfl rfl (Nat.le_of_ble_eq_true rfl) (zO Q3061.1 (tv28 Q3061.1) aw28 rfl) rfl (qV_le (by omega) (e_set28f (d := 0) (n := 0) (dn := 0) ha1 Q3061 (bg_nb ok) (rfs_up ra1 ((F3061 29 0 (by omega)))) (by decide) (ci_up c6 (((F3061 28 6 (by omega)).trans (F3060 28 6 (by omega) (by omega))))) (kx_up ml (((F3061 28 0 (by omega)).trans ((F3060 28 0 (by omega) (by omega)).trans (F3058 28 0 (by omega) (by omega)))))) (gR_up gr (((F3061 28 10 (by omega)).trans (F3060 28 10 (by omega) (by omega))))) (ci_up c2 (((F3061 31 2 (by omega)).trans (F3060 31 2 (by omega) (by omega))))) (by decide) (by omega) (L := []) CMs rfl (fun k e hk => (by cases hk)) (fun e m => (by cases m)) (fun k e hk => (by cases hk)))) (fun h3063 hR3063 => ?_)
  obtain ⟨e9, sR, hg3063, pN, cN, dN, gN, F3063⟩ := hR3063
  have ze : zI Z τ1 h h3063 29 := zI_a (n := 0) zb La.2.1 (by decide) (rfs_up ra1 ((F3061 29 0 (by omega)))) (by omega) (fun k j h1 h2 => F3063 k j h1 (by omega) (by omega) (by omega) (by omega))
  refine y_ic (c := 0) (len := 1) (r := (0, 0, 0, 0)) (by decide +kernel) (by decide) (fun y3064 hy3064 => ?_)
  refine y_same (i := .istore_n 2) (len := 1) (r := (0, 0, 0, 0)) (pc' := 35) (ls' := [some (.inl (some 28)), some (.inl (some 2)), some (zi y3064), none, none, none]) (st' := []) (by decide +kernel) (fun k q => by cases q) rfl ?_
  obtain ⟨sE, ag⟩ := setF_ag (cy := cyP) (lv := false) (L := []) (okS_Q Q3061.2.2.2.2) (sR)
  have pF := prE_ag pN ag
  have wE := wf_set sE (bg_nb ok) (by omega) (by omega) (prE_ok pF)
  have CM : cmI h3063 29 := cm2 cm1 hg3060 (fun k j h1 h2 => ((F3063 k j (by omega) (by omega) (by omega) (by omega) (by omega)).trans (F3061 k j (by omega)))) (by omega) (cm_ty29 hg3060 cm1) La.2.1 (by obtain ⟨a9, r9, -, l9, -⟩ := pF; have e7 := rfs_eq r9 (rfs_up ra1 (((F3063 29 0 (by omega) (by omega) (by omega) (by omega) (by omega)).trans (F3061 29 0 (by omega))))); rw [e7] at l9; exact l9.2.2)
  have I2 : prJ Z h τ1 h3063 28 0 ([] ++ [(setF cyP false [] (bgA b) (-1) 1)]) [] := ⟨⟨hg3063, CM, kx_up ml (((F3063 28 0 (by omega) (by omega) (by omega) (by omega) (by omega)).trans ((F3061 28 0 (by omega)).trans ((F3060 28 0 (by omega) (by omega)).trans (F3058 28 0 (by omega) (by omega)))))), cN, ci_up c7 (((F3063 28 7 (by omega) (by omega) (by omega) (by omega) (by omega)).trans ((F3061 28 7 (by omega)).trans (F3060 28 7 (by omega) (by omega))))), fun j w9 hj => (by cases hj), (by rw [dns_app, ← ag.1]; exact dN), gN, fun k e8 hk => (sn_cs hk).elim (fun q => by cases q) (fun q => by obtain ⟨q1, q2⟩ := q; subst q1; subst q2; exact pF)⟩, ze, chI_1 sE.2.1 sE.1⟩
  refine qX_V (jh_l28 300 τ1 h3063 [] (setF cyP false [] (bgA b) (-1) 1) [] y3064 none none none I2 (fun e8 m8 => ?_) ⟨fun j w9 hj => (by cases hj), by have := wE.2.1; exact this⟩ rfl (by decide) (by show _ = ((0 : Nat) : Int); omega) (kx_up o8 (((F3063 28 8 (by omega) (by omega) (by omega) (by omega) (by omega)).trans ((F3061 28 8 (by omega)).trans (F3060 28 8 (by omega) (by omega))))))) (fun h1 hR => ?_)
  · rw [List.mem_singleton.mp m8]
    exact wE
  · obtain ⟨τ2, u2, o2⟩ := hR
    exact ⟨τ2, aup_trans u1 u2, o2⟩
theorem e_jdk28 {d t : Nat} {τ : List Nat} {h : zh} (hg : hG τ h) (j1 : kx_ h 28 5 1) : qV (d + 1) 37 [some (.inl (some 28)), some (.inl (some 2)), none, none, none, none] h t (fun h1 => h = h1) := by
  obtain ⟨xj, hj5, ej5⟩ := j1
  refine qV_of ?_
  refine y_same (i := .aload_n 0) (len := 1) (r := (0, 0, 0, 0)) (pc' := 1) (ls' := [some (.inl (some 28)), some (.inl (some 2)), none, none, none, none]) (st' := [.inl (some 28)]) (by decide +kernel) (fun k q => by cases q) rfl ?_
  refine y_get (j := 31) (len := 3) (r := (4, 5, 1, 287)) (by decide +kernel) hg (tv28 hg) aw28 rfl rfl hj5 ?_
  refine y_iF (c := .eq) (off := 4) (len := 3) (r := (0, 0, 0, 0)) (by decide +kernel) (acmpF (c := .eq) (by show ¬ (_ = _); omega)) ?_
  refine y_rV (len := 1) (r := (0, 0, 0, 0)) (nL := 6) (n9 := 2) (hs := []) (by decide +kernel) rfl ?_
  rfl
