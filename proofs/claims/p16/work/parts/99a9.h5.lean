/-! the class's small heaps: all parts are built -/
def shC (h : zh) (sh : tlT) (n : Nat) : Prop := ∀ k, k < n → ci_ h 50 k (sh k)
theorem rwC_up2 {h h1 : zh} {RA IA : Nat} {l : List it4} (r : rwC h RA IA l) (F : ∀ k j, (k = RA ∨ k = IA) → hsl h1 k j = hsl h k j) : rwC h1 RA IA l := rwC_up r (F _ _ (Or.inl rfl)) (fun j => F _ _ (Or.inr rfl))
theorem bld1_top {f : tlT} {i : it4} {n : Nat} {H : hpT} : (bld1 f i n H).2.2.2 ≤ H.2.2.2 + 1 := by
  unfold bld1
  split
  · exact Nat.le_succ _
  · split
    · split
      · exact Nat.le_succ _
      · split
        · exact Nat.le_succ _
        · exact Nat.le_refl _
    · split
      · exact Nat.le_succ _
      · split
        · exact Nat.le_succ _
        · exact Nat.le_refl _
theorem lo_hi {f : tlT} {i : it4} {n : Nat} (h1 : lo1 f i ≤ n) (h2 : n ≤ hi1 f i) : n ≤ 3 ∧ (i.1 ≤ 2 → n ≤ 2) ∧ (n ≠ 0 → hsS f i) := by
  unfold hi1 at h2
  unfold lo1 at h1 h2
  by_cases q : 2 ≤ i.1 ∧ hsS f i
  · rw [if_pos q] at h1 h2
    rw [if_neg (by decide)] at h2
    refine ⟨?_, fun q1 => ?_, fun _ => q.2⟩
    · split at h2 <;> omega
    · rw [if_pos (by omega)] at h2
      exact h2
  · rw [if_neg q] at h1 h2
    rw [if_pos rfl] at h2
    exact ⟨by omega, fun _ => by omega, fun q1 => by omega⟩
theorem bd_l {d t RA IA : Nat} {τ : List Nat} {h0 : zh} {l : List it4} {f sh : tlT} (tRA : τ[RA]? = some 1002) (tIA : τ[IA]? = some 1005) (hRA : RA < 43) (hIA : IA < 43) (pA0 : hsl h0 RA 0 = some (.inl (some IA))) (r0 : rwC h0 RA IA l) (ok : ∀ (j : Nat) (i : it4), l[j]? = some i → okI i) (vc0 : vC_ h0 f) (sh0 : shC h0 sh l.length) (hl5 : l.length ≤ 5) (hfb : ∀ v, v ≤ 5 → f v ≤ 5) (hsh : ∀ (j : Nat) (i : it4), l[j]? = some i → lo1 f i ≤ sh j ∧ sh j ≤ hi1 f i) (hpos : ∀ (j : Nat) (i : it4), l[j]? = some i → hsS f i → 1 ≤ vX_ f i) : ∀ (n : Nat) (h : zh) (i : Nat) (H : hpT) (xi : Int32) (l3 l4 l5 : Option zv), hG τ h → (∀ k j, (k ≠ 45 ∧ k ≠ 46 ∧ k ≠ 47 ∧ (k ≠ 43 ∨ j ≠ 6)) → hsl h k j = hsl h0 k j) → hpC h H → H.2.2.2 ≤ 5 + i → xi.toInt = (i : Int) → i ≤ l.length → l.length ≤ i + n → qX (d + 2) 127 9 [some (.inl (some 42)), some (.inl (some RA)), some (zi xi), l3, l4, l5] [] h t (rV (fun h1 => hG τ h1 ∧ hpC h1 (bld_ f sh (l.drop i) i H) ∧ ∀ k j, (k ≠ 45 ∧ k ≠ 46 ∧ k ≠ 47 ∧ (k ≠ 43 ∨ j ≠ 6)) → hsl h1 k j = hsl h0 k j) t) := by
  intro n
  induction n with
  | zero =>
    intro h i H xi l3 l4 l5 hg F0 hp ht hxi hi hn
    have pA : hsl h RA 0 = some (.inl (some IA)) := (F0 _ _ (by omega)).trans pA0
    have r : rwC h RA IA l := rwC_up2 r0 (fun k j hk => F0 _ _ (by omega))
    obtain ⟨xl, hl, el⟩ := r.1
    refine y_same (i := .iload_n 2) (len := 1) (r := (0, 0, 0, 0)) (pc' := 10) (ls' := [some (.inl (some 42)), some (.inl (some RA)), some (zi xi), l3, l4, l5]) (st' := [zi xi]) (by decide +kernel) (fun k q => by cases q) rfl ?_
    refine y_same (i := .aload_n 1) (len := 1) (r := (0, 0, 0, 0)) (pc' := 11) (ls' := [some (.inl (some 42)), some (.inl (some RA)), some (zi xi), l3, l4, l5]) (st' := [.inl (some RA), zi xi]) (by decide +kernel) (fun k q => by cases q) rfl ?_
    refine y_get (j := 115) (len := 3) (r := (6, 1, 0, 20170)) (by decide +kernel) hg tRA aw1002 rfl rfl hl ?_
    refine y_cT (c := .ge) (off := 118) (pc' := 132) (len := 3) (r := (0, 0, 0, 0)) (by decide +kernel) (acmpT (c := .ge) (by show _ ≤ _; omega)) (by decide +kernel) ?_
    refine y_rV (len := 1) (r := (0, 0, 0, 0)) (nL := 6) (n9 := 2) (hs := []) (by decide +kernel) rfl ?_
    rw [List.drop_of_length_le (by omega)]
    exact ⟨hg, hp, F0⟩
  | succ n ih =>
    intro h i H xi l3 l4 l5 hg F0 hp ht hxi hi hn
    have pA : hsl h RA 0 = some (.inl (some IA)) := (F0 _ _ (by omega)).trans pA0
    have r : rwC h RA IA l := rwC_up2 r0 (fun k j hk => F0 _ _ (by omega))
    have vc : vC_ h f := vC_up vc0 (fun j => F0 _ _ (by omega))
    obtain ⟨xl, hl, el⟩ := r.1
    rcases Nat.lt_or_ge i l.length with q | q
    · obtain ⟨xn, hn9, en9⟩ := sh0 i (by omega)
      have hn : hsl h 50 i = some (zi xn) := (F0 _ _ (by omega)).trans hn9
      obtain ⟨ik, hk⟩ : ∃ ik, l[i]? = some ik := ⟨_, List.getElem?_eq_getElem q⟩
      have okk := ok i ik hk
      have okk2 := okk
      unfold okI at okk2
      have hs9 := hsh i ik hk
      obtain ⟨b1, b2, b3⟩ := lo_hi hs9.1 hs9.2
      have hp9 := hpos i ik hk
      have hx5 : vX_ f ik ≤ 5 := hfb _ (by omega)
      have hx9 : vX_ f ik = f ik.2.1.toNat := rfl
      have hq9 : ik.1 ≤ 1 → 1 ≤ vX_ f ik := fun q9 => hp9 (Or.inl q9)
      have hw9 : sh i ≠ 0 → 1 ≤ vX_ f ik := fun q9 => hp9 (b3 q9)
      have ed : l.drop i = ik :: l.drop (i + 1) := by
        rw [List.drop_eq_getElem_cons q]
        congr 1
        exact Option.some.inj ((List.getElem?_eq_getElem q).symm.trans hk)
      refine y_same (i := .iload_n 2) (len := 1) (r := (0, 0, 0, 0)) (pc' := 10) (ls' := [some (.inl (some 42)), some (.inl (some RA)), some (zi xi), l3, l4, l5]) (st' := [zi xi]) (by decide +kernel) (fun k q => by cases q) rfl ?_
      refine y_same (i := .aload_n 1) (len := 1) (r := (0, 0, 0, 0)) (pc' := 11) (ls' := [some (.inl (some 42)), some (.inl (some RA)), some (zi xi), l3, l4, l5]) (st' := [.inl (some RA), zi xi]) (by decide +kernel) (fun k q => by cases q) rfl ?_
      refine y_get (j := 115) (len := 3) (r := (6, 1, 0, 20170)) (by decide +kernel) hg tRA aw1002 rfl rfl hl ?_
      refine y_cF (c := .ge) (off := 118) (len := 3) (r := (0, 0, 0, 0)) (by decide +kernel) (acmpF (c := .ge) (by show _ < _; omega)) ?_
      refine y_same (i := .iload_n 2) (len := 1) (r := (0, 0, 0, 0)) (pc' := 18) (ls' := [some (.inl (some 42)), some (.inl (some RA)), some (zi xi), l3, l4, l5]) (st' := [zi xi]) (by decide +kernel) (fun k q => by cases q) rfl ?_
      refine y_ic (c := 5) (len := 1) (r := (0, 0, 0, 0)) (by decide +kernel) (by decide) (fun y3318 hy3318 => ?_)
      refine y_cF (c := .ge) (off := 113) (len := 3) (r := (0, 0, 0, 0)) (by decide +kernel) (acmpF (c := .ge) (by show _ < _; omega)) ?_
      refine y_same (i := .aload_n 0) (len := 1) (r := (0, 0, 0, 0)) (pc' := 23) (ls' := [some (.inl (some 42)), some (.inl (some RA)), some (zi xi), l3, l4, l5]) (st' := [.inl (some 42)]) (by decide +kernel) (fun k q => by cases q) rfl ?_
      refine y_get (j := 12) (len := 3) (r := (10, 0, 2, 359)) (by decide +kernel) hg (tv42 hg) aw42 rfl rfl (g_rU (f := 0) (T2 := 43) hg (tv42 hg) aw42 rfl (by decide)) ?_
      refine y_same (i := .aload_n 1) (len := 1) (r := (0, 0, 0, 0)) (pc' := 27) (ls' := [some (.inl (some 42)), some (.inl (some RA)), some (zi xi), l3, l4, l5]) (st' := [.inl (some RA), .inl (some 43)]) (by decide +kernel) (fun k q => by cases q) rfl ?_
      refine y_same (i := .iload_n 2) (len := 1) (r := (0, 0, 0, 0)) (pc' := 28) (ls' := [some (.inl (some 42)), some (.inl (some RA)), some (zi xi), l3, l4, l5]) (st' := [zi xi, .inl (some RA), .inl (some 43)]) (by decide +kernel) (fun k q => by cases q) rfl ?_
      refine y_ic (c := 1) (len := 1) (r := (0, 0, 0, 0)) (by decide +kernel) (by decide) (fun y3319 hy3319 => ?_)
      refine y_cI (i := .invokevirtual 124) (len := 3) (r := (0, 64, 6, 1219)) (nL := 3) (k := 1) (n := 3) (hs := []) (args := [.inl (some RA), zi xi, zi y3319]) (rest := [.inl (some 43)]) (l0 := [some (.inl (some RA)), some (zi xi), some (zi y3319)]) (by decide +kernel) (Or.inr (Or.inl ⟨_, rfl⟩)) rfl rfl rfl rfl (Nat.le_of_ble_eq_true rfl) (zO hg tRA aw1002 rfl) rfl (qI_le (by omega) (e_tell5 (d := 0) (RA := RA) (IA := IA) (w := 1) hg tRA tIA pA r (by omega) hk okk (by omega) (by omega))) (fun y3320 qy3320 hRy3320 => ?_)
      obtain ⟨rfl, ey3320⟩ := hRy3320
      have ey3320 : y3320.toInt = ik.2.1 := ey3320
      refine y_cI (i := .invokevirtual 89) (len := 3) (r := (0, 11, 1, 1220)) (nL := 2) (k := 1) (n := 2) (hs := []) (args := [.inl (some 43), zi y3320]) (rest := []) (l0 := [some (.inl (some 43)), some (zi y3320)]) (by decide +kernel) (Or.inr (Or.inl ⟨_, rfl⟩)) rfl rfl rfl rfl (Nat.le_of_ble_eq_true rfl) (zO hg (tv43 hg) aw43 rfl) rfl (qI_le (by omega) (e_val (d := 0) (v := ik.2.1.toNat) hg vc (by omega) (by omega))) (fun y3321 qy3321 hRy3321 => ?_)
      obtain ⟨rfl, ey3321⟩ := hRy3321
      refine y_same (i := .istore_n 3) (len := 1) (r := (0, 0, 0, 0)) (pc' := 36) (ls' := [some (.inl (some 42)), some (.inl (some RA)), some (zi xi), some (zi y3321), l4, l5]) (st' := []) (by decide +kernel) (fun k q => by cases q) rfl ?_
      refine y_same (i := .aload_n 0) (len := 1) (r := (0, 0, 0, 0)) (pc' := 37) (ls' := [some (.inl (some 42)), some (.inl (some RA)), some (zi xi), some (zi y3321), l4, l5]) (st' := [.inl (some 42)]) (by decide +kernel) (fun k q => by cases q) rfl ?_
      refine y_get (j := 12) (len := 3) (r := (10, 0, 2, 359)) (by decide +kernel) hg (tv42 hg) aw42 rfl rfl (g_rU (f := 0) (T2 := 43) hg (tv42 hg) aw42 rfl (by decide)) ?_
      refine y_same (i := .aload_n 1) (len := 1) (r := (0, 0, 0, 0)) (pc' := 41) (ls' := [some (.inl (some 42)), some (.inl (some RA)), some (zi xi), some (zi y3321), l4, l5]) (st' := [.inl (some RA), .inl (some 43)]) (by decide +kernel) (fun k q => by cases q) rfl ?_
      refine y_same (i := .iload_n 2) (len := 1) (r := (0, 0, 0, 0)) (pc' := 42) (ls' := [some (.inl (some 42)), some (.inl (some RA)), some (zi xi), some (zi y3321), l4, l5]) (st' := [zi xi, .inl (some RA), .inl (some 43)]) (by decide +kernel) (fun k q => by cases q) rfl ?_
      refine y_ic (c := 2) (len := 1) (r := (0, 0, 0, 0)) (by decide +kernel) (by decide) (fun y3322 hy3322 => ?_)
      refine y_cI (i := .invokevirtual 124) (len := 3) (r := (0, 64, 6, 1219)) (nL := 3) (k := 1) (n := 3) (hs := []) (args := [.inl (some RA), zi xi, zi y3322]) (rest := [.inl (some 43)]) (l0 := [some (.inl (some RA)), some (zi xi), some (zi y3322)]) (by decide +kernel) (Or.inr (Or.inl ⟨_, rfl⟩)) rfl rfl rfl rfl (Nat.le_of_ble_eq_true rfl) (zO hg tRA aw1002 rfl) rfl (qI_le (by omega) (e_tell5 (d := 0) (RA := RA) (IA := IA) (w := 2) hg tRA tIA pA r (by omega) hk okk (by omega) (by omega))) (fun y3323 qy3323 hRy3323 => ?_)
      obtain ⟨rfl, ey3323⟩ := hRy3323
      have ey3323 : y3323.toInt = ik.2.2.1 := ey3323
      refine y_cI (i := .invokevirtual 89) (len := 3) (r := (0, 11, 1, 1220)) (nL := 2) (k := 1) (n := 2) (hs := []) (args := [.inl (some 43), zi y3323]) (rest := []) (l0 := [some (.inl (some 43)), some (zi y3323)]) (by decide +kernel) (Or.inr (Or.inl ⟨_, rfl⟩)) rfl rfl rfl rfl (Nat.le_of_ble_eq_true rfl) (zO hg (tv43 hg) aw43 rfl) rfl (qI_le (by omega) (e_val (d := 0) (v := ik.2.2.1.toNat) hg vc (by omega) (by omega))) (fun y3324 qy3324 hRy3324 => ?_)
      obtain ⟨rfl, ey3324⟩ := hRy3324
      refine y_same (i := .istore 4) (len := 2) (r := (0, 0, 0, 0)) (pc' := 51) (ls' := [some (.inl (some 42)), some (.inl (some RA)), some (zi xi), some (zi y3321), some (zi y3324), l5]) (st' := []) (by decide +kernel) (fun k q => by cases q) rfl ?_
      refine y_same (i := .aload_n 1) (len := 1) (r := (0, 0, 0, 0)) (pc' := 52) (ls' := [some (.inl (some 42)), some (.inl (some RA)), some (zi xi), some (zi y3321), some (zi y3324), l5]) (st' := [.inl (some RA)]) (by decide +kernel) (fun k q => by cases q) rfl ?_
      refine y_same (i := .iload_n 2) (len := 1) (r := (0, 0, 0, 0)) (pc' := 53) (ls' := [some (.inl (some 42)), some (.inl (some RA)), some (zi xi), some (zi y3321), some (zi y3324), l5]) (st' := [zi xi, .inl (some RA)]) (by decide +kernel) (fun k q => by cases q) rfl ?_
      refine y_ic (c := 0) (len := 1) (r := (0, 0, 0, 0)) (by decide +kernel) (by decide) (fun y3325 hy3325 => ?_)
      refine y_cI (i := .invokevirtual 124) (len := 3) (r := (0, 64, 6, 1219)) (nL := 3) (k := 1) (n := 3) (hs := []) (args := [.inl (some RA), zi xi, zi y3325]) (rest := []) (l0 := [some (.inl (some RA)), some (zi xi), some (zi y3325)]) (by decide +kernel) (Or.inr (Or.inl ⟨_, rfl⟩)) rfl rfl rfl rfl (Nat.le_of_ble_eq_true rfl) (zO hg tRA aw1002 rfl) rfl (qI_le (by omega) (e_tell5 (d := 0) (RA := RA) (IA := IA) (w := 0) hg tRA tIA pA r (by omega) hk okk (by omega) (by omega))) (fun y3326 qy3326 hRy3326 => ?_)
      obtain ⟨rfl, ey3326⟩ := hRy3326
      have ey3326 : y3326.toInt = ik.1 := ey3326
      refine y_same (i := .istore 5) (len := 2) (r := (0, 0, 0, 0)) (pc' := 59) (ls' := [some (.inl (some 42)), some (.inl (some RA)), some (zi xi), some (zi y3321), some (zi y3324), some (zi y3326)]) (st' := []) (by decide +kernel) (fun k q => by cases q) rfl ?_
      refine y_same (i := .iload 5) (len := 2) (r := (0, 0, 0, 0)) (pc' := 61) (ls' := [some (.inl (some 42)), some (.inl (some RA)), some (zi xi), some (zi y3321), some (zi y3324), some (zi y3326)]) (st' := [zi y3326]) (by decide +kernel) (fun k q => by cases q) rfl ?_
      refine y_ic (c := 1) (len := 1) (r := (0, 0, 0, 0)) (by decide +kernel) (by decide) (fun y3327 hy3327 => ?_)
      rcases Decidable.em (y3326.toInt > y3327.toInt) with q3328 | q3328
      ·
        refine y_cT (c := .gt) (off := 31) (pc' := 93) (len := 3) (r := (0, 0, 0, 0)) (by decide +kernel) (acmpT (c := .gt) (by show _ < _; omega)) (by decide +kernel) ?_
        refine y_same (i := .iload 5) (len := 2) (r := (0, 0, 0, 0)) (pc' := 95) (ls' := [some (.inl (some 42)), some (.inl (some RA)), some (zi xi), some (zi y3321), some (zi y3324), some (zi y3326)]) (st' := [zi y3326]) (by decide +kernel) (fun k q => by cases q) rfl ?_
        refine y_ic (c := 2) (len := 1) (r := (0, 0, 0, 0)) (by decide +kernel) (by decide) (fun y3329 hy3329 => ?_)
        rcases Decidable.em (y3326.toInt ≠ y3329.toInt) with q3330 | q3330
        ·
          refine y_cT (c := .ne) (off := 19) (pc' := 115) (len := 3) (r := (0, 0, 0, 0)) (by decide +kernel) (acmpT (c := .ne) (by show ¬ (_ = _); omega)) (by decide +kernel) ?_
          refine y_same (i := .aload_n 0) (len := 1) (r := (0, 0, 0, 0)) (pc' := 116) (ls' := [some (.inl (some 42)), some (.inl (some RA)), some (zi xi), some (zi y3321), some (zi y3324), some (zi y3326)]) (st' := [.inl (some 42)]) (by decide +kernel) (fun k q => by cases q) rfl ?_
          refine y_same (i := .iload_n 3) (len := 1) (r := (0, 0, 0, 0)) (pc' := 117) (ls' := [some (.inl (some 42)), some (.inl (some RA)), some (zi xi), some (zi y3321), some (zi y3324), some (zi y3326)]) (st' := [zi y3321, .inl (some 42)]) (by decide +kernel) (fun k q => by cases q) rfl ?_
          refine y_same (i := .aload_n 0) (len := 1) (r := (0, 0, 0, 0)) (pc' := 118) (ls' := [some (.inl (some 42)), some (.inl (some RA)), some (zi xi), some (zi y3321), some (zi y3324), some (zi y3326)]) (st' := [.inl (some 42), zi y3321, .inl (some 42)]) (by decide +kernel) (fun k q => by cases q) rfl ?_
          refine y_get (j := 22) (len := 3) (r := (10, 2, 2, 361)) (by decide +kernel) hg (tv42 hg) aw42 rfl rfl (g_rU (f := 2) (T2 := 50) hg (tv42 hg) aw42 rfl (by decide)) ?_
          refine y_same (i := .iload_n 2) (len := 1) (r := (0, 0, 0, 0)) (pc' := 122) (ls' := [some (.inl (some 42)), some (.inl (some RA)), some (zi xi), some (zi y3321), some (zi y3324), some (zi y3326)]) (st' := [zi xi, .inl (some 50), zi y3321, .inl (some 42)]) (by decide +kernel) (fun k q => by cases q) rfl ?_
          refine y_ial (i := i) (len := 1) (r := (0, 0, 0, 0)) (by decide +kernel) hg (tv50 hg) aw50 (by omega) hn ?_
          refine y_cV (i := .invokevirtual 160) (len := 3) (r := (0, 129, 10, 1251)) (nL := 4) (k := 0) (n := 3) (hs := []) (args := [.inl (some 42), zi y3321, zi xn]) (rest := []) (l0 := [some (.inl (some 42)), some (zi y3321), some (zi xn), none]) (by decide +kernel) (Or.inr (Or.inl ⟨_, rfl⟩)) rfl rfl rfl rfl (Nat.le_of_ble_eq_true rfl) (zO hg (tv42 hg) aw42 rfl) rfl (qV_le (by omega) (e_bt (d := 0) (x := f ik.2.1.toNat) (y := 0) (n := (sh i)) hg hp (by omega) (show (0 : Int32).toInt = ((0 : Nat) : Int) from rfl) (by omega) (by omega) (fun q9 => by omega) (by omega))) (fun h3331 hR3331 => ?_)
          obtain ⟨hg3331, hp3331, F3331⟩ := hR3331
          refine y_inc (j := 2) (a := xi) (c := 1) (ls' := fun v => [some (.inl (some 42)), some (.inl (some RA)), some v, some (zi y3321), some (zi y3324), some (zi y3326)]) (len := 3) (r := (0, 0, 0, 0)) (by decide +kernel) rfl (fun _ => rfl) (by decide) (by omega) (by omega) (fun y3332 hy3332 => ?_)
          show qX (d + 2) 127 129 [some (.inl (some 42)), some (.inl (some RA)), some (zi y3332), some (zi y3321), some (zi y3324), some (zi y3326)] [] h3331 t _
          refine y_goto (off := (-120)) (pc' := 9) (len := 3) (r := (0, 0, 0, 0)) (by decide +kernel) (by decide +kernel) ?_
          have hb9 : hpC h3331 (bld1 f ik (sh i) H) := by
            unfold bld1
            rw [if_neg (by omega), if_neg (by omega)]
            exact hp3331
          have ht9 : (bld1 f ik (sh i) H).2.2.2 ≤ 5 + (i + 1) := Nat.le_trans bld1_top (by omega)
          refine qX_V (ih h3331 (i + 1) _ y3332 _ _ _ hg3331 (fun k j hC => ((F3331 k j (by omega))).trans (F0 k j hC)) hb9 ht9 (by omega) (by omega) (by omega)) (fun h1 hR => ?_)
          rw [ed]
          exact hR
        ·
          refine y_cF (c := .ne) (off := 19) (len := 3) (r := (0, 0, 0, 0)) (by decide +kernel) (acmpF (c := .ne) (by show _ = _; omega)) ?_
          refine y_same (i := .aload_n 0) (len := 1) (r := (0, 0, 0, 0)) (pc' := 100) (ls' := [some (.inl (some 42)), some (.inl (some RA)), some (zi xi), some (zi y3321), some (zi y3324), some (zi y3326)]) (st' := [.inl (some 42)]) (by decide +kernel) (fun k q => by cases q) rfl ?_
          refine y_same (i := .iload_n 3) (len := 1) (r := (0, 0, 0, 0)) (pc' := 101) (ls' := [some (.inl (some 42)), some (.inl (some RA)), some (zi xi), some (zi y3321), some (zi y3324), some (zi y3326)]) (st' := [zi y3321, .inl (some 42)]) (by decide +kernel) (fun k q => by cases q) rfl ?_
          refine y_same (i := .iload 4) (len := 2) (r := (0, 0, 0, 0)) (pc' := 103) (ls' := [some (.inl (some 42)), some (.inl (some RA)), some (zi xi), some (zi y3321), some (zi y3324), some (zi y3326)]) (st' := [zi y3324, zi y3321, .inl (some 42)]) (by decide +kernel) (fun k q => by cases q) rfl ?_
          refine y_same (i := .aload_n 0) (len := 1) (r := (0, 0, 0, 0)) (pc' := 104) (ls' := [some (.inl (some 42)), some (.inl (some RA)), some (zi xi), some (zi y3321), some (zi y3324), some (zi y3326)]) (st' := [.inl (some 42), zi y3324, zi y3321, .inl (some 42)]) (by decide +kernel) (fun k q => by cases q) rfl ?_
          refine y_get (j := 22) (len := 3) (r := (10, 2, 2, 361)) (by decide +kernel) hg (tv42 hg) aw42 rfl rfl (g_rU (f := 2) (T2 := 50) hg (tv42 hg) aw42 rfl (by decide)) ?_
          refine y_same (i := .iload_n 2) (len := 1) (r := (0, 0, 0, 0)) (pc' := 108) (ls' := [some (.inl (some 42)), some (.inl (some RA)), some (zi xi), some (zi y3321), some (zi y3324), some (zi y3326)]) (st' := [zi xi, .inl (some 50), zi y3324, zi y3321, .inl (some 42)]) (by decide +kernel) (fun k q => by cases q) rfl ?_
          refine y_ial (i := i) (len := 1) (r := (0, 0, 0, 0)) (by decide +kernel) hg (tv50 hg) aw50 (by omega) hn ?_
          refine y_cV (i := .invokevirtual 156) (len := 3) (r := (0, 128, 10, 1243)) (nL := 5) (k := 0) (n := 4) (hs := []) (args := [.inl (some 42), zi y3321, zi y3324, zi xn]) (rest := []) (l0 := [some (.inl (some 42)), some (zi y3321), some (zi y3324), some (zi xn), none]) (by decide +kernel) (Or.inr (Or.inl ⟨_, rfl⟩)) rfl rfl rfl rfl (Nat.le_of_ble_eq_true rfl) (zO hg (tv42 hg) aw42 rfl) rfl (qV_le (by omega) (e_bl (d := 0) (x := f ik.2.1.toNat) (y := f ik.2.2.1.toNat) (n := (sh i)) hg hp (by omega) (by omega) (by omega) (by omega) (fun q9 => by omega) (by omega))) (fun h3333 hR3333 => ?_)
          obtain ⟨hg3333, hp3333, F3333⟩ := hR3333
          refine y_goto (off := 14) (pc' := 126) (len := 3) (r := (0, 0, 0, 0)) (by decide +kernel) (by decide +kernel) ?_
          refine y_inc (j := 2) (a := xi) (c := 1) (ls' := fun v => [some (.inl (some 42)), some (.inl (some RA)), some v, some (zi y3321), some (zi y3324), some (zi y3326)]) (len := 3) (r := (0, 0, 0, 0)) (by decide +kernel) rfl (fun _ => rfl) (by decide) (by omega) (by omega) (fun y3334 hy3334 => ?_)
          show qX (d + 2) 127 129 [some (.inl (some 42)), some (.inl (some RA)), some (zi y3334), some (zi y3321), some (zi y3324), some (zi y3326)] [] h3333 t _
          refine y_goto (off := (-120)) (pc' := 9) (len := 3) (r := (0, 0, 0, 0)) (by decide +kernel) (by decide +kernel) ?_
          have hb9 : hpC h3333 (bld1 f ik (sh i) H) := by
            unfold bld1
            rw [if_neg (by omega), if_pos (by omega)]
            exact hp3333
          have ht9 : (bld1 f ik (sh i) H).2.2.2 ≤ 5 + (i + 1) := Nat.le_trans bld1_top (by omega)
          refine qX_V (ih h3333 (i + 1) _ y3334 _ _ _ hg3333 (fun k j hC => ((F3333 k j (by omega))).trans (F0 k j hC)) hb9 ht9 (by omega) (by omega) (by omega)) (fun h1 hR => ?_)
          rw [ed]
          exact hR
      ·
        refine y_cF (c := .gt) (off := 31) (len := 3) (r := (0, 0, 0, 0)) (by decide +kernel) (acmpF (c := .gt) (by show _ ≤ _; omega)) ?_
        refine y_same (i := .aload_n 0) (len := 1) (r := (0, 0, 0, 0)) (pc' := 66) (ls' := [some (.inl (some 42)), some (.inl (some RA)), some (zi xi), some (zi y3321), some (zi y3324), some (zi y3326)]) (st' := [.inl (some 42)]) (by decide +kernel) (fun k q => by cases q) rfl ?_
        refine y_get (j := 12) (len := 3) (r := (10, 0, 2, 359)) (by decide +kernel) hg (tv42 hg) aw42 rfl rfl (g_rU (f := 0) (T2 := 43) hg (tv42 hg) aw42 rfl (by decide)) ?_
        refine y_same (i := .iload_n 3) (len := 1) (r := (0, 0, 0, 0)) (pc' := 70) (ls' := [some (.inl (some 42)), some (.inl (some RA)), some (zi xi), some (zi y3321), some (zi y3324), some (zi y3326)]) (st' := [zi y3321, .inl (some 43)]) (by decide +kernel) (fun k q => by cases q) rfl ?_
        refine y_same (i := .iload 5) (len := 2) (r := (0, 0, 0, 0)) (pc' := 72) (ls' := [some (.inl (some 42)), some (.inl (some RA)), some (zi xi), some (zi y3321), some (zi y3324), some (zi y3326)]) (st' := [zi y3326, zi y3321, .inl (some 43)]) (by decide +kernel) (fun k q => by cases q) rfl ?_
        refine y_same (i := .iload 4) (len := 2) (r := (0, 0, 0, 0)) (pc' := 74) (ls' := [some (.inl (some 42)), some (.inl (some RA)), some (zi xi), some (zi y3321), some (zi y3324), some (zi y3326)]) (st' := [zi y3324, zi y3326, zi y3321, .inl (some 43)]) (by decide +kernel) (fun k q => by cases q) rfl ?_
        refine y_same (i := .aload_n 0) (len := 1) (r := (0, 0, 0, 0)) (pc' := 75) (ls' := [some (.inl (some 42)), some (.inl (some RA)), some (zi xi), some (zi y3321), some (zi y3324), some (zi y3326)]) (st' := [.inl (some 42), zi y3324, zi y3326, zi y3321, .inl (some 43)]) (by decide +kernel) (fun k q => by cases q) rfl ?_
        refine y_get (j := 12) (len := 3) (r := (10, 0, 2, 359)) (by decide +kernel) hg (tv42 hg) aw42 rfl rfl (g_rU (f := 0) (T2 := 43) hg (tv42 hg) aw42 rfl (by decide)) ?_
        refine y_same (i := .aload_n 1) (len := 1) (r := (0, 0, 0, 0)) (pc' := 79) (ls' := [some (.inl (some 42)), some (.inl (some RA)), some (zi xi), some (zi y3321), some (zi y3324), some (zi y3326)]) (st' := [.inl (some RA), .inl (some 43), zi y3324, zi y3326, zi y3321, .inl (some 43)]) (by decide +kernel) (fun k q => by cases q) rfl ?_
        refine y_same (i := .iload_n 2) (len := 1) (r := (0, 0, 0, 0)) (pc' := 80) (ls' := [some (.inl (some 42)), some (.inl (some RA)), some (zi xi), some (zi y3321), some (zi y3324), some (zi y3326)]) (st' := [zi xi, .inl (some RA), .inl (some 43), zi y3324, zi y3326, zi y3321, .inl (some 43)]) (by decide +kernel) (fun k q => by cases q) rfl ?_
        refine y_ic (c := 3) (len := 1) (r := (0, 0, 0, 0)) (by decide +kernel) (by decide) (fun y3335 hy3335 => ?_)
        refine y_cI (i := .invokevirtual 124) (len := 3) (r := (0, 64, 6, 1219)) (nL := 3) (k := 1) (n := 3) (hs := []) (args := [.inl (some RA), zi xi, zi y3335]) (rest := [.inl (some 43), zi y3324, zi y3326, zi y3321, .inl (some 43)]) (l0 := [some (.inl (some RA)), some (zi xi), some (zi y3335)]) (by decide +kernel) (Or.inr (Or.inl ⟨_, rfl⟩)) rfl rfl rfl rfl (Nat.le_of_ble_eq_true rfl) (zO hg tRA aw1002 rfl) rfl (qI_le (by omega) (e_tell5 (d := 0) (RA := RA) (IA := IA) (w := 3) hg tRA tIA pA r (by omega) hk okk (by omega) (by omega))) (fun y3336 qy3336 hRy3336 => ?_)
        obtain ⟨rfl, ey3336⟩ := hRy3336
        have ey3336 : y3336.toInt = ik.2.2.2 := ey3336
        refine y_cI (i := .invokevirtual 89) (len := 3) (r := (0, 11, 1, 1220)) (nL := 2) (k := 1) (n := 2) (hs := []) (args := [.inl (some 43), zi y3336]) (rest := [zi y3324, zi y3326, zi y3321, .inl (some 43)]) (l0 := [some (.inl (some 43)), some (zi y3336)]) (by decide +kernel) (Or.inr (Or.inl ⟨_, rfl⟩)) rfl rfl rfl rfl (Nat.le_of_ble_eq_true rfl) (zO hg (tv43 hg) aw43 rfl) rfl (qI_le (by omega) (e_val (d := 0) (v := ik.2.2.2.toNat) hg vc (by omega) (by omega))) (fun y3337 qy3337 hRy3337 => ?_)
        obtain ⟨rfl, ey3337⟩ := hRy3337
        refine y_cV (i := .invokevirtual 152) (len := 3) (r := (0, 15, 1, 1239)) (nL := 5) (k := 0) (n := 5) (hs := []) (args := [.inl (some 43), zi y3321, zi y3326, zi y3324, zi y3337]) (rest := []) (l0 := [some (.inl (some 43)), some (zi y3321), some (zi y3326), some (zi y3324), some (zi y3337)]) (by decide +kernel) (Or.inr (Or.inl ⟨_, rfl⟩)) rfl rfl rfl rfl (Nat.le_of_ble_eq_true rfl) (zO hg (tv43 hg) aw43 rfl) rfl (qV_le (by omega) (e_put (d := 0) (w := f ik.2.1.toNat) (k := ik.1.toNat) (a := f ik.2.2.1.toNat) (b := f ik.2.2.2.toNat) (H := H) hg hp (by omega) (by omega) (by omega) (by omega) (by omega) (by omega))) (fun h3338 hR3338 => ?_)
        obtain ⟨hg3338, hp3338, F3338⟩ := hR3338
        refine y_goto (off := 36) (pc' := 126) (len := 3) (r := (0, 0, 0, 0)) (by decide +kernel) (by decide +kernel) ?_
        refine y_inc (j := 2) (a := xi) (c := 1) (ls' := fun v => [some (.inl (some 42)), some (.inl (some RA)), some v, some (zi y3321), some (zi y3324), some (zi y3326)]) (len := 3) (r := (0, 0, 0, 0)) (by decide +kernel) rfl (fun _ => rfl) (by decide) (by omega) (by omega) (fun y3339 hy3339 => ?_)
        show qX (d + 2) 127 129 [some (.inl (some 42)), some (.inl (some RA)), some (zi y3339), some (zi y3321), some (zi y3324), some (zi y3326)] [] h3338 t _
        refine y_goto (off := (-120)) (pc' := 9) (len := 3) (r := (0, 0, 0, 0)) (by decide +kernel) (by decide +kernel) ?_
        have hb9 : hpC h3338 (bld1 f ik (sh i) H) := by
          unfold bld1
          rw [if_pos (by omega)]
          rw [show ((ik.1.toNat : Nat) : Int) = ik.1 by omega] at hp3338
          exact hp3338
        have ht9 : (bld1 f ik (sh i) H).2.2.2 ≤ 5 + (i + 1) := Nat.le_trans bld1_top (by omega)
        refine qX_V (ih h3338 (i + 1) _ y3339 _ _ _ hg3338 (fun k j hC => ((F3338 k j (by omega))).trans (F0 k j hC)) hb9 ht9 (by omega) (by omega) (by omega)) (fun h1 hR => ?_)
        rw [ed]
        exact hR
    ·
      refine y_same (i := .iload_n 2) (len := 1) (r := (0, 0, 0, 0)) (pc' := 10) (ls' := [some (.inl (some 42)), some (.inl (some RA)), some (zi xi), l3, l4, l5]) (st' := [zi xi]) (by decide +kernel) (fun k q => by cases q) rfl ?_
      refine y_same (i := .aload_n 1) (len := 1) (r := (0, 0, 0, 0)) (pc' := 11) (ls' := [some (.inl (some 42)), some (.inl (some RA)), some (zi xi), l3, l4, l5]) (st' := [.inl (some RA), zi xi]) (by decide +kernel) (fun k q => by cases q) rfl ?_
      refine y_get (j := 115) (len := 3) (r := (6, 1, 0, 20170)) (by decide +kernel) hg tRA aw1002 rfl rfl hl ?_
      refine y_cT (c := .ge) (off := 118) (pc' := 132) (len := 3) (r := (0, 0, 0, 0)) (by decide +kernel) (acmpT (c := .ge) (by show _ ≤ _; omega)) (by decide +kernel) ?_
      refine y_rV (len := 1) (r := (0, 0, 0, 0)) (nL := 6) (n9 := 2) (hs := []) (by decide +kernel) rfl ?_
      rw [List.drop_of_length_le (by omega)]
      exact ⟨hg, hp, F0⟩
theorem mxv_b {f : tlT} (hfb : ∀ v, v ≤ 5 → f v ≤ 5) : mxv f ≤ 5 := by
  have a := hfb 1 (by omega)
  have b := hfb 2 (by omega)
  have c := hfb 3 (by omega)
  have e := hfb 4 (by omega)
  have g := hfb 5 (by omega)
  unfold mxv
  omega
theorem e_bld {d t RA IA : Nat} {τ : List Nat} {h : zh} {l : List it4} {f sh : tlT} (hg : hG τ h) (tRA : τ[RA]? = some 1002) (tIA : τ[IA]? = some 1005) (hRA : RA < 43) (hIA : IA < 43) (pA : hsl h RA 0 = some (.inl (some IA))) (r : rwC h RA IA l) (ok : ∀ (j : Nat) (i : it4), l[j]? = some i → okI i) (vc0 : vC_ h f) (sh0 : shC h sh l.length) (hl5 : l.length ≤ 5) (hfb : ∀ v, v ≤ 5 → f v ≤ 5) (hsh : ∀ (j : Nat) (i : it4), l[j]? = some i → lo1 f i ≤ sh j ∧ sh j ≤ hi1 f i) (hpos : ∀ (j : Nat) (i : it4), l[j]? = some i → hsS f i → 1 ≤ vX_ f i) : qV (d + 3) 127 [some (.inl (some 42)), some (.inl (some RA)), none, none, none, none] h t (fun h1 => hG τ h1 ∧ hpC h1 (bld_ f sh l 0 (hp0 f)) ∧ ∀ k j, (k ≠ 45 ∧ k ≠ 46 ∧ k ≠ 47 ∧ (k ≠ 43 ∨ j ≠ 6)) → hsl h1 k j = hsl h k j) := by
  refine qV_of ?_
  refine y_same (i := .aload_n 0) (len := 1) (r := (0, 0, 0, 0)) (pc' := 1) (ls' := [some (.inl (some 42)), some (.inl (some RA)), none, none, none, none]) (st' := [.inl (some 42)]) (by decide +kernel) (fun k q => by cases q) rfl ?_
  refine y_get (j := 12) (len := 3) (r := (10, 0, 2, 359)) (by decide +kernel) hg (tv42 hg) aw42 rfl rfl (g_rU (f := 0) (T2 := 43) hg (tv42 hg) aw42 rfl (by decide)) ?_
  refine y_cV (i := .invokevirtual 151) (len := 3) (r := (0, 13, 1, 1233)) (nL := 2) (k := 0) (n := 1) (hs := []) (args := [.inl (some 43)]) (rest := []) (l0 := [some (.inl (some 43)), none]) (by decide +kernel) (Or.inr (Or.inl ⟨_, rfl⟩)) rfl rfl rfl rfl (Nat.le_of_ble_eq_true rfl) (zO hg (tv43 hg) aw43 rfl) rfl (qV_le (by omega) (e_clr (d := 0) hg vc0)) (fun h3340 hR3340 => ?_)
  obtain ⟨hg3340, hp3340, F3340⟩ := hR3340
  refine y_ic (c := 0) (len := 1) (r := (0, 0, 0, 0)) (by decide +kernel) (by decide) (fun y3341 hy3341 => ?_)
  refine y_same (i := .istore_n 2) (len := 1) (r := (0, 0, 0, 0)) (pc' := 9) (ls' := [some (.inl (some 42)), some (.inl (some RA)), some (zi y3341), none, none, none]) (st' := []) (by decide +kernel) (fun k q => by cases q) rfl ?_
  refine qX_V (bd_l (h0 := h3340) tRA tIA hRA hIA ((F3340 RA 0 (by omega)).trans pA) (rwC_up2 r (fun k j hk => (F3340 k j (by omega)))) ok (vC_up vc0 (fun j => (F3340 44 j (by omega)))) (fun k hk => ci_up (sh0 k hk) ((F3340 50 k (by omega)))) hl5 hfb hsh hpos l.length h3340 0 _ y3341 _ _ _ hg3340 (fun k j _ => rfl) hp3340 (Nat.le_trans (mxv_b hfb) (by omega)) (by omega) (by omega) (by omega)) (fun h1 hR => ⟨hR.1, hR.2.1, fun k j hC => (hR.2.2 k j hC).trans ((F3340 k j (by omega)))⟩)
