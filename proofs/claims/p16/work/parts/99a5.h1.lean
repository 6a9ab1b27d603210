/-! the class's small heaps: what variables are, claims, shapes -/
def sw43 : List qs := [.inr (.inl (44, false)), .inr (.inl (45, false)), .inr (.inl (46, false)), .inr (.inl (47, false)), .inr (.inl (48, false)), .inl ((-2147483648), 2147483647), .inl ((-2147483648), 2147483647)]
theorem aw43 : atyp 43 = some (.inr (1, sw43)) := rfl
theorem atav43 : atau[43]? = some 43 := by decide +kernel
theorem tv43 {τ : List Nat} {h : zh} (hg : hG τ h) : τ[43]? = some 43 := hg.1.2.2.1 _ _ atav43
theorem aw44 : atyp 44 = some (.inl (0, 6, [(6, .inl ((-2147483648), 2147483647))])) := rfl
theorem atav44 : atau[44]? = some 44 := by decide +kernel
theorem tv44 {τ : List Nat} {h : zh} (hg : hG τ h) : τ[44]? = some 44 := hg.1.2.2.1 _ _ atav44
theorem aw45 : atyp 45 = some (.inl (0, 11, [(11, .inl ((-2147483648), 2147483647))])) := rfl
theorem atav45 : atau[45]? = some 45 := by decide +kernel
theorem tv45 {τ : List Nat} {h : zh} (hg : hG τ h) : τ[45]? = some 45 := hg.1.2.2.1 _ _ atav45
theorem aw46 : atyp 46 = some (.inl (0, 11, [(11, .inl ((-2147483648), 2147483647))])) := rfl
theorem atav46 : atau[46]? = some 46 := by decide +kernel
theorem tv46 {τ : List Nat} {h : zh} (hg : hG τ h) : τ[46]? = some 46 := hg.1.2.2.1 _ _ atav46
theorem aw47 : atyp 47 = some (.inl (0, 11, [(11, .inl ((-2147483648), 2147483647))])) := rfl
theorem atav47 : atau[47]? = some 47 := by decide +kernel
theorem tv47 {τ : List Nat} {h : zh} (hg : hG τ h) : τ[47]? = some 47 := hg.1.2.2.1 _ _ atav47
theorem aw48 : atyp 48 = some (.inl (0, 23, [(23, .inl ((-2147483648), 2147483647))])) := rfl
theorem atav48 : atau[48]? = some 48 := by decide +kernel
theorem tv48 {τ : List Nat} {h : zh} (hg : hG τ h) : τ[48]? = some 48 := hg.1.2.2.1 _ _ atav48
theorem aw49 : atyp 49 = some (.inl (0, 5, [(5, .inl (0, 5))])) := rfl
theorem atav49 : atau[49]? = some 49 := by decide +kernel
theorem tv49 {τ : List Nat} {h : zh} (hg : hG τ h) : τ[49]? = some 49 := hg.1.2.2.1 _ _ atav49
theorem aw50 : atyp 50 = some (.inl (0, 5, [(5, .inl ((-2147483648), 2147483647))])) := rfl
theorem atav50 : atau[50]? = some 50 := by decide +kernel
theorem tv50 {τ : List Nat} {h : zh} (hg : hG τ h) : τ[50]? = some 50 := hg.1.2.2.1 _ _ atav50
theorem aw51 : atyp 51 = some (.inl (0, 6, [(6, .inl ((-2147483648), 2147483647))])) := rfl
theorem atav51 : atau[51]? = some 51 := by decide +kernel
theorem tv51 {τ : List Nat} {h : zh} (hg : hG τ h) : τ[51]? = some 51 := hg.1.2.2.1 _ _ atav51
def vC_ (h : zh) (f : tlT) : Prop := ∀ v, v ≤ 5 → ci_ h 44 v (f v)
theorem vC_up {h h1 : zh} {f : tlT} (c : vC_ h f) (e : ∀ j, hsl h1 44 j = hsl h 44 j) : vC_ h1 f := fun v hv => ci_up (c v hv) (e v)
theorem e_val {d t v : Nat} {τ : List Nat} {h : zh} {f : tlT} {xv : Int32} (hg : hG τ h) (vc : vC_ h f) (exv : xv.toInt = (v : Int)) (hv : v ≤ 5) : qI (d + 1) 11 [some (.inl (some 43)), some (zi xv)] h t (fun y h1 => h = h1 ∧ y.toInt = (f v : Int)) := by
  obtain ⟨z, hz, ez⟩ := vc v hv
  refine qI_of ?_
  refine y_same (i := .iload_n 1) (len := 1) (r := (0, 0, 0, 0)) (pc' := 1) (ls' := [some (.inl (some 43)), some (zi xv)]) (st' := [zi xv]) (by decide +kernel) (fun k q => by cases q) rfl ?_
  refine y_iF (c := .lt) (off := 17) (len := 3) (r := (0, 0, 0, 0)) (by decide +kernel) (acmpF (c := .lt) (by show _ ≤ _; omega)) ?_
  refine y_same (i := .iload_n 1) (len := 1) (r := (0, 0, 0, 0)) (pc' := 5) (ls' := [some (.inl (some 43)), some (zi xv)]) (st' := [zi xv]) (by decide +kernel) (fun k q => by cases q) rfl ?_
  refine y_ic (c := 5) (len := 1) (r := (0, 0, 0, 0)) (by decide +kernel) (by decide) (fun y3108 hy3108 => ?_)
  refine y_cF (c := .gt) (off := 12) (len := 3) (r := (0, 0, 0, 0)) (by decide +kernel) (acmpF (c := .gt) (by show _ ≤ _; omega)) ?_
  refine y_same (i := .aload_n 0) (len := 1) (r := (0, 0, 0, 0)) (pc' := 10) (ls' := [some (.inl (some 43)), some (zi xv)]) (st' := [.inl (some 43)]) (by decide +kernel) (fun k q => by cases q) rfl ?_
  refine y_get (j := 9) (len := 3) (r := (1, 0, 2, 337)) (by decide +kernel) hg (tv43 hg) aw43 rfl rfl (g_rU (f := 0) (T2 := 44) hg (tv43 hg) aw43 rfl (by decide)) ?_
  refine y_same (i := .iload_n 1) (len := 1) (r := (0, 0, 0, 0)) (pc' := 14) (ls' := [some (.inl (some 43)), some (zi xv)]) (st' := [zi xv, .inl (some 44)]) (by decide +kernel) (fun k q => by cases q) rfl ?_
  refine y_ial (i := v) (len := 1) (r := (0, 0, 0, 0)) (by decide +kernel) hg (tv44 hg) aw44 (by omega) hz ?_
  refine y_goto (off := 4) (pc' := 19) (len := 3) (r := (0, 0, 0, 0)) (by decide +kernel) (by decide +kernel) ?_
  refine y_rI (len := 1) (r := (0, 0, 0, 0)) (nL := 2) (k := 1) (n9 := 2) (hs := []) (by decide +kernel) rfl rfl ?_
  exact ⟨rfl, ez⟩
theorem so6_l {d t RA IA : Nat} {τ : List Nat} {h : zh} {l : List it4} {f : tlT} (hg : hG τ h) (vc : vC_ h f) (tRA : τ[RA]? = some 1003) (tIA : τ[IA]? = some 1006) (pA : hsl h RA 0 = some (.inl (some IA))) (r : rwC h RA IA l) (ok : ∀ (j : Nat) (i : it4), l[j]? = some i → okI i) : ∀ (n i : Nat) (xi : Int32) (l3 : Option zv), xi.toInt = (i : Int) → i ≤ l.length → l.length ≤ i + n → (∀ (j : Nat) (k : it4), j < i → l[j]? = some k → so1 f k) → qX (d + 1) 17 2 [some (.inl (some 43)), some (.inl (some RA)), some (zi xi), l3] [] h t (rI (fun y h1 => h = h1 ∧ ((y.toInt = 1 ∧ arS f l) ∨ (y.toInt = 0 ∧ ¬ arS f l))) t) := by
  obtain ⟨xl, hl, el⟩ := r.1
  obtain ⟨x9, e9, l9, u9⟩ := g_int (i := 1) (lo := 0) (hi := 6) hg tRA aw1003 (by decide) rfl
  have e8 := hl.symm.trans e9
  cases e8
  have fin : ∀ i, l.length ≤ i → (∀ (j : Nat) (k : it4), j < i → l[j]? = some k → so1 f k) → arS f l := fun i hi c k hk => by
    obtain ⟨j, hj⟩ := List.getElem?_of_mem hk
    exact c j k (by have := (List.getElem?_eq_some_iff.mp hj).1; omega) hj
  intro n
  induction n with
  | zero =>
    intro i xi l3 hxi hi hn c1
    refine y_same (i := .iload_n 2) (len := 1) (r := (0, 0, 0, 0)) (pc' := 3) (ls' := [some (.inl (some 43)), some (.inl (some RA)), some (zi xi), l3]) (st' := [zi xi]) (by decide +kernel) (fun k q => by cases q) rfl ?_
    refine y_same (i := .aload_n 1) (len := 1) (r := (0, 0, 0, 0)) (pc' := 4) (ls' := [some (.inl (some 43)), some (.inl (some RA)), some (zi xi), l3]) (st' := [.inl (some RA), zi xi]) (by decide +kernel) (fun k q => by cases q) rfl ?_
    refine y_get (j := 46) (len := 3) (r := (6, 1, 0, 20169)) (by decide +kernel) hg tRA aw1003 rfl rfl hl ?_
    refine y_cT (c := .ge) (off := 59) (pc' := 66) (len := 3) (r := (0, 0, 0, 0)) (by decide +kernel) (acmpT (c := .ge) (by show _ ≤ _; omega)) (by decide +kernel) ?_
    refine y_ic (c := 1) (len := 1) (r := (0, 0, 0, 0)) (by decide +kernel) (by decide) (fun y3134 hy3134 => ?_)
    refine y_rI (len := 1) (r := (0, 0, 0, 0)) (nL := 4) (k := 2) (n9 := 2) (hs := []) (by decide +kernel) rfl (zfit_b (by omega) (by omega)).2 ?_
    exact ⟨rfl, Or.inl ⟨by omega, fin i (by omega) c1⟩⟩
  | succ n ih =>
    intro i xi l3 hxi hi hn c1
    rcases Nat.lt_or_ge i l.length with q | q
    ·
      obtain ⟨ik, hk⟩ : ∃ ik, l[i]? = some ik := ⟨_, List.getElem?_eq_getElem q⟩
      have okk := ok i ik hk
      have okk2 := okk
      unfold okI at okk2
      refine y_same (i := .iload_n 2) (len := 1) (r := (0, 0, 0, 0)) (pc' := 3) (ls' := [some (.inl (some 43)), some (.inl (some RA)), some (zi xi), l3]) (st' := [zi xi]) (by decide +kernel) (fun k q => by cases q) rfl ?_
      refine y_same (i := .aload_n 1) (len := 1) (r := (0, 0, 0, 0)) (pc' := 4) (ls' := [some (.inl (some 43)), some (.inl (some RA)), some (zi xi), l3]) (st' := [.inl (some RA), zi xi]) (by decide +kernel) (fun k q => by cases q) rfl ?_
      refine y_get (j := 46) (len := 3) (r := (6, 1, 0, 20169)) (by decide +kernel) hg tRA aw1003 rfl rfl hl ?_
      refine y_cF (c := .ge) (off := 59) (len := 3) (r := (0, 0, 0, 0)) (by decide +kernel) (acmpF (c := .ge) (by show _ < _; omega)) ?_
      refine y_same (i := .aload_n 0) (len := 1) (r := (0, 0, 0, 0)) (pc' := 11) (ls' := [some (.inl (some 43)), some (.inl (some RA)), some (zi xi), l3]) (st' := [.inl (some 43)]) (by decide +kernel) (fun k q => by cases q) rfl ?_
      refine y_same (i := .aload_n 1) (len := 1) (r := (0, 0, 0, 0)) (pc' := 12) (ls' := [some (.inl (some 43)), some (.inl (some RA)), some (zi xi), l3]) (st' := [.inl (some RA), .inl (some 43)]) (by decide +kernel) (fun k q => by cases q) rfl ?_
      refine y_same (i := .iload_n 2) (len := 1) (r := (0, 0, 0, 0)) (pc' := 13) (ls' := [some (.inl (some 43)), some (.inl (some RA)), some (zi xi), l3]) (st' := [zi xi, .inl (some RA), .inl (some 43)]) (by decide +kernel) (fun k q => by cases q) rfl ?_
      refine y_ic (c := 1) (len := 1) (r := (0, 0, 0, 0)) (by decide +kernel) (by decide) (fun y3109 hy3109 => ?_)
      refine y_cI (i := .invokevirtual 51) (len := 3) (r := (0, 64, 6, 1210)) (nL := 3) (k := 1) (n := 3) (hs := []) (args := [.inl (some RA), zi xi, zi y3109]) (rest := [.inl (some 43)]) (l0 := [some (.inl (some RA)), some (zi xi), some (zi y3109)]) (by decide +kernel) (Or.inr (Or.inl ⟨_, rfl⟩)) rfl rfl rfl rfl (Nat.le_of_ble_eq_true rfl) (zO hg tRA aw1003 rfl) rfl (qI_le (by omega) (e_tell6 (d := 0) (RA := RA) (IA := IA) (w := 1) hg tRA tIA pA r (by omega) hk okk (by omega) (by omega))) (fun y3110 qy3110 hRy3110 => ?_)
      obtain ⟨rfl, ey3110⟩ := hRy3110
      have ey3110 : y3110.toInt = ik.2.1 := ey3110
      refine y_cI (i := .invokevirtual 54) (len := 3) (r := (0, 11, 1, 1211)) (nL := 2) (k := 1) (n := 2) (hs := []) (args := [.inl (some 43), zi y3110]) (rest := []) (l0 := [some (.inl (some 43)), some (zi y3110)]) (by decide +kernel) (Or.inr (Or.inl ⟨_, rfl⟩)) rfl rfl rfl rfl (Nat.le_of_ble_eq_true rfl) (zO hg (tv43 hg) aw43 rfl) rfl (qI_le (by omega) (e_val (d := 0) (v := ik.2.1.toNat) hg vc (by omega) (by omega))) (fun y3111 qy3111 hRy3111 => ?_)
      obtain ⟨rfl, ey3111⟩ := hRy3111
      refine y_same (i := .aload_n 0) (len := 1) (r := (0, 0, 0, 0)) (pc' := 21) (ls' := [some (.inl (some 43)), some (.inl (some RA)), some (zi xi), l3]) (st' := [.inl (some 43), zi y3111]) (by decide +kernel) (fun k q => by cases q) rfl ?_
      refine y_same (i := .aload_n 1) (len := 1) (r := (0, 0, 0, 0)) (pc' := 22) (ls' := [some (.inl (some 43)), some (.inl (some RA)), some (zi xi), l3]) (st' := [.inl (some RA), .inl (some 43), zi y3111]) (by decide +kernel) (fun k q => by cases q) rfl ?_
      refine y_same (i := .iload_n 2) (len := 1) (r := (0, 0, 0, 0)) (pc' := 23) (ls' := [some (.inl (some 43)), some (.inl (some RA)), some (zi xi), l3]) (st' := [zi xi, .inl (some RA), .inl (some 43), zi y3111]) (by decide +kernel) (fun k q => by cases q) rfl ?_
      refine y_ic (c := 2) (len := 1) (r := (0, 0, 0, 0)) (by decide +kernel) (by decide) (fun y3112 hy3112 => ?_)
      refine y_cI (i := .invokevirtual 51) (len := 3) (r := (0, 64, 6, 1210)) (nL := 3) (k := 1) (n := 3) (hs := []) (args := [.inl (some RA), zi xi, zi y3112]) (rest := [.inl (some 43), zi y3111]) (l0 := [some (.inl (some RA)), some (zi xi), some (zi y3112)]) (by decide +kernel) (Or.inr (Or.inl ⟨_, rfl⟩)) rfl rfl rfl rfl (Nat.le_of_ble_eq_true rfl) (zO hg tRA aw1003 rfl) rfl (qI_le (by omega) (e_tell6 (d := 0) (RA := RA) (IA := IA) (w := 2) hg tRA tIA pA r (by omega) hk okk (by omega) (by omega))) (fun y3113 qy3113 hRy3113 => ?_)
      obtain ⟨rfl, ey3113⟩ := hRy3113
      have ey3113 : y3113.toInt = ik.2.2.1 := ey3113
      refine y_cI (i := .invokevirtual 54) (len := 3) (r := (0, 11, 1, 1211)) (nL := 2) (k := 1) (n := 2) (hs := []) (args := [.inl (some 43), zi y3113]) (rest := [zi y3111]) (l0 := [some (.inl (some 43)), some (zi y3113)]) (by decide +kernel) (Or.inr (Or.inl ⟨_, rfl⟩)) rfl rfl rfl rfl (Nat.le_of_ble_eq_true rfl) (zO hg (tv43 hg) aw43 rfl) rfl (qI_le (by omega) (e_val (d := 0) (v := ik.2.2.1.toNat) hg vc (by omega) (by omega))) (fun y3114 qy3114 hRy3114 => ?_)
      obtain ⟨rfl, ey3114⟩ := hRy3114
      rcases Decidable.em (y3111.toInt ≠ y3114.toInt) with q3115 | q3115
      ·
        refine y_cT (c := .ne) (off := 7) (pc' := 37) (len := 3) (r := (0, 0, 0, 0)) (by decide +kernel) (acmpT (c := .ne) (by show ¬ (_ = _); omega)) (by decide +kernel) ?_
        refine y_ic (c := 0) (len := 1) (r := (0, 0, 0, 0)) (by decide +kernel) (by decide) (fun y3116 hy3116 => ?_)
        refine y_same (i := .istore_n 3) (len := 1) (r := (0, 0, 0, 0)) (pc' := 39) (ls' := [some (.inl (some 43)), some (.inl (some RA)), some (zi xi), some (zi y3116)]) (st' := []) (by decide +kernel) (fun k q => by cases q) rfl ?_
        refine y_same (i := .iload_n 3) (len := 1) (r := (0, 0, 0, 0)) (pc' := 40) (ls' := [some (.inl (some 43)), some (.inl (some RA)), some (zi xi), some (zi y3116)]) (st' := [zi y3116]) (by decide +kernel) (fun k q => by cases q) rfl ?_
        refine y_same (i := .aload_n 1) (len := 1) (r := (0, 0, 0, 0)) (pc' := 41) (ls' := [some (.inl (some 43)), some (.inl (some RA)), some (zi xi), some (zi y3116)]) (st' := [.inl (some RA), zi y3116]) (by decide +kernel) (fun k q => by cases q) rfl ?_
        refine y_same (i := .iload_n 2) (len := 1) (r := (0, 0, 0, 0)) (pc' := 42) (ls' := [some (.inl (some 43)), some (.inl (some RA)), some (zi xi), some (zi y3116)]) (st' := [zi xi, .inl (some RA), zi y3116]) (by decide +kernel) (fun k q => by cases q) rfl ?_
        refine y_ic (c := 0) (len := 1) (r := (0, 0, 0, 0)) (by decide +kernel) (by decide) (fun y3117 hy3117 => ?_)
        refine y_cI (i := .invokevirtual 51) (len := 3) (r := (0, 64, 6, 1210)) (nL := 3) (k := 1) (n := 3) (hs := []) (args := [.inl (some RA), zi xi, zi y3117]) (rest := [zi y3116]) (l0 := [some (.inl (some RA)), some (zi xi), some (zi y3117)]) (by decide +kernel) (Or.inr (Or.inl ⟨_, rfl⟩)) rfl rfl rfl rfl (Nat.le_of_ble_eq_true rfl) (zO hg tRA aw1003 rfl) rfl (qI_le (by omega) (e_tell6 (d := 0) (RA := RA) (IA := IA) (w := 0) hg tRA tIA pA r (by omega) hk okk (by omega) (by omega))) (fun y3118 qy3118 hRy3118 => ?_)
        obtain ⟨rfl, ey3118⟩ := hRy3118
        have ey3118 : y3118.toInt = ik.1 := ey3118
        refine y_ic (c := 1) (len := 1) (r := (0, 0, 0, 0)) (by decide +kernel) (by decide) (fun y3119 hy3119 => ?_)
        rcases Decidable.em (y3118.toInt ≠ y3119.toInt) with q3120 | q3120
        ·
          refine y_cT (c := .ne) (off := 7) (pc' := 54) (len := 3) (r := (0, 0, 0, 0)) (by decide +kernel) (acmpT (c := .ne) (by show ¬ (_ = _); omega)) (by decide +kernel) ?_
          refine y_ic (c := 0) (len := 1) (r := (0, 0, 0, 0)) (by decide +kernel) (by decide) (fun y3121 hy3121 => ?_)
          refine y_cT (c := .eq) (off := 5) (pc' := 60) (len := 3) (r := (0, 0, 0, 0)) (by decide +kernel) (acmpT (c := .eq) (by show _ = _; omega)) (by decide +kernel) ?_
          refine y_inc (j := 2) (a := xi) (c := 1) (ls' := fun v => [some (.inl (some 43)), some (.inl (some RA)), some v, some (zi y3116)]) (len := 3) (r := (0, 0, 0, 0)) (by decide +kernel) rfl (fun _ => rfl) (by decide) (by omega) (by omega) (fun y3122 hy3122 => ?_)
          show qX (d + 1) 17 63 [some (.inl (some 43)), some (.inl (some RA)), some (zi y3122), some (zi y3116)] [] h t _
          refine y_goto (off := (-61)) (pc' := 2) (len := 3) (r := (0, 0, 0, 0)) (by decide +kernel) (by decide +kernel) ?_
          refine ih (i + 1) y3122 _ (by omega) (by omega) (by omega) (fun j k hj hk9 => ?_)
          rcases Nat.lt_or_ge j i with q9 | q9
          · exact c1 j k q9 hk9
          · have e9 : j = i := by omega
            subst e9
            have e8 := Option.some.inj (hk.symm.trans hk9)
            subst e8
            show (vX_ f ik = vY_ f ik) ↔ ik.1 = 1
            unfold vX_ vY_
            omega
        ·
          refine y_cF (c := .ne) (off := 7) (len := 3) (r := (0, 0, 0, 0)) (by decide +kernel) (acmpF (c := .ne) (by show _ = _; omega)) ?_
          refine y_ic (c := 1) (len := 1) (r := (0, 0, 0, 0)) (by decide +kernel) (by decide) (fun y3123 hy3123 => ?_)
          refine y_goto (off := 4) (pc' := 55) (len := 3) (r := (0, 0, 0, 0)) (by decide +kernel) (by decide +kernel) ?_
          refine y_cF (c := .eq) (off := 5) (len := 3) (r := (0, 0, 0, 0)) (by decide +kernel) (acmpF (c := .eq) (by show ¬ (_ = _); omega)) ?_
          refine y_ic (c := 0) (len := 1) (r := (0, 0, 0, 0)) (by decide +kernel) (by decide) (fun y3124 hy3124 => ?_)
          refine y_rI (len := 1) (r := (0, 0, 0, 0)) (nL := 4) (k := 2) (n9 := 2) (hs := []) (by decide +kernel) rfl (zfit_b (by omega) (by omega)).2 ?_
          refine ⟨rfl, Or.inr ⟨by omega, fun a9 => ?_⟩⟩
          have a8 : (vX_ f ik = vY_ f ik) ↔ ik.1 = 1 := a9 ik (List.mem_of_getElem? hk)
          unfold vX_ vY_ at a8
          omega
      ·
        refine y_cF (c := .ne) (off := 7) (len := 3) (r := (0, 0, 0, 0)) (by decide +kernel) (acmpF (c := .ne) (by show _ = _; omega)) ?_
        refine y_ic (c := 1) (len := 1) (r := (0, 0, 0, 0)) (by decide +kernel) (by decide) (fun y3125 hy3125 => ?_)
        refine y_goto (off := 4) (pc' := 38) (len := 3) (r := (0, 0, 0, 0)) (by decide +kernel) (by decide +kernel) ?_
        refine y_same (i := .istore_n 3) (len := 1) (r := (0, 0, 0, 0)) (pc' := 39) (ls' := [some (.inl (some 43)), some (.inl (some RA)), some (zi xi), some (zi y3125)]) (st' := []) (by decide +kernel) (fun k q => by cases q) rfl ?_
        refine y_same (i := .iload_n 3) (len := 1) (r := (0, 0, 0, 0)) (pc' := 40) (ls' := [some (.inl (some 43)), some (.inl (some RA)), some (zi xi), some (zi y3125)]) (st' := [zi y3125]) (by decide +kernel) (fun k q => by cases q) rfl ?_
        refine y_same (i := .aload_n 1) (len := 1) (r := (0, 0, 0, 0)) (pc' := 41) (ls' := [some (.inl (some 43)), some (.inl (some RA)), some (zi xi), some (zi y3125)]) (st' := [.inl (some RA), zi y3125]) (by decide +kernel) (fun k q => by cases q) rfl ?_
        refine y_same (i := .iload_n 2) (len := 1) (r := (0, 0, 0, 0)) (pc' := 42) (ls' := [some (.inl (some 43)), some (.inl (some RA)), some (zi xi), some (zi y3125)]) (st' := [zi xi, .inl (some RA), zi y3125]) (by decide +kernel) (fun k q => by cases q) rfl ?_
        refine y_ic (c := 0) (len := 1) (r := (0, 0, 0, 0)) (by decide +kernel) (by decide) (fun y3126 hy3126 => ?_)
        refine y_cI (i := .invokevirtual 51) (len := 3) (r := (0, 64, 6, 1210)) (nL := 3) (k := 1) (n := 3) (hs := []) (args := [.inl (some RA), zi xi, zi y3126]) (rest := [zi y3125]) (l0 := [some (.inl (some RA)), some (zi xi), some (zi y3126)]) (by decide +kernel) (Or.inr (Or.inl ⟨_, rfl⟩)) rfl rfl rfl rfl (Nat.le_of_ble_eq_true rfl) (zO hg tRA aw1003 rfl) rfl (qI_le (by omega) (e_tell6 (d := 0) (RA := RA) (IA := IA) (w := 0) hg tRA tIA pA r (by omega) hk okk (by omega) (by omega))) (fun y3127 qy3127 hRy3127 => ?_)
        obtain ⟨rfl, ey3127⟩ := hRy3127
        have ey3127 : y3127.toInt = ik.1 := ey3127
        refine y_ic (c := 1) (len := 1) (r := (0, 0, 0, 0)) (by decide +kernel) (by decide) (fun y3128 hy3128 => ?_)
        rcases Decidable.em (y3127.toInt ≠ y3128.toInt) with q3129 | q3129
        ·
          refine y_cT (c := .ne) (off := 7) (pc' := 54) (len := 3) (r := (0, 0, 0, 0)) (by decide +kernel) (acmpT (c := .ne) (by show ¬ (_ = _); omega)) (by decide +kernel) ?_
          refine y_ic (c := 0) (len := 1) (r := (0, 0, 0, 0)) (by decide +kernel) (by decide) (fun y3130 hy3130 => ?_)
          refine y_cF (c := .eq) (off := 5) (len := 3) (r := (0, 0, 0, 0)) (by decide +kernel) (acmpF (c := .eq) (by show ¬ (_ = _); omega)) ?_
          refine y_ic (c := 0) (len := 1) (r := (0, 0, 0, 0)) (by decide +kernel) (by decide) (fun y3131 hy3131 => ?_)
          refine y_rI (len := 1) (r := (0, 0, 0, 0)) (nL := 4) (k := 2) (n9 := 2) (hs := []) (by decide +kernel) rfl (zfit_b (by omega) (by omega)).2 ?_
          refine ⟨rfl, Or.inr ⟨by omega, fun a9 => ?_⟩⟩
          have a8 : (vX_ f ik = vY_ f ik) ↔ ik.1 = 1 := a9 ik (List.mem_of_getElem? hk)
          unfold vX_ vY_ at a8
          omega
        ·
          refine y_cF (c := .ne) (off := 7) (len := 3) (r := (0, 0, 0, 0)) (by decide +kernel) (acmpF (c := .ne) (by show _ = _; omega)) ?_
          refine y_ic (c := 1) (len := 1) (r := (0, 0, 0, 0)) (by decide +kernel) (by decide) (fun y3132 hy3132 => ?_)
          refine y_goto (off := 4) (pc' := 55) (len := 3) (r := (0, 0, 0, 0)) (by decide +kernel) (by decide +kernel) ?_
          refine y_cT (c := .eq) (off := 5) (pc' := 60) (len := 3) (r := (0, 0, 0, 0)) (by decide +kernel) (acmpT (c := .eq) (by show _ = _; omega)) (by decide +kernel) ?_
          refine y_inc (j := 2) (a := xi) (c := 1) (ls' := fun v => [some (.inl (some 43)), some (.inl (some RA)), some v, some (zi y3125)]) (len := 3) (r := (0, 0, 0, 0)) (by decide +kernel) rfl (fun _ => rfl) (by decide) (by omega) (by omega) (fun y3133 hy3133 => ?_)
          show qX (d + 1) 17 63 [some (.inl (some 43)), some (.inl (some RA)), some (zi y3133), some (zi y3125)] [] h t _
          refine y_goto (off := (-61)) (pc' := 2) (len := 3) (r := (0, 0, 0, 0)) (by decide +kernel) (by decide +kernel) ?_
          refine ih (i + 1) y3133 _ (by omega) (by omega) (by omega) (fun j k hj hk9 => ?_)
          rcases Nat.lt_or_ge j i with q9 | q9
          · exact c1 j k q9 hk9
          · have e9 : j = i := by omega
            subst e9
            have e8 := Option.some.inj (hk.symm.trans hk9)
            subst e8
            show (vX_ f ik = vY_ f ik) ↔ ik.1 = 1
            unfold vX_ vY_
            omega
    ·
      refine y_same (i := .iload_n 2) (len := 1) (r := (0, 0, 0, 0)) (pc' := 3) (ls' := [some (.inl (some 43)), some (.inl (some RA)), some (zi xi), l3]) (st' := [zi xi]) (by decide +kernel) (fun k q => by cases q) rfl ?_
      refine y_same (i := .aload_n 1) (len := 1) (r := (0, 0, 0, 0)) (pc' := 4) (ls' := [some (.inl (some 43)), some (.inl (some RA)), some (zi xi), l3]) (st' := [.inl (some RA), zi xi]) (by decide +kernel) (fun k q => by cases q) rfl ?_
      refine y_get (j := 46) (len := 3) (r := (6, 1, 0, 20169)) (by decide +kernel) hg tRA aw1003 rfl rfl hl ?_
      refine y_cT (c := .ge) (off := 59) (pc' := 66) (len := 3) (r := (0, 0, 0, 0)) (by decide +kernel) (acmpT (c := .ge) (by show _ ≤ _; omega)) (by decide +kernel) ?_
      refine y_ic (c := 1) (len := 1) (r := (0, 0, 0, 0)) (by decide +kernel) (by decide) (fun y3135 hy3135 => ?_)
      refine y_rI (len := 1) (r := (0, 0, 0, 0)) (nL := 4) (k := 2) (n9 := 2) (hs := []) (by decide +kernel) rfl (zfit_b (by omega) (by omega)).2 ?_
      exact ⟨rfl, Or.inl ⟨by omega, fin i (by omega) c1⟩⟩
theorem e_so6 {d t RA IA : Nat} {τ : List Nat} {h : zh} {l : List it4} {f : tlT} (hg : hG τ h) (vc : vC_ h f) (tRA : τ[RA]? = some 1003) (tIA : τ[IA]? = some 1006) (pA : hsl h RA 0 = some (.inl (some IA))) (r : rwC h RA IA l) (ok : ∀ (j : Nat) (i : it4), l[j]? = some i → okI i) : qI (d + 2) 17 [some (.inl (some 43)), some (.inl (some RA)), none, none] h t (fun y h1 => h = h1 ∧ ((y.toInt = 1 ∧ arS f l) ∨ (y.toInt = 0 ∧ ¬ arS f l))) := by
  refine qI_of ?_
  refine y_ic (c := 0) (len := 1) (r := (0, 0, 0, 0)) (by decide +kernel) (by decide) (fun y3136 hy3136 => ?_)
  refine y_same (i := .istore_n 2) (len := 1) (r := (0, 0, 0, 0)) (pc' := 2) (ls' := [some (.inl (some 43)), some (.inl (some RA)), some (zi y3136), none]) (st' := []) (by decide +kernel) (fun k q => by cases q) rfl ?_
  exact so6_l hg vc tRA tIA pA r ok l.length 0 y3136 _ (by omega) (by omega) (by omega) (fun j k hj _ => absurd hj (Nat.not_lt_zero j))
theorem e_hs {d t k RA IA : Nat} {τ : List Nat} {h : zh} {l : List it4} {f : tlT} {ik : it4} {xk : Int32} (hg : hG τ h) (vc : vC_ h f) (tRA : τ[RA]? = some 1002) (tIA : τ[IA]? = some 1005) (pA : hsl h RA 0 = some (.inl (some IA))) (r : rwC h RA IA l) (ok : ∀ (j : Nat) (i : it4), l[j]? = some i → okI i) (exk : xk.toInt = (k : Int)) (hk : l[k]? = some ik) : qI (d + 2) 122 [some (.inl (some 42)), some (.inl (some RA)), some (zi xk)] h t (fun y h1 => h = h1 ∧ ((y.toInt = 1 ∧ hsS f ik) ∨ (y.toInt = 0 ∧ ¬ hsS f ik))) := by
  have okk := ok k ik hk
  have okk2 := okk
  unfold okI at okk2
  refine qI_of ?_
  refine y_same (i := .aload_n 1) (len := 1) (r := (0, 0, 0, 0)) (pc' := 1) (ls' := [some (.inl (some 42)), some (.inl (some RA)), some (zi xk)]) (st' := [.inl (some RA)]) (by decide +kernel) (fun k q => by cases q) rfl ?_
  refine y_same (i := .iload_n 2) (len := 1) (r := (0, 0, 0, 0)) (pc' := 2) (ls' := [some (.inl (some 42)), some (.inl (some RA)), some (zi xk)]) (st' := [zi xk, .inl (some RA)]) (by decide +kernel) (fun k q => by cases q) rfl ?_
  refine y_ic (c := 0) (len := 1) (r := (0, 0, 0, 0)) (by decide +kernel) (by decide) (fun y3137 hy3137 => ?_)
  refine y_cI (i := .invokevirtual 124) (len := 3) (r := (0, 64, 6, 1219)) (nL := 3) (k := 1) (n := 3) (hs := []) (args := [.inl (some RA), zi xk, zi y3137]) (rest := []) (l0 := [some (.inl (some RA)), some (zi xk), some (zi y3137)]) (by decide +kernel) (Or.inr (Or.inl ⟨_, rfl⟩)) rfl rfl rfl rfl (Nat.le_of_ble_eq_true rfl) (zO hg tRA aw1002 rfl) rfl (qI_le (by omega) (e_tell5 (d := 0) (RA := RA) (IA := IA) (w := 0) hg tRA tIA pA r (by omega) hk okk (by omega) (by omega))) (fun y3138 qy3138 hRy3138 => ?_)
  obtain ⟨rfl, ey3138⟩ := hRy3138
  have ey3138 : y3138.toInt = ik.1 := ey3138
  refine y_ic (c := 1) (len := 1) (r := (0, 0, 0, 0)) (by decide +kernel) (by decide) (fun y3139 hy3139 => ?_)
  rcases Decidable.em (y3138.toInt ≤ y3139.toInt) with q3140 | q3140
  ·
    refine y_cT (c := .le) (off := 32) (pc' := 39) (len := 3) (r := (0, 0, 0, 0)) (by decide +kernel) (acmpT (c := .le) (by show _ ≤ _; omega)) (by decide +kernel) ?_
    refine y_ic (c := 1) (len := 1) (r := (0, 0, 0, 0)) (by decide +kernel) (by decide) (fun y3141 hy3141 => ?_)
    refine y_goto (off := 4) (pc' := 44) (len := 3) (r := (0, 0, 0, 0)) (by decide +kernel) (by decide +kernel) ?_
    refine y_rI (len := 1) (r := (0, 0, 0, 0)) (nL := 3) (k := 2) (n9 := 3) (hs := []) (by decide +kernel) rfl (zfit_b (by omega) (by omega)).2 ?_
    refine ⟨rfl, ?_⟩
    unfold hsS vX_ vY_
    omega
  ·
    refine y_cF (c := .le) (off := 32) (len := 3) (r := (0, 0, 0, 0)) (by decide +kernel) (acmpF (c := .le) (by show _ < _; omega)) ?_
    refine y_same (i := .aload_n 0) (len := 1) (r := (0, 0, 0, 0)) (pc' := 11) (ls' := [some (.inl (some 42)), some (.inl (some RA)), some (zi xk)]) (st' := [.inl (some 42)]) (by decide +kernel) (fun k q => by cases q) rfl ?_
    refine y_get (j := 12) (len := 3) (r := (10, 0, 2, 359)) (by decide +kernel) hg (tv42 hg) aw42 rfl rfl (g_rU (f := 0) (T2 := 43) hg (tv42 hg) aw42 rfl (by decide)) ?_
    refine y_same (i := .aload_n 1) (len := 1) (r := (0, 0, 0, 0)) (pc' := 15) (ls' := [some (.inl (some 42)), some (.inl (some RA)), some (zi xk)]) (st' := [.inl (some RA), .inl (some 43)]) (by decide +kernel) (fun k q => by cases q) rfl ?_
    refine y_same (i := .iload_n 2) (len := 1) (r := (0, 0, 0, 0)) (pc' := 16) (ls' := [some (.inl (some 42)), some (.inl (some RA)), some (zi xk)]) (st' := [zi xk, .inl (some RA), .inl (some 43)]) (by decide +kernel) (fun k q => by cases q) rfl ?_
    refine y_ic (c := 1) (len := 1) (r := (0, 0, 0, 0)) (by decide +kernel) (by decide) (fun y3142 hy3142 => ?_)
    refine y_cI (i := .invokevirtual 124) (len := 3) (r := (0, 64, 6, 1219)) (nL := 3) (k := 1) (n := 3) (hs := []) (args := [.inl (some RA), zi xk, zi y3142]) (rest := [.inl (some 43)]) (l0 := [some (.inl (some RA)), some (zi xk), some (zi y3142)]) (by decide +kernel) (Or.inr (Or.inl ⟨_, rfl⟩)) rfl rfl rfl rfl (Nat.le_of_ble_eq_true rfl) (zO hg tRA aw1002 rfl) rfl (qI_le (by omega) (e_tell5 (d := 0) (RA := RA) (IA := IA) (w := 1) hg tRA tIA pA r (by omega) hk okk (by omega) (by omega))) (fun y3143 qy3143 hRy3143 => ?_)
    obtain ⟨rfl, ey3143⟩ := hRy3143
    have ey3143 : y3143.toInt = ik.2.1 := ey3143
    refine y_cI (i := .invokevirtual 89) (len := 3) (r := (0, 11, 1, 1220)) (nL := 2) (k := 1) (n := 2) (hs := []) (args := [.inl (some 43), zi y3143]) (rest := []) (l0 := [some (.inl (some 43)), some (zi y3143)]) (by decide +kernel) (Or.inr (Or.inl ⟨_, rfl⟩)) rfl rfl rfl rfl (Nat.le_of_ble_eq_true rfl) (zO hg (tv43 hg) aw43 rfl) rfl (qI_le (by omega) (e_val (d := 0) (v := ik.2.1.toNat) hg vc (by omega) (by omega))) (fun y3144 qy3144 hRy3144 => ?_)
    obtain ⟨rfl, ey3144⟩ := hRy3144
    refine y_same (i := .aload_n 0) (len := 1) (r := (0, 0, 0, 0)) (pc' := 24) (ls' := [some (.inl (some 42)), some (.inl (some RA)), some (zi xk)]) (st' := [.inl (some 42), zi y3144]) (by decide +kernel) (fun k q => by cases q) rfl ?_
    refine y_get (j := 12) (len := 3) (r := (10, 0, 2, 359)) (by decide +kernel) hg (tv42 hg) aw42 rfl rfl (g_rU (f := 0) (T2 := 43) hg (tv42 hg) aw42 rfl (by decide)) ?_
    refine y_same (i := .aload_n 1) (len := 1) (r := (0, 0, 0, 0)) (pc' := 28) (ls' := [some (.inl (some 42)), some (.inl (some RA)), some (zi xk)]) (st' := [.inl (some RA), .inl (some 43), zi y3144]) (by decide +kernel) (fun k q => by cases q) rfl ?_
    refine y_same (i := .iload_n 2) (len := 1) (r := (0, 0, 0, 0)) (pc' := 29) (ls' := [some (.inl (some 42)), some (.inl (some RA)), some (zi xk)]) (st' := [zi xk, .inl (some RA), .inl (some 43), zi y3144]) (by decide +kernel) (fun k q => by cases q) rfl ?_
    refine y_ic (c := 2) (len := 1) (r := (0, 0, 0, 0)) (by decide +kernel) (by decide) (fun y3145 hy3145 => ?_)
    refine y_cI (i := .invokevirtual 124) (len := 3) (r := (0, 64, 6, 1219)) (nL := 3) (k := 1) (n := 3) (hs := []) (args := [.inl (some RA), zi xk, zi y3145]) (rest := [.inl (some 43), zi y3144]) (l0 := [some (.inl (some RA)), some (zi xk), some (zi y3145)]) (by decide +kernel) (Or.inr (Or.inl ⟨_, rfl⟩)) rfl rfl rfl rfl (Nat.le_of_ble_eq_true rfl) (zO hg tRA aw1002 rfl) rfl (qI_le (by omega) (e_tell5 (d := 0) (RA := RA) (IA := IA) (w := 2) hg tRA tIA pA r (by omega) hk okk (by omega) (by omega))) (fun y3146 qy3146 hRy3146 => ?_)
    obtain ⟨rfl, ey3146⟩ := hRy3146
    have ey3146 : y3146.toInt = ik.2.2.1 := ey3146
    refine y_cI (i := .invokevirtual 89) (len := 3) (r := (0, 11, 1, 1220)) (nL := 2) (k := 1) (n := 2) (hs := []) (args := [.inl (some 43), zi y3146]) (rest := [zi y3144]) (l0 := [some (.inl (some 43)), some (zi y3146)]) (by decide +kernel) (Or.inr (Or.inl ⟨_, rfl⟩)) rfl rfl rfl rfl (Nat.le_of_ble_eq_true rfl) (zO hg (tv43 hg) aw43 rfl) rfl (qI_le (by omega) (e_val (d := 0) (v := ik.2.2.1.toNat) hg vc (by omega) (by omega))) (fun y3147 qy3147 hRy3147 => ?_)
    obtain ⟨rfl, ey3147⟩ := hRy3147
    rcases Decidable.em (y3144.toInt = y3147.toInt) with q3148 | q3148
    ·
      refine y_cT (c := .eq) (off := 7) (pc' := 43) (len := 3) (r := (0, 0, 0, 0)) (by decide +kernel) (acmpT (c := .eq) (by show _ = _; omega)) (by decide +kernel) ?_
      refine y_ic (c := 0) (len := 1) (r := (0, 0, 0, 0)) (by decide +kernel) (by decide) (fun y3149 hy3149 => ?_)
      refine y_rI (len := 1) (r := (0, 0, 0, 0)) (nL := 3) (k := 2) (n9 := 3) (hs := []) (by decide +kernel) rfl (zfit_b (by omega) (by omega)).2 ?_
      refine ⟨rfl, ?_⟩
      unfold hsS vX_ vY_
      omega
    ·
      refine y_cF (c := .eq) (off := 7) (len := 3) (r := (0, 0, 0, 0)) (by decide +kernel) (acmpF (c := .eq) (by show ¬ (_ = _); omega)) ?_
      refine y_ic (c := 1) (len := 1) (r := (0, 0, 0, 0)) (by decide +kernel) (by decide) (fun y3150 hy3150 => ?_)
      refine y_goto (off := 4) (pc' := 44) (len := 3) (r := (0, 0, 0, 0)) (by decide +kernel) (by decide +kernel) ?_
      refine y_rI (len := 1) (r := (0, 0, 0, 0)) (nL := 3) (k := 2) (n9 := 3) (hs := []) (by decide +kernel) rfl (zfit_b (by omega) (by omega)).2 ?_
      refine ⟨rfl, ?_⟩
      unfold hsS vX_ vY_
      omega
theorem e_ls {d t k RA IA : Nat} {τ : List Nat} {h : zh} {l : List it4} {f : tlT} {ik : it4} {xk : Int32} (hg : hG τ h) (vc : vC_ h f) (tRA : τ[RA]? = some 1002) (tIA : τ[IA]? = some 1005) (pA : hsl h RA 0 = some (.inl (some IA))) (r : rwC h RA IA l) (ok : ∀ (j : Nat) (i : it4), l[j]? = some i → okI i) (exk : xk.toInt = (k : Int)) (hk : l[k]? = some ik) : qI (d + 3) 123 [some (.inl (some 42)), some (.inl (some RA)), some (zi xk)] h t (fun y h1 => h = h1 ∧ y.toInt = (lo1 f ik : Int)) := by
  have okk := ok k ik hk
  have okk2 := okk
  unfold okI at okk2
  refine qI_of ?_
  refine y_same (i := .aload_n 1) (len := 1) (r := (0, 0, 0, 0)) (pc' := 1) (ls' := [some (.inl (some 42)), some (.inl (some RA)), some (zi xk)]) (st' := [.inl (some RA)]) (by decide +kernel) (fun k q => by cases q) rfl ?_
  refine y_same (i := .iload_n 2) (len := 1) (r := (0, 0, 0, 0)) (pc' := 2) (ls' := [some (.inl (some 42)), some (.inl (some RA)), some (zi xk)]) (st' := [zi xk, .inl (some RA)]) (by decide +kernel) (fun k q => by cases q) rfl ?_
  refine y_ic (c := 0) (len := 1) (r := (0, 0, 0, 0)) (by decide +kernel) (by decide) (fun y3151 hy3151 => ?_)
  refine y_cI (i := .invokevirtual 124) (len := 3) (r := (0, 64, 6, 1219)) (nL := 3) (k := 1) (n := 3) (hs := []) (args := [.inl (some RA), zi xk, zi y3151]) (rest := []) (l0 := [some (.inl (some RA)), some (zi xk), some (zi y3151)]) (by decide +kernel) (Or.inr (Or.inl ⟨_, rfl⟩)) rfl rfl rfl rfl (Nat.le_of_ble_eq_true rfl) (zO hg tRA aw1002 rfl) rfl (qI_le (by omega) (e_tell5 (d := 0) (RA := RA) (IA := IA) (w := 0) hg tRA tIA pA r (by omega) hk okk (by omega) (by omega))) (fun y3152 qy3152 hRy3152 => ?_)
  obtain ⟨rfl, ey3152⟩ := hRy3152
  have ey3152 : y3152.toInt = ik.1 := ey3152
  refine y_ic (c := 2) (len := 1) (r := (0, 0, 0, 0)) (by decide +kernel) (by decide) (fun y3153 hy3153 => ?_)
  rcases Decidable.em (y3152.toInt < y3153.toInt) with q3154 | q3154
  ·
    refine y_cT (c := .lt) (off := 16) (pc' := 23) (len := 3) (r := (0, 0, 0, 0)) (by decide +kernel) (acmpT (c := .lt) (by show _ < _; omega)) (by decide +kernel) ?_
    refine y_ic (c := 0) (len := 1) (r := (0, 0, 0, 0)) (by decide +kernel) (by decide) (fun y3155 hy3155 => ?_)
    refine y_rI (len := 1) (r := (0, 0, 0, 0)) (nL := 3) (k := 1) (n9 := 3) (hs := []) (by decide +kernel) rfl rfl ?_
    refine ⟨rfl, ?_⟩
    unfold lo1
    rw [if_neg (fun q => by have := q.1; omega)]
    omega
  ·
    refine y_cF (c := .lt) (off := 16) (len := 3) (r := (0, 0, 0, 0)) (by decide +kernel) (acmpF (c := .lt) (by show _ ≤ _; omega)) ?_
    refine y_same (i := .aload_n 0) (len := 1) (r := (0, 0, 0, 0)) (pc' := 11) (ls' := [some (.inl (some 42)), some (.inl (some RA)), some (zi xk)]) (st' := [.inl (some 42)]) (by decide +kernel) (fun k q => by cases q) rfl ?_
    refine y_same (i := .aload_n 1) (len := 1) (r := (0, 0, 0, 0)) (pc' := 12) (ls' := [some (.inl (some 42)), some (.inl (some RA)), some (zi xk)]) (st' := [.inl (some RA), .inl (some 42)]) (by decide +kernel) (fun k q => by cases q) rfl ?_
    refine y_same (i := .iload_n 2) (len := 1) (r := (0, 0, 0, 0)) (pc' := 13) (ls' := [some (.inl (some 42)), some (.inl (some RA)), some (zi xk)]) (st' := [zi xk, .inl (some RA), .inl (some 42)]) (by decide +kernel) (fun k q => by cases q) rfl ?_
    refine y_cI (i := .invokevirtual 120) (len := 3) (r := (0, 122, 10, 1215)) (nL := 3) (k := 2) (n := 3) (hs := []) (args := [.inl (some 42), .inl (some RA), zi xk]) (rest := []) (l0 := [some (.inl (some 42)), some (.inl (some RA)), some (zi xk)]) (by decide +kernel) (Or.inr (Or.inl ⟨_, rfl⟩)) rfl rfl rfl rfl (Nat.le_of_ble_eq_true rfl) (zO hg (tv42 hg) aw42 rfl) rfl (qI_le (by omega) (e_hs (d := 0) hg vc tRA tIA pA r ok exk hk)) (fun y3156 qy3156 hRy3156 => ?_)
    obtain ⟨rfl, hDy3156⟩ := hRy3156
    rcases hDy3156 with ⟨hyy3156, hsy3156⟩ | ⟨hyy3156, hsy3156⟩
    ·
      refine y_iF (c := .eq) (off := 7) (len := 3) (r := (0, 0, 0, 0)) (by decide +kernel) (acmpF (c := .eq) (by show ¬ (_ = _); omega)) ?_
      refine y_ic (c := 1) (len := 1) (r := (0, 0, 0, 0)) (by decide +kernel) (by decide) (fun y3157 hy3157 => ?_)
      refine y_goto (off := 4) (pc' := 24) (len := 3) (r := (0, 0, 0, 0)) (by decide +kernel) (by decide +kernel) ?_
      refine y_rI (len := 1) (r := (0, 0, 0, 0)) (nL := 3) (k := 1) (n9 := 3) (hs := []) (by decide +kernel) rfl rfl ?_
      refine ⟨rfl, ?_⟩
      unfold lo1
      rw [if_pos ⟨by omega, hsy3156⟩]
      omega
    ·
      refine y_iT (c := .eq) (off := 7) (pc' := 23) (len := 3) (r := (0, 0, 0, 0)) (by decide +kernel) (acmpT (c := .eq) (by show _ = _; omega)) (by decide +kernel) ?_
      refine y_ic (c := 0) (len := 1) (r := (0, 0, 0, 0)) (by decide +kernel) (by decide) (fun y3158 hy3158 => ?_)
      refine y_rI (len := 1) (r := (0, 0, 0, 0)) (nL := 3) (k := 1) (n9 := 3) (hs := []) (by decide +kernel) rfl rfl ?_
      refine ⟨rfl, ?_⟩
      unfold lo1
      rw [if_neg (fun q => hsy3156 q.2)]
      omega
theorem e_gs {d t k RA IA : Nat} {τ : List Nat} {h : zh} {l : List it4} {f : tlT} {ik : it4} {xk : Int32} (hg : hG τ h) (vc : vC_ h f) (tRA : τ[RA]? = some 1002) (tIA : τ[IA]? = some 1005) (pA : hsl h RA 0 = some (.inl (some IA))) (r : rwC h RA IA l) (ok : ∀ (j : Nat) (i : it4), l[j]? = some i → okI i) (exk : xk.toInt = (k : Int)) (hk : l[k]? = some ik) : qI (d + 4) 124 [some (.inl (some 42)), some (.inl (some RA)), some (zi xk)] h t (fun y h1 => h = h1 ∧ y.toInt = (hi1 f ik : Int)) := by
  have okk := ok k ik hk
  have okk2 := okk
  unfold okI at okk2
  refine qI_of ?_
  refine y_same (i := .aload_n 0) (len := 1) (r := (0, 0, 0, 0)) (pc' := 1) (ls' := [some (.inl (some 42)), some (.inl (some RA)), some (zi xk)]) (st' := [.inl (some 42)]) (by decide +kernel) (fun k q => by cases q) rfl ?_
  refine y_same (i := .aload_n 1) (len := 1) (r := (0, 0, 0, 0)) (pc' := 2) (ls' := [some (.inl (some 42)), some (.inl (some RA)), some (zi xk)]) (st' := [.inl (some RA), .inl (some 42)]) (by decide +kernel) (fun k q => by cases q) rfl ?_
  refine y_same (i := .iload_n 2) (len := 1) (r := (0, 0, 0, 0)) (pc' := 3) (ls' := [some (.inl (some 42)), some (.inl (some RA)), some (zi xk)]) (st' := [zi xk, .inl (some RA), .inl (some 42)]) (by decide +kernel) (fun k q => by cases q) rfl ?_
  refine y_cI (i := .invokevirtual 127) (len := 3) (r := (0, 123, 10, 1225)) (nL := 3) (k := 1) (n := 3) (hs := []) (args := [.inl (some 42), .inl (some RA), zi xk]) (rest := []) (l0 := [some (.inl (some 42)), some (.inl (some RA)), some (zi xk)]) (by decide +kernel) (Or.inr (Or.inl ⟨_, rfl⟩)) rfl rfl rfl rfl (Nat.le_of_ble_eq_true rfl) (zO hg (tv42 hg) aw42 rfl) rfl (qI_le (by omega) (e_ls (d := 0) hg vc tRA tIA pA r ok exk hk)) (fun y3159 qy3159 hRy3159 => ?_)
  obtain ⟨rfl, ey3159⟩ := hRy3159
  rcases Decidable.em (y3159.toInt ≠ 0) with q3160 | q3160
  ·
    refine y_iT (c := .ne) (off := 5) (pc' := 11) (len := 3) (r := (0, 0, 0, 0)) (by decide +kernel) (acmpT (c := .ne) (by show ¬ (_ = _); omega)) (by decide +kernel) ?_
    refine y_same (i := .aload_n 1) (len := 1) (r := (0, 0, 0, 0)) (pc' := 12) (ls' := [some (.inl (some 42)), some (.inl (some RA)), some (zi xk)]) (st' := [.inl (some RA)]) (by decide +kernel) (fun k q => by cases q) rfl ?_
    refine y_same (i := .iload_n 2) (len := 1) (r := (0, 0, 0, 0)) (pc' := 13) (ls' := [some (.inl (some 42)), some (.inl (some RA)), some (zi xk)]) (st' := [zi xk, .inl (some RA)]) (by decide +kernel) (fun k q => by cases q) rfl ?_
    refine y_ic (c := 0) (len := 1) (r := (0, 0, 0, 0)) (by decide +kernel) (by decide) (fun y3161 hy3161 => ?_)
    refine y_cI (i := .invokevirtual 124) (len := 3) (r := (0, 64, 6, 1219)) (nL := 3) (k := 1) (n := 3) (hs := []) (args := [.inl (some RA), zi xk, zi y3161]) (rest := []) (l0 := [some (.inl (some RA)), some (zi xk), some (zi y3161)]) (by decide +kernel) (Or.inr (Or.inl ⟨_, rfl⟩)) rfl rfl rfl rfl (Nat.le_of_ble_eq_true rfl) (zO hg tRA aw1002 rfl) rfl (qI_le (by omega) (e_tell5 (d := 0) (RA := RA) (IA := IA) (w := 0) hg tRA tIA pA r (by omega) hk okk (by omega) (by omega))) (fun y3162 qy3162 hRy3162 => ?_)
    obtain ⟨rfl, ey3162⟩ := hRy3162
    have ey3162 : y3162.toInt = ik.1 := ey3162
    refine y_ic (c := 2) (len := 1) (r := (0, 0, 0, 0)) (by decide +kernel) (by decide) (fun y3163 hy3163 => ?_)
    rcases Decidable.em (y3162.toInt ≠ y3163.toInt) with q3164 | q3164
    ·
      refine y_cT (c := .ne) (off := 7) (pc' := 25) (len := 3) (r := (0, 0, 0, 0)) (by decide +kernel) (acmpT (c := .ne) (by show ¬ (_ = _); omega)) (by decide +kernel) ?_
      refine y_ic (c := 3) (len := 1) (r := (0, 0, 0, 0)) (by decide +kernel) (by decide) (fun y3165 hy3165 => ?_)
      refine y_rI (len := 1) (r := (0, 0, 0, 0)) (nL := 3) (k := 1) (n9 := 3) (hs := []) (by decide +kernel) rfl rfl ?_
      refine ⟨rfl, ?_⟩
      unfold hi1
      by_cases h0 : lo1 f ik = 0
      · rw [if_pos h0]
        omega
      · rw [if_neg h0]
        by_cases h2 : ik.1 = 2
        · rw [if_pos h2]
          omega
        · rw [if_neg h2]
          omega
    ·
      refine y_cF (c := .ne) (off := 7) (len := 3) (r := (0, 0, 0, 0)) (by decide +kernel) (acmpF (c := .ne) (by show _ = _; omega)) ?_
      refine y_ic (c := 2) (len := 1) (r := (0, 0, 0, 0)) (by decide +kernel) (by decide) (fun y3166 hy3166 => ?_)
      refine y_goto (off := 4) (pc' := 26) (len := 3) (r := (0, 0, 0, 0)) (by decide +kernel) (by decide +kernel) ?_
      refine y_rI (len := 1) (r := (0, 0, 0, 0)) (nL := 3) (k := 1) (n9 := 3) (hs := []) (by decide +kernel) rfl rfl ?_
      refine ⟨rfl, ?_⟩
      unfold hi1
      by_cases h0 : lo1 f ik = 0
      · rw [if_pos h0]
        omega
      · rw [if_neg h0]
        by_cases h2 : ik.1 = 2
        · rw [if_pos h2]
          omega
        · rw [if_neg h2]
          omega
  ·
    refine y_iF (c := .ne) (off := 5) (len := 3) (r := (0, 0, 0, 0)) (by decide +kernel) (acmpF (c := .ne) (by show _ = _; omega)) ?_
    refine y_ic (c := 0) (len := 1) (r := (0, 0, 0, 0)) (by decide +kernel) (by decide) (fun y3167 hy3167 => ?_)
    refine y_rI (len := 1) (r := (0, 0, 0, 0)) (nL := 3) (k := 1) (n9 := 3) (hs := []) (by decide +kernel) rfl rfl ?_
    refine ⟨rfl, ?_⟩
    unfold hi1
    by_cases h0 : lo1 f ik = 0
    · rw [if_pos h0]
      omega
    · rw [if_neg h0]
      by_cases h2 : ik.1 = 2
      · rw [if_pos h2]
        omega
      · rw [if_neg h2]
        omega
