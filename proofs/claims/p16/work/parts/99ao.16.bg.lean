/-! a sequent of the class: the first one -/
def pyi (i : it4) : Prop := (0 ≤ i.1 ∧ i.1 ≤ 3) ∧ (i.1 = 3 → i.2.2.1 = 0) ∧ (i.1 ≠ 1 → i.2.2.2 = 0)
theorem okPt_I {i : it4} (o : okI i) (z : pyi i) : okPt i := by
  unfold okI at o
  obtain ⟨z1, z2, z3⟩ := z
  exact ⟨⟨by omega, by omega, by omega, by omega⟩, z3, z2⟩
theorem okCl_I {i : it4} (o : okI i) (z : i.1 ≤ 1 ∧ i.2.2.2 = 0) : okCl i := by
  unfold okI at o
  exact ⟨⟨by omega, by omega, by omega, by omega⟩, z.1, z.2⟩
def srb (c : it4) : Bool := decide (c.1 = 1)
/-- pairs that a row of claims tells by != -/
def unl (l : List it4) : dfT := fun a b => ∃ c ∈ l, c.1 ≠ 1 ∧ ((a = c.2.1 ∧ b = c.2.2.1) ∨ (a = c.2.2.1 ∧ b = c.2.1))
def dOr (D E : dfT) : dfT := fun a b => D a b ∨ E a b
/-- the class: claims behind n others are made, one by one -/
def mA_ : Nat → Nat → sqT → sqT
  | 0, _, s => s
  | f + 1, n, s => match s.2.2.1[n]? with
    | none => s
    | some c => mA_ f n (mkQ c.2.1 c.2.2.1 (s.1, s.2.1, s.2.2.1.eraseIdx n, s.2.2.2))
/-- the reference: told as they stand -/
def mB_ : Nat → Nat → sqT → sqT
  | 0, _, s => s
  | f + 1, n, s => match s.2.2.1[n]? with
    | none => s
    | some c => mB_ f n (if c.1 = 1 then mkQ c.2.1 c.2.2.1 (s.1, s.2.1, s.2.2.1.eraseIdx n, s.2.2.2) else (s.1, s.2.1, s.2.2.1.eraseIdx n, dAdd s.2.2.2 c.2.1 c.2.2.1))
def bgA (b : bsT) : sqT := mA_ 6 b.2.2.length (b.1.1, b.2.1, b.2.2 ++ b.1.2.filter srb, unl b.1.2)
def bgB (b : bsT) : sqT := mB_ b.1.2.length b.2.2.length (b.1.1, b.2.1, b.2.2 ++ b.1.2, dNo)
theorem er_app {α : Type} {C : List α} {c : α} {l : List α} : (C ++ c :: l).eraseIdx C.length = C ++ l := by
  rw [List.eraseIdx_append_of_length_le (Nat.le_refl _), Nat.sub_self]
  rfl
theorem at_app {α : Type} {C : List α} {c : α} {l : List α} : (C ++ c :: l)[C.length]? = some c := by
  rw [List.getElem?_append_right (Nat.le_refl _), Nat.sub_self]
  rfl
theorem at_nil {α : Type} {C : List α} : (C ++ [])[C.length]? = none := by
  rw [List.append_nil, List.getElem?_eq_none (Nat.le_refl _)]
theorem fil_map {r : mpT} : ∀ {l : List it4}, (l.map (mI r)).filter srb = (l.filter srb).map (mI r)
  | [] => rfl
  | c :: l => by
    rw [List.map_cons]
    by_cases q : c.1 = 1
    · rw [List.filter_cons_of_pos (by exact decide_eq_true q), List.filter_cons_of_pos (by exact decide_eq_true q), List.map_cons, fil_map]
    · rw [List.filter_cons_of_neg (by rw [srb, decide_eq_true_eq]; exact q), List.filter_cons_of_neg (by rw [srb, decide_eq_true_eq]; exact q), fil_map]
theorem Dm_or {r : mpT} {D : dfT} {c : it4} {l : List it4} (h : c.1 = 1) : Dm r (dOr D (unl (c :: l))) = dOr (Dm r D) (unl (l.map (mI r))) := by
  funext a b
  refine propext ⟨?_, ?_⟩
  · rintro ⟨a', b', k, e1, e2⟩
    rcases k with k | ⟨c', m, n, k⟩
    · exact Or.inl ⟨a', b', k, e1, e2⟩
    · rcases List.mem_cons.mp m with m | m
      · rw [m] at n
        exact absurd h n
      · refine Or.inr ⟨mI r c', List.mem_map_of_mem m, n, ?_⟩
        rcases k with ⟨k1, k2⟩ | ⟨k1, k2⟩
        · exact Or.inl ⟨by rw [← e1, k1]; rfl, by rw [← e2, k2]; rfl⟩
        · exact Or.inr ⟨by rw [← e1, k1]; rfl, by rw [← e2, k2]; rfl⟩
  · rintro (⟨a', b', k, e1, e2⟩ | ⟨c', m, n, k⟩)
    · exact ⟨a', b', Or.inl k, e1, e2⟩
    · obtain ⟨c0, m0, e0⟩ := List.mem_map.mp m
      subst e0
      rcases k with ⟨k1, k2⟩ | ⟨k1, k2⟩
      · exact ⟨c0.2.1, c0.2.2.1, Or.inr ⟨c0, List.mem_cons_of_mem _ m0, n, Or.inl ⟨rfl, rfl⟩⟩, k1.symm, k2.symm⟩
      · exact ⟨c0.2.2.1, c0.2.1, Or.inr ⟨c0, List.mem_cons_of_mem _ m0, n, Or.inr ⟨rfl, rfl⟩⟩, k1.symm, k2.symm⟩
theorem dOr_add {D : dfT} {c : it4} {l : List it4} (h : c.1 ≠ 1) : dOr D (unl (c :: l)) = dOr (dAdd D c.2.1 c.2.2.1) (unl l) := by
  funext a b
  refine propext ⟨?_, ?_⟩
  · rintro (k | ⟨c', m, n, k⟩)
    · exact Or.inl (Or.inl k)
    · rcases List.mem_cons.mp m with m | m
      · rw [m] at k
        exact Or.inl (Or.inr k)
      · exact Or.inr ⟨c', m, n, k⟩
  · rintro ((k | k) | ⟨c', m, n, k⟩)
    · exact Or.inl k
    · exact Or.inr ⟨c, List.mem_cons_self, h, k⟩
    · exact Or.inr ⟨c', List.mem_cons_of_mem _ m, n, k⟩
theorem mkAB : ∀ (f : Nat) (l : List it4) (g n : Nat) (L R C : List it4) (D : dfT), n = C.length → l.length ≤ f → (l.filter srb).length ≤ g → mB_ f n (L, R, C ++ l, D) = mA_ g n (L, R, C ++ l.filter srb, dOr D (unl l))
  | 0, l, g, n, L, R, C, D, hn, hf, _ => by
    have e : l = [] := List.length_eq_zero_iff.mp (by omega)
    subst e
    have e2 : dOr D (unl []) = D := by
      funext a b
      exact propext ⟨fun k => k.elim id (fun ⟨_, m, _⟩ => by cases m), Or.inl⟩
    rw [e2]
    show (L, R, C ++ [], D) = mA_ g n (L, R, C ++ [], D)
    cases g with
    | zero => rfl
    | succ g =>
      show _ = (match (C ++ [])[n]? with
        | none => _
        | some c => _)
      rw [hn, at_nil]
  | f + 1, [], g, n, L, R, C, D, hn, hf, _ => by
    have e2 : dOr D (unl []) = D := by
      funext a b
      exact propext ⟨fun k => k.elim id (fun ⟨_, m, _⟩ => by cases m), Or.inl⟩
    rw [e2]
    show (match (C ++ [])[n]? with
      | none => (L, R, C ++ [], D)
      | some c => _) = mA_ g n (L, R, C ++ [], D)
    rw [hn, at_nil]
    cases g with
    | zero => rfl
    | succ g =>
      show _ = (match (C ++ [])[C.length]? with
        | none => _
        | some c => _)
      rw [at_nil]
  | f + 1, c :: l, g, n, L, R, C, D, hn, hf, hg => by
    have hf : l.length + 1 ≤ f + 1 := hf
    show (match (C ++ c :: l)[n]? with
      | none => _
      | some c => mB_ f n (if c.1 = 1 then mkQ c.2.1 c.2.2.1 (L, R, (C ++ _).eraseIdx n, D) else (L, R, (C ++ _).eraseIdx n, dAdd D c.2.1 c.2.2.1))) = _
    rw [hn, at_app]
    show mB_ f C.length (if c.1 = 1 then mkQ c.2.1 c.2.2.1 (L, R, (C ++ c :: l).eraseIdx C.length, D) else (L, R, (C ++ c :: l).eraseIdx C.length, dAdd D c.2.1 c.2.2.1)) = _
    rw [er_app]
    by_cases q : c.1 = 1
    · have hp : srb c = true := decide_eq_true q
      rw [if_pos q, List.filter_cons_of_pos hp]
      rw [List.filter_cons_of_pos hp, List.length_cons] at hg
      obtain ⟨g, rfl⟩ : ∃ g', g = g' + 1 := ⟨g - 1, by omega⟩
      have ih := mkAB f (l.map (mI (rn1 c.2.1 c.2.2.1))) g C.length (L.map (mI (rn1 c.2.1 c.2.2.1))) (R.map (mI (rn1 c.2.1 c.2.2.1))) (C.map (mI (rn1 c.2.1 c.2.2.1))) (Dm (rn1 c.2.1 c.2.2.1) D) (by rw [List.length_map]) (by rw [List.length_map]; omega) (by rw [fil_map, List.length_map]; omega)
      rw [← List.map_append] at ih
      show mB_ f C.length (L.map _, R.map _, (C ++ l).map _, Dm _ D) = (match (C ++ c :: l.filter srb)[C.length]? with
        | none => _
        | some c => mA_ g C.length (mkQ c.2.1 c.2.2.1 (L, R, (C ++ _ :: l.filter srb).eraseIdx C.length, dOr D (unl (_ :: l)))))
      rw [at_app, ih]
      show _ = mA_ g C.length (L.map _, R.map _, ((C ++ c :: l.filter srb).eraseIdx C.length).map _, Dm _ (dOr D (unl (c :: l))))
      rw [er_app, Dm_or q, List.map_append, fil_map]
    · rw [if_neg q, List.filter_cons_of_neg (by rw [srb, decide_eq_true_eq]; exact q), dOr_add q]
      rw [List.filter_cons_of_neg (by rw [srb, decide_eq_true_eq]; exact q)] at hg
      exact mkAB f l g C.length L R C (dAdd D c.2.1 c.2.2.1) rfl (by omega) hg
theorem bgAB {b : bsT} (h : b.1.2.length ≤ 6) : bgB b = bgA b := by
  have e : unl b.1.2 = dOr dNo (unl b.1.2) := by
    funext x y
    exact propext ⟨Or.inr, fun k => k.elim (fun q => q.elim) id⟩
  unfold bgA bgB
  rw [mkAB b.1.2.length b.1.2 6 b.2.2.length b.1.1 b.2.1 b.2.2 dNo rfl (Nat.le_refl _) (Nat.le_trans (List.length_filter_le _ _) h), ← e]
theorem mka_l {d t a n : Nat} {τ : List Nat} {xn : Int32} (exn : xn.toInt = (n : Int)) : ∀ (m : Nat) (h : zh) (s : sqT) (i : Nat) (xi : Int32) (l3 l4 : Option zv), QC τ h a s → xi.toInt = (i : Int) → i + m = 6 → qX (d + 2) 78 2 [some (.inl (some a)), some (zi xn), some (zi xi), l3, l4] [] h t (rV (fun h1 => QC τ h1 a (mA_ m n s) ∧ FQ a h h1) t) := by
  intro m
  induction m with
  | zero =>
    intro h s i xi l3 l4 Q hxi hi
    refine y_same (i := .iload_n 2) (len := 1) (r := (0, 0, 0, 0)) (pc' := 3) (ls' := [some (.inl (some a)), some (zi xn), some (zi xi), l3, l4]) (st' := [zi xi]) (by decide +kernel) (fun k q => by cases q) rfl ?_
    refine y_bi (c := 6) (len := 2) (r := (0, 0, 0, 0)) (by decide +kernel) (by decide) (fun y2462 hy2462 => ?_)
    refine y_cT (c := .ge) (off := 56) (pc' := 61) (len := 3) (r := (0, 0, 0, 0)) (by decide +kernel) (acmpT (c := .ge) (by show _ ≤ _; omega)) (by decide +kernel) ?_
    refine y_rV (len := 1) (r := (0, 0, 0, 0)) (nL := 5) (n9 := 2) (hs := []) (by decide +kernel) rfl ?_
    exact ⟨Q, fun k j _ => rfl⟩
  | succ m ih =>
    intro h s i xi l3 l4 Q hxi hi
    refine y_same (i := .iload_n 2) (len := 1) (r := (0, 0, 0, 0)) (pc' := 3) (ls' := [some (.inl (some a)), some (zi xn), some (zi xi), l3, l4]) (st' := [zi xi]) (by decide +kernel) (fun k q => by cases q) rfl ?_
    refine y_bi (c := 6) (len := 2) (r := (0, 0, 0, 0)) (by decide +kernel) (by decide) (fun y2451 hy2451 => ?_)
    refine y_cF (c := .ge) (off := 56) (len := 3) (r := (0, 0, 0, 0)) (by decide +kernel) (acmpF (c := .ge) (by show _ < _; omega)) ?_
    refine y_same (i := .aload_n 0) (len := 1) (r := (0, 0, 0, 0)) (pc' := 9) (ls' := [some (.inl (some a)), some (zi xn), some (zi xi), l3, l4]) (st' := [.inl (some a)]) (by decide +kernel) (fun k q => by cases q) rfl ?_
    refine y_get (j := 30) (len := 3) (r := (7, 3, 2, 539)) (by decide +kernel) Q.1 Q.2.1.1 aw1008 rfl rfl Q.2.2.1.2.2.2.1 ?_
    obtain ⟨z2452, hz2452, ez2452, mz2452⟩ := q_szC Q
    have ez2452 : z2452.toInt = ((s.2.2.1.length : Nat) : Int) := ez2452
    have mz2452 : s.2.2.1.length ≤ 14 := mz2452
    refine y_get (j := 65) (len := 3) (r := (6, 1, 0, 20165)) (by decide +kernel) Q.1 Q.2.1.2.2.2.2.2.2.2.1 aw1004 rfl rfl hz2452 ?_
    refine y_same (i := .iload_n 1) (len := 1) (r := (0, 0, 0, 0)) (pc' := 16) (ls' := [some (.inl (some a)), some (zi xn), some (zi xi), l3, l4]) (st' := [zi xn, zi z2452]) (by decide +kernel) (fun k q => by cases q) rfl ?_
    rcases Decidable.em (z2452.toInt ≤ xn.toInt) with q2453 | q2453
    ·
      refine y_cT (c := .le) (off := 45) (pc' := 61) (len := 3) (r := (0, 0, 0, 0)) (by decide +kernel) (acmpT (c := .le) (by show _ ≤ _; omega)) (by decide +kernel) ?_
      refine y_rV (len := 1) (r := (0, 0, 0, 0)) (nL := 5) (n9 := 2) (hs := []) (by decide +kernel) rfl ?_
      have e9 : mA_ (m + 1) n s = s := by
        show (match s.2.2.1[n]? with
          | none => s
          | some c => mA_ m n (mkQ c.2.1 c.2.2.1 (s.1, s.2.1, s.2.2.1.eraseIdx n, s.2.2.2))) = _
        rw [List.getElem?_eq_none (by omega)]
      rw [e9]
      exact ⟨Q, fun k j _ => rfl⟩
    ·
      refine y_cF (c := .le) (off := 45) (len := 3) (r := (0, 0, 0, 0)) (by decide +kernel) (acmpF (c := .le) (by show _ < _; omega)) ?_
      refine y_same (i := .aload_n 0) (len := 1) (r := (0, 0, 0, 0)) (pc' := 20) (ls' := [some (.inl (some a)), some (zi xn), some (zi xi), l3, l4]) (st' := [.inl (some a)]) (by decide +kernel) (fun k q => by cases q) rfl ?_
      refine y_get (j := 30) (len := 3) (r := (7, 3, 2, 539)) (by decide +kernel) Q.1 Q.2.1.1 aw1008 rfl rfl Q.2.2.1.2.2.2.1 ?_
      refine y_same (i := .iload_n 1) (len := 1) (r := (0, 0, 0, 0)) (pc' := 24) (ls' := [some (.inl (some a)), some (zi xn), some (zi xi), l3, l4]) (st' := [zi xn, .inl (some ((a + 7)))]) (by decide +kernel) (fun k q => by cases q) rfl ?_
      refine y_ic (c := 1) (len := 1) (r := (0, 0, 0, 0)) (by decide +kernel) (by decide) (fun y2454 hy2454 => ?_)
      obtain ⟨i2456, ki2456⟩ : ∃ i9, s.2.2.1[n]? = some i9 := ⟨_, List.getElem?_eq_getElem (by omega)⟩
      have oi2456 := okQ_C Q.2.2.2.2 ki2456
      have pi2456 := oi2456.1
      unfold okV at pi2456
      refine y_cI (i := .invokevirtual 68) (len := 3) (r := (0, 64, 6, 586)) (nL := 3) (k := 1) (n := 3) (hs := []) (args := [.inl (some ((a + 7))), zi xn, zi y2454]) (rest := []) (l0 := [some (.inl (some ((a + 7)))), some (zi xn), some (zi y2454)]) (by decide +kernel) (Or.inr (Or.inl ⟨_, rfl⟩)) rfl rfl rfl rfl (Nat.le_of_ble_eq_true rfl) (zO Q.1 Q.2.1.2.2.2.2.2.2.2.1 aw1004 rfl) rfl (qI_le (by omega) (q_tlC (d := 0) (k := n) (w := 1) Q (by omega) ki2456 (by omega) (by omega))) (fun y2455 qy2455 hRy2455 => ?_)
      obtain ⟨rfl, ey2455⟩ := hRy2455
      have ey2455 : y2455.toInt = i2456.2.1 := ey2455
      refine y_same (i := .istore_n 3) (len := 1) (r := (0, 0, 0, 0)) (pc' := 29) (ls' := [some (.inl (some a)), some (zi xn), some (zi xi), some (zi y2455), l4]) (st' := []) (by decide +kernel) (fun k q => by cases q) rfl ?_
      refine y_same (i := .aload_n 0) (len := 1) (r := (0, 0, 0, 0)) (pc' := 30) (ls' := [some (.inl (some a)), some (zi xn), some (zi xi), some (zi y2455), l4]) (st' := [.inl (some a)]) (by decide +kernel) (fun k q => by cases q) rfl ?_
      refine y_get (j := 30) (len := 3) (r := (7, 3, 2, 539)) (by decide +kernel) Q.1 Q.2.1.1 aw1008 rfl rfl Q.2.2.1.2.2.2.1 ?_
      refine y_same (i := .iload_n 1) (len := 1) (r := (0, 0, 0, 0)) (pc' := 34) (ls' := [some (.inl (some a)), some (zi xn), some (zi xi), some (zi y2455), l4]) (st' := [zi xn, .inl (some ((a + 7)))]) (by decide +kernel) (fun k q => by cases q) rfl ?_
      refine y_ic (c := 2) (len := 1) (r := (0, 0, 0, 0)) (by decide +kernel) (by decide) (fun y2457 hy2457 => ?_)
      refine y_cI (i := .invokevirtual 68) (len := 3) (r := (0, 64, 6, 586)) (nL := 3) (k := 1) (n := 3) (hs := []) (args := [.inl (some ((a + 7))), zi xn, zi y2457]) (rest := []) (l0 := [some (.inl (some ((a + 7)))), some (zi xn), some (zi y2457)]) (by decide +kernel) (Or.inr (Or.inl ⟨_, rfl⟩)) rfl rfl rfl rfl (Nat.le_of_ble_eq_true rfl) (zO Q.1 Q.2.1.2.2.2.2.2.2.2.1 aw1004 rfl) rfl (qI_le (by omega) (q_tlC (d := 0) (k := n) (w := 2) Q (by omega) ki2456 (by omega) (by omega))) (fun y2458 qy2458 hRy2458 => ?_)
      obtain ⟨rfl, ey2458⟩ := hRy2458
      have ey2458 : y2458.toInt = i2456.2.2.1 := ey2458
      refine y_same (i := .istore 4) (len := 2) (r := (0, 0, 0, 0)) (pc' := 40) (ls' := [some (.inl (some a)), some (zi xn), some (zi xi), some (zi y2455), some (zi y2458)]) (st' := []) (by decide +kernel) (fun k q => by cases q) rfl ?_
      refine y_same (i := .aload_n 0) (len := 1) (r := (0, 0, 0, 0)) (pc' := 41) (ls' := [some (.inl (some a)), some (zi xn), some (zi xi), some (zi y2455), some (zi y2458)]) (st' := [.inl (some a)]) (by decide +kernel) (fun k q => by cases q) rfl ?_
      refine y_get (j := 30) (len := 3) (r := (7, 3, 2, 539)) (by decide +kernel) Q.1 Q.2.1.1 aw1008 rfl rfl Q.2.2.1.2.2.2.1 ?_
      refine y_same (i := .iload_n 1) (len := 1) (r := (0, 0, 0, 0)) (pc' := 45) (ls' := [some (.inl (some a)), some (zi xn), some (zi xi), some (zi y2455), some (zi y2458)]) (st' := [zi xn, .inl (some ((a + 7)))]) (by decide +kernel) (fun k q => by cases q) rfl ?_
      refine y_cV (i := .invokevirtual 85) (len := 3) (r := (0, 70, 6, 613)) (nL := 3) (k := 0) (n := 2) (hs := []) (args := [.inl (some ((a + 7))), zi xn]) (rest := []) (l0 := [some (.inl (some ((a + 7)))), some (zi xn), none]) (by decide +kernel) (Or.inr (Or.inl ⟨_, rfl⟩)) rfl rfl rfl rfl (Nat.le_of_ble_eq_true rfl) (zO Q.1 Q.2.1.2.2.2.2.2.2.2.1 aw1004 rfl) rfl (qV_le (by omega) (q_rmC (d := 0) (k := n) Q (by omega) (show n < s.2.2.1.length by omega))) (fun h2459 hR2459 => ?_)
      obtain ⟨Q2459, F2459⟩ := hR2459
      refine y_same (i := .aload_n 0) (len := 1) (r := (0, 0, 0, 0)) (pc' := 49) (ls' := [some (.inl (some a)), some (zi xn), some (zi xi), some (zi y2455), some (zi y2458)]) (st' := [.inl (some a)]) (by decide +kernel) (fun k q => by cases q) rfl ?_
      refine y_same (i := .iload_n 3) (len := 1) (r := (0, 0, 0, 0)) (pc' := 50) (ls' := [some (.inl (some a)), some (zi xn), some (zi xi), some (zi y2455), some (zi y2458)]) (st' := [zi y2455, .inl (some a)]) (by decide +kernel) (fun k q => by cases q) rfl ?_
      refine y_same (i := .iload 4) (len := 2) (r := (0, 0, 0, 0)) (pc' := 52) (ls' := [some (.inl (some a)), some (zi xn), some (zi xi), some (zi y2455), some (zi y2458)]) (st' := [zi y2458, zi y2455, .inl (some a)]) (by decide +kernel) (fun k q => by cases q) rfl ?_
      refine y_cV (i := .invokevirtual 88) (len := 3) (r := (0, 80, 7, 617)) (nL := 5) (k := 0) (n := 3) (hs := []) (args := [.inl (some a), zi y2455, zi y2458]) (rest := []) (l0 := [some (.inl (some a)), some (zi y2455), some (zi y2458), none, none]) (by decide +kernel) (Or.inr (Or.inl ⟨_, rfl⟩)) rfl rfl rfl rfl (Nat.le_of_ble_eq_true rfl) (zO Q2459.1 Q2459.2.1.1 aw1008 rfl) rfl (qV_le (by omega) (q_mk (d := 0) (x := i2456.2.1) (y := i2456.2.2.1) Q2459 (by omega) (by omega) (by omega) (by omega))) (fun h2460 hR2460 => ?_)
      obtain ⟨Q2460, F2460⟩ := hR2460
      refine y_inc (j := 2) (a := xi) (c := 1) (ls' := fun v => [some (.inl (some a)), some (zi xn), some v, some (zi y2455), some (zi y2458)]) (len := 3) (r := (0, 0, 0, 0)) (by decide +kernel) rfl (fun _ => rfl) (by decide) (by omega) (by omega) (fun y2461 hy2461 => ?_)
      show qX (d + 2) 78 58 [some (.inl (some a)), some (zi xn), some (zi y2461), some (zi y2455), some (zi y2458)] [] h2460 t _
      refine y_goto (off := (-56)) (pc' := 2) (len := 3) (r := (0, 0, 0, 0)) (by decide +kernel) (by decide +kernel) ?_
      have e9 : mA_ (m + 1) n s = mA_ m n (mkQ i2456.2.1 i2456.2.2.1 (s.1, s.2.1, s.2.2.1.eraseIdx n, s.2.2.2)) := by
        show (match s.2.2.1[n]? with
          | none => s
          | some c => mA_ m n (mkQ c.2.1 c.2.2.1 (s.1, s.2.1, s.2.2.1.eraseIdx n, s.2.2.2))) = _
        rw [ki2456]
      rw [e9]
      refine qX_V (ih h2460 (mkQ i2456.2.1 i2456.2.2.1 (s.1, s.2.1, s.2.2.1.eraseIdx n, s.2.2.2)) (i + 1) y2461 (some (zi y2455)) (some (zi y2458)) Q2460 (by omega) (by omega)) (fun h1 hR => ⟨hR.1, fun k j hC => (hR.2 k j hC).trans (((F2460 k j (by omega)).trans (F2459 k j (by omega))))⟩)
theorem q_mka {d t a : Nat} {τ : List Nat} {h : zh} {s : sqT} (Q : QC τ h a s) {n : Nat} {xn : Int32} (exn : xn.toInt = (n : Int)) : qV (d + 3) 78 [some (.inl (some a)), some (zi xn), none, none, none] h t (fun h1 => QC τ h1 a (mA_ 6 n s) ∧ FQ a h h1) := by
  refine qV_of ?_
  refine y_ic (c := 0) (len := 1) (r := (0, 0, 0, 0)) (by decide +kernel) (by decide) (fun y2463 hy2463 => ?_)
  refine y_same (i := .istore_n 2) (len := 1) (r := (0, 0, 0, 0)) (pc' := 2) (ls' := [some (.inl (some a)), some (zi xn), some (zi y2463), none, none]) (st' := []) (by decide +kernel) (fun k q => by cases q) rfl ?_
  exact mka_l exn 6 h s 0 y2463 none none Q (by omega) (by omega)
theorem unl_s {l : List it4} {c : it4} (h : c.1 = 1) : unl (l ++ [c]) = unl l := by
  funext a b
  refine propext ⟨?_, ?_⟩
  · rintro ⟨c', m, n, k⟩
    rcases List.mem_append.mp m with m | m
    · exact ⟨c', m, n, k⟩
    · rw [List.mem_singleton.mp m] at n
      exact absurd h n
  · rintro ⟨c', m, n, k⟩
    exact ⟨c', List.mem_append_left _ m, n, k⟩
theorem unl_d {l : List it4} {c : it4} (h : c.1 ≠ 1) : unl (l ++ [c]) = dAdd (unl l) c.2.1 c.2.2.1 := by
  funext a b
  refine propext ⟨?_, ?_⟩
  · rintro ⟨c', m, n, k⟩
    rcases List.mem_append.mp m with m | m
    · exact Or.inl ⟨c', m, n, k⟩
    · rw [List.mem_singleton.mp m] at k
      exact Or.inr k
  · rintro (⟨c', m, n, k⟩ | k)
    · exact ⟨c', List.mem_append_left _ m, n, k⟩
    · exact ⟨c, List.mem_append_right _ List.mem_cons_self, h, k⟩
theorem e_tl6 {d t k w : Nat} {τ : List Nat} {h : zh} {i : it4} {xk xw : Int32} (hg : hG τ h) {RA IA : Nat} {l : List it4} (tRA : τ[RA]? = some 1003) (tIA : τ[IA]? = some 1006) (pA : hsl h RA 0 = some (.inl (some IA))) (r : rwC h RA IA l) (exk : xk.toInt = (k : Int)) (hk : l[k]? = some i) (ok : okCl i) (exw : xw.toInt = (w : Int)) (hw : w < 4) : qI (d + 1) 64 [some (.inl (some RA)), some (zi xk), some (zi xw)] h t (fun y h1 => h = h1 ∧ y.toInt = cmp_ i w) := by
  obtain ⟨xl, hl, el⟩ := r.1
  obtain ⟨x9, e9, l9, u9⟩ := g_int (i := 1) (lo := 0) (hi := 6) hg tRA aw1003 (by decide) rfl
  have e8 := hl.symm.trans e9
  cases e8
  obtain ⟨xv, hv, ev⟩ := r.2 k i hk
  have hk9 := (List.getElem?_eq_some_iff.mp hk).1
  refine qI_of ?_
  refine y_same (i := .iload_n 1) (len := 1) (r := (0, 0, 0, 0)) (pc' := 1) (ls' := [some (.inl (some RA)), some (zi xk), some (zi xw)]) (st' := [zi xk]) (by decide +kernel) (fun k q => by cases q) rfl ?_
  refine y_iF (c := .lt) (off := 20) (len := 3) (r := (0, 0, 0, 0)) (by decide +kernel) (acmpF (c := .lt) (by show _ ≤ _; omega)) ?_
  refine y_same (i := .iload_n 1) (len := 1) (r := (0, 0, 0, 0)) (pc' := 5) (ls' := [some (.inl (some RA)), some (zi xk), some (zi xw)]) (st' := [zi xk]) (by decide +kernel) (fun k q => by cases q) rfl ?_
  refine y_same (i := .aload_n 0) (len := 1) (r := (0, 0, 0, 0)) (pc' := 6) (ls' := [some (.inl (some RA)), some (zi xk), some (zi xw)]) (st' := [.inl (some RA), zi xk]) (by decide +kernel) (fun k q => by cases q) rfl ?_
  refine y_get (j := 9) (len := 3) (r := (6, 1, 0, 164)) (by decide +kernel) hg tRA aw1003 rfl rfl hl ?_
  refine y_cF (c := .ge) (off := 12) (len := 3) (r := (0, 0, 0, 0)) (by decide +kernel) (acmpF (c := .ge) (by show _ < _; omega)) ?_
  refine y_same (i := .iload_n 2) (len := 1) (r := (0, 0, 0, 0)) (pc' := 13) (ls' := [some (.inl (some RA)), some (zi xk), some (zi xw)]) (st' := [zi xw]) (by decide +kernel) (fun k q => by cases q) rfl ?_
  refine y_iF (c := .lt) (off := 8) (len := 3) (r := (0, 0, 0, 0)) (by decide +kernel) (acmpF (c := .lt) (by show _ ≤ _; omega)) ?_
  refine y_same (i := .iload_n 2) (len := 1) (r := (0, 0, 0, 0)) (pc' := 17) (ls' := [some (.inl (some RA)), some (zi xk), some (zi xw)]) (st' := [zi xw]) (by decide +kernel) (fun k q => by cases q) rfl ?_
  refine y_ic (c := 3) (len := 1) (r := (0, 0, 0, 0)) (by decide +kernel) (by decide) (fun y2479 hy2479 => ?_)
  refine y_cT (c := .le) (off := 5) (pc' := 23) (len := 3) (r := (0, 0, 0, 0)) (by decide +kernel) (acmpT (c := .le) (by show _ ≤ _; omega)) (by decide +kernel) ?_
  refine y_same (i := .aload_n 0) (len := 1) (r := (0, 0, 0, 0)) (pc' := 24) (ls' := [some (.inl (some RA)), some (zi xk), some (zi xw)]) (st' := [.inl (some RA)]) (by decide +kernel) (fun k q => by cases q) rfl ?_
  refine y_get (j := 15) (len := 3) (r := (6, 0, 2, 163)) (by decide +kernel) hg tRA aw1003 rfl rfl pA ?_
  refine y_same (i := .iload_n 1) (len := 1) (r := (0, 0, 0, 0)) (pc' := 28) (ls' := [some (.inl (some RA)), some (zi xk), some (zi xw)]) (st' := [zi xk, .inl (some IA)]) (by decide +kernel) (fun k q => by cases q) rfl ?_
  refine y_ial (i := k) (len := 1) (r := (0, 0, 0, 0)) (by decide +kernel) hg tIA aw1006 (by omega) hv ?_
  refine y_bi (c := 15) (len := 2) (r := (0, 0, 0, 0)) (by decide +kernel) (by decide) (fun y2480 hy2480 => ?_)
  refine y_ic (c := 5) (len := 1) (r := (0, 0, 0, 0)) (by decide +kernel) (by decide) (fun y2481 hy2481 => ?_)
  refine y_same (i := .iload_n 2) (len := 1) (r := (0, 0, 0, 0)) (pc' := 33) (ls' := [some (.inl (some RA)), some (zi xk), some (zi xw)]) (st' := [zi xw, zi y2481, zi y2480, zi xv]) (by decide +kernel) (fun k q => by cases q) rfl ?_
  refine y_mul (c := 5) (len := 1) (r := (0, 0, 0, 0)) (by decide +kernel) (by omega) (by omega) (by omega) (fun y2482 hy2482 => ?_)
  refine y_sub (len := 1) (r := (0, 0, 0, 0)) (by decide +kernel) (by omega) (by omega) (fun y2483 hy2483 => ?_)
  refine y_bp (i := .ishr) (f := fun x y => x >>> (y &&& 31)) (len := 1) (r := (0, 0, 0, 0)) (by decide +kernel) rfl rfl (fun y2484 hy2484 => ?_)
  have hy2484 : y2484 = xv >>> (y2483 &&& 31) := hy2484
  refine y_bi (c := 31) (len := 2) (r := (0, 0, 0, 0)) (by decide +kernel) (by decide) (fun y2485 hy2485 => ?_)
  refine y_bp (i := .iand) (f := fun x y => x &&& y) (len := 1) (r := (0, 0, 0, 0)) (by decide +kernel) rfl rfl (fun y2486 hy2486 => ?_)
  have hy2486 : y2486 = y2484 &&& y2485 := hy2486
  refine y_rI (len := 1) (r := (0, 0, 0, 0)) (nL := 3) (k := 1) (n9 := 3) (hs := []) (by decide +kernel) rfl rfl ?_
  refine ⟨rfl, ?_⟩
  rw [hy2486, hy2484, ofI (w := 31) hy2485 rfl]
  exact tell_w ok.1 hw ev (by omega)
theorem e_it6 {d t k : Nat} {τ : List Nat} {h : zh} {i : it4} {xk : Int32} (hg : hG τ h) {RA IA : Nat} {l : List it4} (tRA : τ[RA]? = some 1003) (tIA : τ[IA]? = some 1006) (pA : hsl h RA 0 = some (.inl (some IA))) (r : rwC h RA IA l) (exk : xk.toInt = (k : Int)) (hk : l[k]? = some i) : qI (d + 1) 65 [some (.inl (some RA)), some (zi xk)] h t (fun y h1 => h = h1 ∧ y.toInt = pk i) := by
  obtain ⟨xl, hl, el⟩ := r.1
  obtain ⟨x9, e9, l9, u9⟩ := g_int (i := 1) (lo := 0) (hi := 6) hg tRA aw1003 (by decide) rfl
  have e8 := hl.symm.trans e9
  cases e8
  obtain ⟨xv, hv, ev⟩ := r.2 k i hk
  have hk9 := (List.getElem?_eq_some_iff.mp hk).1
  refine qI_of ?_
  refine y_same (i := .iload_n 1) (len := 1) (r := (0, 0, 0, 0)) (pc' := 1) (ls' := [some (.inl (some RA)), some (zi xk)]) (st' := [zi xk]) (by decide +kernel) (fun k q => by cases q) rfl ?_
  refine y_iF (c := .lt) (off := 20) (len := 3) (r := (0, 0, 0, 0)) (by decide +kernel) (acmpF (c := .lt) (by show _ ≤ _; omega)) ?_
  refine y_same (i := .iload_n 1) (len := 1) (r := (0, 0, 0, 0)) (pc' := 5) (ls' := [some (.inl (some RA)), some (zi xk)]) (st' := [zi xk]) (by decide +kernel) (fun k q => by cases q) rfl ?_
  refine y_same (i := .aload_n 0) (len := 1) (r := (0, 0, 0, 0)) (pc' := 6) (ls' := [some (.inl (some RA)), some (zi xk)]) (st' := [.inl (some RA), zi xk]) (by decide +kernel) (fun k q => by cases q) rfl ?_
  refine y_get (j := 9) (len := 3) (r := (6, 1, 0, 164)) (by decide +kernel) hg tRA aw1003 rfl rfl hl ?_
  refine y_cF (c := .ge) (off := 12) (len := 3) (r := (0, 0, 0, 0)) (by decide +kernel) (acmpF (c := .ge) (by show _ < _; omega)) ?_
  refine y_same (i := .aload_n 0) (len := 1) (r := (0, 0, 0, 0)) (pc' := 13) (ls' := [some (.inl (some RA)), some (zi xk)]) (st' := [.inl (some RA)]) (by decide +kernel) (fun k q => by cases q) rfl ?_
  refine y_get (j := 15) (len := 3) (r := (6, 0, 2, 163)) (by decide +kernel) hg tRA aw1003 rfl rfl pA ?_
  refine y_same (i := .iload_n 1) (len := 1) (r := (0, 0, 0, 0)) (pc' := 17) (ls' := [some (.inl (some RA)), some (zi xk)]) (st' := [zi xk, .inl (some IA)]) (by decide +kernel) (fun k q => by cases q) rfl ?_
  refine y_ial (i := k) (len := 1) (r := (0, 0, 0, 0)) (by decide +kernel) hg tIA aw1006 (by omega) hv ?_
  refine y_goto (off := 4) (pc' := 22) (len := 3) (r := (0, 0, 0, 0)) (by decide +kernel) (by decide +kernel) ?_
  refine y_rI (len := 1) (r := (0, 0, 0, 0)) (nL := 2) (k := 1) (n9 := 2) (hs := []) (by decide +kernel) rfl rfl ?_
  exact ⟨rfl, ev⟩
theorem bg_l {d t a x y : Nat} {τ : List Nat} (hx : tyS τ x) (nx : x + 5 ≤ a ∨ a + 9 ≤ x) {l : List it4} (okl : ∀ c ∈ l, okCl c) (l6 : l.length ≤ 6) {L R C : List it4} (C6 : C.length ≤ 6) {own : Nat} {xo : Int32} (exo : xo.toInt = (own : Int)) : ∀ (n : Nat) (h : zh) (i : Nat) (xi : Int32), (QC τ h a (L, R, C ++ (l.take i).filter srb, unl (l.take i))) → (hsl h (x + 3) 0 = some (.inl (some (x + 4)))) → (rwC h (x + 3) (x + 4) l) → (xi.toInt = (i : Int)) → (i ≤ l.length) → (l.length < i + n) → qX (d + 5) 77 57 [some (.inl (some a)), some (.inl (some x)), some (.inl (some y)), some (.inl (some ((x + 3)))), some (zi xo), some (zi xi)] [] h t (rV (fun h1 => QC τ h1 a (mA_ 6 own (L, R, C ++ l.filter srb, unl l)) ∧ FQ a h h1) t) := by
  intro n
  induction n with
  | zero =>
    intro h i xi Q pc9 rc hxi hi hn
    exfalso
    omega
  | succ n ih =>
    intro h i xi Q pc9 rc hxi hi hn
    have tc := hx.2.2.2.1
    have tn := hx.2.2.2.2
    obtain ⟨xz, hz, ez⟩ := rc.1
    have sl : ((l.take i).filter srb).length ≤ i := Nat.le_trans (List.length_filter_le _ _) (by rw [List.length_take]; omega)
    refine y_same (i := .iload 5) (len := 2) (r := (0, 0, 0, 0)) (pc' := 59) (ls' := [some (.inl (some a)), some (.inl (some x)), some (.inl (some y)), some (.inl (some ((x + 3)))), some (zi xo), some (zi xi)]) (st' := [zi xi]) (by decide +kernel) (fun k q => by cases q) rfl ?_
    refine y_same (i := .aload_n 3) (len := 1) (r := (0, 0, 0, 0)) (pc' := 60) (ls' := [some (.inl (some a)), some (.inl (some x)), some (.inl (some y)), some (.inl (some ((x + 3)))), some (zi xo), some (zi xi)]) (st' := [.inl (some ((x + 3))), zi xi]) (by decide +kernel) (fun k q => by cases q) rfl ?_
    refine y_get (j := 65) (len := 3) (r := (6, 1, 0, 20165)) (by decide +kernel) Q.1 tc aw1003 rfl rfl hz ?_
    rcases Decidable.em (xi.toInt ≥ xz.toInt) with q2464 | q2464
    ·
      refine y_cT (c := .ge) (off := 56) (pc' := 119) (len := 3) (r := (0, 0, 0, 0)) (by decide +kernel) (acmpT (c := .ge) (by show _ ≤ _; omega)) (by decide +kernel) ?_
      refine y_same (i := .aload_n 0) (len := 1) (r := (0, 0, 0, 0)) (pc' := 120) (ls' := [some (.inl (some a)), some (.inl (some x)), some (.inl (some y)), some (.inl (some ((x + 3)))), some (zi xo), some (zi xi)]) (st' := [.inl (some a)]) (by decide +kernel) (fun k q => by cases q) rfl ?_
      refine y_same (i := .iload 4) (len := 2) (r := (0, 0, 0, 0)) (pc' := 122) (ls' := [some (.inl (some a)), some (.inl (some x)), some (.inl (some y)), some (.inl (some ((x + 3)))), some (zi xo), some (zi xi)]) (st' := [zi xo, .inl (some a)]) (by decide +kernel) (fun k q => by cases q) rfl ?_
      refine y_cV (i := .invokevirtual 82) (len := 3) (r := (0, 78, 7, 609)) (nL := 5) (k := 0) (n := 2) (hs := []) (args := [.inl (some a), zi xo]) (rest := []) (l0 := [some (.inl (some a)), some (zi xo), none, none, none]) (by decide +kernel) (Or.inr (Or.inl ⟨_, rfl⟩)) rfl rfl rfl rfl (Nat.le_of_ble_eq_true rfl) (zO Q.1 Q.2.1.1 aw1008 rfl) rfl (qV_le (by omega) (q_mka (d := 0) (n := own) Q (by omega))) (fun h2465 hR2465 => ?_)
      obtain ⟨Q2465, F2465⟩ := hR2465
      refine y_rV (len := 1) (r := (0, 0, 0, 0)) (nL := 6) (n9 := 3) (hs := []) (by decide +kernel) rfl ?_
      have tk : l.take i = l := List.take_of_length_le (by omega)
      rw [tk] at Q2465
      exact ⟨Q2465, fun k j hC => (F2465 k j (by omega))⟩
    ·
      refine y_cF (c := .ge) (off := 56) (len := 3) (r := (0, 0, 0, 0)) (by decide +kernel) (acmpF (c := .ge) (by show _ < _; omega)) ?_
      obtain ⟨ic, kc⟩ : ∃ i9, l[i]? = some i9 := ⟨_, List.getElem?_eq_getElem (by omega)⟩
      have mc := List.mem_of_getElem? kc
      have okc := okl ic mc
      have okc2 := okc.1
      have okc3 := okc.2.1
      unfold okV at okc2
      refine y_same (i := .aload_n 3) (len := 1) (r := (0, 0, 0, 0)) (pc' := 67) (ls' := [some (.inl (some a)), some (.inl (some x)), some (.inl (some y)), some (.inl (some ((x + 3)))), some (zi xo), some (zi xi)]) (st' := [.inl (some ((x + 3)))]) (by decide +kernel) (fun k q => by cases q) rfl ?_
      refine y_same (i := .iload 5) (len := 2) (r := (0, 0, 0, 0)) (pc' := 69) (ls' := [some (.inl (some a)), some (.inl (some x)), some (.inl (some y)), some (.inl (some ((x + 3)))), some (zi xo), some (zi xi)]) (st' := [zi xi, .inl (some ((x + 3)))]) (by decide +kernel) (fun k q => by cases q) rfl ?_
      refine y_ic (c := 0) (len := 1) (r := (0, 0, 0, 0)) (by decide +kernel) (by decide) (fun y2466 hy2466 => ?_)
      refine y_cI (i := .invokevirtual 68) (len := 3) (r := (0, 64, 6, 586)) (nL := 3) (k := 1) (n := 3) (hs := []) (args := [.inl (some ((x + 3))), zi xi, zi y2466]) (rest := []) (l0 := [some (.inl (some ((x + 3)))), some (zi xi), some (zi y2466)]) (by decide +kernel) (Or.inr (Or.inl ⟨_, rfl⟩)) rfl rfl rfl rfl (Nat.le_of_ble_eq_true rfl) (zO Q.1 tc aw1003 rfl) rfl (qI_le (by omega) (e_tl6 (d := 0) (k := i) (w := 0) (i := ic) Q.1 tc tn pc9 rc (by omega) kc okc (by omega) (by omega))) (fun y2467 qy2467 hRy2467 => ?_)
      obtain ⟨rfl, ey2467⟩ := hRy2467
      have ey2467 : y2467.toInt = ic.1 := ey2467
      rcases Decidable.em (y2467.toInt ≠ 0) with q2468 | q2468
      ·
        refine y_iT (c := .ne) (off := 27) (pc' := 100) (len := 3) (r := (0, 0, 0, 0)) (by decide +kernel) (acmpT (c := .ne) (by show ¬ (_ = _); omega)) (by decide +kernel) ?_
        refine y_same (i := .aload_n 0) (len := 1) (r := (0, 0, 0, 0)) (pc' := 101) (ls' := [some (.inl (some a)), some (.inl (some x)), some (.inl (some y)), some (.inl (some ((x + 3)))), some (zi xo), some (zi xi)]) (st' := [.inl (some a)]) (by decide +kernel) (fun k q => by cases q) rfl ?_
        refine y_get (j := 30) (len := 3) (r := (7, 3, 2, 539)) (by decide +kernel) Q.1 Q.2.1.1 aw1008 rfl rfl Q.2.2.1.2.2.2.1 ?_
        refine y_same (i := .aload_n 3) (len := 1) (r := (0, 0, 0, 0)) (pc' := 105) (ls' := [some (.inl (some a)), some (.inl (some x)), some (.inl (some y)), some (.inl (some ((x + 3)))), some (zi xo), some (zi xi)]) (st' := [.inl (some ((x + 3))), .inl (some ((a + 7)))]) (by decide +kernel) (fun k q => by cases q) rfl ?_
        refine y_same (i := .iload 5) (len := 2) (r := (0, 0, 0, 0)) (pc' := 107) (ls' := [some (.inl (some a)), some (.inl (some x)), some (.inl (some y)), some (.inl (some ((x + 3)))), some (zi xo), some (zi xi)]) (st' := [zi xi, .inl (some ((x + 3))), .inl (some ((a + 7)))]) (by decide +kernel) (fun k q => by cases q) rfl ?_
        refine y_cI (i := .invokevirtual 76) (len := 3) (r := (0, 65, 6, 597)) (nL := 2) (k := 1) (n := 2) (hs := []) (args := [.inl (some ((x + 3))), zi xi]) (rest := [.inl (some ((a + 7)))]) (l0 := [some (.inl (some ((x + 3)))), some (zi xi)]) (by decide +kernel) (Or.inr (Or.inl ⟨_, rfl⟩)) rfl rfl rfl rfl (Nat.le_of_ble_eq_true rfl) (zO Q.1 tc aw1003 rfl) rfl (qI_le (by omega) (e_it6 (d := 0) (k := i) (i := ic) Q.1 tc tn pc9 rc (by omega) kc)) (fun y2469 qy2469 hRy2469 => ?_)
        obtain ⟨rfl, ey2469⟩ := hRy2469
        obtain ⟨z2471, hz2471, ez2471, mz2471⟩ := q_szC Q
        have ez2471 : z2471.toInt = (((C ++ (l.take i).filter srb).length : Nat) : Int) := ez2471
        have mz2471 : (C ++ (l.take i).filter srb).length ≤ 14 := mz2471
        have la9 : (C ++ (l.take i).filter srb).length = C.length + ((l.take i).filter srb).length := List.length_append
        refine y_cV (i := .invokevirtual 80) (len := 3) (r := (0, 67, 6, 601)) (nL := 2) (k := 0) (n := 2) (hs := []) (args := [.inl (some ((a + 7))), zi y2469]) (rest := []) (l0 := [some (.inl (some ((a + 7)))), some (zi y2469)]) (by decide +kernel) (Or.inr (Or.inl ⟨_, rfl⟩)) rfl rfl rfl rfl (Nat.le_of_ble_eq_true rfl) (zO Q.1 Q.2.1.2.2.2.2.2.2.2.1 aw1004 rfl) rfl (qV_le (by omega) (q_adC (d := 0) (p := ic) Q (by omega) ey2469 okc)) (fun h2470 hR2470 => ?_)
        obtain ⟨Q2470, F2470⟩ := hR2470
        refine y_inc (j := 5) (a := xi) (c := 1) (ls' := fun v => [some (.inl (some a)), some (.inl (some x)), some (.inl (some y)), some (.inl (some ((x + 3)))), some (zi xo), some v]) (len := 3) (r := (0, 0, 0, 0)) (by decide +kernel) rfl (fun _ => rfl) (by decide) (by omega) (by omega) (fun y2472 hy2472 => ?_)
        show qX (d + 5) 77 116 [some (.inl (some a)), some (.inl (some x)), some (.inl (some y)), some (.inl (some ((x + 3)))), some (zi xo), some (zi y2472)] [] h2470 t _
        refine y_goto (off := (-59)) (pc' := 57) (len := 3) (r := (0, 0, 0, 0)) (by decide +kernel) (by decide +kernel) ?_
        have tk : l.take (i + 1) = l.take i ++ [ic] := by
          rw [List.take_succ, kc]
          rfl
        have fc : (l.take (i + 1)).filter srb = (l.take i).filter srb ++ [ic] := by
          rw [tk, List.filter_append, List.filter_cons_of_pos (by exact decide_eq_true (by omega)), List.filter_nil]
        have dc : unl (l.take (i + 1)) = unl (l.take i) := by
          rw [tk]
          exact unl_s (by omega)
        have QN : QC τ h2470 a (L, R, C ++ (l.take (i + 1)).filter srb, unl (l.take (i + 1))) := by
          rw [fc, dc]
          rw [← List.append_assoc]
          exact Q2470
        refine qX_V (ih h2470 (i + 1) y2472 QN (rfs_up pc9 ((F2470 (x + 3) 0 (by omega)))) (rwC_up rc ((F2470 (x + 3) 1 (by omega))) (fun j => (F2470 (x + 4) j (by omega)))) (by omega) (by omega) (by omega)) (fun h1 hR => ⟨hR.1, fun k j hC => (hR.2 k j hC).trans ((F2470 k j (by omega)))⟩)
      ·
        refine y_iF (c := .ne) (off := 27) (len := 3) (r := (0, 0, 0, 0)) (by decide +kernel) (acmpF (c := .ne) (by show _ = _; omega)) ?_
        refine y_same (i := .aload_n 0) (len := 1) (r := (0, 0, 0, 0)) (pc' := 77) (ls' := [some (.inl (some a)), some (.inl (some x)), some (.inl (some y)), some (.inl (some ((x + 3)))), some (zi xo), some (zi xi)]) (st' := [.inl (some a)]) (by decide +kernel) (fun k q => by cases q) rfl ?_
        refine y_get (j := 12) (len := 3) (r := (7, 0, 2, 530)) (by decide +kernel) Q.1 Q.2.1.1 aw1008 rfl rfl Q.2.2.1.1 ?_
        refine y_same (i := .aload_n 3) (len := 1) (r := (0, 0, 0, 0)) (pc' := 81) (ls' := [some (.inl (some a)), some (.inl (some x)), some (.inl (some y)), some (.inl (some ((x + 3)))), some (zi xo), some (zi xi)]) (st' := [.inl (some ((x + 3))), .inl (some ((a + 1)))]) (by decide +kernel) (fun k q => by cases q) rfl ?_
        refine y_same (i := .iload 5) (len := 2) (r := (0, 0, 0, 0)) (pc' := 83) (ls' := [some (.inl (some a)), some (.inl (some x)), some (.inl (some y)), some (.inl (some ((x + 3)))), some (zi xo), some (zi xi)]) (st' := [zi xi, .inl (some ((x + 3))), .inl (some ((a + 1)))]) (by decide +kernel) (fun k q => by cases q) rfl ?_
        refine y_ic (c := 1) (len := 1) (r := (0, 0, 0, 0)) (by decide +kernel) (by decide) (fun y2473 hy2473 => ?_)
        refine y_cI (i := .invokevirtual 68) (len := 3) (r := (0, 64, 6, 586)) (nL := 3) (k := 1) (n := 3) (hs := []) (args := [.inl (some ((x + 3))), zi xi, zi y2473]) (rest := [.inl (some ((a + 1)))]) (l0 := [some (.inl (some ((x + 3)))), some (zi xi), some (zi y2473)]) (by decide +kernel) (Or.inr (Or.inl ⟨_, rfl⟩)) rfl rfl rfl rfl (Nat.le_of_ble_eq_true rfl) (zO Q.1 tc aw1003 rfl) rfl (qI_le (by omega) (e_tl6 (d := 0) (k := i) (w := 1) (i := ic) Q.1 tc tn pc9 rc (by omega) kc okc (by omega) (by omega))) (fun y2474 qy2474 hRy2474 => ?_)
        obtain ⟨rfl, ey2474⟩ := hRy2474
        have ey2474 : y2474.toInt = ic.2.1 := ey2474
        refine y_same (i := .aload_n 3) (len := 1) (r := (0, 0, 0, 0)) (pc' := 88) (ls' := [some (.inl (some a)), some (.inl (some x)), some (.inl (some y)), some (.inl (some ((x + 3)))), some (zi xo), some (zi xi)]) (st' := [.inl (some ((x + 3))), zi y2474, .inl (some ((a + 1)))]) (by decide +kernel) (fun k q => by cases q) rfl ?_
        refine y_same (i := .iload 5) (len := 2) (r := (0, 0, 0, 0)) (pc' := 90) (ls' := [some (.inl (some a)), some (.inl (some x)), some (.inl (some y)), some (.inl (some ((x + 3)))), some (zi xo), some (zi xi)]) (st' := [zi xi, .inl (some ((x + 3))), zi y2474, .inl (some ((a + 1)))]) (by decide +kernel) (fun k q => by cases q) rfl ?_
        refine y_ic (c := 2) (len := 1) (r := (0, 0, 0, 0)) (by decide +kernel) (by decide) (fun y2475 hy2475 => ?_)
        refine y_cI (i := .invokevirtual 68) (len := 3) (r := (0, 64, 6, 586)) (nL := 3) (k := 1) (n := 3) (hs := []) (args := [.inl (some ((x + 3))), zi xi, zi y2475]) (rest := [zi y2474, .inl (some ((a + 1)))]) (l0 := [some (.inl (some ((x + 3)))), some (zi xi), some (zi y2475)]) (by decide +kernel) (Or.inr (Or.inl ⟨_, rfl⟩)) rfl rfl rfl rfl (Nat.le_of_ble_eq_true rfl) (zO Q.1 tc aw1003 rfl) rfl (qI_le (by omega) (e_tl6 (d := 0) (k := i) (w := 2) (i := ic) Q.1 tc tn pc9 rc (by omega) kc okc (by omega) (by omega))) (fun y2476 qy2476 hRy2476 => ?_)
        obtain ⟨rfl, ey2476⟩ := hRy2476
        have ey2476 : y2476.toInt = ic.2.2.1 := ey2476
        refine y_cV (i := .invokevirtual 72) (len := 3) (r := (0, 4, 0, 590)) (nL := 3) (k := 0) (n := 3) (hs := []) (args := [.inl (some ((a + 1))), zi y2474, zi y2476]) (rest := []) (l0 := [some (.inl (some ((a + 1)))), some (zi y2474), some (zi y2476)]) (by decide +kernel) (Or.inr (Or.inl ⟨_, rfl⟩)) rfl rfl rfl rfl (Nat.le_of_ble_eq_true rfl) (zO Q.1 Q.2.1.2.1 aw1009 rfl) rfl (qV_le (by omega) (q_daddI (d := 0) (x := ic.2.1) (y := ic.2.2.1) (by omega) (by omega) (by omega) (by omega) Q)) (fun h2477 hR2477 => ?_)
        obtain ⟨Q2477, F2477⟩ := hR2477
        refine y_goto (off := 16) (pc' := 113) (len := 3) (r := (0, 0, 0, 0)) (by decide +kernel) (by decide +kernel) ?_
        refine y_inc (j := 5) (a := xi) (c := 1) (ls' := fun v => [some (.inl (some a)), some (.inl (some x)), some (.inl (some y)), some (.inl (some ((x + 3)))), some (zi xo), some v]) (len := 3) (r := (0, 0, 0, 0)) (by decide +kernel) rfl (fun _ => rfl) (by decide) (by omega) (by omega) (fun y2478 hy2478 => ?_)
        show qX (d + 5) 77 116 [some (.inl (some a)), some (.inl (some x)), some (.inl (some y)), some (.inl (some ((x + 3)))), some (zi xo), some (zi y2478)] [] h2477 t _
        refine y_goto (off := (-59)) (pc' := 57) (len := 3) (r := (0, 0, 0, 0)) (by decide +kernel) (by decide +kernel) ?_
        have tk : l.take (i + 1) = l.take i ++ [ic] := by
          rw [List.take_succ, kc]
          rfl
        have fc : (l.take (i + 1)).filter srb = (l.take i).filter srb := by
          rw [tk, List.filter_append, List.filter_cons_of_neg (by rw [srb, decide_eq_true_eq]; omega), List.filter_nil, List.append_nil]
        have dc : unl (l.take (i + 1)) = dAdd (unl (l.take i)) ic.2.1 ic.2.2.1 := by
          rw [tk]
          exact unl_d (by omega)
        have QN : QC τ h2477 a (L, R, C ++ (l.take (i + 1)).filter srb, unl (l.take (i + 1))) := by
          rw [fc, dc]
          exact Q2477
        refine qX_V (ih h2477 (i + 1) y2478 QN (rfs_up pc9 ((F2477 (x + 3) 0 (by omega)))) (rwC_up rc ((F2477 (x + 3) 1 (by omega))) (fun j => (F2477 (x + 4) j (by omega)))) (by omega) (by omega) (by omega)) (fun h1 hR => ⟨hR.1, fun k j hC => (hR.2 k j hC).trans ((F2477 k j (by omega)))⟩)
theorem unl0 : dNo = unl [] := by
  funext a b
  exact propext ⟨fun k => k.elim, fun ⟨_, m, _⟩ => by cases m⟩
theorem dC_cg {h : zh} {A o : Nat} {D E : dfT} (c : dC h A o D) (e : D = E) : dC h A o E := by
  rw [← e]
  exact c
/-- the sides are as a text tells them -/
def okB (b : bsT) : Prop := ((∀ p ∈ b.1.1, okPt p) ∧ b.1.1.length ≤ 5) ∧ ((∀ p ∈ b.2.1, okPt p) ∧ b.2.1.length ≤ 5) ∧ ((∀ c ∈ b.1.2, okCl c) ∧ b.1.2.length ≤ 6) ∧ ((∀ c ∈ b.2.2, okCl c) ∧ b.2.2.length ≤ 6)
theorem q_bg {d t a x y : Nat} {τ : List Nat} {h : zh} {A B : sdT} (L : LQ τ h a) (hx : tyS τ x) (hy : tyS τ y) (lx : laS h x) (ly : laS h y) (rx : sdC h x A) (ry : sdC h y B) (nx : x + 5 ≤ a ∨ a + 9 ≤ x) (ny : y + 5 ≤ a ∨ a + 9 ≤ y) (ok : okB (A, B)) : qV (d + 6) 77 [some (.inl (some a)), some (.inl (some x)), some (.inl (some y)), none, none, none] h t (fun h1 => QC τ h1 a (bgA (A, B)) ∧ FQ a h h1) := by
  refine qV_of ?_
  refine y_same (i := .aload_n 0) (len := 1) (r := (0, 0, 0, 0)) (pc' := 1) (ls' := [some (.inl (some a)), some (.inl (some x)), some (.inl (some y)), none, none, none]) (st' := [.inl (some a)]) (by decide +kernel) (fun k q => by cases q) rfl ?_
  refine y_get (j := 23) (len := 3) (r := (7, 1, 2, 533)) (by decide +kernel) L.1 L.2.1.1 aw1008 rfl rfl L.2.2.2.1 ?_
  refine y_same (i := .aload_n 1) (len := 1) (r := (0, 0, 0, 0)) (pc' := 5) (ls' := [some (.inl (some a)), some (.inl (some x)), some (.inl (some y)), none, none, none]) (st' := [.inl (some x), .inl (some ((a + 3)))]) (by decide +kernel) (fun k q => by cases q) rfl ?_
  refine y_get (j := 52) (len := 3) (r := (8, 0, 2, 20179)) (by decide +kernel) L.1 hx.1 aw1001 rfl rfl lx.1 ?_
  refine y_cV (i := .invokevirtual 57) (len := 3) (r := (0, 71, 6, 580)) (nL := 3) (k := 0) (n := 2) (hs := []) (args := [.inl (some ((a + 3))), .inl (some ((x + 1)))]) (rest := []) (l0 := [some (.inl (some ((a + 3)))), some (.inl (some ((x + 1)))), none]) (by decide +kernel) (Or.inr (Or.inl ⟨_, rfl⟩)) rfl rfl rfl rfl (Nat.le_of_ble_eq_true rfl) (zO L.1 L.2.1.2.2.2.1 aw1004 rfl) rfl (qV_le (by omega) (e_cpr14a (d := 0) (RA := a + 3) (IA := a + 4) (RB := x + 1) (IB := x + 2) L.1 L.2.1.2.2.2.1 L.2.1.2.2.2.2.1 hx.2.1 hx.2.2.1 (by omega) (by omega) (by omega) (by omega) (by omega) L.2.2.2.2.2.2.2.1 (rfl.trans lx.2.2.1) (rwC_up rx.1 (rfl) (fun j => rfl)))) (fun h2487 hR2487 => ?_)
  obtain ⟨hg2487, r2487, F2487⟩ := hR2487
  refine y_same (i := .aload_n 0) (len := 1) (r := (0, 0, 0, 0)) (pc' := 12) (ls' := [some (.inl (some a)), some (.inl (some x)), some (.inl (some y)), none, none, none]) (st' := [.inl (some a)]) (by decide +kernel) (fun k q => by cases q) rfl ?_
  have hv2488 := (F2487 a 2 (by omega)).trans L.2.2.2.2.1
  refine y_get (j := 27) (len := 3) (r := (7, 2, 2, 536)) (by decide +kernel) hg2487 L.2.1.1 aw1008 rfl rfl hv2488 ?_
  refine y_same (i := .aload_n 2) (len := 1) (r := (0, 0, 0, 0)) (pc' := 16) (ls' := [some (.inl (some a)), some (.inl (some x)), some (.inl (some y)), none, none, none]) (st' := [.inl (some y), .inl (some ((a + 5)))]) (by decide +kernel) (fun k q => by cases q) rfl ?_
  have hv2489 := (F2487 y 0 (by omega)).trans ly.1
  refine y_get (j := 52) (len := 3) (r := (8, 0, 2, 20179)) (by decide +kernel) hg2487 hy.1 aw1001 rfl rfl hv2489 ?_
  have hv2491 := (F2487 (a + 5) 0 (by omega)).trans L.2.2.2.2.2.2.2.2.1
  refine y_cV (i := .invokevirtual 57) (len := 3) (r := (0, 71, 6, 580)) (nL := 3) (k := 0) (n := 2) (hs := []) (args := [.inl (some ((a + 5))), .inl (some ((y + 1)))]) (rest := []) (l0 := [some (.inl (some ((a + 5)))), some (.inl (some ((y + 1)))), none]) (by decide +kernel) (Or.inr (Or.inl ⟨_, rfl⟩)) rfl rfl rfl rfl (Nat.le_of_ble_eq_true rfl) (zO hg2487 L.2.1.2.2.2.2.2.1 aw1004 rfl) rfl (qV_le (by omega) (e_cpr14a (d := 0) (RA := a + 5) (IA := a + 6) (RB := y + 1) (IB := y + 2) hg2487 L.2.1.2.2.2.2.2.1 L.2.1.2.2.2.2.2.2.1 hy.2.1 hy.2.2.1 (by omega) (by omega) (by omega) (by omega) (by omega) hv2491 ((F2487 (y + 1) 0 (by omega)).trans ly.2.2.1) (rwC_up ry.1 ((F2487 (y + 1) 1 (by omega))) (fun j => (F2487 (y + 2) j (by omega)))))) (fun h2490 hR2490 => ?_)
  obtain ⟨hg2490, r2490, F2490⟩ := hR2490
  refine y_same (i := .aload_n 0) (len := 1) (r := (0, 0, 0, 0)) (pc' := 23) (ls' := [some (.inl (some a)), some (.inl (some x)), some (.inl (some y)), none, none, none]) (st' := [.inl (some a)]) (by decide +kernel) (fun k q => by cases q) rfl ?_
  have hv2492 := (F2487 a 3 (by omega)).trans L.2.2.2.2.2.1
  have hv2493 := (F2490 a 3 (by omega)).trans hv2492
  refine y_get (j := 30) (len := 3) (r := (7, 3, 2, 539)) (by decide +kernel) hg2490 L.2.1.1 aw1008 rfl rfl hv2493 ?_
  refine y_same (i := .aload_n 2) (len := 1) (r := (0, 0, 0, 0)) (pc' := 27) (ls' := [some (.inl (some a)), some (.inl (some x)), some (.inl (some y)), none, none, none]) (st' := [.inl (some y), .inl (some ((a + 7)))]) (by decide +kernel) (fun k q => by cases q) rfl ?_
  have hv2494 := (F2487 y 1 (by omega)).trans ly.2.1
  have hv2495 := (F2490 y 1 (by omega)).trans hv2494
  refine y_get (j := 61) (len := 3) (r := (8, 1, 2, 20186)) (by decide +kernel) hg2490 hy.1 aw1001 rfl rfl hv2495 ?_
  have hv2497 := (F2487 (a + 7) 0 (by omega)).trans L.2.2.2.2.2.2.2.2.2
  have hv2498 := (F2490 (a + 7) 0 (by omega)).trans hv2497
  refine y_cV (i := .invokevirtual 57) (len := 3) (r := (0, 71, 6, 580)) (nL := 3) (k := 0) (n := 2) (hs := []) (args := [.inl (some ((a + 7))), .inl (some ((y + 3)))]) (rest := []) (l0 := [some (.inl (some ((a + 7)))), some (.inl (some ((y + 3)))), none]) (by decide +kernel) (Or.inr (Or.inl ⟨_, rfl⟩)) rfl rfl rfl rfl (Nat.le_of_ble_eq_true rfl) (zO hg2490 L.2.1.2.2.2.2.2.2.2.1 aw1004 rfl) rfl (qV_le (by omega) (e_cpr14b (d := 0) (RA := a + 7) (IA := a + 8) (RB := y + 3) (IB := y + 4) hg2490 L.2.1.2.2.2.2.2.2.2.1 L.2.1.2.2.2.2.2.2.2.2 hy.2.2.2.1 hy.2.2.2.2 (by omega) (by omega) (by omega) (by omega) (by omega) hv2498 (((F2490 (y + 3) 0 (by omega)).trans (F2487 (y + 3) 0 (by omega))).trans ly.2.2.2) (rwC_up ry.2 (((F2490 (y + 3) 1 (by omega)).trans (F2487 (y + 3) 1 (by omega)))) (fun j => ((F2490 (y + 4) j (by omega)).trans (F2487 (y + 4) j (by omega))))))) (fun h2496 hR2496 => ?_)
  obtain ⟨hg2496, r2496, F2496⟩ := hR2496
  obtain ⟨xc9, hc9, ec9⟩ := r2496.1
  refine y_same (i := .aload_n 0) (len := 1) (r := (0, 0, 0, 0)) (pc' := 34) (ls' := [some (.inl (some a)), some (.inl (some x)), some (.inl (some y)), none, none, none]) (st' := [.inl (some a)]) (by decide +kernel) (fun k q => by cases q) rfl ?_
  have hv2499 := (F2487 a 0 (by omega)).trans L.2.2.1
  have hv2500 := (F2490 a 0 (by omega)).trans hv2499
  have hv2501 := (F2496 a 0 (by omega)).trans hv2500
  refine y_get (j := 12) (len := 3) (r := (7, 0, 2, 530)) (by decide +kernel) hg2496 L.2.1.1 aw1008 rfl rfl hv2501 ?_
  have hv2503 := (F2487 (a + 1) 0 (by omega)).trans L.2.2.2.2.2.2.1
  have hv2504 := (F2490 (a + 1) 0 (by omega)).trans hv2503
  have hv2505 := (F2496 (a + 1) 0 (by omega)).trans hv2504
  refine y_cV (i := .invokevirtual 62) (len := 3) (r := (0, 1, 0, 581)) (nL := 1) (k := 0) (n := 1) (hs := []) (args := [.inl (some ((a + 1)))]) (rest := []) (l0 := [some (.inl (some ((a + 1))))]) (by decide +kernel) (Or.inr (Or.inl ⟨_, rfl⟩)) rfl rfl rfl rfl (Nat.le_of_ble_eq_true rfl) (zO hg2496 L.2.1.2.1 aw1009 rfl) rfl (qV_le (by omega) (e_dclr (d := 0) (DA := a + 1) (OA := a + 2) hg2496 L.2.1.2.1 L.2.1.2.2.1 hv2505)) (fun h2502 hR2502 => ?_)
  obtain ⟨hg2502, r2502, F2502⟩ := hR2502
  refine y_same (i := .aload_n 1) (len := 1) (r := (0, 0, 0, 0)) (pc' := 41) (ls' := [some (.inl (some a)), some (.inl (some x)), some (.inl (some y)), none, none, none]) (st' := [.inl (some x)]) (by decide +kernel) (fun k q => by cases q) rfl ?_
  have hv2506 := (F2487 x 1 (by omega)).trans lx.2.1
  have hv2507 := (F2490 x 1 (by omega)).trans hv2506
  have hv2508 := (F2496 x 1 (by omega)).trans hv2507
  have hv2509 := (F2502 x 1 (by omega)).trans hv2508
  refine y_get (j := 61) (len := 3) (r := (8, 1, 2, 20186)) (by decide +kernel) hg2502 hx.1 aw1001 rfl rfl hv2509 ?_
  refine y_same (i := .astore_n 3) (len := 1) (r := (0, 0, 0, 0)) (pc' := 45) (ls' := [some (.inl (some a)), some (.inl (some x)), some (.inl (some y)), some (.inl (some ((x + 3)))), none, none]) (st' := []) (by decide +kernel) (fun k q => by cases q) rfl ?_
  refine y_same (i := .aload_n 0) (len := 1) (r := (0, 0, 0, 0)) (pc' := 46) (ls' := [some (.inl (some a)), some (.inl (some x)), some (.inl (some y)), some (.inl (some ((x + 3)))), none, none]) (st' := [.inl (some a)]) (by decide +kernel) (fun k q => by cases q) rfl ?_
  have hv2510 := (F2496 a 3 (by omega)).trans hv2493
  have hv2511 := (F2502 a 3 (by omega)).trans hv2510
  refine y_get (j := 30) (len := 3) (r := (7, 3, 2, 539)) (by decide +kernel) hg2502 L.2.1.1 aw1008 rfl rfl hv2511 ?_
  have hv2512 := (F2502 (a + 7) 1 (by omega)).trans hc9
  refine y_get (j := 65) (len := 3) (r := (6, 1, 0, 20165)) (by decide +kernel) hg2502 L.2.1.2.2.2.2.2.2.2.1 aw1004 rfl rfl hv2512 ?_
  refine y_same (i := .istore 4) (len := 2) (r := (0, 0, 0, 0)) (pc' := 54) (ls' := [some (.inl (some a)), some (.inl (some x)), some (.inl (some y)), some (.inl (some ((x + 3)))), some (zi xc9), none]) (st' := []) (by decide +kernel) (fun k q => by cases q) rfl ?_
  refine y_ic (c := 0) (len := 1) (r := (0, 0, 0, 0)) (by decide +kernel) (by decide) (fun y2513 hy2513 => ?_)
  refine y_same (i := .istore 5) (len := 2) (r := (0, 0, 0, 0)) (pc' := 57) (ls' := [some (.inl (some a)), some (.inl (some x)), some (.inl (some y)), some (.inl (some ((x + 3)))), some (zi xc9), some (zi y2513)]) (st' := []) (by decide +kernel) (fun k q => by cases q) rfl ?_
  have FF : FQ a h h2502 := fun k j hC => ((F2502 k j (by omega)).trans ((F2496 k j (by omega)).trans ((F2490 k j (by omega)).trans (F2487 k j (by omega)))))
  obtain ⟨l1, l2, l3, l4, l5, l6, l7, l8⟩ := L.2.2
  have Q : QC τ h2502 a (A.1, B.1, B.2 ++ (A.2.take 0).filter srb, unl (A.2.take 0)) := by
    rw [List.take_zero, List.filter_nil, List.append_nil]
    refine ⟨hg2502, L.2.1, ⟨rfs_up l1 (((F2502 a 0 (by omega)).trans ((F2496 a 0 (by omega)).trans ((F2490 a 0 (by omega)).trans (F2487 a 0 (by omega)))))), rfs_up l2 (((F2502 a 1 (by omega)).trans ((F2496 a 1 (by omega)).trans ((F2490 a 1 (by omega)).trans (F2487 a 1 (by omega)))))), rfs_up l3 (((F2502 a 2 (by omega)).trans ((F2496 a 2 (by omega)).trans ((F2490 a 2 (by omega)).trans (F2487 a 2 (by omega)))))), rfs_up l4 (((F2502 a 3 (by omega)).trans ((F2496 a 3 (by omega)).trans ((F2490 a 3 (by omega)).trans (F2487 a 3 (by omega)))))), rfs_up l5 (((F2502 (a + 1) 0 (by omega)).trans ((F2496 (a + 1) 0 (by omega)).trans ((F2490 (a + 1) 0 (by omega)).trans (F2487 (a + 1) 0 (by omega)))))), rfs_up l6 (((F2502 (a + 3) 0 (by omega)).trans ((F2496 (a + 3) 0 (by omega)).trans ((F2490 (a + 3) 0 (by omega)).trans (F2487 (a + 3) 0 (by omega)))))), rfs_up l7 (((F2502 (a + 5) 0 (by omega)).trans ((F2496 (a + 5) 0 (by omega)).trans ((F2490 (a + 5) 0 (by omega)).trans (F2487 (a + 5) 0 (by omega)))))), rfs_up l8 (((F2502 (a + 7) 0 (by omega)).trans ((F2496 (a + 7) 0 (by omega)).trans ((F2490 (a + 7) 0 (by omega)).trans (F2487 (a + 7) 0 (by omega))))))⟩, ⟨rwC_up r2487 (((F2502 (a + 3) 1 (by omega)).trans ((F2496 (a + 3) 1 (by omega)).trans (F2490 (a + 3) 1 (by omega))))) (fun j => ((F2502 (a + 4) j (by omega)).trans ((F2496 (a + 4) j (by omega)).trans (F2490 (a + 4) j (by omega))))), rwC_up r2490 (((F2502 (a + 5) 1 (by omega)).trans (F2496 (a + 5) 1 (by omega)))) (fun j => ((F2502 (a + 6) j (by omega)).trans (F2496 (a + 6) j (by omega)))), rwC_up r2496 ((F2502 (a + 7) 1 (by omega))) (fun j => (F2502 (a + 8) j (by omega))), dC_up (dC_cg r2502 unl0) (fun j => rfl)⟩, ok.1.1, ok.2.1.1, ok.2.2.2.1, ?_⟩
    rw [← unl0]
    exact ⟨fun a b q => q.elim, fun a b q => q⟩
  refine qX_V (bg_l (x := x) (y := y) (l := A.2) hx nx ok.2.2.1.1 ok.2.2.1.2 ok.2.2.2.2 (own := B.2.length) (xo := xc9) (by omega) (A.2.length + 1) h2502 0 y2513 Q (((F2502 (x + 3) 0 (by omega)).trans ((F2496 (x + 3) 0 (by omega)).trans ((F2490 (x + 3) 0 (by omega)).trans (F2487 (x + 3) 0 (by omega))))).trans lx.2.2.2) (rwC_up rx.2 (((F2502 (x + 3) 1 (by omega)).trans ((F2496 (x + 3) 1 (by omega)).trans ((F2490 (x + 3) 1 (by omega)).trans (F2487 (x + 3) 1 (by omega)))))) (fun j => ((F2502 (x + 4) j (by omega)).trans ((F2496 (x + 4) j (by omega)).trans ((F2490 (x + 4) j (by omega)).trans (F2487 (x + 4) j (by omega))))))) (by omega) (by omega) (by omega)) (fun h1 hR => ⟨hR.1, FQ_tr FF hR.2⟩)
