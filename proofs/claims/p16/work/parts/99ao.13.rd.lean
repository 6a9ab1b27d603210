/-! a sequent of the class: made READY -/
def sumL : List it4 → Nat
  | [] => 0
  | p :: L => (p.2.1 + p.2.2.1 + p.2.2.2).toNat + sumL L
def mq (s : sqT) : Nat := s.1.length + s.2.1.length + s.2.2.1.length + sumL s.1
theorem sumL_er : ∀ {L : List it4} {k : Nat}, sumL (L.eraseIdx k) ≤ sumL L
  | [], k => Nat.le_refl _
  | p :: L, 0 => by
    show sumL L ≤ _ + sumL L
    omega
  | p :: L, k + 1 => by
    show _ + sumL (L.eraseIdx k) ≤ _ + sumL L
    have := sumL_er (L := L) (k := k)
    omega
theorem rn1_le {a b v : Int} : rn1 a b v ≤ v := by
  unfold rn1
  split <;> omega
theorem rn1_lt {a b v : Int} (ne : a ≠ b) (e : v = max a b) : rn1 a b v < v := by
  unfold rn1
  rw [if_pos e]
  omega
theorem rn1_nn {a b v : Int} (ha : 0 ≤ a) (hb : 0 ≤ b) (hv : 0 ≤ v) : 0 ≤ rn1 a b v := by
  unfold rn1
  split <;> omega
theorem sumL_le {a b : Int} (ha : 0 ≤ a) (hb : 0 ≤ b) : ∀ {L : List it4}, (∀ p ∈ L, 0 ≤ p.2.1 ∧ 0 ≤ p.2.2.1 ∧ 0 ≤ p.2.2.2) → sumL (L.map (mI (rn1 a b))) ≤ sumL L
  | [], _ => Nat.le_refl _
  | p :: L, o => by
    have h1 := sumL_le ha hb (fun q hq => o q (List.mem_cons_of_mem _ hq))
    obtain ⟨o1, o2, o3⟩ := o p List.mem_cons_self
    have l1 := rn1_le (a := a) (b := b) (v := p.2.1)
    have l2 := rn1_le (a := a) (b := b) (v := p.2.2.1)
    have l3 := rn1_le (a := a) (b := b) (v := p.2.2.2)
    show (rn1 a b p.2.1 + rn1 a b p.2.2.1 + rn1 a b p.2.2.2).toNat + sumL (L.map (mI (rn1 a b))) ≤ (p.2.1 + p.2.2.1 + p.2.2.2).toNat + sumL L
    omega
theorem sumL_lt {a b : Int} (ha : 0 ≤ a) (hb : 0 ≤ b) (ne : a ≠ b) : ∀ {L : List it4}, (∀ p ∈ L, 0 ≤ p.2.1 ∧ 0 ≤ p.2.2.1 ∧ 0 ≤ p.2.2.2) → (∃ p ∈ L, p.2.1 = max a b ∨ p.2.2.1 = max a b) → sumL (L.map (mI (rn1 a b))) < sumL L
  | [], _, ⟨p, m, _⟩ => by cases m
  | p :: L, o, ⟨q, m, e⟩ => by
    have h1 := sumL_le ha hb (fun q hq => o q (List.mem_cons_of_mem _ hq))
    obtain ⟨o1, o2, o3⟩ := o p List.mem_cons_self
    have l1 := rn1_le (a := a) (b := b) (v := p.2.1)
    have l2 := rn1_le (a := a) (b := b) (v := p.2.2.1)
    have l3 := rn1_le (a := a) (b := b) (v := p.2.2.2)
    have n1 := rn1_nn ha hb o1
    have n2 := rn1_nn ha hb o2
    have n3 := rn1_nn ha hb o3
    show (rn1 a b p.2.1 + rn1 a b p.2.2.1 + rn1 a b p.2.2.2).toNat + sumL (L.map (mI (rn1 a b))) < (p.2.1 + p.2.2.1 + p.2.2.2).toNat + sumL L
    rcases List.mem_cons.mp m with m | m
    · subst m
      rcases e with e | e
      · have := rn1_lt ne e
        omega
      · have := rn1_lt ne e
        omega
    · have := sumL_lt ha hb ne (fun q hq => o q (List.mem_cons_of_mem _ hq)) ⟨q, m, e⟩
      omega
theorem okP_nn {p : it4} (o : okPt p) : 0 ≤ p.2.1 ∧ 0 ≤ p.2.2.1 ∧ 0 ≤ p.2.2.2 := ⟨o.1.2.1.1, o.1.2.2.1.1, o.1.2.2.2.1⟩
theorem asks_ne {s : sqT} {a b : Int} (o : okQ s) (n : ∀ q ∈ s.1, ¬ trv q) (k : asks s.1 a b) : a ≠ b ∧ (0 ≤ a ∧ a ≤ 20) ∧ (0 ≤ b ∧ b ≤ 20) ∧ ∃ p ∈ s.1, p.2.1 = max a b ∨ p.2.2.1 = max a b := by
  rcases k with ⟨p, hp, h1, h2, h3, h4⟩ | ⟨p, hp, h1, h2, h3, -⟩ | ⟨⟨i, j, p, q, hij, hi, hj, h1, h2, h3, h4⟩, h5⟩
  · have op := (o.1 p hp).1
    unfold okV at op
    have nt := n p hp
    refine ⟨fun e => nt ⟨by omega, by omega⟩, by omega, by omega, p, hp, Or.inr (by omega)⟩
  · have op := (o.1 p hp).1
    unfold okV at op
    have nt := n p hp
    refine ⟨fun e => nt ⟨by omega, by omega⟩, by omega, by omega, p, hp, ?_⟩
    rcases Int.le_total a b with q | q
    · exact Or.inr (by omega)
    · exact Or.inl (by omega)
  · have m := List.mem_of_getElem? hi
    have op := (o.1 p m).1
    have oz := (o.1 p m).2.2 h1
    unfold okV at op
    have nt := n p m
    refine ⟨fun e => nt ⟨by omega, by omega⟩, by omega, by omega, p, m, Or.inl (by omega)⟩
theorem asks_mq {s : sqT} {a b : Int} (o : okQ s) (n : ∀ q ∈ s.1, ¬ trv q) (k : asks s.1 a b) : mq (mkQ a b s) < mq s := by
  obtain ⟨ne, h1, h2, ex⟩ := asks_ne o n k
  have := sumL_lt h1.1 h2.1 ne (fun p hp => okP_nn (o.1 p hp)) ex
  unfold mq mkQ
  simp only [List.length_map]
  omega
theorem mq_erL {s : sqT} {k : Nat} (hk : k < s.1.length) : mq (s.1.eraseIdx k, s.2.1, s.2.2.1, s.2.2.2) < mq s := by
  have := sumL_er (L := s.1) (k := k)
  unfold mq
  simp only [List.length_eraseIdx]
  rw [if_pos hk]
  omega
theorem mq_erR {s : sqT} {k : Nat} (hk : k < s.2.1.length) : mq (s.1, s.2.1.eraseIdx k, s.2.2.1, s.2.2.2) < mq s := by
  unfold mq
  simp only [List.length_eraseIdx]
  rw [if_pos hk]
  omega
theorem mq_erC {s : sqT} {k : Nat} (hk : k < s.2.2.1.length) : mq (s.1, s.2.1, s.2.2.1.eraseIdx k, s.2.2.2) < mq s := by
  unfold mq
  simp only [List.length_eraseIdx]
  rw [if_pos hk]
  omega
/-- one thing is done, or there is none of a kind -/
def sdo_ (τ : List Nat) (a : Nat) (h : zh) (s : sqT) (N : Prop) (y : Int32) (h1 : zh) : Prop := (y.toInt = 1 ∧ ¬ N ∧ ∃ s', (stp1 s s' ∧ mq s' < mq s) ∧ QC τ h1 a s' ∧ FQ a h h1) ∨ (y.toInt = 0 ∧ h = h1 ∧ N)
theorem tree_eq {p q : it4} (o : okPt p) (o' : okPt q) (h : p.1 = 3) (h' : q.1 = 3) (e : p.2.1 = q.2.1) : p = q := by
  obtain ⟨k, x, y, z⟩ := p
  obtain ⟨k', x', y', z'⟩ := q
  have a1 : y = 0 := o.2.2 h
  have a2 : y' = 0 := o'.2.2 h'
  have h : k = 3 := h
  have h' : k' = 3 := h'
  have e : x = x' := e
  have a3 : z = 0 := o.2.1 (by show k ≠ 1; omega)
  have a4 : z' = 0 := o'.2.1 (by show k' ≠ 1; omega)
  subst a1 a2 a3 a4 h h' e
  rfl
theorem lan_l {d t a : Nat} {τ : List Nat} {h : zh} {s : sqT} (Q : QC τ h a s) (nt : ∀ q ∈ s.1, ¬ trv q) : ∀ (n : Nat) (i : Nat) (xi : Int32), (xi.toInt = (i : Int)) → (i ≤ s.1.length) → (∀ (j : Nat) (q : it4), j < i → s.1[j]? = some q → q.1 = 2 → q.2.1 ≠ 0) → (s.1.length < i + n) → qX (d + 2) 88 2 [some (.inl (some a)), some (zi xi)] [] h t (rI (sdo_ τ a h s (∀ p ∈ s.1, p.1 = 2 → p.2.1 ≠ 0)) t) := by
  intro n
  induction n with
  | zero =>
    intro i xi hxi hi c1 hn
    exfalso
    omega
  | succ n ih =>
    intro i xi hxi hi c1 hn
    skip
    refine y_same (i := .iload_n 1) (len := 1) (r := (0, 0, 0, 0)) (pc' := 3) (ls' := [some (.inl (some a)), some (zi xi)]) (st' := [zi xi]) (by decide +kernel) (fun k q => by cases q) rfl ?_
    refine y_same (i := .aload_n 0) (len := 1) (r := (0, 0, 0, 0)) (pc' := 4) (ls' := [some (.inl (some a)), some (zi xi)]) (st' := [.inl (some a), zi xi]) (by decide +kernel) (fun k q => by cases q) rfl ?_
    refine y_get (j := 23) (len := 3) (r := (7, 1, 2, 533)) (by decide +kernel) Q.1 Q.2.1.1 aw1008 rfl rfl Q.2.2.1.2.1 ?_
    obtain ⟨z2023, hz2023, ez2023, mz2023⟩ := q_szL Q
    have ez2023 : z2023.toInt = ((s.1.length : Nat) : Int) := ez2023
    have mz2023 : s.1.length ≤ 14 := mz2023
    refine y_get (j := 65) (len := 3) (r := (6, 1, 0, 20165)) (by decide +kernel) Q.1 Q.2.1.2.2.2.1 aw1004 rfl rfl hz2023 ?_
    rcases Decidable.em (xi.toInt ≥ z2023.toInt) with q2024 | q2024
    ·
      refine y_cT (c := .ge) (off := 50) (pc' := 60) (len := 3) (r := (0, 0, 0, 0)) (by decide +kernel) (acmpT (c := .ge) (by show _ ≤ _; omega)) (by decide +kernel) ?_
      refine y_ic (c := 0) (len := 1) (r := (0, 0, 0, 0)) (by decide +kernel) (by decide) (fun y2025 hy2025 => ?_)
      refine y_rI (len := 1) (r := (0, 0, 0, 0)) (nL := 2) (k := 2) (n9 := 1) (hs := []) (by decide +kernel) rfl (zfit_b (by omega) (by omega)).2 ?_
      exact Or.inr ⟨by omega, rfl, fun q m9 h1 => by obtain ⟨j, hj⟩ := List.getElem?_of_mem m9; exact c1 j q (by have := (List.getElem?_eq_some_iff.mp hj).1; omega) hj h1⟩
    ·
      refine y_cF (c := .ge) (off := 50) (len := 3) (r := (0, 0, 0, 0)) (by decide +kernel) (acmpF (c := .ge) (by show _ < _; omega)) ?_
      refine y_same (i := .aload_n 0) (len := 1) (r := (0, 0, 0, 0)) (pc' := 14) (ls' := [some (.inl (some a)), some (zi xi)]) (st' := [.inl (some a)]) (by decide +kernel) (fun k q => by cases q) rfl ?_
      refine y_get (j := 23) (len := 3) (r := (7, 1, 2, 533)) (by decide +kernel) Q.1 Q.2.1.1 aw1008 rfl rfl Q.2.2.1.2.1 ?_
      refine y_same (i := .iload_n 1) (len := 1) (r := (0, 0, 0, 0)) (pc' := 18) (ls' := [some (.inl (some a)), some (zi xi)]) (st' := [zi xi, .inl (some ((a + 3)))]) (by decide +kernel) (fun k q => by cases q) rfl ?_
      refine y_ic (c := 0) (len := 1) (r := (0, 0, 0, 0)) (by decide +kernel) (by decide) (fun y2026 hy2026 => ?_)
      obtain ⟨i2028, ki2028⟩ : ∃ i9, s.1[i]? = some i9 := ⟨_, List.getElem?_eq_getElem (by omega)⟩
      have oi2028 := okQ_L Q.2.2.2.2 ki2028
      have pi2028 := oi2028.1
      unfold okV at pi2028
      refine y_cI (i := .invokevirtual 68) (len := 3) (r := (0, 64, 6, 586)) (nL := 3) (k := 1) (n := 3) (hs := []) (args := [.inl (some ((a + 3))), zi xi, zi y2026]) (rest := []) (l0 := [some (.inl (some ((a + 3)))), some (zi xi), some (zi y2026)]) (by decide +kernel) (Or.inr (Or.inl ⟨_, rfl⟩)) rfl rfl rfl rfl (Nat.le_of_ble_eq_true rfl) (zO Q.1 Q.2.1.2.2.2.1 aw1004 rfl) rfl (qI_le (by omega) (q_tlL (d := 0) (k := i) (w := 0) Q (by omega) ki2028 (by omega) (by omega))) (fun y2027 qy2027 hRy2027 => ?_)
      obtain ⟨rfl, ey2027⟩ := hRy2027
      have ey2027 : y2027.toInt = i2028.1 := ey2027
      refine y_ic (c := 2) (len := 1) (r := (0, 0, 0, 0)) (by decide +kernel) (by decide) (fun y2029 hy2029 => ?_)
      rcases Decidable.em (y2027.toInt ≠ y2029.toInt) with q2030 | q2030
      ·
        refine y_cT (c := .ne) (off := 31) (pc' := 54) (len := 3) (r := (0, 0, 0, 0)) (by decide +kernel) (acmpT (c := .ne) (by show ¬ (_ = _); omega)) (by decide +kernel) ?_
        refine y_inc (j := 1) (a := xi) (c := 1) (ls' := fun v => [some (.inl (some a)), some v]) (len := 3) (r := (0, 0, 0, 0)) (by decide +kernel) rfl (fun _ => rfl) (by decide) (by omega) (by omega) (fun y2031 hy2031 => ?_)
        show qX (d + 2) 88 57 [some (.inl (some a)), some (zi y2031)] [] h t _
        refine y_goto (off := (-55)) (pc' := 2) (len := 3) (r := (0, 0, 0, 0)) (by decide +kernel) (by decide +kernel) ?_
        refine ih (i + 1) y2031 (by omega) (by omega) (fun j q hj h2 h1 => ?_) (by omega)
        rcases Nat.lt_or_ge j i with q9 | q9
        · exact c1 j q q9 h2 h1
        · obtain rfl : j = i := by omega
          cases ki2028.symm.trans h2
          omega
      ·
        refine y_cF (c := .ne) (off := 31) (len := 3) (r := (0, 0, 0, 0)) (by decide +kernel) (acmpF (c := .ne) (by show _ = _; omega)) ?_
        refine y_same (i := .aload_n 0) (len := 1) (r := (0, 0, 0, 0)) (pc' := 27) (ls' := [some (.inl (some a)), some (zi xi)]) (st' := [.inl (some a)]) (by decide +kernel) (fun k q => by cases q) rfl ?_
        refine y_get (j := 23) (len := 3) (r := (7, 1, 2, 533)) (by decide +kernel) Q.1 Q.2.1.1 aw1008 rfl rfl Q.2.2.1.2.1 ?_
        refine y_same (i := .iload_n 1) (len := 1) (r := (0, 0, 0, 0)) (pc' := 31) (ls' := [some (.inl (some a)), some (zi xi)]) (st' := [zi xi, .inl (some ((a + 3)))]) (by decide +kernel) (fun k q => by cases q) rfl ?_
        refine y_ic (c := 1) (len := 1) (r := (0, 0, 0, 0)) (by decide +kernel) (by decide) (fun y2032 hy2032 => ?_)
        refine y_cI (i := .invokevirtual 68) (len := 3) (r := (0, 64, 6, 586)) (nL := 3) (k := 1) (n := 3) (hs := []) (args := [.inl (some ((a + 3))), zi xi, zi y2032]) (rest := []) (l0 := [some (.inl (some ((a + 3)))), some (zi xi), some (zi y2032)]) (by decide +kernel) (Or.inr (Or.inl ⟨_, rfl⟩)) rfl rfl rfl rfl (Nat.le_of_ble_eq_true rfl) (zO Q.1 Q.2.1.2.2.2.1 aw1004 rfl) rfl (qI_le (by omega) (q_tlL (d := 0) (k := i) (w := 1) Q (by omega) ki2028 (by omega) (by omega))) (fun y2033 qy2033 hRy2033 => ?_)
        obtain ⟨rfl, ey2033⟩ := hRy2033
        have ey2033 : y2033.toInt = i2028.2.1 := ey2033
        rcases Decidable.em (y2033.toInt ≠ 0) with q2034 | q2034
        ·
          refine y_iT (c := .ne) (off := 19) (pc' := 54) (len := 3) (r := (0, 0, 0, 0)) (by decide +kernel) (acmpT (c := .ne) (by show ¬ (_ = _); omega)) (by decide +kernel) ?_
          refine y_inc (j := 1) (a := xi) (c := 1) (ls' := fun v => [some (.inl (some a)), some v]) (len := 3) (r := (0, 0, 0, 0)) (by decide +kernel) rfl (fun _ => rfl) (by decide) (by omega) (by omega) (fun y2035 hy2035 => ?_)
          show qX (d + 2) 88 57 [some (.inl (some a)), some (zi y2035)] [] h t _
          refine y_goto (off := (-55)) (pc' := 2) (len := 3) (r := (0, 0, 0, 0)) (by decide +kernel) (by decide +kernel) ?_
          refine ih (i + 1) y2035 (by omega) (by omega) (fun j q hj h2 h1 => ?_) (by omega)
          rcases Nat.lt_or_ge j i with q9 | q9
          · exact c1 j q q9 h2 h1
          · obtain rfl : j = i := by omega
            cases ki2028.symm.trans h2
            omega
        ·
          refine y_iF (c := .ne) (off := 19) (len := 3) (r := (0, 0, 0, 0)) (by decide +kernel) (acmpF (c := .ne) (by show _ = _; omega)) ?_
          refine y_same (i := .aload_n 0) (len := 1) (r := (0, 0, 0, 0)) (pc' := 39) (ls' := [some (.inl (some a)), some (zi xi)]) (st' := [.inl (some a)]) (by decide +kernel) (fun k q => by cases q) rfl ?_
          refine y_same (i := .aload_n 0) (len := 1) (r := (0, 0, 0, 0)) (pc' := 40) (ls' := [some (.inl (some a)), some (zi xi)]) (st' := [.inl (some a), .inl (some a)]) (by decide +kernel) (fun k q => by cases q) rfl ?_
          refine y_get (j := 23) (len := 3) (r := (7, 1, 2, 533)) (by decide +kernel) Q.1 Q.2.1.1 aw1008 rfl rfl Q.2.2.1.2.1 ?_
          refine y_same (i := .iload_n 1) (len := 1) (r := (0, 0, 0, 0)) (pc' := 44) (ls' := [some (.inl (some a)), some (zi xi)]) (st' := [zi xi, .inl (some ((a + 3))), .inl (some a)]) (by decide +kernel) (fun k q => by cases q) rfl ?_
          refine y_ic (c := 2) (len := 1) (r := (0, 0, 0, 0)) (by decide +kernel) (by decide) (fun y2036 hy2036 => ?_)
          refine y_cI (i := .invokevirtual 68) (len := 3) (r := (0, 64, 6, 586)) (nL := 3) (k := 1) (n := 3) (hs := []) (args := [.inl (some ((a + 3))), zi xi, zi y2036]) (rest := [.inl (some a)]) (l0 := [some (.inl (some ((a + 3)))), some (zi xi), some (zi y2036)]) (by decide +kernel) (Or.inr (Or.inl ⟨_, rfl⟩)) rfl rfl rfl rfl (Nat.le_of_ble_eq_true rfl) (zO Q.1 Q.2.1.2.2.2.1 aw1004 rfl) rfl (qI_le (by omega) (q_tlL (d := 0) (k := i) (w := 2) Q (by omega) ki2028 (by omega) (by omega))) (fun y2037 qy2037 hRy2037 => ?_)
          obtain ⟨rfl, ey2037⟩ := hRy2037
          have ey2037 : y2037.toInt = i2028.2.2.1 := ey2037
          refine y_ic (c := 0) (len := 1) (r := (0, 0, 0, 0)) (by decide +kernel) (by decide) (fun y2038 hy2038 => ?_)
          refine y_cV (i := .invokevirtual 88) (len := 3) (r := (0, 80, 7, 617)) (nL := 5) (k := 0) (n := 3) (hs := []) (args := [.inl (some a), zi y2037, zi y2038]) (rest := []) (l0 := [some (.inl (some a)), some (zi y2037), some (zi y2038), none, none]) (by decide +kernel) (Or.inr (Or.inl ⟨_, rfl⟩)) rfl rfl rfl rfl (Nat.le_of_ble_eq_true rfl) (zO Q.1 Q.2.1.1 aw1008 rfl) rfl (qV_le (by omega) (q_mk (d := 0) (x := i2028.2.2.1) (y := 0) Q (by omega) (by omega) (by omega) (by omega))) (fun h2039 hR2039 => ?_)
          obtain ⟨Q2039, F2039⟩ := hR2039
          refine y_ic (c := 1) (len := 1) (r := (0, 0, 0, 0)) (by decide +kernel) (by decide) (fun y2040 hy2040 => ?_)
          refine y_rI (len := 1) (r := (0, 0, 0, 0)) (nL := 2) (k := 2) (n9 := 1) (hs := []) (by decide +kernel) rfl (zfit_b (by omega) (by omega)).2 ?_
          have m9 := List.mem_of_getElem? ki2028
          have ak : asks s.1 (i2028.2.2.1) 0 := Or.inl ⟨i2028, m9, by omega, by omega, rfl, rfl⟩
          exact Or.inl ⟨by omega, fun q9 => q9 i2028 m9 (by omega) (by omega), _, ⟨Or.inr (Or.inl ⟨i2028.2.2.1, 0, ak, rfl⟩), asks_mq Q.2.2.2.2 nt ak⟩, Q2039, F2039⟩
theorem q_lan {d t a : Nat} {τ : List Nat} {h : zh} {s : sqT} (Q : QC τ h a s) (nt : ∀ q ∈ s.1, ¬ trv q) : qI (d + 3) 88 [some (.inl (some a)), none] h t (sdo_ τ a h s (∀ p ∈ s.1, p.1 = 2 → p.2.1 ≠ 0)) := by
  refine qI_of ?_
  refine y_ic (c := 0) (len := 1) (r := (0, 0, 0, 0)) (by decide +kernel) (by decide) (fun y2041 hy2041 => ?_)
  refine y_same (i := .istore_n 1) (len := 1) (r := (0, 0, 0, 0)) (pc' := 2) (ls' := [some (.inl (some a)), some (zi y2041)]) (st' := []) (by decide +kernel) (fun k q => by cases q) rfl ?_
  exact lan_l Q nt (s.1.length + 1) 0 y2041 (by omega) (by omega) (fun j _ hj => absurd hj (Nat.not_lt_zero j)) (by omega)
theorem lao_l {d t a : Nat} {τ : List Nat} {h : zh} {s : sqT} (Q : QC τ h a s) (nt : ∀ q ∈ s.1, ¬ trv q) {xb : Int32} (bO : bs_ xb (fun v => ∃ p ∈ s.1, p.1 ≤ 1 ∧ p.2.1 = (v : Int))) : ∀ (n : Nat) (i : Nat) (xi : Int32), (xi.toInt = (i : Int)) → (i ≤ s.1.length) → (∀ (j : Nat) (q : it4), j < i → s.1[j]? = some q → q.1 = 2 → ∀ r ∈ s.1, r.1 ≤ 1 → r.2.1 ≠ q.2.1) → (s.1.length < i + n) → qX (d + 2) 89 10 [some (.inl (some a)), some (zi xb), some (zi xi)] [] h t (rI (sdo_ τ a h s (∀ p ∈ s.1, p.1 = 2 → ∀ q ∈ s.1, q.1 ≤ 1 → q.2.1 ≠ p.2.1)) t) := by
  intro n
  induction n with
  | zero =>
    intro i xi hxi hi c1 hn
    exfalso
    omega
  | succ n ih =>
    intro i xi hxi hi c1 hn
    skip
    refine y_same (i := .iload_n 2) (len := 1) (r := (0, 0, 0, 0)) (pc' := 11) (ls' := [some (.inl (some a)), some (zi xb), some (zi xi)]) (st' := [zi xi]) (by decide +kernel) (fun k q => by cases q) rfl ?_
    refine y_same (i := .aload_n 0) (len := 1) (r := (0, 0, 0, 0)) (pc' := 12) (ls' := [some (.inl (some a)), some (zi xb), some (zi xi)]) (st' := [.inl (some a), zi xi]) (by decide +kernel) (fun k q => by cases q) rfl ?_
    refine y_get (j := 23) (len := 3) (r := (7, 1, 2, 533)) (by decide +kernel) Q.1 Q.2.1.1 aw1008 rfl rfl Q.2.2.1.2.1 ?_
    obtain ⟨z2042, hz2042, ez2042, mz2042⟩ := q_szL Q
    have ez2042 : z2042.toInt = ((s.1.length : Nat) : Int) := ez2042
    have mz2042 : s.1.length ≤ 14 := mz2042
    refine y_get (j := 65) (len := 3) (r := (6, 1, 0, 20165)) (by decide +kernel) Q.1 Q.2.1.2.2.2.1 aw1004 rfl rfl hz2042 ?_
    rcases Decidable.em (xi.toInt ≥ z2042.toInt) with q2043 | q2043
    ·
      refine y_cT (c := .ge) (off := 63) (pc' := 81) (len := 3) (r := (0, 0, 0, 0)) (by decide +kernel) (acmpT (c := .ge) (by show _ ≤ _; omega)) (by decide +kernel) ?_
      refine y_ic (c := 0) (len := 1) (r := (0, 0, 0, 0)) (by decide +kernel) (by decide) (fun y2044 hy2044 => ?_)
      refine y_rI (len := 1) (r := (0, 0, 0, 0)) (nL := 3) (k := 2) (n9 := 1) (hs := []) (by decide +kernel) rfl (zfit_b (by omega) (by omega)).2 ?_
      exact Or.inr ⟨by omega, rfl, fun q m9 h1 => by obtain ⟨j, hj⟩ := List.getElem?_of_mem m9; exact c1 j q (by have := (List.getElem?_eq_some_iff.mp hj).1; omega) hj h1⟩
    ·
      refine y_cF (c := .ge) (off := 63) (len := 3) (r := (0, 0, 0, 0)) (by decide +kernel) (acmpF (c := .ge) (by show _ < _; omega)) ?_
      refine y_same (i := .aload_n 0) (len := 1) (r := (0, 0, 0, 0)) (pc' := 22) (ls' := [some (.inl (some a)), some (zi xb), some (zi xi)]) (st' := [.inl (some a)]) (by decide +kernel) (fun k q => by cases q) rfl ?_
      refine y_get (j := 23) (len := 3) (r := (7, 1, 2, 533)) (by decide +kernel) Q.1 Q.2.1.1 aw1008 rfl rfl Q.2.2.1.2.1 ?_
      refine y_same (i := .iload_n 2) (len := 1) (r := (0, 0, 0, 0)) (pc' := 26) (ls' := [some (.inl (some a)), some (zi xb), some (zi xi)]) (st' := [zi xi, .inl (some ((a + 3)))]) (by decide +kernel) (fun k q => by cases q) rfl ?_
      refine y_ic (c := 0) (len := 1) (r := (0, 0, 0, 0)) (by decide +kernel) (by decide) (fun y2045 hy2045 => ?_)
      obtain ⟨i2047, ki2047⟩ : ∃ i9, s.1[i]? = some i9 := ⟨_, List.getElem?_eq_getElem (by omega)⟩
      have oi2047 := okQ_L Q.2.2.2.2 ki2047
      have pi2047 := oi2047.1
      unfold okV at pi2047
      refine y_cI (i := .invokevirtual 68) (len := 3) (r := (0, 64, 6, 586)) (nL := 3) (k := 1) (n := 3) (hs := []) (args := [.inl (some ((a + 3))), zi xi, zi y2045]) (rest := []) (l0 := [some (.inl (some ((a + 3)))), some (zi xi), some (zi y2045)]) (by decide +kernel) (Or.inr (Or.inl ⟨_, rfl⟩)) rfl rfl rfl rfl (Nat.le_of_ble_eq_true rfl) (zO Q.1 Q.2.1.2.2.2.1 aw1004 rfl) rfl (qI_le (by omega) (q_tlL (d := 0) (k := i) (w := 0) Q (by omega) ki2047 (by omega) (by omega))) (fun y2046 qy2046 hRy2046 => ?_)
      obtain ⟨rfl, ey2046⟩ := hRy2046
      have ey2046 : y2046.toInt = i2047.1 := ey2046
      refine y_ic (c := 2) (len := 1) (r := (0, 0, 0, 0)) (by decide +kernel) (by decide) (fun y2048 hy2048 => ?_)
      rcases Decidable.em (y2046.toInt ≠ y2048.toInt) with q2049 | q2049
      ·
        refine y_cT (c := .ne) (off := 44) (pc' := 75) (len := 3) (r := (0, 0, 0, 0)) (by decide +kernel) (acmpT (c := .ne) (by show ¬ (_ = _); omega)) (by decide +kernel) ?_
        refine y_inc (j := 2) (a := xi) (c := 1) (ls' := fun v => [some (.inl (some a)), some (zi xb), some v]) (len := 3) (r := (0, 0, 0, 0)) (by decide +kernel) rfl (fun _ => rfl) (by decide) (by omega) (by omega) (fun y2050 hy2050 => ?_)
        show qX (d + 2) 89 78 [some (.inl (some a)), some (zi xb), some (zi y2050)] [] h t _
        refine y_goto (off := (-68)) (pc' := 10) (len := 3) (r := (0, 0, 0, 0)) (by decide +kernel) (by decide +kernel) ?_
        refine ih (i + 1) y2050 (by omega) (by omega) (fun j q hj h2 h1 => ?_) (by omega)
        rcases Nat.lt_or_ge j i with q9 | q9
        · exact c1 j q q9 h2 h1
        · obtain rfl : j = i := by omega
          cases ki2047.symm.trans h2
          omega
      ·
        refine y_cF (c := .ne) (off := 44) (len := 3) (r := (0, 0, 0, 0)) (by decide +kernel) (acmpF (c := .ne) (by show _ = _; omega)) ?_
        refine y_same (i := .iload_n 1) (len := 1) (r := (0, 0, 0, 0)) (pc' := 35) (ls' := [some (.inl (some a)), some (zi xb), some (zi xi)]) (st' := [zi xb]) (by decide +kernel) (fun k q => by cases q) rfl ?_
        refine y_same (i := .aload_n 0) (len := 1) (r := (0, 0, 0, 0)) (pc' := 36) (ls' := [some (.inl (some a)), some (zi xb), some (zi xi)]) (st' := [.inl (some a), zi xb]) (by decide +kernel) (fun k q => by cases q) rfl ?_
        refine y_get (j := 23) (len := 3) (r := (7, 1, 2, 533)) (by decide +kernel) Q.1 Q.2.1.1 aw1008 rfl rfl Q.2.2.1.2.1 ?_
        refine y_same (i := .iload_n 2) (len := 1) (r := (0, 0, 0, 0)) (pc' := 40) (ls' := [some (.inl (some a)), some (zi xb), some (zi xi)]) (st' := [zi xi, .inl (some ((a + 3))), zi xb]) (by decide +kernel) (fun k q => by cases q) rfl ?_
        refine y_ic (c := 1) (len := 1) (r := (0, 0, 0, 0)) (by decide +kernel) (by decide) (fun y2051 hy2051 => ?_)
        refine y_cI (i := .invokevirtual 68) (len := 3) (r := (0, 64, 6, 586)) (nL := 3) (k := 1) (n := 3) (hs := []) (args := [.inl (some ((a + 3))), zi xi, zi y2051]) (rest := [zi xb]) (l0 := [some (.inl (some ((a + 3)))), some (zi xi), some (zi y2051)]) (by decide +kernel) (Or.inr (Or.inl ⟨_, rfl⟩)) rfl rfl rfl rfl (Nat.le_of_ble_eq_true rfl) (zO Q.1 Q.2.1.2.2.2.1 aw1004 rfl) rfl (qI_le (by omega) (q_tlL (d := 0) (k := i) (w := 1) Q (by omega) ki2047 (by omega) (by omega))) (fun y2052 qy2052 hRy2052 => ?_)
        obtain ⟨rfl, ey2052⟩ := hRy2052
        have ey2052 : y2052.toInt = i2047.2.1 := ey2052
        refine y_bp (i := .ishr) (f := fun x y => x >>> (y &&& 31)) (len := 1) (r := (0, 0, 0, 0)) (by decide +kernel) rfl rfl (fun y2053 hy2053 => ?_)
        have hy2053 : y2053 = xb >>> (y2052 &&& 31) := hy2053
        refine y_ic (c := 1) (len := 1) (r := (0, 0, 0, 0)) (by decide +kernel) (by decide) (fun y2054 hy2054 => ?_)
        refine y_bp (i := .iand) (f := fun x y => x &&& y) (len := 1) (r := (0, 0, 0, 0)) (by decide +kernel) rfl rfl (fun y2055 hy2055 => ?_)
        have hy2055 : y2055 = y2053 &&& y2054 := hy2055
        have t9 := bs_t (k := i2047.2.1.toNat) bO (by omega : y2052.toInt = _) (by omega) hy2053 hy2054 hy2055
        rw [show ((i2047.2.1.toNat : Nat) : Int) = i2047.2.1 by omega] at t9
        refine y_ic (c := 1) (len := 1) (r := (0, 0, 0, 0)) (by decide +kernel) (by decide) (fun y2056 hy2056 => ?_)
        rcases Decidable.em (y2055.toInt ≠ y2056.toInt) with q2057 | q2057
        ·
          refine y_cT (c := .ne) (off := 27) (pc' := 75) (len := 3) (r := (0, 0, 0, 0)) (by decide +kernel) (acmpT (c := .ne) (by show ¬ (_ = _); omega)) (by decide +kernel) ?_
          refine y_inc (j := 2) (a := xi) (c := 1) (ls' := fun v => [some (.inl (some a)), some (zi xb), some v]) (len := 3) (r := (0, 0, 0, 0)) (by decide +kernel) rfl (fun _ => rfl) (by decide) (by omega) (by omega) (fun y2058 hy2058 => ?_)
          show qX (d + 2) 89 78 [some (.inl (some a)), some (zi xb), some (zi y2058)] [] h t _
          refine y_goto (off := (-68)) (pc' := 10) (len := 3) (r := (0, 0, 0, 0)) (by decide +kernel) (by decide +kernel) ?_
          refine ih (i + 1) y2058 (by omega) (by omega) (fun j q hj h2 h1 => ?_) (by omega)
          rcases Nat.lt_or_ge j i with q9 | q9
          · exact c1 j q q9 h2 h1
          · obtain rfl : j = i := by omega
            cases ki2047.symm.trans h2
            rcases t9 with ⟨q8, -⟩ | ⟨-, q8⟩
            · omega
            · exact fun q m k e => q8 ⟨q, m, k, e⟩
        ·
          refine y_cF (c := .ne) (off := 27) (len := 3) (r := (0, 0, 0, 0)) (by decide +kernel) (acmpF (c := .ne) (by show _ = _; omega)) ?_
          refine y_same (i := .aload_n 0) (len := 1) (r := (0, 0, 0, 0)) (pc' := 52) (ls' := [some (.inl (some a)), some (zi xb), some (zi xi)]) (st' := [.inl (some a)]) (by decide +kernel) (fun k q => by cases q) rfl ?_
          refine y_same (i := .aload_n 0) (len := 1) (r := (0, 0, 0, 0)) (pc' := 53) (ls' := [some (.inl (some a)), some (zi xb), some (zi xi)]) (st' := [.inl (some a), .inl (some a)]) (by decide +kernel) (fun k q => by cases q) rfl ?_
          refine y_get (j := 23) (len := 3) (r := (7, 1, 2, 533)) (by decide +kernel) Q.1 Q.2.1.1 aw1008 rfl rfl Q.2.2.1.2.1 ?_
          refine y_same (i := .iload_n 2) (len := 1) (r := (0, 0, 0, 0)) (pc' := 57) (ls' := [some (.inl (some a)), some (zi xb), some (zi xi)]) (st' := [zi xi, .inl (some ((a + 3))), .inl (some a)]) (by decide +kernel) (fun k q => by cases q) rfl ?_
          refine y_ic (c := 1) (len := 1) (r := (0, 0, 0, 0)) (by decide +kernel) (by decide) (fun y2059 hy2059 => ?_)
          refine y_cI (i := .invokevirtual 68) (len := 3) (r := (0, 64, 6, 586)) (nL := 3) (k := 1) (n := 3) (hs := []) (args := [.inl (some ((a + 3))), zi xi, zi y2059]) (rest := [.inl (some a)]) (l0 := [some (.inl (some ((a + 3)))), some (zi xi), some (zi y2059)]) (by decide +kernel) (Or.inr (Or.inl ⟨_, rfl⟩)) rfl rfl rfl rfl (Nat.le_of_ble_eq_true rfl) (zO Q.1 Q.2.1.2.2.2.1 aw1004 rfl) rfl (qI_le (by omega) (q_tlL (d := 0) (k := i) (w := 1) Q (by omega) ki2047 (by omega) (by omega))) (fun y2060 qy2060 hRy2060 => ?_)
          obtain ⟨rfl, ey2060⟩ := hRy2060
          have ey2060 : y2060.toInt = i2047.2.1 := ey2060
          refine y_same (i := .aload_n 0) (len := 1) (r := (0, 0, 0, 0)) (pc' := 62) (ls' := [some (.inl (some a)), some (zi xb), some (zi xi)]) (st' := [.inl (some a), zi y2060, .inl (some a)]) (by decide +kernel) (fun k q => by cases q) rfl ?_
          refine y_get (j := 23) (len := 3) (r := (7, 1, 2, 533)) (by decide +kernel) Q.1 Q.2.1.1 aw1008 rfl rfl Q.2.2.1.2.1 ?_
          refine y_same (i := .iload_n 2) (len := 1) (r := (0, 0, 0, 0)) (pc' := 66) (ls' := [some (.inl (some a)), some (zi xb), some (zi xi)]) (st' := [zi xi, .inl (some ((a + 3))), zi y2060, .inl (some a)]) (by decide +kernel) (fun k q => by cases q) rfl ?_
          refine y_ic (c := 2) (len := 1) (r := (0, 0, 0, 0)) (by decide +kernel) (by decide) (fun y2061 hy2061 => ?_)
          refine y_cI (i := .invokevirtual 68) (len := 3) (r := (0, 64, 6, 586)) (nL := 3) (k := 1) (n := 3) (hs := []) (args := [.inl (some ((a + 3))), zi xi, zi y2061]) (rest := [zi y2060, .inl (some a)]) (l0 := [some (.inl (some ((a + 3)))), some (zi xi), some (zi y2061)]) (by decide +kernel) (Or.inr (Or.inl ⟨_, rfl⟩)) rfl rfl rfl rfl (Nat.le_of_ble_eq_true rfl) (zO Q.1 Q.2.1.2.2.2.1 aw1004 rfl) rfl (qI_le (by omega) (q_tlL (d := 0) (k := i) (w := 2) Q (by omega) ki2047 (by omega) (by omega))) (fun y2062 qy2062 hRy2062 => ?_)
          obtain ⟨rfl, ey2062⟩ := hRy2062
          have ey2062 : y2062.toInt = i2047.2.2.1 := ey2062
          refine y_cV (i := .invokevirtual 88) (len := 3) (r := (0, 80, 7, 617)) (nL := 5) (k := 0) (n := 3) (hs := []) (args := [.inl (some a), zi y2060, zi y2062]) (rest := []) (l0 := [some (.inl (some a)), some (zi y2060), some (zi y2062), none, none]) (by decide +kernel) (Or.inr (Or.inl ⟨_, rfl⟩)) rfl rfl rfl rfl (Nat.le_of_ble_eq_true rfl) (zO Q.1 Q.2.1.1 aw1008 rfl) rfl (qV_le (by omega) (q_mk (d := 0) (x := i2047.2.1) (y := i2047.2.2.1) Q (by omega) (by omega) (by omega) (by omega))) (fun h2063 hR2063 => ?_)
          obtain ⟨Q2063, F2063⟩ := hR2063
          refine y_ic (c := 1) (len := 1) (r := (0, 0, 0, 0)) (by decide +kernel) (by decide) (fun y2064 hy2064 => ?_)
          refine y_rI (len := 1) (r := (0, 0, 0, 0)) (nL := 3) (k := 2) (n9 := 1) (hs := []) (by decide +kernel) rfl (zfit_b (by omega) (by omega)).2 ?_
          have m9 := List.mem_of_getElem? ki2047
          rcases t9 with ⟨-, q8⟩ | ⟨q8, -⟩
          · obtain ⟨q7, m7, k7, e7⟩ := q8
            have ak : asks s.1 (i2047.2.1) (i2047.2.2.1) := Or.inr (Or.inl ⟨i2047, m9, by omega, rfl, rfl, q7, m7, k7, e7⟩)
            exact Or.inl ⟨by omega, fun q9 => q9 i2047 m9 (by omega) q7 m7 k7 e7, _, ⟨Or.inr (Or.inl ⟨i2047.2.1, i2047.2.2.1, ak, rfl⟩), asks_mq Q.2.2.2.2 nt ak⟩, Q2063, F2063⟩
          · omega
theorem q_lao {d t a : Nat} {τ : List Nat} {h : zh} {s : sqT} (Q : QC τ h a s) (nt : ∀ q ∈ s.1, ¬ trv q) : qI (d + 3) 89 [some (.inl (some a)), none, none] h t (sdo_ τ a h s (∀ p ∈ s.1, p.1 = 2 → ∀ q ∈ s.1, q.1 ≤ 1 → q.2.1 ≠ p.2.1)) := by
  refine qI_of ?_
  refine y_same (i := .aload_n 0) (len := 1) (r := (0, 0, 0, 0)) (pc' := 1) (ls' := [some (.inl (some a)), none, none]) (st' := [.inl (some a)]) (by decide +kernel) (fun k q => by cases q) rfl ?_
  refine y_get (j := 23) (len := 3) (r := (7, 1, 2, 533)) (by decide +kernel) Q.1 Q.2.1.1 aw1008 rfl rfl Q.2.2.1.2.1 ?_
  refine y_cI (i := .invokevirtual 146) (len := 3) (r := (0, 74, 6, 668)) (nL := 3) (k := 1) (n := 1) (hs := []) (args := [.inl (some ((a + 3)))]) (rest := []) (l0 := [some (.inl (some ((a + 3)))), none, none]) (by decide +kernel) (Or.inr (Or.inl ⟨_, rfl⟩)) rfl rfl rfl rfl (Nat.le_of_ble_eq_true rfl) (zO Q.1 Q.2.1.2.2.2.1 aw1004 rfl) rfl (qI_le (by omega) (q_ow (d := 0) Q)) (fun y2065 qy2065 hRy2065 => ?_)
  obtain ⟨rfl, ty2065⟩ := hRy2065
  refine y_same (i := .istore_n 1) (len := 1) (r := (0, 0, 0, 0)) (pc' := 8) (ls' := [some (.inl (some a)), some (zi y2065), none]) (st' := []) (by decide +kernel) (fun k q => by cases q) rfl ?_
  refine y_ic (c := 0) (len := 1) (r := (0, 0, 0, 0)) (by decide +kernel) (by decide) (fun y2066 hy2066 => ?_)
  refine y_same (i := .istore_n 2) (len := 1) (r := (0, 0, 0, 0)) (pc' := 10) (ls' := [some (.inl (some a)), some (zi y2065), some (zi y2066)]) (st' := []) (by decide +kernel) (fun k q => by cases q) rfl ?_
  exact lao_l Q nt ty2065 (s.1.length + 1) 0 y2066 (by omega) (by omega) (fun j _ hj => absurd hj (Nat.not_lt_zero j)) (by omega)
theorem ltt_i {d t a : Nat} {τ : List Nat} {h : zh} {s : sqT} (Q : QC τ h a s) (nt : ∀ q ∈ s.1, ¬ trv q) {i : Nat} {ik : it4} {xi : Int32} (hxi : xi.toInt = (i : Int)) (kik : s.1[i]? = some ik) (kk : ∀ l2 : Option zv, (∀ (j : Nat) (q : it4), i < j → s.1[j]? = some q → ik.1 = 3 → q ≠ ik) → qX (d + 2) 90 82 [some (.inl (some a)), some (zi xi), l2] [] h t (rI (sdo_ τ a h s (∀ x, ¬ two_ s.1 x)) t)) : ∀ (n : Nat) (j : Nat) (xj : Int32), (xj.toInt = (j : Int)) → (i < j) → (j ≤ s.1.length) → (∀ (j9 : Nat) (q : it4), i < j9 → j9 < j → s.1[j9]? = some q → ik.1 = 3 → q ≠ ik) → (s.1.length < j + n) → qX (d + 2) 90 17 [some (.inl (some a)), some (zi xi), some (zi xj)] [] h t (rI (sdo_ τ a h s (∀ x, ¬ two_ s.1 x)) t) := by
  intro n
  induction n with
  | zero =>
    intro j xj hxj hij hj c1 hn
    exfalso
    omega
  | succ n ih =>
    intro j xj hxj hij hj c1 hn
    have oik := okQ_L Q.2.2.2.2 kik
    have pik := oik.1
    unfold okV at pik
    have hi9 := (List.getElem?_eq_some_iff.mp kik).1
    refine y_same (i := .iload_n 2) (len := 1) (r := (0, 0, 0, 0)) (pc' := 18) (ls' := [some (.inl (some a)), some (zi xi), some (zi xj)]) (st' := [zi xj]) (by decide +kernel) (fun k q => by cases q) rfl ?_
    refine y_same (i := .aload_n 0) (len := 1) (r := (0, 0, 0, 0)) (pc' := 19) (ls' := [some (.inl (some a)), some (zi xi), some (zi xj)]) (st' := [.inl (some a), zi xj]) (by decide +kernel) (fun k q => by cases q) rfl ?_
    refine y_get (j := 23) (len := 3) (r := (7, 1, 2, 533)) (by decide +kernel) Q.1 Q.2.1.1 aw1008 rfl rfl Q.2.2.1.2.1 ?_
    obtain ⟨z2067, hz2067, ez2067, mz2067⟩ := q_szL Q
    have ez2067 : z2067.toInt = ((s.1.length : Nat) : Int) := ez2067
    have mz2067 : s.1.length ≤ 14 := mz2067
    refine y_get (j := 65) (len := 3) (r := (6, 1, 0, 20165)) (by decide +kernel) Q.1 Q.2.1.2.2.2.1 aw1004 rfl rfl hz2067 ?_
    rcases Decidable.em (xj.toInt ≥ z2067.toInt) with q2068 | q2068
    ·
      refine y_cT (c := .ge) (off := 57) (pc' := 82) (len := 3) (r := (0, 0, 0, 0)) (by decide +kernel) (acmpT (c := .ge) (by show _ ≤ _; omega)) (by decide +kernel) ?_
      exact kk _ (fun j9 q h8 h2 h1 => c1 j9 q h8 (by have := (List.getElem?_eq_some_iff.mp h2).1; omega) h2 h1)
    ·
      refine y_cF (c := .ge) (off := 57) (len := 3) (r := (0, 0, 0, 0)) (by decide +kernel) (acmpF (c := .ge) (by show _ < _; omega)) ?_
      refine y_same (i := .aload_n 0) (len := 1) (r := (0, 0, 0, 0)) (pc' := 29) (ls' := [some (.inl (some a)), some (zi xi), some (zi xj)]) (st' := [.inl (some a)]) (by decide +kernel) (fun k q => by cases q) rfl ?_
      refine y_get (j := 23) (len := 3) (r := (7, 1, 2, 533)) (by decide +kernel) Q.1 Q.2.1.1 aw1008 rfl rfl Q.2.2.1.2.1 ?_
      refine y_same (i := .iload_n 1) (len := 1) (r := (0, 0, 0, 0)) (pc' := 33) (ls' := [some (.inl (some a)), some (zi xi), some (zi xj)]) (st' := [zi xi, .inl (some ((a + 3)))]) (by decide +kernel) (fun k q => by cases q) rfl ?_
      refine y_ic (c := 0) (len := 1) (r := (0, 0, 0, 0)) (by decide +kernel) (by decide) (fun y2069 hy2069 => ?_)
      refine y_cI (i := .invokevirtual 68) (len := 3) (r := (0, 64, 6, 586)) (nL := 3) (k := 1) (n := 3) (hs := []) (args := [.inl (some ((a + 3))), zi xi, zi y2069]) (rest := []) (l0 := [some (.inl (some ((a + 3)))), some (zi xi), some (zi y2069)]) (by decide +kernel) (Or.inr (Or.inl ⟨_, rfl⟩)) rfl rfl rfl rfl (Nat.le_of_ble_eq_true rfl) (zO Q.1 Q.2.1.2.2.2.1 aw1004 rfl) rfl (qI_le (by omega) (q_tlL (d := 0) (k := i) (w := 0) Q (by omega) kik (by omega) (by omega))) (fun y2070 qy2070 hRy2070 => ?_)
      obtain ⟨rfl, ey2070⟩ := hRy2070
      have ey2070 : y2070.toInt = ik.1 := ey2070
      refine y_ic (c := 3) (len := 1) (r := (0, 0, 0, 0)) (by decide +kernel) (by decide) (fun y2071 hy2071 => ?_)
      rcases Decidable.em (y2070.toInt ≠ y2071.toInt) with q2072 | q2072
      ·
        refine y_cT (c := .ne) (off := 38) (pc' := 76) (len := 3) (r := (0, 0, 0, 0)) (by decide +kernel) (acmpT (c := .ne) (by show ¬ (_ = _); omega)) (by decide +kernel) ?_
        refine y_inc (j := 2) (a := xj) (c := 1) (ls' := fun v => [some (.inl (some a)), some (zi xi), some v]) (len := 3) (r := (0, 0, 0, 0)) (by decide +kernel) rfl (fun _ => rfl) (by decide) (by omega) (by omega) (fun y2073 hy2073 => ?_)
        show qX (d + 2) 90 79 [some (.inl (some a)), some (zi xi), some (zi y2073)] [] h t _
        refine y_goto (off := (-62)) (pc' := 17) (len := 3) (r := (0, 0, 0, 0)) (by decide +kernel) (by decide +kernel) ?_
        refine ih (j + 1) y2073 (by omega) (by omega) (by omega) (fun j9 q h8 hj h2 h1 => ?_) (by omega)
        rcases Nat.lt_or_ge j9 j with q9 | q9
        · exact c1 j9 q h8 q9 h2 h1
        · obtain rfl : j9 = j := by omega
          omega
      ·
        refine y_cF (c := .ne) (off := 38) (len := 3) (r := (0, 0, 0, 0)) (by decide +kernel) (acmpF (c := .ne) (by show _ = _; omega)) ?_
        refine y_same (i := .aload_n 0) (len := 1) (r := (0, 0, 0, 0)) (pc' := 42) (ls' := [some (.inl (some a)), some (zi xi), some (zi xj)]) (st' := [.inl (some a)]) (by decide +kernel) (fun k q => by cases q) rfl ?_
        refine y_get (j := 23) (len := 3) (r := (7, 1, 2, 533)) (by decide +kernel) Q.1 Q.2.1.1 aw1008 rfl rfl Q.2.2.1.2.1 ?_
        refine y_same (i := .iload_n 1) (len := 1) (r := (0, 0, 0, 0)) (pc' := 46) (ls' := [some (.inl (some a)), some (zi xi), some (zi xj)]) (st' := [zi xi, .inl (some ((a + 3)))]) (by decide +kernel) (fun k q => by cases q) rfl ?_
        refine y_cI (i := .invokevirtual 76) (len := 3) (r := (0, 65, 6, 597)) (nL := 2) (k := 1) (n := 2) (hs := []) (args := [.inl (some ((a + 3))), zi xi]) (rest := []) (l0 := [some (.inl (some ((a + 3)))), some (zi xi)]) (by decide +kernel) (Or.inr (Or.inl ⟨_, rfl⟩)) rfl rfl rfl rfl (Nat.le_of_ble_eq_true rfl) (zO Q.1 Q.2.1.2.2.2.1 aw1004 rfl) rfl (qI_le (by omega) (q_itL (d := 0) (k := i) Q (by omega) kik)) (fun y2074 qy2074 hRy2074 => ?_)
        obtain ⟨rfl, ey2074⟩ := hRy2074
        refine y_same (i := .aload_n 0) (len := 1) (r := (0, 0, 0, 0)) (pc' := 50) (ls' := [some (.inl (some a)), some (zi xi), some (zi xj)]) (st' := [.inl (some a), zi y2074]) (by decide +kernel) (fun k q => by cases q) rfl ?_
        refine y_get (j := 23) (len := 3) (r := (7, 1, 2, 533)) (by decide +kernel) Q.1 Q.2.1.1 aw1008 rfl rfl Q.2.2.1.2.1 ?_
        refine y_same (i := .iload_n 2) (len := 1) (r := (0, 0, 0, 0)) (pc' := 54) (ls' := [some (.inl (some a)), some (zi xi), some (zi xj)]) (st' := [zi xj, .inl (some ((a + 3))), zi y2074]) (by decide +kernel) (fun k q => by cases q) rfl ?_
        obtain ⟨i2076, ki2076⟩ : ∃ i9, s.1[j]? = some i9 := ⟨_, List.getElem?_eq_getElem (by omega)⟩
        have oi2076 := okQ_L Q.2.2.2.2 ki2076
        have pi2076 := oi2076.1
        unfold okV at pi2076
        refine y_cI (i := .invokevirtual 76) (len := 3) (r := (0, 65, 6, 597)) (nL := 2) (k := 1) (n := 2) (hs := []) (args := [.inl (some ((a + 3))), zi xj]) (rest := [zi y2074]) (l0 := [some (.inl (some ((a + 3)))), some (zi xj)]) (by decide +kernel) (Or.inr (Or.inl ⟨_, rfl⟩)) rfl rfl rfl rfl (Nat.le_of_ble_eq_true rfl) (zO Q.1 Q.2.1.2.2.2.1 aw1004 rfl) rfl (qI_le (by omega) (q_itL (d := 0) (k := j) Q (by omega) ki2076)) (fun y2075 qy2075 hRy2075 => ?_)
        obtain ⟨rfl, ey2075⟩ := hRy2075
        rcases Decidable.em (y2074.toInt ≠ y2075.toInt) with q2077 | q2077
        ·
          refine y_cT (c := .ne) (off := 19) (pc' := 76) (len := 3) (r := (0, 0, 0, 0)) (by decide +kernel) (acmpT (c := .ne) (by show ¬ (_ = _); omega)) (by decide +kernel) ?_
          refine y_inc (j := 2) (a := xj) (c := 1) (ls' := fun v => [some (.inl (some a)), some (zi xi), some v]) (len := 3) (r := (0, 0, 0, 0)) (by decide +kernel) rfl (fun _ => rfl) (by decide) (by omega) (by omega) (fun y2078 hy2078 => ?_)
          show qX (d + 2) 90 79 [some (.inl (some a)), some (zi xi), some (zi y2078)] [] h t _
          refine y_goto (off := (-62)) (pc' := 17) (len := 3) (r := (0, 0, 0, 0)) (by decide +kernel) (by decide +kernel) ?_
          refine ih (j + 1) y2078 (by omega) (by omega) (by omega) (fun j9 q h8 hj h2 h1 => ?_) (by omega)
          rcases Nat.lt_or_ge j9 j with q9 | q9
          · exact c1 j9 q h8 q9 h2 h1
          · obtain rfl : j9 = j := by omega
            cases ki2076.symm.trans h2
            rintro rfl
            omega
        ·
          refine y_cF (c := .ne) (off := 19) (len := 3) (r := (0, 0, 0, 0)) (by decide +kernel) (acmpF (c := .ne) (by show _ = _; omega)) ?_
          refine y_same (i := .aload_n 0) (len := 1) (r := (0, 0, 0, 0)) (pc' := 61) (ls' := [some (.inl (some a)), some (zi xi), some (zi xj)]) (st' := [.inl (some a)]) (by decide +kernel) (fun k q => by cases q) rfl ?_
          refine y_same (i := .aload_n 0) (len := 1) (r := (0, 0, 0, 0)) (pc' := 62) (ls' := [some (.inl (some a)), some (zi xi), some (zi xj)]) (st' := [.inl (some a), .inl (some a)]) (by decide +kernel) (fun k q => by cases q) rfl ?_
          refine y_get (j := 23) (len := 3) (r := (7, 1, 2, 533)) (by decide +kernel) Q.1 Q.2.1.1 aw1008 rfl rfl Q.2.2.1.2.1 ?_
          refine y_same (i := .iload_n 1) (len := 1) (r := (0, 0, 0, 0)) (pc' := 66) (ls' := [some (.inl (some a)), some (zi xi), some (zi xj)]) (st' := [zi xi, .inl (some ((a + 3))), .inl (some a)]) (by decide +kernel) (fun k q => by cases q) rfl ?_
          refine y_ic (c := 1) (len := 1) (r := (0, 0, 0, 0)) (by decide +kernel) (by decide) (fun y2079 hy2079 => ?_)
          refine y_cI (i := .invokevirtual 68) (len := 3) (r := (0, 64, 6, 586)) (nL := 3) (k := 1) (n := 3) (hs := []) (args := [.inl (some ((a + 3))), zi xi, zi y2079]) (rest := [.inl (some a)]) (l0 := [some (.inl (some ((a + 3)))), some (zi xi), some (zi y2079)]) (by decide +kernel) (Or.inr (Or.inl ⟨_, rfl⟩)) rfl rfl rfl rfl (Nat.le_of_ble_eq_true rfl) (zO Q.1 Q.2.1.2.2.2.1 aw1004 rfl) rfl (qI_le (by omega) (q_tlL (d := 0) (k := i) (w := 1) Q (by omega) kik (by omega) (by omega))) (fun y2080 qy2080 hRy2080 => ?_)
          obtain ⟨rfl, ey2080⟩ := hRy2080
          have ey2080 : y2080.toInt = ik.2.1 := ey2080
          refine y_ic (c := 0) (len := 1) (r := (0, 0, 0, 0)) (by decide +kernel) (by decide) (fun y2081 hy2081 => ?_)
          refine y_cV (i := .invokevirtual 88) (len := 3) (r := (0, 80, 7, 617)) (nL := 5) (k := 0) (n := 3) (hs := []) (args := [.inl (some a), zi y2080, zi y2081]) (rest := []) (l0 := [some (.inl (some a)), some (zi y2080), some (zi y2081), none, none]) (by decide +kernel) (Or.inr (Or.inl ⟨_, rfl⟩)) rfl rfl rfl rfl (Nat.le_of_ble_eq_true rfl) (zO Q.1 Q.2.1.1 aw1008 rfl) rfl (qV_le (by omega) (q_mk (d := 0) (x := ik.2.1) (y := 0) Q (by omega) (by omega) (by omega) (by omega))) (fun h2082 hR2082 => ?_)
          obtain ⟨Q2082, F2082⟩ := hR2082
          refine y_ic (c := 1) (len := 1) (r := (0, 0, 0, 0)) (by decide +kernel) (by decide) (fun y2083 hy2083 => ?_)
          refine y_rI (len := 1) (r := (0, 0, 0, 0)) (nL := 3) (k := 2) (n9 := 1) (hs := []) (by decide +kernel) rfl (zfit_b (by omega) (by omega)).2 ?_
          have e9 : i2076 = ik := pk_inj oi2076.1 oik.1 (by omega)
          subst e9
          have tw : two_ s.1 i2076.2.1 := ⟨i, j, i2076, i2076, by omega, kik, ki2076, by omega, by omega, rfl, rfl⟩
          have ak : asks s.1 (i2076.2.1) 0 := Or.inr (Or.inr ⟨tw, rfl⟩)
          exact Or.inl ⟨by omega, fun q9 => q9 _ tw, _, ⟨Or.inr (Or.inl ⟨i2076.2.1, 0, ak, rfl⟩), asks_mq Q.2.2.2.2 nt ak⟩, Q2082, F2082⟩
theorem ltt_o {d t a : Nat} {τ : List Nat} {h : zh} {s : sqT} (Q : QC τ h a s) (nt : ∀ q ∈ s.1, ¬ trv q) : ∀ (n : Nat) (i : Nat) (xi : Int32) (l2 : Option zv), (xi.toInt = (i : Int)) → (i ≤ s.1.length) → (∀ (i9 j9 : Nat) (p q : it4), i9 < i → i9 < j9 → s.1[i9]? = some p → s.1[j9]? = some q → p.1 = 3 → q ≠ p) → (s.1.length < i + n) → qX (d + 2) 90 2 [some (.inl (some a)), some (zi xi), l2] [] h t (rI (sdo_ τ a h s (∀ x, ¬ two_ s.1 x)) t) := by
  intro n
  induction n with
  | zero =>
    intro i xi l2 hxi hi c1 hn
    exfalso
    omega
  | succ n ih =>
    intro i xi l2 hxi hi c1 hn
    skip
    refine y_same (i := .iload_n 1) (len := 1) (r := (0, 0, 0, 0)) (pc' := 3) (ls' := [some (.inl (some a)), some (zi xi), l2]) (st' := [zi xi]) (by decide +kernel) (fun k q => by cases q) rfl ?_
    refine y_same (i := .aload_n 0) (len := 1) (r := (0, 0, 0, 0)) (pc' := 4) (ls' := [some (.inl (some a)), some (zi xi), l2]) (st' := [.inl (some a), zi xi]) (by decide +kernel) (fun k q => by cases q) rfl ?_
    refine y_get (j := 23) (len := 3) (r := (7, 1, 2, 533)) (by decide +kernel) Q.1 Q.2.1.1 aw1008 rfl rfl Q.2.2.1.2.1 ?_
    obtain ⟨z2084, hz2084, ez2084, mz2084⟩ := q_szL Q
    have ez2084 : z2084.toInt = ((s.1.length : Nat) : Int) := ez2084
    have mz2084 : s.1.length ≤ 14 := mz2084
    refine y_get (j := 65) (len := 3) (r := (6, 1, 0, 20165)) (by decide +kernel) Q.1 Q.2.1.2.2.2.1 aw1004 rfl rfl hz2084 ?_
    rcases Decidable.em (xi.toInt ≥ z2084.toInt) with q2085 | q2085
    ·
      refine y_cT (c := .ge) (off := 78) (pc' := 88) (len := 3) (r := (0, 0, 0, 0)) (by decide +kernel) (acmpT (c := .ge) (by show _ ≤ _; omega)) (by decide +kernel) ?_
      refine y_ic (c := 0) (len := 1) (r := (0, 0, 0, 0)) (by decide +kernel) (by decide) (fun y2086 hy2086 => ?_)
      refine y_rI (len := 1) (r := (0, 0, 0, 0)) (nL := 3) (k := 2) (n9 := 1) (hs := []) (by decide +kernel) rfl (zfit_b (by omega) (by omega)).2 ?_
      refine Or.inr ⟨by omega, rfl, fun x ⟨i9, j9, p, q, h8, h2, h3, h1, h4, h5, h6⟩ => ?_⟩
      exact c1 i9 j9 p q (by have := (List.getElem?_eq_some_iff.mp h2).1; omega) h8 h2 h3 h1 (tree_eq (okQ_L Q.2.2.2.2 h3) (okQ_L Q.2.2.2.2 h2) h4 h1 (by omega))
    ·
      refine y_cF (c := .ge) (off := 78) (len := 3) (r := (0, 0, 0, 0)) (by decide +kernel) (acmpF (c := .ge) (by show _ < _; omega)) ?_
      refine y_same (i := .iload_n 1) (len := 1) (r := (0, 0, 0, 0)) (pc' := 14) (ls' := [some (.inl (some a)), some (zi xi), l2]) (st' := [zi xi]) (by decide +kernel) (fun k q => by cases q) rfl ?_
      refine y_ic (c := 1) (len := 1) (r := (0, 0, 0, 0)) (by decide +kernel) (by decide) (fun y2087 hy2087 => ?_)
      refine y_add (len := 1) (r := (0, 0, 0, 0)) (by decide +kernel) (by omega) (by omega) (fun y2088 hy2088 => ?_)
      refine y_same (i := .istore_n 2) (len := 1) (r := (0, 0, 0, 0)) (pc' := 17) (ls' := [some (.inl (some a)), some (zi xi), some (zi y2088)]) (st' := []) (by decide +kernel) (fun k q => by cases q) rfl ?_
      obtain ⟨ik, kik⟩ : ∃ i9, s.1[i]? = some i9 := ⟨_, List.getElem?_eq_getElem (by omega)⟩
      refine ltt_i Q nt hxi kik (fun l9 c9 => ?_) (s.1.length + 1) (i + 1) y2088 (by omega) (by omega) (by omega) (fun j9 _ h1 h2 => absurd h2 (by omega)) (by omega)
      refine y_inc (j := 1) (a := xi) (c := 1) (ls' := fun v => [some (.inl (some a)), some v, l9]) (len := 3) (r := (0, 0, 0, 0)) (by decide +kernel) rfl (fun _ => rfl) (by decide) (by omega) (by omega) (fun y2090 hy2090 => ?_)
      show qX (d + 2) 90 85 [some (.inl (some a)), some (zi y2090), l9] [] h t _
      refine y_goto (off := (-83)) (pc' := 2) (len := 3) (r := (0, 0, 0, 0)) (by decide +kernel) (by decide +kernel) ?_
      refine ih (i + 1) y2090 l9 (by omega) (by omega) (fun i9 j9 p q hi9 h8 h2 h3 h1 => ?_) (by omega)
      rcases Nat.lt_or_ge i9 i with q9 | q9
      · exact c1 i9 j9 p q q9 h8 h2 h3 h1
      · obtain rfl : i9 = i := by omega
        cases kik.symm.trans h2
        exact c9 j9 q h8 h3 h1
theorem q_ltt {d t a : Nat} {τ : List Nat} {h : zh} {s : sqT} (Q : QC τ h a s) (nt : ∀ q ∈ s.1, ¬ trv q) : qI (d + 3) 90 [some (.inl (some a)), none, none] h t (sdo_ τ a h s (∀ x, ¬ two_ s.1 x)) := by
  refine qI_of ?_
  refine y_ic (c := 0) (len := 1) (r := (0, 0, 0, 0)) (by decide +kernel) (by decide) (fun y2091 hy2091 => ?_)
  refine y_same (i := .istore_n 1) (len := 1) (r := (0, 0, 0, 0)) (pc' := 2) (ls' := [some (.inl (some a)), some (zi y2091), none]) (st' := []) (by decide +kernel) (fun k q => by cases q) rfl ?_
  exact ltt_o Q nt (s.1.length + 1) 0 y2091 none (by omega) (by omega) (fun i9 _ _ _ hj => absurd hj (Nat.not_lt_zero i9)) (by omega)
theorem q_stl {d t a : Nat} {τ : List Nat} {h : zh} {s : sqT} (Q : QC τ h a s) : qI (d + 4) 87 [some (.inl (some a)), none] h t (sdo_ τ a h s (rest s.1)) := by
  refine qI_of ?_
  refine y_same (i := .aload_n 0) (len := 1) (r := (0, 0, 0, 0)) (pc' := 1) (ls' := [some (.inl (some a)), none]) (st' := [.inl (some a)]) (by decide +kernel) (fun k q => by cases q) rfl ?_
  refine y_get (j := 23) (len := 3) (r := (7, 1, 2, 533)) (by decide +kernel) Q.1 Q.2.1.1 aw1008 rfl rfl Q.2.2.1.2.1 ?_
  refine y_cI (i := .invokevirtual 134) (len := 3) (r := (0, 75, 6, 655)) (nL := 2) (k := 1) (n := 1) (hs := []) (args := [.inl (some ((a + 3)))]) (rest := []) (l0 := [some (.inl (some ((a + 3)))), none]) (by decide +kernel) (Or.inr (Or.inl ⟨_, rfl⟩)) rfl rfl rfl rfl (Nat.le_of_ble_eq_true rfl) (zO Q.1 Q.2.1.2.2.2.1 aw1004 rfl) rfl (qI_le (by omega) (q_fsL (d := 0) Q)) (fun y2092 qy2092 hRy2092 => ?_)
  obtain ⟨rfl, hDy2092⟩ := hRy2092
  rcases hDy2092 with ⟨k9, q9, ek9, kq9, tv9, -⟩ | ⟨e9, nt⟩
  ·
    refine y_same (i := .istore_n 1) (len := 1) (r := (0, 0, 0, 0)) (pc' := 8) (ls' := [some (.inl (some a)), some (zi y2092)]) (st' := []) (by decide +kernel) (fun k q => by cases q) rfl ?_
    refine y_same (i := .iload_n 1) (len := 1) (r := (0, 0, 0, 0)) (pc' := 9) (ls' := [some (.inl (some a)), some (zi y2092)]) (st' := [zi y2092]) (by decide +kernel) (fun k q => by cases q) rfl ?_
    refine y_ic (c := (-1)) (len := 1) (r := (0, 0, 0, 0)) (by decide +kernel) (by decide) (fun y2093 hy2093 => ?_)
    have hk9 := (List.getElem?_eq_some_iff.mp kq9).1
    refine y_cF (c := .eq) (off := 13) (len := 3) (r := (0, 0, 0, 0)) (by decide +kernel) (acmpF (c := .eq) (by show ¬ (_ = _); omega)) ?_
    refine y_same (i := .aload_n 0) (len := 1) (r := (0, 0, 0, 0)) (pc' := 14) (ls' := [some (.inl (some a)), some (zi y2092)]) (st' := [.inl (some a)]) (by decide +kernel) (fun k q => by cases q) rfl ?_
    refine y_get (j := 23) (len := 3) (r := (7, 1, 2, 533)) (by decide +kernel) Q.1 Q.2.1.1 aw1008 rfl rfl Q.2.2.1.2.1 ?_
    refine y_same (i := .iload_n 1) (len := 1) (r := (0, 0, 0, 0)) (pc' := 18) (ls' := [some (.inl (some a)), some (zi y2092)]) (st' := [zi y2092, .inl (some ((a + 3)))]) (by decide +kernel) (fun k q => by cases q) rfl ?_
    obtain ⟨z2095, hz2095, ez2095, mz2095⟩ := q_szL Q
    have ez2095 : z2095.toInt = ((s.1.length : Nat) : Int) := ez2095
    have mz2095 : s.1.length ≤ 14 := mz2095
    refine y_cV (i := .invokevirtual 85) (len := 3) (r := (0, 70, 6, 613)) (nL := 3) (k := 0) (n := 2) (hs := []) (args := [.inl (some ((a + 3))), zi y2092]) (rest := []) (l0 := [some (.inl (some ((a + 3)))), some (zi y2092), none]) (by decide +kernel) (Or.inr (Or.inl ⟨_, rfl⟩)) rfl rfl rfl rfl (Nat.le_of_ble_eq_true rfl) (zO Q.1 Q.2.1.2.2.2.1 aw1004 rfl) rfl (qV_le (by omega) (q_rmL (d := 0) (k := k9) Q (by omega) (show k9 < s.1.length by omega))) (fun h2094 hR2094 => ?_)
    obtain ⟨Q2094, F2094⟩ := hR2094
    refine y_ic (c := 1) (len := 1) (r := (0, 0, 0, 0)) (by decide +kernel) (by decide) (fun y2096 hy2096 => ?_)
    refine y_rI (len := 1) (r := (0, 0, 0, 0)) (nL := 2) (k := 2) (n9 := 1) (hs := []) (by decide +kernel) rfl (zfit_b (by omega) (by omega)).2 ?_
    exact Or.inl ⟨by omega, fun q8 => q8.1 q9 (List.mem_of_getElem? kq9) tv9, _, ⟨Or.inl ⟨k9, q9, kq9, tv9, rfl⟩, mq_erL hk9⟩, Q2094, F2094⟩
  ·
    refine y_same (i := .istore_n 1) (len := 1) (r := (0, 0, 0, 0)) (pc' := 8) (ls' := [some (.inl (some a)), some (zi y2092)]) (st' := []) (by decide +kernel) (fun k q => by cases q) rfl ?_
    refine y_same (i := .iload_n 1) (len := 1) (r := (0, 0, 0, 0)) (pc' := 9) (ls' := [some (.inl (some a)), some (zi y2092)]) (st' := [zi y2092]) (by decide +kernel) (fun k q => by cases q) rfl ?_
    refine y_ic (c := (-1)) (len := 1) (r := (0, 0, 0, 0)) (by decide +kernel) (by decide) (fun y2097 hy2097 => ?_)
    refine y_cT (c := .eq) (off := 13) (pc' := 23) (len := 3) (r := (0, 0, 0, 0)) (by decide +kernel) (acmpT (c := .eq) (by show _ = _; omega)) (by decide +kernel) ?_
    refine y_same (i := .aload_n 0) (len := 1) (r := (0, 0, 0, 0)) (pc' := 24) (ls' := [some (.inl (some a)), some (zi y2092)]) (st' := [.inl (some a)]) (by decide +kernel) (fun k q => by cases q) rfl ?_
    refine y_cI (i := .invokevirtual 137) (len := 3) (r := (0, 88, 7, 660)) (nL := 2) (k := 2) (n := 1) (hs := []) (args := [.inl (some a)]) (rest := []) (l0 := [some (.inl (some a)), none]) (by decide +kernel) (Or.inr (Or.inl ⟨_, rfl⟩)) rfl rfl rfl rfl (Nat.le_of_ble_eq_true rfl) (zO Q.1 Q.2.1.1 aw1008 rfl) rfl (qI_le (by omega) (q_lan (d := 0) Q nt)) (fun y2098 h2098 hRy2098 => ?_)
    rcases hRy2098 with ⟨v2098, n2098, s2098, p2098, Q2098, F2098⟩ | ⟨v2098, rfl, t2098⟩
    ·
      refine y_iT (c := .ne) (off := 17) (pc' := 44) (len := 3) (r := (0, 0, 0, 0)) (by decide +kernel) (acmpT (c := .ne) (by show ¬ (_ = _); omega)) (by decide +kernel) ?_
      refine y_ic (c := 1) (len := 1) (r := (0, 0, 0, 0)) (by decide +kernel) (by decide) (fun y2099 hy2099 => ?_)
      refine y_goto (off := 4) (pc' := 49) (len := 3) (r := (0, 0, 0, 0)) (by decide +kernel) (by decide +kernel) ?_
      refine y_rI (len := 1) (r := (0, 0, 0, 0)) (nL := 2) (k := 2) (n9 := 1) (hs := []) (by decide +kernel) rfl (zfit_b (by omega) (by omega)).2 ?_
      exact Or.inl ⟨by omega, fun q8 => n2098 q8.2.1, s2098, p2098, Q2098, F2098⟩
    ·
      refine y_iF (c := .ne) (off := 17) (len := 3) (r := (0, 0, 0, 0)) (by decide +kernel) (acmpF (c := .ne) (by show _ = _; omega)) ?_
      refine y_same (i := .aload_n 0) (len := 1) (r := (0, 0, 0, 0)) (pc' := 31) (ls' := [some (.inl (some a)), some (zi y2092)]) (st' := [.inl (some a)]) (by decide +kernel) (fun k q => by cases q) rfl ?_
      refine y_cI (i := .invokevirtual 140) (len := 3) (r := (0, 89, 7, 664)) (nL := 3) (k := 2) (n := 1) (hs := []) (args := [.inl (some a)]) (rest := []) (l0 := [some (.inl (some a)), none, none]) (by decide +kernel) (Or.inr (Or.inl ⟨_, rfl⟩)) rfl rfl rfl rfl (Nat.le_of_ble_eq_true rfl) (zO Q.1 Q.2.1.1 aw1008 rfl) rfl (qI_le (by omega) (q_lao (d := 0) Q nt)) (fun y2100 h2100 hRy2100 => ?_)
      rcases hRy2100 with ⟨v2100, n2100, s2100, p2100, Q2100, F2100⟩ | ⟨v2100, rfl, t2100⟩
      ·
        refine y_iT (c := .ne) (off := 10) (pc' := 44) (len := 3) (r := (0, 0, 0, 0)) (by decide +kernel) (acmpT (c := .ne) (by show ¬ (_ = _); omega)) (by decide +kernel) ?_
        refine y_ic (c := 1) (len := 1) (r := (0, 0, 0, 0)) (by decide +kernel) (by decide) (fun y2101 hy2101 => ?_)
        refine y_goto (off := 4) (pc' := 49) (len := 3) (r := (0, 0, 0, 0)) (by decide +kernel) (by decide +kernel) ?_
        refine y_rI (len := 1) (r := (0, 0, 0, 0)) (nL := 2) (k := 2) (n9 := 1) (hs := []) (by decide +kernel) rfl (zfit_b (by omega) (by omega)).2 ?_
        exact Or.inl ⟨by omega, fun q8 => n2100 q8.2.2.1, s2100, p2100, Q2100, F2100⟩
      ·
        refine y_iF (c := .ne) (off := 10) (len := 3) (r := (0, 0, 0, 0)) (by decide +kernel) (acmpF (c := .ne) (by show _ = _; omega)) ?_
        refine y_same (i := .aload_n 0) (len := 1) (r := (0, 0, 0, 0)) (pc' := 38) (ls' := [some (.inl (some a)), some (zi y2092)]) (st' := [.inl (some a)]) (by decide +kernel) (fun k q => by cases q) rfl ?_
        refine y_cI (i := .invokevirtual 143) (len := 3) (r := (0, 90, 7, 672)) (nL := 3) (k := 2) (n := 1) (hs := []) (args := [.inl (some a)]) (rest := []) (l0 := [some (.inl (some a)), none, none]) (by decide +kernel) (Or.inr (Or.inl ⟨_, rfl⟩)) rfl rfl rfl rfl (Nat.le_of_ble_eq_true rfl) (zO Q.1 Q.2.1.1 aw1008 rfl) rfl (qI_le (by omega) (q_ltt (d := 0) Q nt)) (fun y2102 h2102 hRy2102 => ?_)
        rcases hRy2102 with ⟨v2102, n2102, s2102, p2102, Q2102, F2102⟩ | ⟨v2102, rfl, t2102⟩
        ·
          refine y_iF (c := .eq) (off := 7) (len := 3) (r := (0, 0, 0, 0)) (by decide +kernel) (acmpF (c := .eq) (by show ¬ (_ = _); omega)) ?_
          refine y_ic (c := 1) (len := 1) (r := (0, 0, 0, 0)) (by decide +kernel) (by decide) (fun y2103 hy2103 => ?_)
          refine y_goto (off := 4) (pc' := 49) (len := 3) (r := (0, 0, 0, 0)) (by decide +kernel) (by decide +kernel) ?_
          refine y_rI (len := 1) (r := (0, 0, 0, 0)) (nL := 2) (k := 2) (n9 := 1) (hs := []) (by decide +kernel) rfl (zfit_b (by omega) (by omega)).2 ?_
          exact Or.inl ⟨by omega, fun q8 => n2102 q8.2.2.2, s2102, p2102, Q2102, F2102⟩
        ·
          refine y_iT (c := .eq) (off := 7) (pc' := 48) (len := 3) (r := (0, 0, 0, 0)) (by decide +kernel) (acmpT (c := .eq) (by show _ = _; omega)) (by decide +kernel) ?_
          refine y_ic (c := 0) (len := 1) (r := (0, 0, 0, 0)) (by decide +kernel) (by decide) (fun y2104 hy2104 => ?_)
          refine y_rI (len := 1) (r := (0, 0, 0, 0)) (nL := 2) (k := 2) (n9 := 1) (hs := []) (by decide +kernel) rfl (zfit_b (by omega) (by omega)).2 ?_
          exact Or.inr ⟨by omega, rfl, nt, t2098, t2100, t2102⟩
theorem str_l {d t a : Nat} {τ : List Nat} {h : zh} {s : sqT} (Q : QC τ h a s) (re : rest s.1) (nr : ∀ q ∈ s.2.1, ¬ trv q) {x1 : Int32} : ∀ (n : Nat) (i : Nat) (xi : Int32) (l3 : Option zv) (l4 : Option zv), (xi.toInt = (i : Int)) → (i ≤ s.2.2.1.length) → (∀ (j : Nat) (q : it4), j < i → s.2.2.1[j]? = some q → ¬ rv s.1 s.2.2.2 q) → (s.2.2.1.length < i + n) → qX (d + 3) 91 25 [some (.inl (some a)), some (zi x1), some (zi xi), l3, l4] [] h t (rI (sdo_ τ a h s ((∀ q ∈ s.2.1, ¬ trv q) ∧ (∀ c ∈ s.2.2.1, ¬ rv s.1 s.2.2.2 c))) t) := by
  intro n
  induction n with
  | zero =>
    intro i xi l3 l4 hxi hi c1 hn
    exfalso
    omega
  | succ n ih =>
    intro i xi l3 l4 hxi hi c1 hn
    skip
    refine y_same (i := .iload_n 2) (len := 1) (r := (0, 0, 0, 0)) (pc' := 26) (ls' := [some (.inl (some a)), some (zi x1), some (zi xi), l3, l4]) (st' := [zi xi]) (by decide +kernel) (fun k q => by cases q) rfl ?_
    refine y_same (i := .aload_n 0) (len := 1) (r := (0, 0, 0, 0)) (pc' := 27) (ls' := [some (.inl (some a)), some (zi x1), some (zi xi), l3, l4]) (st' := [.inl (some a), zi xi]) (by decide +kernel) (fun k q => by cases q) rfl ?_
    refine y_get (j := 30) (len := 3) (r := (7, 3, 2, 539)) (by decide +kernel) Q.1 Q.2.1.1 aw1008 rfl rfl Q.2.2.1.2.2.2.1 ?_
    obtain ⟨z2105, hz2105, ez2105, mz2105⟩ := q_szC Q
    have ez2105 : z2105.toInt = ((s.2.2.1.length : Nat) : Int) := ez2105
    have mz2105 : s.2.2.1.length ≤ 14 := mz2105
    refine y_get (j := 65) (len := 3) (r := (6, 1, 0, 20165)) (by decide +kernel) Q.1 Q.2.1.2.2.2.2.2.2.2.1 aw1004 rfl rfl hz2105 ?_
    rcases Decidable.em (xi.toInt ≥ z2105.toInt) with q2106 | q2106
    ·
      refine y_cT (c := .ge) (off := 72) (pc' := 105) (len := 3) (r := (0, 0, 0, 0)) (by decide +kernel) (acmpT (c := .ge) (by show _ ≤ _; omega)) (by decide +kernel) ?_
      refine y_ic (c := 0) (len := 1) (r := (0, 0, 0, 0)) (by decide +kernel) (by decide) (fun y2107 hy2107 => ?_)
      refine y_rI (len := 1) (r := (0, 0, 0, 0)) (nL := 5) (k := 2) (n9 := 1) (hs := []) (by decide +kernel) rfl (zfit_b (by omega) (by omega)).2 ?_
      exact Or.inr ⟨by omega, rfl, nr, fun c m9 => by obtain ⟨j, hj⟩ := List.getElem?_of_mem m9; exact c1 j c (by have := (List.getElem?_eq_some_iff.mp hj).1; omega) hj⟩
    ·
      refine y_cF (c := .ge) (off := 72) (len := 3) (r := (0, 0, 0, 0)) (by decide +kernel) (acmpF (c := .ge) (by show _ < _; omega)) ?_
      refine y_same (i := .aload_n 0) (len := 1) (r := (0, 0, 0, 0)) (pc' := 37) (ls' := [some (.inl (some a)), some (zi x1), some (zi xi), l3, l4]) (st' := [.inl (some a)]) (by decide +kernel) (fun k q => by cases q) rfl ?_
      refine y_get (j := 30) (len := 3) (r := (7, 3, 2, 539)) (by decide +kernel) Q.1 Q.2.1.1 aw1008 rfl rfl Q.2.2.1.2.2.2.1 ?_
      refine y_same (i := .iload_n 2) (len := 1) (r := (0, 0, 0, 0)) (pc' := 41) (ls' := [some (.inl (some a)), some (zi x1), some (zi xi), l3, l4]) (st' := [zi xi, .inl (some ((a + 7)))]) (by decide +kernel) (fun k q => by cases q) rfl ?_
      refine y_ic (c := 1) (len := 1) (r := (0, 0, 0, 0)) (by decide +kernel) (by decide) (fun y2108 hy2108 => ?_)
      obtain ⟨i2110, ki2110⟩ : ∃ i9, s.2.2.1[i]? = some i9 := ⟨_, List.getElem?_eq_getElem (by omega)⟩
      have oi2110 := okQ_C Q.2.2.2.2 ki2110
      have pi2110 := oi2110.1
      unfold okV at pi2110
      refine y_cI (i := .invokevirtual 68) (len := 3) (r := (0, 64, 6, 586)) (nL := 3) (k := 1) (n := 3) (hs := []) (args := [.inl (some ((a + 7))), zi xi, zi y2108]) (rest := []) (l0 := [some (.inl (some ((a + 7)))), some (zi xi), some (zi y2108)]) (by decide +kernel) (Or.inr (Or.inl ⟨_, rfl⟩)) rfl rfl rfl rfl (Nat.le_of_ble_eq_true rfl) (zO Q.1 Q.2.1.2.2.2.2.2.2.2.1 aw1004 rfl) rfl (qI_le (by omega) (q_tlC (d := 0) (k := i) (w := 1) Q (by omega) ki2110 (by omega) (by omega))) (fun y2109 qy2109 hRy2109 => ?_)
      obtain ⟨rfl, ey2109⟩ := hRy2109
      have ey2109 : y2109.toInt = i2110.2.1 := ey2109
      refine y_same (i := .istore_n 3) (len := 1) (r := (0, 0, 0, 0)) (pc' := 46) (ls' := [some (.inl (some a)), some (zi x1), some (zi xi), some (zi y2109), l4]) (st' := []) (by decide +kernel) (fun k q => by cases q) rfl ?_
      refine y_same (i := .aload_n 0) (len := 1) (r := (0, 0, 0, 0)) (pc' := 47) (ls' := [some (.inl (some a)), some (zi x1), some (zi xi), some (zi y2109), l4]) (st' := [.inl (some a)]) (by decide +kernel) (fun k q => by cases q) rfl ?_
      refine y_get (j := 30) (len := 3) (r := (7, 3, 2, 539)) (by decide +kernel) Q.1 Q.2.1.1 aw1008 rfl rfl Q.2.2.1.2.2.2.1 ?_
      refine y_same (i := .iload_n 2) (len := 1) (r := (0, 0, 0, 0)) (pc' := 51) (ls' := [some (.inl (some a)), some (zi x1), some (zi xi), some (zi y2109), l4]) (st' := [zi xi, .inl (some ((a + 7)))]) (by decide +kernel) (fun k q => by cases q) rfl ?_
      refine y_ic (c := 2) (len := 1) (r := (0, 0, 0, 0)) (by decide +kernel) (by decide) (fun y2111 hy2111 => ?_)
      refine y_cI (i := .invokevirtual 68) (len := 3) (r := (0, 64, 6, 586)) (nL := 3) (k := 1) (n := 3) (hs := []) (args := [.inl (some ((a + 7))), zi xi, zi y2111]) (rest := []) (l0 := [some (.inl (some ((a + 7)))), some (zi xi), some (zi y2111)]) (by decide +kernel) (Or.inr (Or.inl ⟨_, rfl⟩)) rfl rfl rfl rfl (Nat.le_of_ble_eq_true rfl) (zO Q.1 Q.2.1.2.2.2.2.2.2.2.1 aw1004 rfl) rfl (qI_le (by omega) (q_tlC (d := 0) (k := i) (w := 2) Q (by omega) ki2110 (by omega) (by omega))) (fun y2112 qy2112 hRy2112 => ?_)
      obtain ⟨rfl, ey2112⟩ := hRy2112
      have ey2112 : y2112.toInt = i2110.2.2.1 := ey2112
      refine y_same (i := .istore 4) (len := 2) (r := (0, 0, 0, 0)) (pc' := 57) (ls' := [some (.inl (some a)), some (zi x1), some (zi xi), some (zi y2109), some (zi y2112)]) (st' := []) (by decide +kernel) (fun k q => by cases q) rfl ?_
      refine y_same (i := .aload_n 0) (len := 1) (r := (0, 0, 0, 0)) (pc' := 58) (ls' := [some (.inl (some a)), some (zi x1), some (zi xi), some (zi y2109), some (zi y2112)]) (st' := [.inl (some a)]) (by decide +kernel) (fun k q => by cases q) rfl ?_
      refine y_get (j := 30) (len := 3) (r := (7, 3, 2, 539)) (by decide +kernel) Q.1 Q.2.1.1 aw1008 rfl rfl Q.2.2.1.2.2.2.1 ?_
      refine y_same (i := .iload_n 2) (len := 1) (r := (0, 0, 0, 0)) (pc' := 62) (ls' := [some (.inl (some a)), some (zi x1), some (zi xi), some (zi y2109), some (zi y2112)]) (st' := [zi xi, .inl (some ((a + 7)))]) (by decide +kernel) (fun k q => by cases q) rfl ?_
      refine y_ic (c := 0) (len := 1) (r := (0, 0, 0, 0)) (by decide +kernel) (by decide) (fun y2113 hy2113 => ?_)
      refine y_cI (i := .invokevirtual 68) (len := 3) (r := (0, 64, 6, 586)) (nL := 3) (k := 1) (n := 3) (hs := []) (args := [.inl (some ((a + 7))), zi xi, zi y2113]) (rest := []) (l0 := [some (.inl (some ((a + 7)))), some (zi xi), some (zi y2113)]) (by decide +kernel) (Or.inr (Or.inl ⟨_, rfl⟩)) rfl rfl rfl rfl (Nat.le_of_ble_eq_true rfl) (zO Q.1 Q.2.1.2.2.2.2.2.2.2.1 aw1004 rfl) rfl (qI_le (by omega) (q_tlC (d := 0) (k := i) (w := 0) Q (by omega) ki2110 (by omega) (by omega))) (fun y2114 qy2114 hRy2114 => ?_)
      obtain ⟨rfl, ey2114⟩ := hRy2114
      have ey2114 : y2114.toInt = i2110.1 := ey2114
      refine y_ic (c := 1) (len := 1) (r := (0, 0, 0, 0)) (by decide +kernel) (by decide) (fun y2115 hy2115 => ?_)
      rcases Decidable.em (y2114.toInt ≠ y2115.toInt) with q2116 | q2116
      ·
        refine y_cT (c := .ne) (off := 12) (pc' := 79) (len := 3) (r := (0, 0, 0, 0)) (by decide +kernel) (acmpT (c := .ne) (by show ¬ (_ = _); omega)) (by decide +kernel) ?_
        refine y_same (i := .aload_n 0) (len := 1) (r := (0, 0, 0, 0)) (pc' := 80) (ls' := [some (.inl (some a)), some (zi x1), some (zi xi), some (zi y2109), some (zi y2112)]) (st' := [.inl (some a)]) (by decide +kernel) (fun k q => by cases q) rfl ?_
        refine y_same (i := .iload_n 3) (len := 1) (r := (0, 0, 0, 0)) (pc' := 81) (ls' := [some (.inl (some a)), some (zi x1), some (zi xi), some (zi y2109), some (zi y2112)]) (st' := [zi y2109, .inl (some a)]) (by decide +kernel) (fun k q => by cases q) rfl ?_
        refine y_same (i := .iload 4) (len := 2) (r := (0, 0, 0, 0)) (pc' := 83) (ls' := [some (.inl (some a)), some (zi x1), some (zi xi), some (zi y2109), some (zi y2112)]) (st' := [zi y2112, zi y2109, .inl (some a)]) (by decide +kernel) (fun k q => by cases q) rfl ?_
        refine y_cI (i := .invokevirtual 149) (len := 3) (r := (0, 92, 7, 680)) (nL := 4) (k := 2) (n := 3) (hs := []) (args := [.inl (some a), zi y2109, zi y2112]) (rest := []) (l0 := [some (.inl (some a)), some (zi y2109), some (zi y2112), none]) (by decide +kernel) (Or.inr (Or.inl ⟨_, rfl⟩)) rfl rfl rfl rfl (Nat.le_of_ble_eq_true rfl) (zO Q.1 Q.2.1.1 aw1008 rfl) rfl (qI_le (by omega) (q_kn (d := 0) (x := i2110.2.1) (y := i2110.2.2.1) Q (by omega) (by omega) (by omega) (by omega))) (fun y2117 qy2117 hRy2117 => ?_)
        obtain ⟨rfl, hDy2117⟩ := hRy2117
        rcases hDy2117 with ⟨vy2117, ty2117⟩ | ⟨vy2117, ty2117⟩
        ·
          refine y_iF (c := .eq) (off := 13) (len := 3) (r := (0, 0, 0, 0)) (by decide +kernel) (acmpF (c := .eq) (by show ¬ (_ = _); omega)) ?_
          refine y_same (i := .aload_n 0) (len := 1) (r := (0, 0, 0, 0)) (pc' := 90) (ls' := [some (.inl (some a)), some (zi x1), some (zi xi), some (zi y2109), some (zi y2112)]) (st' := [.inl (some a)]) (by decide +kernel) (fun k q => by cases q) rfl ?_
          refine y_get (j := 30) (len := 3) (r := (7, 3, 2, 539)) (by decide +kernel) Q.1 Q.2.1.1 aw1008 rfl rfl Q.2.2.1.2.2.2.1 ?_
          refine y_same (i := .iload_n 2) (len := 1) (r := (0, 0, 0, 0)) (pc' := 94) (ls' := [some (.inl (some a)), some (zi x1), some (zi xi), some (zi y2109), some (zi y2112)]) (st' := [zi xi, .inl (some ((a + 7)))]) (by decide +kernel) (fun k q => by cases q) rfl ?_
          refine y_cV (i := .invokevirtual 85) (len := 3) (r := (0, 70, 6, 613)) (nL := 3) (k := 0) (n := 2) (hs := []) (args := [.inl (some ((a + 7))), zi xi]) (rest := []) (l0 := [some (.inl (some ((a + 7)))), some (zi xi), none]) (by decide +kernel) (Or.inr (Or.inl ⟨_, rfl⟩)) rfl rfl rfl rfl (Nat.le_of_ble_eq_true rfl) (zO Q.1 Q.2.1.2.2.2.2.2.2.2.1 aw1004 rfl) rfl (qV_le (by omega) (q_rmC (d := 0) (k := i) Q (by omega) (show i < s.2.2.1.length by omega))) (fun h2118 hR2118 => ?_)
          obtain ⟨Q2118, F2118⟩ := hR2118
          refine y_ic (c := 1) (len := 1) (r := (0, 0, 0, 0)) (by decide +kernel) (by decide) (fun y2119 hy2119 => ?_)
          refine y_rI (len := 1) (r := (0, 0, 0, 0)) (nL := 5) (k := 2) (n9 := 1) (hs := []) (by decide +kernel) rfl (zfit_b (by omega) (by omega)).2 ?_
          have hk9 := (List.getElem?_eq_some_iff.mp ki2110).1
          have v9 : rv s.1 s.2.2.2 i2110 := Or.inr ⟨by omega, ty2117⟩
          exact Or.inl ⟨by omega, fun q8 => q8.2 i2110 (List.mem_of_getElem? ki2110) v9, _, ⟨Or.inr (Or.inr (Or.inr (Or.inl ⟨⟨re, nr⟩, i, i2110, ki2110, v9, rfl⟩))), mq_erC hk9⟩, Q2118, F2118⟩
        ·
          refine y_iT (c := .eq) (off := 13) (pc' := 99) (len := 3) (r := (0, 0, 0, 0)) (by decide +kernel) (acmpT (c := .eq) (by show _ = _; omega)) (by decide +kernel) ?_
          refine y_inc (j := 2) (a := xi) (c := 1) (ls' := fun v => [some (.inl (some a)), some (zi x1), some v, some (zi y2109), some (zi y2112)]) (len := 3) (r := (0, 0, 0, 0)) (by decide +kernel) rfl (fun _ => rfl) (by decide) (by omega) (by omega) (fun y2120 hy2120 => ?_)
          show qX (d + 3) 91 102 [some (.inl (some a)), some (zi x1), some (zi y2120), some (zi y2109), some (zi y2112)] [] h t _
          refine y_goto (off := (-77)) (pc' := 25) (len := 3) (r := (0, 0, 0, 0)) (by decide +kernel) (by decide +kernel) ?_
          refine ih (i + 1) y2120 (some (zi y2109)) (some (zi y2112)) (by omega) (by omega) (fun j q hj h2 => ?_) (by omega)
          rcases Nat.lt_or_ge j i with q9 | q9
          · exact c1 j q q9 h2
          · obtain rfl : j = i := by omega
            cases ki2110.symm.trans h2
            exact fun q8 => q8.elim (fun q7 => by omega) (fun q7 => ty2117 q7.2)
      ·
        refine y_cF (c := .ne) (off := 12) (len := 3) (r := (0, 0, 0, 0)) (by decide +kernel) (acmpF (c := .ne) (by show _ = _; omega)) ?_
        refine y_same (i := .iload_n 3) (len := 1) (r := (0, 0, 0, 0)) (pc' := 71) (ls' := [some (.inl (some a)), some (zi x1), some (zi xi), some (zi y2109), some (zi y2112)]) (st' := [zi y2109]) (by decide +kernel) (fun k q => by cases q) rfl ?_
        refine y_same (i := .iload 4) (len := 2) (r := (0, 0, 0, 0)) (pc' := 73) (ls' := [some (.inl (some a)), some (zi x1), some (zi xi), some (zi y2109), some (zi y2112)]) (st' := [zi y2112, zi y2109]) (by decide +kernel) (fun k q => by cases q) rfl ?_
        rcases Decidable.em (y2109.toInt ≠ y2112.toInt) with q2121 | q2121
        ·
          refine y_cT (c := .ne) (off := 26) (pc' := 99) (len := 3) (r := (0, 0, 0, 0)) (by decide +kernel) (acmpT (c := .ne) (by show ¬ (_ = _); omega)) (by decide +kernel) ?_
          refine y_inc (j := 2) (a := xi) (c := 1) (ls' := fun v => [some (.inl (some a)), some (zi x1), some v, some (zi y2109), some (zi y2112)]) (len := 3) (r := (0, 0, 0, 0)) (by decide +kernel) rfl (fun _ => rfl) (by decide) (by omega) (by omega) (fun y2122 hy2122 => ?_)
          show qX (d + 3) 91 102 [some (.inl (some a)), some (zi x1), some (zi y2122), some (zi y2109), some (zi y2112)] [] h t _
          refine y_goto (off := (-77)) (pc' := 25) (len := 3) (r := (0, 0, 0, 0)) (by decide +kernel) (by decide +kernel) ?_
          refine ih (i + 1) y2122 (some (zi y2109)) (some (zi y2112)) (by omega) (by omega) (fun j q hj h2 => ?_) (by omega)
          rcases Nat.lt_or_ge j i with q9 | q9
          · exact c1 j q q9 h2
          · obtain rfl : j = i := by omega
            cases ki2110.symm.trans h2
            exact fun q8 => q8.elim (fun q7 => by omega) (fun q7 => by omega)
        ·
          refine y_cF (c := .ne) (off := 26) (len := 3) (r := (0, 0, 0, 0)) (by decide +kernel) (acmpF (c := .ne) (by show _ = _; omega)) ?_
          refine y_goto (off := 13) (pc' := 89) (len := 3) (r := (0, 0, 0, 0)) (by decide +kernel) (by decide +kernel) ?_
          refine y_same (i := .aload_n 0) (len := 1) (r := (0, 0, 0, 0)) (pc' := 90) (ls' := [some (.inl (some a)), some (zi x1), some (zi xi), some (zi y2109), some (zi y2112)]) (st' := [.inl (some a)]) (by decide +kernel) (fun k q => by cases q) rfl ?_
          refine y_get (j := 30) (len := 3) (r := (7, 3, 2, 539)) (by decide +kernel) Q.1 Q.2.1.1 aw1008 rfl rfl Q.2.2.1.2.2.2.1 ?_
          refine y_same (i := .iload_n 2) (len := 1) (r := (0, 0, 0, 0)) (pc' := 94) (ls' := [some (.inl (some a)), some (zi x1), some (zi xi), some (zi y2109), some (zi y2112)]) (st' := [zi xi, .inl (some ((a + 7)))]) (by decide +kernel) (fun k q => by cases q) rfl ?_
          refine y_cV (i := .invokevirtual 85) (len := 3) (r := (0, 70, 6, 613)) (nL := 3) (k := 0) (n := 2) (hs := []) (args := [.inl (some ((a + 7))), zi xi]) (rest := []) (l0 := [some (.inl (some ((a + 7)))), some (zi xi), none]) (by decide +kernel) (Or.inr (Or.inl ⟨_, rfl⟩)) rfl rfl rfl rfl (Nat.le_of_ble_eq_true rfl) (zO Q.1 Q.2.1.2.2.2.2.2.2.2.1 aw1004 rfl) rfl (qV_le (by omega) (q_rmC (d := 0) (k := i) Q (by omega) (show i < s.2.2.1.length by omega))) (fun h2123 hR2123 => ?_)
          obtain ⟨Q2123, F2123⟩ := hR2123
          refine y_ic (c := 1) (len := 1) (r := (0, 0, 0, 0)) (by decide +kernel) (by decide) (fun y2124 hy2124 => ?_)
          refine y_rI (len := 1) (r := (0, 0, 0, 0)) (nL := 5) (k := 2) (n9 := 1) (hs := []) (by decide +kernel) rfl (zfit_b (by omega) (by omega)).2 ?_
          have hk9 := (List.getElem?_eq_some_iff.mp ki2110).1
          have v9 : rv s.1 s.2.2.2 i2110 := Or.inl ⟨by omega, by omega⟩
          exact Or.inl ⟨by omega, fun q8 => q8.2 i2110 (List.mem_of_getElem? ki2110) v9, _, ⟨Or.inr (Or.inr (Or.inr (Or.inl ⟨⟨re, nr⟩, i, i2110, ki2110, v9, rfl⟩))), mq_erC hk9⟩, Q2123, F2123⟩
theorem q_str {d t a : Nat} {τ : List Nat} {h : zh} {s : sqT} (Q : QC τ h a s) (re : rest s.1) : qI (d + 4) 91 [some (.inl (some a)), none, none, none, none] h t (sdo_ τ a h s ((∀ q ∈ s.2.1, ¬ trv q) ∧ (∀ c ∈ s.2.2.1, ¬ rv s.1 s.2.2.2 c))) := by
  refine qI_of ?_
  refine y_same (i := .aload_n 0) (len := 1) (r := (0, 0, 0, 0)) (pc' := 1) (ls' := [some (.inl (some a)), none, none, none, none]) (st' := [.inl (some a)]) (by decide +kernel) (fun k q => by cases q) rfl ?_
  refine y_get (j := 27) (len := 3) (r := (7, 2, 2, 536)) (by decide +kernel) Q.1 Q.2.1.1 aw1008 rfl rfl Q.2.2.1.2.2.1 ?_
  refine y_cI (i := .invokevirtual 134) (len := 3) (r := (0, 75, 6, 655)) (nL := 2) (k := 1) (n := 1) (hs := []) (args := [.inl (some ((a + 5)))]) (rest := []) (l0 := [some (.inl (some ((a + 5)))), none]) (by decide +kernel) (Or.inr (Or.inl ⟨_, rfl⟩)) rfl rfl rfl rfl (Nat.le_of_ble_eq_true rfl) (zO Q.1 Q.2.1.2.2.2.2.2.1 aw1004 rfl) rfl (qI_le (by omega) (q_fsR (d := 0) Q)) (fun y2125 qy2125 hRy2125 => ?_)
  obtain ⟨rfl, hDy2125⟩ := hRy2125
  rcases hDy2125 with ⟨k9, q9, ek9, kq9, tv9, -⟩ | ⟨e9, nt⟩
  ·
    refine y_same (i := .istore_n 1) (len := 1) (r := (0, 0, 0, 0)) (pc' := 8) (ls' := [some (.inl (some a)), some (zi y2125), none, none, none]) (st' := []) (by decide +kernel) (fun k q => by cases q) rfl ?_
    refine y_same (i := .iload_n 1) (len := 1) (r := (0, 0, 0, 0)) (pc' := 9) (ls' := [some (.inl (some a)), some (zi y2125), none, none, none]) (st' := [zi y2125]) (by decide +kernel) (fun k q => by cases q) rfl ?_
    refine y_ic (c := (-1)) (len := 1) (r := (0, 0, 0, 0)) (by decide +kernel) (by decide) (fun y2126 hy2126 => ?_)
    have hk9 := (List.getElem?_eq_some_iff.mp kq9).1
    refine y_cF (c := .eq) (off := 13) (len := 3) (r := (0, 0, 0, 0)) (by decide +kernel) (acmpF (c := .eq) (by show ¬ (_ = _); omega)) ?_
    refine y_same (i := .aload_n 0) (len := 1) (r := (0, 0, 0, 0)) (pc' := 14) (ls' := [some (.inl (some a)), some (zi y2125), none, none, none]) (st' := [.inl (some a)]) (by decide +kernel) (fun k q => by cases q) rfl ?_
    refine y_get (j := 27) (len := 3) (r := (7, 2, 2, 536)) (by decide +kernel) Q.1 Q.2.1.1 aw1008 rfl rfl Q.2.2.1.2.2.1 ?_
    refine y_same (i := .iload_n 1) (len := 1) (r := (0, 0, 0, 0)) (pc' := 18) (ls' := [some (.inl (some a)), some (zi y2125), none, none, none]) (st' := [zi y2125, .inl (some ((a + 5)))]) (by decide +kernel) (fun k q => by cases q) rfl ?_
    obtain ⟨z2128, hz2128, ez2128, mz2128⟩ := q_szR Q
    have ez2128 : z2128.toInt = ((s.2.1.length : Nat) : Int) := ez2128
    have mz2128 : s.2.1.length ≤ 14 := mz2128
    refine y_cV (i := .invokevirtual 85) (len := 3) (r := (0, 70, 6, 613)) (nL := 3) (k := 0) (n := 2) (hs := []) (args := [.inl (some ((a + 5))), zi y2125]) (rest := []) (l0 := [some (.inl (some ((a + 5)))), some (zi y2125), none]) (by decide +kernel) (Or.inr (Or.inl ⟨_, rfl⟩)) rfl rfl rfl rfl (Nat.le_of_ble_eq_true rfl) (zO Q.1 Q.2.1.2.2.2.2.2.1 aw1004 rfl) rfl (qV_le (by omega) (q_rmR (d := 0) (k := k9) Q (by omega) (show k9 < s.2.1.length by omega))) (fun h2127 hR2127 => ?_)
    obtain ⟨Q2127, F2127⟩ := hR2127
    refine y_ic (c := 1) (len := 1) (r := (0, 0, 0, 0)) (by decide +kernel) (by decide) (fun y2129 hy2129 => ?_)
    refine y_rI (len := 1) (r := (0, 0, 0, 0)) (nL := 5) (k := 2) (n9 := 1) (hs := []) (by decide +kernel) rfl (zfit_b (by omega) (by omega)).2 ?_
    exact Or.inl ⟨by omega, fun q8 => q8.1 q9 (List.mem_of_getElem? kq9) tv9, _, ⟨Or.inr (Or.inr (Or.inl ⟨re, k9, q9, kq9, tv9, rfl⟩)), mq_erR hk9⟩, Q2127, F2127⟩
  ·
    refine y_same (i := .istore_n 1) (len := 1) (r := (0, 0, 0, 0)) (pc' := 8) (ls' := [some (.inl (some a)), some (zi y2125), none, none, none]) (st' := []) (by decide +kernel) (fun k q => by cases q) rfl ?_
    refine y_same (i := .iload_n 1) (len := 1) (r := (0, 0, 0, 0)) (pc' := 9) (ls' := [some (.inl (some a)), some (zi y2125), none, none, none]) (st' := [zi y2125]) (by decide +kernel) (fun k q => by cases q) rfl ?_
    refine y_ic (c := (-1)) (len := 1) (r := (0, 0, 0, 0)) (by decide +kernel) (by decide) (fun y2130 hy2130 => ?_)
    refine y_cT (c := .eq) (off := 13) (pc' := 23) (len := 3) (r := (0, 0, 0, 0)) (by decide +kernel) (acmpT (c := .eq) (by show _ = _; omega)) (by decide +kernel) ?_
    refine y_ic (c := 0) (len := 1) (r := (0, 0, 0, 0)) (by decide +kernel) (by decide) (fun y2131 hy2131 => ?_)
    refine y_same (i := .istore_n 2) (len := 1) (r := (0, 0, 0, 0)) (pc' := 25) (ls' := [some (.inl (some a)), some (zi y2125), some (zi y2131), none, none]) (st' := []) (by decide +kernel) (fun k q => by cases q) rfl ?_
    exact str_l Q re nt (s.2.2.1.length + 1) 0 y2131 none none (by omega) (by omega) (fun j _ hj => absurd hj (Nat.not_lt_zero j)) (by omega)
theorem RdY_go {s s1 : sqT} {o : Option sqT} (nv : ¬ vd_ s) (k : stp1 s s1) (r : RdY s1 o) : RdY s o := by
  cases o with
  | none =>
    obtain ⟨l, s', h, v⟩ := r
    exact ⟨s1 :: l, s', ⟨nv, k, h⟩, v⟩
  | some x =>
    obtain ⟨l, h, v⟩ := r
    exact ⟨s1 :: l, ⟨nv, k, h⟩, v⟩
theorem RdY_v {s : sqT} (v : vd_ s) : RdY s none := ⟨[], s, rfl, v⟩
def bK (s : sqT) (v : Int) : Prop := mnP s v ∨ v = 0
def kpQ (s : sqT) : sqT := (s.1, s.2.1, s.2.2.1, dKp (bK s) s.2.2.2)
theorem kp_st {s : sqT} (a3 : at3 s) : stp1 s (kpQ s) := Or.inr (Or.inr (Or.inr (Or.inr ⟨a3, dKp (bK s) s.2.2.2, fun a b h => h.1, fun a b h => by
  by_cases q1 : bK s a
  · by_cases q2 : bK s b
    · exact Or.inl ⟨h, q1, q2⟩
    · exact Or.inr (Or.inr ⟨fun e => q2 (Or.inr e), fun e => q2 (Or.inl e)⟩)
  · exact Or.inr (Or.inl ⟨fun e => q1 (Or.inr e), fun e => q1 (Or.inl e)⟩), rfl⟩)))
theorem kp_nrm {s : sqT} (a3 : at3 s) : nrm (kpQ s) := ⟨⟨a3.1, fun c m v => a3.2 c m (rv_sub (fun a b h => h.1) v)⟩, fun a b h i => by
  obtain ⟨-, h1, h2⟩ := h
  rcases i with ⟨i1, i2⟩ | ⟨i1, i2⟩
  · exact h1.elim i2 i1
  · exact h2.elim i2 i1⟩
theorem kp_nv {s : sqT} (nv : ¬ vd_ s) : ¬ vd_ (kpQ s) := fun v => nv (vd_mono (fun a b h => h.1) v)
theorem kp_end {s : sqT} (a3 : at3 s) (nv : ¬ vd_ s) : RdY s (some (kpQ s)) := ⟨[kpQ s], ⟨nv, kp_st a3, rfl⟩, kp_nv nv, kp_nrm a3⟩
theorem nrm_kp {s : sqT} (n : nrm s) : ∀ a b, s.2.2.2 a b → dKp (bK s) s.2.2.2 a b := fun a b h => by
  have i := n.2 a b h
  refine ⟨h, Classical.byContradiction (fun q => i (Or.inl ⟨fun e => q (Or.inr e), fun e => q (Or.inl e)⟩)), Classical.byContradiction (fun q => i (Or.inr ⟨fun e => q (Or.inr e), fun e => q (Or.inl e)⟩))⟩
theorem mr_b {d t a : Nat} {τ : List Nat} {h : zh} {s : sqT} (Q : QC τ h a s) (nr : nrm s) (nv : ¬ vd_ s) {i : Nat} {xi : Int32} (hxi : xi.toInt = (i : Int)) (hi : i < 1000) {l2 : Option zv} : qX (d + 4) 84 2 [some (.inl (some a)), some (zi xi), l2] [] h t (rI (fun y h1 => ∃ s', QC τ h1 a s' ∧ FQ a h h1 ∧ ((y.toInt = 1 ∧ RdY s (some s')) ∨ (y.toInt = 0 ∧ RdY s none))) t) := by
  refine y_same (i := .iload_n 1) (len := 1) (r := (0, 0, 0, 0)) (pc' := 3) (ls' := [some (.inl (some a)), some (zi xi), l2]) (st' := [zi xi]) (by decide +kernel) (fun k q => by cases q) rfl ?_
  refine y_si (c := 1000) (len := 3) (r := (0, 0, 0, 0)) (by decide +kernel) (by decide) (fun y2132 hy2132 => ?_)
  refine y_cF (c := .ge) (off := 60) (len := 3) (r := (0, 0, 0, 0)) (by decide +kernel) (acmpF (c := .ge) (by show _ < _; omega)) ?_
  refine y_same (i := .aload_n 0) (len := 1) (r := (0, 0, 0, 0)) (pc' := 10) (ls' := [some (.inl (some a)), some (zi xi), l2]) (st' := [.inl (some a)]) (by decide +kernel) (fun k q => by cases q) rfl ?_
  refine y_cI (i := .invokevirtual 111) (len := 3) (r := (0, 85, 7, 639)) (nL := 2) (k := 2) (n := 1) (hs := []) (args := [.inl (some a)]) (rest := []) (l0 := [some (.inl (some a)), none]) (by decide +kernel) (Or.inr (Or.inl ⟨_, rfl⟩)) rfl rfl rfl rfl (Nat.le_of_ble_eq_true rfl) (zO Q.1 Q.2.1.1 aw1008 rfl) rfl (qI_le (by omega) (q_vd (d := 0) Q)) (fun y2133 qy2133 hRy2133 => ?_)
  obtain ⟨rfl, hDy2133⟩ := hRy2133
  have vy2133 : y2133.toInt = 0 := hDy2133.elim (fun q => absurd q.2 nv) (fun q => q.1)
  refine y_iT (c := .eq) (off := 5) (pc' := 18) (len := 3) (r := (0, 0, 0, 0)) (by decide +kernel) (acmpT (c := .eq) (by show _ = _; omega)) (by decide +kernel) ?_
  refine y_same (i := .aload_n 0) (len := 1) (r := (0, 0, 0, 0)) (pc' := 19) (ls' := [some (.inl (some a)), some (zi xi), l2]) (st' := [.inl (some a)]) (by decide +kernel) (fun k q => by cases q) rfl ?_
  refine y_cI (i := .invokevirtual 115) (len := 3) (r := (0, 87, 7, 651)) (nL := 2) (k := 2) (n := 1) (hs := []) (args := [.inl (some a)]) (rest := []) (l0 := [some (.inl (some a)), none]) (by decide +kernel) (Or.inr (Or.inl ⟨_, rfl⟩)) rfl rfl rfl rfl (Nat.le_of_ble_eq_true rfl) (zO Q.1 Q.2.1.1 aw1008 rfl) rfl (qI_le (by omega) (q_stl (d := 0) Q)) (fun y2134 qy2134 hRy2134 => ?_)
  rcases hRy2134 with ⟨-, q9, -⟩ | ⟨vy2134, rfl, -⟩
  · exact (q9 nr.1.1.1).elim
  refine y_iF (c := .ne) (off := 26) (len := 3) (r := (0, 0, 0, 0)) (by decide +kernel) (acmpF (c := .ne) (by show _ = _; omega)) ?_
  refine y_same (i := .aload_n 0) (len := 1) (r := (0, 0, 0, 0)) (pc' := 26) (ls' := [some (.inl (some a)), some (zi xi), l2]) (st' := [.inl (some a)]) (by decide +kernel) (fun k q => by cases q) rfl ?_
  refine y_cI (i := .invokevirtual 118) (len := 3) (r := (0, 91, 7, 676)) (nL := 5) (k := 2) (n := 1) (hs := []) (args := [.inl (some a)]) (rest := []) (l0 := [some (.inl (some a)), none, none, none, none]) (by decide +kernel) (Or.inr (Or.inl ⟨_, rfl⟩)) rfl rfl rfl rfl (Nat.le_of_ble_eq_true rfl) (zO Q.1 Q.2.1.1 aw1008 rfl) rfl (qI_le (by omega) (q_str (d := 0) Q nr.1.1.1)) (fun y2135 qy2135 hRy2135 => ?_)
  rcases hRy2135 with ⟨-, q9, -⟩ | ⟨vy2135, rfl, -⟩
  · exact (q9 ⟨nr.1.1.2, nr.1.2⟩).elim
  refine y_iF (c := .ne) (off := 19) (len := 3) (r := (0, 0, 0, 0)) (by decide +kernel) (acmpF (c := .ne) (by show _ = _; omega)) ?_
  refine y_same (i := .aload_n 0) (len := 1) (r := (0, 0, 0, 0)) (pc' := 33) (ls' := [some (.inl (some a)), some (zi xi), l2]) (st' := [.inl (some a)]) (by decide +kernel) (fun k q => by cases q) rfl ?_
  refine y_get (j := 12) (len := 3) (r := (7, 0, 2, 530)) (by decide +kernel) Q.1 Q.2.1.1 aw1008 rfl rfl Q.2.2.1.1 ?_
  refine y_same (i := .aload_n 0) (len := 1) (r := (0, 0, 0, 0)) (pc' := 37) (ls' := [some (.inl (some a)), some (zi xi), l2]) (st' := [.inl (some a), .inl (some ((a + 1)))]) (by decide +kernel) (fun k q => by cases q) rfl ?_
  refine y_cI (i := .invokevirtual 121) (len := 3) (r := (0, 83, 7, 688)) (nL := 1) (k := 1) (n := 1) (hs := []) (args := [.inl (some a)]) (rest := [.inl (some ((a + 1)))]) (l0 := [some (.inl (some a))]) (by decide +kernel) (Or.inr (Or.inl ⟨_, rfl⟩)) rfl rfl rfl rfl (Nat.le_of_ble_eq_true rfl) (zO Q.1 Q.2.1.1 aw1008 rfl) rfl (qI_le (by omega) (q_ipc (d := 0) Q)) (fun y2136 qy2136 hRy2136 => ?_)
  obtain ⟨rfl, ty2136⟩ := hRy2136
  refine y_ic (c := 1) (len := 1) (r := (0, 0, 0, 0)) (by decide +kernel) (by decide) (fun y2137 hy2137 => ?_)
  refine y_bp (i := .ior) (f := fun x y => x ||| y) (len := 1) (r := (0, 0, 0, 0)) (by decide +kernel) rfl rfl (fun y2138 hy2138 => ?_)
  have hy2138 : y2138 = y2136 ||| y2137 := hy2138
  have ba := bs_or ty2136 (bs_k1 (c := y2137) (by omega))
  rw [← hy2138] at ba
  have bb := bs_cg (S' := fun v => bK s (v : Int)) ba (fun v _ => ⟨fun q => q.elim Or.inl (fun e => Or.inr (by omega)), fun q => q.elim Or.inl (fun e => Or.inr (by omega))⟩)
  refine y_cI (i := .invokevirtual 124) (len := 3) (r := (0, 9, 0, 696)) (nL := 4) (k := 2) (n := 2) (hs := []) (args := [.inl (some ((a + 1))), zi y2138]) (rest := []) (l0 := [some (.inl (some ((a + 1)))), some (zi y2138), none, none]) (by decide +kernel) (Or.inr (Or.inl ⟨_, rfl⟩)) rfl rfl rfl rfl (Nat.le_of_ble_eq_true rfl) (zO Q.1 Q.2.1.2.1 aw1009 rfl) rfl (qI_le (by omega) (q_dkp (d := 0) (B := bK s) Q bb)) (fun y2139 h2139 hRy2139 => ?_)
  obtain ⟨hDy2139, Q2139, F2139⟩ := hRy2139
  rcases hDy2139 with vy2139 | ⟨vy2139, wy2139⟩
  ·
    refine y_iT (c := .eq) (off := 7) (pc' := 52) (len := 3) (r := (0, 0, 0, 0)) (by decide +kernel) (acmpT (c := .eq) (by show _ = _; omega)) (by decide +kernel) ?_
    refine y_ic (c := 0) (len := 1) (r := (0, 0, 0, 0)) (by decide +kernel) (by decide) (fun y2140 hy2140 => ?_)
    refine y_same (i := .istore_n 2) (len := 1) (r := (0, 0, 0, 0)) (pc' := 54) (ls' := [some (.inl (some a)), some (zi xi), some (zi y2140)]) (st' := []) (by decide +kernel) (fun k q => by cases q) rfl ?_
    refine y_same (i := .iload_n 2) (len := 1) (r := (0, 0, 0, 0)) (pc' := 55) (ls' := [some (.inl (some a)), some (zi xi), some (zi y2140)]) (st' := [zi y2140]) (by decide +kernel) (fun k q => by cases q) rfl ?_
    refine y_iF (c := .ne) (off := 5) (len := 3) (r := (0, 0, 0, 0)) (by decide +kernel) (acmpF (c := .ne) (by show _ = _; omega)) ?_
    refine y_ic (c := 1) (len := 1) (r := (0, 0, 0, 0)) (by decide +kernel) (by decide) (fun y2141 hy2141 => ?_)
    refine y_rI (len := 1) (r := (0, 0, 0, 0)) (nL := 3) (k := 2) (n9 := 1) (hs := []) (by decide +kernel) rfl (zfit_b (by omega) (by omega)).2 ?_
    exact ⟨_, Q2139, F2139, Or.inl ⟨by omega, kp_end nr.1 nv⟩⟩
  ·
    refine y_iF (c := .eq) (off := 7) (len := 3) (r := (0, 0, 0, 0)) (by decide +kernel) (acmpF (c := .eq) (by show ¬ (_ = _); omega)) ?_
    refine y_ic (c := 1) (len := 1) (r := (0, 0, 0, 0)) (by decide +kernel) (by decide) (fun y2142 hy2142 => ?_)
    refine y_goto (off := 4) (pc' := 53) (len := 3) (r := (0, 0, 0, 0)) (by decide +kernel) (by decide +kernel) ?_
    refine y_same (i := .istore_n 2) (len := 1) (r := (0, 0, 0, 0)) (pc' := 54) (ls' := [some (.inl (some a)), some (zi xi), some (zi y2142)]) (st' := []) (by decide +kernel) (fun k q => by cases q) rfl ?_
    refine y_same (i := .iload_n 2) (len := 1) (r := (0, 0, 0, 0)) (pc' := 55) (ls' := [some (.inl (some a)), some (zi xi), some (zi y2142)]) (st' := [zi y2142]) (by decide +kernel) (fun k q => by cases q) rfl ?_
    refine y_iT (c := .ne) (off := 5) (pc' := 60) (len := 3) (r := (0, 0, 0, 0)) (by decide +kernel) (acmpT (c := .ne) (by show ¬ (_ = _); omega)) (by decide +kernel) ?_
    refine y_inc (j := 1) (a := xi) (c := 1) (ls' := fun v => [some (.inl (some a)), some v, some (zi y2142)]) (len := 3) (r := (0, 0, 0, 0)) (by decide +kernel) rfl (fun _ => rfl) (by decide) (by omega) (by omega) (fun y2143 hy2143 => ?_)
    show qX (d + 4) 84 63 [some (.inl (some a)), some (zi y2143), some (zi y2142)] [] h2139 t _
    refine y_goto (off := (-61)) (pc' := 2) (len := 3) (r := (0, 0, 0, 0)) (by decide +kernel) (by decide +kernel) ?_
    exact (wy2139 (nrm_kp nr)).elim
theorem mr_l {d t a : Nat} {τ : List Nat} : ∀ (n : Nat) (h : zh) (s : sqT) (i : Nat) (xi : Int32) (l2 : Option zv), (QC τ h a s) → (xi.toInt = (i : Int)) → (i + mq s + 2 < 1000) → (mq s < n) → qX (d + 4) 84 2 [some (.inl (some a)), some (zi xi), l2] [] h t (rI (fun y h1 => ∃ s', QC τ h1 a s' ∧ FQ a h h1 ∧ ((y.toInt = 1 ∧ RdY s (some s')) ∨ (y.toInt = 0 ∧ RdY s none))) t) := by
  intro n
  induction n with
  | zero =>
    intro h s i xi l2 Q hxi hi hn
    exfalso
    omega
  | succ n ih =>
    intro h s i xi l2 Q hxi hi hn
    skip
    refine y_same (i := .iload_n 1) (len := 1) (r := (0, 0, 0, 0)) (pc' := 3) (ls' := [some (.inl (some a)), some (zi xi), l2]) (st' := [zi xi]) (by decide +kernel) (fun k q => by cases q) rfl ?_
    refine y_si (c := 1000) (len := 3) (r := (0, 0, 0, 0)) (by decide +kernel) (by decide) (fun y2144 hy2144 => ?_)
    refine y_cF (c := .ge) (off := 60) (len := 3) (r := (0, 0, 0, 0)) (by decide +kernel) (acmpF (c := .ge) (by show _ < _; omega)) ?_
    refine y_same (i := .aload_n 0) (len := 1) (r := (0, 0, 0, 0)) (pc' := 10) (ls' := [some (.inl (some a)), some (zi xi), l2]) (st' := [.inl (some a)]) (by decide +kernel) (fun k q => by cases q) rfl ?_
    refine y_cI (i := .invokevirtual 111) (len := 3) (r := (0, 85, 7, 639)) (nL := 2) (k := 2) (n := 1) (hs := []) (args := [.inl (some a)]) (rest := []) (l0 := [some (.inl (some a)), none]) (by decide +kernel) (Or.inr (Or.inl ⟨_, rfl⟩)) rfl rfl rfl rfl (Nat.le_of_ble_eq_true rfl) (zO Q.1 Q.2.1.1 aw1008 rfl) rfl (qI_le (by omega) (q_vd (d := 0) Q)) (fun y2145 qy2145 hRy2145 => ?_)
    obtain ⟨rfl, hDy2145⟩ := hRy2145
    rcases hDy2145 with ⟨vy2145, ty2145⟩ | ⟨vy2145, ty2145⟩
    ·
      refine y_iF (c := .eq) (off := 5) (len := 3) (r := (0, 0, 0, 0)) (by decide +kernel) (acmpF (c := .eq) (by show ¬ (_ = _); omega)) ?_
      refine y_ic (c := 0) (len := 1) (r := (0, 0, 0, 0)) (by decide +kernel) (by decide) (fun y2146 hy2146 => ?_)
      refine y_rI (len := 1) (r := (0, 0, 0, 0)) (nL := 3) (k := 2) (n9 := 1) (hs := []) (by decide +kernel) rfl (zfit_b (by omega) (by omega)).2 ?_
      exact ⟨s, Q, fun k j _ => rfl, Or.inr ⟨by omega, RdY_v ty2145⟩⟩
    ·
      refine y_iT (c := .eq) (off := 5) (pc' := 18) (len := 3) (r := (0, 0, 0, 0)) (by decide +kernel) (acmpT (c := .eq) (by show _ = _; omega)) (by decide +kernel) ?_
      refine y_same (i := .aload_n 0) (len := 1) (r := (0, 0, 0, 0)) (pc' := 19) (ls' := [some (.inl (some a)), some (zi xi), l2]) (st' := [.inl (some a)]) (by decide +kernel) (fun k q => by cases q) rfl ?_
      refine y_cI (i := .invokevirtual 115) (len := 3) (r := (0, 87, 7, 651)) (nL := 2) (k := 2) (n := 1) (hs := []) (args := [.inl (some a)]) (rest := []) (l0 := [some (.inl (some a)), none]) (by decide +kernel) (Or.inr (Or.inl ⟨_, rfl⟩)) rfl rfl rfl rfl (Nat.le_of_ble_eq_true rfl) (zO Q.1 Q.2.1.1 aw1008 rfl) rfl (qI_le (by omega) (q_stl (d := 0) Q)) (fun y2147 h2147 hRy2147 => ?_)
      rcases hRy2147 with ⟨v2147, n2147, s2147, p2147, Q2147, F2147⟩ | ⟨v2147, rfl, t2147⟩
      ·
        refine y_iT (c := .ne) (off := 26) (pc' := 48) (len := 3) (r := (0, 0, 0, 0)) (by decide +kernel) (acmpT (c := .ne) (by show ¬ (_ = _); omega)) (by decide +kernel) ?_
        refine y_ic (c := 1) (len := 1) (r := (0, 0, 0, 0)) (by decide +kernel) (by decide) (fun y2148 hy2148 => ?_)
        refine y_goto (off := 4) (pc' := 53) (len := 3) (r := (0, 0, 0, 0)) (by decide +kernel) (by decide +kernel) ?_
        refine y_same (i := .istore_n 2) (len := 1) (r := (0, 0, 0, 0)) (pc' := 54) (ls' := [some (.inl (some a)), some (zi xi), some (zi y2148)]) (st' := []) (by decide +kernel) (fun k q => by cases q) rfl ?_
        refine y_same (i := .iload_n 2) (len := 1) (r := (0, 0, 0, 0)) (pc' := 55) (ls' := [some (.inl (some a)), some (zi xi), some (zi y2148)]) (st' := [zi y2148]) (by decide +kernel) (fun k q => by cases q) rfl ?_
        refine y_iT (c := .ne) (off := 5) (pc' := 60) (len := 3) (r := (0, 0, 0, 0)) (by decide +kernel) (acmpT (c := .ne) (by show ¬ (_ = _); omega)) (by decide +kernel) ?_
        refine y_inc (j := 1) (a := xi) (c := 1) (ls' := fun v => [some (.inl (some a)), some v, some (zi y2148)]) (len := 3) (r := (0, 0, 0, 0)) (by decide +kernel) rfl (fun _ => rfl) (by decide) (by omega) (by omega) (fun y2149 hy2149 => ?_)
        show qX (d + 4) 84 63 [some (.inl (some a)), some (zi y2149), some (zi y2148)] [] h2147 t _
        refine y_goto (off := (-61)) (pc' := 2) (len := 3) (r := (0, 0, 0, 0)) (by decide +kernel) (by decide +kernel) ?_
        have m9 := p2147.2
        refine qX_I (ih h2147 s2147 (i + 1) y2149 (some (zi y2148)) Q2147 (by omega) (by omega) (by omega)) (fun y h1 hR => ?_)
        obtain ⟨s9, Q9, F9, hD⟩ := hR
        exact ⟨s9, Q9, FQ_tr F2147 F9, hD.elim (fun q => Or.inl ⟨q.1, RdY_go ty2145 p2147.1 q.2⟩) (fun q => Or.inr ⟨q.1, RdY_go ty2145 p2147.1 q.2⟩)⟩
      ·
        refine y_iF (c := .ne) (off := 26) (len := 3) (r := (0, 0, 0, 0)) (by decide +kernel) (acmpF (c := .ne) (by show _ = _; omega)) ?_
        refine y_same (i := .aload_n 0) (len := 1) (r := (0, 0, 0, 0)) (pc' := 26) (ls' := [some (.inl (some a)), some (zi xi), l2]) (st' := [.inl (some a)]) (by decide +kernel) (fun k q => by cases q) rfl ?_
        refine y_cI (i := .invokevirtual 118) (len := 3) (r := (0, 91, 7, 676)) (nL := 5) (k := 2) (n := 1) (hs := []) (args := [.inl (some a)]) (rest := []) (l0 := [some (.inl (some a)), none, none, none, none]) (by decide +kernel) (Or.inr (Or.inl ⟨_, rfl⟩)) rfl rfl rfl rfl (Nat.le_of_ble_eq_true rfl) (zO Q.1 Q.2.1.1 aw1008 rfl) rfl (qI_le (by omega) (q_str (d := 0) Q t2147)) (fun y2150 h2150 hRy2150 => ?_)
        rcases hRy2150 with ⟨v2150, n2150, s2150, p2150, Q2150, F2150⟩ | ⟨v2150, rfl, t2150⟩
        ·
          refine y_iT (c := .ne) (off := 19) (pc' := 48) (len := 3) (r := (0, 0, 0, 0)) (by decide +kernel) (acmpT (c := .ne) (by show ¬ (_ = _); omega)) (by decide +kernel) ?_
          refine y_ic (c := 1) (len := 1) (r := (0, 0, 0, 0)) (by decide +kernel) (by decide) (fun y2151 hy2151 => ?_)
          refine y_goto (off := 4) (pc' := 53) (len := 3) (r := (0, 0, 0, 0)) (by decide +kernel) (by decide +kernel) ?_
          refine y_same (i := .istore_n 2) (len := 1) (r := (0, 0, 0, 0)) (pc' := 54) (ls' := [some (.inl (some a)), some (zi xi), some (zi y2151)]) (st' := []) (by decide +kernel) (fun k q => by cases q) rfl ?_
          refine y_same (i := .iload_n 2) (len := 1) (r := (0, 0, 0, 0)) (pc' := 55) (ls' := [some (.inl (some a)), some (zi xi), some (zi y2151)]) (st' := [zi y2151]) (by decide +kernel) (fun k q => by cases q) rfl ?_
          refine y_iT (c := .ne) (off := 5) (pc' := 60) (len := 3) (r := (0, 0, 0, 0)) (by decide +kernel) (acmpT (c := .ne) (by show ¬ (_ = _); omega)) (by decide +kernel) ?_
          refine y_inc (j := 1) (a := xi) (c := 1) (ls' := fun v => [some (.inl (some a)), some v, some (zi y2151)]) (len := 3) (r := (0, 0, 0, 0)) (by decide +kernel) rfl (fun _ => rfl) (by decide) (by omega) (by omega) (fun y2152 hy2152 => ?_)
          show qX (d + 4) 84 63 [some (.inl (some a)), some (zi y2152), some (zi y2151)] [] h2150 t _
          refine y_goto (off := (-61)) (pc' := 2) (len := 3) (r := (0, 0, 0, 0)) (by decide +kernel) (by decide +kernel) ?_
          have m9 := p2150.2
          refine qX_I (ih h2150 s2150 (i + 1) y2152 (some (zi y2151)) Q2150 (by omega) (by omega) (by omega)) (fun y h1 hR => ?_)
          obtain ⟨s9, Q9, F9, hD⟩ := hR
          exact ⟨s9, Q9, FQ_tr F2150 F9, hD.elim (fun q => Or.inl ⟨q.1, RdY_go ty2145 p2150.1 q.2⟩) (fun q => Or.inr ⟨q.1, RdY_go ty2145 p2150.1 q.2⟩)⟩
        ·
          refine y_iF (c := .ne) (off := 19) (len := 3) (r := (0, 0, 0, 0)) (by decide +kernel) (acmpF (c := .ne) (by show _ = _; omega)) ?_
          refine y_same (i := .aload_n 0) (len := 1) (r := (0, 0, 0, 0)) (pc' := 33) (ls' := [some (.inl (some a)), some (zi xi), l2]) (st' := [.inl (some a)]) (by decide +kernel) (fun k q => by cases q) rfl ?_
          refine y_get (j := 12) (len := 3) (r := (7, 0, 2, 530)) (by decide +kernel) Q.1 Q.2.1.1 aw1008 rfl rfl Q.2.2.1.1 ?_
          refine y_same (i := .aload_n 0) (len := 1) (r := (0, 0, 0, 0)) (pc' := 37) (ls' := [some (.inl (some a)), some (zi xi), l2]) (st' := [.inl (some a), .inl (some ((a + 1)))]) (by decide +kernel) (fun k q => by cases q) rfl ?_
          refine y_cI (i := .invokevirtual 121) (len := 3) (r := (0, 83, 7, 688)) (nL := 1) (k := 1) (n := 1) (hs := []) (args := [.inl (some a)]) (rest := [.inl (some ((a + 1)))]) (l0 := [some (.inl (some a))]) (by decide +kernel) (Or.inr (Or.inl ⟨_, rfl⟩)) rfl rfl rfl rfl (Nat.le_of_ble_eq_true rfl) (zO Q.1 Q.2.1.1 aw1008 rfl) rfl (qI_le (by omega) (q_ipc (d := 0) Q)) (fun y2153 qy2153 hRy2153 => ?_)
          obtain ⟨rfl, ty2153⟩ := hRy2153
          refine y_ic (c := 1) (len := 1) (r := (0, 0, 0, 0)) (by decide +kernel) (by decide) (fun y2154 hy2154 => ?_)
          refine y_bp (i := .ior) (f := fun x y => x ||| y) (len := 1) (r := (0, 0, 0, 0)) (by decide +kernel) rfl rfl (fun y2155 hy2155 => ?_)
          have hy2155 : y2155 = y2153 ||| y2154 := hy2155
          have ba := bs_or ty2153 (bs_k1 (c := y2154) (by omega))
          rw [← hy2155] at ba
          have bb := bs_cg (S' := fun v => bK s (v : Int)) ba (fun v _ => ⟨fun q => q.elim Or.inl (fun e => Or.inr (by omega)), fun q => q.elim Or.inl (fun e => Or.inr (by omega))⟩)
          refine y_cI (i := .invokevirtual 124) (len := 3) (r := (0, 9, 0, 696)) (nL := 4) (k := 2) (n := 2) (hs := []) (args := [.inl (some ((a + 1))), zi y2155]) (rest := []) (l0 := [some (.inl (some ((a + 1)))), some (zi y2155), none, none]) (by decide +kernel) (Or.inr (Or.inl ⟨_, rfl⟩)) rfl rfl rfl rfl (Nat.le_of_ble_eq_true rfl) (zO Q.1 Q.2.1.2.1 aw1009 rfl) rfl (qI_le (by omega) (q_dkp (d := 0) (B := bK s) Q bb)) (fun y2156 h2156 hRy2156 => ?_)
          obtain ⟨hDy2156, Q2156, F2156⟩ := hRy2156
          rcases hDy2156 with vy2156 | ⟨vy2156, wy2156⟩
          ·
            refine y_iT (c := .eq) (off := 7) (pc' := 52) (len := 3) (r := (0, 0, 0, 0)) (by decide +kernel) (acmpT (c := .eq) (by show _ = _; omega)) (by decide +kernel) ?_
            refine y_ic (c := 0) (len := 1) (r := (0, 0, 0, 0)) (by decide +kernel) (by decide) (fun y2157 hy2157 => ?_)
            refine y_same (i := .istore_n 2) (len := 1) (r := (0, 0, 0, 0)) (pc' := 54) (ls' := [some (.inl (some a)), some (zi xi), some (zi y2157)]) (st' := []) (by decide +kernel) (fun k q => by cases q) rfl ?_
            refine y_same (i := .iload_n 2) (len := 1) (r := (0, 0, 0, 0)) (pc' := 55) (ls' := [some (.inl (some a)), some (zi xi), some (zi y2157)]) (st' := [zi y2157]) (by decide +kernel) (fun k q => by cases q) rfl ?_
            refine y_iF (c := .ne) (off := 5) (len := 3) (r := (0, 0, 0, 0)) (by decide +kernel) (acmpF (c := .ne) (by show _ = _; omega)) ?_
            refine y_ic (c := 1) (len := 1) (r := (0, 0, 0, 0)) (by decide +kernel) (by decide) (fun y2158 hy2158 => ?_)
            refine y_rI (len := 1) (r := (0, 0, 0, 0)) (nL := 3) (k := 2) (n9 := 1) (hs := []) (by decide +kernel) rfl (zfit_b (by omega) (by omega)).2 ?_
            exact ⟨_, Q2156, F2156, Or.inl ⟨by omega, kp_end ⟨⟨t2147, t2150.1⟩, t2150.2⟩ ty2145⟩⟩
          ·
            refine y_iF (c := .eq) (off := 7) (len := 3) (r := (0, 0, 0, 0)) (by decide +kernel) (acmpF (c := .eq) (by show ¬ (_ = _); omega)) ?_
            refine y_ic (c := 1) (len := 1) (r := (0, 0, 0, 0)) (by decide +kernel) (by decide) (fun y2159 hy2159 => ?_)
            refine y_goto (off := 4) (pc' := 53) (len := 3) (r := (0, 0, 0, 0)) (by decide +kernel) (by decide +kernel) ?_
            refine y_same (i := .istore_n 2) (len := 1) (r := (0, 0, 0, 0)) (pc' := 54) (ls' := [some (.inl (some a)), some (zi xi), some (zi y2159)]) (st' := []) (by decide +kernel) (fun k q => by cases q) rfl ?_
            refine y_same (i := .iload_n 2) (len := 1) (r := (0, 0, 0, 0)) (pc' := 55) (ls' := [some (.inl (some a)), some (zi xi), some (zi y2159)]) (st' := [zi y2159]) (by decide +kernel) (fun k q => by cases q) rfl ?_
            refine y_iT (c := .ne) (off := 5) (pc' := 60) (len := 3) (r := (0, 0, 0, 0)) (by decide +kernel) (acmpT (c := .ne) (by show ¬ (_ = _); omega)) (by decide +kernel) ?_
            refine y_inc (j := 1) (a := xi) (c := 1) (ls' := fun v => [some (.inl (some a)), some v, some (zi y2159)]) (len := 3) (r := (0, 0, 0, 0)) (by decide +kernel) rfl (fun _ => rfl) (by decide) (by omega) (by omega) (fun y2160 hy2160 => ?_)
            show qX (d + 4) 84 63 [some (.inl (some a)), some (zi y2160), some (zi y2159)] [] h2156 t _
            refine y_goto (off := (-61)) (pc' := 2) (len := 3) (r := (0, 0, 0, 0)) (by decide +kernel) (by decide +kernel) ?_
            have a3 : at3 s := ⟨⟨t2147, t2150.1⟩, t2150.2⟩
            refine qX_I (mr_b (i := i + 1) (l2 := (some (zi y2159))) Q2156 (kp_nrm a3) (kp_nv ty2145) (by omega) (by omega)) (fun y h1 hR => ?_)
            obtain ⟨s9, Q9, F9, hD⟩ := hR
            exact ⟨s9, Q9, FQ_tr F2156 F9, hD.elim (fun q => Or.inl ⟨q.1, RdY_go ty2145 (kp_st a3) q.2⟩) (fun q => Or.inr ⟨q.1, RdY_go ty2145 (kp_st a3) q.2⟩)⟩
theorem q_rdy {d t a : Nat} {τ : List Nat} {h : zh} {s : sqT} (Q : QC τ h a s) (hm : mq s < 997) : qI (d + 5) 84 [some (.inl (some a)), none, none] h t (fun y h1 => ∃ s', QC τ h1 a s' ∧ FQ a h h1 ∧ ((y.toInt = 1 ∧ RdY s (some s')) ∨ (y.toInt = 0 ∧ RdY s none))) := by
  refine qI_of ?_
  refine y_ic (c := 0) (len := 1) (r := (0, 0, 0, 0)) (by decide +kernel) (by decide) (fun y2161 hy2161 => ?_)
  refine y_same (i := .istore_n 1) (len := 1) (r := (0, 0, 0, 0)) (pc' := 2) (ls' := [some (.inl (some a)), some (zi y2161), none]) (st' := []) (by decide +kernel) (fun k q => by cases q) rfl ?_
  exact mr_l (mq s + 1) h s 0 y2161 none Q (by omega) (by omega) (by omega)
theorem sumL_b : ∀ {L : List it4}, (∀ p ∈ L, okPt p) → sumL L ≤ 60 * L.length
  | [], _ => Nat.le_refl _
  | p :: L, o => by
    have h1 := sumL_b (fun q hq => o q (List.mem_cons_of_mem _ hq))
    have op := (o p List.mem_cons_self).1
    unfold okV at op
    show (p.2.1 + p.2.2.1 + p.2.2.2).toNat + sumL L ≤ 60 * (L.length + 1)
    omega
theorem mq_b {s : sqT} (o : okQ s) (b : ¬ big_ s) : mq s < 997 := by
  have h1 := sumL_b o.1
  have h2 : ¬ 12 < s.1.length := fun q => b (Or.inl q)
  have h3 : ¬ 12 < s.2.1.length := fun q => b (Or.inr (Or.inl q))
  have h4 : ¬ 12 < s.2.2.1.length := fun q => b (Or.inr (Or.inr q))
  unfold mq
  omega
