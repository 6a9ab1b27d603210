/-! where the law's loop begins; FAULT -/
def rfb (o : Option zv) (v : Nat) : Bool := match o with
  | some (.inl (some q)) => Nat.beq q v
  | _ => false
theorem rfb_ok {o : Option zv} {v : Nat} (h : rfb o v = true) : o = some (.inl (some v)) := by
  unfold rfb at h
  split at h
  · rw [Nat.eq_of_beq_eq_true h]
  · cases h
def eqb2 (o o' : Option zv) : Bool := match o, o' with
  | some (.inr (.inl (x, none))), some (.inr (.inl (y, none))) => ieq x.toInt y.toInt
  | _, _ => false
theorem eqb2_ok {o o' : Option zv} (h : eqb2 o o' = true) : ∃ p : Int32, o = some (zi p) ∧ o' = some (zi p) := by
  unfold eqb2 at h
  split at h
  · rename_i x y
    have e : x = y := Int32.toInt_inj.mp (ieq_iff.mp h)
    subst e
    exact ⟨x, rfl, rfl⟩
  · cases h
def ivB (h : zh) : Bool := (rfb (hsl h 15 0) 16 && (rfb (hsl h 16 0) 17 && (rfb (hsl h 16 1) 22 && (rfb (hsl h 17 0) 18 && (rfb (hsl h 17 1) 20 && (rfb (hsl h 22 0) 23 && (rfb (hsl h 22 1) 25 && (rfb (hsl h 18 0) 19 && (rfb (hsl h 20 0) 21 && (rfb (hsl h 23 0) 24 && (rfb (hsl h 25 0) 26))))))))))) && (rfb (hsl h 0 5) 2 && eqb2 (hsl h 0 2) (hsl h 52 5))
theorem ivB_ok {h : zh} (e : ivB h = true) (s1 : ∃ x : Int32, hsl h 0 1 = some (zi x) ∧ x.toInt = 0) (s2 : ∃ x : Int32, hsl h 52 2 = some (zi x) ∧ x.toInt = 0) : IV h 0 := by
  unfold ivB at e
  simp only [Bool.and_eq_true] at e
  obtain ⟨⟨e0, e1, e2, e3, e4, e5, e6, e7, e8, e9, e10⟩, e12, e13⟩ := e
  exact ⟨by omega, rfl, ⟨rfb_ok e0, rfb_ok e1, rfb_ok e2, rfb_ok e3, rfb_ok e4, rfb_ok e5, rfb_ok e6, rfb_ok e7, rfb_ok e8, rfb_ok e9, rfb_ok e10⟩, rfb_ok e12, s1, s2, fun j hj => absurd hj (Nat.not_lt_zero j), eqb2_ok e13⟩
noncomputable def mkAll4 : Bool := match mkA with
  | some h1 => (match mkB h1 with
    | some h2 => ivB (h2 ++ [outC])
    | none => false)
  | none => false
theorem mkAll4_ok : mkAll4 = true := by decide +kernel
theorem law_start4 {scr : List zv} {P : zo × zh × Nat → Prop} (k : ∀ (h : zh) (y : Int32), hG atau h → IV h 0 → y.toInt = 0 → qL scr 60 289 23 [some (.inl (some 1000000)), some (.inl (some 0)), some (.inl (some 52)), some (.inl (some 388)), some (zi y), none, none] [] h 0 P) : qL scr 60 289 0 [some (.inl (some 1000000)), none, none, none, none, none, none] [] [] 0 P := by
  have hA := mkAll_ok
  unfold mkAll at hA
  have hB := mkAll4_ok
  unfold mkAll4 at hB
  cases h1 : mkA with
  | none => rw [h1] at hA; cases hA
  | some g1 =>
    rw [h1] at hA hB
    simp only at hA hB
    cases h2 : mkB g1 with
    | none => rw [h2] at hA; cases hA
    | some g2 =>
      rw [h2] at hA hB
      simp only at hA hB
      obtain ⟨hg, s1, s2⟩ := staB_ok hA
      have iv := ivB_ok hB s1 s2
      have e1 : qE 60 131 [some (.inl (some 0))] [.inr (11, k11.map zdef)] 0 (.inl none, g1, 0) ∧ g1.length = 52 := by
        unfold mkA at h1
        split at h1
        · rename_i h9 e9
          cases hb : Nat.beq h9.length 52 with
          | false => rw [hb] at h1; cases h1
          | true =>
            rw [hb] at h1
            cases h1
            exact ⟨qE_le (by decide) (qE_ev e9), Nat.eq_of_beq_eq_true hb⟩
        · cases h1
      have e2 : qE 60 159 [some (.inl (some 52))] (g1 ++ [.inr (12, k12.map zdef)]) 0 (.inl none, g2, 0) ∧ g2.length = 388 := by
        unfold mkB at h2
        split at h2
        · rename_i h9 e9
          cases hb : Nat.beq h9.length 388 with
          | false => rw [hb] at h2; cases h2
          | true =>
            rw [hb] at h2
            cases h2
            exact ⟨qE_le (by decide) (qE_ev e9), Nat.eq_of_beq_eq_true hb⟩
        · cases h2
      obtain ⟨e1, l1⟩ := e1
      obtain ⟨e2, l2⟩ := e2
      obtain ⟨x, kx, hP⟩ := k (g2 ++ [outC]) (Int32.ofInt 0) hg iv (by decide)
      refine ⟨x, ?_, hP⟩
      refine x_new (j := 8) (ci := 11) (ks := k11) (len := 3) (r := (11, 137, 138, 111)) (by decide +kernel) rfl rfl (by decide) rfl ?_
      refine x_same (i := .dup) (len := 1) (r := (0, 0, 0, 0)) (pc' := 4) (by decide +kernel) (fun k q => by cases q) rfl ?_
      refine qF_call (i := .invokespecial 56) (len := 3) (r := (2, 131, 11, 139)) (nL := 1) (k := 0) (n := 1) (hs := []) (args := [.inl (some 0)]) (rest := [.inl (some 0)]) (l0 := [some (.inl (some 0))]) (by decide +kernel) (Or.inr (Or.inr ⟨_, rfl⟩)) rfl rfl rfl rfl (Nat.le_of_ble_eq_true rfl) rfl rfl e1 (qB_void ?_)
      refine x_same (i := .astore_n 1) (len := 1) (r := (0, 0, 0, 0)) (pc' := 8) (ls' := [some (.inl (some 1000000)), some (.inl (some 0)), none, none, none, none, none]) (st' := []) (by decide +kernel) (fun k q => by cases q) rfl ?_
      refine x_new (j := 57) (ci := 12) (ks := k12) (len := 3) (r := (12, 1320, 1321, 121)) (by decide +kernel) rfl rfl (by omega) rfl ?_
      rw [l1]
      refine x_same (i := .dup) (len := 1) (r := (0, 0, 0, 0)) (pc' := 12) (by decide +kernel) (fun k q => by cases q) rfl ?_
      refine qF_call (i := .invokespecial 59) (len := 3) (r := (2, 159, 12, 1322)) (nL := 1) (k := 0) (n := 1) (hs := []) (args := [.inl (some 52)]) (rest := [.inl (some 52)]) (l0 := [some (.inl (some 52))]) (by decide +kernel) (Or.inr (Or.inr ⟨_, rfl⟩)) rfl rfl rfl rfl (Nat.le_of_ble_eq_true rfl) rfl rfl e2 (qB_void ?_)
      refine x_same (i := .astore_n 2) (len := 1) (r := (0, 0, 0, 0)) (pc' := 16) (ls' := [some (.inl (some 1000000)), some (.inl (some 0)), some (.inl (some 52)), none, none, none, none]) (st' := []) (by decide +kernel) (fun k q => by cases q) rfl ?_
      refine x_iconst (n := 1) (len := 1) (r := (0, 0, 0, 0)) (by decide +kernel) ?_
      refine x_newlong (ty := .long) (len := 2) (r := (2, 1871, 0, 0)) (by decide +kernel) rfl (by decide) (by omega) ?_
      rw [l2]
      refine x_same (i := .astore_n 3) (len := 1) (r := (0, 0, 0, 0)) (pc' := 20) (ls' := [some (.inl (some 1000000)), some (.inl (some 0)), some (.inl (some 52)), some (.inl (some 388)), none, none, none]) (st' := []) (by decide +kernel) (fun k q => by cases q) rfl ?_
      refine x_iconst (n := 0) (len := 1) (r := (0, 0, 0, 0)) (by decide +kernel) ?_
      refine x_same (i := .istore 4) (len := 2) (r := (0, 0, 0, 0)) (pc' := 23) (ls' := [some (.inl (some 1000000)), some (.inl (some 0)), some (.inl (some 52)), some (.inl (some 388)), some (zi (Int32.ofInt 0)), none, none]) (st' := []) (by decide +kernel) (fun k q => by cases q) rfl ?_
      exact kx
theorem lq_c {t : Nat} {τ : List Nat} {h : zh} {p : Int32} (hg : hG τ h) (hp : hsl h 0 2 = some (zi p)) : qI 60 134 [some (.inl (some 0))] h t (fun y h1 => h = h1 ∧ p = y) := by
  refine qI_of ?_
  refine y_same (i := .aload_n 0) (len := 1) (r := (0, 0, 0, 0)) (pc' := 1) (ls' := [some (.inl (some 0))]) (st' := [.inl (some 0)]) (by decide +kernel) (fun k q => by cases q) rfl ?_
  refine y_get (j := 17) (len := 3) (r := (11, 2, 0, 401)) (by decide +kernel) hg (tv0 hg) aw0 rfl rfl hp ?_
  refine y_rI (len := 1) (r := (0, 0, 0, 0)) (nL := 1) (k := 1) (n9 := 1) (hs := []) (by decide +kernel) rfl rfl ?_
  exact ⟨rfl, rfl⟩
theorem lq_m {t : Nat} {τ : List Nat} {h : zh} {p : Int32} (hg : hG τ h) (hp : hsl h 52 5 = some (zi p)) : qI 60 184 [some (.inl (some 52))] h t (fun y h1 => p = y ∧ ∃ τ1, hG τ1 h1 ∧ kpC h h1 ∧ kpM h h1) := by
  refine qI_of ?_
  refine y_same (i := .aload_n 0) (len := 1) (r := (0, 0, 0, 0)) (pc' := 1) (ls' := [some (.inl (some 52))]) (st' := [.inl (some 52)]) (by decide +kernel) (fun k q => by cases q) rfl ?_
  refine y_ic (c := 0) (len := 1) (r := (0, 0, 0, 0)) (by decide +kernel) (by decide) (fun y1434 hy1434 => ?_)
  refine y_put (j := 92) (lo := (-2147483648)) (hi := 2147483647) (len := 3) (r := (12, 0, 0, 1328)) (by decide +kernel) hg (t52 hg) at52 rfl rfl (by decide) rfl (qin_full _).1 (qin_full _).2 rfl (fun h1435 hg1435 hl1435 hs1435 ho1435 => ?_)
  have ho1435 : hO 52 0 h h1435 := ho1435
  have hs1435 : hsl h1435 52 0 = some (zi y1434) := hs1435
  refine y_same (i := .aload_n 0) (len := 1) (r := (0, 0, 0, 0)) (pc' := 6) (ls' := [some (.inl (some 52))]) (st' := [.inl (some 52)]) (by decide +kernel) (fun k q => by cases q) rfl ?_
  have hv1436 := (ho1435 52 5 (Or.inr (by omega))).trans hp
  refine y_get (j := 13) (len := 3) (r := (12, 5, 0, 1333)) (by decide +kernel) hg1435 (t52 hg1435) at52 rfl rfl hv1436 ?_
  refine y_rI (len := 1) (r := (0, 0, 0, 0)) (nL := 1) (k := 1) (n9 := 1) (hs := []) (by decide +kernel) rfl rfl ?_
  exact ⟨rfl, _, hg1435, ⟨fun j => (ho1435 1 j (Or.inl (by omega))), (ho1435 0 1 (Or.inl (by omega))), (ho1435 0 2 (Or.inl (by omega))), fun al => ⟨(ho1435 15 0 (Or.inl (by omega))).trans al.1, (ho1435 16 0 (Or.inl (by omega))).trans al.2.1, (ho1435 16 1 (Or.inl (by omega))).trans al.2.2.1, (ho1435 17 0 (Or.inl (by omega))).trans al.2.2.2.1, (ho1435 17 1 (Or.inl (by omega))).trans al.2.2.2.2.1, (ho1435 22 0 (Or.inl (by omega))).trans al.2.2.2.2.2.1, (ho1435 22 1 (Or.inl (by omega))).trans al.2.2.2.2.2.2.1, (ho1435 18 0 (Or.inl (by omega))).trans al.2.2.2.2.2.2.2.1, (ho1435 20 0 (Or.inl (by omega))).trans al.2.2.2.2.2.2.2.2.1, (ho1435 23 0 (Or.inl (by omega))).trans al.2.2.2.2.2.2.2.2.2.1, (ho1435 25 0 (Or.inl (by omega))).trans al.2.2.2.2.2.2.2.2.2.2⟩, (ho1435 0 5 (Or.inl (by omega)))⟩, ⟨fun j => (ho1435 54 j (Or.inl (by omega))), (ho1435 52 2 (Or.inr (by omega))), (ho1435 52 5 (Or.inr (by omega)))⟩⟩
theorem lw_fault {t T : Nat} {τ : List Nat} {h : zh} (hg : hG τ h) (i : IV h T) : ∃ (y : Int32) (h1 : zh) (t1 : Nat), qE 60 134 [some (.inl (some 0))] h t (.inl (some (zi y)), h1, t1) ∧ (t1 ≤ t + 0 ∧ hsl h1 52 5 = some (zi y) ∧ ∃ τ1, hG τ1 h1 ∧ IV h1 T) := by
  obtain ⟨p, p1, p2⟩ := i.2.2.2.2.2.2.2
  obtain ⟨y, h1, e, rfl, rfl⟩ := lq_c (t := t) hg p1
  exact ⟨p, h, t, e, by omega, p2, τ, hg, i⟩
theorem lw_faultM {t T : Nat} {τ : List Nat} {h : zh} {p : Int32} (hg : hG τ h) (i : IV h T) (hp : hsl h 52 5 = some (zi p)) : ∃ (y : Int32) (h1 : zh) (t1 : Nat), qE 60 184 [some (.inl (some 52))] h t (.inl (some (zi y)), h1, t1) ∧ (t1 ≤ t + 0 ∧ y.toInt = p.toInt ∧ ∃ τ1, hG τ1 h1 ∧ IV h1 T) := by
  obtain ⟨y, h1, e, rfl, τ1, g1, c, m⟩ := lq_m (t := t) hg hp
  exact ⟨p, h1, t, e, by omega, rfl, τ1, g1, IV_kp c m i⟩
