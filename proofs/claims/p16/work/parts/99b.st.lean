/-! where the law's loop begins -/
def zb_ (o : Option zv) : Bool := match o with
  | some (.inr (.inl (x, none))) => ieq x.toInt 0
  | _ => false
theorem zb_ok {o : Option zv} (h : zb_ o = true) : ∃ x : Int32, o = some (zi x) ∧ x.toInt = ((0 : Nat) : Int) := by
  unfold zb_ at h
  split at h
  · rename_i x
    exact ⟨x, rfl, ieq_iff.mp h⟩
  · cases h
def ob_ (o : Option zv) : Bool := match o with
  | some (.inr (.inl (x, none))) => ieq x.toInt 1
  | _ => false
theorem ob_ok {o : Option zv} (h : ob_ o = true) : ∃ x : Int32, o = some (zi x) ∧ x.toInt = 1 := by
  unfold ob_ at h
  split at h
  · rename_i x
    exact ⟨x, rfl, ieq_iff.mp h⟩
  · cases h
def nb_ (o : Option zv) : Bool := match o with
  | some (.inl none) => true
  | _ => false
theorem nb_ok {o : Option zv} (h : nb_ o = true) : o = some (.inl none) := by
  unfold nb_ at h
  split at h
  · rfl
  · cases h
def iwB (h : zh) : Bool := ivB h && (((List.range 10).all (fun k => nb_ (hsl h 14 k)) && (List.range 10).all (fun k => rfb (hsl h 57 k) (58 + k))) && ((((List.range 300).all (fun k => nb_ (hsl h 36 k)) && (List.range 300).all (fun k => nb_ (hsl h 29 k))) && ob_ (hsl h 35 0)) && (rfb (hsl h 3 0) 4 && (rfb (hsl h 3 1) 6 && (rfb (hsl h 4 0) 5 && (rfb (hsl h 6 0) 7 && (rfb (hsl h 8 0) 9 && (rfb (hsl h 8 1) 11 && (rfb (hsl h 9 0) 10 && (rfb (hsl h 11 0) 12 && (rfb (hsl h 2 0) 3 && (rfb (hsl h 2 1) 8 && (zb_ (hsl h 4 1) && (zb_ (hsl h 6 1) && (zb_ (hsl h 9 1) && (zb_ (hsl h 11 1) && (zb_ (hsl h 13 1) && (zb_ (hsl h 13 2) && (zb_ (hsl h 55 0) && (zb_ (hsl h 55 1) && (zb_ (hsl h 55 46) && (zb_ (hsl h 55 47) && (zb_ (hsl h 52 12) && (zb_ (hsl h 35 5) && (zb_ (hsl h 52 31) && (zb_ (hsl h 28 5) && (zb_ (hsl h 28 0))))))))))))))))))))))))))))
theorem iwB_ok {h : zh} (e : iwB h = true) (s1 : ∃ x : Int32, hsl h 0 1 = some (zi x) ∧ x.toInt = 0) (s2 : ∃ x : Int32, hsl h 52 2 = some (zi x) ∧ x.toInt = 0) : IZ h := by
  unfold iwB at e
  simp only [Bool.and_eq_true] at e
  obtain ⟨e1, ⟨e2, e3⟩, ⟨⟨e4, e6⟩, e5⟩, r0, r1, r2, r3, r4, r5, r6, r7, r8, r9, z0, z1, z2, z3, z4, z5, z6, z7, z8, z9, z10, z11, z12, z13, z14⟩ := e
  have n36 : ∀ k, k < 300 → hsl h 36 k = some (.inl none) := fun k hk => nb_ok (List.all_eq_true.mp e4 k (List.mem_range.mpr hk))
  have n29 : ∀ k, k < 300 → hsl h 29 k = some (.inl none) := fun k hk => nb_ok (List.all_eq_true.mp e6 k (List.mem_range.mpr hk))
  have n14 : ∀ k, k < 10 → hsl h 14 k = some (.inl none) := fun k hk => nb_ok (List.all_eq_true.mp e2 k (List.mem_range.mpr hk))
  refine ⟨0, (([], []), ([], [])), [], ivB_ok e1 s1 s2, ⟨⟨fun k hk => Or.inl (n14 k hk), fun k k' a hk hk' r _ => ?_⟩, ⟨1, 6, Or.inl ⟨rfl, rfl⟩, ⟨⟨rfb_ok r0, rfb_ok r1, rfb_ok r2, rfb_ok r3⟩, rfb_ok r4, rfb_ok r5, rfb_ok r6, rfb_ok r7⟩, ⟨rfb_ok r8, rfb_ok r9, ⟨⟨(zb_ok z0), fun j i hj => by cases hj⟩, ⟨(zb_ok z1), fun j i hj => by cases hj⟩⟩, ⟨⟨(zb_ok z2), fun j i hj => by cases hj⟩, ⟨(zb_ok z3), fun j i hj => by cases hj⟩⟩⟩⟩, Nat.zero_le _, 0, 0, by omega, rfl, (zb_ok z4), (zb_ok z5), fun j b hj => by cases hj⟩, ⟨⟨⟨(zb_ok z6), (zb_ok z7), fun j i hj => (by cases hj), fun j i hj => (by cases hj)⟩, (zb_ok z8), (zb_ok z9), fun j i hj => (by cases hj), fun j i hj => (by cases hj)⟩, fun k hk => rfb_ok (List.all_eq_true.mp e3 k (List.mem_range.mpr hk)), (zb_ok z10), Nat.zero_le _, fun j b hj => by cases hj⟩, ⟨⟨fun i hi => (by cases hi), fun i hi => (by cases hi)⟩, fun b hb => (by cases hb)⟩, ⟨⟨fun i hi => (by cases hi), fun i hi => (by cases hi)⟩, fun b hb => (by cases hb)⟩, ⟨⟨fun i hi => (by cases hi), fun i hi => (by cases hi)⟩, fun b hb => (by cases hb)⟩, ⟨⟨⟨fun k hk => Or.inl (n29 k hk), fun k k9 a hk hk9 r9 _ => (by have e9 := r9.symm.trans (n29 k hk); cases e9)⟩, ⟨fun k hk => Or.inl (n36 k hk), fun k k9 a hk hk9 r9 _ => (by have e9 := r9.symm.trans (n36 k hk); cases e9)⟩, fun k k9 a hk hk9 r9 _ => (by have e9 := r9.symm.trans (n29 k hk); cases e9), zb_ok z14, ob_ok e5⟩, fun q9 => (c01 (zb_ok z13) q9).elim, fun q9 => (c01 (zb_ok z11) q9).elim⟩, JMx_0 (zb_ok z12)⟩
  have := r.symm.trans (n14 k hk)
  cases this
noncomputable def mkAll5 : Bool := match mkA with
  | some h1 => (match mkB h1 with
    | some h2 => iwB (h2 ++ [outC])
    | none => false)
  | none => false
theorem mkAll5_ok : mkAll5 = true := by decide +kernel
theorem law_start5 {scr : List zv} {P : zo × zh × Nat → Prop} (k : ∀ (h : zh) (y : Int32), hG atau h → IZ h → y.toInt = 0 → qL scr 60 289 23 [some (.inl (some 1000000)), some (.inl (some 0)), some (.inl (some 52)), some (.inl (some 388)), some (zi y), none, none] [] h 0 P) : qL scr 60 289 0 [some (.inl (some 1000000)), none, none, none, none, none, none] [] [] 0 P := by
  have hA := mkAll_ok
  unfold mkAll at hA
  have hB := mkAll5_ok
  unfold mkAll5 at hB
  cases h1 : mkA with
  | none => rw [h1] at hA; cases hA
  | some g1 =>
    rw [h1] at hA hB
    simp only at hA hB
    cases h2 : mkB g1 with
    | none => rw [h2] at hA; cases hA
    | some g2 =>
      rw [h2] at hA hB
      simp only at hA hB
      obtain ⟨hg, s1, s2⟩ := staB_ok hA
      have iv := iwB_ok hB s1 s2
      have e1 : qE 60 131 [some (.inl (some 0))] [.inr (11, k11.map zdef)] 0 (.inl none, g1, 0) ∧ g1.length = 52 := by
        unfold mkA at h1
        split at h1
        · rename_i h9 e9
          cases hb : Nat.beq h9.length 52 with
          | false => rw [hb] at h1; cases h1
          | true =>
            rw [hb] at h1
            cases h1
            exact ⟨qE_le (by decide) (qE_ev e9), Nat.eq_of_beq_eq_true hb⟩
        · cases h1
      have e2 : qE 60 159 [some (.inl (some 52))] (g1 ++ [.inr (12, k12.map zdef)]) 0 (.inl none, g2, 0) ∧ g2.length = 388 := by
        unfold mkB at h2
        split at h2
        · rename_i h9 e9
          cases hb : Nat.beq h9.length 388 with
          | false => rw [hb] at h2; cases h2
          | true =>
            rw [hb] at h2
            cases h2
            exact ⟨qE_le (by decide) (qE_ev e9), Nat.eq_of_beq_eq_true hb⟩
        · cases h2
      obtain ⟨e1, l1⟩ := e1
      obtain ⟨e2, l2⟩ := e2
      obtain ⟨x, kx, hP⟩ := k (g2 ++ [outC]) (Int32.ofInt 0) hg iv (by decide)
      refine ⟨x, ?_, hP⟩
      refine x_new (j := 8) (ci := 11) (ks := k11) (len := 3) (r := (11, 137, 138, 111)) (by decide +kernel) rfl rfl (by decide) rfl ?_
      refine x_same (i := .dup) (len := 1) (r := (0, 0, 0, 0)) (pc' := 4) (by decide +kernel) (fun k q => by cases q) rfl ?_
      refine qF_call (i := .invokespecial 56) (len := 3) (r := (2, 131, 11, 139)) (nL := 1) (k := 0) (n := 1) (hs := []) (args := [.inl (some 0)]) (rest := [.inl (some 0)]) (l0 := [some (.inl (some 0))]) (by decide +kernel) (Or.inr (Or.inr ⟨_, rfl⟩)) rfl rfl rfl rfl (Nat.le_of_ble_eq_true rfl) rfl rfl e1 (qB_void ?_)
      refine x_same (i := .astore_n 1) (len := 1) (r := (0, 0, 0, 0)) (pc' := 8) (ls' := [some (.inl (some 1000000)), some (.inl (some 0)), none, none, none, none, none]) (st' := []) (by decide +kernel) (fun k q => by cases q) rfl ?_
      refine x_new (j := 57) (ci := 12) (ks := k12) (len := 3) (r := (12, 1320, 1321, 121)) (by decide +kernel) rfl rfl (by omega) rfl ?_
      rw [l1]
      refine x_same (i := .dup) (len := 1) (r := (0, 0, 0, 0)) (pc' := 12) (by decide +kernel) (fun k q => by cases q) rfl ?_
      refine qF_call (i := .invokespecial 59) (len := 3) (r := (2, 159, 12, 1322)) (nL := 1) (k := 0) (n := 1) (hs := []) (args := [.inl (some 52)]) (rest := [.inl (some 52)]) (l0 := [some (.inl (some 52))]) (by decide +kernel) (Or.inr (Or.inr ⟨_, rfl⟩)) rfl rfl rfl rfl (Nat.le_of_ble_eq_true rfl) rfl rfl e2 (qB_void ?_)
      refine x_same (i := .astore_n 2) (len := 1) (r := (0, 0, 0, 0)) (pc' := 16) (ls' := [some (.inl (some 1000000)), some (.inl (some 0)), some (.inl (some 52)), none, none, none, none]) (st' := []) (by decide +kernel) (fun k q => by cases q) rfl ?_
      refine x_iconst (n := 1) (len := 1) (r := (0, 0, 0, 0)) (by decide +kernel) ?_
      refine x_newlong (ty := .long) (len := 2) (r := (2, 1871, 0, 0)) (by decide +kernel) rfl (by decide) (by omega) ?_
      rw [l2]
      refine x_same (i := .astore_n 3) (len := 1) (r := (0, 0, 0, 0)) (pc' := 20) (ls' := [some (.inl (some 1000000)), some (.inl (some 0)), some (.inl (some 52)), some (.inl (some 388)), none, none, none]) (st' := []) (by decide +kernel) (fun k q => by cases q) rfl ?_
      refine x_iconst (n := 0) (len := 1) (r := (0, 0, 0, 0)) (by decide +kernel) ?_
      refine x_same (i := .istore 4) (len := 2) (r := (0, 0, 0, 0)) (pc' := 23) (ls' := [some (.inl (some 1000000)), some (.inl (some 0)), some (.inl (some 52)), some (.inl (some 388)), some (zi (Int32.ofInt 0)), none, none]) (st' := []) (by decide +kernel) (fun k q => by cases q) rfl ?_
      exact kx
