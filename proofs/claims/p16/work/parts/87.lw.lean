/-! FEED and TEXT as the law's loop sees them -/
theorem okX4 {m mk : Nat} {c0 c : aK} (h0 : c0 ∈ actb m) (hc : c ∈ ctbX m c0 mk) : cOK aJ mk c := by
  unfold ctbX at hc
  cases hb : Nat.beq mk m with
  | false =>
    rw [hb] at hc
    exact okC hc
  | true =>
    rw [hb] at hc
    have e := Nat.eq_of_beq_eq_true hb
    subst e
    have hc : c ∈ [c0] := hc
    simp only [List.mem_cons, List.not_mem_nil, or_false] at hc
    subst hc
    exact okC h0
def fxC (h h1 : zh) (T : Nat) (a1 a2 a3 a4 a5 : Int32) : Prop := alC h1 ∧ hsl h1 0 5 = hsl h 0 5 ∧ kpM h h1 ∧ hsl h1 0 2 = hsl h 0 2 ∧ ((T = 200 ∧ hsl h1 0 1 = hsl h 0 1 ∧ ∀ j, hsl h1 1 j = hsl h 1 j) ∨ (T + 20 ≤ 200 ∧ (∃ x : Int32, hsl h1 0 1 = some (zi x) ∧ x.toInt = ((T + 20 : Nat) : Int)) ∧ (∀ j, j < T → hsl h1 1 j = hsl h 1 j) ∧ fdC h1 T a1 a2 a3 a4 a5))
def fxM (h h1 : zh) (T : Nat) (a1 a2 a3 a4 a5 : Int32) : Prop := kpC h h1 ∧ hsl h1 52 5 = hsl h 52 5 ∧ ((T = 200 ∧ hsl h1 52 2 = hsl h 52 2 ∧ ∀ j, hsl h1 54 j = hsl h 54 j) ∨ (T + 20 ≤ 200 ∧ (∃ x : Int32, hsl h1 52 2 = some (zi x) ∧ x.toInt = ((T + 20 : Nat) : Int)) ∧ (∀ j, j < T → hsl h1 54 j = hsl h 54 j) ∧ fdM h1 T a1 a2 a3 a4 a5))
theorem lf_c {τ : List Nat} {h : zh} {t T : Nat} {a1 a2 a3 a4 a5 : Int32} (hg : hG τ h) (i : IV h T) : ∃ (y : Int32) (h1 : zh) (t1 : Nat), qE 60 132 [some (.inl (some 0)), some (zi a1), some (zi a2), some (zi a3), some (zi a4), some (zi a5)] h t (.inl (some (zi y)), h1, t1) ∧ t1 ≤ t + 0 ∧ ∃ τ1, hG τ1 h1 ∧ fxC h h1 T a1 a2 a3 a4 a5 := by
  obtain ⟨xT, hT, eT⟩ := i.2.2.2.2.1
  have b1 := i.1
  have b2 := i.2.1
  rcases (show T = 200 ∨ T + 20 ≤ 200 by omega) with rfl | hT2
  · obtain ⟨y, h1, t1, e1, e2, e3, e4, τ1, g1, F, x, s1, s2⟩ := use_T (t := t) (d := 60) (T := 200) 0 (-1) (-1) 0 (okC (mk := 132) (c := ac327) (List.mem_of_getElem? (i := 11) rfl)) rfl hg (show aqsM _ _ [.inl (some 0), zi a1, zi a2, zi a3, zi a4, zi a5] from ⟨aqR (t0 hg), aqI (qin_full _).1 (qin_full _).2, aqI (qin_full _).1 (qin_full _).2, aqI (qin_full _).1 (qin_full _).2, aqI (qin_full _).1 (qin_full _).2, aqI (qin_full _).1 (qin_full _).2, trivial⟩) (l0 := [some (.inl (some 0)), some (zi a1), some (zi a2), some (zi a3), some (zi a4), some (zi a5)]) rfl (by decide) (t0 hg) hT eT (by decide +kernel) (by decide)
    have c := kpC_w hg F (by decide +kernel)
    exact ⟨y, h1, t1, e1, e2, τ1, g1, c.2.2.2.1 i.2.2.1, c.2.2.2.2, kpM_w hg F (by decide +kernel), c.2.2.1, Or.inl ⟨rfl, c.2.1, c.1⟩⟩
  · obtain ⟨y, h1, e, τ1, O, x1, f⟩ := c_feed (t := t) (a1 := a1) (a2 := a2) (a3 := a3) (a4 := a4) (a5 := a5) hg hT eT hT2
    exact ⟨y, h1, t, e, by omega, τ1, O.2.1, ⟨(O.2.2 15 15 0 (tv15 hg) (show (15 ≠ 0 ∨ 0 ≠ 1) ∧ (15 ≠ 1 ∨ 0 < T ∨ T + 20 ≤ 0) by omega)).trans i.2.2.1.1, (O.2.2 16 1000 0 (tv16 hg) (show (16 ≠ 0 ∨ 0 ≠ 1) ∧ (16 ≠ 1 ∨ 0 < T ∨ T + 20 ≤ 0) by omega)).trans i.2.2.1.2.1, (O.2.2 16 1000 1 (tv16 hg) (show (16 ≠ 0 ∨ 1 ≠ 1) ∧ (16 ≠ 1 ∨ 1 < T ∨ T + 20 ≤ 1) by omega)).trans i.2.2.1.2.2.1, (O.2.2 17 1001 0 (tv17 hg) (show (17 ≠ 0 ∨ 0 ≠ 1) ∧ (17 ≠ 1 ∨ 0 < T ∨ T + 20 ≤ 0) by omega)).trans i.2.2.1.2.2.2.1, (O.2.2 17 1001 1 (tv17 hg) (show (17 ≠ 0 ∨ 1 ≠ 1) ∧ (17 ≠ 1 ∨ 1 < T ∨ T + 20 ≤ 1) by omega)).trans i.2.2.1.2.2.2.2.1, (O.2.2 22 1001 0 (tv22 hg) (show (22 ≠ 0 ∨ 0 ≠ 1) ∧ (22 ≠ 1 ∨ 0 < T ∨ T + 20 ≤ 0) by omega)).trans i.2.2.1.2.2.2.2.2.1, (O.2.2 22 1001 1 (tv22 hg) (show (22 ≠ 0 ∨ 1 ≠ 1) ∧ (22 ≠ 1 ∨ 1 < T ∨ T + 20 ≤ 1) by omega)).trans i.2.2.1.2.2.2.2.2.2.1, (O.2.2 18 1002 0 (tv18 hg) (show (18 ≠ 0 ∨ 0 ≠ 1) ∧ (18 ≠ 1 ∨ 0 < T ∨ T + 20 ≤ 0) by omega)).trans i.2.2.1.2.2.2.2.2.2.2.1, (O.2.2 20 1003 0 (tv20 hg) (show (20 ≠ 0 ∨ 0 ≠ 1) ∧ (20 ≠ 1 ∨ 0 < T ∨ T + 20 ≤ 0) by omega)).trans i.2.2.1.2.2.2.2.2.2.2.2.1, (O.2.2 23 1002 0 (tv23 hg) (show (23 ≠ 0 ∨ 0 ≠ 1) ∧ (23 ≠ 1 ∨ 0 < T ∨ T + 20 ≤ 0) by omega)).trans i.2.2.1.2.2.2.2.2.2.2.2.2.1, (O.2.2 25 1003 0 (tv25 hg) (show (25 ≠ 0 ∨ 0 ≠ 1) ∧ (25 ≠ 1 ∨ 0 < T ∨ T + 20 ≤ 0) by omega)).trans i.2.2.1.2.2.2.2.2.2.2.2.2.2⟩, O.2.2 0 0 5 (tv0 hg) (show (0 ≠ 0 ∨ 5 ≠ 1) ∧ (0 ≠ 1 ∨ 5 < T ∨ T + 20 ≤ 5) by omega), ⟨fun j => O.2.2 54 54 j (tu54 hg) (show (54 ≠ 0 ∨ j ≠ 1) ∧ (54 ≠ 1 ∨ j < T ∨ T + 20 ≤ j) by omega), O.2.2 52 52 2 (t52 hg) (show (52 ≠ 0 ∨ 2 ≠ 1) ∧ (52 ≠ 1 ∨ 2 < T ∨ T + 20 ≤ 2) by omega), O.2.2 52 52 5 (t52 hg) (show (52 ≠ 0 ∨ 5 ≠ 1) ∧ (52 ≠ 1 ∨ 5 < T ∨ T + 20 ≤ 5) by omega)⟩, O.2.2 0 0 2 (tv0 hg) (show (0 ≠ 0 ∨ 2 ≠ 1) ∧ (0 ≠ 1 ∨ 2 < T ∨ T + 20 ≤ 2) by omega), Or.inr ⟨hT2, x1, fun j hj => O.2.2 1 1 j (tv1 hg) (show (1 ≠ 0 ∨ j ≠ 1) ∧ (1 ≠ 1 ∨ j < T ∨ T + 20 ≤ j) by omega), f⟩⟩
theorem lf_m {τ : List Nat} {h : zh} {t T : Nat} {xT a1 a2 a3 a4 a5 : Int32} (hg : hG τ h) (b1 : T ≤ 200) (b2 : T % 20 = 0) (hT : hsl h 52 2 = some (zi xT)) (eT : xT.toInt = (T : Int)) : ∃ (y : Int32) (h1 : zh) (t1 : Nat), qE 60 165 [some (.inl (some 52)), some (zi a1), some (zi a2), some (zi a3), some (zi a4), some (zi a5), none, none] h t (.inl (some (zi y)), h1, t1) ∧ t1 ≤ t + 0 ∧ ∃ τ1, hG τ1 h1 ∧ fxM h h1 T a1 a2 a3 a4 a5 := by
  rcases (show T = 200 ∨ T + 20 ≤ 200 by omega) with rfl | hT2
  · obtain ⟨y, h1, t1, e1, e2, e3, e4, τ1, g1, F, x, s1, s2⟩ := use_T (t := t) (d := 60) (T := 200) 0 (-1) (-1) 0 (okC (mk := 165) (c := ac371) (List.mem_of_getElem? (i := 11) rfl)) rfl hg (show aqsM _ _ [.inl (some 52), zi a1, zi a2, zi a3, zi a4, zi a5] from ⟨aqR (t52 hg), aqI (qin_full _).1 (qin_full _).2, aqI (qin_full _).1 (qin_full _).2, aqI (qin_full _).1 (qin_full _).2, aqI (qin_full _).1 (qin_full _).2, aqI (qin_full _).1 (qin_full _).2, trivial⟩) (l0 := [some (.inl (some 52)), some (zi a1), some (zi a2), some (zi a3), some (zi a4), some (zi a5), none, none]) rfl (by decide) (t52 hg) hT eT (by decide +kernel) (by decide)
    have m := kpM_w hg F (by decide +kernel)
    exact ⟨y, h1, t1, e1, e2, τ1, g1, kpC_w hg F (by decide +kernel), m.2.2, Or.inl ⟨rfl, m.2.1, m.1⟩⟩
  · obtain ⟨y, h1, e, τ1, O, x1, f⟩ := m_feed (t := t) (a1 := a1) (a2 := a2) (a3 := a3) (a4 := a4) (a5 := a5) hg hT eT hT2
    exact ⟨y, h1, t, e, by omega, τ1, O.2.1, ⟨fun j => O.2.2 1 1 j (tv1 hg) (show (1 ≠ 52 ∨ (j ≠ 0 ∧ j ≠ 2)) ∧ (1 ≠ 54 ∨ j < T ∨ T + 20 ≤ j) by omega), O.2.2 0 0 1 (tv0 hg) (show (0 ≠ 52 ∨ (1 ≠ 0 ∧ 1 ≠ 2)) ∧ (0 ≠ 54 ∨ 1 < T ∨ T + 20 ≤ 1) by omega), O.2.2 0 0 2 (tv0 hg) (show (0 ≠ 52 ∨ (2 ≠ 0 ∧ 2 ≠ 2)) ∧ (0 ≠ 54 ∨ 2 < T ∨ T + 20 ≤ 2) by omega), fun al => ⟨(O.2.2 15 15 0 (tv15 hg) (show (15 ≠ 52 ∨ (0 ≠ 0 ∧ 0 ≠ 2)) ∧ (15 ≠ 54 ∨ 0 < T ∨ T + 20 ≤ 0) by omega)).trans al.1, (O.2.2 16 1000 0 (tv16 hg) (show (16 ≠ 52 ∨ (0 ≠ 0 ∧ 0 ≠ 2)) ∧ (16 ≠ 54 ∨ 0 < T ∨ T + 20 ≤ 0) by omega)).trans al.2.1, (O.2.2 16 1000 1 (tv16 hg) (show (16 ≠ 52 ∨ (1 ≠ 0 ∧ 1 ≠ 2)) ∧ (16 ≠ 54 ∨ 1 < T ∨ T + 20 ≤ 1) by omega)).trans al.2.2.1, (O.2.2 17 1001 0 (tv17 hg) (show (17 ≠ 52 ∨ (0 ≠ 0 ∧ 0 ≠ 2)) ∧ (17 ≠ 54 ∨ 0 < T ∨ T + 20 ≤ 0) by omega)).trans al.2.2.2.1, (O.2.2 17 1001 1 (tv17 hg) (show (17 ≠ 52 ∨ (1 ≠ 0 ∧ 1 ≠ 2)) ∧ (17 ≠ 54 ∨ 1 < T ∨ T + 20 ≤ 1) by omega)).trans al.2.2.2.2.1, (O.2.2 22 1001 0 (tv22 hg) (show (22 ≠ 52 ∨ (0 ≠ 0 ∧ 0 ≠ 2)) ∧ (22 ≠ 54 ∨ 0 < T ∨ T + 20 ≤ 0) by omega)).trans al.2.2.2.2.2.1, (O.2.2 22 1001 1 (tv22 hg) (show (22 ≠ 52 ∨ (1 ≠ 0 ∧ 1 ≠ 2)) ∧ (22 ≠ 54 ∨ 1 < T ∨ T + 20 ≤ 1) by omega)).trans al.2.2.2.2.2.2.1, (O.2.2 18 1002 0 (tv18 hg) (show (18 ≠ 52 ∨ (0 ≠ 0 ∧ 0 ≠ 2)) ∧ (18 ≠ 54 ∨ 0 < T ∨ T + 20 ≤ 0) by omega)).trans al.2.2.2.2.2.2.2.1, (O.2.2 20 1003 0 (tv20 hg) (show (20 ≠ 52 ∨ (0 ≠ 0 ∧ 0 ≠ 2)) ∧ (20 ≠ 54 ∨ 0 < T ∨ T + 20 ≤ 0) by omega)).trans al.2.2.2.2.2.2.2.2.1, (O.2.2 23 1002 0 (tv23 hg) (show (23 ≠ 52 ∨ (0 ≠ 0 ∧ 0 ≠ 2)) ∧ (23 ≠ 54 ∨ 0 < T ∨ T + 20 ≤ 0) by omega)).trans al.2.2.2.2.2.2.2.2.2.1, (O.2.2 25 1003 0 (tv25 hg) (show (25 ≠ 52 ∨ (0 ≠ 0 ∧ 0 ≠ 2)) ∧ (25 ≠ 54 ∨ 0 < T ∨ T + 20 ≤ 0) by omega)).trans al.2.2.2.2.2.2.2.2.2.2⟩, O.2.2 0 0 5 (tv0 hg) (show (0 ≠ 52 ∨ (5 ≠ 0 ∧ 5 ≠ 2)) ∧ (0 ≠ 54 ∨ 5 < T ∨ T + 20 ≤ 5) by omega)⟩, O.2.2 52 52 5 (t52 hg) (show (52 ≠ 52 ∨ (5 ≠ 0 ∧ 5 ≠ 2)) ∧ (52 ≠ 54 ∨ 5 < T ∨ T + 20 ≤ 5) by omega), Or.inr ⟨hT2, x1, fun j hj => O.2.2 54 54 j (tu54 hg) (show (54 ≠ 52 ∨ (j ≠ 0 ∧ j ≠ 2)) ∧ (54 ≠ 54 ∨ j < T ∨ T + 20 ≤ j) by omega), f⟩⟩
theorem IV_feed {h h1 h2 : zh} {T : Nat} {a1 a2 a3 a4 a5 : Int32} (i : IV h T) (c : fxC h h1 T a1 a2 a3 a4 a5) (m : fxM h1 h2 T a1 a2 a3 a4 a5) : ∃ T', IV h2 T' := by
  obtain ⟨i1, i2, i3, i4, ⟨x, i5, i6⟩, ⟨y, i7, i8⟩, i9, p, i10, i11⟩ := i
  obtain ⟨c1, c2, ⟨k1, k2, k3⟩, c3, c4⟩ := c
  obtain ⟨⟨n1, n2, n3, n4, n5⟩, m2, m3⟩ := m
  rcases c4 with ⟨r1, r2, r3⟩ | ⟨r1, ⟨xr, r2, r3⟩, r4, r5⟩
  · rcases m3 with ⟨s1, s2, s3⟩ | ⟨s1, -⟩
    · refine ⟨T, i1, i2, n4 c1, n5.trans (c2.trans i4), ⟨x, n2.trans (r2.trans i5), i6⟩, ⟨y, s2.trans (k2.trans i7), i8⟩, fun j hj => ?_, p, n3.trans (c3.trans i10), m2.trans (k3.trans i11)⟩
      obtain ⟨z, q1, q2⟩ := i9 j hj
      exact ⟨z, (n1 j).trans ((r3 j).trans q1), (s3 j).trans ((k1 j).trans q2)⟩
    · omega
  · rcases m3 with ⟨s1, -⟩ | ⟨s1, ⟨xs, s2, s3⟩, s4, s5⟩
    · omega
    · refine ⟨T + 20, by omega, by omega, n4 c1, n5.trans (c2.trans i4), ⟨xr, n2.trans r2, r3⟩, ⟨xs, s2, s3⟩, fun j hj => ?_, p, n3.trans (c3.trans i10), m2.trans (k3.trans i11)⟩
      rcases Nat.lt_or_ge j T with hj1 | hj1
      · obtain ⟨z, q1, q2⟩ := i9 j hj1
        exact ⟨z, (n1 j).trans ((r4 j hj1).trans q1), (s4 j hj1).trans ((k1 j).trans q2)⟩
      · obtain ⟨p0, p1, p2, p3, p4, p5, p6, p7, p8, p9, p10, p11, p12, p13, p14, p15, p16, p17, p18, p19⟩ := r5
        obtain ⟨q0, q1, q2, q3, q4, q5, q6, q7, q8, q9, q10, q11, q12, q13, q14, q15, q16, q17, q18, q19⟩ := s5
        rcases (show j = T ∨ j = T + 1 ∨ j = T + 2 ∨ j = T + 3 ∨ j = T + 4 ∨ j = T + 5 ∨ j = T + 6 ∨ j = T + 7 ∨ j = T + 8 ∨ j = T + 9 ∨ j = T + 10 ∨ j = T + 11 ∨ j = T + 12 ∨ j = T + 13 ∨ j = T + 14 ∨ j = T + 15 ∨ j = T + 16 ∨ j = T + 17 ∨ j = T + 18 ∨ j = T + 19 by omega) with rfl | rfl | rfl | rfl | rfl | rfl | rfl | rfl | rfl | rfl | rfl | rfl | rfl | rfl | rfl | rfl | rfl | rfl | rfl | rfl
        · exact ⟨_, (n1 _).trans p0, q0⟩
        · exact ⟨_, (n1 _).trans p1, q1⟩
        · exact ⟨_, (n1 _).trans p2, q2⟩
        · exact ⟨_, (n1 _).trans p3, q3⟩
        · exact ⟨_, (n1 _).trans p4, q4⟩
        · exact ⟨_, (n1 _).trans p5, q5⟩
        · exact ⟨_, (n1 _).trans p6, q6⟩
        · exact ⟨_, (n1 _).trans p7, q7⟩
        · exact ⟨_, (n1 _).trans p8, q8⟩
        · exact ⟨_, (n1 _).trans p9, q9⟩
        · exact ⟨_, (n1 _).trans p10, q10⟩
        · exact ⟨_, (n1 _).trans p11, q11⟩
        · exact ⟨_, (n1 _).trans p12, q12⟩
        · exact ⟨_, (n1 _).trans p13, q13⟩
        · exact ⟨_, (n1 _).trans p14, q14⟩
        · exact ⟨_, (n1 _).trans p15, q15⟩
        · exact ⟨_, (n1 _).trans p16, q16⟩
        · exact ⟨_, (n1 _).trans p17, q17⟩
        · exact ⟨_, (n1 _).trans p18, q18⟩
        · exact ⟨_, (n1 _).trans p19, q19⟩
def tb (h : zh) (j : Nat) : Int := match hsl h 1 j with
  | some (.inr (.inl (x, none))) => x.toInt
  | _ => 0
theorem tb_of {h : zh} {j : Nat} {x : Int32} (e : hsl h 1 j = some (zi x)) : tb h j = x.toInt := by
  unfold tb
  rw [e]
  rfl
def txC (h h1 : zh) (T : Nat) (xn : Int32) : Prop := kpM h h1 ∧ (((xn.toInt < 0 ∨ (T : Int) < xn.toInt) ∧ kpC h h1) ∨ (∃ n : Nat, xn.toInt = (n : Int) ∧ n ≤ T ∧ alC h1 ∧ hsl h1 0 5 = hsl h 0 5 ∧ (∃ x : Int32, hsl h1 0 1 = some (zi x) ∧ x.toInt = 0) ∧ ∃ x : Int32, hsl h1 0 2 = some (zi x) ∧ x.toInt = flV (wAll (tb h) n)))
def txM (h h1 h2 : zh) (T : Nat) (xn : Int32) : Prop := kpC h1 h2 ∧ (((xn.toInt < 0 ∨ (T : Int) < xn.toInt) ∧ kpM h1 h2) ∨ (∃ n : Nat, xn.toInt = (n : Int) ∧ n ≤ T ∧ (∃ x : Int32, hsl h2 52 2 = some (zi x) ∧ x.toInt = 0) ∧ ∃ x : Int32, hsl h2 52 5 = some (zi x) ∧ x.toInt = flV (wAll (tb h) n)))
theorem lo_c {τ : List Nat} {h : zh} {t T : Nat} {xT xn : Int32} (hg : hG τ h) (hs : hsl h 0 1 = some (zi xT)) (hx : xT.toInt = (T : Int)) (b1 : T ≤ 200) (b2 : T % 20 = 0) (ho : xn.toInt < 0 ∨ (T : Int) < xn.toInt) : ∃ (y : Int32) (h1 : zh) (t1 : Nat), qE 60 276 [some (.inl (some 0)), some (zi xn), some (.inl (some 388)), none] h t (.inl (some (zi y)), h1, t1) ∧ t1 ≤ t + 1 ∧ ∃ τ1, hG τ1 h1 ∧ kpC h h1 ∧ kpM h h1 := by
  rcases (show T = 0 ∨ T = 20 ∨ T = 40 ∨ T = 60 ∨ T = 80 ∨ T = 100 ∨ T = 120 ∨ T = 140 ∨ T = 160 ∨ T = 180 ∨ T = 200 by omega) with rfl | rfl | rfl | rfl | rfl | rfl | rfl | rfl | rfl | rfl | rfl
  · rcases (show xn.toInt < 0 ∨ 0 < xn.toInt by omega) with q | q
    · obtain ⟨y, h1, t1, e1, e2, e3, e4, τ1, g1, F, x, s1, s2⟩ := use_T (t := t) (d := 60) (T := 0) 1 (-2147483648) 2147483647 0 (achk_ok (ctb := ctbX 133 ac288) aJ_ok lk12 (fun mk c' h1 _ => okX4 (List.mem_of_getElem? (i := 1) rfl) h1)) rfl hg (show aqsM _ _ [.inl (some 0), zi xn, .inl (some 388)] from ⟨aqR (t0 hg), aqI (qin_full _).1 (by omega), aqR (t388 hg), trivial⟩) (l0 := [some (.inl (some 0)), some (zi xn), some (.inl (some 388)), none]) rfl (by decide) (t0 hg) hs hx (by decide +kernel) (by decide)
      exact ⟨y, h1, t1, e1, e2, τ1, g1, kpC_w hg F (by decide +kernel), kpM_w hg F (by decide +kernel)⟩
    · obtain ⟨y, h1, t1, e1, e2, e3, e4, τ1, g1, F, x, s1, s2⟩ := use_T (t := t) (d := 60) (T := 0) 1 (-2147483648) 2147483647 0 (achk_ok (ctb := ctbX 133 ac290) aJ_ok lk14 (fun mk c' h1 _ => okX4 (List.mem_of_getElem? (i := 3) rfl) h1)) rfl hg (show aqsM _ _ [.inl (some 0), zi xn, .inl (some 388)] from ⟨aqR (t0 hg), aqI (by omega) (qin_full _).2, aqR (t388 hg), trivial⟩) (l0 := [some (.inl (some 0)), some (zi xn), some (.inl (some 388)), none]) rfl (by decide) (t0 hg) hs hx (by decide +kernel) (by decide)
      exact ⟨y, h1, t1, e1, e2, τ1, g1, kpC_w hg F (by decide +kernel), kpM_w hg F (by decide +kernel)⟩
  · rcases (show xn.toInt < 0 ∨ 20 < xn.toInt by omega) with q | q
    · obtain ⟨y, h1, t1, e1, e2, e3, e4, τ1, g1, F, x, s1, s2⟩ := use_T (t := t) (d := 60) (T := 20) 1 (-2147483648) 2147483647 0 (achk_ok (ctb := ctbX 133 ac292) aJ_ok lk15 (fun mk c' h1 _ => okX4 (List.mem_of_getElem? (i := 4) rfl) h1)) rfl hg (show aqsM _ _ [.inl (some 0), zi xn, .inl (some 388)] from ⟨aqR (t0 hg), aqI (qin_full _).1 (by omega), aqR (t388 hg), trivial⟩) (l0 := [some (.inl (some 0)), some (zi xn), some (.inl (some 388)), none]) rfl (by decide) (t0 hg) hs hx (by decide +kernel) (by decide)
      exact ⟨y, h1, t1, e1, e2, τ1, g1, kpC_w hg F (by decide +kernel), kpM_w hg F (by decide +kernel)⟩
    · obtain ⟨y, h1, t1, e1, e2, e3, e4, τ1, g1, F, x, s1, s2⟩ := use_T (t := t) (d := 60) (T := 20) 1 (-2147483648) 2147483647 0 (achk_ok (ctb := ctbX 133 ac294) aJ_ok lk17 (fun mk c' h1 _ => okX4 (List.mem_of_getElem? (i := 6) rfl) h1)) rfl hg (show aqsM _ _ [.inl (some 0), zi xn, .inl (some 388)] from ⟨aqR (t0 hg), aqI (by omega) (qin_full _).2, aqR (t388 hg), trivial⟩) (l0 := [some (.inl (some 0)), some (zi xn), some (.inl (some 388)), none]) rfl (by decide) (t0 hg) hs hx (by decide +kernel) (by decide)
      exact ⟨y, h1, t1, e1, e2, τ1, g1, kpC_w hg F (by decide +kernel), kpM_w hg F (by decide +kernel)⟩
  · rcases (show xn.toInt < 0 ∨ 40 < xn.toInt by omega) with q | q
    · obtain ⟨y, h1, t1, e1, e2, e3, e4, τ1, g1, F, x, s1, s2⟩ := use_T (t := t) (d := 60) (T := 40) 1 (-2147483648) 2147483647 0 (achk_ok (ctb := ctbX 133 ac296) aJ_ok lk18 (fun mk c' h1 _ => okX4 (List.mem_of_getElem? (i := 7) rfl) h1)) rfl hg (show aqsM _ _ [.inl (some 0), zi xn, .inl (some 388)] from ⟨aqR (t0 hg), aqI (qin_full _).1 (by omega), aqR (t388 hg), trivial⟩) (l0 := [some (.inl (some 0)), some (zi xn), some (.inl (some 388)), none]) rfl (by decide) (t0 hg) hs hx (by decide +kernel) (by decide)
      exact ⟨y, h1, t1, e1, e2, τ1, g1, kpC_w hg F (by decide +kernel), kpM_w hg F (by decide +kernel)⟩
    · obtain ⟨y, h1, t1, e1, e2, e3, e4, τ1, g1, F, x, s1, s2⟩ := use_T (t := t) (d := 60) (T := 40) 1 (-2147483648) 2147483647 0 (achk_ok (ctb := ctbX 133 ac298) aJ_ok lk20 (fun mk c' h1 _ => okX4 (List.mem_of_getElem? (i := 9) rfl) h1)) rfl hg (show aqsM _ _ [.inl (some 0), zi xn, .inl (some 388)] from ⟨aqR (t0 hg), aqI (by omega) (qin_full _).2, aqR (t388 hg), trivial⟩) (l0 := [some (.inl (some 0)), some (zi xn), some (.inl (some 388)), none]) rfl (by decide) (t0 hg) hs hx (by decide +kernel) (by decide)
      exact ⟨y, h1, t1, e1, e2, τ1, g1, kpC_w hg F (by decide +kernel), kpM_w hg F (by decide +kernel)⟩
  · rcases (show xn.toInt < 0 ∨ 60 < xn.toInt by omega) with q | q
    · obtain ⟨y, h1, t1, e1, e2, e3, e4, τ1, g1, F, x, s1, s2⟩ := use_T (t := t) (d := 60) (T := 60) 1 (-2147483648) 2147483647 0 (achk_ok (ctb := ctbX 133 ac300) aJ_ok lk21 (fun mk c' h1 _ => okX4 (List.mem_of_getElem? (i := 10) rfl) h1)) rfl hg (show aqsM _ _ [.inl (some 0), zi xn, .inl (some 388)] from ⟨aqR (t0 hg), aqI (qin_full _).1 (by omega), aqR (t388 hg), trivial⟩) (l0 := [some (.inl (some 0)), some (zi xn), some (.inl (some 388)), none]) rfl (by decide) (t0 hg) hs hx (by decide +kernel) (by decide)
      exact ⟨y, h1, t1, e1, e2, τ1, g1, kpC_w hg F (by decide +kernel), kpM_w hg F (by decide +kernel)⟩
    · obtain ⟨y, h1, t1, e1, e2, e3, e4, τ1, g1, F, x, s1, s2⟩ := use_T (t := t) (d := 60) (T := 60) 1 (-2147483648) 2147483647 0 (achk_ok (ctb := ctbX 133 ac302) aJ_ok lk23 (fun mk c' h1 _ => okX4 (List.mem_of_getElem? (i := 12) rfl) h1)) rfl hg (show aqsM _ _ [.inl (some 0), zi xn, .inl (some 388)] from ⟨aqR (t0 hg), aqI (by omega) (qin_full _).2, aqR (t388 hg), trivial⟩) (l0 := [some (.inl (some 0)), some (zi xn), some (.inl (some 388)), none]) rfl (by decide) (t0 hg) hs hx (by decide +kernel) (by decide)
      exact ⟨y, h1, t1, e1, e2, τ1, g1, kpC_w hg F (by decide +kernel), kpM_w hg F (by decide +kernel)⟩
  · rcases (show xn.toInt < 0 ∨ 80 < xn.toInt by omega) with q | q
    · obtain ⟨y, h1, t1, e1, e2, e3, e4, τ1, g1, F, x, s1, s2⟩ := use_T (t := t) (d := 60) (T := 80) 1 (-2147483648) 2147483647 0 (achk_ok (ctb := ctbX 133 ac304) aJ_ok lk24 (fun mk c' h1 _ => okX4 (List.mem_of_getElem? (i := 13) rfl) h1)) rfl hg (show aqsM _ _ [.inl (some 0), zi xn, .inl (some 388)] from ⟨aqR (t0 hg), aqI (qin_full _).1 (by omega), aqR (t388 hg), trivial⟩) (l0 := [some (.inl (some 0)), some (zi xn), some (.inl (some 388)), none]) rfl (by decide) (t0 hg) hs hx (by decide +kernel) (by decide)
      exact ⟨y, h1, t1, e1, e2, τ1, g1, kpC_w hg F (by decide +kernel), kpM_w hg F (by decide +kernel)⟩
    · obtain ⟨y, h1, t1, e1, e2, e3, e4, τ1, g1, F, x, s1, s2⟩ := use_T (t := t) (d := 60) (T := 80) 1 (-2147483648) 2147483647 0 (achk_ok (ctb := ctbX 133 ac306) aJ_ok lk26 (fun mk c' h1 _ => okX4 (List.mem_of_getElem? (i := 15) rfl) h1)) rfl hg (show aqsM _ _ [.inl (some 0), zi xn, .inl (some 388)] from ⟨aqR (t0 hg), aqI (by omega) (qin_full _).2, aqR (t388 hg), trivial⟩) (l0 := [some (.inl (some 0)), some (zi xn), some (.inl (some 388)), none]) rfl (by decide) (t0 hg) hs hx (by decide +kernel) (by decide)
      exact ⟨y, h1, t1, e1, e2, τ1, g1, kpC_w hg F (by decide +kernel), kpM_w hg F (by decide +kernel)⟩
  · rcases (show xn.toInt < 0 ∨ 100 < xn.toInt by omega) with q | q
    · obtain ⟨y, h1, t1, e1, e2, e3, e4, τ1, g1, F, x, s1, s2⟩ := use_T (t := t) (d := 60) (T := 100) 1 (-2147483648) 2147483647 0 (achk_ok (ctb := ctbX 133 ac308) aJ_ok lk27 (fun mk c' h1 _ => okX4 (List.mem_of_getElem? (i := 16) rfl) h1)) rfl hg (show aqsM _ _ [.inl (some 0), zi xn, .inl (some 388)] from ⟨aqR (t0 hg), aqI (qin_full _).1 (by omega), aqR (t388 hg), trivial⟩) (l0 := [some (.inl (some 0)), some (zi xn), some (.inl (some 388)), none]) rfl (by decide) (t0 hg) hs hx (by decide +kernel) (by decide)
      exact ⟨y, h1, t1, e1, e2, τ1, g1, kpC_w hg F (by decide +kernel), kpM_w hg F (by decide +kernel)⟩
    · obtain ⟨y, h1, t1, e1, e2, e3, e4, τ1, g1, F, x, s1, s2⟩ := use_T (t := t) (d := 60) (T := 100) 1 (-2147483648) 2147483647 0 (achk_ok (ctb := ctbX 133 ac310) aJ_ok lk29 (fun mk c' h1 _ => okX4 (List.mem_of_getElem? (i := 18) rfl) h1)) rfl hg (show aqsM _ _ [.inl (some 0), zi xn, .inl (some 388)] from ⟨aqR (t0 hg), aqI (by omega) (qin_full _).2, aqR (t388 hg), trivial⟩) (l0 := [some (.inl (some 0)), some (zi xn), some (.inl (some 388)), none]) rfl (by decide) (t0 hg) hs hx (by decide +kernel) (by decide)
      exact ⟨y, h1, t1, e1, e2, τ1, g1, kpC_w hg F (by decide +kernel), kpM_w hg F (by decide +kernel)⟩
  · rcases (show xn.toInt < 0 ∨ 120 < xn.toInt by omega) with q | q
    · obtain ⟨y, h1, t1, e1, e2, e3, e4, τ1, g1, F, x, s1, s2⟩ := use_T (t := t) (d := 60) (T := 120) 1 (-2147483648) 2147483647 0 (achk_ok (ctb := ctbX 133 ac312) aJ_ok lk30 (fun mk c' h1 _ => okX4 (List.mem_of_getElem? (i := 19) rfl) h1)) rfl hg (show aqsM _ _ [.inl (some 0), zi xn, .inl (some 388)] from ⟨aqR (t0 hg), aqI (qin_full _).1 (by omega), aqR (t388 hg), trivial⟩) (l0 := [some (.inl (some 0)), some (zi xn), some (.inl (some 388)), none]) rfl (by decide) (t0 hg) hs hx (by decide +kernel) (by decide)
      exact ⟨y, h1, t1, e1, e2, τ1, g1, kpC_w hg F (by decide +kernel), kpM_w hg F (by decide +kernel)⟩
    · obtain ⟨y, h1, t1, e1, e2, e3, e4, τ1, g1, F, x, s1, s2⟩ := use_T (t := t) (d := 60) (T := 120) 1 (-2147483648) 2147483647 0 (achk_ok (ctb := ctbX 133 ac314) aJ_ok lk32 (fun mk c' h1 _ => okX4 (List.mem_of_getElem? (i := 21) rfl) h1)) rfl hg (show aqsM _ _ [.inl (some 0), zi xn, .inl (some 388)] from ⟨aqR (t0 hg), aqI (by omega) (qin_full _).2, aqR (t388 hg), trivial⟩) (l0 := [some (.inl (some 0)), some (zi xn), some (.inl (some 388)), none]) rfl (by decide) (t0 hg) hs hx (by decide +kernel) (by decide)
      exact ⟨y, h1, t1, e1, e2, τ1, g1, kpC_w hg F (by decide +kernel), kpM_w hg F (by decide +kernel)⟩
  · rcases (show xn.toInt < 0 ∨ 140 < xn.toInt by omega) with q | q
    · obtain ⟨y, h1, t1, e1, e2, e3, e4, τ1, g1, F, x, s1, s2⟩ := use_T (t := t) (d := 60) (T := 140) 1 (-2147483648) 2147483647 0 (achk_ok (ctb := ctbX 133 ac316) aJ_ok lk33 (fun mk c' h1 _ => okX4 (List.mem_of_getElem? (i := 22) rfl) h1)) rfl hg (show aqsM _ _ [.inl (some 0), zi xn, .inl (some 388)] from ⟨aqR (t0 hg), aqI (qin_full _).1 (by omega), aqR (t388 hg), trivial⟩) (l0 := [some (.inl (some 0)), some (zi xn), some (.inl (some 388)), none]) rfl (by decide) (t0 hg) hs hx (by decide +kernel) (by decide)
      exact ⟨y, h1, t1, e1, e2, τ1, g1, kpC_w hg F (by decide +kernel), kpM_w hg F (by decide +kernel)⟩
    · obtain ⟨y, h1, t1, e1, e2, e3, e4, τ1, g1, F, x, s1, s2⟩ := use_T (t := t) (d := 60) (T := 140) 1 (-2147483648) 2147483647 0 (achk_ok (ctb := ctbX 133 ac318) aJ_ok lk35 (fun mk c' h1 _ => okX4 (List.mem_of_getElem? (i := 24) rfl) h1)) rfl hg (show aqsM _ _ [.inl (some 0), zi xn, .inl (some 388)] from ⟨aqR (t0 hg), aqI (by omega) (qin_full _).2, aqR (t388 hg), trivial⟩) (l0 := [some (.inl (some 0)), some (zi xn), some (.inl (some 388)), none]) rfl (by decide) (t0 hg) hs hx (by decide +kernel) (by decide)
      exact ⟨y, h1, t1, e1, e2, τ1, g1, kpC_w hg F (by decide +kernel), kpM_w hg F (by decide +kernel)⟩
  · rcases (show xn.toInt < 0 ∨ 160 < xn.toInt by omega) with q | q
    · obtain ⟨y, h1, t1, e1, e2, e3, e4, τ1, g1, F, x, s1, s2⟩ := use_T (t := t) (d := 60) (T := 160) 1 (-2147483648) 2147483647 0 (achk_ok (ctb := ctbX 133 ac320) aJ_ok lk36 (fun mk c' h1 _ => okX4 (List.mem_of_getElem? (i := 25) rfl) h1)) rfl hg (show aqsM _ _ [.inl (some 0), zi xn, .inl (some 388)] from ⟨aqR (t0 hg), aqI (qin_full _).1 (by omega), aqR (t388 hg), trivial⟩) (l0 := [some (.inl (some 0)), some (zi xn), some (.inl (some 388)), none]) rfl (by decide) (t0 hg) hs hx (by decide +kernel) (by decide)
      exact ⟨y, h1, t1, e1, e2, τ1, g1, kpC_w hg F (by decide +kernel), kpM_w hg F (by decide +kernel)⟩
    · obtain ⟨y, h1, t1, e1, e2, e3, e4, τ1, g1, F, x, s1, s2⟩ := use_T (t := t) (d := 60) (T := 160) 1 (-2147483648) 2147483647 0 (achk_ok (ctb := ctbX 133 ac322) aJ_ok lk38 (fun mk c' h1 _ => okX4 (List.mem_of_getElem? (i := 27) rfl) h1)) rfl hg (show aqsM _ _ [.inl (some 0), zi xn, .inl (some 388)] from ⟨aqR (t0 hg), aqI (by omega) (qin_full _).2, aqR (t388 hg), trivial⟩) (l0 := [some (.inl (some 0)), some (zi xn), some (.inl (some 388)), none]) rfl (by decide) (t0 hg) hs hx (by decide +kernel) (by decide)
      exact ⟨y, h1, t1, e1, e2, τ1, g1, kpC_w hg F (by decide +kernel), kpM_w hg F (by decide +kernel)⟩
  · rcases (show xn.toInt < 0 ∨ 180 < xn.toInt by omega) with q | q
    · obtain ⟨y, h1, t1, e1, e2, e3, e4, τ1, g1, F, x, s1, s2⟩ := use_T (t := t) (d := 60) (T := 180) 1 (-2147483648) 2147483647 0 (achk_ok (ctb := ctbX 133 ac324) aJ_ok lk39 (fun mk c' h1 _ => okX4 (List.mem_of_getElem? (i := 28) rfl) h1)) rfl hg (show aqsM _ _ [.inl (some 0), zi xn, .inl (some 388)] from ⟨aqR (t0 hg), aqI (qin_full _).1 (by omega), aqR (t388 hg), trivial⟩) (l0 := [some (.inl (some 0)), some (zi xn), some (.inl (some 388)), none]) rfl (by decide) (t0 hg) hs hx (by decide +kernel) (by decide)
      exact ⟨y, h1, t1, e1, e2, τ1, g1, kpC_w hg F (by decide +kernel), kpM_w hg F (by decide +kernel)⟩
    · obtain ⟨y, h1, t1, e1, e2, e3, e4, τ1, g1, F, x, s1, s2⟩ := use_T (t := t) (d := 60) (T := 180) 1 (-2147483648) 2147483647 0 (achk_ok (ctb := ctbX 133 ac326) aJ_ok lk41 (fun mk c' h1 _ => okX4 (List.mem_of_getElem? (i := 30) rfl) h1)) rfl hg (show aqsM _ _ [.inl (some 0), zi xn, .inl (some 388)] from ⟨aqR (t0 hg), aqI (by omega) (qin_full _).2, aqR (t388 hg), trivial⟩) (l0 := [some (.inl (some 0)), some (zi xn), some (.inl (some 388)), none]) rfl (by decide) (t0 hg) hs hx (by decide +kernel) (by decide)
      exact ⟨y, h1, t1, e1, e2, τ1, g1, kpC_w hg F (by decide +kernel), kpM_w hg F (by decide +kernel)⟩
  · rcases (show xn.toInt < 0 ∨ 200 < xn.toInt by omega) with q | q
    · obtain ⟨y, h1, t1, e1, e2, e3, e4, τ1, g1, F, x, s1, s2⟩ := use_T (t := t) (d := 60) (T := 200) 1 (-2147483648) 2147483647 0 (achk_ok (ctb := ctbX 133 ac328) aJ_ok lk42 (fun mk c' h1 _ => okX4 (List.mem_of_getElem? (i := 31) rfl) h1)) rfl hg (show aqsM _ _ [.inl (some 0), zi xn, .inl (some 388)] from ⟨aqR (t0 hg), aqI (qin_full _).1 (by omega), aqR (t388 hg), trivial⟩) (l0 := [some (.inl (some 0)), some (zi xn), some (.inl (some 388)), none]) rfl (by decide) (t0 hg) hs hx (by decide +kernel) (by decide)
      exact ⟨y, h1, t1, e1, e2, τ1, g1, kpC_w hg F (by decide +kernel), kpM_w hg F (by decide +kernel)⟩
    · obtain ⟨y, h1, t1, e1, e2, e3, e4, τ1, g1, F, x, s1, s2⟩ := use_T (t := t) (d := 60) (T := 200) 1 (-2147483648) 2147483647 0 (achk_ok (ctb := ctbX 133 ac330) aJ_ok lk44 (fun mk c' h1 _ => okX4 (List.mem_of_getElem? (i := 33) rfl) h1)) rfl hg (show aqsM _ _ [.inl (some 0), zi xn, .inl (some 388)] from ⟨aqR (t0 hg), aqI (by omega) (qin_full _).2, aqR (t388 hg), trivial⟩) (l0 := [some (.inl (some 0)), some (zi xn), some (.inl (some 388)), none]) rfl (by decide) (t0 hg) hs hx (by decide +kernel) (by decide)
      exact ⟨y, h1, t1, e1, e2, τ1, g1, kpC_w hg F (by decide +kernel), kpM_w hg F (by decide +kernel)⟩
theorem lo_m {τ : List Nat} {h : zh} {t T : Nat} {xT xn : Int32} (hg : hG τ h) (hs : hsl h 52 2 = some (zi xT)) (hx : xT.toInt = (T : Int)) (b1 : T ≤ 200) (b2 : T % 20 = 0) (ho : xn.toInt < 0 ∨ (T : Int) < xn.toInt) : ∃ (y : Int32) (h1 : zh) (t1 : Nat), qE 60 183 [some (.inl (some 52)), some (zi xn), none] h t (.inl (some (zi y)), h1, t1) ∧ t1 ≤ t + 0 ∧ ∃ τ1, hG τ1 h1 ∧ kpC h h1 ∧ kpM h h1 := by
  rcases (show T = 0 ∨ T = 20 ∨ T = 40 ∨ T = 60 ∨ T = 80 ∨ T = 100 ∨ T = 120 ∨ T = 140 ∨ T = 160 ∨ T = 180 ∨ T = 200 by omega) with rfl | rfl | rfl | rfl | rfl | rfl | rfl | rfl | rfl | rfl | rfl
  · rcases (show xn.toInt < 0 ∨ 0 < xn.toInt by omega) with q | q
    · obtain ⟨y, h1, t1, e1, e2, e3, e4, τ1, g1, F, x, s1, s2⟩ := use_T (t := t) (d := 60) (T := 0) 0 (-2147483648) 2147483647 0 (okC (mk := 183) (c := ac332) (List.mem_of_getElem? (i := 1) rfl)) rfl hg (show aqsM _ _ [.inl (some 52), zi xn] from ⟨aqR (t52 hg), aqI (qin_full _).1 (by omega), trivial⟩) (l0 := [some (.inl (some 52)), some (zi xn), none]) rfl (by decide) (t52 hg) hs hx (by decide +kernel) (by decide)
      exact ⟨y, h1, t1, e1, e2, τ1, g1, kpC_w hg F (by decide +kernel), kpM_w hg F (by decide +kernel)⟩
    · obtain ⟨y, h1, t1, e1, e2, e3, e4, τ1, g1, F, x, s1, s2⟩ := use_T (t := t) (d := 60) (T := 0) 0 (-2147483648) 2147483647 0 (okC (mk := 183) (c := ac334) (List.mem_of_getElem? (i := 3) rfl)) rfl hg (show aqsM _ _ [.inl (some 52), zi xn] from ⟨aqR (t52 hg), aqI (by omega) (qin_full _).2, trivial⟩) (l0 := [some (.inl (some 52)), some (zi xn), none]) rfl (by decide) (t52 hg) hs hx (by decide +kernel) (by decide)
      exact ⟨y, h1, t1, e1, e2, τ1, g1, kpC_w hg F (by decide +kernel), kpM_w hg F (by decide +kernel)⟩
  · rcases (show xn.toInt < 0 ∨ 20 < xn.toInt by omega) with q | q
    · obtain ⟨y, h1, t1, e1, e2, e3, e4, τ1, g1, F, x, s1, s2⟩ := use_T (t := t) (d := 60) (T := 20) 0 (-2147483648) 2147483647 0 (okC (mk := 183) (c := ac336) (List.mem_of_getElem? (i := 4) rfl)) rfl hg (show aqsM _ _ [.inl (some 52), zi xn] from ⟨aqR (t52 hg), aqI (qin_full _).1 (by omega), trivial⟩) (l0 := [some (.inl (some 52)), some (zi xn), none]) rfl (by decide) (t52 hg) hs hx (by decide +kernel) (by decide)
      exact ⟨y, h1, t1, e1, e2, τ1, g1, kpC_w hg F (by decide +kernel), kpM_w hg F (by decide +kernel)⟩
    · obtain ⟨y, h1, t1, e1, e2, e3, e4, τ1, g1, F, x, s1, s2⟩ := use_T (t := t) (d := 60) (T := 20) 0 (-2147483648) 2147483647 0 (okC (mk := 183) (c := ac338) (List.mem_of_getElem? (i := 6) rfl)) rfl hg (show aqsM _ _ [.inl (some 52), zi xn] from ⟨aqR (t52 hg), aqI (by omega) (qin_full _).2, trivial⟩) (l0 := [some (.inl (some 52)), some (zi xn), none]) rfl (by decide) (t52 hg) hs hx (by decide +kernel) (by decide)
      exact ⟨y, h1, t1, e1, e2, τ1, g1, kpC_w hg F (by decide +kernel), kpM_w hg F (by decide +kernel)⟩
  · rcases (show xn.toInt < 0 ∨ 40 < xn.toInt by omega) with q | q
    · obtain ⟨y, h1, t1, e1, e2, e3, e4, τ1, g1, F, x, s1, s2⟩ := use_T (t := t) (d := 60) (T := 40) 0 (-2147483648) 2147483647 0 (okC (mk := 183) (c := ac340) (List.mem_of_getElem? (i := 7) rfl)) rfl hg (show aqsM _ _ [.inl (some 52), zi xn] from ⟨aqR (t52 hg), aqI (qin_full _).1 (by omega), trivial⟩) (l0 := [some (.inl (some 52)), some (zi xn), none]) rfl (by decide) (t52 hg) hs hx (by decide +kernel) (by decide)
      exact ⟨y, h1, t1, e1, e2, τ1, g1, kpC_w hg F (by decide +kernel), kpM_w hg F (by decide +kernel)⟩
    · obtain ⟨y, h1, t1, e1, e2, e3, e4, τ1, g1, F, x, s1, s2⟩ := use_T (t := t) (d := 60) (T := 40) 0 (-2147483648) 2147483647 0 (okC (mk := 183) (c := ac342) (List.mem_of_getElem? (i := 9) rfl)) rfl hg (show aqsM _ _ [.inl (some 52), zi xn] from ⟨aqR (t52 hg), aqI (by omega) (qin_full _).2, trivial⟩) (l0 := [some (.inl (some 52)), some (zi xn), none]) rfl (by decide) (t52 hg) hs hx (by decide +kernel) (by decide)
      exact ⟨y, h1, t1, e1, e2, τ1, g1, kpC_w hg F (by decide +kernel), kpM_w hg F (by decide +kernel)⟩
  · rcases (show xn.toInt < 0 ∨ 60 < xn.toInt by omega) with q | q
    · obtain ⟨y, h1, t1, e1, e2, e3, e4, τ1, g1, F, x, s1, s2⟩ := use_T (t := t) (d := 60) (T := 60) 0 (-2147483648) 2147483647 0 (okC (mk := 183) (c := ac344) (List.mem_of_getElem? (i := 10) rfl)) rfl hg (show aqsM _ _ [.inl (some 52), zi xn] from ⟨aqR (t52 hg), aqI (qin_full _).1 (by omega), trivial⟩) (l0 := [some (.inl (some 52)), some (zi xn), none]) rfl (by decide) (t52 hg) hs hx (by decide +kernel) (by decide)
      exact ⟨y, h1, t1, e1, e2, τ1, g1, kpC_w hg F (by decide +kernel), kpM_w hg F (by decide +kernel)⟩
    · obtain ⟨y, h1, t1, e1, e2, e3, e4, τ1, g1, F, x, s1, s2⟩ := use_T (t := t) (d := 60) (T := 60) 0 (-2147483648) 2147483647 0 (okC (mk := 183) (c := ac346) (List.mem_of_getElem? (i := 12) rfl)) rfl hg (show aqsM _ _ [.inl (some 52), zi xn] from ⟨aqR (t52 hg), aqI (by omega) (qin_full _).2, trivial⟩) (l0 := [some (.inl (some 52)), some (zi xn), none]) rfl (by decide) (t52 hg) hs hx (by decide +kernel) (by decide)
      exact ⟨y, h1, t1, e1, e2, τ1, g1, kpC_w hg F (by decide +kernel), kpM_w hg F (by decide +kernel)⟩
  · rcases (show xn.toInt < 0 ∨ 80 < xn.toInt by omega) with q | q
    · obtain ⟨y, h1, t1, e1, e2, e3, e4, τ1, g1, F, x, s1, s2⟩ := use_T (t := t) (d := 60) (T := 80) 0 (-2147483648) 2147483647 0 (okC (mk := 183) (c := ac348) (List.mem_of_getElem? (i := 13) rfl)) rfl hg (show aqsM _ _ [.inl (some 52), zi xn] from ⟨aqR (t52 hg), aqI (qin_full _).1 (by omega), trivial⟩) (l0 := [some (.inl (some 52)), some (zi xn), none]) rfl (by decide) (t52 hg) hs hx (by decide +kernel) (by decide)
      exact ⟨y, h1, t1, e1, e2, τ1, g1, kpC_w hg F (by decide +kernel), kpM_w hg F (by decide +kernel)⟩
    · obtain ⟨y, h1, t1, e1, e2, e3, e4, τ1, g1, F, x, s1, s2⟩ := use_T (t := t) (d := 60) (T := 80) 0 (-2147483648) 2147483647 0 (okC (mk := 183) (c := ac350) (List.mem_of_getElem? (i := 15) rfl)) rfl hg (show aqsM _ _ [.inl (some 52), zi xn] from ⟨aqR (t52 hg), aqI (by omega) (qin_full _).2, trivial⟩) (l0 := [some (.inl (some 52)), some (zi xn), none]) rfl (by decide) (t52 hg) hs hx (by decide +kernel) (by decide)
      exact ⟨y, h1, t1, e1, e2, τ1, g1, kpC_w hg F (by decide +kernel), kpM_w hg F (by decide +kernel)⟩
  · rcases (show xn.toInt < 0 ∨ 100 < xn.toInt by omega) with q | q
    · obtain ⟨y, h1, t1, e1, e2, e3, e4, τ1, g1, F, x, s1, s2⟩ := use_T (t := t) (d := 60) (T := 100) 0 (-2147483648) 2147483647 0 (okC (mk := 183) (c := ac352) (List.mem_of_getElem? (i := 16) rfl)) rfl hg (show aqsM _ _ [.inl (some 52), zi xn] from ⟨aqR (t52 hg), aqI (qin_full _).1 (by omega), trivial⟩) (l0 := [some (.inl (some 52)), some (zi xn), none]) rfl (by decide) (t52 hg) hs hx (by decide +kernel) (by decide)
      exact ⟨y, h1, t1, e1, e2, τ1, g1, kpC_w hg F (by decide +kernel), kpM_w hg F (by decide +kernel)⟩
    · obtain ⟨y, h1, t1, e1, e2, e3, e4, τ1, g1, F, x, s1, s2⟩ := use_T (t := t) (d := 60) (T := 100) 0 (-2147483648) 2147483647 0 (okC (mk := 183) (c := ac354) (List.mem_of_getElem? (i := 18) rfl)) rfl hg (show aqsM _ _ [.inl (some 52), zi xn] from ⟨aqR (t52 hg), aqI (by omega) (qin_full _).2, trivial⟩) (l0 := [some (.inl (some 52)), some (zi xn), none]) rfl (by decide) (t52 hg) hs hx (by decide +kernel) (by decide)
      exact ⟨y, h1, t1, e1, e2, τ1, g1, kpC_w hg F (by decide +kernel), kpM_w hg F (by decide +kernel)⟩
  · rcases (show xn.toInt < 0 ∨ 120 < xn.toInt by omega) with q | q
    · obtain ⟨y, h1, t1, e1, e2, e3, e4, τ1, g1, F, x, s1, s2⟩ := use_T (t := t) (d := 60) (T := 120) 0 (-2147483648) 2147483647 0 (okC (mk := 183) (c := ac356) (List.mem_of_getElem? (i := 19) rfl)) rfl hg (show aqsM _ _ [.inl (some 52), zi xn] from ⟨aqR (t52 hg), aqI (qin_full _).1 (by omega), trivial⟩) (l0 := [some (.inl (some 52)), some (zi xn), none]) rfl (by decide) (t52 hg) hs hx (by decide +kernel) (by decide)
      exact ⟨y, h1, t1, e1, e2, τ1, g1, kpC_w hg F (by decide +kernel), kpM_w hg F (by decide +kernel)⟩
    · obtain ⟨y, h1, t1, e1, e2, e3, e4, τ1, g1, F, x, s1, s2⟩ := use_T (t := t) (d := 60) (T := 120) 0 (-2147483648) 2147483647 0 (okC (mk := 183) (c := ac358) (List.mem_of_getElem? (i := 21) rfl)) rfl hg (show aqsM _ _ [.inl (some 52), zi xn] from ⟨aqR (t52 hg), aqI (by omega) (qin_full _).2, trivial⟩) (l0 := [some (.inl (some 52)), some (zi xn), none]) rfl (by decide) (t52 hg) hs hx (by decide +kernel) (by decide)
      exact ⟨y, h1, t1, e1, e2, τ1, g1, kpC_w hg F (by decide +kernel), kpM_w hg F (by decide +kernel)⟩
  · rcases (show xn.toInt < 0 ∨ 140 < xn.toInt by omega) with q | q
    · obtain ⟨y, h1, t1, e1, e2, e3, e4, τ1, g1, F, x, s1, s2⟩ := use_T (t := t) (d := 60) (T := 140) 0 (-2147483648) 2147483647 0 (okC (mk := 183) (c := ac360) (List.mem_of_getElem? (i := 22) rfl)) rfl hg (show aqsM _ _ [.inl (some 52), zi xn] from ⟨aqR (t52 hg), aqI (qin_full _).1 (by omega), trivial⟩) (l0 := [some (.inl (some 52)), some (zi xn), none]) rfl (by decide) (t52 hg) hs hx (by decide +kernel) (by decide)
      exact ⟨y, h1, t1, e1, e2, τ1, g1, kpC_w hg F (by decide +kernel), kpM_w hg F (by decide +kernel)⟩
    · obtain ⟨y, h1, t1, e1, e2, e3, e4, τ1, g1, F, x, s1, s2⟩ := use_T (t := t) (d := 60) (T := 140) 0 (-2147483648) 2147483647 0 (okC (mk := 183) (c := ac362) (List.mem_of_getElem? (i := 24) rfl)) rfl hg (show aqsM _ _ [.inl (some 52), zi xn] from ⟨aqR (t52 hg), aqI (by omega) (qin_full _).2, trivial⟩) (l0 := [some (.inl (some 52)), some (zi xn), none]) rfl (by decide) (t52 hg) hs hx (by decide +kernel) (by decide)
      exact ⟨y, h1, t1, e1, e2, τ1, g1, kpC_w hg F (by decide +kernel), kpM_w hg F (by decide +kernel)⟩
  · rcases (show xn.toInt < 0 ∨ 160 < xn.toInt by omega) with q | q
    · obtain ⟨y, h1, t1, e1, e2, e3, e4, τ1, g1, F, x, s1, s2⟩ := use_T (t := t) (d := 60) (T := 160) 0 (-2147483648) 2147483647 0 (okC (mk := 183) (c := ac364) (List.mem_of_getElem? (i := 25) rfl)) rfl hg (show aqsM _ _ [.inl (some 52), zi xn] from ⟨aqR (t52 hg), aqI (qin_full _).1 (by omega), trivial⟩) (l0 := [some (.inl (some 52)), some (zi xn), none]) rfl (by decide) (t52 hg) hs hx (by decide +kernel) (by decide)
      exact ⟨y, h1, t1, e1, e2, τ1, g1, kpC_w hg F (by decide +kernel), kpM_w hg F (by decide +kernel)⟩
    · obtain ⟨y, h1, t1, e1, e2, e3, e4, τ1, g1, F, x, s1, s2⟩ := use_T (t := t) (d := 60) (T := 160) 0 (-2147483648) 2147483647 0 (okC (mk := 183) (c := ac366) (List.mem_of_getElem? (i := 27) rfl)) rfl hg (show aqsM _ _ [.inl (some 52), zi xn] from ⟨aqR (t52 hg), aqI (by omega) (qin_full _).2, trivial⟩) (l0 := [some (.inl (some 52)), some (zi xn), none]) rfl (by decide) (t52 hg) hs hx (by decide +kernel) (by decide)
      exact ⟨y, h1, t1, e1, e2, τ1, g1, kpC_w hg F (by decide +kernel), kpM_w hg F (by decide +kernel)⟩
  · rcases (show xn.toInt < 0 ∨ 180 < xn.toInt by omega) with q | q
    · obtain ⟨y, h1, t1, e1, e2, e3, e4, τ1, g1, F, x, s1, s2⟩ := use_T (t := t) (d := 60) (T := 180) 0 (-2147483648) 2147483647 0 (okC (mk := 183) (c := ac368) (List.mem_of_getElem? (i := 28) rfl)) rfl hg (show aqsM _ _ [.inl (some 52), zi xn] from ⟨aqR (t52 hg), aqI (qin_full _).1 (by omega), trivial⟩) (l0 := [some (.inl (some 52)), some (zi xn), none]) rfl (by decide) (t52 hg) hs hx (by decide +kernel) (by decide)
      exact ⟨y, h1, t1, e1, e2, τ1, g1, kpC_w hg F (by decide +kernel), kpM_w hg F (by decide +kernel)⟩
    · obtain ⟨y, h1, t1, e1, e2, e3, e4, τ1, g1, F, x, s1, s2⟩ := use_T (t := t) (d := 60) (T := 180) 0 (-2147483648) 2147483647 0 (okC (mk := 183) (c := ac370) (List.mem_of_getElem? (i := 30) rfl)) rfl hg (show aqsM _ _ [.inl (some 52), zi xn] from ⟨aqR (t52 hg), aqI (by omega) (qin_full _).2, trivial⟩) (l0 := [some (.inl (some 52)), some (zi xn), none]) rfl (by decide) (t52 hg) hs hx (by decide +kernel) (by decide)
      exact ⟨y, h1, t1, e1, e2, τ1, g1, kpC_w hg F (by decide +kernel), kpM_w hg F (by decide +kernel)⟩
  · rcases (show xn.toInt < 0 ∨ 200 < xn.toInt by omega) with q | q
    · obtain ⟨y, h1, t1, e1, e2, e3, e4, τ1, g1, F, x, s1, s2⟩ := use_T (t := t) (d := 60) (T := 200) 0 (-2147483648) 2147483647 0 (okC (mk := 183) (c := ac372) (List.mem_of_getElem? (i := 31) rfl)) rfl hg (show aqsM _ _ [.inl (some 52), zi xn] from ⟨aqR (t52 hg), aqI (qin_full _).1 (by omega), trivial⟩) (l0 := [some (.inl (some 52)), some (zi xn), none]) rfl (by decide) (t52 hg) hs hx (by decide +kernel) (by decide)
      exact ⟨y, h1, t1, e1, e2, τ1, g1, kpC_w hg F (by decide +kernel), kpM_w hg F (by decide +kernel)⟩
    · obtain ⟨y, h1, t1, e1, e2, e3, e4, τ1, g1, F, x, s1, s2⟩ := use_T (t := t) (d := 60) (T := 200) 0 (-2147483648) 2147483647 0 (okC (mk := 183) (c := ac374) (List.mem_of_getElem? (i := 33) rfl)) rfl hg (show aqsM _ _ [.inl (some 52), zi xn] from ⟨aqR (t52 hg), aqI (by omega) (qin_full _).2, trivial⟩) (l0 := [some (.inl (some 52)), some (zi xn), none]) rfl (by decide) (t52 hg) hs hx (by decide +kernel) (by decide)
      exact ⟨y, h1, t1, e1, e2, τ1, g1, kpC_w hg F (by decide +kernel), kpM_w hg F (by decide +kernel)⟩
theorem lt_c {τ : List Nat} {h : zh} {t T : Nat} {xn : Int32} (hg : hG τ h) (i : IV h T) : ∃ (y : Int32) (h1 : zh) (t1 : Nat), qE 60 276 [some (.inl (some 0)), some (zi xn), some (.inl (some 388)), none] h t (.inl (some (zi y)), h1, t1) ∧ t1 ≤ t + 1 ∧ ∃ τ1, hG τ1 h1 ∧ txC h h1 T xn := by
  obtain ⟨i1, i2, i3, i4, ⟨x, i5, i6⟩, -, i9, -⟩ := i
  rcases (show (xn.toInt < 0 ∨ (T : Int) < xn.toInt) ∨ (0 ≤ xn.toInt ∧ xn.toInt ≤ (T : Int)) by omega) with q | ⟨q, q'⟩
  · obtain ⟨y, h1, t1, e1, e2, τ1, g1, c, m⟩ := lo_c (t := t) hg i5 i6 i1 i2 q
    exact ⟨y, h1, t1, e1, e2, τ1, g1, m, Or.inl ⟨q, c⟩⟩
  · obtain ⟨n, hn⟩ : ∃ n : Nat, xn.toInt = (n : Int) := ⟨xn.toInt.toNat, by omega⟩
    obtain ⟨y, h1, e, τ1, g1, m, -, al1, e5, z1, z2⟩ := c_ltext (t := t) (n := n) (b := tb h) hg i3 i5 i6 i1 hn (by omega) (fun j hj => by
      obtain ⟨z, q1, q2⟩ := i9 j (by omega)
      exact ⟨z, q1, (tb_of q1).symm⟩)
    exact ⟨y, h1, t, e, by omega, τ1, g1, m, Or.inr ⟨n, hn, by omega, al1, e5, z1, z2⟩⟩
theorem lt_m {τ : List Nat} {h h1 : zh} {t T : Nat} {xn : Int32} (hg : hG τ h1) (i : IV h T) (k : kpM h h1) : ∃ (y : Int32) (h2 : zh) (t1 : Nat), qE 60 183 [some (.inl (some 52)), some (zi xn), none] h1 t (.inl (some (zi y)), h2, t1) ∧ t1 ≤ t + 0 ∧ ∃ τ1, hG τ1 h2 ∧ txM h h1 h2 T xn := by
  obtain ⟨i1, i2, i3, i4, -, ⟨x, i5, i6⟩, i9, -⟩ := i
  rcases (show (xn.toInt < 0 ∨ (T : Int) < xn.toInt) ∨ (0 ≤ xn.toInt ∧ xn.toInt ≤ (T : Int)) by omega) with q | ⟨q, q'⟩
  · obtain ⟨y, h2, t1, e1, e2, τ1, g1, c, m⟩ := lo_m (t := t) hg (k.2.1.trans i5) i6 i1 i2 q
    exact ⟨y, h2, t1, e1, e2, τ1, g1, c, Or.inl ⟨q, m⟩⟩
  · obtain ⟨n, hn⟩ : ∃ n : Nat, xn.toInt = (n : Int) := ⟨xn.toInt.toNat, by omega⟩
    obtain ⟨y, h2, e, τ1, g1, c, -, z1, z2⟩ := m_text (t := t) (n := n) (b := tb h) hg (k.2.1.trans i5) i6 i1 hn (by omega) (fun j hj => by
      obtain ⟨z, q1, q2⟩ := i9 j (by omega)
      exact ⟨z, (k.1 j).trans q2, (tb_of q1).symm⟩) (fun j hj => by
      obtain ⟨z, q1, q2⟩ := i9 j (by omega)
      obtain ⟨w, r1, r2, -⟩ := g_int (i := j) hg (tu54 hg) at54 (show j < 200 by omega) (sr1 (by omega))
      rw [(k.1 j).trans q2] at r1
      cases r1
      rw [tb_of q1]
      exact r2)
    exact ⟨y, h2, t, e, by omega, τ1, g1, c, Or.inr ⟨n, hn, by omega, z1, z2⟩⟩
theorem IV_text {h h1 h2 : zh} {T : Nat} {xn : Int32} (i : IV h T) (c : txC h h1 T xn) (m : txM h h1 h2 T xn) : ∃ T', IV h2 T' := by
  obtain ⟨km, c⟩ := c
  obtain ⟨kc, m⟩ := m
  rcases c with ⟨q, c⟩ | ⟨n, e1, e2, al1, c5, ⟨x1, z1, z2⟩, ⟨x2, z3, z4⟩⟩
  · rcases m with ⟨-, m⟩ | ⟨n, e1, e2, -⟩
    · exact ⟨T, IV_kp kc m (IV_kp c km i)⟩
    · omega
  · rcases m with ⟨q, -⟩ | ⟨n', e1', e2', ⟨y1, w1, w2⟩, ⟨y2, w3, w4⟩⟩
    · omega
    · have hn : n' = n := by omega
      subst hn
      have hx : x2 = y2 := Int32.toInt_inj.mp (by rw [z4, w4])
      subst hx
      obtain ⟨k1, k2, k3, k4, k5⟩ := kc
      exact ⟨0, by omega, rfl, k4 al1, k5.trans (c5.trans i.2.2.2.1), ⟨x1, k2.trans z1, z2⟩, ⟨y1, w1, w2⟩, fun j hj => absurd hj (Nat.not_lt_zero j), x2, k3.trans z3, w3⟩
