/-! the reference: a sequent comes, all are proved -/
def pmE (τ : List Nat) (h : zh) (k : Nat) (e : enT) : Prop := ci_ h 373 k e.2.1 ∧ ci_ h 372 k e.2.2.2.2.1 ∧ kx_ h 371 k e.2.2.2.2.2 ∧ (e.2.1 ≠ 0 → QM τ h (71 + k) e.1) ∧ (3 ≤ e.2.1 → e.2.1 ≤ 8 → ci_ h 374 k e.2.2.1) ∧ (3 ≤ e.2.1 → e.2.1 ≤ 7 → ci_ h 375 k e.2.2.2.1)
theorem pmE_ag {τ : List Nat} {h : zh} {k : Nat} {e e' : enT} (p : pmE τ h k e) (g : agE e e') : pmE τ h k e' := by
  obtain ⟨c3, c2, c1, q, c4, c5⟩ := p
  obtain ⟨g1, g2, g3, g4, g5⟩ := g
  refine ⟨by rw [← g1]; exact c3, by rw [← g2]; exact c2, by rw [← g2]; exact c1, fun n => ?_, fun n1 n2 => ?_, fun n1 n2 => ?_⟩
  · rw [← g3 (by rw [g1]; exact n)]
    exact q (by rw [g1]; exact n)
  · rw [← g1] at n1 n2
    rw [← g4 n1 n2]
    exact c4 n1 n2
  · rw [← g1] at n1 n2
    rw [← g5 n1 n2]
    exact c5 n1 n2
theorem pmE_up {τ : List Nat} {h h1 : zh} {k : Nat} {e : enT} (p : pmE τ h k e) (g : hG τ h1) (F : ∀ k' j, (k' = 71 + k ∨ ((371 ≤ k' ∧ k' ≤ 375) ∧ j = k)) → hsl h1 k' j = hsl h k' j) : pmE τ h1 k e := by
  obtain ⟨c3, c2, c1, q, c4, c5⟩ := p
  exact ⟨ci_up c3 (F _ _ (Or.inr (by omega))), ci_up c2 (F _ _ (Or.inr (by omega))), kx_up c1 (F _ _ (Or.inr (by omega))), fun n => QM_up (q n) g (fun j => F _ _ (Or.inl rfl)), fun n1 n2 => ci_up (c4 n1 n2) (F _ _ (Or.inr (by omega))), fun n1 n2 => ci_up (c5 n1 n2) (F _ _ (Or.inr (by omega)))⟩
theorem rdm_l {d t n : Nat} {τ : List Nat} {P : zo × zh × Nat → Prop} {xk : Int32} {l1 l2 : Option zv} (hn9 : n < 300) (hxk : xk.toInt = (n : Int)) : ∀ (m : Nat) (h : zh) (s : sqT) (xn : Int32), QM τ h (71 + n) s → ((xn.toInt = 1 ∧ vd_ s) ∨ (xn.toInt = 0 ∧ ¬ vd_ s)) → mr2 s < m → (∀ (h9 : zh) (x9 : Int32), RdY s none → hG τ h9 → x9.toInt = 1 → FM (71 + n) h h9 → qX (d + 6) 231 189 [some (.inl (some 52)), l1, l2, some (zi xk), some (zi x9)] [] h9 t P) → (∀ (h9 : zh) (s9 : sqT) (x9 : Int32), RdY s (some s9) → QM τ h9 (71 + n) s9 → x9.toInt = 0 → FM (71 + n) h h9 → qX (d + 6) 231 189 [some (.inl (some 52)), l1, l2, some (zi xk), some (zi x9)] [] h9 t P) → qX (d + 6) 231 158 [some (.inl (some 52)), l1, l2, some (zi xk), some (zi xn)] [] h t P := by
  intro m
  induction m with
  | zero =>
    intro h s xn Q hx hm kv kr
    omega
  | succ m ih =>
    intro h s xn Q hx hm kv kr
    obtain ⟨T, c0, tA, aT, hc0, pT⟩ := Q.2.1
    rcases hx with ⟨hx, vd⟩ | ⟨hx, nv⟩
    ·
      refine y_same (i := .iload 4) (len := 2) (r := (0, 0, 0, 0)) (pc' := 160) (ls' := [some (.inl (some 52)), l1, l2, some (zi xk), some (zi xn)]) (st' := [zi xn]) (by decide +kernel) (fun k q => by cases q) rfl ?_
      refine y_iT (c := .ne) (off := 29) (pc' := 189) (len := 3) (r := (0, 0, 0, 0)) (by decide +kernel) (acmpT (c := .ne) (by show ¬ (_ = _); omega)) (by decide +kernel) ?_
      exact kv h xn (RdY_v vd) Q.1 hx (fun _ _ _ => rfl)
    ·
      refine y_same (i := .iload 4) (len := 2) (r := (0, 0, 0, 0)) (pc' := 160) (ls' := [some (.inl (some 52)), l1, l2, some (zi xk), some (zi xn)]) (st' := [zi xn]) (by decide +kernel) (fun k q => by cases q) rfl ?_
      refine y_iF (c := .ne) (off := 29) (len := 3) (r := (0, 0, 0, 0)) (by decide +kernel) (acmpF (c := .ne) (by show _ = _; omega)) ?_
      refine y_same (i := .aload_n 0) (len := 1) (r := (0, 0, 0, 0)) (pc' := 164) (ls' := [some (.inl (some 52)), l1, l2, some (zi xk), some (zi xn)]) (st' := [.inl (some 52)]) (by decide +kernel) (fun k q => by cases q) rfl ?_
      refine y_get (j := 37) (len := 3) (r := (12, 15, 2, 1343)) (by decide +kernel) Q.1 (t52 Q.1) at52 rfl rfl (g_r52 (f := 15) (T2 := 70) Q.1 rfl (by decide)).1 ?_
      refine y_same (i := .iload_n 3) (len := 1) (r := (0, 0, 0, 0)) (pc' := 168) (ls' := [some (.inl (some 52)), l1, l2, some (zi xk), some (zi xn)]) (st' := [zi xk, .inl (some 70)]) (by decide +kernel) (fun k q => by cases q) rfl ?_
      refine y_aal (i := n) (len := 1) (r := (0, 0, 0, 0)) (by decide +kernel) Q.1 (tu70 Q.1) at70 rfl (by omega) (Q.1.2.2 n (by omega)) ?_
      refine y_cI (i := .invokestatic 357) (len := 3) (r := (1, 215, 12, 1718)) (nL := 3) (k := 2) (n := 1) (hs := []) (args := [.inl (some ((71 + n)))]) (rest := []) (l0 := [some (.inl (some ((71 + n)))), none, none]) (by decide +kernel) (Or.inl ⟨_, rfl⟩) rfl rfl rfl rfl (Nat.le_of_ble_eq_true rfl) rfl rfl (qI_le (by omega) (m_rdy (d := 0) Q nv)) (fun y3563 h3563 hRy3563 => ?_)
      unfold sdm_ at hRy3563
      rcases hRy3563 with ⟨v3563, s1, ⟨p1, p2⟩, Q3563, F3563⟩ | ⟨v3563, rfl, nr⟩
      ·
        refine y_iF (c := .eq) (off := 17) (len := 3) (r := (0, 0, 0, 0)) (by decide +kernel) (acmpF (c := .eq) (by show ¬ (_ = _); omega)) ?_
        refine y_same (i := .aload_n 0) (len := 1) (r := (0, 0, 0, 0)) (pc' := 176) (ls' := [some (.inl (some 52)), l1, l2, some (zi xk), some (zi xn)]) (st' := [.inl (some 52)]) (by decide +kernel) (fun k q => by cases q) rfl ?_
        refine y_get (j := 37) (len := 3) (r := (12, 15, 2, 1343)) (by decide +kernel) Q3563.1 (t52 Q3563.1) at52 rfl rfl (g_r52 (f := 15) (T2 := 70) Q3563.1 rfl (by decide)).1 ?_
        refine y_same (i := .iload_n 3) (len := 1) (r := (0, 0, 0, 0)) (pc' := 180) (ls' := [some (.inl (some 52)), l1, l2, some (zi xk), some (zi xn)]) (st' := [zi xk, .inl (some 70)]) (by decide +kernel) (fun k q => by cases q) rfl ?_
        refine y_aal (i := n) (len := 1) (r := (0, 0, 0, 0)) (by decide +kernel) Q3563.1 (tu70 Q3563.1) at70 rfl (by omega) (Q3563.1.2.2 n (by omega)) ?_
        refine y_cI (i := .invokestatic 354) (len := 3) (r := (1, 213, 12, 1709)) (nL := 3) (k := 2) (n := 1) (hs := []) (args := [.inl (some ((71 + n)))]) (rest := []) (l0 := [some (.inl (some ((71 + n)))), none, none]) (by decide +kernel) (Or.inl ⟨_, rfl⟩) rfl rfl rfl rfl (Nat.le_of_ble_eq_true rfl) rfl rfl (qI_le (by omega) (m_vd (d := 0) Q3563)) (fun y3564 qy3564 hRy3564 => ?_)
        obtain ⟨rfl, hDy3564⟩ := hRy3564
        refine y_same (i := .istore 4) (len := 2) (r := (0, 0, 0, 0)) (pc' := 186) (ls' := [some (.inl (some 52)), l1, l2, some (zi xk), some (zi y3564)]) (st' := []) (by decide +kernel) (fun k q => by cases q) rfl ?_
        refine y_goto (off := (-28)) (pc' := 158) (len := 3) (r := (0, 0, 0, 0)) (by decide +kernel) (by decide +kernel) ?_
        refine ih h3563 s1 y3564 Q3563 hDy3564 (by omega) (fun h9 x9 q9 a9 b9 c9 => kv h9 x9 (RdY_go nv p1 q9) a9 b9 (fun k j hC => (c9 k j hC).trans ((F3563 k j (by omega))))) (fun h9 s9 x9 q9 a9 b9 c9 => kr h9 s9 x9 (RdY_go nv p1 q9) a9 b9 (fun k j hC => (c9 k j hC).trans ((F3563 k j (by omega)))))
      ·
        refine y_iT (c := .eq) (off := 17) (pc' := 189) (len := 3) (r := (0, 0, 0, 0)) (by decide +kernel) (acmpT (c := .eq) (by show _ = _; omega)) (by decide +kernel) ?_
        exact kr h s xn ⟨[], rfl, nv, nr⟩ Q (by omega) (fun _ _ _ => rfl)
theorem cmm_f {d t n : Nat} {τ : List Nat} {h : zh} {s : sqT} {xf xw : Int32} {l3 l4 : Option zv} (hn9 : n < 300) (Q : QM τ h 378 s) (exf : xf.toInt = -1) (cn : ci_ h 52 26 n) (ml0 : kx_ h 52 32 1) : qX (d + 6) 231 44 [some (.inl (some 52)), some (zi xf), some (zi xw), l3, l4] [] h t (rI (fun y h1 => (y.toInt = 0 ∧ h = h1 ∧ big_ s) ∨ (y.toInt = 1 ∧ ¬ big_ s ∧ ∃ e, setR (fun _ => False) true s (-1) 1 e ∧ hG τ h1 ∧ pmE τ h1 n e ∧ ci_ h1 52 26 (n + 1) ∧ ∀ k j, k ≠ 71 + n → (k ≠ 52 ∨ j ≠ 26) → ((k < 371 ∨ 376 < k) ∨ j ≠ n) → hsl h1 k j = hsl h k j)) t) := by
  obtain ⟨xn, hn26, en⟩ := cn
  obtain ⟨T, c0, tA, aT, hc0, pT⟩ := rwT_r (n := n) Q.1 hn9
  refine y_same (i := .aload_n 0) (len := 1) (r := (0, 0, 0, 0)) (pc' := 45) (ls' := [some (.inl (some 52)), some (zi xf), some (zi xw), l3, l4]) (st' := [.inl (some 52)]) (by decide +kernel) (fun k q => by cases q) rfl ?_
  refine y_get (j := 61) (len := 3) (r := (12, 23, 2, 1351)) (by decide +kernel) Q.1 (t52 Q.1) at52 rfl rfl (g_r52 (f := 23) (T2 := 378) Q.1 rfl (by decide)).1 ?_
  refine y_ic (c := 0) (len := 1) (r := (0, 0, 0, 0)) (by decide +kernel) (by decide) (fun y3565 hy3565 => ?_)
  obtain ⟨z3566, hz3566, ez3566⟩ := Q.2.2.1.1
  have ez3566 : z3566.toInt = ((s.1.length : Nat) : Int) := ez3566
  have mz3566 := qm_lenL Q
  have mz3566 : s.1.length ≤ 14 := mz3566
  refine y_ial (i := 0) (len := 1) (r := (0, 0, 0, 0)) (by decide +kernel) Q.1 (tu378 Q.1) at378 (by omega) hz3566 ?_
  refine y_bi (c := 12) (len := 2) (r := (0, 0, 0, 0)) (by decide +kernel) (by decide) (fun y3567 hy3567 => ?_)
  rcases Decidable.em (z3566.toInt > y3567.toInt) with q3568 | q3568
  ·
    refine y_cT (c := .gt) (off := 25) (pc' := 77) (len := 3) (r := (0, 0, 0, 0)) (by decide +kernel) (acmpT (c := .gt) (by show _ < _; omega)) (by decide +kernel) ?_
    refine y_ic (c := 0) (len := 1) (r := (0, 0, 0, 0)) (by decide +kernel) (by decide) (fun y3569 hy3569 => ?_)
    refine y_rI (len := 1) (r := (0, 0, 0, 0)) (nL := 5) (k := 2) (n9 := 3) (hs := []) (by decide +kernel) rfl (zfit_b (by omega) (by omega)).2 ?_
    exact Or.inl ⟨by omega, rfl, Or.inl (by omega)⟩
  ·
    refine y_cF (c := .gt) (off := 25) (len := 3) (r := (0, 0, 0, 0)) (by decide +kernel) (acmpF (c := .gt) (by show _ ≤ _; omega)) ?_
    refine y_same (i := .aload_n 0) (len := 1) (r := (0, 0, 0, 0)) (pc' := 56) (ls' := [some (.inl (some 52)), some (zi xf), some (zi xw), l3, l4]) (st' := [.inl (some 52)]) (by decide +kernel) (fun k q => by cases q) rfl ?_
    refine y_get (j := 61) (len := 3) (r := (12, 23, 2, 1351)) (by decide +kernel) Q.1 (t52 Q.1) at52 rfl rfl (g_r52 (f := 23) (T2 := 378) Q.1 rfl (by decide)).1 ?_
    refine y_ic (c := 1) (len := 1) (r := (0, 0, 0, 0)) (by decide +kernel) (by decide) (fun y3570 hy3570 => ?_)
    obtain ⟨z3571, hz3571, ez3571⟩ := Q.2.2.1.2.1
    have ez3571 : z3571.toInt = ((s.2.1.length : Nat) : Int) := ez3571
    have mz3571 := qm_lenR Q
    have mz3571 : s.2.1.length ≤ 14 := mz3571
    refine y_ial (i := 1) (len := 1) (r := (0, 0, 0, 0)) (by decide +kernel) Q.1 (tu378 Q.1) at378 (by omega) hz3571 ?_
    refine y_bi (c := 12) (len := 2) (r := (0, 0, 0, 0)) (by decide +kernel) (by decide) (fun y3572 hy3572 => ?_)
    rcases Decidable.em (z3571.toInt > y3572.toInt) with q3573 | q3573
    ·
      refine y_cT (c := .gt) (off := 14) (pc' := 77) (len := 3) (r := (0, 0, 0, 0)) (by decide +kernel) (acmpT (c := .gt) (by show _ < _; omega)) (by decide +kernel) ?_
      refine y_ic (c := 0) (len := 1) (r := (0, 0, 0, 0)) (by decide +kernel) (by decide) (fun y3574 hy3574 => ?_)
      refine y_rI (len := 1) (r := (0, 0, 0, 0)) (nL := 5) (k := 2) (n9 := 3) (hs := []) (by decide +kernel) rfl (zfit_b (by omega) (by omega)).2 ?_
      exact Or.inl ⟨by omega, rfl, Or.inr (Or.inl (by omega))⟩
    ·
      refine y_cF (c := .gt) (off := 14) (len := 3) (r := (0, 0, 0, 0)) (by decide +kernel) (acmpF (c := .gt) (by show _ ≤ _; omega)) ?_
      refine y_same (i := .aload_n 0) (len := 1) (r := (0, 0, 0, 0)) (pc' := 67) (ls' := [some (.inl (some 52)), some (zi xf), some (zi xw), l3, l4]) (st' := [.inl (some 52)]) (by decide +kernel) (fun k q => by cases q) rfl ?_
      refine y_get (j := 61) (len := 3) (r := (12, 23, 2, 1351)) (by decide +kernel) Q.1 (t52 Q.1) at52 rfl rfl (g_r52 (f := 23) (T2 := 378) Q.1 rfl (by decide)).1 ?_
      refine y_ic (c := 2) (len := 1) (r := (0, 0, 0, 0)) (by decide +kernel) (by decide) (fun y3575 hy3575 => ?_)
      obtain ⟨z3576, hz3576, ez3576⟩ := Q.2.2.1.2.2.1
      have ez3576 : z3576.toInt = ((s.2.2.1.length : Nat) : Int) := ez3576
      have mz3576 := qm_lenC Q
      have mz3576 : s.2.2.1.length ≤ 14 := mz3576
      refine y_ial (i := 2) (len := 1) (r := (0, 0, 0, 0)) (by decide +kernel) Q.1 (tu378 Q.1) at378 (by omega) hz3576 ?_
      refine y_bi (c := 12) (len := 2) (r := (0, 0, 0, 0)) (by decide +kernel) (by decide) (fun y3577 hy3577 => ?_)
      rcases Decidable.em (z3576.toInt ≤ y3577.toInt) with q3578 | q3578
      ·
        refine y_cT (c := .le) (off := 5) (pc' := 79) (len := 3) (r := (0, 0, 0, 0)) (by decide +kernel) (acmpT (c := .le) (by show _ ≤ _; omega)) (by decide +kernel) ?_
        have nb : ¬ big_ s := fun q9 => q9.elim (fun q8 => by omega) (fun q8 => q8.elim (fun q7 => by omega) (fun q7 => by omega))
        have ok9 := Q.2.2.2
        refine y_same (i := .aload_n 0) (len := 1) (r := (0, 0, 0, 0)) (pc' := 80) (ls' := [some (.inl (some 52)), some (zi xf), some (zi xw), l3, l4]) (st' := [.inl (some 52)]) (by decide +kernel) (fun k q => by cases q) rfl ?_
        refine y_get (j := 348) (len := 3) (r := (12, 26, 0, 1354)) (by decide +kernel) Q.1 (t52 Q.1) at52 rfl rfl hn26 ?_
        refine y_same (i := .istore_n 3) (len := 1) (r := (0, 0, 0, 0)) (pc' := 84) (ls' := [some (.inl (some 52)), some (zi xf), some (zi xw), some (zi xn), l4]) (st' := []) (by decide +kernel) (fun k q => by cases q) rfl ?_
        refine y_same (i := .aload_n 0) (len := 1) (r := (0, 0, 0, 0)) (pc' := 85) (ls' := [some (.inl (some 52)), some (zi xf), some (zi xw), some (zi xn), l4]) (st' := [.inl (some 52)]) (by decide +kernel) (fun k q => by cases q) rfl ?_
        refine y_same (i := .dup) (len := 1) (r := (0, 0, 0, 0)) (pc' := 86) (ls' := [some (.inl (some 52)), some (zi xf), some (zi xw), some (zi xn), l4]) (st' := [.inl (some 52), .inl (some 52)]) (by decide +kernel) (fun k q => by cases q) rfl ?_
        refine y_get (j := 348) (len := 3) (r := (12, 26, 0, 1354)) (by decide +kernel) Q.1 (t52 Q.1) at52 rfl rfl hn26 ?_
        refine y_ic (c := 1) (len := 1) (r := (0, 0, 0, 0)) (by decide +kernel) (by decide) (fun y3579 hy3579 => ?_)
        refine y_add (len := 1) (r := (0, 0, 0, 0)) (by decide +kernel) (by omega) (by omega) (fun y3580 hy3580 => ?_)
        refine y_put (j := 348) (lo := 0) (hi := 300) (len := 3) (r := (12, 26, 0, 1354)) (by decide +kernel) Q.1 (t52 Q.1) at52 rfl rfl (by decide) rfl (by omega) (by omega) rfl (fun h3581 hg3581 hl3581 hs3581 ho3581 => ?_)
        have ho3581 : hO 52 26 h h3581 := ho3581
        have hs3581 : hsl h3581 52 26 = some (zi y3580) := hs3581
        have Q3581 := QM_up Q hg3581 (fun j => ho3581 378 j (by omega))
        refine y_same (i := .aload_n 0) (len := 1) (r := (0, 0, 0, 0)) (pc' := 95) (ls' := [some (.inl (some 52)), some (zi xf), some (zi xw), some (zi xn), l4]) (st' := [.inl (some 52)]) (by decide +kernel) (fun k q => by cases q) rfl ?_
        refine y_get (j := 40) (len := 3) (r := (12, 16, 2, 1344)) (by decide +kernel) hg3581 (t52 hg3581) at52 rfl rfl (g_r52 (f := 16) (T2 := 371) hg3581 rfl (by decide)).1 ?_
        refine y_same (i := .iload_n 3) (len := 1) (r := (0, 0, 0, 0)) (pc' := 99) (ls' := [some (.inl (some 52)), some (zi xf), some (zi xw), some (zi xn), l4]) (st' := [zi xn, .inl (some 371)]) (by decide +kernel) (fun k q => by cases q) rfl ?_
        refine y_same (i := .iload_n 1) (len := 1) (r := (0, 0, 0, 0)) (pc' := 100) (ls' := [some (.inl (some 52)), some (zi xf), some (zi xw), some (zi xn), l4]) (st' := [zi xf, zi xn, .inl (some 371)]) (by decide +kernel) (fun k q => by cases q) rfl ?_
        refine y_ias (i := n) (len := 1) (r := (0, 0, 0, 0)) (by decide +kernel) hg3581 (tu371 hg3581) at371 rfl (by omega) (by omega) (sr1 (by omega)) (by omega) (by omega) (fun h3582 hg3582 hl3582 hs3582 ho3582 => ?_)
        have Q3582 := QM_up Q3581 hg3582 (fun j => ho3582 378 j (by omega))
        refine y_same (i := .aload_n 0) (len := 1) (r := (0, 0, 0, 0)) (pc' := 102) (ls' := [some (.inl (some 52)), some (zi xf), some (zi xw), some (zi xn), l4]) (st' := [.inl (some 52)]) (by decide +kernel) (fun k q => by cases q) rfl ?_
        refine y_get (j := 43) (len := 3) (r := (12, 17, 2, 1345)) (by decide +kernel) hg3582 (t52 hg3582) at52 rfl rfl (g_r52 (f := 17) (T2 := 372) hg3582 rfl (by decide)).1 ?_
        refine y_same (i := .iload_n 3) (len := 1) (r := (0, 0, 0, 0)) (pc' := 106) (ls' := [some (.inl (some 52)), some (zi xf), some (zi xw), some (zi xn), l4]) (st' := [zi xn, .inl (some 372)]) (by decide +kernel) (fun k q => by cases q) rfl ?_
        refine y_same (i := .iload_n 1) (len := 1) (r := (0, 0, 0, 0)) (pc' := 107) (ls' := [some (.inl (some 52)), some (zi xf), some (zi xw), some (zi xn), l4]) (st' := [zi xf, zi xn, .inl (some 372)]) (by decide +kernel) (fun k q => by cases q) rfl ?_
        refine y_ic (c := (-1)) (len := 1) (r := (0, 0, 0, 0)) (by decide +kernel) (by decide) (fun y3583 hy3583 => ?_)
        refine y_cF (c := .ne) (off := 7) (len := 3) (r := (0, 0, 0, 0)) (by decide +kernel) (acmpF (c := .ne) (by show _ = _; omega)) ?_
        refine y_ic (c := 1) (len := 1) (r := (0, 0, 0, 0)) (by decide +kernel) (by decide) (fun y3584 hy3584 => ?_)
        refine y_goto (off := 11) (pc' := 123) (len := 3) (r := (0, 0, 0, 0)) (by decide +kernel) (by decide +kernel) ?_
        refine y_ias (i := n) (len := 1) (r := (0, 0, 0, 0)) (by decide +kernel) hg3582 (tu372 hg3582) at372 rfl (by omega) (by omega) (sr1 (by omega)) (by omega) (by omega) (fun h3585 hg3585 hl3585 hs3585 ho3585 => ?_)
        have Q3585 := QM_up Q3582 hg3585 (fun j => ho3585 378 j (by omega))
        refine y_same (i := .aload_n 0) (len := 1) (r := (0, 0, 0, 0)) (pc' := 125) (ls' := [some (.inl (some 52)), some (zi xf), some (zi xw), some (zi xn), l4]) (st' := [.inl (some 52)]) (by decide +kernel) (fun k q => by cases q) rfl ?_
        refine y_get (j := 55) (len := 3) (r := (12, 21, 2, 1349)) (by decide +kernel) hg3585 (t52 hg3585) at52 rfl rfl (g_r52 (f := 21) (T2 := 376) hg3585 rfl (by decide)).1 ?_
        refine y_same (i := .iload_n 3) (len := 1) (r := (0, 0, 0, 0)) (pc' := 129) (ls' := [some (.inl (some 52)), some (zi xf), some (zi xw), some (zi xn), l4]) (st' := [zi xn, .inl (some 376)]) (by decide +kernel) (fun k q => by cases q) rfl ?_
        refine y_ic (c := (-1)) (len := 1) (r := (0, 0, 0, 0)) (by decide +kernel) (by decide) (fun y3586 hy3586 => ?_)
        refine y_ias (i := n) (len := 1) (r := (0, 0, 0, 0)) (by decide +kernel) hg3585 (tu376 hg3585) at376 rfl (by omega) (by omega) (sr1 (by omega)) (by omega) (by omega) (fun h3587 hg3587 hl3587 hs3587 ho3587 => ?_)
        have Q3587 := QM_up Q3585 hg3587 (fun j => ho3587 378 j (by omega))
        refine y_same (i := .aload_n 0) (len := 1) (r := (0, 0, 0, 0)) (pc' := 132) (ls' := [some (.inl (some 52)), some (zi xf), some (zi xw), some (zi xn), l4]) (st' := [.inl (some 52)]) (by decide +kernel) (fun k q => by cases q) rfl ?_
        refine y_get (j := 61) (len := 3) (r := (12, 23, 2, 1351)) (by decide +kernel) hg3587 (t52 hg3587) at52 rfl rfl (g_r52 (f := 23) (T2 := 378) hg3587 rfl (by decide)).1 ?_
        refine y_same (i := .aload_n 0) (len := 1) (r := (0, 0, 0, 0)) (pc' := 136) (ls' := [some (.inl (some 52)), some (zi xf), some (zi xw), some (zi xn), l4]) (st' := [.inl (some 52), .inl (some 378)]) (by decide +kernel) (fun k q => by cases q) rfl ?_
        refine y_get (j := 37) (len := 3) (r := (12, 15, 2, 1343)) (by decide +kernel) hg3587 (t52 hg3587) at52 rfl rfl (g_r52 (f := 15) (T2 := 70) hg3587 rfl (by decide)).1 ?_
        refine y_same (i := .iload_n 3) (len := 1) (r := (0, 0, 0, 0)) (pc' := 140) (ls' := [some (.inl (some 52)), some (zi xf), some (zi xw), some (zi xn), l4]) (st' := [zi xn, .inl (some 70), .inl (some 378)]) (by decide +kernel) (fun k q => by cases q) rfl ?_
        refine y_aal (i := n) (len := 1) (r := (0, 0, 0, 0)) (by decide +kernel) hg3587 (tu70 hg3587) at70 rfl (by omega) (hg3587.2.2 n (by omega)) ?_
        refine y_si (c := 200) (len := 3) (r := (0, 0, 0, 0)) (by decide +kernel) (by decide) (fun y3588 hy3588 => ?_)
        refine y_cV (i := .invokestatic 216) (len := 3) (r := (1, 185, 12, 1572)) (nL := 4) (k := 0) (n := 3) (hs := []) (args := [.inl (some 378), .inl (some ((71 + n))), zi y3588]) (rest := []) (l0 := [some (.inl (some 378)), some (.inl (some ((71 + n)))), some (zi y3588), none]) (by decide +kernel) (Or.inl ⟨_, rfl⟩) rfl rfl rfl rfl (Nat.le_of_ble_eq_true rfl) rfl rfl (qV_le (by omega) (m_cpy (d := 0) (B := 378) (A := 71 + n) Q3587 (rwT_r hg3587 hn9) (by omega) (by omega) nb)) (fun h3589 hR3589 => ?_)
        obtain ⟨Q3589, F3589⟩ := hR3589
        refine y_same (i := .aload_n 0) (len := 1) (r := (0, 0, 0, 0)) (pc' := 148) (ls' := [some (.inl (some 52)), some (zi xf), some (zi xw), some (zi xn), l4]) (st' := [.inl (some 52)]) (by decide +kernel) (fun k q => by cases q) rfl ?_
        refine y_get (j := 37) (len := 3) (r := (12, 15, 2, 1343)) (by decide +kernel) Q3589.1 (t52 Q3589.1) at52 rfl rfl (g_r52 (f := 15) (T2 := 70) Q3589.1 rfl (by decide)).1 ?_
        refine y_same (i := .iload_n 3) (len := 1) (r := (0, 0, 0, 0)) (pc' := 152) (ls' := [some (.inl (some 52)), some (zi xf), some (zi xw), some (zi xn), l4]) (st' := [zi xn, .inl (some 70)]) (by decide +kernel) (fun k q => by cases q) rfl ?_
        refine y_aal (i := n) (len := 1) (r := (0, 0, 0, 0)) (by decide +kernel) Q3589.1 (tu70 Q3589.1) at70 rfl (by omega) (Q3589.1.2.2 n (by omega)) ?_
        refine y_cI (i := .invokestatic 354) (len := 3) (r := (1, 213, 12, 1709)) (nL := 3) (k := 2) (n := 1) (hs := []) (args := [.inl (some ((71 + n)))]) (rest := []) (l0 := [some (.inl (some ((71 + n)))), none, none]) (by decide +kernel) (Or.inl ⟨_, rfl⟩) rfl rfl rfl rfl (Nat.le_of_ble_eq_true rfl) rfl rfl (qI_le (by omega) (m_vd (d := 0) Q3589)) (fun y3590 qy3590 hRy3590 => ?_)
        obtain ⟨rfl, hDy3590⟩ := hRy3590
        refine y_same (i := .istore 4) (len := 2) (r := (0, 0, 0, 0)) (pc' := 158) (ls' := [some (.inl (some 52)), some (zi xf), some (zi xw), some (zi xn), some (zi y3590)]) (st' := []) (by decide +kernel) (fun k q => by cases q) rfl ?_
        have hv3591 := (ho3582 52 26 (Or.inl (by omega))).trans hs3581
        have hv3592 := (ho3585 52 26 (Or.inl (by omega))).trans hv3591
        have hv3593 := (ho3587 52 26 (Or.inl (by omega))).trans hv3592
        have hv3594 := (F3589 52 26 (by omega)).trans hv3593
        have hv3595 := (ho3585 371 n (Or.inl (by omega))).trans hs3582
        have hv3596 := (ho3587 371 n (Or.inl (by omega))).trans hv3595
        have hv3597 := (F3589 371 n (by omega)).trans hv3596
        have hv3598 := (ho3587 372 n (Or.inl (by omega))).trans hs3585
        have hv3599 := (F3589 372 n (by omega)).trans hv3598
        have hv3600 := (F3589 376 n (by omega)).trans hs3587
        have E0 : ∀ k j, k ≠ 71 + n → (k ≠ 52 ∨ j ≠ 26) → ((k < 371 ∨ 376 < k) ∨ j ≠ n) → hsl h3589 k j = hsl h k j := fun k j _ _ _ => ((F3589 k j (by omega)).trans ((ho3587 k j (by omega)).trans ((ho3585 k j (by omega)).trans ((ho3582 k j (by omega)).trans (ho3581 k j (by omega))))))
        refine rdm_l hn9 (by omega) (mr2 s + 1) h3589 s y3590 Q3589 hDy3590 (by omega) (fun h9 x9 rd g9 e9 F9 => ?_) (fun h9 s9 x9 rd Q9 e9 F9 => ?_)
        ·
          refine y_same (i := .iload 4) (len := 2) (r := (0, 0, 0, 0)) (pc' := 191) (ls' := [some (.inl (some 52)), some (zi xf), some (zi xw), some (zi xn), some (zi x9)]) (st' := [zi x9]) (by decide +kernel) (fun k q => by cases q) rfl ?_
          refine y_iF (c := .eq) (off := 13) (len := 3) (r := (0, 0, 0, 0)) (by decide +kernel) (acmpF (c := .eq) (by show ¬ (_ = _); omega)) ?_
          refine y_same (i := .aload_n 0) (len := 1) (r := (0, 0, 0, 0)) (pc' := 195) (ls' := [some (.inl (some 52)), some (zi xf), some (zi xw), some (zi xn), some (zi x9)]) (st' := [.inl (some 52)]) (by decide +kernel) (fun k q => by cases q) rfl ?_
          refine y_get (j := 46) (len := 3) (r := (12, 18, 2, 1346)) (by decide +kernel) g9 (t52 g9) at52 rfl rfl (g_r52 (f := 18) (T2 := 373) g9 rfl (by decide)).1 ?_
          refine y_same (i := .iload_n 3) (len := 1) (r := (0, 0, 0, 0)) (pc' := 199) (ls' := [some (.inl (some 52)), some (zi xf), some (zi xw), some (zi xn), some (zi x9)]) (st' := [zi xn, .inl (some 373)]) (by decide +kernel) (fun k q => by cases q) rfl ?_
          refine y_ic (c := 0) (len := 1) (r := (0, 0, 0, 0)) (by decide +kernel) (by decide) (fun y3601 hy3601 => ?_)
          refine y_ias (i := n) (len := 1) (r := (0, 0, 0, 0)) (by decide +kernel) g9 (tu373 g9) at373 rfl (by omega) (by omega) (sr1 (by omega)) (by omega) (by omega) (fun h3602 hg3602 hl3602 hs3602 ho3602 => ?_)
          refine y_goto (off := 8) (pc' := 209) (len := 3) (r := (0, 0, 0, 0)) (by decide +kernel) (by decide +kernel) ?_
          refine y_ic (c := 1) (len := 1) (r := (0, 0, 0, 0)) (by decide +kernel) (by decide) (fun y3603 hy3603 => ?_)
          refine y_rI (len := 1) (r := (0, 0, 0, 0)) (nL := 5) (k := 2) (n9 := 3) (hs := []) (by decide +kernel) rfl (zfit_b (by omega) (by omega)).2 ?_
          exact Or.inr ⟨by omega, nb, (s, 0, 0, 0, 1, (-1)), ⟨rfl, rfl, Or.inl ⟨rd, rfl⟩⟩, hg3602, ⟨⟨_, hs3602, by show _ = ((0 : Nat) : Int); omega⟩, ⟨_, ((((ho3602 372 n (by omega)).trans ((F9 372 n (by omega))))).trans hv3599), by show _ = ((1 : Nat) : Int); omega⟩, ⟨_, ((((ho3602 371 n (by omega)).trans ((F9 371 n (by omega))))).trans hv3597), by show _ = ((-1) : Int); omega⟩, fun q => absurd rfl q, fun q => absurd q (by show ¬ 3 ≤ 0; omega), fun q => absurd q (by show ¬ 3 ≤ 0; omega)⟩, ⟨_, ((((ho3602 52 26 (by omega)).trans ((F9 52 26 (by omega))))).trans hv3594), by omega⟩, fun k j h1 h2 h3 => (((ho3602 k j (by omega)).trans ((F9 k j (by omega))))).trans (E0 k j h1 h2 h3)⟩
        ·
          have nb9 := Rd_big rd nb
          have b1 : ¬ 12 < s9.1.length := fun q => nb9 (Or.inl q)
          have b2 : ¬ 12 < s9.2.1.length := fun q => nb9 (Or.inr (Or.inl q))
          have ml : kx_ h9 52 32 1 := kx_up ml0 ((F9 52 32 (by omega)).trans (E0 52 32 (by omega) (by omega) (by omega)))
          refine y_same (i := .iload 4) (len := 2) (r := (0, 0, 0, 0)) (pc' := 191) (ls' := [some (.inl (some 52)), some (zi xf), some (zi xw), some (zi xn), some (zi x9)]) (st' := [zi x9]) (by decide +kernel) (fun k q => by cases q) rfl ?_
          refine y_iT (c := .eq) (off := 13) (pc' := 204) (len := 3) (r := (0, 0, 0, 0)) (by decide +kernel) (acmpT (c := .eq) (by show _ = _; omega)) (by decide +kernel) ?_
          refine y_same (i := .aload_n 0) (len := 1) (r := (0, 0, 0, 0)) (pc' := 205) (ls' := [some (.inl (some 52)), some (zi xf), some (zi xw), some (zi xn), some (zi x9)]) (st' := [.inl (some 52)]) (by decide +kernel) (fun k q => by cases q) rfl ?_
          refine y_same (i := .iload_n 3) (len := 1) (r := (0, 0, 0, 0)) (pc' := 206) (ls' := [some (.inl (some 52)), some (zi xf), some (zi xw), some (zi xn), some (zi x9)]) (st' := [zi xn, .inl (some 52)]) (by decide +kernel) (fun k q => by cases q) rfl ?_
          refine y_cV (i := .invokevirtual 360) (len := 3) (r := (0, 233, 12, 1730)) (nL := 5) (k := 0) (n := 2) (hs := []) (args := [.inl (some 52), zi xn]) (rest := []) (l0 := [some (.inl (some 52)), some (zi xn), none, none, none]) (by decide +kernel) (Or.inr (Or.inl ⟨_, rfl⟩)) rfl rfl rfl rfl (Nat.le_of_ble_eq_true rfl) (z52 Q9.1) rfl (qV_le (by omega) (m_stp (d := 0) Q9 hn9 (by omega) (by omega) (by omega) ⟨_, ((F9 371 n (by omega)).trans hv3597)⟩ (kx_up ml (rfl)) ⟨_, ((F9 376 n (by omega)).trans hv3600), by omega⟩)) (fun h3604 hR3604 => ?_)
          refine y_ic (c := 1) (len := 1) (r := (0, 0, 0, 0)) (by decide +kernel) (by decide) (fun y3605 hy3605 => ?_)
          refine y_rI (len := 1) (r := (0, 0, 0, 0)) (nL := 5) (k := 2) (n9 := 3) (hs := []) (by decide +kernel) rfl (zfit_b (by omega) (by omega)).2 ?_
          rcases hR3604 with ⟨dn, g2, c3, F2⟩ | ⟨dn, g2, ⟨st, r, l, fd, c3, c4, c5⟩, F2⟩
          · exact Or.inr ⟨by omega, nb, (s9, 2, 0, 0, 1, (-1)), ⟨rfl, rfl, Or.inr ⟨s9, rd, rfl, Or.inr (Or.inl ⟨fun q => q, dn, rfl⟩)⟩⟩, g2, ⟨c3, ⟨_, (F2 372 n (by omega)).trans ((F9 372 n (by omega)).trans hv3599), by show _ = ((1 : Nat) : Int); omega⟩, ⟨_, (F2 371 n (by omega)).trans ((F9 371 n (by omega)).trans hv3597), by show _ = ((-1) : Int); omega⟩, fun _ => QM_up Q9 g2 (fun j => F2 (71 + n) j (by omega)), fun q => absurd q (by show ¬ 3 ≤ 2; omega), fun q => absurd q (by show ¬ 3 ≤ 2; omega)⟩, ⟨_, (F2 52 26 (by omega)).trans ((F9 52 26 (by omega)).trans hv3594), by omega⟩, fun k j h1 h2 h3 => (F2 k j (by omega)).trans ((F9 k j (by omega)).trans (E0 k j h1 h2 h3))⟩
          · exact Or.inr ⟨by omega, nb, (s9, st, r, l, 1, (-1)), ⟨rfl, rfl, Or.inr ⟨s9, rd, rfl, Or.inr (Or.inr ⟨fun q => q, dn, fd⟩)⟩⟩, g2, ⟨c3, ⟨_, (F2 372 n (by omega)).trans ((F9 372 n (by omega)).trans hv3599), by show _ = ((1 : Nat) : Int); omega⟩, ⟨_, (F2 371 n (by omega)).trans ((F9 371 n (by omega)).trans hv3597), by show _ = ((-1) : Int); omega⟩, fun _ => QM_up Q9 g2 (fun j => F2 (71 + n) j (by omega)), fun _ => c4, fun _ => c5⟩, ⟨_, (F2 52 26 (by omega)).trans ((F9 52 26 (by omega)).trans hv3594), by omega⟩, fun k j h1 h2 h3 => (F2 k j (by omega)).trans ((F9 k j (by omega)).trans (E0 k j h1 h2 h3))⟩
      ·
        refine y_cF (c := .le) (off := 5) (len := 3) (r := (0, 0, 0, 0)) (by decide +kernel) (acmpF (c := .le) (by show _ < _; omega)) ?_
        refine y_ic (c := 0) (len := 1) (r := (0, 0, 0, 0)) (by decide +kernel) (by decide) (fun y3606 hy3606 => ?_)
        refine y_rI (len := 1) (r := (0, 0, 0, 0)) (nL := 5) (k := 2) (n9 := 3) (hs := []) (by decide +kernel) rfl (zfit_b (by omega) (by omega)).2 ?_
        exact Or.inl ⟨by omega, rfl, Or.inr (Or.inr (by omega))⟩
theorem cmm_n {d t n i row : Nat} {τ : List Nat} {h : zh} {s : sqT} {xf xw : Int32} {l3 l4 : Option zv} (hn9 : n < 300) (Q : QM τ h 378 s) (exf : xf.toInt = (i : Int)) (hi : i < n) (cr : ci_ h 372 i row) (hrow : row ≤ 39) (cn : ci_ h 52 26 n) (ml0 : kx_ h 52 32 1) : qX (d + 6) 231 44 [some (.inl (some 52)), some (zi xf), some (zi xw), l3, l4] [] h t (rI (fun y h1 => (y.toInt = 0 ∧ h = h1 ∧ big_ s) ∨ (y.toInt = 1 ∧ ¬ big_ s ∧ ∃ e, setR (fun _ => False) true s (i : Int) (row + 1) e ∧ hG τ h1 ∧ pmE τ h1 n e ∧ ci_ h1 52 26 (n + 1) ∧ ∀ k j, k ≠ 71 + n → (k ≠ 52 ∨ j ≠ 26) → ((k < 371 ∨ 376 < k) ∨ j ≠ n) → hsl h1 k j = hsl h k j)) t) := by
  obtain ⟨xn, hn26, en⟩ := cn
  obtain ⟨xr, hr372, er⟩ := cr
  obtain ⟨T, c0, tA, aT, hc0, pT⟩ := rwT_r (n := n) Q.1 hn9
  refine y_same (i := .aload_n 0) (len := 1) (r := (0, 0, 0, 0)) (pc' := 45) (ls' := [some (.inl (some 52)), some (zi xf), some (zi xw), l3, l4]) (st' := [.inl (some 52)]) (by decide +kernel) (fun k q => by cases q) rfl ?_
  refine y_get (j := 61) (len := 3) (r := (12, 23, 2, 1351)) (by decide +kernel) Q.1 (t52 Q.1) at52 rfl rfl (g_r52 (f := 23) (T2 := 378) Q.1 rfl (by decide)).1 ?_
  refine y_ic (c := 0) (len := 1) (r := (0, 0, 0, 0)) (by decide +kernel) (by decide) (fun y3607 hy3607 => ?_)
  obtain ⟨z3608, hz3608, ez3608⟩ := Q.2.2.1.1
  have ez3608 : z3608.toInt = ((s.1.length : Nat) : Int) := ez3608
  have mz3608 := qm_lenL Q
  have mz3608 : s.1.length ≤ 14 := mz3608
  refine y_ial (i := 0) (len := 1) (r := (0, 0, 0, 0)) (by decide +kernel) Q.1 (tu378 Q.1) at378 (by omega) hz3608 ?_
  refine y_bi (c := 12) (len := 2) (r := (0, 0, 0, 0)) (by decide +kernel) (by decide) (fun y3609 hy3609 => ?_)
  rcases Decidable.em (z3608.toInt > y3609.toInt) with q3610 | q3610
  ·
    refine y_cT (c := .gt) (off := 25) (pc' := 77) (len := 3) (r := (0, 0, 0, 0)) (by decide +kernel) (acmpT (c := .gt) (by show _ < _; omega)) (by decide +kernel) ?_
    refine y_ic (c := 0) (len := 1) (r := (0, 0, 0, 0)) (by decide +kernel) (by decide) (fun y3611 hy3611 => ?_)
    refine y_rI (len := 1) (r := (0, 0, 0, 0)) (nL := 5) (k := 2) (n9 := 3) (hs := []) (by decide +kernel) rfl (zfit_b (by omega) (by omega)).2 ?_
    exact Or.inl ⟨by omega, rfl, Or.inl (by omega)⟩
  ·
    refine y_cF (c := .gt) (off := 25) (len := 3) (r := (0, 0, 0, 0)) (by decide +kernel) (acmpF (c := .gt) (by show _ ≤ _; omega)) ?_
    refine y_same (i := .aload_n 0) (len := 1) (r := (0, 0, 0, 0)) (pc' := 56) (ls' := [some (.inl (some 52)), some (zi xf), some (zi xw), l3, l4]) (st' := [.inl (some 52)]) (by decide +kernel) (fun k q => by cases q) rfl ?_
    refine y_get (j := 61) (len := 3) (r := (12, 23, 2, 1351)) (by decide +kernel) Q.1 (t52 Q.1) at52 rfl rfl (g_r52 (f := 23) (T2 := 378) Q.1 rfl (by decide)).1 ?_
    refine y_ic (c := 1) (len := 1) (r := (0, 0, 0, 0)) (by decide +kernel) (by decide) (fun y3612 hy3612 => ?_)
    obtain ⟨z3613, hz3613, ez3613⟩ := Q.2.2.1.2.1
    have ez3613 : z3613.toInt = ((s.2.1.length : Nat) : Int) := ez3613
    have mz3613 := qm_lenR Q
    have mz3613 : s.2.1.length ≤ 14 := mz3613
    refine y_ial (i := 1) (len := 1) (r := (0, 0, 0, 0)) (by decide +kernel) Q.1 (tu378 Q.1) at378 (by omega) hz3613 ?_
    refine y_bi (c := 12) (len := 2) (r := (0, 0, 0, 0)) (by decide +kernel) (by decide) (fun y3614 hy3614 => ?_)
    rcases Decidable.em (z3613.toInt > y3614.toInt) with q3615 | q3615
    ·
      refine y_cT (c := .gt) (off := 14) (pc' := 77) (len := 3) (r := (0, 0, 0, 0)) (by decide +kernel) (acmpT (c := .gt) (by show _ < _; omega)) (by decide +kernel) ?_
      refine y_ic (c := 0) (len := 1) (r := (0, 0, 0, 0)) (by decide +kernel) (by decide) (fun y3616 hy3616 => ?_)
      refine y_rI (len := 1) (r := (0, 0, 0, 0)) (nL := 5) (k := 2) (n9 := 3) (hs := []) (by decide +kernel) rfl (zfit_b (by omega) (by omega)).2 ?_
      exact Or.inl ⟨by omega, rfl, Or.inr (Or.inl (by omega))⟩
    ·
      refine y_cF (c := .gt) (off := 14) (len := 3) (r := (0, 0, 0, 0)) (by decide +kernel) (acmpF (c := .gt) (by show _ ≤ _; omega)) ?_
      refine y_same (i := .aload_n 0) (len := 1) (r := (0, 0, 0, 0)) (pc' := 67) (ls' := [some (.inl (some 52)), some (zi xf), some (zi xw), l3, l4]) (st' := [.inl (some 52)]) (by decide +kernel) (fun k q => by cases q) rfl ?_
      refine y_get (j := 61) (len := 3) (r := (12, 23, 2, 1351)) (by decide +kernel) Q.1 (t52 Q.1) at52 rfl rfl (g_r52 (f := 23) (T2 := 378) Q.1 rfl (by decide)).1 ?_
      refine y_ic (c := 2) (len := 1) (r := (0, 0, 0, 0)) (by decide +kernel) (by decide) (fun y3617 hy3617 => ?_)
      obtain ⟨z3618, hz3618, ez3618⟩ := Q.2.2.1.2.2.1
      have ez3618 : z3618.toInt = ((s.2.2.1.length : Nat) : Int) := ez3618
      have mz3618 := qm_lenC Q
      have mz3618 : s.2.2.1.length ≤ 14 := mz3618
      refine y_ial (i := 2) (len := 1) (r := (0, 0, 0, 0)) (by decide +kernel) Q.1 (tu378 Q.1) at378 (by omega) hz3618 ?_
      refine y_bi (c := 12) (len := 2) (r := (0, 0, 0, 0)) (by decide +kernel) (by decide) (fun y3619 hy3619 => ?_)
      rcases Decidable.em (z3618.toInt ≤ y3619.toInt) with q3620 | q3620
      ·
        refine y_cT (c := .le) (off := 5) (pc' := 79) (len := 3) (r := (0, 0, 0, 0)) (by decide +kernel) (acmpT (c := .le) (by show _ ≤ _; omega)) (by decide +kernel) ?_
        have nb : ¬ big_ s := fun q9 => q9.elim (fun q8 => by omega) (fun q8 => q8.elim (fun q7 => by omega) (fun q7 => by omega))
        have ok9 := Q.2.2.2
        refine y_same (i := .aload_n 0) (len := 1) (r := (0, 0, 0, 0)) (pc' := 80) (ls' := [some (.inl (some 52)), some (zi xf), some (zi xw), l3, l4]) (st' := [.inl (some 52)]) (by decide +kernel) (fun k q => by cases q) rfl ?_
        refine y_get (j := 348) (len := 3) (r := (12, 26, 0, 1354)) (by decide +kernel) Q.1 (t52 Q.1) at52 rfl rfl hn26 ?_
        refine y_same (i := .istore_n 3) (len := 1) (r := (0, 0, 0, 0)) (pc' := 84) (ls' := [some (.inl (some 52)), some (zi xf), some (zi xw), some (zi xn), l4]) (st' := []) (by decide +kernel) (fun k q => by cases q) rfl ?_
        refine y_same (i := .aload_n 0) (len := 1) (r := (0, 0, 0, 0)) (pc' := 85) (ls' := [some (.inl (some 52)), some (zi xf), some (zi xw), some (zi xn), l4]) (st' := [.inl (some 52)]) (by decide +kernel) (fun k q => by cases q) rfl ?_
        refine y_same (i := .dup) (len := 1) (r := (0, 0, 0, 0)) (pc' := 86) (ls' := [some (.inl (some 52)), some (zi xf), some (zi xw), some (zi xn), l4]) (st' := [.inl (some 52), .inl (some 52)]) (by decide +kernel) (fun k q => by cases q) rfl ?_
        refine y_get (j := 348) (len := 3) (r := (12, 26, 0, 1354)) (by decide +kernel) Q.1 (t52 Q.1) at52 rfl rfl hn26 ?_
        refine y_ic (c := 1) (len := 1) (r := (0, 0, 0, 0)) (by decide +kernel) (by decide) (fun y3621 hy3621 => ?_)
        refine y_add (len := 1) (r := (0, 0, 0, 0)) (by decide +kernel) (by omega) (by omega) (fun y3622 hy3622 => ?_)
        refine y_put (j := 348) (lo := 0) (hi := 300) (len := 3) (r := (12, 26, 0, 1354)) (by decide +kernel) Q.1 (t52 Q.1) at52 rfl rfl (by decide) rfl (by omega) (by omega) rfl (fun h3623 hg3623 hl3623 hs3623 ho3623 => ?_)
        have ho3623 : hO 52 26 h h3623 := ho3623
        have hs3623 : hsl h3623 52 26 = some (zi y3622) := hs3623
        have Q3623 := QM_up Q hg3623 (fun j => ho3623 378 j (by omega))
        refine y_same (i := .aload_n 0) (len := 1) (r := (0, 0, 0, 0)) (pc' := 95) (ls' := [some (.inl (some 52)), some (zi xf), some (zi xw), some (zi xn), l4]) (st' := [.inl (some 52)]) (by decide +kernel) (fun k q => by cases q) rfl ?_
        refine y_get (j := 40) (len := 3) (r := (12, 16, 2, 1344)) (by decide +kernel) hg3623 (t52 hg3623) at52 rfl rfl (g_r52 (f := 16) (T2 := 371) hg3623 rfl (by decide)).1 ?_
        refine y_same (i := .iload_n 3) (len := 1) (r := (0, 0, 0, 0)) (pc' := 99) (ls' := [some (.inl (some 52)), some (zi xf), some (zi xw), some (zi xn), l4]) (st' := [zi xn, .inl (some 371)]) (by decide +kernel) (fun k q => by cases q) rfl ?_
        refine y_same (i := .iload_n 1) (len := 1) (r := (0, 0, 0, 0)) (pc' := 100) (ls' := [some (.inl (some 52)), some (zi xf), some (zi xw), some (zi xn), l4]) (st' := [zi xf, zi xn, .inl (some 371)]) (by decide +kernel) (fun k q => by cases q) rfl ?_
        refine y_ias (i := n) (len := 1) (r := (0, 0, 0, 0)) (by decide +kernel) hg3623 (tu371 hg3623) at371 rfl (by omega) (by omega) (sr1 (by omega)) (by omega) (by omega) (fun h3624 hg3624 hl3624 hs3624 ho3624 => ?_)
        have Q3624 := QM_up Q3623 hg3624 (fun j => ho3624 378 j (by omega))
        refine y_same (i := .aload_n 0) (len := 1) (r := (0, 0, 0, 0)) (pc' := 102) (ls' := [some (.inl (some 52)), some (zi xf), some (zi xw), some (zi xn), l4]) (st' := [.inl (some 52)]) (by decide +kernel) (fun k q => by cases q) rfl ?_
        refine y_get (j := 43) (len := 3) (r := (12, 17, 2, 1345)) (by decide +kernel) hg3624 (t52 hg3624) at52 rfl rfl (g_r52 (f := 17) (T2 := 372) hg3624 rfl (by decide)).1 ?_
        refine y_same (i := .iload_n 3) (len := 1) (r := (0, 0, 0, 0)) (pc' := 106) (ls' := [some (.inl (some 52)), some (zi xf), some (zi xw), some (zi xn), l4]) (st' := [zi xn, .inl (some 372)]) (by decide +kernel) (fun k q => by cases q) rfl ?_
        refine y_same (i := .iload_n 1) (len := 1) (r := (0, 0, 0, 0)) (pc' := 107) (ls' := [some (.inl (some 52)), some (zi xf), some (zi xw), some (zi xn), l4]) (st' := [zi xf, zi xn, .inl (some 372)]) (by decide +kernel) (fun k q => by cases q) rfl ?_
        refine y_ic (c := (-1)) (len := 1) (r := (0, 0, 0, 0)) (by decide +kernel) (by decide) (fun y3625 hy3625 => ?_)
        refine y_cT (c := .ne) (off := 7) (pc' := 115) (len := 3) (r := (0, 0, 0, 0)) (by decide +kernel) (acmpT (c := .ne) (by show ¬ (_ = _); omega)) (by decide +kernel) ?_
        refine y_same (i := .aload_n 0) (len := 1) (r := (0, 0, 0, 0)) (pc' := 116) (ls' := [some (.inl (some 52)), some (zi xf), some (zi xw), some (zi xn), l4]) (st' := [.inl (some 52), zi xn, .inl (some 372)]) (by decide +kernel) (fun k q => by cases q) rfl ?_
        refine y_get (j := 43) (len := 3) (r := (12, 17, 2, 1345)) (by decide +kernel) hg3624 (t52 hg3624) at52 rfl rfl (g_r52 (f := 17) (T2 := 372) hg3624 rfl (by decide)).1 ?_
        refine y_same (i := .iload_n 1) (len := 1) (r := (0, 0, 0, 0)) (pc' := 120) (ls' := [some (.inl (some 52)), some (zi xf), some (zi xw), some (zi xn), l4]) (st' := [zi xf, .inl (some 372), zi xn, .inl (some 372)]) (by decide +kernel) (fun k q => by cases q) rfl ?_
        have hv3626 := (ho3623 372 i (Or.inl (by omega))).trans hr372
        have hv3627 := (ho3624 372 i (Or.inl (by omega))).trans hv3626
        refine y_ial (i := i) (len := 1) (r := (0, 0, 0, 0)) (by decide +kernel) hg3624 (tu372 hg3624) at372 (by omega) hv3627 ?_
        refine y_ic (c := 1) (len := 1) (r := (0, 0, 0, 0)) (by decide +kernel) (by decide) (fun y3628 hy3628 => ?_)
        refine y_add (len := 1) (r := (0, 0, 0, 0)) (by decide +kernel) (by omega) (by omega) (fun y3629 hy3629 => ?_)
        refine y_ias (i := n) (len := 1) (r := (0, 0, 0, 0)) (by decide +kernel) hg3624 (tu372 hg3624) at372 rfl (by omega) (by omega) (sr1 (by omega)) (by omega) (by omega) (fun h3630 hg3630 hl3630 hs3630 ho3630 => ?_)
        have Q3630 := QM_up Q3624 hg3630 (fun j => ho3630 378 j (by omega))
        refine y_same (i := .aload_n 0) (len := 1) (r := (0, 0, 0, 0)) (pc' := 125) (ls' := [some (.inl (some 52)), some (zi xf), some (zi xw), some (zi xn), l4]) (st' := [.inl (some 52)]) (by decide +kernel) (fun k q => by cases q) rfl ?_
        refine y_get (j := 55) (len := 3) (r := (12, 21, 2, 1349)) (by decide +kernel) hg3630 (t52 hg3630) at52 rfl rfl (g_r52 (f := 21) (T2 := 376) hg3630 rfl (by decide)).1 ?_
        refine y_same (i := .iload_n 3) (len := 1) (r := (0, 0, 0, 0)) (pc' := 129) (ls' := [some (.inl (some 52)), some (zi xf), some (zi xw), some (zi xn), l4]) (st' := [zi xn, .inl (some 376)]) (by decide +kernel) (fun k q => by cases q) rfl ?_
        refine y_ic (c := (-1)) (len := 1) (r := (0, 0, 0, 0)) (by decide +kernel) (by decide) (fun y3631 hy3631 => ?_)
        refine y_ias (i := n) (len := 1) (r := (0, 0, 0, 0)) (by decide +kernel) hg3630 (tu376 hg3630) at376 rfl (by omega) (by omega) (sr1 (by omega)) (by omega) (by omega) (fun h3632 hg3632 hl3632 hs3632 ho3632 => ?_)
        have Q3632 := QM_up Q3630 hg3632 (fun j => ho3632 378 j (by omega))
        refine y_same (i := .aload_n 0) (len := 1) (r := (0, 0, 0, 0)) (pc' := 132) (ls' := [some (.inl (some 52)), some (zi xf), some (zi xw), some (zi xn), l4]) (st' := [.inl (some 52)]) (by decide +kernel) (fun k q => by cases q) rfl ?_
        refine y_get (j := 61) (len := 3) (r := (12, 23, 2, 1351)) (by decide +kernel) hg3632 (t52 hg3632) at52 rfl rfl (g_r52 (f := 23) (T2 := 378) hg3632 rfl (by decide)).1 ?_
        refine y_same (i := .aload_n 0) (len := 1) (r := (0, 0, 0, 0)) (pc' := 136) (ls' := [some (.inl (some 52)), some (zi xf), some (zi xw), some (zi xn), l4]) (st' := [.inl (some 52), .inl (some 378)]) (by decide +kernel) (fun k q => by cases q) rfl ?_
        refine y_get (j := 37) (len := 3) (r := (12, 15, 2, 1343)) (by decide +kernel) hg3632 (t52 hg3632) at52 rfl rfl (g_r52 (f := 15) (T2 := 70) hg3632 rfl (by decide)).1 ?_
        refine y_same (i := .iload_n 3) (len := 1) (r := (0, 0, 0, 0)) (pc' := 140) (ls' := [some (.inl (some 52)), some (zi xf), some (zi xw), some (zi xn), l4]) (st' := [zi xn, .inl (some 70), .inl (some 378)]) (by decide +kernel) (fun k q => by cases q) rfl ?_
        refine y_aal (i := n) (len := 1) (r := (0, 0, 0, 0)) (by decide +kernel) hg3632 (tu70 hg3632) at70 rfl (by omega) (hg3632.2.2 n (by omega)) ?_
        refine y_si (c := 200) (len := 3) (r := (0, 0, 0, 0)) (by decide +kernel) (by decide) (fun y3633 hy3633 => ?_)
        refine y_cV (i := .invokestatic 216) (len := 3) (r := (1, 185, 12, 1572)) (nL := 4) (k := 0) (n := 3) (hs := []) (args := [.inl (some 378), .inl (some ((71 + n))), zi y3633]) (rest := []) (l0 := [some (.inl (some 378)), some (.inl (some ((71 + n)))), some (zi y3633), none]) (by decide +kernel) (Or.inl ⟨_, rfl⟩) rfl rfl rfl rfl (Nat.le_of_ble_eq_true rfl) rfl rfl (qV_le (by omega) (m_cpy (d := 0) (B := 378) (A := 71 + n) Q3632 (rwT_r hg3632 hn9) (by omega) (by omega) nb)) (fun h3634 hR3634 => ?_)
        obtain ⟨Q3634, F3634⟩ := hR3634
        refine y_same (i := .aload_n 0) (len := 1) (r := (0, 0, 0, 0)) (pc' := 148) (ls' := [some (.inl (some 52)), some (zi xf), some (zi xw), some (zi xn), l4]) (st' := [.inl (some 52)]) (by decide +kernel) (fun k q => by cases q) rfl ?_
        refine y_get (j := 37) (len := 3) (r := (12, 15, 2, 1343)) (by decide +kernel) Q3634.1 (t52 Q3634.1) at52 rfl rfl (g_r52 (f := 15) (T2 := 70) Q3634.1 rfl (by decide)).1 ?_
        refine y_same (i := .iload_n 3) (len := 1) (r := (0, 0, 0, 0)) (pc' := 152) (ls' := [some (.inl (some 52)), some (zi xf), some (zi xw), some (zi xn), l4]) (st' := [zi xn, .inl (some 70)]) (by decide +kernel) (fun k q => by cases q) rfl ?_
        refine y_aal (i := n) (len := 1) (r := (0, 0, 0, 0)) (by decide +kernel) Q3634.1 (tu70 Q3634.1) at70 rfl (by omega) (Q3634.1.2.2 n (by omega)) ?_
        refine y_cI (i := .invokestatic 354) (len := 3) (r := (1, 213, 12, 1709)) (nL := 3) (k := 2) (n := 1) (hs := []) (args := [.inl (some ((71 + n)))]) (rest := []) (l0 := [some (.inl (some ((71 + n)))), none, none]) (by decide +kernel) (Or.inl ⟨_, rfl⟩) rfl rfl rfl rfl (Nat.le_of_ble_eq_true rfl) rfl rfl (qI_le (by omega) (m_vd (d := 0) Q3634)) (fun y3635 qy3635 hRy3635 => ?_)
        obtain ⟨rfl, hDy3635⟩ := hRy3635
        refine y_same (i := .istore 4) (len := 2) (r := (0, 0, 0, 0)) (pc' := 158) (ls' := [some (.inl (some 52)), some (zi xf), some (zi xw), some (zi xn), some (zi y3635)]) (st' := []) (by decide +kernel) (fun k q => by cases q) rfl ?_
        have hv3636 := (ho3624 52 26 (Or.inl (by omega))).trans hs3623
        have hv3637 := (ho3630 52 26 (Or.inl (by omega))).trans hv3636
        have hv3638 := (ho3632 52 26 (Or.inl (by omega))).trans hv3637
        have hv3639 := (F3634 52 26 (by omega)).trans hv3638
        have hv3640 := (ho3630 371 n (Or.inl (by omega))).trans hs3624
        have hv3641 := (ho3632 371 n (Or.inl (by omega))).trans hv3640
        have hv3642 := (F3634 371 n (by omega)).trans hv3641
        have hv3643 := (ho3632 372 n (Or.inl (by omega))).trans hs3630
        have hv3644 := (F3634 372 n (by omega)).trans hv3643
        have hv3645 := (F3634 376 n (by omega)).trans hs3632
        have E0 : ∀ k j, k ≠ 71 + n → (k ≠ 52 ∨ j ≠ 26) → ((k < 371 ∨ 376 < k) ∨ j ≠ n) → hsl h3634 k j = hsl h k j := fun k j _ _ _ => ((F3634 k j (by omega)).trans ((ho3632 k j (by omega)).trans ((ho3630 k j (by omega)).trans ((ho3624 k j (by omega)).trans (ho3623 k j (by omega))))))
        refine rdm_l hn9 (by omega) (mr2 s + 1) h3634 s y3635 Q3634 hDy3635 (by omega) (fun h9 x9 rd g9 e9 F9 => ?_) (fun h9 s9 x9 rd Q9 e9 F9 => ?_)
        ·
          refine y_same (i := .iload 4) (len := 2) (r := (0, 0, 0, 0)) (pc' := 191) (ls' := [some (.inl (some 52)), some (zi xf), some (zi xw), some (zi xn), some (zi x9)]) (st' := [zi x9]) (by decide +kernel) (fun k q => by cases q) rfl ?_
          refine y_iF (c := .eq) (off := 13) (len := 3) (r := (0, 0, 0, 0)) (by decide +kernel) (acmpF (c := .eq) (by show ¬ (_ = _); omega)) ?_
          refine y_same (i := .aload_n 0) (len := 1) (r := (0, 0, 0, 0)) (pc' := 195) (ls' := [some (.inl (some 52)), some (zi xf), some (zi xw), some (zi xn), some (zi x9)]) (st' := [.inl (some 52)]) (by decide +kernel) (fun k q => by cases q) rfl ?_
          refine y_get (j := 46) (len := 3) (r := (12, 18, 2, 1346)) (by decide +kernel) g9 (t52 g9) at52 rfl rfl (g_r52 (f := 18) (T2 := 373) g9 rfl (by decide)).1 ?_
          refine y_same (i := .iload_n 3) (len := 1) (r := (0, 0, 0, 0)) (pc' := 199) (ls' := [some (.inl (some 52)), some (zi xf), some (zi xw), some (zi xn), some (zi x9)]) (st' := [zi xn, .inl (some 373)]) (by decide +kernel) (fun k q => by cases q) rfl ?_
          refine y_ic (c := 0) (len := 1) (r := (0, 0, 0, 0)) (by decide +kernel) (by decide) (fun y3646 hy3646 => ?_)
          refine y_ias (i := n) (len := 1) (r := (0, 0, 0, 0)) (by decide +kernel) g9 (tu373 g9) at373 rfl (by omega) (by omega) (sr1 (by omega)) (by omega) (by omega) (fun h3647 hg3647 hl3647 hs3647 ho3647 => ?_)
          refine y_goto (off := 8) (pc' := 209) (len := 3) (r := (0, 0, 0, 0)) (by decide +kernel) (by decide +kernel) ?_
          refine y_ic (c := 1) (len := 1) (r := (0, 0, 0, 0)) (by decide +kernel) (by decide) (fun y3648 hy3648 => ?_)
          refine y_rI (len := 1) (r := (0, 0, 0, 0)) (nL := 5) (k := 2) (n9 := 3) (hs := []) (by decide +kernel) rfl (zfit_b (by omega) (by omega)).2 ?_
          exact Or.inr ⟨by omega, nb, (s, 0, 0, 0, (row + 1), (i : Int)), ⟨rfl, rfl, Or.inl ⟨rd, rfl⟩⟩, hg3647, ⟨⟨_, hs3647, by show _ = ((0 : Nat) : Int); omega⟩, ⟨_, ((((ho3647 372 n (by omega)).trans ((F9 372 n (by omega))))).trans hv3644), by show _ = (((row + 1) : Nat) : Int); omega⟩, ⟨_, ((((ho3647 371 n (by omega)).trans ((F9 371 n (by omega))))).trans hv3642), by show _ = ((i : Int) : Int); omega⟩, fun q => absurd rfl q, fun q => absurd q (by show ¬ 3 ≤ 0; omega), fun q => absurd q (by show ¬ 3 ≤ 0; omega)⟩, ⟨_, ((((ho3647 52 26 (by omega)).trans ((F9 52 26 (by omega))))).trans hv3639), by omega⟩, fun k j h1 h2 h3 => (((ho3647 k j (by omega)).trans ((F9 k j (by omega))))).trans (E0 k j h1 h2 h3)⟩
        ·
          have nb9 := Rd_big rd nb
          have b1 : ¬ 12 < s9.1.length := fun q => nb9 (Or.inl q)
          have b2 : ¬ 12 < s9.2.1.length := fun q => nb9 (Or.inr (Or.inl q))
          have ml : kx_ h9 52 32 1 := kx_up ml0 ((F9 52 32 (by omega)).trans (E0 52 32 (by omega) (by omega) (by omega)))
          refine y_same (i := .iload 4) (len := 2) (r := (0, 0, 0, 0)) (pc' := 191) (ls' := [some (.inl (some 52)), some (zi xf), some (zi xw), some (zi xn), some (zi x9)]) (st' := [zi x9]) (by decide +kernel) (fun k q => by cases q) rfl ?_
          refine y_iT (c := .eq) (off := 13) (pc' := 204) (len := 3) (r := (0, 0, 0, 0)) (by decide +kernel) (acmpT (c := .eq) (by show _ = _; omega)) (by decide +kernel) ?_
          refine y_same (i := .aload_n 0) (len := 1) (r := (0, 0, 0, 0)) (pc' := 205) (ls' := [some (.inl (some 52)), some (zi xf), some (zi xw), some (zi xn), some (zi x9)]) (st' := [.inl (some 52)]) (by decide +kernel) (fun k q => by cases q) rfl ?_
          refine y_same (i := .iload_n 3) (len := 1) (r := (0, 0, 0, 0)) (pc' := 206) (ls' := [some (.inl (some 52)), some (zi xf), some (zi xw), some (zi xn), some (zi x9)]) (st' := [zi xn, .inl (some 52)]) (by decide +kernel) (fun k q => by cases q) rfl ?_
          refine y_cV (i := .invokevirtual 360) (len := 3) (r := (0, 233, 12, 1730)) (nL := 5) (k := 0) (n := 2) (hs := []) (args := [.inl (some 52), zi xn]) (rest := []) (l0 := [some (.inl (some 52)), some (zi xn), none, none, none]) (by decide +kernel) (Or.inr (Or.inl ⟨_, rfl⟩)) rfl rfl rfl rfl (Nat.le_of_ble_eq_true rfl) (z52 Q9.1) rfl (qV_le (by omega) (m_stp (d := 0) Q9 hn9 (by omega) (by omega) (by omega) ⟨_, ((F9 371 n (by omega)).trans hv3642)⟩ (kx_up ml (rfl)) ⟨_, ((F9 376 n (by omega)).trans hv3645), by omega⟩)) (fun h3649 hR3649 => ?_)
          refine y_ic (c := 1) (len := 1) (r := (0, 0, 0, 0)) (by decide +kernel) (by decide) (fun y3650 hy3650 => ?_)
          refine y_rI (len := 1) (r := (0, 0, 0, 0)) (nL := 5) (k := 2) (n9 := 3) (hs := []) (by decide +kernel) rfl (zfit_b (by omega) (by omega)).2 ?_
          rcases hR3649 with ⟨dn, g2, c3, F2⟩ | ⟨dn, g2, ⟨st, r, l, fd, c3, c4, c5⟩, F2⟩
          · exact Or.inr ⟨by omega, nb, (s9, 2, 0, 0, (row + 1), (i : Int)), ⟨rfl, rfl, Or.inr ⟨s9, rd, rfl, Or.inr (Or.inl ⟨fun q => q, dn, rfl⟩)⟩⟩, g2, ⟨c3, ⟨_, (F2 372 n (by omega)).trans ((F9 372 n (by omega)).trans hv3644), by show _ = (((row + 1) : Nat) : Int); omega⟩, ⟨_, (F2 371 n (by omega)).trans ((F9 371 n (by omega)).trans hv3642), by show _ = ((i : Int) : Int); omega⟩, fun _ => QM_up Q9 g2 (fun j => F2 (71 + n) j (by omega)), fun q => absurd q (by show ¬ 3 ≤ 2; omega), fun q => absurd q (by show ¬ 3 ≤ 2; omega)⟩, ⟨_, (F2 52 26 (by omega)).trans ((F9 52 26 (by omega)).trans hv3639), by omega⟩, fun k j h1 h2 h3 => (F2 k j (by omega)).trans ((F9 k j (by omega)).trans (E0 k j h1 h2 h3))⟩
          · exact Or.inr ⟨by omega, nb, (s9, st, r, l, (row + 1), (i : Int)), ⟨rfl, rfl, Or.inr ⟨s9, rd, rfl, Or.inr (Or.inr ⟨fun q => q, dn, fd⟩)⟩⟩, g2, ⟨c3, ⟨_, (F2 372 n (by omega)).trans ((F9 372 n (by omega)).trans hv3644), by show _ = (((row + 1) : Nat) : Int); omega⟩, ⟨_, (F2 371 n (by omega)).trans ((F9 371 n (by omega)).trans hv3642), by show _ = ((i : Int) : Int); omega⟩, fun _ => QM_up Q9 g2 (fun j => F2 (71 + n) j (by omega)), fun _ => c4, fun _ => c5⟩, ⟨_, (F2 52 26 (by omega)).trans ((F9 52 26 (by omega)).trans hv3639), by omega⟩, fun k j h1 h2 h3 => (F2 k j (by omega)).trans ((F9 k j (by omega)).trans (E0 k j h1 h2 h3))⟩
      ·
        refine y_cF (c := .le) (off := 5) (len := 3) (r := (0, 0, 0, 0)) (by decide +kernel) (acmpF (c := .le) (by show _ < _; omega)) ?_
        refine y_ic (c := 0) (len := 1) (r := (0, 0, 0, 0)) (by decide +kernel) (by decide) (fun y3651 hy3651 => ?_)
        refine y_rI (len := 1) (r := (0, 0, 0, 0)) (nL := 5) (k := 2) (n9 := 3) (hs := []) (by decide +kernel) rfl (zfit_b (by omega) (by omega)).2 ?_
        exact Or.inl ⟨by omega, rfl, Or.inr (Or.inr (by omega))⟩
