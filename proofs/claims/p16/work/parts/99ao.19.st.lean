/-! the class's prover: the next one comes -/
def gR (h : zh) (P : Nat) : Prop := ∃ x : Int32, hsl h P 10 = some (zi x) ∧ 0 ≤ x.toInt ∧ x.toInt ≤ 20
theorem ng_l28 {d t : Nat} {τ : List Nat} {xm : Int32} : ∀ (n : Nat) (h : zh) (i : Nat) (xi : Int32), (hG τ h) → (gR h 28) → (xi.toInt = (i : Int)) → (1 ≤ i) → (i ≤ 21) → (21 < i + n) → qX d 43 7 [some (.inl (some 28)), some (zi xm), some (zi xi)] [] h t (rV (fun h1 => hG τ h1 ∧ gR h1 28 ∧ ∀ k j, (k ≠ 28 ∨ j ≠ 10) → hsl h1 k j = hsl h k j) t) := by
  intro n
  induction n with
  | zero =>
    intro h i xi hg gr hxi h1 hi hn
    exfalso
    omega
  | succ n ih =>
    intro h i xi hg gr hxi h1 hi hn
    skip
    refine y_same (i := .iload_n 2) (len := 1) (r := (0, 0, 0, 0)) (pc' := 8) (ls' := [some (.inl (some 28)), some (zi xm), some (zi xi)]) (st' := [zi xi]) (by decide +kernel) (fun k q => by cases q) rfl ?_
    refine y_bi (c := 21) (len := 2) (r := (0, 0, 0, 0)) (by decide +kernel) (by decide) (fun y2561 hy2561 => ?_)
    rcases Decidable.em (xi.toInt ≥ y2561.toInt) with q2562 | q2562
    ·
      refine y_cT (c := .ge) (off := 23) (pc' := 33) (len := 3) (r := (0, 0, 0, 0)) (by decide +kernel) (acmpT (c := .ge) (by show _ ≤ _; omega)) (by decide +kernel) ?_
      refine y_rV (len := 1) (r := (0, 0, 0, 0)) (nL := 3) (n9 := 2) (hs := []) (by decide +kernel) rfl ?_
      exact ⟨hg, gr, fun k j _ => rfl⟩
    ·
      refine y_cF (c := .ge) (off := 23) (len := 3) (r := (0, 0, 0, 0)) (by decide +kernel) (acmpF (c := .ge) (by show _ < _; omega)) ?_
      refine y_same (i := .iload_n 1) (len := 1) (r := (0, 0, 0, 0)) (pc' := 14) (ls' := [some (.inl (some 28)), some (zi xm), some (zi xi)]) (st' := [zi xm]) (by decide +kernel) (fun k q => by cases q) rfl ?_
      refine y_same (i := .iload_n 2) (len := 1) (r := (0, 0, 0, 0)) (pc' := 15) (ls' := [some (.inl (some 28)), some (zi xm), some (zi xi)]) (st' := [zi xi, zi xm]) (by decide +kernel) (fun k q => by cases q) rfl ?_
      refine y_bp (i := .ishr) (f := fun x y => x >>> (y &&& 31)) (len := 1) (r := (0, 0, 0, 0)) (by decide +kernel) rfl rfl (fun y2563 hy2563 => ?_)
      have hy2563 : y2563 = xm >>> (xi &&& 31) := hy2563
      refine y_ic (c := 1) (len := 1) (r := (0, 0, 0, 0)) (by decide +kernel) (by decide) (fun y2564 hy2564 => ?_)
      refine y_bp (i := .iand) (f := fun x y => x &&& y) (len := 1) (r := (0, 0, 0, 0)) (by decide +kernel) rfl rfl (fun y2565 hy2565 => ?_)
      have hy2565 : y2565 = y2563 &&& y2564 := hy2565
      refine y_ic (c := 1) (len := 1) (r := (0, 0, 0, 0)) (by decide +kernel) (by decide) (fun y2566 hy2566 => ?_)
      rcases Decidable.em (y2565.toInt ≠ y2566.toInt) with q2567 | q2567
      ·
        refine y_cT (c := .ne) (off := 8) (pc' := 27) (len := 3) (r := (0, 0, 0, 0)) (by decide +kernel) (acmpT (c := .ne) (by show ¬ (_ = _); omega)) (by decide +kernel) ?_
        refine y_inc (j := 2) (a := xi) (c := 1) (ls' := fun v => [some (.inl (some 28)), some (zi xm), some v]) (len := 3) (r := (0, 0, 0, 0)) (by decide +kernel) rfl (fun _ => rfl) (by decide) (by omega) (by omega) (fun y2568 hy2568 => ?_)
        show qX d 43 30 [some (.inl (some 28)), some (zi xm), some (zi y2568)] [] h t _
        refine y_goto (off := (-23)) (pc' := 7) (len := 3) (r := (0, 0, 0, 0)) (by decide +kernel) (by decide +kernel) ?_
        exact ih h (i + 1) y2568 hg gr (by omega) (by omega) (by omega) (by omega)
      ·
        refine y_cF (c := .ne) (off := 8) (len := 3) (r := (0, 0, 0, 0)) (by decide +kernel) (acmpF (c := .ne) (by show _ = _; omega)) ?_
        refine y_same (i := .aload_n 0) (len := 1) (r := (0, 0, 0, 0)) (pc' := 23) (ls' := [some (.inl (some 28)), some (zi xm), some (zi xi)]) (st' := [.inl (some 28)]) (by decide +kernel) (fun k q => by cases q) rfl ?_
        refine y_same (i := .iload_n 2) (len := 1) (r := (0, 0, 0, 0)) (pc' := 24) (ls' := [some (.inl (some 28)), some (zi xm), some (zi xi)]) (st' := [zi xi, .inl (some 28)]) (by decide +kernel) (fun k q => by cases q) rfl ?_
        refine y_put (j := 48) (lo := (-2147483648)) (hi := 2147483647) (len := 3) (r := (4, 10, 0, 296)) (by decide +kernel) hg (tv28 hg) aw28 rfl rfl (by decide) rfl (qin_full _).1 (qin_full _).2 rfl (fun h2569 hg2569 hl2569 hs2569 ho2569 => ?_)
        have ho2569 : hO 28 10 h h2569 := ho2569
        have hs2569 : hsl h2569 28 10 = some (zi xi) := hs2569
        refine y_inc (j := 2) (a := xi) (c := 1) (ls' := fun v => [some (.inl (some 28)), some (zi xm), some v]) (len := 3) (r := (0, 0, 0, 0)) (by decide +kernel) rfl (fun _ => rfl) (by decide) (by omega) (by omega) (fun y2570 hy2570 => ?_)
        show qX d 43 30 [some (.inl (some 28)), some (zi xm), some (zi y2570)] [] h2569 t _
        refine y_goto (off := (-23)) (pc' := 7) (len := 3) (r := (0, 0, 0, 0)) (by decide +kernel) (by decide +kernel) ?_
        refine qX_V (ih h2569 (i + 1) y2570 hg2569 ⟨_, hs2569, by omega⟩ (by omega) (by omega) (by omega) (by omega)) (fun h1 hR => ⟨hR.1, hR.2.1, fun k j hC => (hR.2.2 k j hC).trans (ho2569 k j (by omega))⟩)
theorem e_ng28 {d t : Nat} {τ : List Nat} {h : zh} {xm : Int32} (hg : hG τ h) (gr : gR h 28) : qV (d + 1) 43 [some (.inl (some 28)), some (zi xm), none] h t (fun h1 => hG τ h1 ∧ gR h1 28 ∧ ∀ k j, (k ≠ 28 ∨ j ≠ 10) → hsl h1 k j = hsl h k j) := by
  obtain ⟨xg, hgr, g0, g20⟩ := gr
  refine qV_of ?_
  refine y_same (i := .aload_n 0) (len := 1) (r := (0, 0, 0, 0)) (pc' := 1) (ls' := [some (.inl (some 28)), some (zi xm), none]) (st' := [.inl (some 28)]) (by decide +kernel) (fun k q => by cases q) rfl ?_
  refine y_get (j := 48) (len := 3) (r := (4, 10, 0, 296)) (by decide +kernel) hg (tv28 hg) aw28 rfl rfl hgr ?_
  refine y_ic (c := 1) (len := 1) (r := (0, 0, 0, 0)) (by decide +kernel) (by decide) (fun y2571 hy2571 => ?_)
  refine y_add (len := 1) (r := (0, 0, 0, 0)) (by decide +kernel) (by omega) (by omega) (fun y2572 hy2572 => ?_)
  refine y_same (i := .istore_n 2) (len := 1) (r := (0, 0, 0, 0)) (pc' := 7) (ls' := [some (.inl (some 28)), some (zi xm), some (zi y2572)]) (st' := []) (by decide +kernel) (fun k q => by cases q) rfl ?_
  exact ng_l28 22 h (xg.toInt.toNat + 1) y2572 hg ⟨xg, hgr, g0, g20⟩ (by omega) (by omega) (by omega) (by omega)
theorem ng_l35 {d t : Nat} {τ : List Nat} {xm : Int32} : ∀ (n : Nat) (h : zh) (i : Nat) (xi : Int32), (hG τ h) → (gR h 35) → (xi.toInt = (i : Int)) → (1 ≤ i) → (i ≤ 21) → (21 < i + n) → qX d 43 7 [some (.inl (some 35)), some (zi xm), some (zi xi)] [] h t (rV (fun h1 => hG τ h1 ∧ gR h1 35 ∧ ∀ k j, (k ≠ 35 ∨ j ≠ 10) → hsl h1 k j = hsl h k j) t) := by
  intro n
  induction n with
  | zero =>
    intro h i xi hg gr hxi h1 hi hn
    exfalso
    omega
  | succ n ih =>
    intro h i xi hg gr hxi h1 hi hn
    skip
    refine y_same (i := .iload_n 2) (len := 1) (r := (0, 0, 0, 0)) (pc' := 8) (ls' := [some (.inl (some 35)), some (zi xm), some (zi xi)]) (st' := [zi xi]) (by decide +kernel) (fun k q => by cases q) rfl ?_
    refine y_bi (c := 21) (len := 2) (r := (0, 0, 0, 0)) (by decide +kernel) (by decide) (fun y2573 hy2573 => ?_)
    rcases Decidable.em (xi.toInt ≥ y2573.toInt) with q2574 | q2574
    ·
      refine y_cT (c := .ge) (off := 23) (pc' := 33) (len := 3) (r := (0, 0, 0, 0)) (by decide +kernel) (acmpT (c := .ge) (by show _ ≤ _; omega)) (by decide +kernel) ?_
      refine y_rV (len := 1) (r := (0, 0, 0, 0)) (nL := 3) (n9 := 2) (hs := []) (by decide +kernel) rfl ?_
      exact ⟨hg, gr, fun k j _ => rfl⟩
    ·
      refine y_cF (c := .ge) (off := 23) (len := 3) (r := (0, 0, 0, 0)) (by decide +kernel) (acmpF (c := .ge) (by show _ < _; omega)) ?_
      refine y_same (i := .iload_n 1) (len := 1) (r := (0, 0, 0, 0)) (pc' := 14) (ls' := [some (.inl (some 35)), some (zi xm), some (zi xi)]) (st' := [zi xm]) (by decide +kernel) (fun k q => by cases q) rfl ?_
      refine y_same (i := .iload_n 2) (len := 1) (r := (0, 0, 0, 0)) (pc' := 15) (ls' := [some (.inl (some 35)), some (zi xm), some (zi xi)]) (st' := [zi xi, zi xm]) (by decide +kernel) (fun k q => by cases q) rfl ?_
      refine y_bp (i := .ishr) (f := fun x y => x >>> (y &&& 31)) (len := 1) (r := (0, 0, 0, 0)) (by decide +kernel) rfl rfl (fun y2575 hy2575 => ?_)
      have hy2575 : y2575 = xm >>> (xi &&& 31) := hy2575
      refine y_ic (c := 1) (len := 1) (r := (0, 0, 0, 0)) (by decide +kernel) (by decide) (fun y2576 hy2576 => ?_)
      refine y_bp (i := .iand) (f := fun x y => x &&& y) (len := 1) (r := (0, 0, 0, 0)) (by decide +kernel) rfl rfl (fun y2577 hy2577 => ?_)
      have hy2577 : y2577 = y2575 &&& y2576 := hy2577
      refine y_ic (c := 1) (len := 1) (r := (0, 0, 0, 0)) (by decide +kernel) (by decide) (fun y2578 hy2578 => ?_)
      rcases Decidable.em (y2577.toInt ≠ y2578.toInt) with q2579 | q2579
      ·
        refine y_cT (c := .ne) (off := 8) (pc' := 27) (len := 3) (r := (0, 0, 0, 0)) (by decide +kernel) (acmpT (c := .ne) (by show ¬ (_ = _); omega)) (by decide +kernel) ?_
        refine y_inc (j := 2) (a := xi) (c := 1) (ls' := fun v => [some (.inl (some 35)), some (zi xm), some v]) (len := 3) (r := (0, 0, 0, 0)) (by decide +kernel) rfl (fun _ => rfl) (by decide) (by omega) (by omega) (fun y2580 hy2580 => ?_)
        show qX d 43 30 [some (.inl (some 35)), some (zi xm), some (zi y2580)] [] h t _
        refine y_goto (off := (-23)) (pc' := 7) (len := 3) (r := (0, 0, 0, 0)) (by decide +kernel) (by decide +kernel) ?_
        exact ih h (i + 1) y2580 hg gr (by omega) (by omega) (by omega) (by omega)
      ·
        refine y_cF (c := .ne) (off := 8) (len := 3) (r := (0, 0, 0, 0)) (by decide +kernel) (acmpF (c := .ne) (by show _ = _; omega)) ?_
        refine y_same (i := .aload_n 0) (len := 1) (r := (0, 0, 0, 0)) (pc' := 23) (ls' := [some (.inl (some 35)), some (zi xm), some (zi xi)]) (st' := [.inl (some 35)]) (by decide +kernel) (fun k q => by cases q) rfl ?_
        refine y_same (i := .iload_n 2) (len := 1) (r := (0, 0, 0, 0)) (pc' := 24) (ls' := [some (.inl (some 35)), some (zi xm), some (zi xi)]) (st' := [zi xi, .inl (some 35)]) (by decide +kernel) (fun k q => by cases q) rfl ?_
        refine y_put (j := 48) (lo := (-2147483648)) (hi := 2147483647) (len := 3) (r := (4, 10, 0, 296)) (by decide +kernel) hg (tv35 hg) aw35 rfl rfl (by decide) rfl (qin_full _).1 (qin_full _).2 rfl (fun h2581 hg2581 hl2581 hs2581 ho2581 => ?_)
        have ho2581 : hO 35 10 h h2581 := ho2581
        have hs2581 : hsl h2581 35 10 = some (zi xi) := hs2581
        refine y_inc (j := 2) (a := xi) (c := 1) (ls' := fun v => [some (.inl (some 35)), some (zi xm), some v]) (len := 3) (r := (0, 0, 0, 0)) (by decide +kernel) rfl (fun _ => rfl) (by decide) (by omega) (by omega) (fun y2582 hy2582 => ?_)
        show qX d 43 30 [some (.inl (some 35)), some (zi xm), some (zi y2582)] [] h2581 t _
        refine y_goto (off := (-23)) (pc' := 7) (len := 3) (r := (0, 0, 0, 0)) (by decide +kernel) (by decide +kernel) ?_
        refine qX_V (ih h2581 (i + 1) y2582 hg2581 ⟨_, hs2581, by omega⟩ (by omega) (by omega) (by omega) (by omega)) (fun h1 hR => ⟨hR.1, hR.2.1, fun k j hC => (hR.2.2 k j hC).trans (ho2581 k j (by omega))⟩)
theorem e_ng35 {d t : Nat} {τ : List Nat} {h : zh} {xm : Int32} (hg : hG τ h) (gr : gR h 35) : qV (d + 1) 43 [some (.inl (some 35)), some (zi xm), none] h t (fun h1 => hG τ h1 ∧ gR h1 35 ∧ ∀ k j, (k ≠ 35 ∨ j ≠ 10) → hsl h1 k j = hsl h k j) := by
  obtain ⟨xg, hgr, g0, g20⟩ := gr
  refine qV_of ?_
  refine y_same (i := .aload_n 0) (len := 1) (r := (0, 0, 0, 0)) (pc' := 1) (ls' := [some (.inl (some 35)), some (zi xm), none]) (st' := [.inl (some 35)]) (by decide +kernel) (fun k q => by cases q) rfl ?_
  refine y_get (j := 48) (len := 3) (r := (4, 10, 0, 296)) (by decide +kernel) hg (tv35 hg) aw35 rfl rfl hgr ?_
  refine y_ic (c := 1) (len := 1) (r := (0, 0, 0, 0)) (by decide +kernel) (by decide) (fun y2583 hy2583 => ?_)
  refine y_add (len := 1) (r := (0, 0, 0, 0)) (by decide +kernel) (by omega) (by omega) (fun y2584 hy2584 => ?_)
  refine y_same (i := .istore_n 2) (len := 1) (r := (0, 0, 0, 0)) (pc' := 7) (ls' := [some (.inl (some 35)), some (zi xm), some (zi y2584)]) (st' := []) (by decide +kernel) (fun k q => by cases q) rfl ?_
  exact ng_l35 22 h (xg.toInt.toNat + 1) y2584 hg ⟨xg, hgr, g0, g20⟩ (by omega) (by omega) (by omega) (by omega)
def prE (τ : List Nat) (h : zh) (A k : Nat) (e : enT) : Prop := ∃ a, rfs h A k a ∧ 388 < a ∧ LQ τ h a ∧ ci_ h a 4 e.2.1 ∧ ci_ h a 6 e.2.2.2.2.1 ∧ kx_ h a 5 e.2.2.2.2.2 ∧ (e.2.1 ≠ 0 → QC τ h a e.1) ∧ (3 ≤ e.2.1 → e.2.1 ≤ 8 → ci_ h a 8 e.2.2.1) ∧ (3 ≤ e.2.1 → e.2.1 ≤ 7 → ci_ h a 9 e.2.2.2.1)
theorem prE_ag {τ : List Nat} {h : zh} {A k : Nat} {e e' : enT} (p : prE τ h A k e) (g : agE e e') : prE τ h A k e' := by
  obtain ⟨a, r, h3, l, c4, c6, c5, q, c8, c9⟩ := p
  obtain ⟨g1, g2, g3, g4, g5⟩ := g
  refine ⟨a, r, h3, l, by rw [← g1]; exact c4, by rw [← g2]; exact c6, by rw [← g2]; exact c5, fun n => ?_, fun n1 n2 => ?_, fun n1 n2 => ?_⟩
  · rw [← g3 (by rw [g1]; exact n)]
    exact q (by rw [g1]; exact n)
  · rw [← g1] at n1 n2
    rw [← g4 n1 n2]
    exact c8 n1 n2
  · rw [← g1] at n1 n2
    rw [← g5 n1 n2]
    exact c9 n1 n2
/-- the same, behind an act on another one -/
theorem prE_up {τ τ1 : List Nat} {h h1 : zh} {A k : Nat} {e : enT} (p : prE τ h A k e) (u : aup τ τ1) (g : hG τ1 h1) (F : ∀ a, rfs h A k a → 388 < a → tyQ τ a → ∀ k' j, (k' = A ∧ j = k) ∨ (a ≤ k' ∧ k' < a + 9) → hsl h1 k' j = hsl h k' j) : prE τ1 h1 A k e := by
  obtain ⟨a, r, h3, l, c4, c6, c5, q, c8, c9⟩ := p
  have F := F a r h3 l.2.1
  exact ⟨a, rfs_up r (F _ _ (Or.inl ⟨rfl, rfl⟩)), h3, LQ_tu l u g (fun k' j h1 h2 _ => F k' j (Or.inr ⟨h1, h2⟩)), ci_up c4 (F _ _ (Or.inr (by omega))), ci_up c6 (F _ _ (Or.inr (by omega))), kx_up c5 (F _ _ (Or.inr (by omega))), fun n => QC_tu (q n) u g (fun k' j h1 h2 _ => F k' j (Or.inr ⟨h1, h2⟩)), fun n1 n2 => ci_up (c8 n1 n2) (F _ _ (Or.inr (by omega))), fun n1 n2 => ci_up (c9 n1 n2) (F _ _ (Or.inr (by omega)))⟩
theorem e_set35f {d t n a dn : Nat} {τ : List Nat} {h : zh} {s : sqT} {xf : Int32} (ha : 388 < a) (Q : QC τ h a s) (nb : ¬ big_ s) (ra : rfs h 36 n a) (hn9 : n < 300) (cn : ci_ h 35 6 n) (ml : kx_ h 35 0 1) (gr : gR h 35) (cd : ci_ h 38 2 dn) (hdn : dn ≤ 300) (exf : xf.toInt = -1) : qV (d + 7) 42 [some (.inl (some 35)), some (zi xf), none, none] h t (fun h1 => ∃ e, setR (fun _ => False) true s (-1) 1 e ∧ hG τ h1 ∧ prE τ h1 36 n e ∧ ci_ h1 35 6 (n + 1) ∧ ci_ h1 38 2 (dn + (if e.2.1 = 2 then 1 else 0)) ∧ gR h1 35 ∧ ∀ k j, (k < a ∨ a + 9 ≤ k) → (k ≠ 35 ∨ (j ≠ 6 ∧ j ≠ 9 ∧ j ≠ 10)) → k ≠ 38 → hsl h1 k j = hsl h k j) := by
  obtain ⟨xn, hn, en⟩ := cn
  obtain ⟨xm, hml, eml⟩ := ml
  obtain ⟨xd, hd2, ed⟩ := cd
  have hg := Q.1
  refine qV_of ?_
  refine y_same (i := .aload_n 0) (len := 1) (r := (0, 0, 0, 0)) (pc' := 1) (ls' := [some (.inl (some 35)), some (zi xf), none, none]) (st' := [.inl (some 35)]) (by decide +kernel) (fun k q => by cases q) rfl ?_
  refine y_same (i := .aload_n 0) (len := 1) (r := (0, 0, 0, 0)) (pc' := 2) (ls' := [some (.inl (some 35)), some (zi xf), none, none]) (st' := [.inl (some 35), .inl (some 35)]) (by decide +kernel) (fun k q => by cases q) rfl ?_
  refine y_get (j := 35) (len := 3) (r := (4, 6, 0, 289)) (by decide +kernel) Q.1 (tv35 Q.1) aw35 rfl rfl hn ?_
  refine y_cA (i := .invokevirtual 67) (len := 3) (r := (0, 33, 4, 505)) (nL := 3) (k := 3) (n := 2) (hs := []) (args := [.inl (some 35), zi xn]) (rest := []) (l0 := [some (.inl (some 35)), some (zi xn), none]) (by decide +kernel) (Or.inr (Or.inl ⟨_, rfl⟩)) rfl rfl rfl rfl (Nat.le_of_ble_eq_true rfl) (zO Q.1 (tv35 Q.1) aw35 rfl) rfl (qA_le (by omega) (e_slo35 (d := 0) (k := n) Q.1 (by omega) (by omega) (ra))) (fun h2585 hR2585 => ?_)
  obtain rfl := hR2585
  refine y_same (i := .astore_n 2) (len := 1) (r := (0, 0, 0, 0)) (pc' := 9) (ls' := [some (.inl (some 35)), some (zi xf), some (.inl (some a)), none]) (st' := []) (by decide +kernel) (fun k q => by cases q) rfl ?_
  refine y_same (i := .aload_n 2) (len := 1) (r := (0, 0, 0, 0)) (pc' := 10) (ls' := [some (.inl (some 35)), some (zi xf), some (.inl (some a)), none]) (st' := [.inl (some a)]) (by decide +kernel) (fun k q => by cases q) rfl ?_
  refine y_same (i := .iload_n 1) (len := 1) (r := (0, 0, 0, 0)) (pc' := 11) (ls' := [some (.inl (some 35)), some (zi xf), some (.inl (some a)), none]) (st' := [zi xf, .inl (some a)]) (by decide +kernel) (fun k q => by cases q) rfl ?_
  refine y_put (j := 127) (lo := (-2147483648)) (hi := 2147483647) (len := 3) (r := (7, 5, 0, 20546)) (by decide +kernel) Q.1 Q.2.1.1 aw1008 rfl rfl (by decide) rfl (qin_full _).1 (qin_full _).2 rfl (fun h2586 hg2586 hl2586 hs2586 ho2586 => ?_)
  have ho2586 : hO a 5 h h2586 := ho2586
  have hs2586 : hsl h2586 a 5 = some (zi xf) := hs2586
  have Q2586_a := QC_up Q hg2586 (fun k j _ _ _ => ho2586 k j (by omega))
  refine y_same (i := .aload_n 2) (len := 1) (r := (0, 0, 0, 0)) (pc' := 15) (ls' := [some (.inl (some 35)), some (zi xf), some (.inl (some a)), none]) (st' := [.inl (some a)]) (by decide +kernel) (fun k q => by cases q) rfl ?_
  refine y_same (i := .iload_n 1) (len := 1) (r := (0, 0, 0, 0)) (pc' := 16) (ls' := [some (.inl (some 35)), some (zi xf), some (.inl (some a)), none]) (st' := [zi xf, .inl (some a)]) (by decide +kernel) (fun k q => by cases q) rfl ?_
  refine y_ic (c := (-1)) (len := 1) (r := (0, 0, 0, 0)) (by decide +kernel) (by decide) (fun y2587 hy2587 => ?_)
  refine y_cF (c := .ne) (off := 7) (len := 3) (r := (0, 0, 0, 0)) (by decide +kernel) (acmpF (c := .ne) (by show _ = _; omega)) ?_
  refine y_ic (c := 1) (len := 1) (r := (0, 0, 0, 0)) (by decide +kernel) (by decide) (fun y2588 hy2588 => ?_)
  refine y_goto (off := 13) (pc' := 34) (len := 3) (r := (0, 0, 0, 0)) (by decide +kernel) (by decide +kernel) ?_
  refine y_put (j := 110) (lo := (-2147483648)) (hi := 2147483647) (len := 3) (r := (7, 6, 0, 20549)) (by decide +kernel) Q2586_a.1 Q2586_a.2.1.1 aw1008 rfl rfl (by decide) rfl (qin_full _).1 (qin_full _).2 rfl (fun h2589 hg2589 hl2589 hs2589 ho2589 => ?_)
  have ho2589 : hO a 6 h2586 h2589 := ho2589
  have hs2589 : hsl h2589 a 6 = some (zi y2588) := hs2589
  have Q2589_a := QC_up Q2586_a hg2589 (fun k j _ _ _ => ho2589 k j (by omega))
  refine y_same (i := .aload_n 2) (len := 1) (r := (0, 0, 0, 0)) (pc' := 38) (ls' := [some (.inl (some 35)), some (zi xf), some (.inl (some a)), none]) (st' := [.inl (some a)]) (by decide +kernel) (fun k q => by cases q) rfl ?_
  refine y_cI (i := .invokevirtual 130) (len := 3) (r := (0, 84, 7, 635)) (nL := 3) (k := 2) (n := 1) (hs := []) (args := [.inl (some a)]) (rest := []) (l0 := [some (.inl (some a)), none, none]) (by decide +kernel) (Or.inr (Or.inl ⟨_, rfl⟩)) rfl rfl rfl rfl (Nat.le_of_ble_eq_true rfl) (zO Q2589_a.1 Q2589_a.2.1.1 aw1008 rfl) rfl (qI_le (by omega) (q_rdy (d := 0) Q2589_a (mq_b Q2589_a.2.2.2.2 nb))) (fun y2590 h2590 hRy2590 => ?_)
  obtain ⟨s9, Q2590, F2590, hDy2590⟩ := hRy2590
  rcases hDy2590 with ⟨vy2590, ry2590⟩ | ⟨vy2590, ry2590⟩
  ·
    refine y_same (i := .istore_n 3) (len := 1) (r := (0, 0, 0, 0)) (pc' := 42) (ls' := [some (.inl (some 35)), some (zi xf), some (.inl (some a)), some (zi y2590)]) (st' := []) (by decide +kernel) (fun k q => by cases q) rfl ?_
    refine y_same (i := .aload_n 2) (len := 1) (r := (0, 0, 0, 0)) (pc' := 43) (ls' := [some (.inl (some 35)), some (zi xf), some (.inl (some a)), some (zi y2590)]) (st' := [.inl (some a)]) (by decide +kernel) (fun k q => by cases q) rfl ?_
    refine y_same (i := .iload_n 3) (len := 1) (r := (0, 0, 0, 0)) (pc' := 44) (ls' := [some (.inl (some 35)), some (zi xf), some (.inl (some a)), some (zi y2590)]) (st' := [zi y2590, .inl (some a)]) (by decide +kernel) (fun k q => by cases q) rfl ?_
    refine y_iF (c := .eq) (off := 18) (len := 3) (r := (0, 0, 0, 0)) (by decide +kernel) (acmpF (c := .eq) (by show ¬ (_ = _); omega)) ?_
    refine y_same (i := .aload_n 0) (len := 1) (r := (0, 0, 0, 0)) (pc' := 48) (ls' := [some (.inl (some 35)), some (zi xf), some (.inl (some a)), some (zi y2590)]) (st' := [.inl (some 35), .inl (some a)]) (by decide +kernel) (fun k q => by cases q) rfl ?_
    have hv2591 := (ho2586 35 0 (Or.inl (by omega))).trans hml
    have hv2592 := (ho2589 35 0 (Or.inl (by omega))).trans hv2591
    have hv2593 := (F2590 35 0 (by omega)).trans hv2592
    refine y_get (j := 54) (len := 3) (r := (4, 0, 1, 282)) (by decide +kernel) Q2590.1 (tv35 Q2590.1) aw35 rfl rfl hv2593 ?_
    refine y_iT (c := .ne) (off := 11) (pc' := 62) (len := 3) (r := (0, 0, 0, 0)) (by decide +kernel) (acmpT (c := .ne) (by show ¬ (_ = _); omega)) (by decide +kernel) ?_
    refine y_ic (c := (-1)) (len := 1) (r := (0, 0, 0, 0)) (by decide +kernel) (by decide) (fun y2594 hy2594 => ?_)
    refine y_put (j := 137) (lo := (-2147483648)) (hi := 2147483647) (len := 3) (r := (7, 7, 0, 20551)) (by decide +kernel) Q2590.1 Q2590.2.1.1 aw1008 rfl rfl (by decide) rfl (qin_full _).1 (qin_full _).2 rfl (fun h2595 hg2595 hl2595 hs2595 ho2595 => ?_)
    have ho2595 : hO a 7 h2590 h2595 := ho2595
    have hs2595 : hsl h2595 a 7 = some (zi y2594) := hs2595
    have Q2595_a := QC_up Q2590 hg2595 (fun k j _ _ _ => ho2595 k j (by omega))
    refine y_same (i := .iload_n 3) (len := 1) (r := (0, 0, 0, 0)) (pc' := 67) (ls' := [some (.inl (some 35)), some (zi xf), some (.inl (some a)), some (zi y2590)]) (st' := [zi y2590]) (by decide +kernel) (fun k q => by cases q) rfl ?_
    refine y_iT (c := .ne) (off := 11) (pc' := 78) (len := 3) (r := (0, 0, 0, 0)) (by decide +kernel) (acmpT (c := .ne) (by show ¬ (_ = _); omega)) (by decide +kernel) ?_
    refine y_same (i := .aload_n 2) (len := 1) (r := (0, 0, 0, 0)) (pc' := 79) (ls' := [some (.inl (some 35)), some (zi xf), some (.inl (some a)), some (zi y2590)]) (st' := [.inl (some a)]) (by decide +kernel) (fun k q => by cases q) rfl ?_
    refine y_get (j := 137) (len := 3) (r := (7, 7, 0, 20551)) (by decide +kernel) Q2595_a.1 Q2595_a.2.1.1 aw1008 rfl rfl hs2595 ?_
    refine y_ic (c := (-1)) (len := 1) (r := (0, 0, 0, 0)) (by decide +kernel) (by decide) (fun y2596 hy2596 => ?_)
    refine y_cT (c := .eq) (off := 11) (pc' := 94) (len := 3) (r := (0, 0, 0, 0)) (by decide +kernel) (acmpT (c := .eq) (by show _ = _; omega)) (by decide +kernel) ?_
    refine y_same (i := .aload_n 2) (len := 1) (r := (0, 0, 0, 0)) (pc' := 95) (ls' := [some (.inl (some 35)), some (zi xf), some (.inl (some a)), some (zi y2590)]) (st' := [.inl (some a)]) (by decide +kernel) (fun k q => by cases q) rfl ?_
    refine y_same (i := .aload_n 2) (len := 1) (r := (0, 0, 0, 0)) (pc' := 96) (ls' := [some (.inl (some 35)), some (zi xf), some (.inl (some a)), some (zi y2590)]) (st' := [.inl (some a), .inl (some a)]) (by decide +kernel) (fun k q => by cases q) rfl ?_
    refine y_same (i := .aload_n 0) (len := 1) (r := (0, 0, 0, 0)) (pc' := 97) (ls' := [some (.inl (some 35)), some (zi xf), some (.inl (some a)), some (zi y2590)]) (st' := [.inl (some 35), .inl (some a), .inl (some a)]) (by decide +kernel) (fun k q => by cases q) rfl ?_
    have hv2597 := (ho2595 35 0 (Or.inl (by omega))).trans hv2593
    refine y_get (j := 54) (len := 3) (r := (4, 0, 1, 282)) (by decide +kernel) Q2595_a.1 (tv35 Q2595_a.1) aw35 rfl rfl hv2597 ?_
    refine y_cI (i := .invokevirtual 140) (len := 3) (r := (0, 93, 7, 739)) (nL := 2) (k := 2) (n := 2) (hs := []) (args := [.inl (some a), zi xm]) (rest := [.inl (some a)]) (l0 := [some (.inl (some a)), some (zi xm)]) (by decide +kernel) (Or.inr (Or.inl ⟨_, rfl⟩)) rfl rfl rfl rfl (Nat.le_of_ble_eq_true rfl) (zO Q2595_a.1 Q2595_a.2.1.1 aw1008 rfl) rfl (qI_le (by omega) (q_done (d := 0) (m := true) Q2595_a (eml.trans (if_pos rfl).symm))) (fun y2598 qy2598 hRy2598 => ?_)
    obtain ⟨rfl, hDy2598⟩ := hRy2598
    rcases hDy2598 with ⟨vy2598, ty2598⟩ | ⟨vy2598, ty2598⟩
    ·
      refine y_iF (c := .eq) (off := 7) (len := 3) (r := (0, 0, 0, 0)) (by decide +kernel) (acmpF (c := .eq) (by show ¬ (_ = _); omega)) ?_
      refine y_ic (c := 2) (len := 1) (r := (0, 0, 0, 0)) (by decide +kernel) (by decide) (fun y2599 hy2599 => ?_)
      refine y_goto (off := 7) (pc' := 114) (len := 3) (r := (0, 0, 0, 0)) (by decide +kernel) (by decide +kernel) ?_
      refine y_put (j := 71) (lo := (-2147483648)) (hi := 2147483647) (len := 3) (r := (7, 4, 0, 20543)) (by decide +kernel) Q2595_a.1 Q2595_a.2.1.1 aw1008 rfl rfl (by decide) rfl (qin_full _).1 (qin_full _).2 rfl (fun h2600 hg2600 hl2600 hs2600 ho2600 => ?_)
      have ho2600 : hO a 4 h2595 h2600 := ho2600
      have hs2600 : hsl h2600 a 4 = some (zi y2599) := hs2600
      have Q2600_a := QC_up Q2595_a hg2600 (fun k j _ _ _ => ho2600 k j (by omega))
      refine y_same (i := .aload_n 0) (len := 1) (r := (0, 0, 0, 0)) (pc' := 118) (ls' := [some (.inl (some 35)), some (zi xf), some (.inl (some a)), some (zi y2590)]) (st' := [.inl (some 35)]) (by decide +kernel) (fun k q => by cases q) rfl ?_
      refine y_same (i := .dup) (len := 1) (r := (0, 0, 0, 0)) (pc' := 119) (ls' := [some (.inl (some 35)), some (zi xf), some (.inl (some a)), some (zi y2590)]) (st' := [.inl (some 35), .inl (some 35)]) (by decide +kernel) (fun k q => by cases q) rfl ?_
      have hv2601 := (ho2586 35 6 (Or.inl (by omega))).trans hn
      have hv2602 := (ho2589 35 6 (Or.inl (by omega))).trans hv2601
      have hv2603 := (F2590 35 6 (by omega)).trans hv2602
      have hv2604 := (ho2595 35 6 (Or.inl (by omega))).trans hv2603
      have hv2605 := (ho2600 35 6 (Or.inl (by omega))).trans hv2604
      refine y_get (j := 35) (len := 3) (r := (4, 6, 0, 289)) (by decide +kernel) Q2600_a.1 (tv35 Q2600_a.1) aw35 rfl rfl hv2605 ?_
      refine y_ic (c := 1) (len := 1) (r := (0, 0, 0, 0)) (by decide +kernel) (by decide) (fun y2606 hy2606 => ?_)
      refine y_add (len := 1) (r := (0, 0, 0, 0)) (by decide +kernel) (by omega) (by omega) (fun y2607 hy2607 => ?_)
      refine y_put (j := 35) (lo := (-2147483648)) (hi := 2147483647) (len := 3) (r := (4, 6, 0, 289)) (by decide +kernel) Q2600_a.1 (tv35 Q2600_a.1) aw35 rfl rfl (by decide) rfl (qin_full _).1 (qin_full _).2 rfl (fun h2608 hg2608 hl2608 hs2608 ho2608 => ?_)
      have ho2608 : hO 35 6 h2600 h2608 := ho2608
      have hs2608 : hsl h2608 35 6 = some (zi y2607) := hs2608
      have Q2608_a := QC_up Q2600_a hg2608 (fun k j _ _ _ => ho2608 k j (by omega))
      refine y_same (i := .aload_n 2) (len := 1) (r := (0, 0, 0, 0)) (pc' := 128) (ls' := [some (.inl (some 35)), some (zi xf), some (.inl (some a)), some (zi y2590)]) (st' := [.inl (some a)]) (by decide +kernel) (fun k q => by cases q) rfl ?_
      have hv2609 := (ho2608 a 4 (Or.inl (by omega))).trans hs2600
      refine y_get (j := 71) (len := 3) (r := (7, 4, 0, 20543)) (by decide +kernel) Q2608_a.1 Q2608_a.2.1.1 aw1008 rfl rfl hv2609 ?_
      refine y_iF (c := .lt) (off := 25) (len := 3) (r := (0, 0, 0, 0)) (by decide +kernel) (acmpF (c := .lt) (by show _ ≤ _; omega)) ?_
      refine y_same (i := .aload_n 2) (len := 1) (r := (0, 0, 0, 0)) (pc' := 135) (ls' := [some (.inl (some 35)), some (zi xf), some (.inl (some a)), some (zi y2590)]) (st' := [.inl (some a)]) (by decide +kernel) (fun k q => by cases q) rfl ?_
      refine y_get (j := 71) (len := 3) (r := (7, 4, 0, 20543)) (by decide +kernel) Q2608_a.1 Q2608_a.2.1.1 aw1008 rfl rfl hv2609 ?_
      refine y_bi (c := 9) (len := 2) (r := (0, 0, 0, 0)) (by decide +kernel) (by decide) (fun y2610 hy2610 => ?_)
      refine y_cF (c := .gt) (off := 16) (len := 3) (r := (0, 0, 0, 0)) (by decide +kernel) (acmpF (c := .gt) (by show _ ≤ _; omega)) ?_
      refine y_same (i := .aload_n 0) (len := 1) (r := (0, 0, 0, 0)) (pc' := 144) (ls' := [some (.inl (some 35)), some (zi xf), some (.inl (some a)), some (zi y2590)]) (st' := [.inl (some 35)]) (by decide +kernel) (fun k q => by cases q) rfl ?_
      refine y_get (j := 21) (len := 3) (r := (4, 3, 2, 285)) (by decide +kernel) Q2608_a.1 (tv35 Q2608_a.1) aw35 rfl rfl (g_rU (f := 3) (T2 := 38) Q2608_a.1 (tv35 Q2608_a.1) aw35 rfl (by decide)) ?_
      refine y_same (i := .aload_n 2) (len := 1) (r := (0, 0, 0, 0)) (pc' := 148) (ls' := [some (.inl (some 35)), some (zi xf), some (.inl (some a)), some (zi y2590)]) (st' := [.inl (some a), .inl (some 38)]) (by decide +kernel) (fun k q => by cases q) rfl ?_
      refine y_get (j := 71) (len := 3) (r := (7, 4, 0, 20543)) (by decide +kernel) Q2608_a.1 Q2608_a.2.1.1 aw1008 rfl rfl hv2609 ?_
      refine y_same (i := .dup2) (len := 1) (r := (0, 0, 0, 0)) (pc' := 152) (ls' := [some (.inl (some 35)), some (zi xf), some (.inl (some a)), some (zi y2590)]) (st' := [zi y2599, .inl (some 38), zi y2599, .inl (some 38)]) (by decide +kernel) (fun k q => by cases q) rfl ?_
      have hv2611 := (ho2586 38 2 (Or.inl (by omega))).trans hd2
      have hv2612 := (ho2589 38 2 (Or.inl (by omega))).trans hv2611
      have hv2613 := (F2590 38 2 (by omega)).trans hv2612
      have hv2614 := (ho2595 38 2 (Or.inl (by omega))).trans hv2613
      have hv2615 := (ho2600 38 2 (Or.inl (by omega))).trans hv2614
      have hv2616 := (ho2608 38 2 (Or.inl (by omega))).trans hv2615
      refine y_ial (i := 2) (len := 1) (r := (0, 0, 0, 0)) (by decide +kernel) Q2608_a.1 (tv38 Q2608_a.1) aw38 (by omega) hv2616 ?_
      refine y_ic (c := 1) (len := 1) (r := (0, 0, 0, 0)) (by decide +kernel) (by decide) (fun y2617 hy2617 => ?_)
      refine y_add (len := 1) (r := (0, 0, 0, 0)) (by decide +kernel) (by omega) (by omega) (fun y2618 hy2618 => ?_)
      refine y_ias (i := 2) (len := 1) (r := (0, 0, 0, 0)) (by decide +kernel) Q2608_a.1 (tv38 Q2608_a.1) aw38 rfl (by omega) (by omega) (sr1 (by omega)) (qin_full _).1 (qin_full _).2 (fun h2619 hg2619 hl2619 hs2619 ho2619 => ?_)
      have Q2619_a := QC_up Q2608_a hg2619 (fun k j _ _ _ => ho2619 k j (by omega))
      refine y_same (i := .aload_n 0) (len := 1) (r := (0, 0, 0, 0)) (pc' := 157) (ls' := [some (.inl (some 35)), some (zi xf), some (.inl (some a)), some (zi y2590)]) (st' := [.inl (some 35)]) (by decide +kernel) (fun k q => by cases q) rfl ?_
      refine y_same (i := .aload_n 0) (len := 1) (r := (0, 0, 0, 0)) (pc' := 158) (ls' := [some (.inl (some 35)), some (zi xf), some (.inl (some a)), some (zi y2590)]) (st' := [.inl (some 35), .inl (some 35)]) (by decide +kernel) (fun k q => by cases q) rfl ?_
      obtain ⟨v2620, hv2621, lv2620, uv2620⟩ := g_int (i := 9) (lo := (-2147483648)) (hi := 2147483647) Q2619_a.1 (tv35 Q2619_a.1) aw35 (by decide) rfl
      refine y_get (j := 45) (len := 3) (r := (4, 9, 0, 294)) (by decide +kernel) Q2619_a.1 (tv35 Q2619_a.1) aw35 rfl rfl hv2621 ?_
      refine y_same (i := .aload_n 2) (len := 1) (r := (0, 0, 0, 0)) (pc' := 162) (ls' := [some (.inl (some 35)), some (zi xf), some (.inl (some a)), some (zi y2590)]) (st' := [.inl (some a), zi v2620, .inl (some 35)]) (by decide +kernel) (fun k q => by cases q) rfl ?_
      have hv2622 := (F2590 a 6 (by omega)).trans hs2589
      have hv2623 := (ho2595 a 6 (Or.inr (by omega))).trans hv2622
      have hv2624 := (ho2600 a 6 (Or.inr (by omega))).trans hv2623
      have hv2625 := (ho2608 a 6 (Or.inl (by omega))).trans hv2624
      have hv2626 := (ho2619 a 6 (Or.inl (by omega))).trans hv2625
      refine y_get (j := 110) (len := 3) (r := (7, 6, 0, 20549)) (by decide +kernel) Q2619_a.1 Q2619_a.2.1.1 aw1008 rfl rfl hv2626 ?_
      refine y_cI (i := .invokestatic 63) (len := 3) (r := (1, 266, 60, 510)) (nL := 2) (k := 1) (n := 2) (hs := []) (args := [zi v2620, zi y2588]) (rest := [.inl (some 35)]) (l0 := [some (zi v2620), some (zi y2588)]) (by decide +kernel) (Or.inl ⟨_, rfl⟩) rfl rfl rfl rfl (Nat.le_of_ble_eq_true rfl) rfl rfl (qI_le (by omega) (e_jmax (d := 0))) (fun y2627 qy2627 hRy2627 => ?_)
      obtain ⟨rfl, my2627, wy2627⟩ := hRy2627
      refine y_put (j := 45) (lo := (-2147483648)) (hi := 2147483647) (len := 3) (r := (4, 9, 0, 294)) (by decide +kernel) Q2619_a.1 (tv35 Q2619_a.1) aw35 rfl rfl (by decide) rfl (qin_full _).1 (qin_full _).2 rfl (fun h2628 hg2628 hl2628 hs2628 ho2628 => ?_)
      have ho2628 : hO 35 9 h2619 h2628 := ho2628
      have hs2628 : hsl h2628 35 9 = some (zi y2627) := hs2628
      have Q2628_a := QC_up Q2619_a hg2628 (fun k j _ _ _ => ho2628 k j (by omega))
      refine y_same (i := .aload_n 0) (len := 1) (r := (0, 0, 0, 0)) (pc' := 172) (ls' := [some (.inl (some 35)), some (zi xf), some (.inl (some a)), some (zi y2590)]) (st' := [.inl (some 35)]) (by decide +kernel) (fun k q => by cases q) rfl ?_
      refine y_same (i := .aload_n 2) (len := 1) (r := (0, 0, 0, 0)) (pc' := 173) (ls' := [some (.inl (some 35)), some (zi xf), some (.inl (some a)), some (zi y2590)]) (st' := [.inl (some a), .inl (some 35)]) (by decide +kernel) (fun k q => by cases q) rfl ?_
      refine y_cI (i := .invokevirtual 147) (len := 3) (r := (0, 82, 7, 751)) (nL := 1) (k := 1) (n := 1) (hs := []) (args := [.inl (some a)]) (rest := [.inl (some 35)]) (l0 := [some (.inl (some a))]) (by decide +kernel) (Or.inr (Or.inl ⟨_, rfl⟩)) rfl rfl rfl rfl (Nat.le_of_ble_eq_true rfl) (zO Q2628_a.1 Q2628_a.2.1.1 aw1008 rfl) rfl (qI_le (by omega) (q_mns (d := 0) Q2628_a)) (fun y2629 qy2629 hRy2629 => ?_)
      obtain ⟨rfl, ty2629⟩ := hRy2629
      have gr2630 : gR h2628 35 := by obtain ⟨x9, a9, b9⟩ := gr; exact ⟨x9, (((ho2628 35 10 (by omega)).trans ((ho2619 35 10 (by omega)).trans ((ho2608 35 10 (by omega)).trans ((ho2600 35 10 (by omega)).trans ((ho2595 35 10 (by omega)).trans ((F2590 35 10 (by omega)).trans ((ho2589 35 10 (by omega)).trans (ho2586 35 10 (by omega)))))))))).trans a9, b9⟩
      refine y_cV (i := .invokevirtual 150) (len := 3) (r := (0, 43, 4, 759)) (nL := 3) (k := 0) (n := 2) (hs := []) (args := [.inl (some 35), zi y2629]) (rest := []) (l0 := [some (.inl (some 35)), some (zi y2629), none]) (by decide +kernel) (Or.inr (Or.inl ⟨_, rfl⟩)) rfl rfl rfl rfl (Nat.le_of_ble_eq_true rfl) (zO Q2628_a.1 (tv35 Q2628_a.1) aw35 rfl) rfl (qV_le (by omega) (e_ng35 (d := 0) Q2628_a.1 gr2630)) (fun h2630 hR2630 => ?_)
      obtain ⟨hg2630, gr2, F2630⟩ := hR2630
      have Q2630 := QC_up Q2628_a hg2630 (fun k j _ _ _ => F2630 k j (by omega))
      refine y_rV (len := 1) (r := (0, 0, 0, 0)) (nL := 4) (n9 := 2) (hs := []) (by decide +kernel) rfl ?_
      have hv2631 := (ho2619 a 4 (Or.inl (by omega))).trans hv2609
      have hv2632 := (ho2628 a 4 (Or.inl (by omega))).trans hv2631
      have hv2633 := (F2630 a 4 (by omega)).trans hv2632
      have hv2634 := (ho2589 a 5 (Or.inr (by omega))).trans hs2586
      have hv2635 := (F2590 a 5 (by omega)).trans hv2634
      have hv2636 := (ho2595 a 5 (Or.inr (by omega))).trans hv2635
      have hv2637 := (ho2600 a 5 (Or.inr (by omega))).trans hv2636
      have hv2638 := (ho2608 a 5 (Or.inl (by omega))).trans hv2637
      have hv2639 := (ho2619 a 5 (Or.inl (by omega))).trans hv2638
      have hv2640 := (ho2628 a 5 (Or.inl (by omega))).trans hv2639
      have hv2641 := (F2630 a 5 (by omega)).trans hv2640
      have hv2642 := (ho2628 a 6 (Or.inl (by omega))).trans hv2626
      have hv2643 := (F2630 a 6 (by omega)).trans hv2642
      have hv2644 := (ho2619 35 6 (Or.inl (by omega))).trans hs2608
      have hv2645 := (ho2628 35 6 (Or.inr (by omega))).trans hv2644
      have hv2646 := (F2630 35 6 (by omega)).trans hv2645
      have hv2647 := (ho2628 38 2 (Or.inl (by omega))).trans hs2619
      have hv2648 := (F2630 38 2 (by omega)).trans hv2647
      refine ⟨(s9, 2, 0, 0, 1, -1), ⟨rfl, rfl, Or.inr ⟨s9, ry2590, rfl, Or.inr (Or.inl ⟨fun q => q, ty2598, rfl⟩)⟩⟩, hg2630, ⟨a, (rfs_up ra (((F2630 36 n (by omega)).trans ((ho2628 36 n (by omega)).trans ((ho2619 36 n (by omega)).trans ((ho2608 36 n (by omega)).trans ((ho2600 36 n (by omega)).trans ((ho2595 36 n (by omega)).trans ((F2590 36 n (by omega)).trans ((ho2589 36 n (by omega)).trans (ho2586 36 n (by omega)))))))))))), ha, LQ_of Q2630, ⟨_, hv2633, by show _ = ((2 : Nat) : Int); omega⟩, ⟨_, hv2643, by show _ = ((1 : Nat) : Int); omega⟩, ⟨_, hv2641, by show _ = (-1 : Int); omega⟩, fun _ => Q2630, fun q => absurd q (by show ¬ 3 ≤ 2; omega), fun q => absurd q (by show ¬ 3 ≤ 2; omega)⟩, ⟨_, hv2646, by omega⟩, ?_, gr2, fun k j h1 h2 h3 => ((F2630 k j (by omega)).trans ((ho2628 k j (by omega)).trans ((ho2619 k j (by omega)).trans ((ho2608 k j (by omega)).trans ((ho2600 k j (by omega)).trans ((ho2595 k j (by omega)).trans ((F2590 k j (by omega)).trans ((ho2589 k j (by omega)).trans (ho2586 k j (by omega))))))))))⟩
      show ci_ _ 38 2 (dn + (if 2 = 2 then 1 else 0))
      rw [if_pos (by omega)]
      exact ⟨_, hv2648, by omega⟩
    ·
      refine y_iT (c := .eq) (off := 7) (pc' := 110) (len := 3) (r := (0, 0, 0, 0)) (by decide +kernel) (acmpT (c := .eq) (by show _ = _; omega)) (by decide +kernel) ?_
      refine y_same (i := .aload_n 2) (len := 1) (r := (0, 0, 0, 0)) (pc' := 111) (ls' := [some (.inl (some 35)), some (zi xf), some (.inl (some a)), some (zi y2590)]) (st' := [.inl (some a), .inl (some a)]) (by decide +kernel) (fun k q => by cases q) rfl ?_
      refine y_cI (i := .invokevirtual 144) (len := 3) (r := (0, 94, 7, 743)) (nL := 4) (k := 1) (n := 1) (hs := []) (args := [.inl (some a)]) (rest := [.inl (some a)]) (l0 := [some (.inl (some a)), none, none, none]) (by decide +kernel) (Or.inr (Or.inl ⟨_, rfl⟩)) rfl rfl rfl rfl (Nat.le_of_ble_eq_true rfl) (zO Q2595_a.1 Q2595_a.2.1.1 aw1008 rfl) rfl (qI_le (by omega) (q_fnd (d := 0) Q2595_a)) (fun y2649 h2649 hRy2649 => ?_)
      obtain ⟨st, r, l, ey2649, fd, c8, c9, Q2649, F2649⟩ := hRy2649
      have fb := fnd_b fd
      refine y_put (j := 71) (lo := (-2147483648)) (hi := 2147483647) (len := 3) (r := (7, 4, 0, 20543)) (by decide +kernel) Q2649.1 Q2649.2.1.1 aw1008 rfl rfl (by decide) rfl (qin_full _).1 (qin_full _).2 rfl (fun h2650 hg2650 hl2650 hs2650 ho2650 => ?_)
      have ho2650 : hO a 4 h2649 h2650 := ho2650
      have hs2650 : hsl h2650 a 4 = some (zi y2649) := hs2650
      have Q2650_a := QC_up Q2649 hg2650 (fun k j _ _ _ => ho2650 k j (by omega))
      refine y_same (i := .aload_n 0) (len := 1) (r := (0, 0, 0, 0)) (pc' := 118) (ls' := [some (.inl (some 35)), some (zi xf), some (.inl (some a)), some (zi y2590)]) (st' := [.inl (some 35)]) (by decide +kernel) (fun k q => by cases q) rfl ?_
      refine y_same (i := .dup) (len := 1) (r := (0, 0, 0, 0)) (pc' := 119) (ls' := [some (.inl (some 35)), some (zi xf), some (.inl (some a)), some (zi y2590)]) (st' := [.inl (some 35), .inl (some 35)]) (by decide +kernel) (fun k q => by cases q) rfl ?_
      have hv2651 := (ho2586 35 6 (Or.inl (by omega))).trans hn
      have hv2652 := (ho2589 35 6 (Or.inl (by omega))).trans hv2651
      have hv2653 := (F2590 35 6 (by omega)).trans hv2652
      have hv2654 := (ho2595 35 6 (Or.inl (by omega))).trans hv2653
      have hv2655 := (F2649 35 6 (by omega)).trans hv2654
      have hv2656 := (ho2650 35 6 (Or.inl (by omega))).trans hv2655
      refine y_get (j := 35) (len := 3) (r := (4, 6, 0, 289)) (by decide +kernel) Q2650_a.1 (tv35 Q2650_a.1) aw35 rfl rfl hv2656 ?_
      refine y_ic (c := 1) (len := 1) (r := (0, 0, 0, 0)) (by decide +kernel) (by decide) (fun y2657 hy2657 => ?_)
      refine y_add (len := 1) (r := (0, 0, 0, 0)) (by decide +kernel) (by omega) (by omega) (fun y2658 hy2658 => ?_)
      refine y_put (j := 35) (lo := (-2147483648)) (hi := 2147483647) (len := 3) (r := (4, 6, 0, 289)) (by decide +kernel) Q2650_a.1 (tv35 Q2650_a.1) aw35 rfl rfl (by decide) rfl (qin_full _).1 (qin_full _).2 rfl (fun h2659 hg2659 hl2659 hs2659 ho2659 => ?_)
      have ho2659 : hO 35 6 h2650 h2659 := ho2659
      have hs2659 : hsl h2659 35 6 = some (zi y2658) := hs2659
      have Q2659_a := QC_up Q2650_a hg2659 (fun k j _ _ _ => ho2659 k j (by omega))
      refine y_same (i := .aload_n 2) (len := 1) (r := (0, 0, 0, 0)) (pc' := 128) (ls' := [some (.inl (some 35)), some (zi xf), some (.inl (some a)), some (zi y2590)]) (st' := [.inl (some a)]) (by decide +kernel) (fun k q => by cases q) rfl ?_
      have hv2660 := (ho2659 a 4 (Or.inl (by omega))).trans hs2650
      refine y_get (j := 71) (len := 3) (r := (7, 4, 0, 20543)) (by decide +kernel) Q2659_a.1 Q2659_a.2.1.1 aw1008 rfl rfl hv2660 ?_
      refine y_iF (c := .lt) (off := 25) (len := 3) (r := (0, 0, 0, 0)) (by decide +kernel) (acmpF (c := .lt) (by show _ ≤ _; omega)) ?_
      refine y_same (i := .aload_n 2) (len := 1) (r := (0, 0, 0, 0)) (pc' := 135) (ls' := [some (.inl (some 35)), some (zi xf), some (.inl (some a)), some (zi y2590)]) (st' := [.inl (some a)]) (by decide +kernel) (fun k q => by cases q) rfl ?_
      refine y_get (j := 71) (len := 3) (r := (7, 4, 0, 20543)) (by decide +kernel) Q2659_a.1 Q2659_a.2.1.1 aw1008 rfl rfl hv2660 ?_
      refine y_bi (c := 9) (len := 2) (r := (0, 0, 0, 0)) (by decide +kernel) (by decide) (fun y2661 hy2661 => ?_)
      refine y_cF (c := .gt) (off := 16) (len := 3) (r := (0, 0, 0, 0)) (by decide +kernel) (acmpF (c := .gt) (by show _ ≤ _; omega)) ?_
      refine y_same (i := .aload_n 0) (len := 1) (r := (0, 0, 0, 0)) (pc' := 144) (ls' := [some (.inl (some 35)), some (zi xf), some (.inl (some a)), some (zi y2590)]) (st' := [.inl (some 35)]) (by decide +kernel) (fun k q => by cases q) rfl ?_
      refine y_get (j := 21) (len := 3) (r := (4, 3, 2, 285)) (by decide +kernel) Q2659_a.1 (tv35 Q2659_a.1) aw35 rfl rfl (g_rU (f := 3) (T2 := 38) Q2659_a.1 (tv35 Q2659_a.1) aw35 rfl (by decide)) ?_
      refine y_same (i := .aload_n 2) (len := 1) (r := (0, 0, 0, 0)) (pc' := 148) (ls' := [some (.inl (some 35)), some (zi xf), some (.inl (some a)), some (zi y2590)]) (st' := [.inl (some a), .inl (some 38)]) (by decide +kernel) (fun k q => by cases q) rfl ?_
      refine y_get (j := 71) (len := 3) (r := (7, 4, 0, 20543)) (by decide +kernel) Q2659_a.1 Q2659_a.2.1.1 aw1008 rfl rfl hv2660 ?_
      refine y_same (i := .dup2) (len := 1) (r := (0, 0, 0, 0)) (pc' := 152) (ls' := [some (.inl (some 35)), some (zi xf), some (.inl (some a)), some (zi y2590)]) (st' := [zi y2649, .inl (some 38), zi y2649, .inl (some 38)]) (by decide +kernel) (fun k q => by cases q) rfl ?_
      obtain ⟨v2662, hv2663, lv2662, uv2662⟩ := g_int (i := st) Q2659_a.1 (tv38 Q2659_a.1) aw38 (show st < 10 by omega) (sr1 (by omega))
      refine y_ial (i := st) (len := 1) (r := (0, 0, 0, 0)) (by decide +kernel) Q2659_a.1 (tv38 Q2659_a.1) aw38 (by omega) hv2663 ?_
      refine y_ic (c := 1) (len := 1) (r := (0, 0, 0, 0)) (by decide +kernel) (by decide) (fun y2664 hy2664 => ?_)
      refine y_bp (i := .iadd) (f := fun x y => x + y) (len := 1) (r := (0, 0, 0, 0)) (by decide +kernel) rfl rfl (fun y2665 hy2665 => ?_)
      refine y_ias (i := st) (len := 1) (r := (0, 0, 0, 0)) (by decide +kernel) Q2659_a.1 (tv38 Q2659_a.1) aw38 rfl (by omega) (by omega) (sr1 (by omega)) (qin_full _).1 (qin_full _).2 (fun h2666 hg2666 hl2666 hs2666 ho2666 => ?_)
      have Q2666_a := QC_up Q2659_a hg2666 (fun k j _ _ _ => ho2666 k j (by omega))
      refine y_same (i := .aload_n 0) (len := 1) (r := (0, 0, 0, 0)) (pc' := 157) (ls' := [some (.inl (some 35)), some (zi xf), some (.inl (some a)), some (zi y2590)]) (st' := [.inl (some 35)]) (by decide +kernel) (fun k q => by cases q) rfl ?_
      refine y_same (i := .aload_n 0) (len := 1) (r := (0, 0, 0, 0)) (pc' := 158) (ls' := [some (.inl (some 35)), some (zi xf), some (.inl (some a)), some (zi y2590)]) (st' := [.inl (some 35), .inl (some 35)]) (by decide +kernel) (fun k q => by cases q) rfl ?_
      obtain ⟨v2667, hv2668, lv2667, uv2667⟩ := g_int (i := 9) (lo := (-2147483648)) (hi := 2147483647) Q2666_a.1 (tv35 Q2666_a.1) aw35 (by decide) rfl
      refine y_get (j := 45) (len := 3) (r := (4, 9, 0, 294)) (by decide +kernel) Q2666_a.1 (tv35 Q2666_a.1) aw35 rfl rfl hv2668 ?_
      refine y_same (i := .aload_n 2) (len := 1) (r := (0, 0, 0, 0)) (pc' := 162) (ls' := [some (.inl (some 35)), some (zi xf), some (.inl (some a)), some (zi y2590)]) (st' := [.inl (some a), zi v2667, .inl (some 35)]) (by decide +kernel) (fun k q => by cases q) rfl ?_
      have hv2669 := (F2590 a 6 (by omega)).trans hs2589
      have hv2670 := (ho2595 a 6 (Or.inr (by omega))).trans hv2669
      have hv2671 := (F2649 a 6 (by omega)).trans hv2670
      have hv2672 := (ho2650 a 6 (Or.inr (by omega))).trans hv2671
      have hv2673 := (ho2659 a 6 (Or.inl (by omega))).trans hv2672
      have hv2674 := (ho2666 a 6 (Or.inl (by omega))).trans hv2673
      refine y_get (j := 110) (len := 3) (r := (7, 6, 0, 20549)) (by decide +kernel) Q2666_a.1 Q2666_a.2.1.1 aw1008 rfl rfl hv2674 ?_
      refine y_cI (i := .invokestatic 63) (len := 3) (r := (1, 266, 60, 510)) (nL := 2) (k := 1) (n := 2) (hs := []) (args := [zi v2667, zi y2588]) (rest := [.inl (some 35)]) (l0 := [some (zi v2667), some (zi y2588)]) (by decide +kernel) (Or.inl ⟨_, rfl⟩) rfl rfl rfl rfl (Nat.le_of_ble_eq_true rfl) rfl rfl (qI_le (by omega) (e_jmax (d := 0))) (fun y2675 qy2675 hRy2675 => ?_)
      obtain ⟨rfl, my2675, wy2675⟩ := hRy2675
      refine y_put (j := 45) (lo := (-2147483648)) (hi := 2147483647) (len := 3) (r := (4, 9, 0, 294)) (by decide +kernel) Q2666_a.1 (tv35 Q2666_a.1) aw35 rfl rfl (by decide) rfl (qin_full _).1 (qin_full _).2 rfl (fun h2676 hg2676 hl2676 hs2676 ho2676 => ?_)
      have ho2676 : hO 35 9 h2666 h2676 := ho2676
      have hs2676 : hsl h2676 35 9 = some (zi y2675) := hs2676
      have Q2676_a := QC_up Q2666_a hg2676 (fun k j _ _ _ => ho2676 k j (by omega))
      refine y_same (i := .aload_n 0) (len := 1) (r := (0, 0, 0, 0)) (pc' := 172) (ls' := [some (.inl (some 35)), some (zi xf), some (.inl (some a)), some (zi y2590)]) (st' := [.inl (some 35)]) (by decide +kernel) (fun k q => by cases q) rfl ?_
      refine y_same (i := .aload_n 2) (len := 1) (r := (0, 0, 0, 0)) (pc' := 173) (ls' := [some (.inl (some 35)), some (zi xf), some (.inl (some a)), some (zi y2590)]) (st' := [.inl (some a), .inl (some 35)]) (by decide +kernel) (fun k q => by cases q) rfl ?_
      refine y_cI (i := .invokevirtual 147) (len := 3) (r := (0, 82, 7, 751)) (nL := 1) (k := 1) (n := 1) (hs := []) (args := [.inl (some a)]) (rest := [.inl (some 35)]) (l0 := [some (.inl (some a))]) (by decide +kernel) (Or.inr (Or.inl ⟨_, rfl⟩)) rfl rfl rfl rfl (Nat.le_of_ble_eq_true rfl) (zO Q2676_a.1 Q2676_a.2.1.1 aw1008 rfl) rfl (qI_le (by omega) (q_mns (d := 0) Q2676_a)) (fun y2677 qy2677 hRy2677 => ?_)
      obtain ⟨rfl, ty2677⟩ := hRy2677
      have gr2678 : gR h2676 35 := by obtain ⟨x9, a9, b9⟩ := gr; exact ⟨x9, (((ho2676 35 10 (by omega)).trans ((ho2666 35 10 (by omega)).trans ((ho2659 35 10 (by omega)).trans ((ho2650 35 10 (by omega)).trans ((F2649 35 10 (by omega)).trans ((ho2595 35 10 (by omega)).trans ((F2590 35 10 (by omega)).trans ((ho2589 35 10 (by omega)).trans (ho2586 35 10 (by omega))))))))))).trans a9, b9⟩
      refine y_cV (i := .invokevirtual 150) (len := 3) (r := (0, 43, 4, 759)) (nL := 3) (k := 0) (n := 2) (hs := []) (args := [.inl (some 35), zi y2677]) (rest := []) (l0 := [some (.inl (some 35)), some (zi y2677), none]) (by decide +kernel) (Or.inr (Or.inl ⟨_, rfl⟩)) rfl rfl rfl rfl (Nat.le_of_ble_eq_true rfl) (zO Q2676_a.1 (tv35 Q2676_a.1) aw35 rfl) rfl (qV_le (by omega) (e_ng35 (d := 0) Q2676_a.1 gr2678)) (fun h2678 hR2678 => ?_)
      obtain ⟨hg2678, gr2, F2678⟩ := hR2678
      have Q2678 := QC_up Q2676_a hg2678 (fun k j _ _ _ => F2678 k j (by omega))
      refine y_rV (len := 1) (r := (0, 0, 0, 0)) (nL := 4) (n9 := 2) (hs := []) (by decide +kernel) rfl ?_
      have hv2679 := (ho2666 a 4 (Or.inl (by omega))).trans hv2660
      have hv2680 := (ho2676 a 4 (Or.inl (by omega))).trans hv2679
      have hv2681 := (F2678 a 4 (by omega)).trans hv2680
      have hv2682 := (ho2589 a 5 (Or.inr (by omega))).trans hs2586
      have hv2683 := (F2590 a 5 (by omega)).trans hv2682
      have hv2684 := (ho2595 a 5 (Or.inr (by omega))).trans hv2683
      have hv2685 := (F2649 a 5 (by omega)).trans hv2684
      have hv2686 := (ho2650 a 5 (Or.inr (by omega))).trans hv2685
      have hv2687 := (ho2659 a 5 (Or.inl (by omega))).trans hv2686
      have hv2688 := (ho2666 a 5 (Or.inl (by omega))).trans hv2687
      have hv2689 := (ho2676 a 5 (Or.inl (by omega))).trans hv2688
      have hv2690 := (F2678 a 5 (by omega)).trans hv2689
      have hv2691 := (ho2676 a 6 (Or.inl (by omega))).trans hv2674
      have hv2692 := (F2678 a 6 (by omega)).trans hv2691
      have hv2693 := (ho2666 35 6 (Or.inl (by omega))).trans hs2659
      have hv2694 := (ho2676 35 6 (Or.inr (by omega))).trans hv2693
      have hv2695 := (F2678 35 6 (by omega)).trans hv2694
      have hv2696 := (ho2586 38 2 (Or.inl (by omega))).trans hd2
      have hv2697 := (ho2589 38 2 (Or.inl (by omega))).trans hv2696
      have hv2698 := (F2590 38 2 (by omega)).trans hv2697
      have hv2699 := (ho2595 38 2 (Or.inl (by omega))).trans hv2698
      have hv2700 := (F2649 38 2 (by omega)).trans hv2699
      have hv2701 := (ho2650 38 2 (Or.inl (by omega))).trans hv2700
      have hv2702 := (ho2659 38 2 (Or.inl (by omega))).trans hv2701
      have hv2703 := (ho2666 38 2 (Or.inr (by omega))).trans hv2702
      have hv2704 := (ho2676 38 2 (Or.inl (by omega))).trans hv2703
      have hv2705 := (F2678 38 2 (by omega)).trans hv2704
      refine ⟨(s9, st, r, l, 1, -1), ⟨rfl, rfl, Or.inr ⟨s9, ry2590, rfl, Or.inr (Or.inr ⟨fun q => q, ty2598, fd⟩)⟩⟩, hg2678, ⟨a, (rfs_up ra (((F2678 36 n (by omega)).trans ((ho2676 36 n (by omega)).trans ((ho2666 36 n (by omega)).trans ((ho2659 36 n (by omega)).trans ((ho2650 36 n (by omega)).trans ((F2649 36 n (by omega)).trans ((ho2595 36 n (by omega)).trans ((F2590 36 n (by omega)).trans ((ho2589 36 n (by omega)).trans (ho2586 36 n (by omega))))))))))))), ha, LQ_of Q2678, ⟨_, hv2681, by show _ = ((st : Nat) : Int); omega⟩, ⟨_, hv2692, by show _ = ((1 : Nat) : Int); omega⟩, ⟨_, hv2690, by show _ = (-1 : Int); omega⟩, fun _ => Q2678, fun _ q => ci_up (c8 q) (((F2678 a 8 (by omega)).trans ((ho2676 a 8 (by omega)).trans ((ho2666 a 8 (by omega)).trans ((ho2659 a 8 (by omega)).trans (ho2650 a 8 (by omega))))))), fun _ q => ci_up (c9 q) (((F2678 a 9 (by omega)).trans ((ho2676 a 9 (by omega)).trans ((ho2666 a 9 (by omega)).trans ((ho2659 a 9 (by omega)).trans (ho2650 a 9 (by omega)))))))⟩, ⟨_, hv2695, by omega⟩, ?_, gr2, fun k j h1 h2 h3 => ((F2678 k j (by omega)).trans ((ho2676 k j (by omega)).trans ((ho2666 k j (by omega)).trans ((ho2659 k j (by omega)).trans ((ho2650 k j (by omega)).trans ((F2649 k j (by omega)).trans ((ho2595 k j (by omega)).trans ((F2590 k j (by omega)).trans ((ho2589 k j (by omega)).trans (ho2586 k j (by omega)))))))))))⟩
      show ci_ _ 38 2 (dn + (if st = 2 then 1 else 0))
      rw [if_neg (by omega)]
      exact ⟨_, hv2705, by omega⟩
  ·
    refine y_same (i := .istore_n 3) (len := 1) (r := (0, 0, 0, 0)) (pc' := 42) (ls' := [some (.inl (some 35)), some (zi xf), some (.inl (some a)), some (zi y2590)]) (st' := []) (by decide +kernel) (fun k q => by cases q) rfl ?_
    refine y_same (i := .aload_n 2) (len := 1) (r := (0, 0, 0, 0)) (pc' := 43) (ls' := [some (.inl (some 35)), some (zi xf), some (.inl (some a)), some (zi y2590)]) (st' := [.inl (some a)]) (by decide +kernel) (fun k q => by cases q) rfl ?_
    refine y_same (i := .iload_n 3) (len := 1) (r := (0, 0, 0, 0)) (pc' := 44) (ls' := [some (.inl (some 35)), some (zi xf), some (.inl (some a)), some (zi y2590)]) (st' := [zi y2590, .inl (some a)]) (by decide +kernel) (fun k q => by cases q) rfl ?_
    refine y_iT (c := .eq) (off := 18) (pc' := 62) (len := 3) (r := (0, 0, 0, 0)) (by decide +kernel) (acmpT (c := .eq) (by show _ = _; omega)) (by decide +kernel) ?_
    refine y_ic (c := (-1)) (len := 1) (r := (0, 0, 0, 0)) (by decide +kernel) (by decide) (fun y2706 hy2706 => ?_)
    refine y_put (j := 137) (lo := (-2147483648)) (hi := 2147483647) (len := 3) (r := (7, 7, 0, 20551)) (by decide +kernel) Q2590.1 Q2590.2.1.1 aw1008 rfl rfl (by decide) rfl (qin_full _).1 (qin_full _).2 rfl (fun h2707 hg2707 hl2707 hs2707 ho2707 => ?_)
    have ho2707 : hO a 7 h2590 h2707 := ho2707
    have hs2707 : hsl h2707 a 7 = some (zi y2706) := hs2707
    have Q2707_a := QC_up Q2590 hg2707 (fun k j _ _ _ => ho2707 k j (by omega))
    refine y_same (i := .iload_n 3) (len := 1) (r := (0, 0, 0, 0)) (pc' := 67) (ls' := [some (.inl (some 35)), some (zi xf), some (.inl (some a)), some (zi y2590)]) (st' := [zi y2590]) (by decide +kernel) (fun k q => by cases q) rfl ?_
    refine y_iF (c := .ne) (off := 11) (len := 3) (r := (0, 0, 0, 0)) (by decide +kernel) (acmpF (c := .ne) (by show _ = _; omega)) ?_
    refine y_same (i := .aload_n 2) (len := 1) (r := (0, 0, 0, 0)) (pc' := 71) (ls' := [some (.inl (some 35)), some (zi xf), some (.inl (some a)), some (zi y2590)]) (st' := [.inl (some a)]) (by decide +kernel) (fun k q => by cases q) rfl ?_
    refine y_ic (c := 0) (len := 1) (r := (0, 0, 0, 0)) (by decide +kernel) (by decide) (fun y2708 hy2708 => ?_)
    refine y_put (j := 71) (lo := (-2147483648)) (hi := 2147483647) (len := 3) (r := (7, 4, 0, 20543)) (by decide +kernel) Q2707_a.1 Q2707_a.2.1.1 aw1008 rfl rfl (by decide) rfl (qin_full _).1 (qin_full _).2 rfl (fun h2709 hg2709 hl2709 hs2709 ho2709 => ?_)
    have ho2709 : hO a 4 h2707 h2709 := ho2709
    have hs2709 : hsl h2709 a 4 = some (zi y2708) := hs2709
    have Q2709_a := QC_up Q2707_a hg2709 (fun k j _ _ _ => ho2709 k j (by omega))
    refine y_goto (off := 42) (pc' := 117) (len := 3) (r := (0, 0, 0, 0)) (by decide +kernel) (by decide +kernel) ?_
    refine y_same (i := .aload_n 0) (len := 1) (r := (0, 0, 0, 0)) (pc' := 118) (ls' := [some (.inl (some 35)), some (zi xf), some (.inl (some a)), some (zi y2590)]) (st' := [.inl (some 35)]) (by decide +kernel) (fun k q => by cases q) rfl ?_
    refine y_same (i := .dup) (len := 1) (r := (0, 0, 0, 0)) (pc' := 119) (ls' := [some (.inl (some 35)), some (zi xf), some (.inl (some a)), some (zi y2590)]) (st' := [.inl (some 35), .inl (some 35)]) (by decide +kernel) (fun k q => by cases q) rfl ?_
    have hv2710 := (ho2586 35 6 (Or.inl (by omega))).trans hn
    have hv2711 := (ho2589 35 6 (Or.inl (by omega))).trans hv2710
    have hv2712 := (F2590 35 6 (by omega)).trans hv2711
    have hv2713 := (ho2707 35 6 (Or.inl (by omega))).trans hv2712
    have hv2714 := (ho2709 35 6 (Or.inl (by omega))).trans hv2713
    refine y_get (j := 35) (len := 3) (r := (4, 6, 0, 289)) (by decide +kernel) Q2709_a.1 (tv35 Q2709_a.1) aw35 rfl rfl hv2714 ?_
    refine y_ic (c := 1) (len := 1) (r := (0, 0, 0, 0)) (by decide +kernel) (by decide) (fun y2715 hy2715 => ?_)
    refine y_add (len := 1) (r := (0, 0, 0, 0)) (by decide +kernel) (by omega) (by omega) (fun y2716 hy2716 => ?_)
    refine y_put (j := 35) (lo := (-2147483648)) (hi := 2147483647) (len := 3) (r := (4, 6, 0, 289)) (by decide +kernel) Q2709_a.1 (tv35 Q2709_a.1) aw35 rfl rfl (by decide) rfl (qin_full _).1 (qin_full _).2 rfl (fun h2717 hg2717 hl2717 hs2717 ho2717 => ?_)
    have ho2717 : hO 35 6 h2709 h2717 := ho2717
    have hs2717 : hsl h2717 35 6 = some (zi y2716) := hs2717
    have Q2717_a := QC_up Q2709_a hg2717 (fun k j _ _ _ => ho2717 k j (by omega))
    refine y_same (i := .aload_n 2) (len := 1) (r := (0, 0, 0, 0)) (pc' := 128) (ls' := [some (.inl (some 35)), some (zi xf), some (.inl (some a)), some (zi y2590)]) (st' := [.inl (some a)]) (by decide +kernel) (fun k q => by cases q) rfl ?_
    have hv2718 := (ho2717 a 4 (Or.inl (by omega))).trans hs2709
    refine y_get (j := 71) (len := 3) (r := (7, 4, 0, 20543)) (by decide +kernel) Q2717_a.1 Q2717_a.2.1.1 aw1008 rfl rfl hv2718 ?_
    refine y_iF (c := .lt) (off := 25) (len := 3) (r := (0, 0, 0, 0)) (by decide +kernel) (acmpF (c := .lt) (by show _ ≤ _; omega)) ?_
    refine y_same (i := .aload_n 2) (len := 1) (r := (0, 0, 0, 0)) (pc' := 135) (ls' := [some (.inl (some 35)), some (zi xf), some (.inl (some a)), some (zi y2590)]) (st' := [.inl (some a)]) (by decide +kernel) (fun k q => by cases q) rfl ?_
    refine y_get (j := 71) (len := 3) (r := (7, 4, 0, 20543)) (by decide +kernel) Q2717_a.1 Q2717_a.2.1.1 aw1008 rfl rfl hv2718 ?_
    refine y_bi (c := 9) (len := 2) (r := (0, 0, 0, 0)) (by decide +kernel) (by decide) (fun y2719 hy2719 => ?_)
    refine y_cF (c := .gt) (off := 16) (len := 3) (r := (0, 0, 0, 0)) (by decide +kernel) (acmpF (c := .gt) (by show _ ≤ _; omega)) ?_
    refine y_same (i := .aload_n 0) (len := 1) (r := (0, 0, 0, 0)) (pc' := 144) (ls' := [some (.inl (some 35)), some (zi xf), some (.inl (some a)), some (zi y2590)]) (st' := [.inl (some 35)]) (by decide +kernel) (fun k q => by cases q) rfl ?_
    refine y_get (j := 21) (len := 3) (r := (4, 3, 2, 285)) (by decide +kernel) Q2717_a.1 (tv35 Q2717_a.1) aw35 rfl rfl (g_rU (f := 3) (T2 := 38) Q2717_a.1 (tv35 Q2717_a.1) aw35 rfl (by decide)) ?_
    refine y_same (i := .aload_n 2) (len := 1) (r := (0, 0, 0, 0)) (pc' := 148) (ls' := [some (.inl (some 35)), some (zi xf), some (.inl (some a)), some (zi y2590)]) (st' := [.inl (some a), .inl (some 38)]) (by decide +kernel) (fun k q => by cases q) rfl ?_
    refine y_get (j := 71) (len := 3) (r := (7, 4, 0, 20543)) (by decide +kernel) Q2717_a.1 Q2717_a.2.1.1 aw1008 rfl rfl hv2718 ?_
    refine y_same (i := .dup2) (len := 1) (r := (0, 0, 0, 0)) (pc' := 152) (ls' := [some (.inl (some 35)), some (zi xf), some (.inl (some a)), some (zi y2590)]) (st' := [zi y2708, .inl (some 38), zi y2708, .inl (some 38)]) (by decide +kernel) (fun k q => by cases q) rfl ?_
    obtain ⟨v2720, hv2721, lv2720, uv2720⟩ := g_int (i := 0) Q2717_a.1 (tv38 Q2717_a.1) aw38 (show 0 < 10 by omega) (sr1 (by omega))
    refine y_ial (i := 0) (len := 1) (r := (0, 0, 0, 0)) (by decide +kernel) Q2717_a.1 (tv38 Q2717_a.1) aw38 (by omega) hv2721 ?_
    refine y_ic (c := 1) (len := 1) (r := (0, 0, 0, 0)) (by decide +kernel) (by decide) (fun y2722 hy2722 => ?_)
    refine y_bp (i := .iadd) (f := fun x y => x + y) (len := 1) (r := (0, 0, 0, 0)) (by decide +kernel) rfl rfl (fun y2723 hy2723 => ?_)
    refine y_ias (i := 0) (len := 1) (r := (0, 0, 0, 0)) (by decide +kernel) Q2717_a.1 (tv38 Q2717_a.1) aw38 rfl (by omega) (by omega) (sr1 (by omega)) (qin_full _).1 (qin_full _).2 (fun h2724 hg2724 hl2724 hs2724 ho2724 => ?_)
    have Q2724_a := QC_up Q2717_a hg2724 (fun k j _ _ _ => ho2724 k j (by omega))
    refine y_same (i := .aload_n 0) (len := 1) (r := (0, 0, 0, 0)) (pc' := 157) (ls' := [some (.inl (some 35)), some (zi xf), some (.inl (some a)), some (zi y2590)]) (st' := [.inl (some 35)]) (by decide +kernel) (fun k q => by cases q) rfl ?_
    refine y_same (i := .aload_n 0) (len := 1) (r := (0, 0, 0, 0)) (pc' := 158) (ls' := [some (.inl (some 35)), some (zi xf), some (.inl (some a)), some (zi y2590)]) (st' := [.inl (some 35), .inl (some 35)]) (by decide +kernel) (fun k q => by cases q) rfl ?_
    obtain ⟨v2725, hv2726, lv2725, uv2725⟩ := g_int (i := 9) (lo := (-2147483648)) (hi := 2147483647) Q2724_a.1 (tv35 Q2724_a.1) aw35 (by decide) rfl
    refine y_get (j := 45) (len := 3) (r := (4, 9, 0, 294)) (by decide +kernel) Q2724_a.1 (tv35 Q2724_a.1) aw35 rfl rfl hv2726 ?_
    refine y_same (i := .aload_n 2) (len := 1) (r := (0, 0, 0, 0)) (pc' := 162) (ls' := [some (.inl (some 35)), some (zi xf), some (.inl (some a)), some (zi y2590)]) (st' := [.inl (some a), zi v2725, .inl (some 35)]) (by decide +kernel) (fun k q => by cases q) rfl ?_
    have hv2727 := (F2590 a 6 (by omega)).trans hs2589
    have hv2728 := (ho2707 a 6 (Or.inr (by omega))).trans hv2727
    have hv2729 := (ho2709 a 6 (Or.inr (by omega))).trans hv2728
    have hv2730 := (ho2717 a 6 (Or.inl (by omega))).trans hv2729
    have hv2731 := (ho2724 a 6 (Or.inl (by omega))).trans hv2730
    refine y_get (j := 110) (len := 3) (r := (7, 6, 0, 20549)) (by decide +kernel) Q2724_a.1 Q2724_a.2.1.1 aw1008 rfl rfl hv2731 ?_
    refine y_cI (i := .invokestatic 63) (len := 3) (r := (1, 266, 60, 510)) (nL := 2) (k := 1) (n := 2) (hs := []) (args := [zi v2725, zi y2588]) (rest := [.inl (some 35)]) (l0 := [some (zi v2725), some (zi y2588)]) (by decide +kernel) (Or.inl ⟨_, rfl⟩) rfl rfl rfl rfl (Nat.le_of_ble_eq_true rfl) rfl rfl (qI_le (by omega) (e_jmax (d := 0))) (fun y2732 qy2732 hRy2732 => ?_)
    obtain ⟨rfl, my2732, wy2732⟩ := hRy2732
    refine y_put (j := 45) (lo := (-2147483648)) (hi := 2147483647) (len := 3) (r := (4, 9, 0, 294)) (by decide +kernel) Q2724_a.1 (tv35 Q2724_a.1) aw35 rfl rfl (by decide) rfl (qin_full _).1 (qin_full _).2 rfl (fun h2733 hg2733 hl2733 hs2733 ho2733 => ?_)
    have ho2733 : hO 35 9 h2724 h2733 := ho2733
    have hs2733 : hsl h2733 35 9 = some (zi y2732) := hs2733
    have Q2733_a := QC_up Q2724_a hg2733 (fun k j _ _ _ => ho2733 k j (by omega))
    refine y_same (i := .aload_n 0) (len := 1) (r := (0, 0, 0, 0)) (pc' := 172) (ls' := [some (.inl (some 35)), some (zi xf), some (.inl (some a)), some (zi y2590)]) (st' := [.inl (some 35)]) (by decide +kernel) (fun k q => by cases q) rfl ?_
    refine y_same (i := .aload_n 2) (len := 1) (r := (0, 0, 0, 0)) (pc' := 173) (ls' := [some (.inl (some 35)), some (zi xf), some (.inl (some a)), some (zi y2590)]) (st' := [.inl (some a), .inl (some 35)]) (by decide +kernel) (fun k q => by cases q) rfl ?_
    refine y_cI (i := .invokevirtual 147) (len := 3) (r := (0, 82, 7, 751)) (nL := 1) (k := 1) (n := 1) (hs := []) (args := [.inl (some a)]) (rest := [.inl (some 35)]) (l0 := [some (.inl (some a))]) (by decide +kernel) (Or.inr (Or.inl ⟨_, rfl⟩)) rfl rfl rfl rfl (Nat.le_of_ble_eq_true rfl) (zO Q2733_a.1 Q2733_a.2.1.1 aw1008 rfl) rfl (qI_le (by omega) (q_mns (d := 0) Q2733_a)) (fun y2734 qy2734 hRy2734 => ?_)
    obtain ⟨rfl, ty2734⟩ := hRy2734
    have gr2735 : gR h2733 35 := by obtain ⟨x9, a9, b9⟩ := gr; exact ⟨x9, (((ho2733 35 10 (by omega)).trans ((ho2724 35 10 (by omega)).trans ((ho2717 35 10 (by omega)).trans ((ho2709 35 10 (by omega)).trans ((ho2707 35 10 (by omega)).trans ((F2590 35 10 (by omega)).trans ((ho2589 35 10 (by omega)).trans (ho2586 35 10 (by omega)))))))))).trans a9, b9⟩
    refine y_cV (i := .invokevirtual 150) (len := 3) (r := (0, 43, 4, 759)) (nL := 3) (k := 0) (n := 2) (hs := []) (args := [.inl (some 35), zi y2734]) (rest := []) (l0 := [some (.inl (some 35)), some (zi y2734), none]) (by decide +kernel) (Or.inr (Or.inl ⟨_, rfl⟩)) rfl rfl rfl rfl (Nat.le_of_ble_eq_true rfl) (zO Q2733_a.1 (tv35 Q2733_a.1) aw35 rfl) rfl (qV_le (by omega) (e_ng35 (d := 0) Q2733_a.1 gr2735)) (fun h2735 hR2735 => ?_)
    obtain ⟨hg2735, gr2, F2735⟩ := hR2735
    have Q2735 := QC_up Q2733_a hg2735 (fun k j _ _ _ => F2735 k j (by omega))
    refine y_rV (len := 1) (r := (0, 0, 0, 0)) (nL := 4) (n9 := 2) (hs := []) (by decide +kernel) rfl ?_
    have hv2736 := (ho2724 a 4 (Or.inl (by omega))).trans hv2718
    have hv2737 := (ho2733 a 4 (Or.inl (by omega))).trans hv2736
    have hv2738 := (F2735 a 4 (by omega)).trans hv2737
    have hv2739 := (ho2589 a 5 (Or.inr (by omega))).trans hs2586
    have hv2740 := (F2590 a 5 (by omega)).trans hv2739
    have hv2741 := (ho2707 a 5 (Or.inr (by omega))).trans hv2740
    have hv2742 := (ho2709 a 5 (Or.inr (by omega))).trans hv2741
    have hv2743 := (ho2717 a 5 (Or.inl (by omega))).trans hv2742
    have hv2744 := (ho2724 a 5 (Or.inl (by omega))).trans hv2743
    have hv2745 := (ho2733 a 5 (Or.inl (by omega))).trans hv2744
    have hv2746 := (F2735 a 5 (by omega)).trans hv2745
    have hv2747 := (ho2733 a 6 (Or.inl (by omega))).trans hv2731
    have hv2748 := (F2735 a 6 (by omega)).trans hv2747
    have hv2749 := (ho2724 35 6 (Or.inl (by omega))).trans hs2717
    have hv2750 := (ho2733 35 6 (Or.inr (by omega))).trans hv2749
    have hv2751 := (F2735 35 6 (by omega)).trans hv2750
    have hv2752 := (ho2586 38 2 (Or.inl (by omega))).trans hd2
    have hv2753 := (ho2589 38 2 (Or.inl (by omega))).trans hv2752
    have hv2754 := (F2590 38 2 (by omega)).trans hv2753
    have hv2755 := (ho2707 38 2 (Or.inl (by omega))).trans hv2754
    have hv2756 := (ho2709 38 2 (Or.inl (by omega))).trans hv2755
    have hv2757 := (ho2717 38 2 (Or.inl (by omega))).trans hv2756
    have hv2758 := (ho2724 38 2 (Or.inr (by omega))).trans hv2757
    have hv2759 := (ho2733 38 2 (Or.inl (by omega))).trans hv2758
    have hv2760 := (F2735 38 2 (by omega)).trans hv2759
    refine ⟨(s9, 0, 0, 0, 1, -1), ⟨rfl, rfl, Or.inl ⟨ry2590, rfl⟩⟩, hg2735, ⟨a, (rfs_up ra (((F2735 36 n (by omega)).trans ((ho2733 36 n (by omega)).trans ((ho2724 36 n (by omega)).trans ((ho2717 36 n (by omega)).trans ((ho2709 36 n (by omega)).trans ((ho2707 36 n (by omega)).trans ((F2590 36 n (by omega)).trans ((ho2589 36 n (by omega)).trans (ho2586 36 n (by omega)))))))))))), ha, LQ_of Q2735, ⟨_, hv2738, by show _ = ((0 : Nat) : Int); omega⟩, ⟨_, hv2748, by show _ = ((1 : Nat) : Int); omega⟩, ⟨_, hv2746, by show _ = (-1 : Int); omega⟩, fun q => absurd rfl q, fun q => absurd q (by show ¬ 3 ≤ 0; omega), fun q => absurd q (by show ¬ 3 ≤ 0; omega)⟩, ⟨_, hv2751, by omega⟩, ?_, gr2, fun k j h1 h2 h3 => ((F2735 k j (by omega)).trans ((ho2733 k j (by omega)).trans ((ho2724 k j (by omega)).trans ((ho2717 k j (by omega)).trans ((ho2709 k j (by omega)).trans ((ho2707 k j (by omega)).trans ((F2590 k j (by omega)).trans ((ho2589 k j (by omega)).trans (ho2586 k j (by omega))))))))))⟩
    show ci_ _ 38 2 (dn + (if 0 = 2 then 1 else 0))
    rw [if_neg (by omega)]
    exact ⟨_, hv2760, by omega⟩
theorem e_set35n {d t n a dn i b row : Nat} {τ : List Nat} {h : zh} {s : sqT} {xf : Int32} (ha : 388 < a) (Q : QC τ h a s) (nb : ¬ big_ s) (ra : rfs h 36 n a) (hn9 : n < 300) (cn : ci_ h 35 6 n) (ml : kx_ h 35 0 1) (gr : gR h 35) (cd : ci_ h 38 2 dn) (hdn : dn ≤ 300) (exf : xf.toInt = (i : Int)) (hi : i < n) (rb : rfs h 36 i b) (hb : 388 < b) (tb : τ[b]? = some 1008) (cr : ci_ h b 6 row) (hrow : row ≤ 39) (ne : b + 9 ≤ a ∨ a + 9 ≤ b) : qV (d + 7) 42 [some (.inl (some 35)), some (zi xf), none, none] h t (fun h1 => ∃ e, setR (fun _ => False) true s (i : Int) (row + 1) e ∧ hG τ h1 ∧ prE τ h1 36 n e ∧ ci_ h1 35 6 (n + 1) ∧ ci_ h1 38 2 (dn + (if e.2.1 = 2 then 1 else 0)) ∧ gR h1 35 ∧ ∀ k j, (k < a ∨ a + 9 ≤ k) → (k ≠ 35 ∨ (j ≠ 6 ∧ j ≠ 9 ∧ j ≠ 10)) → k ≠ 38 → hsl h1 k j = hsl h k j) := by
  obtain ⟨xn, hn, en⟩ := cn
  obtain ⟨xm, hml, eml⟩ := ml
  obtain ⟨xd, hd2, ed⟩ := cd
  obtain ⟨xr, hrw, er⟩ := cr
  have hg := Q.1
  refine qV_of ?_
  refine y_same (i := .aload_n 0) (len := 1) (r := (0, 0, 0, 0)) (pc' := 1) (ls' := [some (.inl (some 35)), some (zi xf), none, none]) (st' := [.inl (some 35)]) (by decide +kernel) (fun k q => by cases q) rfl ?_
  refine y_same (i := .aload_n 0) (len := 1) (r := (0, 0, 0, 0)) (pc' := 2) (ls' := [some (.inl (some 35)), some (zi xf), none, none]) (st' := [.inl (some 35), .inl (some 35)]) (by decide +kernel) (fun k q => by cases q) rfl ?_
  refine y_get (j := 35) (len := 3) (r := (4, 6, 0, 289)) (by decide +kernel) Q.1 (tv35 Q.1) aw35 rfl rfl hn ?_
  refine y_cA (i := .invokevirtual 67) (len := 3) (r := (0, 33, 4, 505)) (nL := 3) (k := 3) (n := 2) (hs := []) (args := [.inl (some 35), zi xn]) (rest := []) (l0 := [some (.inl (some 35)), some (zi xn), none]) (by decide +kernel) (Or.inr (Or.inl ⟨_, rfl⟩)) rfl rfl rfl rfl (Nat.le_of_ble_eq_true rfl) (zO Q.1 (tv35 Q.1) aw35 rfl) rfl (qA_le (by omega) (e_slo35 (d := 0) (k := n) Q.1 (by omega) (by omega) (ra))) (fun h2761 hR2761 => ?_)
  obtain rfl := hR2761
  refine y_same (i := .astore_n 2) (len := 1) (r := (0, 0, 0, 0)) (pc' := 9) (ls' := [some (.inl (some 35)), some (zi xf), some (.inl (some a)), none]) (st' := []) (by decide +kernel) (fun k q => by cases q) rfl ?_
  refine y_same (i := .aload_n 2) (len := 1) (r := (0, 0, 0, 0)) (pc' := 10) (ls' := [some (.inl (some 35)), some (zi xf), some (.inl (some a)), none]) (st' := [.inl (some a)]) (by decide +kernel) (fun k q => by cases q) rfl ?_
  refine y_same (i := .iload_n 1) (len := 1) (r := (0, 0, 0, 0)) (pc' := 11) (ls' := [some (.inl (some 35)), some (zi xf), some (.inl (some a)), none]) (st' := [zi xf, .inl (some a)]) (by decide +kernel) (fun k q => by cases q) rfl ?_
  refine y_put (j := 127) (lo := (-2147483648)) (hi := 2147483647) (len := 3) (r := (7, 5, 0, 20546)) (by decide +kernel) Q.1 Q.2.1.1 aw1008 rfl rfl (by decide) rfl (qin_full _).1 (qin_full _).2 rfl (fun h2762 hg2762 hl2762 hs2762 ho2762 => ?_)
  have ho2762 : hO a 5 h h2762 := ho2762
  have hs2762 : hsl h2762 a 5 = some (zi xf) := hs2762
  have Q2762_a := QC_up Q hg2762 (fun k j _ _ _ => ho2762 k j (by omega))
  refine y_same (i := .aload_n 2) (len := 1) (r := (0, 0, 0, 0)) (pc' := 15) (ls' := [some (.inl (some 35)), some (zi xf), some (.inl (some a)), none]) (st' := [.inl (some a)]) (by decide +kernel) (fun k q => by cases q) rfl ?_
  refine y_same (i := .iload_n 1) (len := 1) (r := (0, 0, 0, 0)) (pc' := 16) (ls' := [some (.inl (some 35)), some (zi xf), some (.inl (some a)), none]) (st' := [zi xf, .inl (some a)]) (by decide +kernel) (fun k q => by cases q) rfl ?_
  refine y_ic (c := (-1)) (len := 1) (r := (0, 0, 0, 0)) (by decide +kernel) (by decide) (fun y2763 hy2763 => ?_)
  refine y_cT (c := .ne) (off := 7) (pc' := 24) (len := 3) (r := (0, 0, 0, 0)) (by decide +kernel) (acmpT (c := .ne) (by show ¬ (_ = _); omega)) (by decide +kernel) ?_
  refine y_same (i := .aload_n 0) (len := 1) (r := (0, 0, 0, 0)) (pc' := 25) (ls' := [some (.inl (some 35)), some (zi xf), some (.inl (some a)), none]) (st' := [.inl (some 35), .inl (some a)]) (by decide +kernel) (fun k q => by cases q) rfl ?_
  refine y_same (i := .iload_n 1) (len := 1) (r := (0, 0, 0, 0)) (pc' := 26) (ls' := [some (.inl (some 35)), some (zi xf), some (.inl (some a)), none]) (st' := [zi xf, .inl (some 35), .inl (some a)]) (by decide +kernel) (fun k q => by cases q) rfl ?_
  refine y_cA (i := .invokevirtual 67) (len := 3) (r := (0, 33, 4, 505)) (nL := 3) (k := 3) (n := 2) (hs := []) (args := [.inl (some 35), zi xf]) (rest := [.inl (some a)]) (l0 := [some (.inl (some 35)), some (zi xf), none]) (by decide +kernel) (Or.inr (Or.inl ⟨_, rfl⟩)) rfl rfl rfl rfl (Nat.le_of_ble_eq_true rfl) (zO Q2762_a.1 (tv35 Q2762_a.1) aw35 rfl) rfl (qA_le (by omega) (e_slo35 (d := 0) (k := i) Q2762_a.1 (by omega) (by omega) (((ho2762 36 i (by omega))).trans rb))) (fun h2764 hR2764 => ?_)
  obtain rfl := hR2764
  have hv2765 := (ho2762 b 6 (Or.inl (by omega))).trans hrw
  refine y_get (j := 110) (len := 3) (r := (7, 6, 0, 20549)) (by decide +kernel) Q2762_a.1 tb aw1008 rfl rfl hv2765 ?_
  refine y_ic (c := 1) (len := 1) (r := (0, 0, 0, 0)) (by decide +kernel) (by decide) (fun y2766 hy2766 => ?_)
  refine y_add (len := 1) (r := (0, 0, 0, 0)) (by decide +kernel) (by omega) (by omega) (fun y2767 hy2767 => ?_)
  refine y_put (j := 110) (lo := (-2147483648)) (hi := 2147483647) (len := 3) (r := (7, 6, 0, 20549)) (by decide +kernel) Q2762_a.1 Q2762_a.2.1.1 aw1008 rfl rfl (by decide) rfl (qin_full _).1 (qin_full _).2 rfl (fun h2768 hg2768 hl2768 hs2768 ho2768 => ?_)
  have ho2768 : hO a 6 h2762 h2768 := ho2768
  have hs2768 : hsl h2768 a 6 = some (zi y2767) := hs2768
  have Q2768_a := QC_up Q2762_a hg2768 (fun k j _ _ _ => ho2768 k j (by omega))
  refine y_same (i := .aload_n 2) (len := 1) (r := (0, 0, 0, 0)) (pc' := 38) (ls' := [some (.inl (some 35)), some (zi xf), some (.inl (some a)), none]) (st' := [.inl (some a)]) (by decide +kernel) (fun k q => by cases q) rfl ?_
  refine y_cI (i := .invokevirtual 130) (len := 3) (r := (0, 84, 7, 635)) (nL := 3) (k := 2) (n := 1) (hs := []) (args := [.inl (some a)]) (rest := []) (l0 := [some (.inl (some a)), none, none]) (by decide +kernel) (Or.inr (Or.inl ⟨_, rfl⟩)) rfl rfl rfl rfl (Nat.le_of_ble_eq_true rfl) (zO Q2768_a.1 Q2768_a.2.1.1 aw1008 rfl) rfl (qI_le (by omega) (q_rdy (d := 0) Q2768_a (mq_b Q2768_a.2.2.2.2 nb))) (fun y2769 h2769 hRy2769 => ?_)
  obtain ⟨s9, Q2769, F2769, hDy2769⟩ := hRy2769
  rcases hDy2769 with ⟨vy2769, ry2769⟩ | ⟨vy2769, ry2769⟩
  ·
    refine y_same (i := .istore_n 3) (len := 1) (r := (0, 0, 0, 0)) (pc' := 42) (ls' := [some (.inl (some 35)), some (zi xf), some (.inl (some a)), some (zi y2769)]) (st' := []) (by decide +kernel) (fun k q => by cases q) rfl ?_
    refine y_same (i := .aload_n 2) (len := 1) (r := (0, 0, 0, 0)) (pc' := 43) (ls' := [some (.inl (some 35)), some (zi xf), some (.inl (some a)), some (zi y2769)]) (st' := [.inl (some a)]) (by decide +kernel) (fun k q => by cases q) rfl ?_
    refine y_same (i := .iload_n 3) (len := 1) (r := (0, 0, 0, 0)) (pc' := 44) (ls' := [some (.inl (some 35)), some (zi xf), some (.inl (some a)), some (zi y2769)]) (st' := [zi y2769, .inl (some a)]) (by decide +kernel) (fun k q => by cases q) rfl ?_
    refine y_iF (c := .eq) (off := 18) (len := 3) (r := (0, 0, 0, 0)) (by decide +kernel) (acmpF (c := .eq) (by show ¬ (_ = _); omega)) ?_
    refine y_same (i := .aload_n 0) (len := 1) (r := (0, 0, 0, 0)) (pc' := 48) (ls' := [some (.inl (some 35)), some (zi xf), some (.inl (some a)), some (zi y2769)]) (st' := [.inl (some 35), .inl (some a)]) (by decide +kernel) (fun k q => by cases q) rfl ?_
    have hv2770 := (ho2762 35 0 (Or.inl (by omega))).trans hml
    have hv2771 := (ho2768 35 0 (Or.inl (by omega))).trans hv2770
    have hv2772 := (F2769 35 0 (by omega)).trans hv2771
    refine y_get (j := 54) (len := 3) (r := (4, 0, 1, 282)) (by decide +kernel) Q2769.1 (tv35 Q2769.1) aw35 rfl rfl hv2772 ?_
    refine y_iT (c := .ne) (off := 11) (pc' := 62) (len := 3) (r := (0, 0, 0, 0)) (by decide +kernel) (acmpT (c := .ne) (by show ¬ (_ = _); omega)) (by decide +kernel) ?_
    refine y_ic (c := (-1)) (len := 1) (r := (0, 0, 0, 0)) (by decide +kernel) (by decide) (fun y2773 hy2773 => ?_)
    refine y_put (j := 137) (lo := (-2147483648)) (hi := 2147483647) (len := 3) (r := (7, 7, 0, 20551)) (by decide +kernel) Q2769.1 Q2769.2.1.1 aw1008 rfl rfl (by decide) rfl (qin_full _).1 (qin_full _).2 rfl (fun h2774 hg2774 hl2774 hs2774 ho2774 => ?_)
    have ho2774 : hO a 7 h2769 h2774 := ho2774
    have hs2774 : hsl h2774 a 7 = some (zi y2773) := hs2774
    have Q2774_a := QC_up Q2769 hg2774 (fun k j _ _ _ => ho2774 k j (by omega))
    refine y_same (i := .iload_n 3) (len := 1) (r := (0, 0, 0, 0)) (pc' := 67) (ls' := [some (.inl (some 35)), some (zi xf), some (.inl (some a)), some (zi y2769)]) (st' := [zi y2769]) (by decide +kernel) (fun k q => by cases q) rfl ?_
    refine y_iT (c := .ne) (off := 11) (pc' := 78) (len := 3) (r := (0, 0, 0, 0)) (by decide +kernel) (acmpT (c := .ne) (by show ¬ (_ = _); omega)) (by decide +kernel) ?_
    refine y_same (i := .aload_n 2) (len := 1) (r := (0, 0, 0, 0)) (pc' := 79) (ls' := [some (.inl (some 35)), some (zi xf), some (.inl (some a)), some (zi y2769)]) (st' := [.inl (some a)]) (by decide +kernel) (fun k q => by cases q) rfl ?_
    refine y_get (j := 137) (len := 3) (r := (7, 7, 0, 20551)) (by decide +kernel) Q2774_a.1 Q2774_a.2.1.1 aw1008 rfl rfl hs2774 ?_
    refine y_ic (c := (-1)) (len := 1) (r := (0, 0, 0, 0)) (by decide +kernel) (by decide) (fun y2775 hy2775 => ?_)
    refine y_cT (c := .eq) (off := 11) (pc' := 94) (len := 3) (r := (0, 0, 0, 0)) (by decide +kernel) (acmpT (c := .eq) (by show _ = _; omega)) (by decide +kernel) ?_
    refine y_same (i := .aload_n 2) (len := 1) (r := (0, 0, 0, 0)) (pc' := 95) (ls' := [some (.inl (some 35)), some (zi xf), some (.inl (some a)), some (zi y2769)]) (st' := [.inl (some a)]) (by decide +kernel) (fun k q => by cases q) rfl ?_
    refine y_same (i := .aload_n 2) (len := 1) (r := (0, 0, 0, 0)) (pc' := 96) (ls' := [some (.inl (some 35)), some (zi xf), some (.inl (some a)), some (zi y2769)]) (st' := [.inl (some a), .inl (some a)]) (by decide +kernel) (fun k q => by cases q) rfl ?_
    refine y_same (i := .aload_n 0) (len := 1) (r := (0, 0, 0, 0)) (pc' := 97) (ls' := [some (.inl (some 35)), some (zi xf), some (.inl (some a)), some (zi y2769)]) (st' := [.inl (some 35), .inl (some a), .inl (some a)]) (by decide +kernel) (fun k q => by cases q) rfl ?_
    have hv2776 := (ho2774 35 0 (Or.inl (by omega))).trans hv2772
    refine y_get (j := 54) (len := 3) (r := (4, 0, 1, 282)) (by decide +kernel) Q2774_a.1 (tv35 Q2774_a.1) aw35 rfl rfl hv2776 ?_
    refine y_cI (i := .invokevirtual 140) (len := 3) (r := (0, 93, 7, 739)) (nL := 2) (k := 2) (n := 2) (hs := []) (args := [.inl (some a), zi xm]) (rest := [.inl (some a)]) (l0 := [some (.inl (some a)), some (zi xm)]) (by decide +kernel) (Or.inr (Or.inl ⟨_, rfl⟩)) rfl rfl rfl rfl (Nat.le_of_ble_eq_true rfl) (zO Q2774_a.1 Q2774_a.2.1.1 aw1008 rfl) rfl (qI_le (by omega) (q_done (d := 0) (m := true) Q2774_a (eml.trans (if_pos rfl).symm))) (fun y2777 qy2777 hRy2777 => ?_)
    obtain ⟨rfl, hDy2777⟩ := hRy2777
    rcases hDy2777 with ⟨vy2777, ty2777⟩ | ⟨vy2777, ty2777⟩
    ·
      refine y_iF (c := .eq) (off := 7) (len := 3) (r := (0, 0, 0, 0)) (by decide +kernel) (acmpF (c := .eq) (by show ¬ (_ = _); omega)) ?_
      refine y_ic (c := 2) (len := 1) (r := (0, 0, 0, 0)) (by decide +kernel) (by decide) (fun y2778 hy2778 => ?_)
      refine y_goto (off := 7) (pc' := 114) (len := 3) (r := (0, 0, 0, 0)) (by decide +kernel) (by decide +kernel) ?_
      refine y_put (j := 71) (lo := (-2147483648)) (hi := 2147483647) (len := 3) (r := (7, 4, 0, 20543)) (by decide +kernel) Q2774_a.1 Q2774_a.2.1.1 aw1008 rfl rfl (by decide) rfl (qin_full _).1 (qin_full _).2 rfl (fun h2779 hg2779 hl2779 hs2779 ho2779 => ?_)
      have ho2779 : hO a 4 h2774 h2779 := ho2779
      have hs2779 : hsl h2779 a 4 = some (zi y2778) := hs2779
      have Q2779_a := QC_up Q2774_a hg2779 (fun k j _ _ _ => ho2779 k j (by omega))
      refine y_same (i := .aload_n 0) (len := 1) (r := (0, 0, 0, 0)) (pc' := 118) (ls' := [some (.inl (some 35)), some (zi xf), some (.inl (some a)), some (zi y2769)]) (st' := [.inl (some 35)]) (by decide +kernel) (fun k q => by cases q) rfl ?_
      refine y_same (i := .dup) (len := 1) (r := (0, 0, 0, 0)) (pc' := 119) (ls' := [some (.inl (some 35)), some (zi xf), some (.inl (some a)), some (zi y2769)]) (st' := [.inl (some 35), .inl (some 35)]) (by decide +kernel) (fun k q => by cases q) rfl ?_
      have hv2780 := (ho2762 35 6 (Or.inl (by omega))).trans hn
      have hv2781 := (ho2768 35 6 (Or.inl (by omega))).trans hv2780
      have hv2782 := (F2769 35 6 (by omega)).trans hv2781
      have hv2783 := (ho2774 35 6 (Or.inl (by omega))).trans hv2782
      have hv2784 := (ho2779 35 6 (Or.inl (by omega))).trans hv2783
      refine y_get (j := 35) (len := 3) (r := (4, 6, 0, 289)) (by decide +kernel) Q2779_a.1 (tv35 Q2779_a.1) aw35 rfl rfl hv2784 ?_
      refine y_ic (c := 1) (len := 1) (r := (0, 0, 0, 0)) (by decide +kernel) (by decide) (fun y2785 hy2785 => ?_)
      refine y_add (len := 1) (r := (0, 0, 0, 0)) (by decide +kernel) (by omega) (by omega) (fun y2786 hy2786 => ?_)
      refine y_put (j := 35) (lo := (-2147483648)) (hi := 2147483647) (len := 3) (r := (4, 6, 0, 289)) (by decide +kernel) Q2779_a.1 (tv35 Q2779_a.1) aw35 rfl rfl (by decide) rfl (qin_full _).1 (qin_full _).2 rfl (fun h2787 hg2787 hl2787 hs2787 ho2787 => ?_)
      have ho2787 : hO 35 6 h2779 h2787 := ho2787
      have hs2787 : hsl h2787 35 6 = some (zi y2786) := hs2787
      have Q2787_a := QC_up Q2779_a hg2787 (fun k j _ _ _ => ho2787 k j (by omega))
      refine y_same (i := .aload_n 2) (len := 1) (r := (0, 0, 0, 0)) (pc' := 128) (ls' := [some (.inl (some 35)), some (zi xf), some (.inl (some a)), some (zi y2769)]) (st' := [.inl (some a)]) (by decide +kernel) (fun k q => by cases q) rfl ?_
      have hv2788 := (ho2787 a 4 (Or.inl (by omega))).trans hs2779
      refine y_get (j := 71) (len := 3) (r := (7, 4, 0, 20543)) (by decide +kernel) Q2787_a.1 Q2787_a.2.1.1 aw1008 rfl rfl hv2788 ?_
      refine y_iF (c := .lt) (off := 25) (len := 3) (r := (0, 0, 0, 0)) (by decide +kernel) (acmpF (c := .lt) (by show _ ≤ _; omega)) ?_
      refine y_same (i := .aload_n 2) (len := 1) (r := (0, 0, 0, 0)) (pc' := 135) (ls' := [some (.inl (some 35)), some (zi xf), some (.inl (some a)), some (zi y2769)]) (st' := [.inl (some a)]) (by decide +kernel) (fun k q => by cases q) rfl ?_
      refine y_get (j := 71) (len := 3) (r := (7, 4, 0, 20543)) (by decide +kernel) Q2787_a.1 Q2787_a.2.1.1 aw1008 rfl rfl hv2788 ?_
      refine y_bi (c := 9) (len := 2) (r := (0, 0, 0, 0)) (by decide +kernel) (by decide) (fun y2789 hy2789 => ?_)
      refine y_cF (c := .gt) (off := 16) (len := 3) (r := (0, 0, 0, 0)) (by decide +kernel) (acmpF (c := .gt) (by show _ ≤ _; omega)) ?_
      refine y_same (i := .aload_n 0) (len := 1) (r := (0, 0, 0, 0)) (pc' := 144) (ls' := [some (.inl (some 35)), some (zi xf), some (.inl (some a)), some (zi y2769)]) (st' := [.inl (some 35)]) (by decide +kernel) (fun k q => by cases q) rfl ?_
      refine y_get (j := 21) (len := 3) (r := (4, 3, 2, 285)) (by decide +kernel) Q2787_a.1 (tv35 Q2787_a.1) aw35 rfl rfl (g_rU (f := 3) (T2 := 38) Q2787_a.1 (tv35 Q2787_a.1) aw35 rfl (by decide)) ?_
      refine y_same (i := .aload_n 2) (len := 1) (r := (0, 0, 0, 0)) (pc' := 148) (ls' := [some (.inl (some 35)), some (zi xf), some (.inl (some a)), some (zi y2769)]) (st' := [.inl (some a), .inl (some 38)]) (by decide +kernel) (fun k q => by cases q) rfl ?_
      refine y_get (j := 71) (len := 3) (r := (7, 4, 0, 20543)) (by decide +kernel) Q2787_a.1 Q2787_a.2.1.1 aw1008 rfl rfl hv2788 ?_
      refine y_same (i := .dup2) (len := 1) (r := (0, 0, 0, 0)) (pc' := 152) (ls' := [some (.inl (some 35)), some (zi xf), some (.inl (some a)), some (zi y2769)]) (st' := [zi y2778, .inl (some 38), zi y2778, .inl (some 38)]) (by decide +kernel) (fun k q => by cases q) rfl ?_
      have hv2790 := (ho2762 38 2 (Or.inl (by omega))).trans hd2
      have hv2791 := (ho2768 38 2 (Or.inl (by omega))).trans hv2790
      have hv2792 := (F2769 38 2 (by omega)).trans hv2791
      have hv2793 := (ho2774 38 2 (Or.inl (by omega))).trans hv2792
      have hv2794 := (ho2779 38 2 (Or.inl (by omega))).trans hv2793
      have hv2795 := (ho2787 38 2 (Or.inl (by omega))).trans hv2794
      refine y_ial (i := 2) (len := 1) (r := (0, 0, 0, 0)) (by decide +kernel) Q2787_a.1 (tv38 Q2787_a.1) aw38 (by omega) hv2795 ?_
      refine y_ic (c := 1) (len := 1) (r := (0, 0, 0, 0)) (by decide +kernel) (by decide) (fun y2796 hy2796 => ?_)
      refine y_add (len := 1) (r := (0, 0, 0, 0)) (by decide +kernel) (by omega) (by omega) (fun y2797 hy2797 => ?_)
      refine y_ias (i := 2) (len := 1) (r := (0, 0, 0, 0)) (by decide +kernel) Q2787_a.1 (tv38 Q2787_a.1) aw38 rfl (by omega) (by omega) (sr1 (by omega)) (qin_full _).1 (qin_full _).2 (fun h2798 hg2798 hl2798 hs2798 ho2798 => ?_)
      have Q2798_a := QC_up Q2787_a hg2798 (fun k j _ _ _ => ho2798 k j (by omega))
      refine y_same (i := .aload_n 0) (len := 1) (r := (0, 0, 0, 0)) (pc' := 157) (ls' := [some (.inl (some 35)), some (zi xf), some (.inl (some a)), some (zi y2769)]) (st' := [.inl (some 35)]) (by decide +kernel) (fun k q => by cases q) rfl ?_
      refine y_same (i := .aload_n 0) (len := 1) (r := (0, 0, 0, 0)) (pc' := 158) (ls' := [some (.inl (some 35)), some (zi xf), some (.inl (some a)), some (zi y2769)]) (st' := [.inl (some 35), .inl (some 35)]) (by decide +kernel) (fun k q => by cases q) rfl ?_
      obtain ⟨v2799, hv2800, lv2799, uv2799⟩ := g_int (i := 9) (lo := (-2147483648)) (hi := 2147483647) Q2798_a.1 (tv35 Q2798_a.1) aw35 (by decide) rfl
      refine y_get (j := 45) (len := 3) (r := (4, 9, 0, 294)) (by decide +kernel) Q2798_a.1 (tv35 Q2798_a.1) aw35 rfl rfl hv2800 ?_
      refine y_same (i := .aload_n 2) (len := 1) (r := (0, 0, 0, 0)) (pc' := 162) (ls' := [some (.inl (some 35)), some (zi xf), some (.inl (some a)), some (zi y2769)]) (st' := [.inl (some a), zi v2799, .inl (some 35)]) (by decide +kernel) (fun k q => by cases q) rfl ?_
      have hv2801 := (F2769 a 6 (by omega)).trans hs2768
      have hv2802 := (ho2774 a 6 (Or.inr (by omega))).trans hv2801
      have hv2803 := (ho2779 a 6 (Or.inr (by omega))).trans hv2802
      have hv2804 := (ho2787 a 6 (Or.inl (by omega))).trans hv2803
      have hv2805 := (ho2798 a 6 (Or.inl (by omega))).trans hv2804
      refine y_get (j := 110) (len := 3) (r := (7, 6, 0, 20549)) (by decide +kernel) Q2798_a.1 Q2798_a.2.1.1 aw1008 rfl rfl hv2805 ?_
      refine y_cI (i := .invokestatic 63) (len := 3) (r := (1, 266, 60, 510)) (nL := 2) (k := 1) (n := 2) (hs := []) (args := [zi v2799, zi y2767]) (rest := [.inl (some 35)]) (l0 := [some (zi v2799), some (zi y2767)]) (by decide +kernel) (Or.inl ⟨_, rfl⟩) rfl rfl rfl rfl (Nat.le_of_ble_eq_true rfl) rfl rfl (qI_le (by omega) (e_jmax (d := 0))) (fun y2806 qy2806 hRy2806 => ?_)
      obtain ⟨rfl, my2806, wy2806⟩ := hRy2806
      refine y_put (j := 45) (lo := (-2147483648)) (hi := 2147483647) (len := 3) (r := (4, 9, 0, 294)) (by decide +kernel) Q2798_a.1 (tv35 Q2798_a.1) aw35 rfl rfl (by decide) rfl (qin_full _).1 (qin_full _).2 rfl (fun h2807 hg2807 hl2807 hs2807 ho2807 => ?_)
      have ho2807 : hO 35 9 h2798 h2807 := ho2807
      have hs2807 : hsl h2807 35 9 = some (zi y2806) := hs2807
      have Q2807_a := QC_up Q2798_a hg2807 (fun k j _ _ _ => ho2807 k j (by omega))
      refine y_same (i := .aload_n 0) (len := 1) (r := (0, 0, 0, 0)) (pc' := 172) (ls' := [some (.inl (some 35)), some (zi xf), some (.inl (some a)), some (zi y2769)]) (st' := [.inl (some 35)]) (by decide +kernel) (fun k q => by cases q) rfl ?_
      refine y_same (i := .aload_n 2) (len := 1) (r := (0, 0, 0, 0)) (pc' := 173) (ls' := [some (.inl (some 35)), some (zi xf), some (.inl (some a)), some (zi y2769)]) (st' := [.inl (some a), .inl (some 35)]) (by decide +kernel) (fun k q => by cases q) rfl ?_
      refine y_cI (i := .invokevirtual 147) (len := 3) (r := (0, 82, 7, 751)) (nL := 1) (k := 1) (n := 1) (hs := []) (args := [.inl (some a)]) (rest := [.inl (some 35)]) (l0 := [some (.inl (some a))]) (by decide +kernel) (Or.inr (Or.inl ⟨_, rfl⟩)) rfl rfl rfl rfl (Nat.le_of_ble_eq_true rfl) (zO Q2807_a.1 Q2807_a.2.1.1 aw1008 rfl) rfl (qI_le (by omega) (q_mns (d := 0) Q2807_a)) (fun y2808 qy2808 hRy2808 => ?_)
      obtain ⟨rfl, ty2808⟩ := hRy2808
      have gr2809 : gR h2807 35 := by obtain ⟨x9, a9, b9⟩ := gr; exact ⟨x9, (((ho2807 35 10 (by omega)).trans ((ho2798 35 10 (by omega)).trans ((ho2787 35 10 (by omega)).trans ((ho2779 35 10 (by omega)).trans ((ho2774 35 10 (by omega)).trans ((F2769 35 10 (by omega)).trans ((ho2768 35 10 (by omega)).trans (ho2762 35 10 (by omega)))))))))).trans a9, b9⟩
      refine y_cV (i := .invokevirtual 150) (len := 3) (r := (0, 43, 4, 759)) (nL := 3) (k := 0) (n := 2) (hs := []) (args := [.inl (some 35), zi y2808]) (rest := []) (l0 := [some (.inl (some 35)), some (zi y2808), none]) (by decide +kernel) (Or.inr (Or.inl ⟨_, rfl⟩)) rfl rfl rfl rfl (Nat.le_of_ble_eq_true rfl) (zO Q2807_a.1 (tv35 Q2807_a.1) aw35 rfl) rfl (qV_le (by omega) (e_ng35 (d := 0) Q2807_a.1 gr2809)) (fun h2809 hR2809 => ?_)
      obtain ⟨hg2809, gr2, F2809⟩ := hR2809
      have Q2809 := QC_up Q2807_a hg2809 (fun k j _ _ _ => F2809 k j (by omega))
      refine y_rV (len := 1) (r := (0, 0, 0, 0)) (nL := 4) (n9 := 2) (hs := []) (by decide +kernel) rfl ?_
      have hv2810 := (ho2798 a 4 (Or.inl (by omega))).trans hv2788
      have hv2811 := (ho2807 a 4 (Or.inl (by omega))).trans hv2810
      have hv2812 := (F2809 a 4 (by omega)).trans hv2811
      have hv2813 := (ho2768 a 5 (Or.inr (by omega))).trans hs2762
      have hv2814 := (F2769 a 5 (by omega)).trans hv2813
      have hv2815 := (ho2774 a 5 (Or.inr (by omega))).trans hv2814
      have hv2816 := (ho2779 a 5 (Or.inr (by omega))).trans hv2815
      have hv2817 := (ho2787 a 5 (Or.inl (by omega))).trans hv2816
      have hv2818 := (ho2798 a 5 (Or.inl (by omega))).trans hv2817
      have hv2819 := (ho2807 a 5 (Or.inl (by omega))).trans hv2818
      have hv2820 := (F2809 a 5 (by omega)).trans hv2819
      have hv2821 := (ho2807 a 6 (Or.inl (by omega))).trans hv2805
      have hv2822 := (F2809 a 6 (by omega)).trans hv2821
      have hv2823 := (ho2798 35 6 (Or.inl (by omega))).trans hs2787
      have hv2824 := (ho2807 35 6 (Or.inr (by omega))).trans hv2823
      have hv2825 := (F2809 35 6 (by omega)).trans hv2824
      have hv2826 := (ho2807 38 2 (Or.inl (by omega))).trans hs2798
      have hv2827 := (F2809 38 2 (by omega)).trans hv2826
      refine ⟨(s9, 2, 0, 0, (row + 1), (i : Int)), ⟨rfl, rfl, Or.inr ⟨s9, ry2769, rfl, Or.inr (Or.inl ⟨fun q => q, ty2777, rfl⟩)⟩⟩, hg2809, ⟨a, (rfs_up ra (((F2809 36 n (by omega)).trans ((ho2807 36 n (by omega)).trans ((ho2798 36 n (by omega)).trans ((ho2787 36 n (by omega)).trans ((ho2779 36 n (by omega)).trans ((ho2774 36 n (by omega)).trans ((F2769 36 n (by omega)).trans ((ho2768 36 n (by omega)).trans (ho2762 36 n (by omega)))))))))))), ha, LQ_of Q2809, ⟨_, hv2812, by show _ = ((2 : Nat) : Int); omega⟩, ⟨_, hv2822, by show _ = (((row + 1) : Nat) : Int); omega⟩, ⟨_, hv2820, by show _ = ((i : Int) : Int); omega⟩, fun _ => Q2809, fun q => absurd q (by show ¬ 3 ≤ 2; omega), fun q => absurd q (by show ¬ 3 ≤ 2; omega)⟩, ⟨_, hv2825, by omega⟩, ?_, gr2, fun k j h1 h2 h3 => ((F2809 k j (by omega)).trans ((ho2807 k j (by omega)).trans ((ho2798 k j (by omega)).trans ((ho2787 k j (by omega)).trans ((ho2779 k j (by omega)).trans ((ho2774 k j (by omega)).trans ((F2769 k j (by omega)).trans ((ho2768 k j (by omega)).trans (ho2762 k j (by omega))))))))))⟩
      show ci_ _ 38 2 (dn + (if 2 = 2 then 1 else 0))
      rw [if_pos (by omega)]
      exact ⟨_, hv2827, by omega⟩
    ·
      refine y_iT (c := .eq) (off := 7) (pc' := 110) (len := 3) (r := (0, 0, 0, 0)) (by decide +kernel) (acmpT (c := .eq) (by show _ = _; omega)) (by decide +kernel) ?_
      refine y_same (i := .aload_n 2) (len := 1) (r := (0, 0, 0, 0)) (pc' := 111) (ls' := [some (.inl (some 35)), some (zi xf), some (.inl (some a)), some (zi y2769)]) (st' := [.inl (some a), .inl (some a)]) (by decide +kernel) (fun k q => by cases q) rfl ?_
      refine y_cI (i := .invokevirtual 144) (len := 3) (r := (0, 94, 7, 743)) (nL := 4) (k := 1) (n := 1) (hs := []) (args := [.inl (some a)]) (rest := [.inl (some a)]) (l0 := [some (.inl (some a)), none, none, none]) (by decide +kernel) (Or.inr (Or.inl ⟨_, rfl⟩)) rfl rfl rfl rfl (Nat.le_of_ble_eq_true rfl) (zO Q2774_a.1 Q2774_a.2.1.1 aw1008 rfl) rfl (qI_le (by omega) (q_fnd (d := 0) Q2774_a)) (fun y2828 h2828 hRy2828 => ?_)
      obtain ⟨st, r, l, ey2828, fd, c8, c9, Q2828, F2828⟩ := hRy2828
      have fb := fnd_b fd
      refine y_put (j := 71) (lo := (-2147483648)) (hi := 2147483647) (len := 3) (r := (7, 4, 0, 20543)) (by decide +kernel) Q2828.1 Q2828.2.1.1 aw1008 rfl rfl (by decide) rfl (qin_full _).1 (qin_full _).2 rfl (fun h2829 hg2829 hl2829 hs2829 ho2829 => ?_)
      have ho2829 : hO a 4 h2828 h2829 := ho2829
      have hs2829 : hsl h2829 a 4 = some (zi y2828) := hs2829
      have Q2829_a := QC_up Q2828 hg2829 (fun k j _ _ _ => ho2829 k j (by omega))
      refine y_same (i := .aload_n 0) (len := 1) (r := (0, 0, 0, 0)) (pc' := 118) (ls' := [some (.inl (some 35)), some (zi xf), some (.inl (some a)), some (zi y2769)]) (st' := [.inl (some 35)]) (by decide +kernel) (fun k q => by cases q) rfl ?_
      refine y_same (i := .dup) (len := 1) (r := (0, 0, 0, 0)) (pc' := 119) (ls' := [some (.inl (some 35)), some (zi xf), some (.inl (some a)), some (zi y2769)]) (st' := [.inl (some 35), .inl (some 35)]) (by decide +kernel) (fun k q => by cases q) rfl ?_
      have hv2830 := (ho2762 35 6 (Or.inl (by omega))).trans hn
      have hv2831 := (ho2768 35 6 (Or.inl (by omega))).trans hv2830
      have hv2832 := (F2769 35 6 (by omega)).trans hv2831
      have hv2833 := (ho2774 35 6 (Or.inl (by omega))).trans hv2832
      have hv2834 := (F2828 35 6 (by omega)).trans hv2833
      have hv2835 := (ho2829 35 6 (Or.inl (by omega))).trans hv2834
      refine y_get (j := 35) (len := 3) (r := (4, 6, 0, 289)) (by decide +kernel) Q2829_a.1 (tv35 Q2829_a.1) aw35 rfl rfl hv2835 ?_
      refine y_ic (c := 1) (len := 1) (r := (0, 0, 0, 0)) (by decide +kernel) (by decide) (fun y2836 hy2836 => ?_)
      refine y_add (len := 1) (r := (0, 0, 0, 0)) (by decide +kernel) (by omega) (by omega) (fun y2837 hy2837 => ?_)
      refine y_put (j := 35) (lo := (-2147483648)) (hi := 2147483647) (len := 3) (r := (4, 6, 0, 289)) (by decide +kernel) Q2829_a.1 (tv35 Q2829_a.1) aw35 rfl rfl (by decide) rfl (qin_full _).1 (qin_full _).2 rfl (fun h2838 hg2838 hl2838 hs2838 ho2838 => ?_)
      have ho2838 : hO 35 6 h2829 h2838 := ho2838
      have hs2838 : hsl h2838 35 6 = some (zi y2837) := hs2838
      have Q2838_a := QC_up Q2829_a hg2838 (fun k j _ _ _ => ho2838 k j (by omega))
      refine y_same (i := .aload_n 2) (len := 1) (r := (0, 0, 0, 0)) (pc' := 128) (ls' := [some (.inl (some 35)), some (zi xf), some (.inl (some a)), some (zi y2769)]) (st' := [.inl (some a)]) (by decide +kernel) (fun k q => by cases q) rfl ?_
      have hv2839 := (ho2838 a 4 (Or.inl (by omega))).trans hs2829
      refine y_get (j := 71) (len := 3) (r := (7, 4, 0, 20543)) (by decide +kernel) Q2838_a.1 Q2838_a.2.1.1 aw1008 rfl rfl hv2839 ?_
      refine y_iF (c := .lt) (off := 25) (len := 3) (r := (0, 0, 0, 0)) (by decide +kernel) (acmpF (c := .lt) (by show _ ≤ _; omega)) ?_
      refine y_same (i := .aload_n 2) (len := 1) (r := (0, 0, 0, 0)) (pc' := 135) (ls' := [some (.inl (some 35)), some (zi xf), some (.inl (some a)), some (zi y2769)]) (st' := [.inl (some a)]) (by decide +kernel) (fun k q => by cases q) rfl ?_
      refine y_get (j := 71) (len := 3) (r := (7, 4, 0, 20543)) (by decide +kernel) Q2838_a.1 Q2838_a.2.1.1 aw1008 rfl rfl hv2839 ?_
      refine y_bi (c := 9) (len := 2) (r := (0, 0, 0, 0)) (by decide +kernel) (by decide) (fun y2840 hy2840 => ?_)
      refine y_cF (c := .gt) (off := 16) (len := 3) (r := (0, 0, 0, 0)) (by decide +kernel) (acmpF (c := .gt) (by show _ ≤ _; omega)) ?_
      refine y_same (i := .aload_n 0) (len := 1) (r := (0, 0, 0, 0)) (pc' := 144) (ls' := [some (.inl (some 35)), some (zi xf), some (.inl (some a)), some (zi y2769)]) (st' := [.inl (some 35)]) (by decide +kernel) (fun k q => by cases q) rfl ?_
      refine y_get (j := 21) (len := 3) (r := (4, 3, 2, 285)) (by decide +kernel) Q2838_a.1 (tv35 Q2838_a.1) aw35 rfl rfl (g_rU (f := 3) (T2 := 38) Q2838_a.1 (tv35 Q2838_a.1) aw35 rfl (by decide)) ?_
      refine y_same (i := .aload_n 2) (len := 1) (r := (0, 0, 0, 0)) (pc' := 148) (ls' := [some (.inl (some 35)), some (zi xf), some (.inl (some a)), some (zi y2769)]) (st' := [.inl (some a), .inl (some 38)]) (by decide +kernel) (fun k q => by cases q) rfl ?_
      refine y_get (j := 71) (len := 3) (r := (7, 4, 0, 20543)) (by decide +kernel) Q2838_a.1 Q2838_a.2.1.1 aw1008 rfl rfl hv2839 ?_
      refine y_same (i := .dup2) (len := 1) (r := (0, 0, 0, 0)) (pc' := 152) (ls' := [some (.inl (some 35)), some (zi xf), some (.inl (some a)), some (zi y2769)]) (st' := [zi y2828, .inl (some 38), zi y2828, .inl (some 38)]) (by decide +kernel) (fun k q => by cases q) rfl ?_
      obtain ⟨v2841, hv2842, lv2841, uv2841⟩ := g_int (i := st) Q2838_a.1 (tv38 Q2838_a.1) aw38 (show st < 10 by omega) (sr1 (by omega))
      refine y_ial (i := st) (len := 1) (r := (0, 0, 0, 0)) (by decide +kernel) Q2838_a.1 (tv38 Q2838_a.1) aw38 (by omega) hv2842 ?_
      refine y_ic (c := 1) (len := 1) (r := (0, 0, 0, 0)) (by decide +kernel) (by decide) (fun y2843 hy2843 => ?_)
      refine y_bp (i := .iadd) (f := fun x y => x + y) (len := 1) (r := (0, 0, 0, 0)) (by decide +kernel) rfl rfl (fun y2844 hy2844 => ?_)
      refine y_ias (i := st) (len := 1) (r := (0, 0, 0, 0)) (by decide +kernel) Q2838_a.1 (tv38 Q2838_a.1) aw38 rfl (by omega) (by omega) (sr1 (by omega)) (qin_full _).1 (qin_full _).2 (fun h2845 hg2845 hl2845 hs2845 ho2845 => ?_)
      have Q2845_a := QC_up Q2838_a hg2845 (fun k j _ _ _ => ho2845 k j (by omega))
      refine y_same (i := .aload_n 0) (len := 1) (r := (0, 0, 0, 0)) (pc' := 157) (ls' := [some (.inl (some 35)), some (zi xf), some (.inl (some a)), some (zi y2769)]) (st' := [.inl (some 35)]) (by decide +kernel) (fun k q => by cases q) rfl ?_
      refine y_same (i := .aload_n 0) (len := 1) (r := (0, 0, 0, 0)) (pc' := 158) (ls' := [some (.inl (some 35)), some (zi xf), some (.inl (some a)), some (zi y2769)]) (st' := [.inl (some 35), .inl (some 35)]) (by decide +kernel) (fun k q => by cases q) rfl ?_
      obtain ⟨v2846, hv2847, lv2846, uv2846⟩ := g_int (i := 9) (lo := (-2147483648)) (hi := 2147483647) Q2845_a.1 (tv35 Q2845_a.1) aw35 (by decide) rfl
      refine y_get (j := 45) (len := 3) (r := (4, 9, 0, 294)) (by decide +kernel) Q2845_a.1 (tv35 Q2845_a.1) aw35 rfl rfl hv2847 ?_
      refine y_same (i := .aload_n 2) (len := 1) (r := (0, 0, 0, 0)) (pc' := 162) (ls' := [some (.inl (some 35)), some (zi xf), some (.inl (some a)), some (zi y2769)]) (st' := [.inl (some a), zi v2846, .inl (some 35)]) (by decide +kernel) (fun k q => by cases q) rfl ?_
      have hv2848 := (F2769 a 6 (by omega)).trans hs2768
      have hv2849 := (ho2774 a 6 (Or.inr (by omega))).trans hv2848
      have hv2850 := (F2828 a 6 (by omega)).trans hv2849
      have hv2851 := (ho2829 a 6 (Or.inr (by omega))).trans hv2850
      have hv2852 := (ho2838 a 6 (Or.inl (by omega))).trans hv2851
      have hv2853 := (ho2845 a 6 (Or.inl (by omega))).trans hv2852
      refine y_get (j := 110) (len := 3) (r := (7, 6, 0, 20549)) (by decide +kernel) Q2845_a.1 Q2845_a.2.1.1 aw1008 rfl rfl hv2853 ?_
      refine y_cI (i := .invokestatic 63) (len := 3) (r := (1, 266, 60, 510)) (nL := 2) (k := 1) (n := 2) (hs := []) (args := [zi v2846, zi y2767]) (rest := [.inl (some 35)]) (l0 := [some (zi v2846), some (zi y2767)]) (by decide +kernel) (Or.inl ⟨_, rfl⟩) rfl rfl rfl rfl (Nat.le_of_ble_eq_true rfl) rfl rfl (qI_le (by omega) (e_jmax (d := 0))) (fun y2854 qy2854 hRy2854 => ?_)
      obtain ⟨rfl, my2854, wy2854⟩ := hRy2854
      refine y_put (j := 45) (lo := (-2147483648)) (hi := 2147483647) (len := 3) (r := (4, 9, 0, 294)) (by decide +kernel) Q2845_a.1 (tv35 Q2845_a.1) aw35 rfl rfl (by decide) rfl (qin_full _).1 (qin_full _).2 rfl (fun h2855 hg2855 hl2855 hs2855 ho2855 => ?_)
      have ho2855 : hO 35 9 h2845 h2855 := ho2855
      have hs2855 : hsl h2855 35 9 = some (zi y2854) := hs2855
      have Q2855_a := QC_up Q2845_a hg2855 (fun k j _ _ _ => ho2855 k j (by omega))
      refine y_same (i := .aload_n 0) (len := 1) (r := (0, 0, 0, 0)) (pc' := 172) (ls' := [some (.inl (some 35)), some (zi xf), some (.inl (some a)), some (zi y2769)]) (st' := [.inl (some 35)]) (by decide +kernel) (fun k q => by cases q) rfl ?_
      refine y_same (i := .aload_n 2) (len := 1) (r := (0, 0, 0, 0)) (pc' := 173) (ls' := [some (.inl (some 35)), some (zi xf), some (.inl (some a)), some (zi y2769)]) (st' := [.inl (some a), .inl (some 35)]) (by decide +kernel) (fun k q => by cases q) rfl ?_
      refine y_cI (i := .invokevirtual 147) (len := 3) (r := (0, 82, 7, 751)) (nL := 1) (k := 1) (n := 1) (hs := []) (args := [.inl (some a)]) (rest := [.inl (some 35)]) (l0 := [some (.inl (some a))]) (by decide +kernel) (Or.inr (Or.inl ⟨_, rfl⟩)) rfl rfl rfl rfl (Nat.le_of_ble_eq_true rfl) (zO Q2855_a.1 Q2855_a.2.1.1 aw1008 rfl) rfl (qI_le (by omega) (q_mns (d := 0) Q2855_a)) (fun y2856 qy2856 hRy2856 => ?_)
      obtain ⟨rfl, ty2856⟩ := hRy2856
      have gr2857 : gR h2855 35 := by obtain ⟨x9, a9, b9⟩ := gr; exact ⟨x9, (((ho2855 35 10 (by omega)).trans ((ho2845 35 10 (by omega)).trans ((ho2838 35 10 (by omega)).trans ((ho2829 35 10 (by omega)).trans ((F2828 35 10 (by omega)).trans ((ho2774 35 10 (by omega)).trans ((F2769 35 10 (by omega)).trans ((ho2768 35 10 (by omega)).trans (ho2762 35 10 (by omega))))))))))).trans a9, b9⟩
      refine y_cV (i := .invokevirtual 150) (len := 3) (r := (0, 43, 4, 759)) (nL := 3) (k := 0) (n := 2) (hs := []) (args := [.inl (some 35), zi y2856]) (rest := []) (l0 := [some (.inl (some 35)), some (zi y2856), none]) (by decide +kernel) (Or.inr (Or.inl ⟨_, rfl⟩)) rfl rfl rfl rfl (Nat.le_of_ble_eq_true rfl) (zO Q2855_a.1 (tv35 Q2855_a.1) aw35 rfl) rfl (qV_le (by omega) (e_ng35 (d := 0) Q2855_a.1 gr2857)) (fun h2857 hR2857 => ?_)
      obtain ⟨hg2857, gr2, F2857⟩ := hR2857
      have Q2857 := QC_up Q2855_a hg2857 (fun k j _ _ _ => F2857 k j (by omega))
      refine y_rV (len := 1) (r := (0, 0, 0, 0)) (nL := 4) (n9 := 2) (hs := []) (by decide +kernel) rfl ?_
      have hv2858 := (ho2845 a 4 (Or.inl (by omega))).trans hv2839
      have hv2859 := (ho2855 a 4 (Or.inl (by omega))).trans hv2858
      have hv2860 := (F2857 a 4 (by omega)).trans hv2859
      have hv2861 := (ho2768 a 5 (Or.inr (by omega))).trans hs2762
      have hv2862 := (F2769 a 5 (by omega)).trans hv2861
      have hv2863 := (ho2774 a 5 (Or.inr (by omega))).trans hv2862
      have hv2864 := (F2828 a 5 (by omega)).trans hv2863
      have hv2865 := (ho2829 a 5 (Or.inr (by omega))).trans hv2864
      have hv2866 := (ho2838 a 5 (Or.inl (by omega))).trans hv2865
      have hv2867 := (ho2845 a 5 (Or.inl (by omega))).trans hv2866
      have hv2868 := (ho2855 a 5 (Or.inl (by omega))).trans hv2867
      have hv2869 := (F2857 a 5 (by omega)).trans hv2868
      have hv2870 := (ho2855 a 6 (Or.inl (by omega))).trans hv2853
      have hv2871 := (F2857 a 6 (by omega)).trans hv2870
      have hv2872 := (ho2845 35 6 (Or.inl (by omega))).trans hs2838
      have hv2873 := (ho2855 35 6 (Or.inr (by omega))).trans hv2872
      have hv2874 := (F2857 35 6 (by omega)).trans hv2873
      have hv2875 := (ho2762 38 2 (Or.inl (by omega))).trans hd2
      have hv2876 := (ho2768 38 2 (Or.inl (by omega))).trans hv2875
      have hv2877 := (F2769 38 2 (by omega)).trans hv2876
      have hv2878 := (ho2774 38 2 (Or.inl (by omega))).trans hv2877
      have hv2879 := (F2828 38 2 (by omega)).trans hv2878
      have hv2880 := (ho2829 38 2 (Or.inl (by omega))).trans hv2879
      have hv2881 := (ho2838 38 2 (Or.inl (by omega))).trans hv2880
      have hv2882 := (ho2845 38 2 (Or.inr (by omega))).trans hv2881
      have hv2883 := (ho2855 38 2 (Or.inl (by omega))).trans hv2882
      have hv2884 := (F2857 38 2 (by omega)).trans hv2883
      refine ⟨(s9, st, r, l, (row + 1), (i : Int)), ⟨rfl, rfl, Or.inr ⟨s9, ry2769, rfl, Or.inr (Or.inr ⟨fun q => q, ty2777, fd⟩)⟩⟩, hg2857, ⟨a, (rfs_up ra (((F2857 36 n (by omega)).trans ((ho2855 36 n (by omega)).trans ((ho2845 36 n (by omega)).trans ((ho2838 36 n (by omega)).trans ((ho2829 36 n (by omega)).trans ((F2828 36 n (by omega)).trans ((ho2774 36 n (by omega)).trans ((F2769 36 n (by omega)).trans ((ho2768 36 n (by omega)).trans (ho2762 36 n (by omega))))))))))))), ha, LQ_of Q2857, ⟨_, hv2860, by show _ = ((st : Nat) : Int); omega⟩, ⟨_, hv2871, by show _ = (((row + 1) : Nat) : Int); omega⟩, ⟨_, hv2869, by show _ = ((i : Int) : Int); omega⟩, fun _ => Q2857, fun _ q => ci_up (c8 q) (((F2857 a 8 (by omega)).trans ((ho2855 a 8 (by omega)).trans ((ho2845 a 8 (by omega)).trans ((ho2838 a 8 (by omega)).trans (ho2829 a 8 (by omega))))))), fun _ q => ci_up (c9 q) (((F2857 a 9 (by omega)).trans ((ho2855 a 9 (by omega)).trans ((ho2845 a 9 (by omega)).trans ((ho2838 a 9 (by omega)).trans (ho2829 a 9 (by omega)))))))⟩, ⟨_, hv2874, by omega⟩, ?_, gr2, fun k j h1 h2 h3 => ((F2857 k j (by omega)).trans ((ho2855 k j (by omega)).trans ((ho2845 k j (by omega)).trans ((ho2838 k j (by omega)).trans ((ho2829 k j (by omega)).trans ((F2828 k j (by omega)).trans ((ho2774 k j (by omega)).trans ((F2769 k j (by omega)).trans ((ho2768 k j (by omega)).trans (ho2762 k j (by omega)))))))))))⟩
      show ci_ _ 38 2 (dn + (if st = 2 then 1 else 0))
      rw [if_neg (by omega)]
      exact ⟨_, hv2884, by omega⟩
  ·
    refine y_same (i := .istore_n 3) (len := 1) (r := (0, 0, 0, 0)) (pc' := 42) (ls' := [some (.inl (some 35)), some (zi xf), some (.inl (some a)), some (zi y2769)]) (st' := []) (by decide +kernel) (fun k q => by cases q) rfl ?_
    refine y_same (i := .aload_n 2) (len := 1) (r := (0, 0, 0, 0)) (pc' := 43) (ls' := [some (.inl (some 35)), some (zi xf), some (.inl (some a)), some (zi y2769)]) (st' := [.inl (some a)]) (by decide +kernel) (fun k q => by cases q) rfl ?_
    refine y_same (i := .iload_n 3) (len := 1) (r := (0, 0, 0, 0)) (pc' := 44) (ls' := [some (.inl (some 35)), some (zi xf), some (.inl (some a)), some (zi y2769)]) (st' := [zi y2769, .inl (some a)]) (by decide +kernel) (fun k q => by cases q) rfl ?_
    refine y_iT (c := .eq) (off := 18) (pc' := 62) (len := 3) (r := (0, 0, 0, 0)) (by decide +kernel) (acmpT (c := .eq) (by show _ = _; omega)) (by decide +kernel) ?_
    refine y_ic (c := (-1)) (len := 1) (r := (0, 0, 0, 0)) (by decide +kernel) (by decide) (fun y2885 hy2885 => ?_)
    refine y_put (j := 137) (lo := (-2147483648)) (hi := 2147483647) (len := 3) (r := (7, 7, 0, 20551)) (by decide +kernel) Q2769.1 Q2769.2.1.1 aw1008 rfl rfl (by decide) rfl (qin_full _).1 (qin_full _).2 rfl (fun h2886 hg2886 hl2886 hs2886 ho2886 => ?_)
    have ho2886 : hO a 7 h2769 h2886 := ho2886
    have hs2886 : hsl h2886 a 7 = some (zi y2885) := hs2886
    have Q2886_a := QC_up Q2769 hg2886 (fun k j _ _ _ => ho2886 k j (by omega))
    refine y_same (i := .iload_n 3) (len := 1) (r := (0, 0, 0, 0)) (pc' := 67) (ls' := [some (.inl (some 35)), some (zi xf), some (.inl (some a)), some (zi y2769)]) (st' := [zi y2769]) (by decide +kernel) (fun k q => by cases q) rfl ?_
    refine y_iF (c := .ne) (off := 11) (len := 3) (r := (0, 0, 0, 0)) (by decide +kernel) (acmpF (c := .ne) (by show _ = _; omega)) ?_
    refine y_same (i := .aload_n 2) (len := 1) (r := (0, 0, 0, 0)) (pc' := 71) (ls' := [some (.inl (some 35)), some (zi xf), some (.inl (some a)), some (zi y2769)]) (st' := [.inl (some a)]) (by decide +kernel) (fun k q => by cases q) rfl ?_
    refine y_ic (c := 0) (len := 1) (r := (0, 0, 0, 0)) (by decide +kernel) (by decide) (fun y2887 hy2887 => ?_)
    refine y_put (j := 71) (lo := (-2147483648)) (hi := 2147483647) (len := 3) (r := (7, 4, 0, 20543)) (by decide +kernel) Q2886_a.1 Q2886_a.2.1.1 aw1008 rfl rfl (by decide) rfl (qin_full _).1 (qin_full _).2 rfl (fun h2888 hg2888 hl2888 hs2888 ho2888 => ?_)
    have ho2888 : hO a 4 h2886 h2888 := ho2888
    have hs2888 : hsl h2888 a 4 = some (zi y2887) := hs2888
    have Q2888_a := QC_up Q2886_a hg2888 (fun k j _ _ _ => ho2888 k j (by omega))
    refine y_goto (off := 42) (pc' := 117) (len := 3) (r := (0, 0, 0, 0)) (by decide +kernel) (by decide +kernel) ?_
    refine y_same (i := .aload_n 0) (len := 1) (r := (0, 0, 0, 0)) (pc' := 118) (ls' := [some (.inl (some 35)), some (zi xf), some (.inl (some a)), some (zi y2769)]) (st' := [.inl (some 35)]) (by decide +kernel) (fun k q => by cases q) rfl ?_
    refine y_same (i := .dup) (len := 1) (r := (0, 0, 0, 0)) (pc' := 119) (ls' := [some (.inl (some 35)), some (zi xf), some (.inl (some a)), some (zi y2769)]) (st' := [.inl (some 35), .inl (some 35)]) (by decide +kernel) (fun k q => by cases q) rfl ?_
    have hv2889 := (ho2762 35 6 (Or.inl (by omega))).trans hn
    have hv2890 := (ho2768 35 6 (Or.inl (by omega))).trans hv2889
    have hv2891 := (F2769 35 6 (by omega)).trans hv2890
    have hv2892 := (ho2886 35 6 (Or.inl (by omega))).trans hv2891
    have hv2893 := (ho2888 35 6 (Or.inl (by omega))).trans hv2892
    refine y_get (j := 35) (len := 3) (r := (4, 6, 0, 289)) (by decide +kernel) Q2888_a.1 (tv35 Q2888_a.1) aw35 rfl rfl hv2893 ?_
    refine y_ic (c := 1) (len := 1) (r := (0, 0, 0, 0)) (by decide +kernel) (by decide) (fun y2894 hy2894 => ?_)
    refine y_add (len := 1) (r := (0, 0, 0, 0)) (by decide +kernel) (by omega) (by omega) (fun y2895 hy2895 => ?_)
    refine y_put (j := 35) (lo := (-2147483648)) (hi := 2147483647) (len := 3) (r := (4, 6, 0, 289)) (by decide +kernel) Q2888_a.1 (tv35 Q2888_a.1) aw35 rfl rfl (by decide) rfl (qin_full _).1 (qin_full _).2 rfl (fun h2896 hg2896 hl2896 hs2896 ho2896 => ?_)
    have ho2896 : hO 35 6 h2888 h2896 := ho2896
    have hs2896 : hsl h2896 35 6 = some (zi y2895) := hs2896
    have Q2896_a := QC_up Q2888_a hg2896 (fun k j _ _ _ => ho2896 k j (by omega))
    refine y_same (i := .aload_n 2) (len := 1) (r := (0, 0, 0, 0)) (pc' := 128) (ls' := [some (.inl (some 35)), some (zi xf), some (.inl (some a)), some (zi y2769)]) (st' := [.inl (some a)]) (by decide +kernel) (fun k q => by cases q) rfl ?_
    have hv2897 := (ho2896 a 4 (Or.inl (by omega))).trans hs2888
    refine y_get (j := 71) (len := 3) (r := (7, 4, 0, 20543)) (by decide +kernel) Q2896_a.1 Q2896_a.2.1.1 aw1008 rfl rfl hv2897 ?_
    refine y_iF (c := .lt) (off := 25) (len := 3) (r := (0, 0, 0, 0)) (by decide +kernel) (acmpF (c := .lt) (by show _ ≤ _; omega)) ?_
    refine y_same (i := .aload_n 2) (len := 1) (r := (0, 0, 0, 0)) (pc' := 135) (ls' := [some (.inl (some 35)), some (zi xf), some (.inl (some a)), some (zi y2769)]) (st' := [.inl (some a)]) (by decide +kernel) (fun k q => by cases q) rfl ?_
    refine y_get (j := 71) (len := 3) (r := (7, 4, 0, 20543)) (by decide +kernel) Q2896_a.1 Q2896_a.2.1.1 aw1008 rfl rfl hv2897 ?_
    refine y_bi (c := 9) (len := 2) (r := (0, 0, 0, 0)) (by decide +kernel) (by decide) (fun y2898 hy2898 => ?_)
    refine y_cF (c := .gt) (off := 16) (len := 3) (r := (0, 0, 0, 0)) (by decide +kernel) (acmpF (c := .gt) (by show _ ≤ _; omega)) ?_
    refine y_same (i := .aload_n 0) (len := 1) (r := (0, 0, 0, 0)) (pc' := 144) (ls' := [some (.inl (some 35)), some (zi xf), some (.inl (some a)), some (zi y2769)]) (st' := [.inl (some 35)]) (by decide +kernel) (fun k q => by cases q) rfl ?_
    refine y_get (j := 21) (len := 3) (r := (4, 3, 2, 285)) (by decide +kernel) Q2896_a.1 (tv35 Q2896_a.1) aw35 rfl rfl (g_rU (f := 3) (T2 := 38) Q2896_a.1 (tv35 Q2896_a.1) aw35 rfl (by decide)) ?_
    refine y_same (i := .aload_n 2) (len := 1) (r := (0, 0, 0, 0)) (pc' := 148) (ls' := [some (.inl (some 35)), some (zi xf), some (.inl (some a)), some (zi y2769)]) (st' := [.inl (some a), .inl (some 38)]) (by decide +kernel) (fun k q => by cases q) rfl ?_
    refine y_get (j := 71) (len := 3) (r := (7, 4, 0, 20543)) (by decide +kernel) Q2896_a.1 Q2896_a.2.1.1 aw1008 rfl rfl hv2897 ?_
    refine y_same (i := .dup2) (len := 1) (r := (0, 0, 0, 0)) (pc' := 152) (ls' := [some (.inl (some 35)), some (zi xf), some (.inl (some a)), some (zi y2769)]) (st' := [zi y2887, .inl (some 38), zi y2887, .inl (some 38)]) (by decide +kernel) (fun k q => by cases q) rfl ?_
    obtain ⟨v2899, hv2900, lv2899, uv2899⟩ := g_int (i := 0) Q2896_a.1 (tv38 Q2896_a.1) aw38 (show 0 < 10 by omega) (sr1 (by omega))
    refine y_ial (i := 0) (len := 1) (r := (0, 0, 0, 0)) (by decide +kernel) Q2896_a.1 (tv38 Q2896_a.1) aw38 (by omega) hv2900 ?_
    refine y_ic (c := 1) (len := 1) (r := (0, 0, 0, 0)) (by decide +kernel) (by decide) (fun y2901 hy2901 => ?_)
    refine y_bp (i := .iadd) (f := fun x y => x + y) (len := 1) (r := (0, 0, 0, 0)) (by decide +kernel) rfl rfl (fun y2902 hy2902 => ?_)
    refine y_ias (i := 0) (len := 1) (r := (0, 0, 0, 0)) (by decide +kernel) Q2896_a.1 (tv38 Q2896_a.1) aw38 rfl (by omega) (by omega) (sr1 (by omega)) (qin_full _).1 (qin_full _).2 (fun h2903 hg2903 hl2903 hs2903 ho2903 => ?_)
    have Q2903_a := QC_up Q2896_a hg2903 (fun k j _ _ _ => ho2903 k j (by omega))
    refine y_same (i := .aload_n 0) (len := 1) (r := (0, 0, 0, 0)) (pc' := 157) (ls' := [some (.inl (some 35)), some (zi xf), some (.inl (some a)), some (zi y2769)]) (st' := [.inl (some 35)]) (by decide +kernel) (fun k q => by cases q) rfl ?_
    refine y_same (i := .aload_n 0) (len := 1) (r := (0, 0, 0, 0)) (pc' := 158) (ls' := [some (.inl (some 35)), some (zi xf), some (.inl (some a)), some (zi y2769)]) (st' := [.inl (some 35), .inl (some 35)]) (by decide +kernel) (fun k q => by cases q) rfl ?_
    obtain ⟨v2904, hv2905, lv2904, uv2904⟩ := g_int (i := 9) (lo := (-2147483648)) (hi := 2147483647) Q2903_a.1 (tv35 Q2903_a.1) aw35 (by decide) rfl
    refine y_get (j := 45) (len := 3) (r := (4, 9, 0, 294)) (by decide +kernel) Q2903_a.1 (tv35 Q2903_a.1) aw35 rfl rfl hv2905 ?_
    refine y_same (i := .aload_n 2) (len := 1) (r := (0, 0, 0, 0)) (pc' := 162) (ls' := [some (.inl (some 35)), some (zi xf), some (.inl (some a)), some (zi y2769)]) (st' := [.inl (some a), zi v2904, .inl (some 35)]) (by decide +kernel) (fun k q => by cases q) rfl ?_
    have hv2906 := (F2769 a 6 (by omega)).trans hs2768
    have hv2907 := (ho2886 a 6 (Or.inr (by omega))).trans hv2906
    have hv2908 := (ho2888 a 6 (Or.inr (by omega))).trans hv2907
    have hv2909 := (ho2896 a 6 (Or.inl (by omega))).trans hv2908
    have hv2910 := (ho2903 a 6 (Or.inl (by omega))).trans hv2909
    refine y_get (j := 110) (len := 3) (r := (7, 6, 0, 20549)) (by decide +kernel) Q2903_a.1 Q2903_a.2.1.1 aw1008 rfl rfl hv2910 ?_
    refine y_cI (i := .invokestatic 63) (len := 3) (r := (1, 266, 60, 510)) (nL := 2) (k := 1) (n := 2) (hs := []) (args := [zi v2904, zi y2767]) (rest := [.inl (some 35)]) (l0 := [some (zi v2904), some (zi y2767)]) (by decide +kernel) (Or.inl ⟨_, rfl⟩) rfl rfl rfl rfl (Nat.le_of_ble_eq_true rfl) rfl rfl (qI_le (by omega) (e_jmax (d := 0))) (fun y2911 qy2911 hRy2911 => ?_)
    obtain ⟨rfl, my2911, wy2911⟩ := hRy2911
    refine y_put (j := 45) (lo := (-2147483648)) (hi := 2147483647) (len := 3) (r := (4, 9, 0, 294)) (by decide +kernel) Q2903_a.1 (tv35 Q2903_a.1) aw35 rfl rfl (by decide) rfl (qin_full _).1 (qin_full _).2 rfl (fun h2912 hg2912 hl2912 hs2912 ho2912 => ?_)
    have ho2912 : hO 35 9 h2903 h2912 := ho2912
    have hs2912 : hsl h2912 35 9 = some (zi y2911) := hs2912
    have Q2912_a := QC_up Q2903_a hg2912 (fun k j _ _ _ => ho2912 k j (by omega))
    refine y_same (i := .aload_n 0) (len := 1) (r := (0, 0, 0, 0)) (pc' := 172) (ls' := [some (.inl (some 35)), some (zi xf), some (.inl (some a)), some (zi y2769)]) (st' := [.inl (some 35)]) (by decide +kernel) (fun k q => by cases q) rfl ?_
    refine y_same (i := .aload_n 2) (len := 1) (r := (0, 0, 0, 0)) (pc' := 173) (ls' := [some (.inl (some 35)), some (zi xf), some (.inl (some a)), some (zi y2769)]) (st' := [.inl (some a), .inl (some 35)]) (by decide +kernel) (fun k q => by cases q) rfl ?_
    refine y_cI (i := .invokevirtual 147) (len := 3) (r := (0, 82, 7, 751)) (nL := 1) (k := 1) (n := 1) (hs := []) (args := [.inl (some a)]) (rest := [.inl (some 35)]) (l0 := [some (.inl (some a))]) (by decide +kernel) (Or.inr (Or.inl ⟨_, rfl⟩)) rfl rfl rfl rfl (Nat.le_of_ble_eq_true rfl) (zO Q2912_a.1 Q2912_a.2.1.1 aw1008 rfl) rfl (qI_le (by omega) (q_mns (d := 0) Q2912_a)) (fun y2913 qy2913 hRy2913 => ?_)
    obtain ⟨rfl, ty2913⟩ := hRy2913
    have gr2914 : gR h2912 35 := by obtain ⟨x9, a9, b9⟩ := gr; exact ⟨x9, (((ho2912 35 10 (by omega)).trans ((ho2903 35 10 (by omega)).trans ((ho2896 35 10 (by omega)).trans ((ho2888 35 10 (by omega)).trans ((ho2886 35 10 (by omega)).trans ((F2769 35 10 (by omega)).trans ((ho2768 35 10 (by omega)).trans (ho2762 35 10 (by omega)))))))))).trans a9, b9⟩
    refine y_cV (i := .invokevirtual 150) (len := 3) (r := (0, 43, 4, 759)) (nL := 3) (k := 0) (n := 2) (hs := []) (args := [.inl (some 35), zi y2913]) (rest := []) (l0 := [some (.inl (some 35)), some (zi y2913), none]) (by decide +kernel) (Or.inr (Or.inl ⟨_, rfl⟩)) rfl rfl rfl rfl (Nat.le_of_ble_eq_true rfl) (zO Q2912_a.1 (tv35 Q2912_a.1) aw35 rfl) rfl (qV_le (by omega) (e_ng35 (d := 0) Q2912_a.1 gr2914)) (fun h2914 hR2914 => ?_)
    obtain ⟨hg2914, gr2, F2914⟩ := hR2914
    have Q2914 := QC_up Q2912_a hg2914 (fun k j _ _ _ => F2914 k j (by omega))
    refine y_rV (len := 1) (r := (0, 0, 0, 0)) (nL := 4) (n9 := 2) (hs := []) (by decide +kernel) rfl ?_
    have hv2915 := (ho2903 a 4 (Or.inl (by omega))).trans hv2897
    have hv2916 := (ho2912 a 4 (Or.inl (by omega))).trans hv2915
    have hv2917 := (F2914 a 4 (by omega)).trans hv2916
    have hv2918 := (ho2768 a 5 (Or.inr (by omega))).trans hs2762
    have hv2919 := (F2769 a 5 (by omega)).trans hv2918
    have hv2920 := (ho2886 a 5 (Or.inr (by omega))).trans hv2919
    have hv2921 := (ho2888 a 5 (Or.inr (by omega))).trans hv2920
    have hv2922 := (ho2896 a 5 (Or.inl (by omega))).trans hv2921
    have hv2923 := (ho2903 a 5 (Or.inl (by omega))).trans hv2922
    have hv2924 := (ho2912 a 5 (Or.inl (by omega))).trans hv2923
    have hv2925 := (F2914 a 5 (by omega)).trans hv2924
    have hv2926 := (ho2912 a 6 (Or.inl (by omega))).trans hv2910
    have hv2927 := (F2914 a 6 (by omega)).trans hv2926
    have hv2928 := (ho2903 35 6 (Or.inl (by omega))).trans hs2896
    have hv2929 := (ho2912 35 6 (Or.inr (by omega))).trans hv2928
    have hv2930 := (F2914 35 6 (by omega)).trans hv2929
    have hv2931 := (ho2762 38 2 (Or.inl (by omega))).trans hd2
    have hv2932 := (ho2768 38 2 (Or.inl (by omega))).trans hv2931
    have hv2933 := (F2769 38 2 (by omega)).trans hv2932
    have hv2934 := (ho2886 38 2 (Or.inl (by omega))).trans hv2933
    have hv2935 := (ho2888 38 2 (Or.inl (by omega))).trans hv2934
    have hv2936 := (ho2896 38 2 (Or.inl (by omega))).trans hv2935
    have hv2937 := (ho2903 38 2 (Or.inr (by omega))).trans hv2936
    have hv2938 := (ho2912 38 2 (Or.inl (by omega))).trans hv2937
    have hv2939 := (F2914 38 2 (by omega)).trans hv2938
    refine ⟨(s9, 0, 0, 0, (row + 1), (i : Int)), ⟨rfl, rfl, Or.inl ⟨ry2769, rfl⟩⟩, hg2914, ⟨a, (rfs_up ra (((F2914 36 n (by omega)).trans ((ho2912 36 n (by omega)).trans ((ho2903 36 n (by omega)).trans ((ho2896 36 n (by omega)).trans ((ho2888 36 n (by omega)).trans ((ho2886 36 n (by omega)).trans ((F2769 36 n (by omega)).trans ((ho2768 36 n (by omega)).trans (ho2762 36 n (by omega)))))))))))), ha, LQ_of Q2914, ⟨_, hv2917, by show _ = ((0 : Nat) : Int); omega⟩, ⟨_, hv2927, by show _ = (((row + 1) : Nat) : Int); omega⟩, ⟨_, hv2925, by show _ = ((i : Int) : Int); omega⟩, fun q => absurd rfl q, fun q => absurd q (by show ¬ 3 ≤ 0; omega), fun q => absurd q (by show ¬ 3 ≤ 0; omega)⟩, ⟨_, hv2930, by omega⟩, ?_, gr2, fun k j h1 h2 h3 => ((F2914 k j (by omega)).trans ((ho2912 k j (by omega)).trans ((ho2903 k j (by omega)).trans ((ho2896 k j (by omega)).trans ((ho2888 k j (by omega)).trans ((ho2886 k j (by omega)).trans ((F2769 k j (by omega)).trans ((ho2768 k j (by omega)).trans (ho2762 k j (by omega))))))))))⟩
    show ci_ _ 38 2 (dn + (if 0 = 2 then 1 else 0))
    rw [if_neg (by omega)]
    exact ⟨_, hv2939, by omega⟩
