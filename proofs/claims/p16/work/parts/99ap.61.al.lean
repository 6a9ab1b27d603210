/-! the class: ALIKE of two sequents; the one on the way that is -/
theorem filN33_l {d t : Nat} {τ : List Nat} {h0 : zh} {xv xm : Int32} (hxm : xm.toInt = 21) : ∀ (n : Nat) (h : zh) (i : Nat) (xi : Int32), hG τ h → (∀ j, j < i → hsl h 33 j = some (zi xv)) → (∀ k j, k ≠ 33 → hsl h k j = hsl h0 k j) → xi.toInt = (i : Int) → i ≤ 21 → 21 ≤ i + n → qX d 274 5 [some (.inl (some 33)), some (zi xv), some (zi xi), some (zi xm)] [] h t (rV (fun h1 => hG τ h1 ∧ (∀ j, j < 21 → hsl h1 33 j = some (zi xv)) ∧ ∀ k j, k ≠ 33 → hsl h1 k j = hsl h0 k j) t) := by
  intro n
  induction n with
  | zero =>
    intro h i xi hg c1 c2 hxi hi hn
    refine y_same (i := .iload_n 2) (len := 1) (r := (0, 0, 0, 0)) (pc' := 6) (ls' := [some (.inl (some 33)), some (zi xv), some (zi xi), some (zi xm)]) (st' := [zi xi]) (by decide +kernel) (fun k q => by cases q) rfl ?_
    refine y_same (i := .iload_n 3) (len := 1) (r := (0, 0, 0, 0)) (pc' := 7) (ls' := [some (.inl (some 33)), some (zi xv), some (zi xi), some (zi xm)]) (st' := [zi xm, zi xi]) (by decide +kernel) (fun k q => by cases q) rfl ?_
    refine y_cT (c := .ge) (off := 13) (pc' := 20) (len := 3) (r := (0, 0, 0, 0)) (by decide +kernel) (acmpT (c := .ge) (by show _ ≤ _; omega)) (by decide +kernel) ?_
    refine y_rV (len := 1) (r := (0, 0, 0, 0)) (nL := 4) (n9 := 2) (hs := []) (by decide +kernel) rfl ?_
    exact ⟨hg, fun j hj => c1 j (by omega), c2⟩
  | succ n ih =>
    intro h i xi hg c1 c2 hxi hi hn
    rcases Nat.lt_or_ge i 21 with q | q
    ·
      refine y_same (i := .iload_n 2) (len := 1) (r := (0, 0, 0, 0)) (pc' := 6) (ls' := [some (.inl (some 33)), some (zi xv), some (zi xi), some (zi xm)]) (st' := [zi xi]) (by decide +kernel) (fun k q => by cases q) rfl ?_
      refine y_same (i := .iload_n 3) (len := 1) (r := (0, 0, 0, 0)) (pc' := 7) (ls' := [some (.inl (some 33)), some (zi xv), some (zi xi), some (zi xm)]) (st' := [zi xm, zi xi]) (by decide +kernel) (fun k q => by cases q) rfl ?_
      refine y_cF (c := .ge) (off := 13) (len := 3) (r := (0, 0, 0, 0)) (by decide +kernel) (acmpF (c := .ge) (by show _ < _; omega)) ?_
      refine y_same (i := .aload_n 0) (len := 1) (r := (0, 0, 0, 0)) (pc' := 11) (ls' := [some (.inl (some 33)), some (zi xv), some (zi xi), some (zi xm)]) (st' := [.inl (some 33)]) (by decide +kernel) (fun k q => by cases q) rfl ?_
      refine y_same (i := .iload_n 2) (len := 1) (r := (0, 0, 0, 0)) (pc' := 12) (ls' := [some (.inl (some 33)), some (zi xv), some (zi xi), some (zi xm)]) (st' := [zi xi, .inl (some 33)]) (by decide +kernel) (fun k q => by cases q) rfl ?_
      refine y_same (i := .iload_n 1) (len := 1) (r := (0, 0, 0, 0)) (pc' := 13) (ls' := [some (.inl (some 33)), some (zi xv), some (zi xi), some (zi xm)]) (st' := [zi xv, zi xi, .inl (some 33)]) (by decide +kernel) (fun k q => by cases q) rfl ?_
      refine y_ias (i := i) (len := 1) (r := (0, 0, 0, 0)) (by decide +kernel) hg (tv33 hg) aw33 rfl (by omega) (by omega) (sr1 (by omega)) (qin_full _).1 (qin_full _).2 (fun h3392 hg3392 hl3392 hs3392 ho3392 => ?_)
      refine y_inc (j := 2) (a := xi) (c := 1) (ls' := fun v => [some (.inl (some 33)), some (zi xv), some v, some (zi xm)]) (len := 3) (r := (0, 0, 0, 0)) (by decide +kernel) rfl (fun _ => rfl) (by decide) (by omega) (by omega) (fun y3393 hy3393 => ?_)
      show qX d 274 17 [some (.inl (some 33)), some (zi xv), some (zi y3393), some (zi xm)] [] h3392 t _
      refine y_goto (off := (-12)) (pc' := 5) (len := 3) (r := (0, 0, 0, 0)) (by decide +kernel) (by decide +kernel) ?_
      refine ih h3392 (i + 1) y3393 hg3392 (fun j hj => ?_) (fun k j hk => (ho3392 k j (Or.inl hk)).trans (c2 k j hk)) (by omega) (by omega) (by omega)
      rcases Nat.lt_or_ge j i with q9 | q9
      · exact (ho3392 33 j (Or.inr (by omega))).trans (c1 j q9)
      · obtain rfl : j = i := by omega
        exact hs3392
    ·
      refine y_same (i := .iload_n 2) (len := 1) (r := (0, 0, 0, 0)) (pc' := 6) (ls' := [some (.inl (some 33)), some (zi xv), some (zi xi), some (zi xm)]) (st' := [zi xi]) (by decide +kernel) (fun k q => by cases q) rfl ?_
      refine y_same (i := .iload_n 3) (len := 1) (r := (0, 0, 0, 0)) (pc' := 7) (ls' := [some (.inl (some 33)), some (zi xv), some (zi xi), some (zi xm)]) (st' := [zi xm, zi xi]) (by decide +kernel) (fun k q => by cases q) rfl ?_
      refine y_cT (c := .ge) (off := 13) (pc' := 20) (len := 3) (r := (0, 0, 0, 0)) (by decide +kernel) (acmpT (c := .ge) (by show _ ≤ _; omega)) (by decide +kernel) ?_
      refine y_rV (len := 1) (r := (0, 0, 0, 0)) (nL := 4) (n9 := 2) (hs := []) (by decide +kernel) rfl ?_
      exact ⟨hg, fun j hj => c1 j (by omega), c2⟩
theorem e_filN33 {d t : Nat} {τ : List Nat} {h : zh} {xv : Int32} (hg : hG τ h) : qV (d + 1) 274 [some (.inl (some 33)), some (zi xv), none, none] h t (fun h1 => hG τ h1 ∧ (∀ j, j < 21 → hsl h1 33 j = some (zi xv)) ∧ ∀ k j, k ≠ 33 → hsl h1 k j = hsl h k j) := by
  refine qV_of ?_
  refine y_ic (c := 0) (len := 1) (r := (0, 0, 0, 0)) (by decide +kernel) (by decide) (fun y3394 hy3394 => ?_)
  refine y_same (i := .istore_n 2) (len := 1) (r := (0, 0, 0, 0)) (pc' := 2) (ls' := [some (.inl (some 33)), some (zi xv), some (zi y3394), none]) (st' := []) (by decide +kernel) (fun k q => by cases q) rfl ?_
  refine y_same (i := .aload_n 0) (len := 1) (r := (0, 0, 0, 0)) (pc' := 3) (ls' := [some (.inl (some 33)), some (zi xv), some (zi y3394), none]) (st' := [.inl (some 33)]) (by decide +kernel) (fun k q => by cases q) rfl ?_
  refine y_aln (len := 1) (r := (0, 0, 0, 0)) (by decide +kernel) hg (tv33 hg) aw33 (by decide) (fun y3395 hy3395 => ?_)
  refine y_same (i := .istore_n 3) (len := 1) (r := (0, 0, 0, 0)) (pc' := 5) (ls' := [some (.inl (some 33)), some (zi xv), some (zi y3394), some (zi y3395)]) (st' := []) (by decide +kernel) (fun k q => by cases q) rfl ?_
  exact filN33_l (by omega) 21 h 0 y3394 hg (fun j hj => absurd hj (Nat.not_lt_zero j)) (fun k j _ => rfl) (by omega) (by omega) (by omega)
theorem filN34_l {d t : Nat} {τ : List Nat} {h0 : zh} {xv xm : Int32} (hxm : xm.toInt = 21) : ∀ (n : Nat) (h : zh) (i : Nat) (xi : Int32), hG τ h → (∀ j, j < i → hsl h 34 j = some (zi xv)) → (∀ k j, k ≠ 34 → hsl h k j = hsl h0 k j) → xi.toInt = (i : Int) → i ≤ 21 → 21 ≤ i + n → qX d 274 5 [some (.inl (some 34)), some (zi xv), some (zi xi), some (zi xm)] [] h t (rV (fun h1 => hG τ h1 ∧ (∀ j, j < 21 → hsl h1 34 j = some (zi xv)) ∧ ∀ k j, k ≠ 34 → hsl h1 k j = hsl h0 k j) t) := by
  intro n
  induction n with
  | zero =>
    intro h i xi hg c1 c2 hxi hi hn
    refine y_same (i := .iload_n 2) (len := 1) (r := (0, 0, 0, 0)) (pc' := 6) (ls' := [some (.inl (some 34)), some (zi xv), some (zi xi), some (zi xm)]) (st' := [zi xi]) (by decide +kernel) (fun k q => by cases q) rfl ?_
    refine y_same (i := .iload_n 3) (len := 1) (r := (0, 0, 0, 0)) (pc' := 7) (ls' := [some (.inl (some 34)), some (zi xv), some (zi xi), some (zi xm)]) (st' := [zi xm, zi xi]) (by decide +kernel) (fun k q => by cases q) rfl ?_
    refine y_cT (c := .ge) (off := 13) (pc' := 20) (len := 3) (r := (0, 0, 0, 0)) (by decide +kernel) (acmpT (c := .ge) (by show _ ≤ _; omega)) (by decide +kernel) ?_
    refine y_rV (len := 1) (r := (0, 0, 0, 0)) (nL := 4) (n9 := 2) (hs := []) (by decide +kernel) rfl ?_
    exact ⟨hg, fun j hj => c1 j (by omega), c2⟩
  | succ n ih =>
    intro h i xi hg c1 c2 hxi hi hn
    rcases Nat.lt_or_ge i 21 with q | q
    ·
      refine y_same (i := .iload_n 2) (len := 1) (r := (0, 0, 0, 0)) (pc' := 6) (ls' := [some (.inl (some 34)), some (zi xv), some (zi xi), some (zi xm)]) (st' := [zi xi]) (by decide +kernel) (fun k q => by cases q) rfl ?_
      refine y_same (i := .iload_n 3) (len := 1) (r := (0, 0, 0, 0)) (pc' := 7) (ls' := [some (.inl (some 34)), some (zi xv), some (zi xi), some (zi xm)]) (st' := [zi xm, zi xi]) (by decide +kernel) (fun k q => by cases q) rfl ?_
      refine y_cF (c := .ge) (off := 13) (len := 3) (r := (0, 0, 0, 0)) (by decide +kernel) (acmpF (c := .ge) (by show _ < _; omega)) ?_
      refine y_same (i := .aload_n 0) (len := 1) (r := (0, 0, 0, 0)) (pc' := 11) (ls' := [some (.inl (some 34)), some (zi xv), some (zi xi), some (zi xm)]) (st' := [.inl (some 34)]) (by decide +kernel) (fun k q => by cases q) rfl ?_
      refine y_same (i := .iload_n 2) (len := 1) (r := (0, 0, 0, 0)) (pc' := 12) (ls' := [some (.inl (some 34)), some (zi xv), some (zi xi), some (zi xm)]) (st' := [zi xi, .inl (some 34)]) (by decide +kernel) (fun k q => by cases q) rfl ?_
      refine y_same (i := .iload_n 1) (len := 1) (r := (0, 0, 0, 0)) (pc' := 13) (ls' := [some (.inl (some 34)), some (zi xv), some (zi xi), some (zi xm)]) (st' := [zi xv, zi xi, .inl (some 34)]) (by decide +kernel) (fun k q => by cases q) rfl ?_
      refine y_ias (i := i) (len := 1) (r := (0, 0, 0, 0)) (by decide +kernel) hg (tv34 hg) aw34 rfl (by omega) (by omega) (sr1 (by omega)) (qin_full _).1 (qin_full _).2 (fun h3396 hg3396 hl3396 hs3396 ho3396 => ?_)
      refine y_inc (j := 2) (a := xi) (c := 1) (ls' := fun v => [some (.inl (some 34)), some (zi xv), some v, some (zi xm)]) (len := 3) (r := (0, 0, 0, 0)) (by decide +kernel) rfl (fun _ => rfl) (by decide) (by omega) (by omega) (fun y3397 hy3397 => ?_)
      show qX d 274 17 [some (.inl (some 34)), some (zi xv), some (zi y3397), some (zi xm)] [] h3396 t _
      refine y_goto (off := (-12)) (pc' := 5) (len := 3) (r := (0, 0, 0, 0)) (by decide +kernel) (by decide +kernel) ?_
      refine ih h3396 (i + 1) y3397 hg3396 (fun j hj => ?_) (fun k j hk => (ho3396 k j (Or.inl hk)).trans (c2 k j hk)) (by omega) (by omega) (by omega)
      rcases Nat.lt_or_ge j i with q9 | q9
      · exact (ho3396 34 j (Or.inr (by omega))).trans (c1 j q9)
      · obtain rfl : j = i := by omega
        exact hs3396
    ·
      refine y_same (i := .iload_n 2) (len := 1) (r := (0, 0, 0, 0)) (pc' := 6) (ls' := [some (.inl (some 34)), some (zi xv), some (zi xi), some (zi xm)]) (st' := [zi xi]) (by decide +kernel) (fun k q => by cases q) rfl ?_
      refine y_same (i := .iload_n 3) (len := 1) (r := (0, 0, 0, 0)) (pc' := 7) (ls' := [some (.inl (some 34)), some (zi xv), some (zi xi), some (zi xm)]) (st' := [zi xm, zi xi]) (by decide +kernel) (fun k q => by cases q) rfl ?_
      refine y_cT (c := .ge) (off := 13) (pc' := 20) (len := 3) (r := (0, 0, 0, 0)) (by decide +kernel) (acmpT (c := .ge) (by show _ ≤ _; omega)) (by decide +kernel) ?_
      refine y_rV (len := 1) (r := (0, 0, 0, 0)) (nL := 4) (n9 := 2) (hs := []) (by decide +kernel) rfl ?_
      exact ⟨hg, fun j hj => c1 j (by omega), c2⟩
theorem e_filN34 {d t : Nat} {τ : List Nat} {h : zh} {xv : Int32} (hg : hG τ h) : qV (d + 1) 274 [some (.inl (some 34)), some (zi xv), none, none] h t (fun h1 => hG τ h1 ∧ (∀ j, j < 21 → hsl h1 34 j = some (zi xv)) ∧ ∀ k j, k ≠ 34 → hsl h1 k j = hsl h k j) := by
  refine qV_of ?_
  refine y_ic (c := 0) (len := 1) (r := (0, 0, 0, 0)) (by decide +kernel) (by decide) (fun y3398 hy3398 => ?_)
  refine y_same (i := .istore_n 2) (len := 1) (r := (0, 0, 0, 0)) (pc' := 2) (ls' := [some (.inl (some 34)), some (zi xv), some (zi y3398), none]) (st' := []) (by decide +kernel) (fun k q => by cases q) rfl ?_
  refine y_same (i := .aload_n 0) (len := 1) (r := (0, 0, 0, 0)) (pc' := 3) (ls' := [some (.inl (some 34)), some (zi xv), some (zi y3398), none]) (st' := [.inl (some 34)]) (by decide +kernel) (fun k q => by cases q) rfl ?_
  refine y_aln (len := 1) (r := (0, 0, 0, 0)) (by decide +kernel) hg (tv34 hg) aw34 (by decide) (fun y3399 hy3399 => ?_)
  refine y_same (i := .istore_n 3) (len := 1) (r := (0, 0, 0, 0)) (pc' := 5) (ls' := [some (.inl (some 34)), some (zi xv), some (zi y3398), some (zi y3399)]) (st' := []) (by decide +kernel) (fun k q => by cases q) rfl ?_
  exact filN34_l (by omega) 21 h 0 y3398 hg (fun j hj => absurd hj (Nat.not_lt_zero j)) (fun k j _ => rfl) (by omega) (by omega) (by omega)
theorem akM_1 {s s' : sqT} (a : tlR s.1 s'.1 mp0 = none) : ¬ akQ s s' := fun ⟨_, m, e, _⟩ => by
  unfold akM at e
  rw [a] at e
  cases e
theorem akM_2 {s s' : sqT} {m1 : mp2} (a : tlR s.1 s'.1 mp0 = some m1) (b : tlR s.2.1 s'.2.1 m1 = none) : ¬ akQ s s' := fun ⟨_, m, e, _⟩ => by
  unfold akM at e
  rw [a] at e
  have e : (tlR s.2.1 s'.2.1 m1).bind (tlR s.2.2.1 s'.2.2.1) = some m := e
  rw [b] at e
  cases e
theorem akM_e {s s' : sqT} {m1 m2 : mp2} {r : Option mp2} (a : tlR s.1 s'.1 mp0 = some m1) (b : tlR s.2.1 s'.2.1 m1 = some m2) (c : tlR s.2.2.1 s'.2.2.1 m2 = r) : akM s s' = r := by
  unfold akM
  rw [a]
  show (tlR s.2.1 s'.2.1 m1).bind (tlR s.2.2.1 s'.2.2.1) = r
  rw [b]
  exact c
theorem akM_3 {s s' : sqT} {m1 m2 : mp2} (a : tlR s.1 s'.1 mp0 = some m1) (b : tlR s.2.1 s'.2.1 m1 = some m2) (c : tlR s.2.2.1 s'.2.2.1 m2 = none) : ¬ akQ s s' := fun ⟨_, m, e, _⟩ => by
  rw [akM_e a b c] at e
  cases e
theorem akM_4 {s s' : sqT} {m1 m2 m3 : mp2} (a : tlR s.1 s'.1 mp0 = some m1) (b : tlR s.2.1 s'.2.1 m1 = some m2) (c : tlR s.2.2.1 s'.2.2.1 m2 = some m3) (n : ¬ (pD s.2.2.2 = pD s'.2.2.2 ∧ ∀ a b, s.2.2.2 a b → s'.2.2.2 (m3.1 a) (m3.1 b))) : ¬ akQ s s' := fun ⟨d, m, e, f⟩ => by
  rw [akM_e a b c] at e
  cases e
  exact n ⟨d, f⟩
theorem mpH_0 {h : zh} {xm z1 z2 : Int32} (em : xm.toInt = -1) (a0 : kx_ h 33 0 0) (b0 : kx_ h 34 0 0) (a : ∀ j, 0 < j → j < 21 → hsl h 33 j = some (zi xm)) (b : ∀ j, 0 < j → j < 21 → hsl h 34 j = some (zi z1)) (e1 : z1.toInt = -1) : mpH h mp0 := fun x hx => by
  rcases Nat.eq_zero_or_pos x with q | q
  · subst q
    exact ⟨a0, b0⟩
  · have e : (if (x : Int) = 0 then (0 : Int) else -1) = -1 := if_neg (by omega)
    refine ⟨⟨xm, a x q hx, ?_⟩, ⟨z1, b x q hx, ?_⟩⟩
    · show _ = (if (x : Int) = 0 then (0 : Int) else -1)
      rw [e]
      exact em
    · show _ = (if (x : Int) = 0 then (0 : Int) else -1)
      rw [e]
      exact e1
theorem e_alk {d t a b : Nat} {τ : List Nat} {h : zh} {s s2 : sqT} (Q : QC τ h a s) (Q2 : QC τ h b s2) (ha : 388 < a) (hb : 388 < b) : qI (d + 6) 27 [some (.inl (some 32)), some (.inl (some a)), some (.inl (some b))] h t (fun y h1 => hG τ h1 ∧ FN h h1 ∧ ((y.toInt = 1 ∧ akQ s s2) ∨ (y.toInt = 0 ∧ ¬ akQ s s2))) := by
  have hg := Q.1
  refine qI_of ?_
  refine y_same (i := .aload_n 0) (len := 1) (r := (0, 0, 0, 0)) (pc' := 1) (ls' := [some (.inl (some 32)), some (.inl (some a)), some (.inl (some b))]) (st' := [.inl (some 32)]) (by decide +kernel) (fun k q => by cases q) rfl ?_
  refine y_get (j := 9) (len := 3) (r := (3, 0, 2, 275)) (by decide +kernel) hg (tv32 hg) aw32 rfl rfl (g_rU (f := 0) (T2 := 33) hg (tv32 hg) aw32 rfl (by decide)) ?_
  refine y_ic (c := (-1)) (len := 1) (r := (0, 0, 0, 0)) (by decide +kernel) (by decide) (fun y3400 hy3400 => ?_)
  refine y_cV (i := .invokestatic 18) (len := 3) (r := (1, 274, 60, 722)) (nL := 4) (k := 0) (n := 2) (hs := []) (args := [.inl (some 33), zi y3400]) (rest := []) (l0 := [some (.inl (some 33)), some (zi y3400), none, none]) (by decide +kernel) (Or.inl ⟨_, rfl⟩) rfl rfl rfl rfl (Nat.le_of_ble_eq_true rfl) rfl rfl (qV_le (by omega) (e_filN33 (d := 0) hg)) (fun h3401 hR3401 => ?_)
  obtain ⟨hg3401, c3401, F3401⟩ := hR3401
  have Q3401_a := QC_up Q hg3401 (fun k j _ _ _ => F3401 k j (by omega))
  have Q3401_b := QC_up Q2 hg3401 (fun k j _ _ _ => F3401 k j (by omega))
  refine y_same (i := .aload_n 0) (len := 1) (r := (0, 0, 0, 0)) (pc' := 9) (ls' := [some (.inl (some 32)), some (.inl (some a)), some (.inl (some b))]) (st' := [.inl (some 32)]) (by decide +kernel) (fun k q => by cases q) rfl ?_
  refine y_get (j := 15) (len := 3) (r := (3, 1, 2, 276)) (by decide +kernel) hg3401 (tv32 hg3401) aw32 rfl rfl (g_rU (f := 1) (T2 := 34) hg3401 (tv32 hg3401) aw32 rfl (by decide)) ?_
  refine y_ic (c := (-1)) (len := 1) (r := (0, 0, 0, 0)) (by decide +kernel) (by decide) (fun y3402 hy3402 => ?_)
  refine y_cV (i := .invokestatic 18) (len := 3) (r := (1, 274, 60, 722)) (nL := 4) (k := 0) (n := 2) (hs := []) (args := [.inl (some 34), zi y3402]) (rest := []) (l0 := [some (.inl (some 34)), some (zi y3402), none, none]) (by decide +kernel) (Or.inl ⟨_, rfl⟩) rfl rfl rfl rfl (Nat.le_of_ble_eq_true rfl) rfl rfl (qV_le (by omega) (e_filN34 (d := 0) hg3401)) (fun h3403 hR3403 => ?_)
  obtain ⟨hg3403, c3403, F3403⟩ := hR3403
  have Q3403_a := QC_up Q3401_a hg3403 (fun k j _ _ _ => F3403 k j (by omega))
  have Q3403_b := QC_up Q3401_b hg3403 (fun k j _ _ _ => F3403 k j (by omega))
  refine y_same (i := .aload_n 0) (len := 1) (r := (0, 0, 0, 0)) (pc' := 17) (ls' := [some (.inl (some 32)), some (.inl (some a)), some (.inl (some b))]) (st' := [.inl (some 32)]) (by decide +kernel) (fun k q => by cases q) rfl ?_
  refine y_get (j := 9) (len := 3) (r := (3, 0, 2, 275)) (by decide +kernel) hg3403 (tv32 hg3403) aw32 rfl rfl (g_rU (f := 0) (T2 := 33) hg3403 (tv32 hg3403) aw32 rfl (by decide)) ?_
  refine y_ic (c := 0) (len := 1) (r := (0, 0, 0, 0)) (by decide +kernel) (by decide) (fun y3404 hy3404 => ?_)
  refine y_ic (c := 0) (len := 1) (r := (0, 0, 0, 0)) (by decide +kernel) (by decide) (fun y3405 hy3405 => ?_)
  refine y_ias (i := 0) (len := 1) (r := (0, 0, 0, 0)) (by decide +kernel) hg3403 (tv33 hg3403) aw33 rfl (by omega) (by omega) (sr1 (by omega)) (qin_full _).1 (qin_full _).2 (fun h3406 hg3406 hl3406 hs3406 ho3406 => ?_)
  have Q3406_a := QC_up Q3403_a hg3406 (fun k j _ _ _ => ho3406 k j (by omega))
  have Q3406_b := QC_up Q3403_b hg3406 (fun k j _ _ _ => ho3406 k j (by omega))
  refine y_same (i := .aload_n 0) (len := 1) (r := (0, 0, 0, 0)) (pc' := 24) (ls' := [some (.inl (some 32)), some (.inl (some a)), some (.inl (some b))]) (st' := [.inl (some 32)]) (by decide +kernel) (fun k q => by cases q) rfl ?_
  refine y_get (j := 15) (len := 3) (r := (3, 1, 2, 276)) (by decide +kernel) Q3406_b.1 (tv32 Q3406_b.1) aw32 rfl rfl (g_rU (f := 1) (T2 := 34) Q3406_b.1 (tv32 Q3406_b.1) aw32 rfl (by decide)) ?_
  refine y_ic (c := 0) (len := 1) (r := (0, 0, 0, 0)) (by decide +kernel) (by decide) (fun y3407 hy3407 => ?_)
  refine y_ic (c := 0) (len := 1) (r := (0, 0, 0, 0)) (by decide +kernel) (by decide) (fun y3408 hy3408 => ?_)
  refine y_ias (i := 0) (len := 1) (r := (0, 0, 0, 0)) (by decide +kernel) Q3406_b.1 (tv34 Q3406_b.1) aw34 rfl (by omega) (by omega) (sr1 (by omega)) (qin_full _).1 (qin_full _).2 (fun h3409 hg3409 hl3409 hs3409 ho3409 => ?_)
  have Q3409_a := QC_up Q3406_a hg3409 (fun k j _ _ _ => ho3409 k j (by omega))
  have Q3409_b := QC_up Q3406_b hg3409 (fun k j _ _ _ => ho3409 k j (by omega))
  refine y_same (i := .aload_n 0) (len := 1) (r := (0, 0, 0, 0)) (pc' := 31) (ls' := [some (.inl (some 32)), some (.inl (some a)), some (.inl (some b))]) (st' := [.inl (some 32)]) (by decide +kernel) (fun k q => by cases q) rfl ?_
  refine y_same (i := .aload_n 1) (len := 1) (r := (0, 0, 0, 0)) (pc' := 32) (ls' := [some (.inl (some 32)), some (.inl (some a)), some (.inl (some b))]) (st' := [.inl (some a), .inl (some 32)]) (by decide +kernel) (fun k q => by cases q) rfl ?_
  refine y_get (j := 24) (len := 3) (r := (7, 1, 2, 20534)) (by decide +kernel) Q3409_b.1 Q3409_a.2.1.1 aw1008 rfl rfl Q3409_a.2.2.1.2.1 ?_
  refine y_same (i := .aload_n 2) (len := 1) (r := (0, 0, 0, 0)) (pc' := 36) (ls' := [some (.inl (some 32)), some (.inl (some a)), some (.inl (some b))]) (st' := [.inl (some b), .inl (some ((a + 3))), .inl (some 32)]) (by decide +kernel) (fun k q => by cases q) rfl ?_
  refine y_get (j := 24) (len := 3) (r := (7, 1, 2, 20534)) (by decide +kernel) Q3409_b.1 Q3409_b.2.1.1 aw1008 rfl rfl Q3409_b.2.2.1.2.1 ?_
  have hv3411 := (ho3409 33 0 (Or.inl (by omega))).trans hs3406
  have H0 : mpH h3409 mp0 := mpH_0 (z2 := y3400) (by omega) ⟨_, hv3411, by omega⟩ ⟨_, hs3409, by omega⟩ (fun j h1 h2 => (((ho3409 33 j (by omega)).trans ((ho3406 33 j (by omega)).trans (F3403 33 j (by omega))))).trans (c3401 j h2)) (fun j h1 h2 => (((ho3409 34 j (by omega)).trans (ho3406 34 j (by omega)))).trans (c3403 j h2)) (by omega)
  refine y_cI (i := .invokevirtual 30) (len := 3) (r := (0, 28, 3, 723)) (nL := 5) (k := 2) (n := 3) (hs := []) (args := [.inl (some 32), .inl (some ((a + 3))), .inl (some ((b + 3)))]) (rest := []) (l0 := [some (.inl (some 32)), some (.inl (some ((a + 3)))), some (.inl (some ((b + 3)))), none, none]) (by decide +kernel) (Or.inr (Or.inl ⟨_, rfl⟩)) rfl rfl rfl rfl (Nat.le_of_ble_eq_true rfl) (zO Q3409_b.1 (tv32 Q3409_b.1) aw32 rfl) rfl (qI_le (by omega) (e_trw (d := 0) (P := s.1) (Q := s2.1) Q3409_a.2.1.2.2.2.1 Q3409_a.2.1.2.2.2.2.1 Q3409_b.2.1.2.2.2.1 Q3409_b.2.1.2.2.2.2.1 ⟨by omega, by omega⟩ ⟨by omega, by omega⟩ (fun j i hj => (okQ_L Q3409_a.2.2.2.2 hj).1) (fun j i hj => (okQ_L Q3409_b.2.2.2.2 hj).1) Q3409_b.1 H0 Q3409_a.2.2.2.1.1 Q3409_b.2.2.2.1.1 Q3409_a.2.2.1.2.2.2.2.2.1 Q3409_b.2.2.1.2.2.2.2.2.1)) (fun y3410 h3410 hRy3410 => ?_)
  obtain ⟨hg3410, F3410, hDy3410⟩ := hRy3410
  have Q3410_a := QC_up Q3409_a hg3410 (fun k j _ _ _ => F3410 k j (by omega) (by omega))
  have Q3410_b := QC_up Q3409_b hg3410 (fun k j _ _ _ => F3410 k j (by omega) (by omega))
  rcases hDy3410 with ⟨v3410, m3410, e3410, H3410⟩ | ⟨v3410, e3410⟩
  ·
    refine y_iF (c := .eq) (off := 52) (len := 3) (r := (0, 0, 0, 0)) (by decide +kernel) (acmpF (c := .eq) (by show ¬ (_ = _); omega)) ?_
    refine y_same (i := .aload_n 0) (len := 1) (r := (0, 0, 0, 0)) (pc' := 46) (ls' := [some (.inl (some 32)), some (.inl (some a)), some (.inl (some b))]) (st' := [.inl (some 32)]) (by decide +kernel) (fun k q => by cases q) rfl ?_
    refine y_same (i := .aload_n 1) (len := 1) (r := (0, 0, 0, 0)) (pc' := 47) (ls' := [some (.inl (some 32)), some (.inl (some a)), some (.inl (some b))]) (st' := [.inl (some a), .inl (some 32)]) (by decide +kernel) (fun k q => by cases q) rfl ?_
    refine y_get (j := 34) (len := 3) (r := (7, 2, 2, 20537)) (by decide +kernel) hg3410 Q3410_a.2.1.1 aw1008 rfl rfl Q3410_a.2.2.1.2.2.1 ?_
    refine y_same (i := .aload_n 2) (len := 1) (r := (0, 0, 0, 0)) (pc' := 51) (ls' := [some (.inl (some 32)), some (.inl (some a)), some (.inl (some b))]) (st' := [.inl (some b), .inl (some ((a + 5))), .inl (some 32)]) (by decide +kernel) (fun k q => by cases q) rfl ?_
    refine y_get (j := 34) (len := 3) (r := (7, 2, 2, 20537)) (by decide +kernel) hg3410 Q3410_b.2.1.1 aw1008 rfl rfl Q3410_b.2.2.1.2.2.1 ?_
    refine y_cI (i := .invokevirtual 30) (len := 3) (r := (0, 28, 3, 723)) (nL := 5) (k := 2) (n := 3) (hs := []) (args := [.inl (some 32), .inl (some ((a + 5))), .inl (some ((b + 5)))]) (rest := []) (l0 := [some (.inl (some 32)), some (.inl (some ((a + 5)))), some (.inl (some ((b + 5)))), none, none]) (by decide +kernel) (Or.inr (Or.inl ⟨_, rfl⟩)) rfl rfl rfl rfl (Nat.le_of_ble_eq_true rfl) (zO hg3410 (tv32 hg3410) aw32 rfl) rfl (qI_le (by omega) (e_trw (d := 0) (P := s.2.1) (Q := s2.2.1) Q3410_a.2.1.2.2.2.2.2.1 Q3410_a.2.1.2.2.2.2.2.2.1 Q3410_b.2.1.2.2.2.2.2.1 Q3410_b.2.1.2.2.2.2.2.2.1 ⟨by omega, by omega⟩ ⟨by omega, by omega⟩ (fun j i hj => (okQ_R Q3410_a.2.2.2.2 hj).1) (fun j i hj => (okQ_R Q3410_b.2.2.2.2 hj).1) hg3410 H3410 Q3410_a.2.2.2.1.2.1 Q3410_b.2.2.2.1.2.1 Q3410_a.2.2.1.2.2.2.2.2.2.1 Q3410_b.2.2.1.2.2.2.2.2.2.1)) (fun y3412 h3412 hRy3412 => ?_)
    obtain ⟨hg3412, F3412, hDy3412⟩ := hRy3412
    have Q3412_a := QC_up Q3410_a hg3412 (fun k j _ _ _ => F3412 k j (by omega) (by omega))
    have Q3412_b := QC_up Q3410_b hg3412 (fun k j _ _ _ => F3412 k j (by omega) (by omega))
    rcases hDy3412 with ⟨v3412, m3412, e3412, H3412⟩ | ⟨v3412, e3412⟩
    ·
      refine y_iF (c := .eq) (off := 37) (len := 3) (r := (0, 0, 0, 0)) (by decide +kernel) (acmpF (c := .eq) (by show ¬ (_ = _); omega)) ?_
      refine y_same (i := .aload_n 0) (len := 1) (r := (0, 0, 0, 0)) (pc' := 61) (ls' := [some (.inl (some 32)), some (.inl (some a)), some (.inl (some b))]) (st' := [.inl (some 32)]) (by decide +kernel) (fun k q => by cases q) rfl ?_
      refine y_same (i := .aload_n 1) (len := 1) (r := (0, 0, 0, 0)) (pc' := 62) (ls' := [some (.inl (some 32)), some (.inl (some a)), some (.inl (some b))]) (st' := [.inl (some a), .inl (some 32)]) (by decide +kernel) (fun k q => by cases q) rfl ?_
      refine y_get (j := 37) (len := 3) (r := (7, 3, 2, 20540)) (by decide +kernel) hg3412 Q3412_a.2.1.1 aw1008 rfl rfl Q3412_a.2.2.1.2.2.2.1 ?_
      refine y_same (i := .aload_n 2) (len := 1) (r := (0, 0, 0, 0)) (pc' := 66) (ls' := [some (.inl (some 32)), some (.inl (some a)), some (.inl (some b))]) (st' := [.inl (some b), .inl (some ((a + 7))), .inl (some 32)]) (by decide +kernel) (fun k q => by cases q) rfl ?_
      refine y_get (j := 37) (len := 3) (r := (7, 3, 2, 20540)) (by decide +kernel) hg3412 Q3412_b.2.1.1 aw1008 rfl rfl Q3412_b.2.2.1.2.2.2.1 ?_
      refine y_cI (i := .invokevirtual 30) (len := 3) (r := (0, 28, 3, 723)) (nL := 5) (k := 2) (n := 3) (hs := []) (args := [.inl (some 32), .inl (some ((a + 7))), .inl (some ((b + 7)))]) (rest := []) (l0 := [some (.inl (some 32)), some (.inl (some ((a + 7)))), some (.inl (some ((b + 7)))), none, none]) (by decide +kernel) (Or.inr (Or.inl ⟨_, rfl⟩)) rfl rfl rfl rfl (Nat.le_of_ble_eq_true rfl) (zO hg3412 (tv32 hg3412) aw32 rfl) rfl (qI_le (by omega) (e_trw (d := 0) (P := s.2.2.1) (Q := s2.2.2.1) Q3412_a.2.1.2.2.2.2.2.2.2.1 Q3412_a.2.1.2.2.2.2.2.2.2.2 Q3412_b.2.1.2.2.2.2.2.2.2.1 Q3412_b.2.1.2.2.2.2.2.2.2.2 ⟨by omega, by omega⟩ ⟨by omega, by omega⟩ (fun j i hj => (okQ_C Q3412_a.2.2.2.2 hj).1) (fun j i hj => (okQ_C Q3412_b.2.2.2.2 hj).1) hg3412 H3412 Q3412_a.2.2.2.1.2.2.1 Q3412_b.2.2.2.1.2.2.1 Q3412_a.2.2.1.2.2.2.2.2.2.2 Q3412_b.2.2.1.2.2.2.2.2.2.2)) (fun y3413 h3413 hRy3413 => ?_)
      obtain ⟨hg3413, F3413, hDy3413⟩ := hRy3413
      have Q3413_a := QC_up Q3412_a hg3413 (fun k j _ _ _ => F3413 k j (by omega) (by omega))
      have Q3413_b := QC_up Q3412_b hg3413 (fun k j _ _ _ => F3413 k j (by omega) (by omega))
      rcases hDy3413 with ⟨v3413, m3413, e3413, H3413⟩ | ⟨v3413, e3413⟩
      ·
        refine y_iF (c := .eq) (off := 22) (len := 3) (r := (0, 0, 0, 0)) (by decide +kernel) (acmpF (c := .eq) (by show ¬ (_ = _); omega)) ?_
        refine y_same (i := .aload_n 0) (len := 1) (r := (0, 0, 0, 0)) (pc' := 76) (ls' := [some (.inl (some 32)), some (.inl (some a)), some (.inl (some b))]) (st' := [.inl (some 32)]) (by decide +kernel) (fun k q => by cases q) rfl ?_
        refine y_same (i := .aload_n 1) (len := 1) (r := (0, 0, 0, 0)) (pc' := 77) (ls' := [some (.inl (some 32)), some (.inl (some a)), some (.inl (some b))]) (st' := [.inl (some a), .inl (some 32)]) (by decide +kernel) (fun k q => by cases q) rfl ?_
        refine y_get (j := 40) (len := 3) (r := (7, 0, 2, 20531)) (by decide +kernel) hg3413 Q3413_a.2.1.1 aw1008 rfl rfl Q3413_a.2.2.1.1 ?_
        refine y_same (i := .aload_n 2) (len := 1) (r := (0, 0, 0, 0)) (pc' := 81) (ls' := [some (.inl (some 32)), some (.inl (some a)), some (.inl (some b))]) (st' := [.inl (some b), .inl (some ((a + 1))), .inl (some 32)]) (by decide +kernel) (fun k q => by cases q) rfl ?_
        refine y_get (j := 40) (len := 3) (r := (7, 0, 2, 20531)) (by decide +kernel) hg3413 Q3413_b.2.1.1 aw1008 rfl rfl Q3413_b.2.2.1.1 ?_
        refine y_cI (i := .invokevirtual 44) (len := 3) (r := (0, 30, 3, 733)) (nL := 5) (k := 2) (n := 3) (hs := []) (args := [.inl (some 32), .inl (some ((a + 1))), .inl (some ((b + 1)))]) (rest := []) (l0 := [some (.inl (some 32)), some (.inl (some ((a + 1)))), some (.inl (some ((b + 1)))), none, none]) (by decide +kernel) (Or.inr (Or.inl ⟨_, rfl⟩)) rfl rfl rfl rfl (Nat.le_of_ble_eq_true rfl) (zO hg3413 (tv32 hg3413) aw32 rfl) rfl (qI_le (by omega) (e_tps (d := 0) Q3413_a.2.1.2.1 Q3413_a.2.1.2.2.1 Q3413_a.2.2.1.2.2.2.2.1 Q3413_a.2.2.2.1.2.2.2 Q3413_b.2.1.2.1 Q3413_b.2.1.2.2.1 Q3413_b.2.2.1.2.2.2.2.1 Q3413_b.2.2.2.1.2.2.2 Q3413_a.2.2.2.2.2.2.2 Q3413_b.2.2.2.2.2.2.2 hg3413 H3413)) (fun y3414 qy3414 hRy3414 => ?_)
        obtain ⟨rfl, hDy3414⟩ := hRy3414
        rcases hDy3414 with ⟨vy3414, ny3414, fy3414⟩ | ⟨vy3414, ny3414⟩
        ·
          refine y_iF (c := .eq) (off := 7) (len := 3) (r := (0, 0, 0, 0)) (by decide +kernel) (acmpF (c := .eq) (by show ¬ (_ = _); omega)) ?_
          refine y_ic (c := 1) (len := 1) (r := (0, 0, 0, 0)) (by decide +kernel) (by decide) (fun y3415 hy3415 => ?_)
          refine y_goto (off := 4) (pc' := 95) (len := 3) (r := (0, 0, 0, 0)) (by decide +kernel) (by decide +kernel) ?_
          refine y_rI (len := 1) (r := (0, 0, 0, 0)) (nL := 3) (k := 2) (n9 := 3) (hs := []) (by decide +kernel) rfl (zfit_b (by omega) (by omega)).2 ?_
          exact ⟨hg3413, fun k j h1 h2 => ((F3413 k j (by omega) (by omega)).trans ((F3412 k j (by omega) (by omega)).trans ((F3410 k j (by omega) (by omega)).trans ((ho3409 k j (by omega)).trans ((ho3406 k j (by omega)).trans ((F3403 k j (by omega)).trans (F3401 k j (by omega)))))))), Or.inl ⟨by omega, ny3414, _, akM_e e3410 e3412 e3413, fy3414⟩⟩
        ·
          refine y_iT (c := .eq) (off := 7) (pc' := 94) (len := 3) (r := (0, 0, 0, 0)) (by decide +kernel) (acmpT (c := .eq) (by show _ = _; omega)) (by decide +kernel) ?_
          refine y_ic (c := 0) (len := 1) (r := (0, 0, 0, 0)) (by decide +kernel) (by decide) (fun y3416 hy3416 => ?_)
          refine y_rI (len := 1) (r := (0, 0, 0, 0)) (nL := 3) (k := 2) (n9 := 3) (hs := []) (by decide +kernel) rfl (zfit_b (by omega) (by omega)).2 ?_
          exact ⟨hg3413, fun k j h1 h2 => ((F3413 k j (by omega) (by omega)).trans ((F3412 k j (by omega) (by omega)).trans ((F3410 k j (by omega) (by omega)).trans ((ho3409 k j (by omega)).trans ((ho3406 k j (by omega)).trans ((F3403 k j (by omega)).trans (F3401 k j (by omega)))))))), Or.inr ⟨by omega, akM_4 e3410 e3412 e3413 ny3414⟩⟩
      ·
        refine y_iT (c := .eq) (off := 22) (pc' := 94) (len := 3) (r := (0, 0, 0, 0)) (by decide +kernel) (acmpT (c := .eq) (by show _ = _; omega)) (by decide +kernel) ?_
        refine y_ic (c := 0) (len := 1) (r := (0, 0, 0, 0)) (by decide +kernel) (by decide) (fun y3417 hy3417 => ?_)
        refine y_rI (len := 1) (r := (0, 0, 0, 0)) (nL := 3) (k := 2) (n9 := 3) (hs := []) (by decide +kernel) rfl (zfit_b (by omega) (by omega)).2 ?_
        exact ⟨hg3413, fun k j h1 h2 => ((F3413 k j (by omega) (by omega)).trans ((F3412 k j (by omega) (by omega)).trans ((F3410 k j (by omega) (by omega)).trans ((ho3409 k j (by omega)).trans ((ho3406 k j (by omega)).trans ((F3403 k j (by omega)).trans (F3401 k j (by omega)))))))), Or.inr ⟨by omega, akM_3 e3410 e3412 e3413⟩⟩
    ·
      refine y_iT (c := .eq) (off := 37) (pc' := 94) (len := 3) (r := (0, 0, 0, 0)) (by decide +kernel) (acmpT (c := .eq) (by show _ = _; omega)) (by decide +kernel) ?_
      refine y_ic (c := 0) (len := 1) (r := (0, 0, 0, 0)) (by decide +kernel) (by decide) (fun y3418 hy3418 => ?_)
      refine y_rI (len := 1) (r := (0, 0, 0, 0)) (nL := 3) (k := 2) (n9 := 3) (hs := []) (by decide +kernel) rfl (zfit_b (by omega) (by omega)).2 ?_
      exact ⟨hg3412, fun k j h1 h2 => ((F3412 k j (by omega) (by omega)).trans ((F3410 k j (by omega) (by omega)).trans ((ho3409 k j (by omega)).trans ((ho3406 k j (by omega)).trans ((F3403 k j (by omega)).trans (F3401 k j (by omega))))))), Or.inr ⟨by omega, akM_2 e3410 e3412⟩⟩
  ·
    refine y_iT (c := .eq) (off := 52) (pc' := 94) (len := 3) (r := (0, 0, 0, 0)) (by decide +kernel) (acmpT (c := .eq) (by show _ = _; omega)) (by decide +kernel) ?_
    refine y_ic (c := 0) (len := 1) (r := (0, 0, 0, 0)) (by decide +kernel) (by decide) (fun y3419 hy3419 => ?_)
    refine y_rI (len := 1) (r := (0, 0, 0, 0)) (nL := 3) (k := 2) (n9 := 3) (hs := []) (by decide +kernel) rfl (zfit_b (by omega) (by omega)).2 ?_
    exact ⟨hg3410, fun k j h1 h2 => ((F3410 k j (by omega) (by omega)).trans ((ho3409 k j (by omega)).trans ((ho3406 k j (by omega)).trans ((F3403 k j (by omega)).trans (F3401 k j (by omega)))))), Or.inr ⟨by omega, akM_1 e3410⟩⟩
theorem wf_45 {e : enT} (w : wfE e) (h : e.2.1 = 4 ∨ e.2.1 = 5) : (gq_ e).1 ≤ 1 := by
  obtain ⟨w, -⟩ := w
  rcases w with w | ⟨w1, w2, w3⟩
  · omega
  · have f : fnd_ e.1 e.2.1 e.2.2.1 e.2.2.2.1 := w3.elim (fun q => by omega) id
    obtain ⟨p, hp, hq⟩ := fnd_it f (by omega)
    obtain ⟨q, e1, f2⟩ := hq (by omega)
    rw [gq_eq e1]
    obtain ⟨-, f2⟩ := f2
    rcases f2 with ⟨a, -⟩ | ⟨-, -, a⟩ | ⟨-, ⟨-, a⟩ | ⟨-, a, -⟩⟩ | ⟨a, -⟩ | ⟨a, -⟩
    · omega
    · exact a
    · omega
    · omega
    · omega
    · omega
theorem e_tca {d t a : Nat} {τ : List Nat} {h : zh} {e : enT} (wf : wfE e) (h3 : 3 ≤ e.2.1) (h8 : e.2.1 ≤ 8) (Q : QC τ h a e.1) (c4 : ci_ h a 4 e.2.1) (c9 : e.2.1 ≤ 7 → ci_ h a 9 e.2.2.2.1) : qI (d + 2) 96 [some (.inl (some a))] h t (fun y h1 => h = h1 ∧ ((y.toInt = 1 ∧ lst_ e) ∨ (y.toInt = 0 ∧ ¬ lst_ e))) := by
  obtain ⟨-, -, -, kiq, -⟩ := wf_it wf h3 h8
  have k45 := wf_45 wf
  obtain ⟨xs, hs4, es4⟩ := c4
  refine qI_of ?_
  refine y_same (i := .aload_n 0) (len := 1) (r := (0, 0, 0, 0)) (pc' := 1) (ls' := [some (.inl (some a))]) (st' := [.inl (some a)]) (by decide +kernel) (fun k q => by cases q) rfl ?_
  refine y_get (j := 33) (len := 3) (r := (7, 4, 0, 542)) (by decide +kernel) Q.1 Q.2.1.1 aw1008 rfl rfl hs4 ?_
  refine y_ic (c := 3) (len := 1) (r := (0, 0, 0, 0)) (by decide +kernel) (by decide) (fun y3420 hy3420 => ?_)
  rcases Decidable.em (xs.toInt < y3420.toInt) with q3421 | q3421
  ·
    refine y_cT (c := .lt) (off := 31) (pc' := 36) (len := 3) (r := (0, 0, 0, 0)) (by decide +kernel) (acmpT (c := .lt) (by show _ < _; omega)) (by decide +kernel) ?_
    refine y_ic (c := 0) (len := 1) (r := (0, 0, 0, 0)) (by decide +kernel) (by decide) (fun y3422 hy3422 => ?_)
    refine y_rI (len := 1) (r := (0, 0, 0, 0)) (nL := 1) (k := 2) (n9 := 1) (hs := []) (by decide +kernel) rfl (zfit_b (by omega) (by omega)).2 ?_
    exact ⟨rfl, Or.inr ⟨by omega, by unfold lst_; omega⟩⟩
  ·
    refine y_cF (c := .lt) (off := 31) (len := 3) (r := (0, 0, 0, 0)) (by decide +kernel) (acmpF (c := .lt) (by show _ ≤ _; omega)) ?_
    refine y_same (i := .aload_n 0) (len := 1) (r := (0, 0, 0, 0)) (pc' := 9) (ls' := [some (.inl (some a))]) (st' := [.inl (some a)]) (by decide +kernel) (fun k q => by cases q) rfl ?_
    refine y_get (j := 33) (len := 3) (r := (7, 4, 0, 542)) (by decide +kernel) Q.1 Q.2.1.1 aw1008 rfl rfl hs4 ?_
    refine y_ic (c := 5) (len := 1) (r := (0, 0, 0, 0)) (by decide +kernel) (by decide) (fun y3423 hy3423 => ?_)
    rcases Decidable.em (xs.toInt > y3423.toInt) with q3424 | q3424
    ·
      refine y_cT (c := .gt) (off := 23) (pc' := 36) (len := 3) (r := (0, 0, 0, 0)) (by decide +kernel) (acmpT (c := .gt) (by show _ < _; omega)) (by decide +kernel) ?_
      refine y_ic (c := 0) (len := 1) (r := (0, 0, 0, 0)) (by decide +kernel) (by decide) (fun y3425 hy3425 => ?_)
      refine y_rI (len := 1) (r := (0, 0, 0, 0)) (nL := 1) (k := 2) (n9 := 1) (hs := []) (by decide +kernel) rfl (zfit_b (by omega) (by omega)).2 ?_
      exact ⟨rfl, Or.inr ⟨by omega, by unfold lst_; omega⟩⟩
    ·
      refine y_cF (c := .gt) (off := 23) (len := 3) (r := (0, 0, 0, 0)) (by decide +kernel) (acmpF (c := .gt) (by show _ ≤ _; omega)) ?_
      refine y_same (i := .aload_n 0) (len := 1) (r := (0, 0, 0, 0)) (pc' := 17) (ls' := [some (.inl (some a))]) (st' := [.inl (some a)]) (by decide +kernel) (fun k q => by cases q) rfl ?_
      refine y_get (j := 23) (len := 3) (r := (7, 1, 2, 533)) (by decide +kernel) Q.1 Q.2.1.1 aw1008 rfl rfl Q.2.2.1.2.1 ?_
      obtain ⟨xl, hl9, el9⟩ := c9 (by omega)
      have kq := kiq (by omega)
      have hll := (List.getElem?_eq_some_iff.mp kq).1
      refine y_same (i := .aload_n 0) (len := 1) (r := (0, 0, 0, 0)) (pc' := 21) (ls' := [some (.inl (some a))]) (st' := [.inl (some a), .inl (some ((a + 3)))]) (by decide +kernel) (fun k q => by cases q) rfl ?_
      refine y_get (j := 49) (len := 3) (r := (7, 9, 0, 554)) (by decide +kernel) Q.1 Q.2.1.1 aw1008 rfl rfl hl9 ?_
      refine y_ic (c := 0) (len := 1) (r := (0, 0, 0, 0)) (by decide +kernel) (by decide) (fun y3426 hy3426 => ?_)
      obtain ⟨i3428, ki3428⟩ : ∃ i9, e.1.1[e.2.2.2.1]? = some i9 := ⟨_, List.getElem?_eq_getElem (by omega)⟩
      have oi3428 := okQ_L Q.2.2.2.2 ki3428
      have pi3428 := oi3428.1
      unfold okV at pi3428
      refine y_cI (i := .invokevirtual 68) (len := 3) (r := (0, 64, 6, 586)) (nL := 3) (k := 1) (n := 3) (hs := []) (args := [.inl (some ((a + 3))), zi xl, zi y3426]) (rest := []) (l0 := [some (.inl (some ((a + 3)))), some (zi xl), some (zi y3426)]) (by decide +kernel) (Or.inr (Or.inl ⟨_, rfl⟩)) rfl rfl rfl rfl (Nat.le_of_ble_eq_true rfl) (zO Q.1 Q.2.1.2.2.2.1 aw1004 rfl) rfl (qI_le (by omega) (q_tlL (d := 0) (k := e.2.2.2.1) (w := 0) Q (by omega) ki3428 (by omega) (by omega))) (fun y3427 qy3427 hRy3427 => ?_)
      obtain ⟨rfl, ey3427⟩ := hRy3427
      have ey3427 : y3427.toInt = i3428.1 := ey3427
      refine y_ic (c := 1) (len := 1) (r := (0, 0, 0, 0)) (by decide +kernel) (by decide) (fun y3429 hy3429 => ?_)
      rcases Decidable.em (y3427.toInt > y3429.toInt) with q3430 | q3430
      ·
        refine y_cT (c := .gt) (off := 7) (pc' := 36) (len := 3) (r := (0, 0, 0, 0)) (by decide +kernel) (acmpT (c := .gt) (by show _ < _; omega)) (by decide +kernel) ?_
        refine y_ic (c := 0) (len := 1) (r := (0, 0, 0, 0)) (by decide +kernel) (by decide) (fun y3431 hy3431 => ?_)
        refine y_rI (len := 1) (r := (0, 0, 0, 0)) (nL := 1) (k := 2) (n9 := 1) (hs := []) (by decide +kernel) rfl (zfit_b (by omega) (by omega)).2 ?_
        have eq9 : i3428 = gq_ e := Option.some.inj (ki3428.symm.trans kq)
        exact ⟨rfl, Or.inr ⟨by omega, by unfold lst_; rw [← eq9] at k45 ⊢; omega⟩⟩
      ·
        refine y_cF (c := .gt) (off := 7) (len := 3) (r := (0, 0, 0, 0)) (by decide +kernel) (acmpF (c := .gt) (by show _ ≤ _; omega)) ?_
        refine y_ic (c := 1) (len := 1) (r := (0, 0, 0, 0)) (by decide +kernel) (by decide) (fun y3432 hy3432 => ?_)
        refine y_goto (off := 4) (pc' := 37) (len := 3) (r := (0, 0, 0, 0)) (by decide +kernel) (by decide +kernel) ?_
        refine y_rI (len := 1) (r := (0, 0, 0, 0)) (nL := 1) (k := 2) (n9 := 1) (hs := []) (by decide +kernel) rfl (zfit_b (by omega) (by omega)).2 ?_
        have eq9 : i3428 = gq_ e := Option.some.inj (ki3428.symm.trans kq)
        exact ⟨rfl, Or.inl ⟨by omega, by unfold lst_; rw [← eq9]; omega⟩⟩
theorem FN_s {h h1 : zh} (F : FN h h1) : FN h1 h := fun k j h1 h2 => (F k j h1 h2).symm
theorem prE_fr2 {τ : List Nat} {h h1 : zh} {k : Nat} {e : enT} (p : prE τ h 29 k e) (g : hG τ h1) (F : FN h h1) : prE τ h1 29 k e := prE_fr p g (fun k j c => F k j (by omega) (by omega))
theorem fal_l {d t a : Nat} {τ : List Nat} {h0 : zh} {L : List enT} {x : sqT} (ha : 388 < a) (Qa0 : QC τ h0 a x) (pE0 : ∀ (k : Nat) (e : enT), L[k]? = some e → prE τ h0 29 k e) (hL : L.length ≤ 300) (wl : ∀ e ∈ L, wfE e) (ch : chI L) : ∀ (n : Nat) (h : zh) (i : Nat) (kk : Int) (xk : Int32) (g : Prop) (xg xi : Int32) (l5 : Option zv), hG τ h → FN h0 h → ((xg.toInt = 1 ∧ g) ∨ (xg.toInt = 0 ∧ ¬ g)) → xk.toInt = kk → (kk = -1 ∨ ∃ (j : Nat) (e : enT), kk = (j : Int) ∧ L[j]? = some e ∧ 3 ≤ e.2.1 ∧ e.2.1 ≤ 8 ∧ e.2.2.2.2.1 ≤ n) → xi.toInt = (i : Int) → i + n = 40 → qX (d + 7) 44 10 [some (.inl (some 28)), some (.inl (some a)), some (zi xg), some (zi xk), some (zi xi), l5] [] h t (rI (fun y h1 => hG τ h1 ∧ FN h0 h1 ∧ ((y.toInt ≠ -1 ∧ cyG L x n kk g) ∨ (y.toInt = -1 ∧ ¬ cyG L x n kk g))) t) := by
  intro n
  induction n with
  | zero =>
    intro h i kk xk g xg xi l5 hg F0 hgn hxk hk hxi hn
    refine y_same (i := .iload 4) (len := 2) (r := (0, 0, 0, 0)) (pc' := 12) (ls' := [some (.inl (some 28)), some (.inl (some a)), some (zi xg), some (zi xk), some (zi xi), l5]) (st' := [zi xi]) (by decide +kernel) (fun k q => by cases q) rfl ?_
    refine y_bi (c := 40) (len := 2) (r := (0, 0, 0, 0)) (by decide +kernel) (by decide) (fun y3433 hy3433 => ?_)
    refine y_cT (c := .ge) (off := 64) (pc' := 78) (len := 3) (r := (0, 0, 0, 0)) (by decide +kernel) (acmpT (c := .ge) (by show _ ≤ _; omega)) (by decide +kernel) ?_
    refine y_ic (c := (-1)) (len := 1) (r := (0, 0, 0, 0)) (by decide +kernel) (by decide) (fun y3434 hy3434 => ?_)
    refine y_rI (len := 1) (r := (0, 0, 0, 0)) (nL := 6) (k := 1) (n9 := 2) (hs := []) (by decide +kernel) rfl rfl ?_
    exact ⟨hg, F0, Or.inr ⟨by omega, fun q => q⟩⟩
  | succ n ih =>
    intro h i kk xk g xg xi l5 hg F0 hgn hxk hk hxi hn
    refine y_same (i := .iload 4) (len := 2) (r := (0, 0, 0, 0)) (pc' := 12) (ls' := [some (.inl (some 28)), some (.inl (some a)), some (zi xg), some (zi xk), some (zi xi), l5]) (st' := [zi xi]) (by decide +kernel) (fun k q => by cases q) rfl ?_
    refine y_bi (c := 40) (len := 2) (r := (0, 0, 0, 0)) (by decide +kernel) (by decide) (fun y3435 hy3435 => ?_)
    refine y_cF (c := .ge) (off := 64) (len := 3) (r := (0, 0, 0, 0)) (by decide +kernel) (acmpF (c := .ge) (by show _ < _; omega)) ?_
    refine y_same (i := .iload_n 3) (len := 1) (r := (0, 0, 0, 0)) (pc' := 18) (ls' := [some (.inl (some 28)), some (.inl (some a)), some (zi xg), some (zi xk), some (zi xi), l5]) (st' := [zi xk]) (by decide +kernel) (fun k q => by cases q) rfl ?_
    refine y_ic (c := (-1)) (len := 1) (r := (0, 0, 0, 0)) (by decide +kernel) (by decide) (fun y3436 hy3436 => ?_)
    rcases Decidable.em (xk.toInt = y3436.toInt) with q3437 | q3437
    ·
      refine y_cT (c := .eq) (off := 59) (pc' := 78) (len := 3) (r := (0, 0, 0, 0)) (by decide +kernel) (acmpT (c := .eq) (by show _ = _; omega)) (by decide +kernel) ?_
      refine y_ic (c := (-1)) (len := 1) (r := (0, 0, 0, 0)) (by decide +kernel) (by decide) (fun y3438 hy3438 => ?_)
      refine y_rI (len := 1) (r := (0, 0, 0, 0)) (nL := 6) (k := 1) (n9 := 2) (hs := []) (by decide +kernel) rfl rfl ?_
      exact ⟨hg, F0, Or.inr ⟨by omega, cyG_neg (by omega)⟩⟩
    ·
      refine y_cF (c := .eq) (off := 59) (len := 3) (r := (0, 0, 0, 0)) (by decide +kernel) (acmpF (c := .eq) (by show ¬ (_ = _); omega)) ?_
      obtain ⟨j, e, rfl, ke, h3, h8, hrow⟩ : ∃ (j : Nat) (e : enT), kk = (j : Int) ∧ L[j]? = some e ∧ 3 ≤ e.2.1 ∧ e.2.1 ≤ 8 ∧ e.2.2.2.2.1 ≤ n + 1 := hk.elim (fun q => absurd q (by omega)) id
      have wf := wl e (List.mem_of_getElem? ke)
      have hj9 := (List.getElem?_eq_some_iff.mp ke).1
      have pj := prE_fr2 (pE0 j e ke) hg F0
      obtain ⟨b, rb, hb, lb, c4, c6, c5, qb, c8, c9⟩ := pj
      have Qb := qb (by omega)
      have Qa := QC_up Qa0 hg (fun k j _ _ _ => F0 k j (by omega) (by omega))
      have cs := cyG_s (x := x) (f := n) (g := g) ke
      obtain ⟨xp, hp5, ep5⟩ := c5
      refine y_same (i := .aload_n 0) (len := 1) (r := (0, 0, 0, 0)) (pc' := 23) (ls' := [some (.inl (some 28)), some (.inl (some a)), some (zi xg), some (zi xk), some (zi xi), l5]) (st' := [.inl (some 28)]) (by decide +kernel) (fun k q => by cases q) rfl ?_
      refine y_same (i := .iload_n 3) (len := 1) (r := (0, 0, 0, 0)) (pc' := 24) (ls' := [some (.inl (some 28)), some (.inl (some a)), some (zi xg), some (zi xk), some (zi xi), l5]) (st' := [zi xk, .inl (some 28)]) (by decide +kernel) (fun k q => by cases q) rfl ?_
      refine y_cA (i := .invokevirtual 67) (len := 3) (r := (0, 33, 4, 505)) (nL := 3) (k := 3) (n := 2) (hs := []) (args := [.inl (some 28), zi xk]) (rest := []) (l0 := [some (.inl (some 28)), some (zi xk), none]) (by decide +kernel) (Or.inr (Or.inl ⟨_, rfl⟩)) rfl rfl rfl rfl (Nat.le_of_ble_eq_true rfl) (zO hg (tv28 hg) aw28 rfl) rfl (qA_le (by omega) (e_slo28 (d := 0) (k := j) hg (by omega) (by omega) rb)) (fun h3439 hR3439 => ?_)
      obtain rfl := hR3439
      refine y_same (i := .astore 5) (len := 2) (r := (0, 0, 0, 0)) (pc' := 29) (ls' := [some (.inl (some 28)), some (.inl (some a)), some (zi xg), some (zi xk), some (zi xi), some (.inl (some b))]) (st' := []) (by decide +kernel) (fun k q => by cases q) rfl ?_
      refine y_same (i := .iload_n 2) (len := 1) (r := (0, 0, 0, 0)) (pc' := 30) (ls' := [some (.inl (some 28)), some (.inl (some a)), some (zi xg), some (zi xk), some (zi xi), some (.inl (some b))]) (st' := [zi xg]) (by decide +kernel) (fun k q => by cases q) rfl ?_
      rcases hgn with ⟨vg, pg⟩ | ⟨vg, pg⟩
      ·
        refine y_iT (c := .ne) (off := 11) (pc' := 41) (len := 3) (r := (0, 0, 0, 0)) (by decide +kernel) (acmpT (c := .ne) (by show ¬ (_ = _); omega)) (by decide +kernel) ?_
        refine y_ic (c := 1) (len := 1) (r := (0, 0, 0, 0)) (by decide +kernel) (by decide) (fun y3440 hy3440 => ?_)
        refine y_goto (off := 4) (pc' := 46) (len := 3) (r := (0, 0, 0, 0)) (by decide +kernel) (by decide +kernel) ?_
        refine y_same (i := .istore_n 2) (len := 1) (r := (0, 0, 0, 0)) (pc' := 47) (ls' := [some (.inl (some 28)), some (.inl (some a)), some (zi y3440), some (zi xk), some (zi xi), some (.inl (some b))]) (st' := []) (by decide +kernel) (fun k q => by cases q) rfl ?_
        refine y_same (i := .iload_n 2) (len := 1) (r := (0, 0, 0, 0)) (pc' := 48) (ls' := [some (.inl (some 28)), some (.inl (some a)), some (zi y3440), some (zi xk), some (zi xi), some (.inl (some b))]) (st' := [zi y3440]) (by decide +kernel) (fun k q => by cases q) rfl ?_
        refine y_iF (c := .eq) (off := 18) (len := 3) (r := (0, 0, 0, 0)) (by decide +kernel) (acmpF (c := .eq) (by show ¬ (_ = _); omega)) ?_
        refine y_same (i := .aload_n 0) (len := 1) (r := (0, 0, 0, 0)) (pc' := 52) (ls' := [some (.inl (some 28)), some (.inl (some a)), some (zi y3440), some (zi xk), some (zi xi), some (.inl (some b))]) (st' := [.inl (some 28)]) (by decide +kernel) (fun k q => by cases q) rfl ?_
        refine y_get (j := 27) (len := 3) (r := (4, 4, 2, 286)) (by decide +kernel) hg (tv28 hg) aw28 rfl rfl (g_rU (f := 4) (T2 := 32) hg (tv28 hg) aw28 rfl (by decide)) ?_
        refine y_same (i := .aload 5) (len := 2) (r := (0, 0, 0, 0)) (pc' := 57) (ls' := [some (.inl (some 28)), some (.inl (some a)), some (zi y3440), some (zi xk), some (zi xi), some (.inl (some b))]) (st' := [.inl (some b), .inl (some 32)]) (by decide +kernel) (fun k q => by cases q) rfl ?_
        refine y_same (i := .aload_n 1) (len := 1) (r := (0, 0, 0, 0)) (pc' := 58) (ls' := [some (.inl (some 28)), some (.inl (some a)), some (zi y3440), some (zi xk), some (zi xi), some (.inl (some b))]) (st' := [.inl (some a), .inl (some b), .inl (some 32)]) (by decide +kernel) (fun k q => by cases q) rfl ?_
        refine y_cI (i := .invokevirtual 156) (len := 3) (r := (0, 27, 3, 718)) (nL := 3) (k := 2) (n := 3) (hs := []) (args := [.inl (some 32), .inl (some b), .inl (some a)]) (rest := []) (l0 := [some (.inl (some 32)), some (.inl (some b)), some (.inl (some a))]) (by decide +kernel) (Or.inr (Or.inl ⟨_, rfl⟩)) rfl rfl rfl rfl (Nat.le_of_ble_eq_true rfl) (zO hg (tv32 hg) aw32 rfl) rfl (qI_le (by omega) (e_alk (d := 0) Qb Qa hb ha)) (fun y3441 h3441 hRy3441 => ?_)
        obtain ⟨hg3441, F3441, hDy3441⟩ := hRy3441
        rcases hDy3441 with ⟨vy3441, by3441⟩ | ⟨vy3441, by3441⟩
        ·
          refine y_iF (c := .eq) (off := 5) (len := 3) (r := (0, 0, 0, 0)) (by decide +kernel) (acmpF (c := .eq) (by show ¬ (_ = _); omega)) ?_
          refine y_same (i := .iload_n 3) (len := 1) (r := (0, 0, 0, 0)) (pc' := 65) (ls' := [some (.inl (some 28)), some (.inl (some a)), some (zi y3440), some (zi xk), some (zi xi), some (.inl (some b))]) (st' := [zi xk]) (by decide +kernel) (fun k q => by cases q) rfl ?_
          refine y_rI (len := 1) (r := (0, 0, 0, 0)) (nL := 6) (k := 1) (n9 := 2) (hs := []) (by decide +kernel) rfl rfl ?_
          exact ⟨hg3441, FN_tr F0 (fun k j h1 h2 => (F3441 k j (by omega) (by omega))), Or.inl ⟨by omega, cs.mpr (Or.inl ⟨Or.inl pg, by3441⟩)⟩⟩
        ·
          refine y_iT (c := .eq) (off := 5) (pc' := 66) (len := 3) (r := (0, 0, 0, 0)) (by decide +kernel) (acmpT (c := .eq) (by show _ = _; omega)) (by decide +kernel) ?_
          refine y_same (i := .aload 5) (len := 2) (r := (0, 0, 0, 0)) (pc' := 68) (ls' := [some (.inl (some 28)), some (.inl (some a)), some (zi y3440), some (zi xk), some (zi xi), some (.inl (some b))]) (st' := [.inl (some b)]) (by decide +kernel) (fun k q => by cases q) rfl ?_
          have hv3442 := (F3441 b 5 (by omega) (by omega)).trans hp5
          refine y_get (j := 127) (len := 3) (r := (7, 5, 0, 20546)) (by decide +kernel) hg3441 Qb.2.1.1 aw1008 rfl rfl hv3442 ?_
          refine y_same (i := .istore_n 3) (len := 1) (r := (0, 0, 0, 0)) (pc' := 72) (ls' := [some (.inl (some 28)), some (.inl (some a)), some (zi y3440), some (zi xp), some (zi xi), some (.inl (some b))]) (st' := []) (by decide +kernel) (fun k q => by cases q) rfl ?_
          refine y_inc (j := 4) (a := xi) (c := 1) (ls' := fun v => [some (.inl (some 28)), some (.inl (some a)), some (zi y3440), some (zi xp), some v, some (.inl (some b))]) (len := 3) (r := (0, 0, 0, 0)) (by decide +kernel) rfl (fun _ => rfl) (by decide) (by omega) (by omega) (fun y3443 hy3443 => ?_)
          show qX (d + 7) 44 75 [some (.inl (some 28)), some (.inl (some a)), some (zi y3440), some (zi xp), some (zi y3443), some (.inl (some b))] [] h3441 t _
          refine y_goto (off := (-65)) (pc' := 10) (len := 3) (r := (0, 0, 0, 0)) (by decide +kernel) (by decide +kernel) ?_
          have hk2 : e.2.2.2.2.2 = -1 ∨ ∃ (j9 : Nat) (e9 : enT), e.2.2.2.2.2 = (j9 : Int) ∧ L[j9]? = some e9 ∧ 3 ≤ e9.2.1 ∧ e9.2.1 ≤ 8 ∧ e9.2.2.2.2.1 ≤ n := (ch j e ke).elim (fun q => Or.inl q.1) (fun q => by obtain ⟨i9, e9, q1, q2, q3, q4, q5, q6⟩ := q; exact Or.inr ⟨i9, e9, q1, q3, q5, q6, by omega⟩)
          refine qX_I (ih h3441 (i + 1) e.2.2.2.2.2 xp (g ∨ lst_ e) y3440 y3443 (some (.inl (some b))) hg3441 (FN_tr F0 (fun k j h1 h2 => (F3441 k j (by omega) (by omega)))) (Or.inl ⟨by omega, Or.inl pg⟩) (by omega) hk2 (by omega) (by omega)) (fun y h1 hR => ?_)
          obtain ⟨r0, r1, ⟨r3, r2⟩ | ⟨r3, r2⟩⟩ := hR
          · exact ⟨r0, r1, Or.inl ⟨r3, cs.mpr (Or.inr r2)⟩⟩
          · exact ⟨r0, r1, Or.inr ⟨r3, fun q9 => (cs.mp q9).elim (fun q8 => by3441 q8.2) r2⟩⟩
      ·
        refine y_iF (c := .ne) (off := 11) (len := 3) (r := (0, 0, 0, 0)) (by decide +kernel) (acmpF (c := .ne) (by show _ = _; omega)) ?_
        refine y_same (i := .aload 5) (len := 2) (r := (0, 0, 0, 0)) (pc' := 35) (ls' := [some (.inl (some 28)), some (.inl (some a)), some (zi xg), some (zi xk), some (zi xi), some (.inl (some b))]) (st' := [.inl (some b)]) (by decide +kernel) (fun k q => by cases q) rfl ?_
        refine y_cI (i := .invokevirtual 153) (len := 3) (r := (0, 96, 7, 714)) (nL := 1) (k := 2) (n := 1) (hs := []) (args := [.inl (some b)]) (rest := []) (l0 := [some (.inl (some b))]) (by decide +kernel) (Or.inr (Or.inl ⟨_, rfl⟩)) rfl rfl rfl rfl (Nat.le_of_ble_eq_true rfl) (zO hg Qb.2.1.1 aw1008 rfl) rfl (qI_le (by omega) (e_tca (d := 0) wf h3 h8 Qb c4 (c9 h3))) (fun y3444 qy3444 hRy3444 => ?_)
        obtain ⟨rfl, hDy3444⟩ := hRy3444
        rcases hDy3444 with ⟨vy3444, by3444⟩ | ⟨vy3444, by3444⟩
        ·
          refine y_iF (c := .eq) (off := 7) (len := 3) (r := (0, 0, 0, 0)) (by decide +kernel) (acmpF (c := .eq) (by show ¬ (_ = _); omega)) ?_
          refine y_ic (c := 1) (len := 1) (r := (0, 0, 0, 0)) (by decide +kernel) (by decide) (fun y3445 hy3445 => ?_)
          refine y_goto (off := 4) (pc' := 46) (len := 3) (r := (0, 0, 0, 0)) (by decide +kernel) (by decide +kernel) ?_
          refine y_same (i := .istore_n 2) (len := 1) (r := (0, 0, 0, 0)) (pc' := 47) (ls' := [some (.inl (some 28)), some (.inl (some a)), some (zi y3445), some (zi xk), some (zi xi), some (.inl (some b))]) (st' := []) (by decide +kernel) (fun k q => by cases q) rfl ?_
          refine y_same (i := .iload_n 2) (len := 1) (r := (0, 0, 0, 0)) (pc' := 48) (ls' := [some (.inl (some 28)), some (.inl (some a)), some (zi y3445), some (zi xk), some (zi xi), some (.inl (some b))]) (st' := [zi y3445]) (by decide +kernel) (fun k q => by cases q) rfl ?_
          refine y_iF (c := .eq) (off := 18) (len := 3) (r := (0, 0, 0, 0)) (by decide +kernel) (acmpF (c := .eq) (by show ¬ (_ = _); omega)) ?_
          refine y_same (i := .aload_n 0) (len := 1) (r := (0, 0, 0, 0)) (pc' := 52) (ls' := [some (.inl (some 28)), some (.inl (some a)), some (zi y3445), some (zi xk), some (zi xi), some (.inl (some b))]) (st' := [.inl (some 28)]) (by decide +kernel) (fun k q => by cases q) rfl ?_
          refine y_get (j := 27) (len := 3) (r := (4, 4, 2, 286)) (by decide +kernel) hg (tv28 hg) aw28 rfl rfl (g_rU (f := 4) (T2 := 32) hg (tv28 hg) aw28 rfl (by decide)) ?_
          refine y_same (i := .aload 5) (len := 2) (r := (0, 0, 0, 0)) (pc' := 57) (ls' := [some (.inl (some 28)), some (.inl (some a)), some (zi y3445), some (zi xk), some (zi xi), some (.inl (some b))]) (st' := [.inl (some b), .inl (some 32)]) (by decide +kernel) (fun k q => by cases q) rfl ?_
          refine y_same (i := .aload_n 1) (len := 1) (r := (0, 0, 0, 0)) (pc' := 58) (ls' := [some (.inl (some 28)), some (.inl (some a)), some (zi y3445), some (zi xk), some (zi xi), some (.inl (some b))]) (st' := [.inl (some a), .inl (some b), .inl (some 32)]) (by decide +kernel) (fun k q => by cases q) rfl ?_
          refine y_cI (i := .invokevirtual 156) (len := 3) (r := (0, 27, 3, 718)) (nL := 3) (k := 2) (n := 3) (hs := []) (args := [.inl (some 32), .inl (some b), .inl (some a)]) (rest := []) (l0 := [some (.inl (some 32)), some (.inl (some b)), some (.inl (some a))]) (by decide +kernel) (Or.inr (Or.inl ⟨_, rfl⟩)) rfl rfl rfl rfl (Nat.le_of_ble_eq_true rfl) (zO hg (tv32 hg) aw32 rfl) rfl (qI_le (by omega) (e_alk (d := 0) Qb Qa hb ha)) (fun y3446 h3446 hRy3446 => ?_)
          obtain ⟨hg3446, F3446, hDy3446⟩ := hRy3446
          rcases hDy3446 with ⟨vy3446, by3446⟩ | ⟨vy3446, by3446⟩
          ·
            refine y_iF (c := .eq) (off := 5) (len := 3) (r := (0, 0, 0, 0)) (by decide +kernel) (acmpF (c := .eq) (by show ¬ (_ = _); omega)) ?_
            refine y_same (i := .iload_n 3) (len := 1) (r := (0, 0, 0, 0)) (pc' := 65) (ls' := [some (.inl (some 28)), some (.inl (some a)), some (zi y3445), some (zi xk), some (zi xi), some (.inl (some b))]) (st' := [zi xk]) (by decide +kernel) (fun k q => by cases q) rfl ?_
            refine y_rI (len := 1) (r := (0, 0, 0, 0)) (nL := 6) (k := 1) (n9 := 2) (hs := []) (by decide +kernel) rfl rfl ?_
            exact ⟨hg3446, FN_tr F0 (fun k j h1 h2 => (F3446 k j (by omega) (by omega))), Or.inl ⟨by omega, cs.mpr (Or.inl ⟨Or.inr by3444, by3446⟩)⟩⟩
          ·
            refine y_iT (c := .eq) (off := 5) (pc' := 66) (len := 3) (r := (0, 0, 0, 0)) (by decide +kernel) (acmpT (c := .eq) (by show _ = _; omega)) (by decide +kernel) ?_
            refine y_same (i := .aload 5) (len := 2) (r := (0, 0, 0, 0)) (pc' := 68) (ls' := [some (.inl (some 28)), some (.inl (some a)), some (zi y3445), some (zi xk), some (zi xi), some (.inl (some b))]) (st' := [.inl (some b)]) (by decide +kernel) (fun k q => by cases q) rfl ?_
            have hv3447 := (F3446 b 5 (by omega) (by omega)).trans hp5
            refine y_get (j := 127) (len := 3) (r := (7, 5, 0, 20546)) (by decide +kernel) hg3446 Qb.2.1.1 aw1008 rfl rfl hv3447 ?_
            refine y_same (i := .istore_n 3) (len := 1) (r := (0, 0, 0, 0)) (pc' := 72) (ls' := [some (.inl (some 28)), some (.inl (some a)), some (zi y3445), some (zi xp), some (zi xi), some (.inl (some b))]) (st' := []) (by decide +kernel) (fun k q => by cases q) rfl ?_
            refine y_inc (j := 4) (a := xi) (c := 1) (ls' := fun v => [some (.inl (some 28)), some (.inl (some a)), some (zi y3445), some (zi xp), some v, some (.inl (some b))]) (len := 3) (r := (0, 0, 0, 0)) (by decide +kernel) rfl (fun _ => rfl) (by decide) (by omega) (by omega) (fun y3448 hy3448 => ?_)
            show qX (d + 7) 44 75 [some (.inl (some 28)), some (.inl (some a)), some (zi y3445), some (zi xp), some (zi y3448), some (.inl (some b))] [] h3446 t _
            refine y_goto (off := (-65)) (pc' := 10) (len := 3) (r := (0, 0, 0, 0)) (by decide +kernel) (by decide +kernel) ?_
            have hk2 : e.2.2.2.2.2 = -1 ∨ ∃ (j9 : Nat) (e9 : enT), e.2.2.2.2.2 = (j9 : Int) ∧ L[j9]? = some e9 ∧ 3 ≤ e9.2.1 ∧ e9.2.1 ≤ 8 ∧ e9.2.2.2.2.1 ≤ n := (ch j e ke).elim (fun q => Or.inl q.1) (fun q => by obtain ⟨i9, e9, q1, q2, q3, q4, q5, q6⟩ := q; exact Or.inr ⟨i9, e9, q1, q3, q5, q6, by omega⟩)
            refine qX_I (ih h3446 (i + 1) e.2.2.2.2.2 xp (g ∨ lst_ e) y3445 y3448 (some (.inl (some b))) hg3446 (FN_tr F0 (fun k j h1 h2 => (F3446 k j (by omega) (by omega)))) (Or.inl ⟨by omega, Or.inr by3444⟩) (by omega) hk2 (by omega) (by omega)) (fun y h1 hR => ?_)
            obtain ⟨r0, r1, ⟨r3, r2⟩ | ⟨r3, r2⟩⟩ := hR
            · exact ⟨r0, r1, Or.inl ⟨r3, cs.mpr (Or.inr r2)⟩⟩
            · exact ⟨r0, r1, Or.inr ⟨r3, fun q9 => (cs.mp q9).elim (fun q8 => by3446 q8.2) r2⟩⟩
        ·
          refine y_iT (c := .eq) (off := 7) (pc' := 45) (len := 3) (r := (0, 0, 0, 0)) (by decide +kernel) (acmpT (c := .eq) (by show _ = _; omega)) (by decide +kernel) ?_
          refine y_ic (c := 0) (len := 1) (r := (0, 0, 0, 0)) (by decide +kernel) (by decide) (fun y3449 hy3449 => ?_)
          refine y_same (i := .istore_n 2) (len := 1) (r := (0, 0, 0, 0)) (pc' := 47) (ls' := [some (.inl (some 28)), some (.inl (some a)), some (zi y3449), some (zi xk), some (zi xi), some (.inl (some b))]) (st' := []) (by decide +kernel) (fun k q => by cases q) rfl ?_
          refine y_same (i := .iload_n 2) (len := 1) (r := (0, 0, 0, 0)) (pc' := 48) (ls' := [some (.inl (some 28)), some (.inl (some a)), some (zi y3449), some (zi xk), some (zi xi), some (.inl (some b))]) (st' := [zi y3449]) (by decide +kernel) (fun k q => by cases q) rfl ?_
          refine y_iT (c := .eq) (off := 18) (pc' := 66) (len := 3) (r := (0, 0, 0, 0)) (by decide +kernel) (acmpT (c := .eq) (by show _ = _; omega)) (by decide +kernel) ?_
          refine y_same (i := .aload 5) (len := 2) (r := (0, 0, 0, 0)) (pc' := 68) (ls' := [some (.inl (some 28)), some (.inl (some a)), some (zi y3449), some (zi xk), some (zi xi), some (.inl (some b))]) (st' := [.inl (some b)]) (by decide +kernel) (fun k q => by cases q) rfl ?_
          refine y_get (j := 127) (len := 3) (r := (7, 5, 0, 20546)) (by decide +kernel) hg Qb.2.1.1 aw1008 rfl rfl hp5 ?_
          refine y_same (i := .istore_n 3) (len := 1) (r := (0, 0, 0, 0)) (pc' := 72) (ls' := [some (.inl (some 28)), some (.inl (some a)), some (zi y3449), some (zi xp), some (zi xi), some (.inl (some b))]) (st' := []) (by decide +kernel) (fun k q => by cases q) rfl ?_
          refine y_inc (j := 4) (a := xi) (c := 1) (ls' := fun v => [some (.inl (some 28)), some (.inl (some a)), some (zi y3449), some (zi xp), some v, some (.inl (some b))]) (len := 3) (r := (0, 0, 0, 0)) (by decide +kernel) rfl (fun _ => rfl) (by decide) (by omega) (by omega) (fun y3450 hy3450 => ?_)
          show qX (d + 7) 44 75 [some (.inl (some 28)), some (.inl (some a)), some (zi y3449), some (zi xp), some (zi y3450), some (.inl (some b))] [] h t _
          refine y_goto (off := (-65)) (pc' := 10) (len := 3) (r := (0, 0, 0, 0)) (by decide +kernel) (by decide +kernel) ?_
          have hk2 : e.2.2.2.2.2 = -1 ∨ ∃ (j9 : Nat) (e9 : enT), e.2.2.2.2.2 = (j9 : Int) ∧ L[j9]? = some e9 ∧ 3 ≤ e9.2.1 ∧ e9.2.1 ≤ 8 ∧ e9.2.2.2.2.1 ≤ n := (ch j e ke).elim (fun q => Or.inl q.1) (fun q => by obtain ⟨i9, e9, q1, q2, q3, q4, q5, q6⟩ := q; exact Or.inr ⟨i9, e9, q1, q3, q5, q6, by omega⟩)
          refine qX_I (ih h (i + 1) e.2.2.2.2.2 xp (g ∨ lst_ e) y3449 y3450 (some (.inl (some b))) hg (FN_tr F0 (fun k j h1 h2 => rfl)) (Or.inr ⟨by omega, fun q => q.elim pg by3444⟩) (by omega) hk2 (by omega) (by omega)) (fun y h1 hR => ?_)
          obtain ⟨r0, r1, ⟨r3, r2⟩ | ⟨r3, r2⟩⟩ := hR
          · exact ⟨r0, r1, Or.inl ⟨r3, cs.mpr (Or.inr r2)⟩⟩
          · exact ⟨r0, r1, Or.inr ⟨r3, fun q9 => (cs.mp q9).elim (fun q8 => (fun q => q.elim pg by3444) q8.1) r2⟩⟩
theorem e_fal {d t a : Nat} {τ : List Nat} {h0 : zh} {L : List enT} {x : sqT} {i : Int} (ha : 388 < a) (Qa0 : QC τ h0 a x) (pE0 : ∀ (k : Nat) (e : enT), L[k]? = some e → prE τ h0 29 k e) (hL : L.length ≤ 300) (wl : ∀ e ∈ L, wfE e) (ch : chI L) (c5 : kx_ h0 a 5 i) (hi : i = -1 ∨ ∃ (j : Nat) (e : enT), i = (j : Int) ∧ L[j]? = some e ∧ 3 ≤ e.2.1 ∧ e.2.1 ≤ 8) : qI (d + 8) 44 [some (.inl (some 28)), some (.inl (some a)), none, none, none, none] h0 t (fun y h1 => hG τ h1 ∧ FN h0 h1 ∧ ((y.toInt ≠ -1 ∧ cyP L i x) ∨ (y.toInt = -1 ∧ ¬ cyP L i x))) := by
  obtain ⟨xk, hk5, ek5⟩ := c5
  refine qI_of ?_
  refine y_ic (c := 0) (len := 1) (r := (0, 0, 0, 0)) (by decide +kernel) (by decide) (fun y3451 hy3451 => ?_)
  refine y_same (i := .istore_n 2) (len := 1) (r := (0, 0, 0, 0)) (pc' := 2) (ls' := [some (.inl (some 28)), some (.inl (some a)), some (zi y3451), none, none, none]) (st' := []) (by decide +kernel) (fun k q => by cases q) rfl ?_
  refine y_same (i := .aload_n 1) (len := 1) (r := (0, 0, 0, 0)) (pc' := 3) (ls' := [some (.inl (some 28)), some (.inl (some a)), some (zi y3451), none, none, none]) (st' := [.inl (some a)]) (by decide +kernel) (fun k q => by cases q) rfl ?_
  refine y_get (j := 127) (len := 3) (r := (7, 5, 0, 20546)) (by decide +kernel) Qa0.1 Qa0.2.1.1 aw1008 rfl rfl hk5 ?_
  refine y_same (i := .istore_n 3) (len := 1) (r := (0, 0, 0, 0)) (pc' := 7) (ls' := [some (.inl (some 28)), some (.inl (some a)), some (zi y3451), some (zi xk), none, none]) (st' := []) (by decide +kernel) (fun k q => by cases q) rfl ?_
  refine y_ic (c := 0) (len := 1) (r := (0, 0, 0, 0)) (by decide +kernel) (by decide) (fun y3452 hy3452 => ?_)
  refine y_same (i := .istore 4) (len := 2) (r := (0, 0, 0, 0)) (pc' := 10) (ls' := [some (.inl (some 28)), some (.inl (some a)), some (zi y3451), some (zi xk), some (zi y3452), none]) (st' := []) (by decide +kernel) (fun k q => by cases q) rfl ?_
  exact fal_l ha Qa0 pE0 hL wl ch 40 h0 0 i xk False y3451 y3452 none Qa0.1 (fun _ _ _ _ => rfl) (Or.inr ⟨by omega, id⟩) (by omega) (hi.elim Or.inl (fun q => by obtain ⟨j, e, q1, q2, q3, q4⟩ := q; have := (wl e (List.mem_of_getElem? q2)).2.2.1; exact Or.inr ⟨j, e, q1, q2, q3, q4, this⟩)) (by omega) (by omega)
