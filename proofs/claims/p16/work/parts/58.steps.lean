/-! the reference's steps, told exactly where rows stand side by side -/
def oF (C : Nat → Nat → Prop) (τ : List Nat) (h : zh) (τ1 : List Nat) (h1 : zh) : Prop := aup τ τ1 ∧ hG τ1 h1 ∧ ∀ k T j, τ[k]? = some T → C k j → hsl h1 k j = hsl h k j
theorem oF_refl {C : Nat → Nat → Prop} {τ : List Nat} {h : zh} (hg : hG τ h) : oF C τ h τ h := ⟨aup_refl _, hg, fun _ _ _ _ _ => rfl⟩
theorem oF_trans {C : Nat → Nat → Prop} {τ τ1 τ2 : List Nat} {h h1 h2 : zh} (a : oF C τ h τ1 h1) (b : oF C τ1 h1 τ2 h2) : oF C τ h τ2 h2 := ⟨aup_trans a.1 b.1, b.2.1, fun k T j hk hC => (b.2.2 k T j (a.1 _ _ hk) hC).trans (a.2.2 k T j hk hC)⟩
theorem oF_imp {C C' : Nat → Nat → Prop} {τ τ1 : List Nat} {h h1 : zh} (hi : ∀ k j, C' k j → C k j) (a : oF C τ h τ1 h1) : oF C' τ h τ1 h1 := ⟨a.1, a.2.1, fun k T j hk hC => a.2.2 k T j hk (hi k j hC)⟩
/-- a cell that is the only one of its type -/
theorem uq {τ : List Nat} {h : zh} {k T A : Nat} (hg : hG τ h) (hk : τ[k]? = some T) (hA : A < 1000) (hne : k ≠ A) : Nat.beq A T = false := by
  cases hb : Nat.beq A T with
  | false => rfl
  | true =>
    have e := Nat.eq_of_beq_eq_true hb
    subst e
    exact absurd ((hg.1.2.2.2 k A hk).1 hA) hne
theorem awc1 {a T lo hi j : Nat} {wl : aW} (h1 : Nat.beq a T = false) (h2 : awc wl T j = false) : awc ((a, lo, hi) :: wl) T j = false := by
  show ((Nat.beq a T && _) || awc wl T j) = false
  rw [h1, h2]
  rfl
theorem at70 : atyp 70 = some (.inl (5, 300, [(300, .inr (.inl (1012, false)))])) := rfl
theorem tu70 {τ : List Nat} {h : zh} (hg : hG τ h) : τ[70]? = some 70 := hg.1.2.2.1 _ _ atau_70
theorem atau_R : ∀ n, n < 300 → atau[71 + n]? = some 1012 := by decide +kernel
theorem tuR {τ : List Nat} {h : zh} {n : Nat} (hg : hG τ h) (hn : n < 300) : τ[71 + n]? = some 1012 := hg.1.2.2.1 _ _ (atau_R n hn)
theorem at53 : atyp 53 = some (.inl (0, 3, [(3, .inl ((-2147483648), 2147483647))])) := rfl
theorem atau_53 : atau[53]? = some 53 := by decide +kernel
theorem tu53 {τ : List Nat} {h : zh} (hg : hG τ h) : τ[53]? = some 53 := hg.1.2.2.1 _ _ atau_53
theorem at54 : atyp 54 = some (.inl (0, 200, [(200, .inl (0, 255))])) := rfl
theorem atau_54 : atau[54]? = some 54 := by decide +kernel
theorem tu54 {τ : List Nat} {h : zh} (hg : hG τ h) : τ[54]? = some 54 := hg.1.2.2.1 _ _ atau_54
theorem atau_55 : atau[55]? = some 55 := by decide +kernel
theorem tu55 {τ : List Nat} {h : zh} (hg : hG τ h) : τ[55]? = some 55 := hg.1.2.2.1 _ _ atau_55
theorem atau_56 : atau[56]? = some 56 := by decide +kernel
theorem tu56 {τ : List Nat} {h : zh} (hg : hG τ h) : τ[56]? = some 56 := hg.1.2.2.1 _ _ atau_56
theorem at68 : atyp 68 = some (.inl (0, 21, [(21, .inl ((-1), 20))])) := rfl
theorem atau_68 : atau[68]? = some 68 := by decide +kernel
theorem tu68 {τ : List Nat} {h : zh} (hg : hG τ h) : τ[68]? = some 68 := hg.1.2.2.1 _ _ atau_68
theorem at69 : atyp 69 = some (.inl (0, 21, [(21, .inl ((-1), 20))])) := rfl
theorem atau_69 : atau[69]? = some 69 := by decide +kernel
theorem tu69 {τ : List Nat} {h : zh} (hg : hG τ h) : τ[69]? = some 69 := hg.1.2.2.1 _ _ atau_69
theorem at371 : atyp 371 = some (.inl (0, 300, [(300, .inl ((-1), 299))])) := rfl
theorem atau_371 : atau[371]? = some 371 := by decide +kernel
theorem tu371 {τ : List Nat} {h : zh} (hg : hG τ h) : τ[371]? = some 371 := hg.1.2.2.1 _ _ atau_371
theorem at372 : atyp 372 = some (.inl (0, 300, [(300, .inl (0, 40))])) := rfl
theorem atau_372 : atau[372]? = some 372 := by decide +kernel
theorem tu372 {τ : List Nat} {h : zh} (hg : hG τ h) : τ[372]? = some 372 := hg.1.2.2.1 _ _ atau_372
theorem at373 : atyp 373 = some (.inl (0, 300, [(300, .inl (0, 9))])) := rfl
theorem atau_373 : atau[373]? = some 373 := by decide +kernel
theorem tu373 {τ : List Nat} {h : zh} (hg : hG τ h) : τ[373]? = some 373 := hg.1.2.2.1 _ _ atau_373
theorem at374 : atyp 374 = some (.inl (0, 300, [(300, .inl (0, 11))])) := rfl
theorem atau_374 : atau[374]? = some 374 := by decide +kernel
theorem tu374 {τ : List Nat} {h : zh} (hg : hG τ h) : τ[374]? = some 374 := hg.1.2.2.1 _ _ atau_374
theorem at375 : atyp 375 = some (.inl (0, 300, [(300, .inl (0, 11))])) := rfl
theorem atau_375 : atau[375]? = some 375 := by decide +kernel
theorem tu375 {τ : List Nat} {h : zh} (hg : hG τ h) : τ[375]? = some 375 := hg.1.2.2.1 _ _ atau_375
theorem at376 : atyp 376 = some (.inl (0, 300, [(300, .inl ((-1), 299))])) := rfl
theorem atau_376 : atau[376]? = some 376 := by decide +kernel
theorem tu376 {τ : List Nat} {h : zh} (hg : hG τ h) : τ[376]? = some 376 := hg.1.2.2.1 _ _ atau_376
theorem at377 : atyp 377 = some (.inl (0, 300, [(300, .inl (0, 299))])) := rfl
theorem atau_377 : atau[377]? = some 377 := by decide +kernel
theorem tu377 {τ : List Nat} {h : zh} (hg : hG τ h) : τ[377]? = some 377 := hg.1.2.2.1 _ _ atau_377
theorem atau_378 : atau[378]? = some 378 := by decide +kernel
theorem tu378 {τ : List Nat} {h : zh} (hg : hG τ h) : τ[378]? = some 378 := hg.1.2.2.1 _ _ atau_378
theorem at379 : atyp 379 = some (.inl (0, 600, [(600, .inl ((-1), 299))])) := rfl
theorem atau_379 : atau[379]? = some 379 := by decide +kernel
theorem tu379 {τ : List Nat} {h : zh} (hg : hG τ h) : τ[379]? = some 379 := hg.1.2.2.1 _ _ atau_379
theorem at380 : atyp 380 = some (.inl (0, 600, [(600, .inl (0, 1))])) := rfl
theorem atau_380 : atau[380]? = some 380 := by decide +kernel
theorem tu380 {τ : List Nat} {h : zh} (hg : hG τ h) : τ[380]? = some 380 := hg.1.2.2.1 _ _ atau_380
theorem at381 : atyp 381 = some (.inl (0, 6, [(6, .inl ((-1), 5))])) := rfl
theorem atau_381 : atau[381]? = some 381 := by decide +kernel
theorem tu381 {τ : List Nat} {h : zh} (hg : hG τ h) : τ[381]? = some 381 := hg.1.2.2.1 _ _ atau_381
theorem at382 : atyp 382 = some (.inl (0, 5, [(5, .inl (0, 3))])) := rfl
theorem atau_382 : atau[382]? = some 382 := by decide +kernel
theorem tu382 {τ : List Nat} {h : zh} (hg : hG τ h) : τ[382]? = some 382 := hg.1.2.2.1 _ _ atau_382
theorem at383 : atyp 383 = some (.inl (0, 32, [(32, .inl ((-1), 3))])) := rfl
theorem atau_383 : atau[383]? = some 383 := by decide +kernel
theorem tu383 {τ : List Nat} {h : zh} (hg : hG τ h) : τ[383]? = some 383 := hg.1.2.2.1 _ _ atau_383
theorem at384 : atyp 384 = some (.inl (0, 32, [(32, .inl (0, 31))])) := rfl
theorem atau_384 : atau[384]? = some 384 := by decide +kernel
theorem tu384 {τ : List Nat} {h : zh} (hg : hG τ h) : τ[384]? = some 384 := hg.1.2.2.1 _ _ atau_384
theorem at385 : atyp 385 = some (.inl (0, 32, [(32, .inl (0, 31))])) := rfl
theorem atau_385 : atau[385]? = some 385 := by decide +kernel
theorem tu385 {τ : List Nat} {h : zh} (hg : hG τ h) : τ[385]? = some 385 := hg.1.2.2.1 _ _ atau_385
theorem at387 : atyp 387 = some (.inl (0, 6, [(6, .inl ((-2147483648), 2147483647))])) := rfl
theorem atau_387 : atau[387]? = some 387 := by decide +kernel
theorem tu387 {τ : List Nat} {h : zh} (hg : hG τ h) : τ[387]? = some 387 := hg.1.2.2.1 _ _ atau_387
theorem e_isCell {d t : Nat} {h : zh} {x : Int32} : qI (d + 1) 204 [some (zi x)] h t (fun y h1 => h = h1 ∧ 0 ≤ y.toInt ∧ y.toInt ≤ 1) := by
  refine qI_of ?_
  refine y_same (i := .iload_n 0) (len := 1) (r := (0, 0, 0, 0)) (pc' := 1) (ls' := [some (zi x)]) (st' := [zi x]) (by decide +kernel) (fun k q => by cases q) rfl ?_
  rcases Decidable.em (x.toInt = 0) with q1 | q1
  ·
    refine y_iT (c := .eq) (off := 8) (pc' := 9) (len := 3) (r := (0, 0, 0, 0)) (by decide +kernel) (acmpT (c := .eq) (by show _ = _; omega)) (by decide +kernel) ?_
    refine y_ic (c := 1) (len := 1) (r := (0, 0, 0, 0)) (by decide +kernel) (by decide) (fun y2 hy2 => ?_)
    refine y_goto (off := 4) (pc' := 14) (len := 3) (r := (0, 0, 0, 0)) (by decide +kernel) (by decide +kernel) ?_
    refine y_rI (len := 1) (r := (0, 0, 0, 0)) (nL := 1) (k := 2) (n9 := 1) (hs := []) (by decide +kernel) rfl (zfit_b (by omega) (by omega)).2 ?_
    exact ⟨rfl, by omega, by omega⟩
  ·
    refine y_iF (c := .eq) (off := 8) (len := 3) (r := (0, 0, 0, 0)) (by decide +kernel) (acmpF (c := .eq) (by show ¬ (_ = _); omega)) ?_
    refine y_same (i := .iload_n 0) (len := 1) (r := (0, 0, 0, 0)) (pc' := 5) (ls' := [some (zi x)]) (st' := [zi x]) (by decide +kernel) (fun k q => by cases q) rfl ?_
    refine y_ic (c := 1) (len := 1) (r := (0, 0, 0, 0)) (by decide +kernel) (by decide) (fun y3 hy3 => ?_)
    rcases Decidable.em (x.toInt ≠ y3.toInt) with q4 | q4
    ·
      refine y_cT (c := .ne) (off := 7) (pc' := 13) (len := 3) (r := (0, 0, 0, 0)) (by decide +kernel) (acmpT (c := .ne) (by show ¬ (_ = _); omega)) (by decide +kernel) ?_
      refine y_ic (c := 0) (len := 1) (r := (0, 0, 0, 0)) (by decide +kernel) (by decide) (fun y5 hy5 => ?_)
      refine y_rI (len := 1) (r := (0, 0, 0, 0)) (nL := 1) (k := 2) (n9 := 1) (hs := []) (by decide +kernel) rfl (zfit_b (by omega) (by omega)).2 ?_
      exact ⟨rfl, by omega, by omega⟩
    ·
      refine y_cF (c := .ne) (off := 7) (len := 3) (r := (0, 0, 0, 0)) (by decide +kernel) (acmpF (c := .ne) (by show _ = _; omega)) ?_
      refine y_ic (c := 1) (len := 1) (r := (0, 0, 0, 0)) (by decide +kernel) (by decide) (fun y6 hy6 => ?_)
      refine y_goto (off := 4) (pc' := 14) (len := 3) (r := (0, 0, 0, 0)) (by decide +kernel) (by decide +kernel) ?_
      refine y_rI (len := 1) (r := (0, 0, 0, 0)) (nL := 1) (k := 2) (n9 := 1) (hs := []) (by decide +kernel) rfl (zfit_b (by omega) (by omega)).2 ?_
      exact ⟨rfl, by omega, by omega⟩
theorem cp_loop {d t n : Nat} {τ : List Nat} {xn : Int32} (hn9 : n < 300) (hxn : xn.toInt = 200) : ∀ (m : Nat) (h : zh), hG τ h → ∀ (k : Nat) (xk : Int32), xk.toInt = (k : Int) → k ≤ 200 → 200 ≤ k + m → (∀ j, j < 3 → ∀ x : Int32, hsl h 378 j = some (zi x) → x.toInt ≤ 12) → qX d 185 2 [some (.inl (some 378)), some (.inl (some (71 + n))), some (zi xn), some (zi xk)] [] h t (rV (fun h1 => hG τ h1 ∧ h1.length = h.length ∧ ∀ k j, k ≠ 71 + n → hsl h1 k j = hsl h k j) t) := by
  intro m
  induction m with
  | zero =>
    intro h hg k xk hxk hk hm hd
    ·
      refine y_same (i := .iload_n 3) (len := 1) (r := (0, 0, 0, 0)) (pc' := 3) (ls' := [some (.inl (some 378)), some (.inl (some ((71 + n)))), some (zi xn), some (zi xk)]) (st' := [zi xk]) (by decide +kernel) (fun k q => by cases q) rfl ?_
      refine y_same (i := .iload_n 2) (len := 1) (r := (0, 0, 0, 0)) (pc' := 4) (ls' := [some (.inl (some 378)), some (.inl (some ((71 + n)))), some (zi xn), some (zi xk)]) (st' := [zi xn, zi xk]) (by decide +kernel) (fun k q => by cases q) rfl ?_
      refine y_cT (c := .ge) (off := 15) (pc' := 19) (len := 3) (r := (0, 0, 0, 0)) (by decide +kernel) (acmpT (c := .ge) (by show _ ≤ _; omega)) (by decide +kernel) ?_
      refine y_rV (len := 1) (r := (0, 0, 0, 0)) (nL := 4) (n9 := 3) (hs := []) (by decide +kernel) rfl ?_
      exact ⟨hg, rfl, fun _ _ _ => rfl⟩
  | succ m ih =>
    intro h hg k xk hxk hk hm hd
    rcases Nat.lt_or_ge k 200 with q | q
    · rcases (show k < 3 ∨ (3 ≤ k ∧ k < 24) ∨ 24 ≤ k by omega) with r | r | r
      ·
        refine y_same (i := .iload_n 3) (len := 1) (r := (0, 0, 0, 0)) (pc' := 3) (ls' := [some (.inl (some 378)), some (.inl (some ((71 + n)))), some (zi xn), some (zi xk)]) (st' := [zi xk]) (by decide +kernel) (fun k q => by cases q) rfl ?_
        refine y_same (i := .iload_n 2) (len := 1) (r := (0, 0, 0, 0)) (pc' := 4) (ls' := [some (.inl (some 378)), some (.inl (some ((71 + n)))), some (zi xn), some (zi xk)]) (st' := [zi xn, zi xk]) (by decide +kernel) (fun k q => by cases q) rfl ?_
        refine y_cF (c := .ge) (off := 15) (len := 3) (r := (0, 0, 0, 0)) (by decide +kernel) (acmpF (c := .ge) (by show _ < _; omega)) ?_
        refine y_same (i := .aload_n 1) (len := 1) (r := (0, 0, 0, 0)) (pc' := 8) (ls' := [some (.inl (some 378)), some (.inl (some ((71 + n)))), some (zi xn), some (zi xk)]) (st' := [.inl (some ((71 + n)))]) (by decide +kernel) (fun k q => by cases q) rfl ?_
        refine y_same (i := .iload_n 3) (len := 1) (r := (0, 0, 0, 0)) (pc' := 9) (ls' := [some (.inl (some 378)), some (.inl (some ((71 + n)))), some (zi xn), some (zi xk)]) (st' := [zi xk, .inl (some ((71 + n)))]) (by decide +kernel) (fun k q => by cases q) rfl ?_
        refine y_same (i := .aload_n 0) (len := 1) (r := (0, 0, 0, 0)) (pc' := 10) (ls' := [some (.inl (some 378)), some (.inl (some ((71 + n)))), some (zi xn), some (zi xk)]) (st' := [.inl (some 378), zi xk, .inl (some ((71 + n)))]) (by decide +kernel) (fun k q => by cases q) rfl ?_
        refine y_same (i := .iload_n 3) (len := 1) (r := (0, 0, 0, 0)) (pc' := 11) (ls' := [some (.inl (some 378)), some (.inl (some ((71 + n)))), some (zi xn), some (zi xk)]) (st' := [zi xk, .inl (some 378), zi xk, .inl (some ((71 + n)))]) (by decide +kernel) (fun k q => by cases q) rfl ?_
        obtain ⟨v7, hv8, lv7, uv7⟩ := g_int (i := k) hg (tu378 hg) at378 (show k < 200 by omega) (srA (by omega))
        refine y_ial (i := k) (len := 1) (r := (0, 0, 0, 0)) (by decide +kernel) hg (tu378 hg) at378 (by omega) hv8 ?_
        have hb := hd k (by omega) _ hv8
        refine y_ias (i := k) (len := 1) (r := (0, 0, 0, 0)) (by decide +kernel) hg (tuR hg (by omega)) at1012 rfl (by omega) (by omega) (srA (by omega)) (by omega) (by omega) (fun h9 hg9 hl9 hs9 ho9 => ?_)
        refine y_inc (j := 3) (a := xk) (c := 1) (ls' := fun v => [some (.inl (some 378)), some (.inl (some ((71 + n)))), some (zi xn), some v]) (len := 3) (r := (0, 0, 0, 0)) (by decide +kernel) rfl (fun _ => rfl) (by decide) (by omega) (by omega) (fun y10 hy10 => ?_)
        show qX d 185 16 [some (.inl (some 378)), some (.inl (some ((71 + n)))), some (zi xn), some (zi y10)] [] h9 t _
        refine y_goto (off := (-14)) (pc' := 2) (len := 3) (r := (0, 0, 0, 0)) (by decide +kernel) (by decide +kernel) ?_
        refine qX_V (ih h9 hg9 (k + 1) y10 (by omega) (by omega) (by omega) (fun j hj x hx => hd j hj x ((ho9 378 j (Or.inl (by omega))).symm.trans hx))) (fun h1 hR1 => ?_)
        exact ⟨hR1.1, hR1.2.1.trans hl9, fun k j hk => (hR1.2.2 k j hk).trans (ho9 k j (Or.inl hk))⟩
      ·
        refine y_same (i := .iload_n 3) (len := 1) (r := (0, 0, 0, 0)) (pc' := 3) (ls' := [some (.inl (some 378)), some (.inl (some ((71 + n)))), some (zi xn), some (zi xk)]) (st' := [zi xk]) (by decide +kernel) (fun k q => by cases q) rfl ?_
        refine y_same (i := .iload_n 2) (len := 1) (r := (0, 0, 0, 0)) (pc' := 4) (ls' := [some (.inl (some 378)), some (.inl (some ((71 + n)))), some (zi xn), some (zi xk)]) (st' := [zi xn, zi xk]) (by decide +kernel) (fun k q => by cases q) rfl ?_
        refine y_cF (c := .ge) (off := 15) (len := 3) (r := (0, 0, 0, 0)) (by decide +kernel) (acmpF (c := .ge) (by show _ < _; omega)) ?_
        refine y_same (i := .aload_n 1) (len := 1) (r := (0, 0, 0, 0)) (pc' := 8) (ls' := [some (.inl (some 378)), some (.inl (some ((71 + n)))), some (zi xn), some (zi xk)]) (st' := [.inl (some ((71 + n)))]) (by decide +kernel) (fun k q => by cases q) rfl ?_
        refine y_same (i := .iload_n 3) (len := 1) (r := (0, 0, 0, 0)) (pc' := 9) (ls' := [some (.inl (some 378)), some (.inl (some ((71 + n)))), some (zi xn), some (zi xk)]) (st' := [zi xk, .inl (some ((71 + n)))]) (by decide +kernel) (fun k q => by cases q) rfl ?_
        refine y_same (i := .aload_n 0) (len := 1) (r := (0, 0, 0, 0)) (pc' := 10) (ls' := [some (.inl (some 378)), some (.inl (some ((71 + n)))), some (zi xn), some (zi xk)]) (st' := [.inl (some 378), zi xk, .inl (some ((71 + n)))]) (by decide +kernel) (fun k q => by cases q) rfl ?_
        refine y_same (i := .iload_n 3) (len := 1) (r := (0, 0, 0, 0)) (pc' := 11) (ls' := [some (.inl (some 378)), some (.inl (some ((71 + n)))), some (zi xn), some (zi xk)]) (st' := [zi xk, .inl (some 378), zi xk, .inl (some ((71 + n)))]) (by decide +kernel) (fun k q => by cases q) rfl ?_
        obtain ⟨v11, hv12, lv11, uv11⟩ := g_int (i := k) hg (tu378 hg) at378 (show k < 200 by omega) (srB (by omega) (by omega))
        refine y_ial (i := k) (len := 1) (r := (0, 0, 0, 0)) (by decide +kernel) hg (tu378 hg) at378 (by omega) hv12 ?_
        refine y_ias (i := k) (len := 1) (r := (0, 0, 0, 0)) (by decide +kernel) hg (tuR hg (by omega)) at1012 rfl (by omega) (by omega) (srB (by omega) (by omega)) (qin_full _).1 (qin_full _).2 (fun h13 hg13 hl13 hs13 ho13 => ?_)
        refine y_inc (j := 3) (a := xk) (c := 1) (ls' := fun v => [some (.inl (some 378)), some (.inl (some ((71 + n)))), some (zi xn), some v]) (len := 3) (r := (0, 0, 0, 0)) (by decide +kernel) rfl (fun _ => rfl) (by decide) (by omega) (by omega) (fun y14 hy14 => ?_)
        show qX d 185 16 [some (.inl (some 378)), some (.inl (some ((71 + n)))), some (zi xn), some (zi y14)] [] h13 t _
        refine y_goto (off := (-14)) (pc' := 2) (len := 3) (r := (0, 0, 0, 0)) (by decide +kernel) (by decide +kernel) ?_
        refine qX_V (ih h13 hg13 (k + 1) y14 (by omega) (by omega) (by omega) (fun j hj x hx => hd j hj x ((ho13 378 j (Or.inl (by omega))).symm.trans hx))) (fun h1 hR1 => ?_)
        exact ⟨hR1.1, hR1.2.1.trans hl13, fun k j hk => (hR1.2.2 k j hk).trans (ho13 k j (Or.inl hk))⟩
      ·
        refine y_same (i := .iload_n 3) (len := 1) (r := (0, 0, 0, 0)) (pc' := 3) (ls' := [some (.inl (some 378)), some (.inl (some ((71 + n)))), some (zi xn), some (zi xk)]) (st' := [zi xk]) (by decide +kernel) (fun k q => by cases q) rfl ?_
        refine y_same (i := .iload_n 2) (len := 1) (r := (0, 0, 0, 0)) (pc' := 4) (ls' := [some (.inl (some 378)), some (.inl (some ((71 + n)))), some (zi xn), some (zi xk)]) (st' := [zi xn, zi xk]) (by decide +kernel) (fun k q => by cases q) rfl ?_
        refine y_cF (c := .ge) (off := 15) (len := 3) (r := (0, 0, 0, 0)) (by decide +kernel) (acmpF (c := .ge) (by show _ < _; omega)) ?_
        refine y_same (i := .aload_n 1) (len := 1) (r := (0, 0, 0, 0)) (pc' := 8) (ls' := [some (.inl (some 378)), some (.inl (some ((71 + n)))), some (zi xn), some (zi xk)]) (st' := [.inl (some ((71 + n)))]) (by decide +kernel) (fun k q => by cases q) rfl ?_
        refine y_same (i := .iload_n 3) (len := 1) (r := (0, 0, 0, 0)) (pc' := 9) (ls' := [some (.inl (some 378)), some (.inl (some ((71 + n)))), some (zi xn), some (zi xk)]) (st' := [zi xk, .inl (some ((71 + n)))]) (by decide +kernel) (fun k q => by cases q) rfl ?_
        refine y_same (i := .aload_n 0) (len := 1) (r := (0, 0, 0, 0)) (pc' := 10) (ls' := [some (.inl (some 378)), some (.inl (some ((71 + n)))), some (zi xn), some (zi xk)]) (st' := [.inl (some 378), zi xk, .inl (some ((71 + n)))]) (by decide +kernel) (fun k q => by cases q) rfl ?_
        refine y_same (i := .iload_n 3) (len := 1) (r := (0, 0, 0, 0)) (pc' := 11) (ls' := [some (.inl (some 378)), some (.inl (some ((71 + n)))), some (zi xn), some (zi xk)]) (st' := [zi xk, .inl (some 378), zi xk, .inl (some ((71 + n)))]) (by decide +kernel) (fun k q => by cases q) rfl ?_
        obtain ⟨v15, hv16, lv15, uv15⟩ := g_int (i := k) hg (tu378 hg) at378 (show k < 200 by omega) (srC (by omega) (by omega))
        refine y_ial (i := k) (len := 1) (r := (0, 0, 0, 0)) (by decide +kernel) hg (tu378 hg) at378 (by omega) hv16 ?_
        refine y_ias (i := k) (len := 1) (r := (0, 0, 0, 0)) (by decide +kernel) hg (tuR hg (by omega)) at1012 rfl (by omega) (by omega) (srC (by omega) (by omega)) (by omega) (by omega) (fun h17 hg17 hl17 hs17 ho17 => ?_)
        refine y_inc (j := 3) (a := xk) (c := 1) (ls' := fun v => [some (.inl (some 378)), some (.inl (some ((71 + n)))), some (zi xn), some v]) (len := 3) (r := (0, 0, 0, 0)) (by decide +kernel) rfl (fun _ => rfl) (by decide) (by omega) (by omega) (fun y18 hy18 => ?_)
        show qX d 185 16 [some (.inl (some 378)), some (.inl (some ((71 + n)))), some (zi xn), some (zi y18)] [] h17 t _
        refine y_goto (off := (-14)) (pc' := 2) (len := 3) (r := (0, 0, 0, 0)) (by decide +kernel) (by decide +kernel) ?_
        refine qX_V (ih h17 hg17 (k + 1) y18 (by omega) (by omega) (by omega) (fun j hj x hx => hd j hj x ((ho17 378 j (Or.inl (by omega))).symm.trans hx))) (fun h1 hR1 => ?_)
        exact ⟨hR1.1, hR1.2.1.trans hl17, fun k j hk => (hR1.2.2 k j hk).trans (ho17 k j (Or.inl hk))⟩
    ·
      refine y_same (i := .iload_n 3) (len := 1) (r := (0, 0, 0, 0)) (pc' := 3) (ls' := [some (.inl (some 378)), some (.inl (some ((71 + n)))), some (zi xn), some (zi xk)]) (st' := [zi xk]) (by decide +kernel) (fun k q => by cases q) rfl ?_
      refine y_same (i := .iload_n 2) (len := 1) (r := (0, 0, 0, 0)) (pc' := 4) (ls' := [some (.inl (some 378)), some (.inl (some ((71 + n)))), some (zi xn), some (zi xk)]) (st' := [zi xn, zi xk]) (by decide +kernel) (fun k q => by cases q) rfl ?_
      refine y_cT (c := .ge) (off := 15) (pc' := 19) (len := 3) (r := (0, 0, 0, 0)) (by decide +kernel) (acmpT (c := .ge) (by show _ ≤ _; omega)) (by decide +kernel) ?_
      refine y_rV (len := 1) (r := (0, 0, 0, 0)) (nL := 4) (n9 := 3) (hs := []) (by decide +kernel) rfl ?_
      exact ⟨hg, rfl, fun _ _ _ => rfl⟩
theorem e_copies {d t n : Nat} {τ : List Nat} {h : zh} {xn : Int32} (hg : hG τ h) (hn9 : n < 300) (hxn : xn.toInt = 200) (hd : ∀ j, j < 3 → ∀ x : Int32, hsl h 378 j = some (zi x) → x.toInt ≤ 12) : qV (d + 1) 185 [some (.inl (some 378)), some (.inl (some (71 + n))), some (zi xn), none] h t (fun h1 => hG τ h1 ∧ h1.length = h.length ∧ ∀ k j, k ≠ 71 + n → hsl h1 k j = hsl h k j) := by
  refine qV_of ?_
  refine y_ic (c := 0) (len := 1) (r := (0, 0, 0, 0)) (by decide +kernel) (by decide) (fun y19 hy19 => ?_)
  refine y_same (i := .istore_n 3) (len := 1) (r := (0, 0, 0, 0)) (pc' := 2) (ls' := [some (.inl (some 378)), some (.inl (some ((71 + n)))), some (zi xn), some (zi y19)]) (st' := []) (by decide +kernel) (fun k q => by cases q) rfl ?_
  exact cp_loop hn9 hxn 200 h hg 0 y19 (by omega) (by omega) (by omega) hd
/-- the parts of a step are there -/
def stR (h : zh) (n : Nat) : Prop := ∃ xr c1 : Int32, hsl h 374 n = some (zi xr) ∧ hsl h (71 + n) 1 = some (zi c1) ∧ xr.toInt < c1.toInt
def stL (h : zh) (n : Nat) : Prop := ∃ xl c0 : Int32, hsl h 375 n = some (zi xl) ∧ hsl h (71 + n) 0 = some (zi c0) ∧ xl.toInt < c0.toInt
def fiC (n : Nat) (k j : Nat) : Prop := (k ≠ 374 ∧ k ≠ 375) ∨ j ≠ n
def fiR (τ : List Nat) (n : Nat) (h : zh) (y : Int32) (h1 : zh) : Prop := 0 ≤ y.toInt ∧ y.toInt ≤ 1 ∧ ∃ τ1, oF (fun k j => (k ≠ 374 ∧ k ≠ 375) ∨ j ≠ n) τ h τ1 h1 ∧ (y.toInt ≠ 0 → stR h1 n ∧ stL h1 n)
theorem fi_i {τ0 : List Nat} {h0 : zh} {n t : Nat} (hC : ∀ (mk : Nat) (c' : aK), c' ∈ actb mk → c'.2.2.1 ≤ 8 → cOK aJ mk c') (hn9 : n < 300) {xk xw x1 x0 : Int32} {m1 m0 : Nat} (hxk : xk.toInt = (n : Int)) (hw1 : 3 ≤ xw.toInt) (hw2 : xw.toInt ≤ 7) (hx1 : x1.toInt = (m1 : Int)) (hx0 : x0.toInt = (m0 : Int)) (hm1 : m1 ≤ 12) (hm0 : m0 ≤ 12) {r : Nat} {xr : Int32} (hxr : xr.toInt = (r : Int)) (hr : r < m1) (kk : ∀ (τ : List Nat) (h : zh) (xl : Int32), oF (fun k j => (k ≠ 374 ∧ k ≠ 375) ∨ j ≠ n) τ0 h0 τ h → hsl h (71 + n) 1 = some (zi x1) → hsl h (71 + n) 0 = some (zi x0) → qX 9 234 74 [some (.inl (some 52)), some (zi xk), some (zi xw), some (.inl (some (71 + n))), some (zi xr), some (zi xl)] [] h t (rI (fiR τ0 n h0) t)) : ∀ (m : Nat) (τ : List Nat) (h : zh), oF (fun k j => (k ≠ 374 ∧ k ≠ 375) ∨ j ≠ n) τ0 h0 τ h → ∀ (l : Nat) (xl : Int32), xl.toInt = (l : Int) → l ≤ m0 → m0 ≤ l + m → hsl h (71 + n) 1 = some (zi x1) → hsl h (71 + n) 0 = some (zi x0) → qX 9 234 21 [some (.inl (some 52)), some (zi xk), some (zi xw), some (.inl (some (71 + n))), some (zi xr), some (zi xl)] [] h t (rI (fiR τ0 n h0) t) := by
  intro m
  induction m with
  | zero =>
    intro τ h O0 l xl hxl hl hm h1 h0
    have hg := O0.2.1
    refine y_same (i := .iload 5) (len := 2) (r := (0, 0, 0, 0)) (pc' := 23) (ls' := [some (.inl (some 52)), some (zi xk), some (zi xw), some (.inl (some ((71 + n)))), some (zi xr), some (zi xl)]) (st' := [zi xl]) (by decide +kernel) (fun k q => by cases q) rfl ?_
    refine y_same (i := .aload_n 3) (len := 1) (r := (0, 0, 0, 0)) (pc' := 24) (ls' := [some (.inl (some 52)), some (zi xk), some (zi xw), some (.inl (some ((71 + n)))), some (zi xr), some (zi xl)]) (st' := [.inl (some ((71 + n))), zi xl]) (by decide +kernel) (fun k q => by cases q) rfl ?_
    refine y_ic (c := 0) (len := 1) (r := (0, 0, 0, 0)) (by decide +kernel) (by decide) (fun y20 hy20 => ?_)
    refine y_ial (i := 0) (len := 1) (r := (0, 0, 0, 0)) (by decide +kernel) hg (tuR hg (by omega)) at1012 (by omega) h0 ?_
    refine y_cT (c := .ge) (off := 48) (pc' := 74) (len := 3) (r := (0, 0, 0, 0)) (by decide +kernel) (acmpT (c := .ge) (by show _ ≤ _; omega)) (by decide +kernel) ?_
    exact kk τ h xl (O0) h1 h0
  | succ m ih =>
    intro τ h O0 l xl hxl hl hm h1 h0
    have hg := O0.2.1
    refine y_same (i := .iload 5) (len := 2) (r := (0, 0, 0, 0)) (pc' := 23) (ls' := [some (.inl (some 52)), some (zi xk), some (zi xw), some (.inl (some ((71 + n)))), some (zi xr), some (zi xl)]) (st' := [zi xl]) (by decide +kernel) (fun k q => by cases q) rfl ?_
    refine y_same (i := .aload_n 3) (len := 1) (r := (0, 0, 0, 0)) (pc' := 24) (ls' := [some (.inl (some 52)), some (zi xk), some (zi xw), some (.inl (some ((71 + n)))), some (zi xr), some (zi xl)]) (st' := [.inl (some ((71 + n))), zi xl]) (by decide +kernel) (fun k q => by cases q) rfl ?_
    refine y_ic (c := 0) (len := 1) (r := (0, 0, 0, 0)) (by decide +kernel) (by decide) (fun y21 hy21 => ?_)
    refine y_ial (i := 0) (len := 1) (r := (0, 0, 0, 0)) (by decide +kernel) hg (tuR hg (by omega)) at1012 (by omega) h0 ?_
    rcases Decidable.em (xl.toInt ≥ x0.toInt) with q22 | q22
    ·
      refine y_cT (c := .ge) (off := 48) (pc' := 74) (len := 3) (r := (0, 0, 0, 0)) (by decide +kernel) (acmpT (c := .ge) (by show _ ≤ _; omega)) (by decide +kernel) ?_
      exact kk τ h xl (O0) h1 h0
    ·
      refine y_cF (c := .ge) (off := 48) (len := 3) (r := (0, 0, 0, 0)) (by decide +kernel) (acmpF (c := .ge) (by show _ < _; omega)) ?_
      refine y_same (i := .aload_n 3) (len := 1) (r := (0, 0, 0, 0)) (pc' := 30) (ls' := [some (.inl (some 52)), some (zi xk), some (zi xw), some (.inl (some ((71 + n)))), some (zi xr), some (zi xl)]) (st' := [.inl (some ((71 + n)))]) (by decide +kernel) (fun k q => by cases q) rfl ?_
      refine y_same (i := .iload_n 2) (len := 1) (r := (0, 0, 0, 0)) (pc' := 31) (ls' := [some (.inl (some 52)), some (zi xk), some (zi xw), some (.inl (some ((71 + n)))), some (zi xr), some (zi xl)]) (st' := [zi xw, .inl (some ((71 + n)))]) (by decide +kernel) (fun k q => by cases q) rfl ?_
      refine y_same (i := .iload 4) (len := 2) (r := (0, 0, 0, 0)) (pc' := 33) (ls' := [some (.inl (some 52)), some (zi xk), some (zi xw), some (.inl (some ((71 + n)))), some (zi xr), some (zi xl)]) (st' := [zi xr, zi xw, .inl (some ((71 + n)))]) (by decide +kernel) (fun k q => by cases q) rfl ?_
      refine y_cI (i := .invokestatic 256) (len := 3) (r := (1, 198, 12, 1651)) (nL := 1) (k := 1) (n := 1) (hs := []) (args := [zi xr]) (rest := [zi xw, .inl (some ((71 + n)))]) (l0 := [some (zi xr)]) (by decide +kernel) (Or.inl ⟨_, rfl⟩) rfl rfl rfl rfl (Nat.le_of_ble_eq_true rfl) rfl rfl (e_rightAt (by omega) (by omega)) (fun y23 qy23 hRy23 => ?_)
      obtain ⟨rfl, hy23⟩ := hRy23
      refine y_same (i := .iload 5) (len := 2) (r := (0, 0, 0, 0)) (pc' := 38) (ls' := [some (.inl (some 52)), some (zi xk), some (zi xw), some (.inl (some ((71 + n)))), some (zi xr), some (zi xl)]) (st' := [zi xl, zi y23, zi xw, .inl (some ((71 + n)))]) (by decide +kernel) (fun k q => by cases q) rfl ?_
      refine y_cI (i := .invokestatic 249) (len := 3) (r := (1, 197, 12, 1644)) (nL := 1) (k := 1) (n := 1) (hs := []) (args := [zi xl]) (rest := [zi y23, zi xw, .inl (some ((71 + n)))]) (l0 := [some (zi xl)]) (by decide +kernel) (Or.inl ⟨_, rfl⟩) rfl rfl rfl rfl (Nat.le_of_ble_eq_true rfl) rfl rfl (e_leftAt (by omega) (by omega)) (fun y24 qy24 hRy24 => ?_)
      obtain ⟨rfl, hy24⟩ := hRy24
      refine y_cI (i := .invokestatic 378) (len := 3) (r := (1, 235, 12, 1764)) (nL := 6) (k := 2) (n := 4) (hs := []) (args := [.inl (some ((71 + n))), zi xw, zi y23, zi y24]) (rest := []) (l0 := [some (.inl (some ((71 + n)))), some (zi xw), some (zi y23), some (zi y24), none, none]) (by decide +kernel) (Or.inl ⟨_, rfl⟩) rfl rfl rfl rfl (Nat.le_of_ble_eq_true rfl) rfl rfl (use_I (τ := τ) 0 1 (hC 235 ac273 List.mem_cons_self (by decide)) rfl hg (show aqsM _ _ [.inl (some ((71 + n))), zi xw, zi y23, zi y24] from ⟨aqR (tuR hg (by omega)), aqI (by omega) (by omega), aqI (by omega) (by omega), aqI (by omega) (by omega), trivial⟩) rfl (by decide +kernel) (by decide)) (fun y25 h25 hRy25 => ?_)
      obtain ⟨ly25, uy25, τ25, hu25, hg25, hF25⟩ := hRy25
      have O25 : oF (fun _ _ => True) τ h τ25 h25 := ⟨hu25, hg25, fun k T j hk _ => hF25 k T j hk rfl⟩
      rcases Decidable.em (y25.toInt ≠ 0) with q26 | q26
      ·
        refine y_iT (c := .ne) (off := 6) (pc' := 50) (len := 3) (r := (0, 0, 0, 0)) (by decide +kernel) (acmpT (c := .ne) (by show ¬ (_ = _); omega)) (by decide +kernel) ?_
        refine y_same (i := .aload_n 0) (len := 1) (r := (0, 0, 0, 0)) (pc' := 51) (ls' := [some (.inl (some 52)), some (zi xk), some (zi xw), some (.inl (some ((71 + n)))), some (zi xr), some (zi xl)]) (st' := [.inl (some 52)]) (by decide +kernel) (fun k q => by cases q) rfl ?_
        refine y_get (j := 49) (len := 3) (r := (12, 19, 2, 1347)) (by decide +kernel) O25.2.1 (t52 O25.2.1) at52 rfl rfl (g_r52 (f := 19) (T2 := 374) O25.2.1 rfl (by decide)).1 ?_
        refine y_same (i := .iload_n 1) (len := 1) (r := (0, 0, 0, 0)) (pc' := 55) (ls' := [some (.inl (some 52)), some (zi xk), some (zi xw), some (.inl (some ((71 + n)))), some (zi xr), some (zi xl)]) (st' := [zi xk, .inl (some 374)]) (by decide +kernel) (fun k q => by cases q) rfl ?_
        refine y_same (i := .iload 4) (len := 2) (r := (0, 0, 0, 0)) (pc' := 57) (ls' := [some (.inl (some 52)), some (zi xk), some (zi xw), some (.inl (some ((71 + n)))), some (zi xr), some (zi xl)]) (st' := [zi xr, zi xk, .inl (some 374)]) (by decide +kernel) (fun k q => by cases q) rfl ?_
        refine y_ias (i := n) (len := 1) (r := (0, 0, 0, 0)) (by decide +kernel) O25.2.1 (tu374 O25.2.1) at374 rfl (by omega) (by omega) (sr1 (by omega)) (by omega) (by omega) (fun h27 hg27 hl27 hs27 ho27 => ?_)
        refine y_same (i := .aload_n 0) (len := 1) (r := (0, 0, 0, 0)) (pc' := 59) (ls' := [some (.inl (some 52)), some (zi xk), some (zi xw), some (.inl (some ((71 + n)))), some (zi xr), some (zi xl)]) (st' := [.inl (some 52)]) (by decide +kernel) (fun k q => by cases q) rfl ?_
        refine y_get (j := 52) (len := 3) (r := (12, 20, 2, 1348)) (by decide +kernel) hg27 (t52 hg27) at52 rfl rfl (g_r52 (f := 20) (T2 := 375) hg27 rfl (by decide)).1 ?_
        refine y_same (i := .iload_n 1) (len := 1) (r := (0, 0, 0, 0)) (pc' := 63) (ls' := [some (.inl (some 52)), some (zi xk), some (zi xw), some (.inl (some ((71 + n)))), some (zi xr), some (zi xl)]) (st' := [zi xk, .inl (some 375)]) (by decide +kernel) (fun k q => by cases q) rfl ?_
        refine y_same (i := .iload 5) (len := 2) (r := (0, 0, 0, 0)) (pc' := 65) (ls' := [some (.inl (some 52)), some (zi xk), some (zi xw), some (.inl (some ((71 + n)))), some (zi xr), some (zi xl)]) (st' := [zi xl, zi xk, .inl (some 375)]) (by decide +kernel) (fun k q => by cases q) rfl ?_
        refine y_ias (i := n) (len := 1) (r := (0, 0, 0, 0)) (by decide +kernel) hg27 (tu375 hg27) at375 rfl (by omega) (by omega) (sr1 (by omega)) (by omega) (by omega) (fun h28 hg28 hl28 hs28 ho28 => ?_)
        refine y_ic (c := 1) (len := 1) (r := (0, 0, 0, 0)) (by decide +kernel) (by decide) (fun y29 hy29 => ?_)
        refine y_rI (len := 1) (r := (0, 0, 0, 0)) (nL := 6) (k := 2) (n9 := 3) (hs := []) (by decide +kernel) rfl (zfit_b (by omega) (by omega)).2 ?_
        have hv30 := (O25.2.2 (71 + n) 1012 1 (tuR hg (by omega)) (trivial)).trans h1
        have hv31 := (ho27 (71 + n) 1 (Or.inl (by omega))).trans hv30
        have hv32 := (ho28 (71 + n) 1 (Or.inl (by omega))).trans hv31
        have hv33 := (O25.2.2 (71 + n) 1012 0 (tuR hg (by omega)) (trivial)).trans h0
        have hv34 := (ho27 (71 + n) 0 (Or.inl (by omega))).trans hv33
        have hv35 := (ho28 (71 + n) 0 (Or.inl (by omega))).trans hv34
        have hv36 := (ho28 374 n (Or.inl (by omega))).trans hs27
        exact ⟨by omega, by omega, _, ⟨aup_trans O0.1 O25.1, hg28, fun k T j hk (hC : (k ≠ 374 ∧ k ≠ 375) ∨ j ≠ n) => (((ho28 k j (by omega)).trans ((ho27 k j (by omega)).trans (O25.2.2 k T j (O0.1 _ _ hk) (trivial))))).trans (O0.2.2 k T j hk hC)⟩, fun _ => ⟨⟨_, _, hv36, hv32, by omega⟩, ⟨_, _, hs28, hv35, by omega⟩⟩⟩
      ·
        refine y_iF (c := .ne) (off := 6) (len := 3) (r := (0, 0, 0, 0)) (by decide +kernel) (acmpF (c := .ne) (by show _ = _; omega)) ?_
        refine y_goto (off := 21) (pc' := 68) (len := 3) (r := (0, 0, 0, 0)) (by decide +kernel) (by decide +kernel) ?_
        refine y_inc (j := 5) (a := xl) (c := 1) (ls' := fun v => [some (.inl (some 52)), some (zi xk), some (zi xw), some (.inl (some ((71 + n)))), some (zi xr), some v]) (len := 3) (r := (0, 0, 0, 0)) (by decide +kernel) rfl (fun _ => rfl) (by decide) (by omega) (by omega) (fun y37 hy37 => ?_)
        show qX 9 234 71 [some (.inl (some 52)), some (zi xk), some (zi xw), some (.inl (some ((71 + n)))), some (zi xr), some (zi y37)] [] h25 t _
        refine y_goto (off := (-50)) (pc' := 21) (len := 3) (r := (0, 0, 0, 0)) (by decide +kernel) (by decide +kernel) ?_
        have hv38 := (O25.2.2 (71 + n) 1012 1 (tuR hg (by omega)) (trivial)).trans h1
        have hv39 := (O25.2.2 (71 + n) 1012 0 (tuR hg (by omega)) (trivial)).trans h0
        exact ih τ25 h25 ⟨aup_trans O0.1 O25.1, O25.2.1, fun k T j hk (hC : (k ≠ 374 ∧ k ≠ 375) ∨ j ≠ n) => ((O25.2.2 k T j (O0.1 _ _ hk) (trivial))).trans (O0.2.2 k T j hk hC)⟩ (l + 1) y37 (by omega) (by omega) (by omega) hv38 hv39
theorem fi_o {τ0 : List Nat} {h0 : zh} {n t : Nat} (hC : ∀ (mk : Nat) (c' : aK), c' ∈ actb mk → c'.2.2.1 ≤ 8 → cOK aJ mk c') (hn9 : n < 300) {xk xw x1 x0 : Int32} {m1 m0 : Nat} (hxk : xk.toInt = (n : Int)) (hw1 : 3 ≤ xw.toInt) (hw2 : xw.toInt ≤ 7) (hx1 : x1.toInt = (m1 : Int)) (hx0 : x0.toInt = (m0 : Int)) (hm1 : m1 ≤ 12) (hm0 : m0 ≤ 12) : ∀ (m : Nat) (τ : List Nat) (h : zh), oF (fun k j => (k ≠ 374 ∧ k ≠ 375) ∨ j ≠ n) τ0 h0 τ h → ∀ (r : Nat) (xr : Int32) (l5 : Option zv), xr.toInt = (r : Int) → r ≤ m1 → m1 ≤ r + m → hsl h (71 + n) 1 = some (zi x1) → hsl h (71 + n) 0 = some (zi x0) → qX 9 234 10 [some (.inl (some 52)), some (zi xk), some (zi xw), some (.inl (some (71 + n))), some (zi xr), l5] [] h t (rI (fiR τ0 n h0) t) := by
  intro m
  induction m with
  | zero =>
    intro τ h O0 r xr l5 hxr hr hm h1 h0
    have hg := O0.2.1
    refine y_same (i := .iload 4) (len := 2) (r := (0, 0, 0, 0)) (pc' := 12) (ls' := [some (.inl (some 52)), some (zi xk), some (zi xw), some (.inl (some ((71 + n)))), some (zi xr), l5]) (st' := [zi xr]) (by decide +kernel) (fun k q => by cases q) rfl ?_
    refine y_same (i := .aload_n 3) (len := 1) (r := (0, 0, 0, 0)) (pc' := 13) (ls' := [some (.inl (some 52)), some (zi xk), some (zi xw), some (.inl (some ((71 + n)))), some (zi xr), l5]) (st' := [.inl (some ((71 + n))), zi xr]) (by decide +kernel) (fun k q => by cases q) rfl ?_
    refine y_ic (c := 1) (len := 1) (r := (0, 0, 0, 0)) (by decide +kernel) (by decide) (fun y40 hy40 => ?_)
    refine y_ial (i := 1) (len := 1) (r := (0, 0, 0, 0)) (by decide +kernel) hg (tuR hg (by omega)) at1012 (by omega) h1 ?_
    refine y_cT (c := .ge) (off := 65) (pc' := 80) (len := 3) (r := (0, 0, 0, 0)) (by decide +kernel) (acmpT (c := .ge) (by show _ ≤ _; omega)) (by decide +kernel) ?_
    refine y_ic (c := 0) (len := 1) (r := (0, 0, 0, 0)) (by decide +kernel) (by decide) (fun y41 hy41 => ?_)
    refine y_rI (len := 1) (r := (0, 0, 0, 0)) (nL := 6) (k := 2) (n9 := 3) (hs := []) (by decide +kernel) rfl (zfit_b (by omega) (by omega)).2 ?_
    exact ⟨by omega, by omega, _, O0, fun h9 => absurd (by omega) h9⟩
  | succ m ih =>
    intro τ h O0 r xr l5 hxr hr hm h1 h0
    have hg := O0.2.1
    refine y_same (i := .iload 4) (len := 2) (r := (0, 0, 0, 0)) (pc' := 12) (ls' := [some (.inl (some 52)), some (zi xk), some (zi xw), some (.inl (some ((71 + n)))), some (zi xr), l5]) (st' := [zi xr]) (by decide +kernel) (fun k q => by cases q) rfl ?_
    refine y_same (i := .aload_n 3) (len := 1) (r := (0, 0, 0, 0)) (pc' := 13) (ls' := [some (.inl (some 52)), some (zi xk), some (zi xw), some (.inl (some ((71 + n)))), some (zi xr), l5]) (st' := [.inl (some ((71 + n))), zi xr]) (by decide +kernel) (fun k q => by cases q) rfl ?_
    refine y_ic (c := 1) (len := 1) (r := (0, 0, 0, 0)) (by decide +kernel) (by decide) (fun y42 hy42 => ?_)
    refine y_ial (i := 1) (len := 1) (r := (0, 0, 0, 0)) (by decide +kernel) hg (tuR hg (by omega)) at1012 (by omega) h1 ?_
    rcases Decidable.em (xr.toInt ≥ x1.toInt) with q43 | q43
    ·
      refine y_cT (c := .ge) (off := 65) (pc' := 80) (len := 3) (r := (0, 0, 0, 0)) (by decide +kernel) (acmpT (c := .ge) (by show _ ≤ _; omega)) (by decide +kernel) ?_
      refine y_ic (c := 0) (len := 1) (r := (0, 0, 0, 0)) (by decide +kernel) (by decide) (fun y44 hy44 => ?_)
      refine y_rI (len := 1) (r := (0, 0, 0, 0)) (nL := 6) (k := 2) (n9 := 3) (hs := []) (by decide +kernel) rfl (zfit_b (by omega) (by omega)).2 ?_
      exact ⟨by omega, by omega, _, O0, fun h9 => absurd (by omega) h9⟩
    ·
      refine y_cF (c := .ge) (off := 65) (len := 3) (r := (0, 0, 0, 0)) (by decide +kernel) (acmpF (c := .ge) (by show _ < _; omega)) ?_
      refine y_ic (c := 0) (len := 1) (r := (0, 0, 0, 0)) (by decide +kernel) (by decide) (fun y45 hy45 => ?_)
      refine y_same (i := .istore 5) (len := 2) (r := (0, 0, 0, 0)) (pc' := 21) (ls' := [some (.inl (some 52)), some (zi xk), some (zi xw), some (.inl (some ((71 + n)))), some (zi xr), some (zi y45)]) (st' := []) (by decide +kernel) (fun k q => by cases q) rfl ?_
      refine fi_i hC hn9 hxk hw1 hw2 hx1 hx0 hm1 hm0 hxr (by omega) (fun τb hb xl Ob hb1 hb0 => ?_) 12 τ h O0 0 y45 (by omega) (by omega) (by omega) h1 h0
      refine y_inc (j := 4) (a := xr) (c := 1) (ls' := fun v => [some (.inl (some 52)), some (zi xk), some (zi xw), some (.inl (some ((71 + n)))), some v, some (zi xl)]) (len := 3) (r := (0, 0, 0, 0)) (by decide +kernel) rfl (fun _ => rfl) (by decide) (by omega) (by omega) (fun y46 hy46 => ?_)
      show qX 9 234 77 [some (.inl (some 52)), some (zi xk), some (zi xw), some (.inl (some ((71 + n)))), some (zi y46), some (zi xl)] [] hb t _
      refine y_goto (off := (-67)) (pc' := 10) (len := 3) (r := (0, 0, 0, 0)) (by decide +kernel) (by decide +kernel) ?_
      exact ih τb hb Ob (r + 1) y46 _ (by omega) (by omega) (by omega) hb1 hb0
theorem e_finds {τ : List Nat} {h : zh} {n t : Nat} (hC : ∀ (mk : Nat) (c' : aK), c' ∈ actb mk → c'.2.2.1 ≤ 8 → cOK aJ mk c') {xk xw : Int32} (hg : hG τ h) (hn9 : n < 300) (hxk : xk.toInt = (n : Int)) (hw1 : 3 ≤ xw.toInt) (hw2 : xw.toInt ≤ 7) : qI 10 234 [some (.inl (some 52)), some (zi xk), some (zi xw), none, none, none] h t (fiR τ n h) := by
  refine qI_of ?_
  refine y_same (i := .aload_n 0) (len := 1) (r := (0, 0, 0, 0)) (pc' := 1) (ls' := [some (.inl (some 52)), some (zi xk), some (zi xw), none, none, none]) (st' := [.inl (some 52)]) (by decide +kernel) (fun k q => by cases q) rfl ?_
  refine y_get (j := 37) (len := 3) (r := (12, 15, 2, 1343)) (by decide +kernel) hg (t52 hg) at52 rfl rfl (g_r52 (f := 15) (T2 := 70) hg rfl (by decide)).1 ?_
  refine y_same (i := .iload_n 1) (len := 1) (r := (0, 0, 0, 0)) (pc' := 5) (ls' := [some (.inl (some 52)), some (zi xk), some (zi xw), none, none, none]) (st' := [zi xk, .inl (some 70)]) (by decide +kernel) (fun k q => by cases q) rfl ?_
  refine y_aal (i := n) (len := 1) (r := (0, 0, 0, 0)) (by decide +kernel) hg (tu70 hg) at70 rfl (by omega) (hg.2.2 n (by omega)) ?_
  refine y_same (i := .astore_n 3) (len := 1) (r := (0, 0, 0, 0)) (pc' := 7) (ls' := [some (.inl (some 52)), some (zi xk), some (zi xw), some (.inl (some ((71 + n)))), none, none]) (st' := []) (by decide +kernel) (fun k q => by cases q) rfl ?_
  refine y_ic (c := 0) (len := 1) (r := (0, 0, 0, 0)) (by decide +kernel) (by decide) (fun y47 hy47 => ?_)
  refine y_same (i := .istore 4) (len := 2) (r := (0, 0, 0, 0)) (pc' := 10) (ls' := [some (.inl (some 52)), some (zi xk), some (zi xw), some (.inl (some ((71 + n)))), some (zi y47), none]) (st' := []) (by decide +kernel) (fun k q => by cases q) rfl ?_
  obtain ⟨x1, h1, l1, u1⟩ := g_int (i := 1) hg (tuR hg hn9) at1012 (by decide) (srA (by decide))
  obtain ⟨x0, h0, l0, u0⟩ := g_int (i := 0) hg (tuR hg hn9) at1012 (by decide) (srA (by decide))
  exact fi_o (m1 := x1.toInt.toNat) (m0 := x0.toInt.toNat) hC hn9 hxk hw1 hw2 (by omega) (by omega) (by omega) (by omega) 12 τ h (oF_refl hg) 0 y47 _ (by omega) (by omega) (by omega) h1 h0
def emR (τ : List Nat) (n : Nat) (h : zh) (y : Int32) (h1 : zh) : Prop := 0 ≤ y.toInt ∧ y.toInt ≤ 1 ∧ ∃ τ1, oF (fun k j => (k ≠ 374 ∧ k ≠ 375) ∨ j ≠ n) τ h τ1 h1 ∧ (y.toInt ≠ 0 → stR h1 n)
theorem em_l {τ : List Nat} {h : zh} {n t m1 : Nat} {xk x1 : Int32} (hg : hG τ h) (hn9 : n < 300) (hxk : xk.toInt = (n : Int)) (h1 : hsl h (71 + n) 1 = some (zi x1)) (hx1 : x1.toInt = (m1 : Int)) (hm1 : m1 ≤ 12) : ∀ (m r : Nat) (xr : Int32), xr.toInt = (r : Int) → r ≤ m1 → m1 ≤ r + m → qX 9 236 2 [some (.inl (some 52)), some (zi xk), some (zi xr)] [] h t (rI (emR τ n h) t) := by
  intro m
  induction m with
  | zero =>
    intro r xr hxr hr hm
    refine y_same (i := .iload_n 2) (len := 1) (r := (0, 0, 0, 0)) (pc' := 3) (ls' := [some (.inl (some 52)), some (zi xk), some (zi xr)]) (st' := [zi xr]) (by decide +kernel) (fun k q => by cases q) rfl ?_
    refine y_same (i := .aload_n 0) (len := 1) (r := (0, 0, 0, 0)) (pc' := 4) (ls' := [some (.inl (some 52)), some (zi xk), some (zi xr)]) (st' := [.inl (some 52), zi xr]) (by decide +kernel) (fun k q => by cases q) rfl ?_
    refine y_get (j := 37) (len := 3) (r := (12, 15, 2, 1343)) (by decide +kernel) hg (t52 hg) at52 rfl rfl (g_r52 (f := 15) (T2 := 70) hg rfl (by decide)).1 ?_
    refine y_same (i := .iload_n 1) (len := 1) (r := (0, 0, 0, 0)) (pc' := 8) (ls' := [some (.inl (some 52)), some (zi xk), some (zi xr)]) (st' := [zi xk, .inl (some 70), zi xr]) (by decide +kernel) (fun k q => by cases q) rfl ?_
    refine y_aal (i := n) (len := 1) (r := (0, 0, 0, 0)) (by decide +kernel) hg (tu70 hg) at70 rfl (by omega) (hg.2.2 n (by omega)) ?_
    refine y_ic (c := 1) (len := 1) (r := (0, 0, 0, 0)) (by decide +kernel) (by decide) (fun y48 hy48 => ?_)
    refine y_ial (i := 1) (len := 1) (r := (0, 0, 0, 0)) (by decide +kernel) hg (tuR hg (by omega)) at1012 (by omega) h1 ?_
    refine y_cT (c := .ge) (off := 45) (pc' := 56) (len := 3) (r := (0, 0, 0, 0)) (by decide +kernel) (acmpT (c := .ge) (by show _ ≤ _; omega)) (by decide +kernel) ?_
    refine y_ic (c := 0) (len := 1) (r := (0, 0, 0, 0)) (by decide +kernel) (by decide) (fun y49 hy49 => ?_)
    refine y_rI (len := 1) (r := (0, 0, 0, 0)) (nL := 3) (k := 2) (n9 := 2) (hs := []) (by decide +kernel) rfl (zfit_b (by omega) (by omega)).2 ?_
    exact ⟨by omega, by omega, _, oF_refl hg, fun h9 => absurd (by omega) h9⟩
  | succ m ih =>
    intro r xr hxr hr hm
    refine y_same (i := .iload_n 2) (len := 1) (r := (0, 0, 0, 0)) (pc' := 3) (ls' := [some (.inl (some 52)), some (zi xk), some (zi xr)]) (st' := [zi xr]) (by decide +kernel) (fun k q => by cases q) rfl ?_
    refine y_same (i := .aload_n 0) (len := 1) (r := (0, 0, 0, 0)) (pc' := 4) (ls' := [some (.inl (some 52)), some (zi xk), some (zi xr)]) (st' := [.inl (some 52), zi xr]) (by decide +kernel) (fun k q => by cases q) rfl ?_
    refine y_get (j := 37) (len := 3) (r := (12, 15, 2, 1343)) (by decide +kernel) hg (t52 hg) at52 rfl rfl (g_r52 (f := 15) (T2 := 70) hg rfl (by decide)).1 ?_
    refine y_same (i := .iload_n 1) (len := 1) (r := (0, 0, 0, 0)) (pc' := 8) (ls' := [some (.inl (some 52)), some (zi xk), some (zi xr)]) (st' := [zi xk, .inl (some 70), zi xr]) (by decide +kernel) (fun k q => by cases q) rfl ?_
    refine y_aal (i := n) (len := 1) (r := (0, 0, 0, 0)) (by decide +kernel) hg (tu70 hg) at70 rfl (by omega) (hg.2.2 n (by omega)) ?_
    refine y_ic (c := 1) (len := 1) (r := (0, 0, 0, 0)) (by decide +kernel) (by decide) (fun y50 hy50 => ?_)
    refine y_ial (i := 1) (len := 1) (r := (0, 0, 0, 0)) (by decide +kernel) hg (tuR hg (by omega)) at1012 (by omega) h1 ?_
    rcases Decidable.em (xr.toInt ≥ x1.toInt) with q51 | q51
    ·
      refine y_cT (c := .ge) (off := 45) (pc' := 56) (len := 3) (r := (0, 0, 0, 0)) (by decide +kernel) (acmpT (c := .ge) (by show _ ≤ _; omega)) (by decide +kernel) ?_
      refine y_ic (c := 0) (len := 1) (r := (0, 0, 0, 0)) (by decide +kernel) (by decide) (fun y52 hy52 => ?_)
      refine y_rI (len := 1) (r := (0, 0, 0, 0)) (nL := 3) (k := 2) (n9 := 2) (hs := []) (by decide +kernel) rfl (zfit_b (by omega) (by omega)).2 ?_
      exact ⟨by omega, by omega, _, oF_refl hg, fun h9 => absurd (by omega) h9⟩
    ·
      refine y_cF (c := .ge) (off := 45) (len := 3) (r := (0, 0, 0, 0)) (by decide +kernel) (acmpF (c := .ge) (by show _ < _; omega)) ?_
      refine y_same (i := .aload_n 0) (len := 1) (r := (0, 0, 0, 0)) (pc' := 15) (ls' := [some (.inl (some 52)), some (zi xk), some (zi xr)]) (st' := [.inl (some 52)]) (by decide +kernel) (fun k q => by cases q) rfl ?_
      refine y_get (j := 37) (len := 3) (r := (12, 15, 2, 1343)) (by decide +kernel) hg (t52 hg) at52 rfl rfl (g_r52 (f := 15) (T2 := 70) hg rfl (by decide)).1 ?_
      refine y_same (i := .iload_n 1) (len := 1) (r := (0, 0, 0, 0)) (pc' := 19) (ls' := [some (.inl (some 52)), some (zi xk), some (zi xr)]) (st' := [zi xk, .inl (some 70)]) (by decide +kernel) (fun k q => by cases q) rfl ?_
      refine y_aal (i := n) (len := 1) (r := (0, 0, 0, 0)) (by decide +kernel) hg (tu70 hg) at70 rfl (by omega) (hg.2.2 n (by omega)) ?_
      refine y_same (i := .iload_n 2) (len := 1) (r := (0, 0, 0, 0)) (pc' := 21) (ls' := [some (.inl (some 52)), some (zi xk), some (zi xr)]) (st' := [zi xr, .inl (some ((71 + n)))]) (by decide +kernel) (fun k q => by cases q) rfl ?_
      refine y_cI (i := .invokestatic 256) (len := 3) (r := (1, 198, 12, 1651)) (nL := 1) (k := 1) (n := 1) (hs := []) (args := [zi xr]) (rest := [.inl (some ((71 + n)))]) (l0 := [some (zi xr)]) (by decide +kernel) (Or.inl ⟨_, rfl⟩) rfl rfl rfl rfl (Nat.le_of_ble_eq_true rfl) rfl rfl (e_rightAt (by omega) (by omega)) (fun y53 qy53 hRy53 => ?_)
      obtain ⟨rfl, hy53⟩ := hRy53
      obtain ⟨v54, hv55, lv54, uv54⟩ := g_int (i := (80 + 4 * r)) hg (tuR hg (by omega)) at1012 (show (80 + 4 * r) < 200 by omega) (srC (by omega) (by omega))
      refine y_ial (i := (80 + 4 * r)) (len := 1) (r := (0, 0, 0, 0)) (by decide +kernel) hg (tuR hg (by omega)) at1012 (by omega) hv55 ?_
      refine y_cI (i := .invokestatic 273) (len := 3) (r := (1, 204, 12, 1715)) (nL := 1) (k := 2) (n := 1) (hs := []) (args := [zi v54]) (rest := []) (l0 := [some (zi v54)]) (by decide +kernel) (Or.inl ⟨_, rfl⟩) rfl rfl rfl rfl (Nat.le_of_ble_eq_true rfl) rfl rfl e_isCell (fun y56 qy56 hRy56 => ?_)
      obtain ⟨rfl, hy56a, hy56b⟩ := hRy56
      rcases Decidable.em (y56.toInt = 0) with q57 | q57
      ·
        refine y_iT (c := .eq) (off := 6) (pc' := 34) (len := 3) (r := (0, 0, 0, 0)) (by decide +kernel) (acmpT (c := .eq) (by show _ = _; omega)) (by decide +kernel) ?_
        refine y_same (i := .aload_n 0) (len := 1) (r := (0, 0, 0, 0)) (pc' := 35) (ls' := [some (.inl (some 52)), some (zi xk), some (zi xr)]) (st' := [.inl (some 52)]) (by decide +kernel) (fun k q => by cases q) rfl ?_
        refine y_get (j := 49) (len := 3) (r := (12, 19, 2, 1347)) (by decide +kernel) hg (t52 hg) at52 rfl rfl (g_r52 (f := 19) (T2 := 374) hg rfl (by decide)).1 ?_
        refine y_same (i := .iload_n 1) (len := 1) (r := (0, 0, 0, 0)) (pc' := 39) (ls' := [some (.inl (some 52)), some (zi xk), some (zi xr)]) (st' := [zi xk, .inl (some 374)]) (by decide +kernel) (fun k q => by cases q) rfl ?_
        refine y_same (i := .iload_n 2) (len := 1) (r := (0, 0, 0, 0)) (pc' := 40) (ls' := [some (.inl (some 52)), some (zi xk), some (zi xr)]) (st' := [zi xr, zi xk, .inl (some 374)]) (by decide +kernel) (fun k q => by cases q) rfl ?_
        refine y_ias (i := n) (len := 1) (r := (0, 0, 0, 0)) (by decide +kernel) hg (tu374 hg) at374 rfl (by omega) (by omega) (sr1 (by omega)) (by omega) (by omega) (fun h58 hg58 hl58 hs58 ho58 => ?_)
        refine y_same (i := .aload_n 0) (len := 1) (r := (0, 0, 0, 0)) (pc' := 42) (ls' := [some (.inl (some 52)), some (zi xk), some (zi xr)]) (st' := [.inl (some 52)]) (by decide +kernel) (fun k q => by cases q) rfl ?_
        refine y_get (j := 52) (len := 3) (r := (12, 20, 2, 1348)) (by decide +kernel) hg58 (t52 hg58) at52 rfl rfl (g_r52 (f := 20) (T2 := 375) hg58 rfl (by decide)).1 ?_
        refine y_same (i := .iload_n 1) (len := 1) (r := (0, 0, 0, 0)) (pc' := 46) (ls' := [some (.inl (some 52)), some (zi xk), some (zi xr)]) (st' := [zi xk, .inl (some 375)]) (by decide +kernel) (fun k q => by cases q) rfl ?_
        refine y_ic (c := 0) (len := 1) (r := (0, 0, 0, 0)) (by decide +kernel) (by decide) (fun y59 hy59 => ?_)
        refine y_ias (i := n) (len := 1) (r := (0, 0, 0, 0)) (by decide +kernel) hg58 (tu375 hg58) at375 rfl (by omega) (by omega) (sr1 (by omega)) (by omega) (by omega) (fun h60 hg60 hl60 hs60 ho60 => ?_)
        refine y_ic (c := 1) (len := 1) (r := (0, 0, 0, 0)) (by decide +kernel) (by decide) (fun y61 hy61 => ?_)
        refine y_rI (len := 1) (r := (0, 0, 0, 0)) (nL := 3) (k := 2) (n9 := 2) (hs := []) (by decide +kernel) rfl (zfit_b (by omega) (by omega)).2 ?_
        have hv62 := (ho58 (71 + n) 1 (Or.inl (by omega))).trans h1
        have hv63 := (ho60 (71 + n) 1 (Or.inl (by omega))).trans hv62
        have hv64 := (ho60 374 n (Or.inl (by omega))).trans hs58
        exact ⟨by omega, by omega, _, ⟨(aup_refl _), hg60, fun k T j hk (hC : (k ≠ 374 ∧ k ≠ 375) ∨ j ≠ n) => ((ho60 k j (by omega)).trans (ho58 k j (by omega)))⟩, fun _ => ⟨_, _, hv64, hv63, by omega⟩⟩
      ·
        refine y_iF (c := .eq) (off := 6) (len := 3) (r := (0, 0, 0, 0)) (by decide +kernel) (acmpF (c := .eq) (by show ¬ (_ = _); omega)) ?_
        refine y_goto (off := 19) (pc' := 50) (len := 3) (r := (0, 0, 0, 0)) (by decide +kernel) (by decide +kernel) ?_
        refine y_inc (j := 2) (a := xr) (c := 1) (ls' := fun v => [some (.inl (some 52)), some (zi xk), some v]) (len := 3) (r := (0, 0, 0, 0)) (by decide +kernel) rfl (fun _ => rfl) (by decide) (by omega) (by omega) (fun y65 hy65 => ?_)
        show qX 9 236 53 [some (.inl (some 52)), some (zi xk), some (zi y65)] [] h t _
        refine y_goto (off := (-51)) (pc' := 2) (len := 3) (r := (0, 0, 0, 0)) (by decide +kernel) (by decide +kernel) ?_
        exact ih (r + 1) y65 (by omega) (by omega) (by omega)
theorem e_empties {τ : List Nat} {h : zh} {n t : Nat} {xk : Int32} (hg : hG τ h) (hn9 : n < 300) (hxk : xk.toInt = (n : Int)) : qI 10 236 [some (.inl (some 52)), some (zi xk), none] h t (emR τ n h) := by
  refine qI_of ?_
  refine y_ic (c := 0) (len := 1) (r := (0, 0, 0, 0)) (by decide +kernel) (by decide) (fun y66 hy66 => ?_)
  refine y_same (i := .istore_n 2) (len := 1) (r := (0, 0, 0, 0)) (pc' := 2) (ls' := [some (.inl (some 52)), some (zi xk), some (zi y66)]) (st' := []) (by decide +kernel) (fun k q => by cases q) rfl ?_
  obtain ⟨x1, h1, l1, u1⟩ := g_int (i := 1) hg (tuR hg hn9) at1012 (by decide) (srA (by decide))
  exact em_l (m1 := x1.toInt.toNat) hg hn9 hxk h1 (by omega) (by omega) 12 0 y66 (by omega) (by omega) (by omega)
