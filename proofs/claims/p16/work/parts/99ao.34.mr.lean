/-! a sequent of the reference: made READY -/
noncomputable def pB (D : dfT) (k : Nat) : Bool := @decide (D ((k / 21 : Nat) : Int) ((k % 21 : Nat) : Int)) (Classical.propDecidable _)
noncomputable def cD (D : dfT) : Nat := (List.range 441).countP (pB D)
theorem cD_le {D : dfT} : cD D ≤ 441 := Nat.le_trans List.countP_le_length (by rw [List.length_range]; exact Nat.le_refl _)
theorem countP_le9 {p q : Nat → Bool} : ∀ {l : List Nat}, (∀ x ∈ l, p x = true → q x = true) → l.countP p ≤ l.countP q
  | [], _ => Nat.le_refl _
  | x :: l, h => by
    have ih := countP_le9 (p := p) (q := q) (l := l) (fun y hy => h y (List.mem_cons_of_mem _ hy))
    have hx := h x List.mem_cons_self
    rw [List.countP_cons, List.countP_cons]
    cases e : p x
    · cases q x <;> simp <;> omega
    · rw [hx e]
      simp
      omega
theorem countP_lt9 {p q : Nat → Bool} : ∀ {l : List Nat}, (∀ x ∈ l, p x = true → q x = true) → (∃ x ∈ l, q x = true ∧ p x = false) → l.countP p < l.countP q
  | [], _, ⟨x, m, _⟩ => by cases m
  | x :: l, h, ⟨y, m, h1, h2⟩ => by
    have hx := h x List.mem_cons_self
    rw [List.countP_cons, List.countP_cons]
    rcases List.mem_cons.mp m with e | e
    · subst e
      have ih := countP_le9 (p := p) (q := q) (l := l) (fun y hy => h y (List.mem_cons_of_mem _ hy))
      rw [h1, h2]
      simp
      omega
    · have ih := countP_lt9 (p := p) (q := q) (l := l) (fun y hy => h y (List.mem_cons_of_mem _ hy)) ⟨y, e, h1, h2⟩
      cases e : p x
      · cases q x <;> simp <;> omega
      · rw [hx e]
        simp
        omega
theorem cD_lt {D D' : dfT} {a b : Nat} (ha : a < 21) (hb : b < 21) (h : ∀ x y, D' x y → D x y) (h1 : D a b) (h2 : ¬ D' a b) : cD D' < cD D := by
  refine countP_lt9 (fun x _ q => ?_) ⟨a * 21 + b, List.mem_range.mpr (by omega), ?_, ?_⟩
  · exact @decide_eq_true _ (Classical.propDecidable _) (h _ _ (@of_decide_eq_true _ (Classical.propDecidable _) q))
  · refine @decide_eq_true _ (Classical.propDecidable _) ?_
    rw [show (a * 21 + b) / 21 = a by omega, show (a * 21 + b) % 21 = b by omega]
    exact h1
  · refine @decide_eq_false _ (Classical.propDecidable _) ?_
    rw [show (a * 21 + b) / 21 = a by omega, show (a * 21 + b) % 21 = b by omega]
    exact h2
noncomputable def mr2 (s : sqT) : Nat := mq s * 500 + cD s.2.2.2
theorem mr2_of {s s' : sqT} (h : mq s' < mq s) : mr2 s' < mr2 s := by
  have h1 := cD_le (D := s'.2.2.2)
  unfold mr2
  omega
/-- one thing is done, or there is none of a kind -/
def sdm_ (τ : List Nat) (A : Nat) (h : zh) (s : sqT) (N : Prop) (y : Int32) (h1 : zh) : Prop := (y.toInt = 1 ∧ ∃ s', (stp1 s s' ∧ mr2 s' < mr2 s) ∧ QM τ h1 A s' ∧ FM A h h1) ∨ (y.toInt = 0 ∧ h = h1 ∧ N)
theorem idle.symm {s : sqT} {a b : Int} (h : idle s a b) : idle s b a := h.elim Or.inr Or.inl
theorem rrm_i {d t A : Nat} {τ : List Nat} {h : zh} {s : sqT} (Q : QM τ h A s) (a3 : at3 s) {xb : Int32} (bb : bs_ xb (fun v => mnJ s (v : Int))) {x : Nat} {xx : Int32} (hxx : xx.toInt = (x : Int)) (hx : x ≤ 20) (kk : ∀ l3 : Option zv, (∀ y : Nat, y < x → s.2.2.2 (x : Int) (y : Int) → ¬ idle s (x : Int) (y : Int)) → qX (d + 3) 216 178 [some (.inl (some A)), some (zi xb), some (zi xx), l3] [] h t (rI (sdm_ τ A h s (nrm s)) t)) : ∀ (n : Nat) (y : Nat) (xy : Int32), (xy.toInt = (y : Int)) → (y ≤ x) → (∀ j : Nat, j < y → s.2.2.2 (x : Int) (j : Int) → ¬ idle s (x : Int) (j : Int)) → (x < y + n) → qX (d + 3) 216 125 [some (.inl (some A)), some (zi xb), some (zi xx), some (zi xy)] [] h t (rI (sdm_ τ A h s (nrm s)) t) := by
  intro n
  induction n with
  | zero =>
    intro y xy hxy hy c1 hn
    exfalso
    omega
  | succ n ih =>
    intro y xy hxy hy c1 hn
    obtain ⟨T, c0, tA, aT, hc0, pT⟩ := Q.2.1
    refine y_same (i := .iload_n 3) (len := 1) (r := (0, 0, 0, 0)) (pc' := 126) (ls' := [some (.inl (some A)), some (zi xb), some (zi xx), some (zi xy)]) (st' := [zi xy]) (by decide +kernel) (fun k q => by cases q) rfl ?_
    refine y_same (i := .iload_n 2) (len := 1) (r := (0, 0, 0, 0)) (pc' := 127) (ls' := [some (.inl (some A)), some (zi xb), some (zi xx), some (zi xy)]) (st' := [zi xx, zi xy]) (by decide +kernel) (fun k q => by cases q) rfl ?_
    rcases Decidable.em (xy.toInt ≥ xx.toInt) with q2443 | q2443
    ·
      refine y_cT (c := .ge) (off := 51) (pc' := 178) (len := 3) (r := (0, 0, 0, 0)) (by decide +kernel) (acmpT (c := .ge) (by show _ ≤ _; omega)) (by decide +kernel) ?_
      exact kk _ (fun j hj hd => c1 j (by omega) hd)
    ·
      refine y_cF (c := .ge) (off := 51) (len := 3) (r := (0, 0, 0, 0)) (by decide +kernel) (acmpF (c := .ge) (by show _ < _; omega)) ?_
      refine y_same (i := .aload_n 0) (len := 1) (r := (0, 0, 0, 0)) (pc' := 131) (ls' := [some (.inl (some A)), some (zi xb), some (zi xx), some (zi xy)]) (st' := [.inl (some A)]) (by decide +kernel) (fun k q => by cases q) rfl ?_
      refine y_same (i := .iload_n 2) (len := 1) (r := (0, 0, 0, 0)) (pc' := 132) (ls' := [some (.inl (some A)), some (zi xb), some (zi xx), some (zi xy)]) (st' := [zi xx, .inl (some A)]) (by decide +kernel) (fun k q => by cases q) rfl ?_
      refine y_same (i := .iload_n 3) (len := 1) (r := (0, 0, 0, 0)) (pc' := 133) (ls' := [some (.inl (some A)), some (zi xb), some (zi xx), some (zi xy)]) (st' := [zi xy, zi xx, .inl (some A)]) (by decide +kernel) (fun k q => by cases q) rfl ?_
      refine y_cI (i := .invokestatic 245) (len := 3) (r := (1, 200, 12, 1666)) (nL := 3) (k := 2) (n := 3) (hs := []) (args := [.inl (some A), zi xx, zi xy]) (rest := []) (l0 := [some (.inl (some A)), some (zi xx), some (zi xy)]) (by decide +kernel) (Or.inl ⟨_, rfl⟩) rfl rfl rfl rfl (Nat.le_of_ble_eq_true rfl) rfl rfl (qI_le (by omega) (m_dif (d := 0) (x := x) (y := y) Q (by omega) (by omega) (by omega) (by omega))) (fun y2444 qy2444 hRy2444 => ?_)
      obtain ⟨rfl, hDy2444⟩ := hRy2444
      rcases hDy2444 with ⟨vy2444, ty2444⟩ | ⟨vy2444, ty2444⟩
      ·
        refine y_iF (c := .eq) (off := 36) (len := 3) (r := (0, 0, 0, 0)) (by decide +kernel) (acmpF (c := .eq) (by show ¬ (_ = _); omega)) ?_
        refine y_same (i := .iload_n 1) (len := 1) (r := (0, 0, 0, 0)) (pc' := 140) (ls' := [some (.inl (some A)), some (zi xb), some (zi xx), some (zi xy)]) (st' := [zi xb]) (by decide +kernel) (fun k q => by cases q) rfl ?_
        refine y_same (i := .iload_n 2) (len := 1) (r := (0, 0, 0, 0)) (pc' := 141) (ls' := [some (.inl (some A)), some (zi xb), some (zi xx), some (zi xy)]) (st' := [zi xx, zi xb]) (by decide +kernel) (fun k q => by cases q) rfl ?_
        refine y_bp (i := .ishr) (f := fun x y => x >>> (y &&& 31)) (len := 1) (r := (0, 0, 0, 0)) (by decide +kernel) rfl rfl (fun y2445 hy2445 => ?_)
        have hy2445 : y2445 = xb >>> (xx &&& 31) := hy2445
        refine y_ic (c := 1) (len := 1) (r := (0, 0, 0, 0)) (by decide +kernel) (by decide) (fun y2446 hy2446 => ?_)
        refine y_bp (i := .iand) (f := fun x y => x &&& y) (len := 1) (r := (0, 0, 0, 0)) (by decide +kernel) rfl rfl (fun y2447 hy2447 => ?_)
        have hy2447 : y2447 = y2445 &&& y2446 := hy2447
        have tm := bs_t (k := x) bb hxx (by omega) hy2445 hy2446 hy2447
        refine y_ic (c := 1) (len := 1) (r := (0, 0, 0, 0)) (by decide +kernel) (by decide) (fun y2448 hy2448 => ?_)
        rcases Decidable.em (y2447.toInt ≠ y2448.toInt) with q2449 | q2449
        ·
          refine y_cT (c := .ne) (off := 19) (pc' := 164) (len := 3) (r := (0, 0, 0, 0)) (by decide +kernel) (acmpT (c := .ne) (by show ¬ (_ = _); omega)) (by decide +kernel) ?_
          refine y_same (i := .aload_n 0) (len := 1) (r := (0, 0, 0, 0)) (pc' := 165) (ls' := [some (.inl (some A)), some (zi xb), some (zi xx), some (zi xy)]) (st' := [.inl (some A)]) (by decide +kernel) (fun k q => by cases q) rfl ?_
          refine y_same (i := .iload_n 2) (len := 1) (r := (0, 0, 0, 0)) (pc' := 166) (ls' := [some (.inl (some A)), some (zi xb), some (zi xx), some (zi xy)]) (st' := [zi xx, .inl (some A)]) (by decide +kernel) (fun k q => by cases q) rfl ?_
          refine y_same (i := .iload_n 3) (len := 1) (r := (0, 0, 0, 0)) (pc' := 167) (ls' := [some (.inl (some A)), some (zi xb), some (zi xx), some (zi xy)]) (st' := [zi xy, zi xx, .inl (some A)]) (by decide +kernel) (fun k q => by cases q) rfl ?_
          refine y_cV (i := .invokestatic 262) (len := 3) (r := (1, 202, 12, 1669)) (nL := 3) (k := 0) (n := 3) (hs := []) (args := [.inl (some A), zi xx, zi xy]) (rest := []) (l0 := [some (.inl (some A)), some (zi xx), some (zi xy)]) (by decide +kernel) (Or.inl ⟨_, rfl⟩) rfl rfl rfl rfl (Nat.le_of_ble_eq_true rfl) rfl rfl (qV_le (by omega) (m_agr (d := 0) (x := x) (y := y) Q (by omega) (by omega) (by omega) (by omega))) (fun h2450 hR2450 => ?_)
          obtain ⟨Q2450, F2450⟩ := hR2450
          refine y_ic (c := 1) (len := 1) (r := (0, 0, 0, 0)) (by decide +kernel) (by decide) (fun y2451 hy2451 => ?_)
          refine y_rI (len := 1) (r := (0, 0, 0, 0)) (nL := 4) (k := 2) (n9 := 1) (hs := []) (by decide +kernel) rfl (zfit_b (by omega) (by omega)).2 ?_
          have idl : idle s (x : Int) (y : Int) := by
            rcases tm with ⟨q8, -⟩ | ⟨-, q8⟩
            · omega
            · exact Or.inl ⟨by omega, fun q7 => q8 ((mnJ_P Q.2.2.2 (by omega)).mpr q7)⟩
          refine Or.inl ⟨by omega, _, ⟨Or.inr (Or.inr (Or.inr (Or.inr ⟨a3, dRem s.2.2.2 x y, fun a b q => q.1, fun a b q => ?_, rfl⟩))), ?_⟩, Q2450, F2450⟩
          · by_cases q8 : (a = (x : Int) ∧ b = (y : Int)) ∨ (a = (y : Int) ∧ b = (x : Int))
            · rcases q8 with ⟨rfl, rfl⟩ | ⟨rfl, rfl⟩
              · exact Or.inr idl
              · exact Or.inr idl.symm
            · exact Or.inl ⟨q, q8⟩
          · have := cD_lt (D := s.2.2.2) (D' := dRem s.2.2.2 x y) (a := x) (b := y) (by omega) (by omega) (fun _ _ q => q.1) ty2444 (fun q => q.2 (Or.inl ⟨rfl, rfl⟩))
            unfold mr2 mq
            exact Nat.add_lt_add_left this _
        ·
          refine y_cF (c := .ne) (off := 19) (len := 3) (r := (0, 0, 0, 0)) (by decide +kernel) (acmpF (c := .ne) (by show _ = _; omega)) ?_
          refine y_same (i := .iload_n 3) (len := 1) (r := (0, 0, 0, 0)) (pc' := 149) (ls' := [some (.inl (some A)), some (zi xb), some (zi xx), some (zi xy)]) (st' := [zi xy]) (by decide +kernel) (fun k q => by cases q) rfl ?_
          rcases Decidable.em (xy.toInt = 0) with q2452 | q2452
          ·
            refine y_iT (c := .eq) (off := 23) (pc' := 172) (len := 3) (r := (0, 0, 0, 0)) (by decide +kernel) (acmpT (c := .eq) (by show _ = _; omega)) (by decide +kernel) ?_
            refine y_inc (j := 3) (a := xy) (c := 1) (ls' := fun v => [some (.inl (some A)), some (zi xb), some (zi xx), some v]) (len := 3) (r := (0, 0, 0, 0)) (by decide +kernel) rfl (fun _ => rfl) (by decide) (by omega) (by omega) (fun y2453 hy2453 => ?_)
            show qX (d + 3) 216 175 [some (.inl (some A)), some (zi xb), some (zi xx), some (zi y2453)] [] h t _
            refine y_goto (off := (-50)) (pc' := 125) (len := 3) (r := (0, 0, 0, 0)) (by decide +kernel) (by decide +kernel) ?_
            refine ih (y + 1) y2453 (by omega) (by omega) (fun j hj hd => ?_) (by omega)
            rcases Nat.lt_or_ge j y with q9 | q9
            · exact c1 j q9 hd
            · obtain rfl : j = y := by omega
              rintro (⟨z1, z2⟩ | ⟨z1, z2⟩)
              · rcases tm with ⟨-, q8⟩ | ⟨q8, -⟩
                · exact z2 ((mnJ_P Q.2.2.2 (by omega)).mp q8)
                · omega
              · omega
          ·
            refine y_iF (c := .eq) (off := 23) (len := 3) (r := (0, 0, 0, 0)) (by decide +kernel) (acmpF (c := .eq) (by show ¬ (_ = _); omega)) ?_
            refine y_same (i := .iload_n 1) (len := 1) (r := (0, 0, 0, 0)) (pc' := 153) (ls' := [some (.inl (some A)), some (zi xb), some (zi xx), some (zi xy)]) (st' := [zi xb]) (by decide +kernel) (fun k q => by cases q) rfl ?_
            refine y_same (i := .iload_n 3) (len := 1) (r := (0, 0, 0, 0)) (pc' := 154) (ls' := [some (.inl (some A)), some (zi xb), some (zi xx), some (zi xy)]) (st' := [zi xy, zi xb]) (by decide +kernel) (fun k q => by cases q) rfl ?_
            refine y_bp (i := .ishr) (f := fun x y => x >>> (y &&& 31)) (len := 1) (r := (0, 0, 0, 0)) (by decide +kernel) rfl rfl (fun y2454 hy2454 => ?_)
            have hy2454 : y2454 = xb >>> (xy &&& 31) := hy2454
            refine y_ic (c := 1) (len := 1) (r := (0, 0, 0, 0)) (by decide +kernel) (by decide) (fun y2455 hy2455 => ?_)
            refine y_bp (i := .iand) (f := fun x y => x &&& y) (len := 1) (r := (0, 0, 0, 0)) (by decide +kernel) rfl rfl (fun y2456 hy2456 => ?_)
            have hy2456 : y2456 = y2454 &&& y2455 := hy2456
            have tn := bs_t (k := y) bb hxy (by omega) hy2454 hy2455 hy2456
            refine y_ic (c := 1) (len := 1) (r := (0, 0, 0, 0)) (by decide +kernel) (by decide) (fun y2457 hy2457 => ?_)
            rcases Decidable.em (y2456.toInt ≠ y2457.toInt) with q2458 | q2458
            ·
              refine y_cT (c := .ne) (off := 6) (pc' := 164) (len := 3) (r := (0, 0, 0, 0)) (by decide +kernel) (acmpT (c := .ne) (by show ¬ (_ = _); omega)) (by decide +kernel) ?_
              refine y_same (i := .aload_n 0) (len := 1) (r := (0, 0, 0, 0)) (pc' := 165) (ls' := [some (.inl (some A)), some (zi xb), some (zi xx), some (zi xy)]) (st' := [.inl (some A)]) (by decide +kernel) (fun k q => by cases q) rfl ?_
              refine y_same (i := .iload_n 2) (len := 1) (r := (0, 0, 0, 0)) (pc' := 166) (ls' := [some (.inl (some A)), some (zi xb), some (zi xx), some (zi xy)]) (st' := [zi xx, .inl (some A)]) (by decide +kernel) (fun k q => by cases q) rfl ?_
              refine y_same (i := .iload_n 3) (len := 1) (r := (0, 0, 0, 0)) (pc' := 167) (ls' := [some (.inl (some A)), some (zi xb), some (zi xx), some (zi xy)]) (st' := [zi xy, zi xx, .inl (some A)]) (by decide +kernel) (fun k q => by cases q) rfl ?_
              refine y_cV (i := .invokestatic 262) (len := 3) (r := (1, 202, 12, 1669)) (nL := 3) (k := 0) (n := 3) (hs := []) (args := [.inl (some A), zi xx, zi xy]) (rest := []) (l0 := [some (.inl (some A)), some (zi xx), some (zi xy)]) (by decide +kernel) (Or.inl ⟨_, rfl⟩) rfl rfl rfl rfl (Nat.le_of_ble_eq_true rfl) rfl rfl (qV_le (by omega) (m_agr (d := 0) (x := x) (y := y) Q (by omega) (by omega) (by omega) (by omega))) (fun h2459 hR2459 => ?_)
              obtain ⟨Q2459, F2459⟩ := hR2459
              refine y_ic (c := 1) (len := 1) (r := (0, 0, 0, 0)) (by decide +kernel) (by decide) (fun y2460 hy2460 => ?_)
              refine y_rI (len := 1) (r := (0, 0, 0, 0)) (nL := 4) (k := 2) (n9 := 1) (hs := []) (by decide +kernel) rfl (zfit_b (by omega) (by omega)).2 ?_
              have idl : idle s (x : Int) (y : Int) := by
                rcases tn with ⟨q8, -⟩ | ⟨-, q8⟩
                · omega
                · exact Or.inr ⟨by omega, fun q7 => q8 ((mnJ_P Q.2.2.2 (by omega)).mpr q7)⟩
              refine Or.inl ⟨by omega, _, ⟨Or.inr (Or.inr (Or.inr (Or.inr ⟨a3, dRem s.2.2.2 x y, fun a b q => q.1, fun a b q => ?_, rfl⟩))), ?_⟩, Q2459, F2459⟩
              · by_cases q8 : (a = (x : Int) ∧ b = (y : Int)) ∨ (a = (y : Int) ∧ b = (x : Int))
                · rcases q8 with ⟨rfl, rfl⟩ | ⟨rfl, rfl⟩
                  · exact Or.inr idl
                  · exact Or.inr idl.symm
                · exact Or.inl ⟨q, q8⟩
              · have := cD_lt (D := s.2.2.2) (D' := dRem s.2.2.2 x y) (a := x) (b := y) (by omega) (by omega) (fun _ _ q => q.1) ty2444 (fun q => q.2 (Or.inl ⟨rfl, rfl⟩))
                unfold mr2 mq
                exact Nat.add_lt_add_left this _
            ·
              refine y_cF (c := .ne) (off := 6) (len := 3) (r := (0, 0, 0, 0)) (by decide +kernel) (acmpF (c := .ne) (by show _ = _; omega)) ?_
              refine y_goto (off := 11) (pc' := 172) (len := 3) (r := (0, 0, 0, 0)) (by decide +kernel) (by decide +kernel) ?_
              refine y_inc (j := 3) (a := xy) (c := 1) (ls' := fun v => [some (.inl (some A)), some (zi xb), some (zi xx), some v]) (len := 3) (r := (0, 0, 0, 0)) (by decide +kernel) rfl (fun _ => rfl) (by decide) (by omega) (by omega) (fun y2461 hy2461 => ?_)
              show qX (d + 3) 216 175 [some (.inl (some A)), some (zi xb), some (zi xx), some (zi y2461)] [] h t _
              refine y_goto (off := (-50)) (pc' := 125) (len := 3) (r := (0, 0, 0, 0)) (by decide +kernel) (by decide +kernel) ?_
              refine ih (y + 1) y2461 (by omega) (by omega) (fun j hj hd => ?_) (by omega)
              rcases Nat.lt_or_ge j y with q9 | q9
              · exact c1 j q9 hd
              · obtain rfl : j = y := by omega
                rintro (⟨z1, z2⟩ | ⟨z1, z2⟩)
                · rcases tm with ⟨-, q8⟩ | ⟨q8, -⟩
                  · exact z2 ((mnJ_P Q.2.2.2 (by omega)).mp q8)
                  · omega
                · rcases tn with ⟨-, q8⟩ | ⟨q8, -⟩
                  · exact z2 ((mnJ_P Q.2.2.2 (by omega)).mp q8)
                  · omega
      ·
        refine y_iT (c := .eq) (off := 36) (pc' := 172) (len := 3) (r := (0, 0, 0, 0)) (by decide +kernel) (acmpT (c := .eq) (by show _ = _; omega)) (by decide +kernel) ?_
        refine y_inc (j := 3) (a := xy) (c := 1) (ls' := fun v => [some (.inl (some A)), some (zi xb), some (zi xx), some v]) (len := 3) (r := (0, 0, 0, 0)) (by decide +kernel) rfl (fun _ => rfl) (by decide) (by omega) (by omega) (fun y2462 hy2462 => ?_)
        show qX (d + 3) 216 175 [some (.inl (some A)), some (zi xb), some (zi xx), some (zi y2462)] [] h t _
        refine y_goto (off := (-50)) (pc' := 125) (len := 3) (r := (0, 0, 0, 0)) (by decide +kernel) (by decide +kernel) ?_
        refine ih (y + 1) y2462 (by omega) (by omega) (fun j hj hd => ?_) (by omega)
        rcases Nat.lt_or_ge j y with q9 | q9
        · exact c1 j q9 hd
        · obtain rfl : j = y := by omega
          exact absurd hd ty2444
theorem rrm_o {d t A : Nat} {τ : List Nat} {h : zh} {s : sqT} (Q : QM τ h A s) (nv : ¬ vd_ s) (a3 : at3 s) {xb : Int32} (bb : bs_ xb (fun v => mnJ s (v : Int))) : ∀ (n : Nat) (x : Nat) (xx : Int32) (l3 : Option zv), (xx.toInt = (x : Int)) → (x ≤ 21) → (∀ (i j : Nat), i < x → j < i → s.2.2.2 (i : Int) (j : Int) → ¬ idle s (i : Int) (j : Int)) → (21 < x + n) → qX (d + 3) 216 117 [some (.inl (some A)), some (zi xb), some (zi xx), l3] [] h t (rI (sdm_ τ A h s (nrm s)) t) := by
  intro n
  induction n with
  | zero =>
    intro x xx l3 hxx hx c1 hn
    exfalso
    omega
  | succ n ih =>
    intro x xx l3 hxx hx c1 hn
    obtain ⟨T, c0, tA, aT, hc0, pT⟩ := Q.2.1
    refine y_same (i := .iload_n 2) (len := 1) (r := (0, 0, 0, 0)) (pc' := 118) (ls' := [some (.inl (some A)), some (zi xb), some (zi xx), l3]) (st' := [zi xx]) (by decide +kernel) (fun k q => by cases q) rfl ?_
    refine y_bi (c := 21) (len := 2) (r := (0, 0, 0, 0)) (by decide +kernel) (by decide) (fun y2463 hy2463 => ?_)
    rcases Decidable.em (xx.toInt ≥ y2463.toInt) with q2464 | q2464
    ·
      refine y_cT (c := .ge) (off := 64) (pc' := 184) (len := 3) (r := (0, 0, 0, 0)) (by decide +kernel) (acmpT (c := .ge) (by show _ ≤ _; omega)) (by decide +kernel) ?_
      refine y_ic (c := 0) (len := 1) (r := (0, 0, 0, 0)) (by decide +kernel) (by decide) (fun y2465 hy2465 => ?_)
      refine y_rI (len := 1) (r := (0, 0, 0, 0)) (nL := 4) (k := 2) (n9 := 1) (hs := []) (by decide +kernel) rfl (zfit_b (by omega) (by omega)).2 ?_
      obtain rfl : x = 21 := by omega
      refine Or.inr ⟨by omega, rfl, a3, fun a b hd i9 => ?_⟩
      have ra := Q.2.2.2.2.2.2.1 a b hd
      have e1 : ((a.toNat : Nat) : Int) = a := by omega
      have e2 : ((b.toNat : Nat) : Int) = b := by omega
      rcases Int.lt_trichotomy a b with q | q | q
      · have hd2 := Q.2.2.2.2.2.2.2 a b hd
        rw [← e1, ← e2] at hd2 i9
        exact c1 b.toNat a.toNat (by omega) (by omega) hd2 i9.symm
      · subst q
        exact nv (Or.inl ⟨a, a, hd, rfl⟩)
      · rw [← e1, ← e2] at hd i9
        exact c1 a.toNat b.toNat (by omega) (by omega) hd i9
    ·
      refine y_cF (c := .ge) (off := 64) (len := 3) (r := (0, 0, 0, 0)) (by decide +kernel) (acmpF (c := .ge) (by show _ < _; omega)) ?_
      refine y_ic (c := 0) (len := 1) (r := (0, 0, 0, 0)) (by decide +kernel) (by decide) (fun y2466 hy2466 => ?_)
      refine y_same (i := .istore_n 3) (len := 1) (r := (0, 0, 0, 0)) (pc' := 125) (ls' := [some (.inl (some A)), some (zi xb), some (zi xx), some (zi y2466)]) (st' := []) (by decide +kernel) (fun k q => by cases q) rfl ?_
      refine rrm_i Q a3 bb hxx (by omega) (fun m3 c9 => ?_) (x + 1) 0 y2466 (by omega) (by omega) (fun j hj => absurd hj (Nat.not_lt_zero j)) (by omega)
      refine y_inc (j := 2) (a := xx) (c := 1) (ls' := fun v => [some (.inl (some A)), some (zi xb), some v, m3]) (len := 3) (r := (0, 0, 0, 0)) (by decide +kernel) rfl (fun _ => rfl) (by decide) (by omega) (by omega) (fun y2467 hy2467 => ?_)
      show qX (d + 3) 216 181 [some (.inl (some A)), some (zi xb), some (zi y2467), m3] [] h t _
      refine y_goto (off := (-64)) (pc' := 117) (len := 3) (r := (0, 0, 0, 0)) (by decide +kernel) (by decide +kernel) ?_
      refine ih (x + 1) y2467 m3 (by omega) (by omega) (fun i j hi hj hd => ?_) (by omega)
      rcases Nat.lt_or_ge i x with q9 | q9
      · exact c1 i j q9 hj hd
      · obtain rfl : i = x := by omega
        exact c9 j hj hd
theorem rrm_c {d t A : Nat} {τ : List Nat} {h : zh} {s : sqT} (Q : QM τ h A s) (nv : ¬ vd_ s) (re : rest s.1) (nr : ∀ q ∈ s.2.1, ¬ trv q) : ∀ (n : Nat) (i : Nat) (xi : Int32) (l2 : Option zv) (l3 : Option zv), (xi.toInt = (i : Int)) → (i ≤ s.2.2.1.length) → (∀ (j : Nat) (q : it4), j < i → s.2.2.1[j]? = some q → ¬ rv s.1 s.2.2.2 q) → (s.2.2.1.length < i + n) → qX (d + 3) 216 38 [some (.inl (some A)), some (zi xi), l2, l3] [] h t (rI (sdm_ τ A h s (nrm s)) t) := by
  intro n
  induction n with
  | zero =>
    intro i xi l2 l3 hxi hi c1 hn
    exfalso
    omega
  | succ n ih =>
    intro i xi l2 l3 hxi hi c1 hn
    obtain ⟨T, c0, tA, aT, hc0, pT⟩ := Q.2.1
    refine y_same (i := .iload_n 1) (len := 1) (r := (0, 0, 0, 0)) (pc' := 39) (ls' := [some (.inl (some A)), some (zi xi), l2, l3]) (st' := [zi xi]) (by decide +kernel) (fun k q => by cases q) rfl ?_
    refine y_same (i := .aload_n 0) (len := 1) (r := (0, 0, 0, 0)) (pc' := 40) (ls' := [some (.inl (some A)), some (zi xi), l2, l3]) (st' := [.inl (some A), zi xi]) (by decide +kernel) (fun k q => by cases q) rfl ?_
    refine y_ic (c := 2) (len := 1) (r := (0, 0, 0, 0)) (by decide +kernel) (by decide) (fun y2468 hy2468 => ?_)
    obtain ⟨z2469, hz2469, ez2469⟩ := Q.2.2.1.2.2.1
    have ez2469 : z2469.toInt = ((s.2.2.1.length : Nat) : Int) := ez2469
    have mz2469 := qm_lenC Q
    have mz2469 : s.2.2.1.length ≤ 14 := mz2469
    refine y_ial (i := 2) (len := 1) (r := (0, 0, 0, 0)) (by decide +kernel) Q.1 tA aT (by omega) hz2469 ?_
    rcases Decidable.em (xi.toInt ≥ z2469.toInt) with q2470 | q2470
    ·
      refine y_cT (c := .ge) (off := 68) (pc' := 110) (len := 3) (r := (0, 0, 0, 0)) (by decide +kernel) (acmpT (c := .ge) (by show _ ≤ _; omega)) (by decide +kernel) ?_
      refine y_same (i := .aload_n 0) (len := 1) (r := (0, 0, 0, 0)) (pc' := 111) (ls' := [some (.inl (some A)), some (zi xi), l2, l3]) (st' := [.inl (some A)]) (by decide +kernel) (fun k q => by cases q) rfl ?_
      refine y_cI (i := .invokestatic 301) (len := 3) (r := (1, 217, 12, 1706)) (nL := 4) (k := 1) (n := 1) (hs := []) (args := [.inl (some A)]) (rest := []) (l0 := [some (.inl (some A)), none, none, none]) (by decide +kernel) (Or.inl ⟨_, rfl⟩) rfl rfl rfl rfl (Nat.le_of_ble_eq_true rfl) rfl rfl (qI_le (by omega) (m_inp (d := 0) Q)) (fun y2471 qy2471 hRy2471 => ?_)
      obtain ⟨rfl, ty2471⟩ := hRy2471
      refine y_same (i := .istore_n 1) (len := 1) (r := (0, 0, 0, 0)) (pc' := 115) (ls' := [some (.inl (some A)), some (zi y2471), l2, l3]) (st' := []) (by decide +kernel) (fun k q => by cases q) rfl ?_
      refine y_ic (c := 0) (len := 1) (r := (0, 0, 0, 0)) (by decide +kernel) (by decide) (fun y2472 hy2472 => ?_)
      refine y_same (i := .istore_n 2) (len := 1) (r := (0, 0, 0, 0)) (pc' := 117) (ls' := [some (.inl (some A)), some (zi y2471), some (zi y2472), l3]) (st' := []) (by decide +kernel) (fun k q => by cases q) rfl ?_
      have a3 : at3 s := ⟨⟨re, nr⟩, fun c m9 => by obtain ⟨j, hj⟩ := List.getElem?_of_mem m9; exact c1 j c (by have := (List.getElem?_eq_some_iff.mp hj).1; omega) hj⟩
      exact rrm_o Q nv a3 ty2471 22 0 y2472 l3 (by omega) (by omega) (fun i _ hi => absurd hi (Nat.not_lt_zero i)) (by omega)
    ·
      refine y_cF (c := .ge) (off := 68) (len := 3) (r := (0, 0, 0, 0)) (by decide +kernel) (acmpF (c := .ge) (by show _ < _; omega)) ?_
      refine y_same (i := .aload_n 0) (len := 1) (r := (0, 0, 0, 0)) (pc' := 46) (ls' := [some (.inl (some A)), some (zi xi), l2, l3]) (st' := [.inl (some A)]) (by decide +kernel) (fun k q => by cases q) rfl ?_
      refine y_same (i := .iload_n 1) (len := 1) (r := (0, 0, 0, 0)) (pc' := 47) (ls' := [some (.inl (some A)), some (zi xi), l2, l3]) (st' := [zi xi, .inl (some A)]) (by decide +kernel) (fun k q => by cases q) rfl ?_
      refine y_cI (i := .invokestatic 259) (len := 3) (r := (1, 199, 12, 1654)) (nL := 1) (k := 1) (n := 1) (hs := []) (args := [zi xi]) (rest := [.inl (some A)]) (l0 := [some (zi xi)]) (by decide +kernel) (Or.inl ⟨_, rfl⟩) rfl rfl rfl rfl (Nat.le_of_ble_eq_true rfl) rfl rfl (qI_le (by omega) (e_claimIn (d := 0) (by omega) (by omega))) (fun y2473 qy2473 hRy2473 => ?_)
      obtain ⟨rfl, hy2473⟩ := hRy2473
      refine y_ic (c := 1) (len := 1) (r := (0, 0, 0, 0)) (by decide +kernel) (by decide) (fun y2474 hy2474 => ?_)
      refine y_add (len := 1) (r := (0, 0, 0, 0)) (by decide +kernel) (by omega) (by omega) (fun y2475 hy2475 => ?_)
      obtain ⟨i2476, ki2476⟩ : ∃ i9, s.2.2.1[i]? = some i9 := ⟨_, List.getElem?_eq_getElem (by omega)⟩
      have oi2476 := okQ_C Q.2.2.2 ki2476
      have pi2476 := oi2476.1
      unfold okV at pi2476
      obtain ⟨ai2476, bi2476, ci2476, di2476, ⟨hai2476, hbi2476, hci2476, hdi2476⟩, eai2476, ebi2476, eci2476, edi2476⟩ := qm_itC Q ki2476
      refine y_ial (i := ((136 + 4 * i) + 1)) (len := 1) (r := (0, 0, 0, 0)) (by decide +kernel) Q.1 tA aT (by omega) hbi2476 ?_
      refine y_same (i := .istore_n 2) (len := 1) (r := (0, 0, 0, 0)) (pc' := 54) (ls' := [some (.inl (some A)), some (zi xi), some (zi bi2476), l3]) (st' := []) (by decide +kernel) (fun k q => by cases q) rfl ?_
      refine y_same (i := .aload_n 0) (len := 1) (r := (0, 0, 0, 0)) (pc' := 55) (ls' := [some (.inl (some A)), some (zi xi), some (zi bi2476), l3]) (st' := [.inl (some A)]) (by decide +kernel) (fun k q => by cases q) rfl ?_
      refine y_same (i := .iload_n 1) (len := 1) (r := (0, 0, 0, 0)) (pc' := 56) (ls' := [some (.inl (some A)), some (zi xi), some (zi bi2476), l3]) (st' := [zi xi, .inl (some A)]) (by decide +kernel) (fun k q => by cases q) rfl ?_
      refine y_cI (i := .invokestatic 259) (len := 3) (r := (1, 199, 12, 1654)) (nL := 1) (k := 1) (n := 1) (hs := []) (args := [zi xi]) (rest := [.inl (some A)]) (l0 := [some (zi xi)]) (by decide +kernel) (Or.inl ⟨_, rfl⟩) rfl rfl rfl rfl (Nat.le_of_ble_eq_true rfl) rfl rfl (qI_le (by omega) (e_claimIn (d := 0) (by omega) (by omega))) (fun y2477 qy2477 hRy2477 => ?_)
      obtain ⟨rfl, hy2477⟩ := hRy2477
      refine y_ic (c := 2) (len := 1) (r := (0, 0, 0, 0)) (by decide +kernel) (by decide) (fun y2478 hy2478 => ?_)
      refine y_add (len := 1) (r := (0, 0, 0, 0)) (by decide +kernel) (by omega) (by omega) (fun y2479 hy2479 => ?_)
      refine y_ial (i := ((136 + 4 * i) + 2)) (len := 1) (r := (0, 0, 0, 0)) (by decide +kernel) Q.1 tA aT (by omega) hci2476 ?_
      refine y_same (i := .istore_n 3) (len := 1) (r := (0, 0, 0, 0)) (pc' := 63) (ls' := [some (.inl (some A)), some (zi xi), some (zi bi2476), some (zi ci2476)]) (st' := []) (by decide +kernel) (fun k q => by cases q) rfl ?_
      refine y_same (i := .aload_n 0) (len := 1) (r := (0, 0, 0, 0)) (pc' := 64) (ls' := [some (.inl (some A)), some (zi xi), some (zi bi2476), some (zi ci2476)]) (st' := [.inl (some A)]) (by decide +kernel) (fun k q => by cases q) rfl ?_
      refine y_same (i := .iload_n 1) (len := 1) (r := (0, 0, 0, 0)) (pc' := 65) (ls' := [some (.inl (some A)), some (zi xi), some (zi bi2476), some (zi ci2476)]) (st' := [zi xi, .inl (some A)]) (by decide +kernel) (fun k q => by cases q) rfl ?_
      refine y_cI (i := .invokestatic 259) (len := 3) (r := (1, 199, 12, 1654)) (nL := 1) (k := 1) (n := 1) (hs := []) (args := [zi xi]) (rest := [.inl (some A)]) (l0 := [some (zi xi)]) (by decide +kernel) (Or.inl ⟨_, rfl⟩) rfl rfl rfl rfl (Nat.le_of_ble_eq_true rfl) rfl rfl (qI_le (by omega) (e_claimIn (d := 0) (by omega) (by omega))) (fun y2480 qy2480 hRy2480 => ?_)
      obtain ⟨rfl, hy2480⟩ := hRy2480
      refine y_ial (i := (136 + 4 * i)) (len := 1) (r := (0, 0, 0, 0)) (by decide +kernel) Q.1 tA aT (by omega) hai2476 ?_
      refine y_ic (c := 1) (len := 1) (r := (0, 0, 0, 0)) (by decide +kernel) (by decide) (fun y2481 hy2481 => ?_)
      rcases Decidable.em (ai2476.toInt ≠ y2481.toInt) with q2482 | q2482
      ·
        refine y_cT (c := .ne) (off := 11) (pc' := 81) (len := 3) (r := (0, 0, 0, 0)) (by decide +kernel) (acmpT (c := .ne) (by show ¬ (_ = _); omega)) (by decide +kernel) ?_
        refine y_same (i := .aload_n 0) (len := 1) (r := (0, 0, 0, 0)) (pc' := 82) (ls' := [some (.inl (some A)), some (zi xi), some (zi bi2476), some (zi ci2476)]) (st' := [.inl (some A)]) (by decide +kernel) (fun k q => by cases q) rfl ?_
        refine y_same (i := .iload_n 2) (len := 1) (r := (0, 0, 0, 0)) (pc' := 83) (ls' := [some (.inl (some A)), some (zi xi), some (zi bi2476), some (zi ci2476)]) (st' := [zi bi2476, .inl (some A)]) (by decide +kernel) (fun k q => by cases q) rfl ?_
        refine y_same (i := .iload_n 3) (len := 1) (r := (0, 0, 0, 0)) (pc' := 84) (ls' := [some (.inl (some A)), some (zi xi), some (zi bi2476), some (zi ci2476)]) (st' := [zi ci2476, zi bi2476, .inl (some A)]) (by decide +kernel) (fun k q => by cases q) rfl ?_
        refine y_cI (i := .invokestatic 298) (len := 3) (r := (1, 212, 12, 1727)) (nL := 5) (k := 2) (n := 3) (hs := []) (args := [.inl (some A), zi bi2476, zi ci2476]) (rest := []) (l0 := [some (.inl (some A)), some (zi bi2476), some (zi ci2476), none, none]) (by decide +kernel) (Or.inl ⟨_, rfl⟩) rfl rfl rfl rfl (Nat.le_of_ble_eq_true rfl) rfl rfl (qI_le (by omega) (m_kn (d := 0) (x := i2476.2.1) (y := i2476.2.2.1) Q (by omega) (by omega) (by omega) (by omega))) (fun y2483 qy2483 hRy2483 => ?_)
        obtain ⟨rfl, hDy2483⟩ := hRy2483
        rcases hDy2483 with ⟨vy2483, ty2483⟩ | ⟨vy2483, ty2483⟩
        ·
          refine y_iT (c := .ne) (off := 6) (pc' := 93) (len := 3) (r := (0, 0, 0, 0)) (by decide +kernel) (acmpT (c := .ne) (by show ¬ (_ = _); omega)) (by decide +kernel) ?_
          refine y_same (i := .aload_n 0) (len := 1) (r := (0, 0, 0, 0)) (pc' := 94) (ls' := [some (.inl (some A)), some (zi xi), some (zi bi2476), some (zi ci2476)]) (st' := [.inl (some A)]) (by decide +kernel) (fun k q => by cases q) rfl ?_
          refine y_ic (c := 2) (len := 1) (r := (0, 0, 0, 0)) (by decide +kernel) (by decide) (fun y2484 hy2484 => ?_)
          refine y_si (c := 136) (len := 3) (r := (0, 0, 0, 0)) (by decide +kernel) (by decide) (fun y2485 hy2485 => ?_)
          refine y_same (i := .iload_n 1) (len := 1) (r := (0, 0, 0, 0)) (pc' := 99) (ls' := [some (.inl (some A)), some (zi xi), some (zi bi2476), some (zi ci2476)]) (st' := [zi xi, zi y2485, zi y2484, .inl (some A)]) (by decide +kernel) (fun k q => by cases q) rfl ?_
          refine y_cV (i := .invokestatic 269) (len := 3) (r := (1, 207, 12, 1657)) (nL := 5) (k := 0) (n := 4) (hs := []) (args := [.inl (some A), zi y2484, zi y2485, zi xi]) (rest := []) (l0 := [some (.inl (some A)), some (zi y2484), some (zi y2485), some (zi xi), none]) (by decide +kernel) (Or.inl ⟨_, rfl⟩) rfl rfl rfl rfl (Nat.le_of_ble_eq_true rfl) rfl rfl (qV_le (by omega) (m_goC (d := 0) (k := i) Q (by omega) (by omega) (by omega) (by omega))) (fun h2486 hR2486 => ?_)
          obtain ⟨Q2486, F2486⟩ := hR2486
          refine y_ic (c := 1) (len := 1) (r := (0, 0, 0, 0)) (by decide +kernel) (by decide) (fun y2487 hy2487 => ?_)
          refine y_rI (len := 1) (r := (0, 0, 0, 0)) (nL := 4) (k := 2) (n9 := 1) (hs := []) (by decide +kernel) rfl (zfit_b (by omega) (by omega)).2 ?_
          have hk9 := (List.getElem?_eq_some_iff.mp ki2476).1
          have v9 : rv s.1 s.2.2.2 i2476 := Or.inr ⟨by omega, ty2483⟩
          exact Or.inl ⟨by omega, _, ⟨Or.inr (Or.inr (Or.inr (Or.inl ⟨⟨re, nr⟩, i, i2476, ki2476, v9, rfl⟩))), mr2_of (mq_erC hk9)⟩, Q2486, F2486⟩
        ·
          refine y_iF (c := .ne) (off := 6) (len := 3) (r := (0, 0, 0, 0)) (by decide +kernel) (acmpF (c := .ne) (by show _ = _; omega)) ?_
          refine y_goto (off := 14) (pc' := 104) (len := 3) (r := (0, 0, 0, 0)) (by decide +kernel) (by decide +kernel) ?_
          refine y_inc (j := 1) (a := xi) (c := 1) (ls' := fun v => [some (.inl (some A)), some v, some (zi bi2476), some (zi ci2476)]) (len := 3) (r := (0, 0, 0, 0)) (by decide +kernel) rfl (fun _ => rfl) (by decide) (by omega) (by omega) (fun y2488 hy2488 => ?_)
          show qX (d + 3) 216 107 [some (.inl (some A)), some (zi y2488), some (zi bi2476), some (zi ci2476)] [] h t _
          refine y_goto (off := (-69)) (pc' := 38) (len := 3) (r := (0, 0, 0, 0)) (by decide +kernel) (by decide +kernel) ?_
          refine ih (i + 1) y2488 (some (zi bi2476)) (some (zi ci2476)) (by omega) (by omega) (fun j q hj h2 => ?_) (by omega)
          rcases Nat.lt_or_ge j i with q9 | q9
          · exact c1 j q q9 h2
          · obtain rfl : j = i := by omega
            cases ki2476.symm.trans h2
            exact fun q8 => q8.elim (fun q7 => by omega) (fun q7 => ty2483 q7.2)
      ·
        refine y_cF (c := .ne) (off := 11) (len := 3) (r := (0, 0, 0, 0)) (by decide +kernel) (acmpF (c := .ne) (by show _ = _; omega)) ?_
        refine y_same (i := .iload_n 2) (len := 1) (r := (0, 0, 0, 0)) (pc' := 74) (ls' := [some (.inl (some A)), some (zi xi), some (zi bi2476), some (zi ci2476)]) (st' := [zi bi2476]) (by decide +kernel) (fun k q => by cases q) rfl ?_
        refine y_same (i := .iload_n 3) (len := 1) (r := (0, 0, 0, 0)) (pc' := 75) (ls' := [some (.inl (some A)), some (zi xi), some (zi bi2476), some (zi ci2476)]) (st' := [zi ci2476, zi bi2476]) (by decide +kernel) (fun k q => by cases q) rfl ?_
        rcases Decidable.em (bi2476.toInt = ci2476.toInt) with q2489 | q2489
        ·
          refine y_cT (c := .eq) (off := 18) (pc' := 93) (len := 3) (r := (0, 0, 0, 0)) (by decide +kernel) (acmpT (c := .eq) (by show _ = _; omega)) (by decide +kernel) ?_
          refine y_same (i := .aload_n 0) (len := 1) (r := (0, 0, 0, 0)) (pc' := 94) (ls' := [some (.inl (some A)), some (zi xi), some (zi bi2476), some (zi ci2476)]) (st' := [.inl (some A)]) (by decide +kernel) (fun k q => by cases q) rfl ?_
          refine y_ic (c := 2) (len := 1) (r := (0, 0, 0, 0)) (by decide +kernel) (by decide) (fun y2490 hy2490 => ?_)
          refine y_si (c := 136) (len := 3) (r := (0, 0, 0, 0)) (by decide +kernel) (by decide) (fun y2491 hy2491 => ?_)
          refine y_same (i := .iload_n 1) (len := 1) (r := (0, 0, 0, 0)) (pc' := 99) (ls' := [some (.inl (some A)), some (zi xi), some (zi bi2476), some (zi ci2476)]) (st' := [zi xi, zi y2491, zi y2490, .inl (some A)]) (by decide +kernel) (fun k q => by cases q) rfl ?_
          refine y_cV (i := .invokestatic 269) (len := 3) (r := (1, 207, 12, 1657)) (nL := 5) (k := 0) (n := 4) (hs := []) (args := [.inl (some A), zi y2490, zi y2491, zi xi]) (rest := []) (l0 := [some (.inl (some A)), some (zi y2490), some (zi y2491), some (zi xi), none]) (by decide +kernel) (Or.inl ⟨_, rfl⟩) rfl rfl rfl rfl (Nat.le_of_ble_eq_true rfl) rfl rfl (qV_le (by omega) (m_goC (d := 0) (k := i) Q (by omega) (by omega) (by omega) (by omega))) (fun h2492 hR2492 => ?_)
          obtain ⟨Q2492, F2492⟩ := hR2492
          refine y_ic (c := 1) (len := 1) (r := (0, 0, 0, 0)) (by decide +kernel) (by decide) (fun y2493 hy2493 => ?_)
          refine y_rI (len := 1) (r := (0, 0, 0, 0)) (nL := 4) (k := 2) (n9 := 1) (hs := []) (by decide +kernel) rfl (zfit_b (by omega) (by omega)).2 ?_
          have hk9 := (List.getElem?_eq_some_iff.mp ki2476).1
          have v9 : rv s.1 s.2.2.2 i2476 := Or.inl ⟨by omega, by omega⟩
          exact Or.inl ⟨by omega, _, ⟨Or.inr (Or.inr (Or.inr (Or.inl ⟨⟨re, nr⟩, i, i2476, ki2476, v9, rfl⟩))), mr2_of (mq_erC hk9)⟩, Q2492, F2492⟩
        ·
          refine y_cF (c := .eq) (off := 18) (len := 3) (r := (0, 0, 0, 0)) (by decide +kernel) (acmpF (c := .eq) (by show ¬ (_ = _); omega)) ?_
          refine y_goto (off := 26) (pc' := 104) (len := 3) (r := (0, 0, 0, 0)) (by decide +kernel) (by decide +kernel) ?_
          refine y_inc (j := 1) (a := xi) (c := 1) (ls' := fun v => [some (.inl (some A)), some v, some (zi bi2476), some (zi ci2476)]) (len := 3) (r := (0, 0, 0, 0)) (by decide +kernel) rfl (fun _ => rfl) (by decide) (by omega) (by omega) (fun y2494 hy2494 => ?_)
          show qX (d + 3) 216 107 [some (.inl (some A)), some (zi y2494), some (zi bi2476), some (zi ci2476)] [] h t _
          refine y_goto (off := (-69)) (pc' := 38) (len := 3) (r := (0, 0, 0, 0)) (by decide +kernel) (by decide +kernel) ?_
          refine ih (i + 1) y2494 (some (zi bi2476)) (some (zi ci2476)) (by omega) (by omega) (fun j q hj h2 => ?_) (by omega)
          rcases Nat.lt_or_ge j i with q9 | q9
          · exact c1 j q q9 h2
          · obtain rfl : j = i := by omega
            cases ki2476.symm.trans h2
            exact fun q8 => q8.elim (fun q7 => by omega) (fun q7 => by omega)
theorem rrm_r {d t A : Nat} {τ : List Nat} {h : zh} {s : sqT} (Q : QM τ h A s) (nv : ¬ vd_ s) (re : rest s.1) : ∀ (n : Nat) (i : Nat) (xi : Int32) (l2 : Option zv) (l3 : Option zv), (xi.toInt = (i : Int)) → (i ≤ s.2.1.length) → (∀ (j : Nat) (q : it4), j < i → s.2.1[j]? = some q → ¬ trv q) → (s.2.1.length < i + n) → qX (d + 3) 216 2 [some (.inl (some A)), some (zi xi), l2, l3] [] h t (rI (sdm_ τ A h s (nrm s)) t) := by
  intro n
  induction n with
  | zero =>
    intro i xi l2 l3 hxi hi c1 hn
    exfalso
    omega
  | succ n ih =>
    intro i xi l2 l3 hxi hi c1 hn
    obtain ⟨T, c0, tA, aT, hc0, pT⟩ := Q.2.1
    refine y_same (i := .iload_n 1) (len := 1) (r := (0, 0, 0, 0)) (pc' := 3) (ls' := [some (.inl (some A)), some (zi xi), l2, l3]) (st' := [zi xi]) (by decide +kernel) (fun k q => by cases q) rfl ?_
    refine y_same (i := .aload_n 0) (len := 1) (r := (0, 0, 0, 0)) (pc' := 4) (ls' := [some (.inl (some A)), some (zi xi), l2, l3]) (st' := [.inl (some A), zi xi]) (by decide +kernel) (fun k q => by cases q) rfl ?_
    refine y_ic (c := 1) (len := 1) (r := (0, 0, 0, 0)) (by decide +kernel) (by decide) (fun y2495 hy2495 => ?_)
    obtain ⟨z2496, hz2496, ez2496⟩ := Q.2.2.1.2.1
    have ez2496 : z2496.toInt = ((s.2.1.length : Nat) : Int) := ez2496
    have mz2496 := qm_lenR Q
    have mz2496 : s.2.1.length ≤ 14 := mz2496
    refine y_ial (i := 1) (len := 1) (r := (0, 0, 0, 0)) (by decide +kernel) Q.1 tA aT (by omega) hz2496 ?_
    rcases Decidable.em (xi.toInt ≥ z2496.toInt) with q2497 | q2497
    ·
      refine y_cT (c := .ge) (off := 30) (pc' := 36) (len := 3) (r := (0, 0, 0, 0)) (by decide +kernel) (acmpT (c := .ge) (by show _ ≤ _; omega)) (by decide +kernel) ?_
      refine y_ic (c := 0) (len := 1) (r := (0, 0, 0, 0)) (by decide +kernel) (by decide) (fun y2498 hy2498 => ?_)
      refine y_same (i := .istore_n 1) (len := 1) (r := (0, 0, 0, 0)) (pc' := 38) (ls' := [some (.inl (some A)), some (zi y2498), l2, l3]) (st' := []) (by decide +kernel) (fun k q => by cases q) rfl ?_
      exact rrm_c Q nv re (fun q m9 => by obtain ⟨j, hj⟩ := List.getElem?_of_mem m9; exact c1 j q (by have := (List.getElem?_eq_some_iff.mp hj).1; omega) hj) (s.2.2.1.length + 1) 0 y2498 l2 l3 (by omega) (by omega) (fun j _ hj => absurd hj (Nat.not_lt_zero j)) (by omega)
    ·
      refine y_cF (c := .ge) (off := 30) (len := 3) (r := (0, 0, 0, 0)) (by decide +kernel) (acmpF (c := .ge) (by show _ < _; omega)) ?_
      refine y_same (i := .aload_n 0) (len := 1) (r := (0, 0, 0, 0)) (pc' := 10) (ls' := [some (.inl (some A)), some (zi xi), l2, l3]) (st' := [.inl (some A)]) (by decide +kernel) (fun k q => by cases q) rfl ?_
      refine y_same (i := .iload_n 1) (len := 1) (r := (0, 0, 0, 0)) (pc' := 11) (ls' := [some (.inl (some A)), some (zi xi), l2, l3]) (st' := [zi xi, .inl (some A)]) (by decide +kernel) (fun k q => by cases q) rfl ?_
      refine y_cI (i := .invokestatic 256) (len := 3) (r := (1, 198, 12, 1651)) (nL := 1) (k := 1) (n := 1) (hs := []) (args := [zi xi]) (rest := [.inl (some A)]) (l0 := [some (zi xi)]) (by decide +kernel) (Or.inl ⟨_, rfl⟩) rfl rfl rfl rfl (Nat.le_of_ble_eq_true rfl) rfl rfl (qI_le (by omega) (e_rightAt (d := 0) (by omega) (by omega))) (fun y2499 qy2499 hRy2499 => ?_)
      obtain ⟨rfl, hy2499⟩ := hRy2499
      obtain ⟨i2501, ki2501⟩ : ∃ i9, s.2.1[i]? = some i9 := ⟨_, List.getElem?_eq_getElem (by omega)⟩
      have oi2501 := okQ_R Q.2.2.2 ki2501
      have pi2501 := oi2501.1
      unfold okV at pi2501
      obtain ⟨ai2501, bi2501, ci2501, di2501, ⟨hai2501, hbi2501, hci2501, hdi2501⟩, eai2501, ebi2501, eci2501, edi2501⟩ := qm_itR Q ki2501
      refine y_cI (i := .invokestatic 280) (len := 3) (r := (1, 214, 12, 1721)) (nL := 2) (k := 2) (n := 2) (hs := []) (args := [.inl (some A), zi y2499]) (rest := []) (l0 := [some (.inl (some A)), some (zi y2499)]) (by decide +kernel) (Or.inl ⟨_, rfl⟩) rfl rfl rfl rfl (Nat.le_of_ble_eq_true rfl) rfl rfl (qI_le (by omega) (m_nthR (d := 0) (k := i) Q (by omega) ki2501)) (fun y2500 qy2500 hRy2500 => ?_)
      obtain ⟨rfl, hDy2500⟩ := hRy2500
      rcases hDy2500 with ⟨vy2500, ty2500⟩ | ⟨vy2500, ty2500⟩
      ·
        refine y_iT (c := .ne) (off := 6) (pc' := 23) (len := 3) (r := (0, 0, 0, 0)) (by decide +kernel) (acmpT (c := .ne) (by show ¬ (_ = _); omega)) (by decide +kernel) ?_
        refine y_same (i := .aload_n 0) (len := 1) (r := (0, 0, 0, 0)) (pc' := 24) (ls' := [some (.inl (some A)), some (zi xi), l2, l3]) (st' := [.inl (some A)]) (by decide +kernel) (fun k q => by cases q) rfl ?_
        refine y_same (i := .iload_n 1) (len := 1) (r := (0, 0, 0, 0)) (pc' := 25) (ls' := [some (.inl (some A)), some (zi xi), l2, l3]) (st' := [zi xi, .inl (some A)]) (by decide +kernel) (fun k q => by cases q) rfl ?_
        refine y_cV (i := .invokestatic 295) (len := 3) (r := (1, 209, 12, 1679)) (nL := 2) (k := 0) (n := 2) (hs := []) (args := [.inl (some A), zi xi]) (rest := []) (l0 := [some (.inl (some A)), some (zi xi)]) (by decide +kernel) (Or.inl ⟨_, rfl⟩) rfl rfl rfl rfl (Nat.le_of_ble_eq_true rfl) rfl rfl (qV_le (by omega) (m_goR1 (d := 0) (k := i) Q (by omega) (by omega))) (fun h2502 hR2502 => ?_)
        obtain ⟨Q2502, F2502⟩ := hR2502
        refine y_ic (c := 1) (len := 1) (r := (0, 0, 0, 0)) (by decide +kernel) (by decide) (fun y2503 hy2503 => ?_)
        refine y_rI (len := 1) (r := (0, 0, 0, 0)) (nL := 4) (k := 2) (n9 := 1) (hs := []) (by decide +kernel) rfl (zfit_b (by omega) (by omega)).2 ?_
        have hk9 := (List.getElem?_eq_some_iff.mp ki2501).1
        exact Or.inl ⟨by omega, _, ⟨Or.inr (Or.inr (Or.inl ⟨re, i, i2501, ki2501, ty2500, rfl⟩)), mr2_of (mq_erR hk9)⟩, Q2502, F2502⟩
      ·
        refine y_iF (c := .ne) (off := 6) (len := 3) (r := (0, 0, 0, 0)) (by decide +kernel) (acmpF (c := .ne) (by show _ = _; omega)) ?_
        refine y_goto (off := 10) (pc' := 30) (len := 3) (r := (0, 0, 0, 0)) (by decide +kernel) (by decide +kernel) ?_
        refine y_inc (j := 1) (a := xi) (c := 1) (ls' := fun v => [some (.inl (some A)), some v, l2, l3]) (len := 3) (r := (0, 0, 0, 0)) (by decide +kernel) rfl (fun _ => rfl) (by decide) (by omega) (by omega) (fun y2504 hy2504 => ?_)
        show qX (d + 3) 216 33 [some (.inl (some A)), some (zi y2504), l2, l3] [] h t _
        refine y_goto (off := (-31)) (pc' := 2) (len := 3) (r := (0, 0, 0, 0)) (by decide +kernel) (by decide +kernel) ?_
        refine ih (i + 1) y2504 l2 l3 (by omega) (by omega) (fun j q hj h2 => ?_) (by omega)
        rcases Nat.lt_or_ge j i with q9 | q9
        · exact c1 j q q9 h2
        · obtain rfl : j = i := by omega
          cases ki2501.symm.trans h2
          exact ty2500
theorem m_rdR {d t A : Nat} {τ : List Nat} {h : zh} {s : sqT} (Q : QM τ h A s) (nv : ¬ vd_ s) (re : rest s.1) : qI (d + 4) 216 [some (.inl (some A)), none, none, none] h t (sdm_ τ A h s (nrm s)) := by
  refine qI_of ?_
  refine y_ic (c := 0) (len := 1) (r := (0, 0, 0, 0)) (by decide +kernel) (by decide) (fun y2505 hy2505 => ?_)
  refine y_same (i := .istore_n 1) (len := 1) (r := (0, 0, 0, 0)) (pc' := 2) (ls' := [some (.inl (some A)), some (zi y2505), none, none]) (st' := []) (by decide +kernel) (fun k q => by cases q) rfl ?_
  exact rrm_r Q nv re (s.2.1.length + 1) 0 y2505 none none (by omega) (by omega) (fun j _ hj => absurd hj (Nat.not_lt_zero j)) (by omega)
theorem rlm_ti {d t A : Nat} {τ : List Nat} {h : zh} {s : sqT} (Q : QM τ h A s) (nv : ¬ vd_ s) (nt : ∀ q ∈ s.1, ¬ trv q) {i : Nat} {ik : it4} {xi : Int32} (hxi : xi.toInt = (i : Int)) (kik : s.1[i]? = some ik) (kk : ∀ l2 : Option zv, (∀ (j : Nat) (q : it4), j < i → s.1[j]? = some q → ik.1 = 3 → q.1 = 3 → q.2.1 ≠ ik.2.1) → qX (d + 4) 215 236 [some (.inl (some A)), some (zi xi), l2] [] h t (rI (sdm_ τ A h s (nrm s)) t)) : ∀ (n : Nat) (j : Nat) (xj : Int32), (xj.toInt = (j : Int)) → (j ≤ i) → (∀ (j9 : Nat) (q : it4), j9 < j → s.1[j9]? = some q → ik.1 = 3 → q.1 = 3 → q.2.1 ≠ ik.2.1) → (i < j + n) → qX (d + 4) 215 168 [some (.inl (some A)), some (zi xi), some (zi xj)] [] h t (rI (sdm_ τ A h s (nrm s)) t) := by
  intro n
  induction n with
  | zero =>
    intro j xj hxj hj c1 hn
    exfalso
    omega
  | succ n ih =>
    intro j xj hxj hj c1 hn
    obtain ⟨T, c0, tA, aT, hc0, pT⟩ := Q.2.1
    have hi9 := (List.getElem?_eq_some_iff.mp kik).1
    have ml9 := qm_lenL Q
    have oik := okQ_L Q.2.2.2 kik
    have pik := oik.1
    unfold okV at pik
    obtain ⟨aik, bik, cik, dik, ⟨haik, hbik, hcik, hdik⟩, eaik, ebik, ecik, edik⟩ := qm_itL Q kik
    refine y_same (i := .iload_n 2) (len := 1) (r := (0, 0, 0, 0)) (pc' := 169) (ls' := [some (.inl (some A)), some (zi xi), some (zi xj)]) (st' := [zi xj]) (by decide +kernel) (fun k q => by cases q) rfl ?_
    refine y_same (i := .iload_n 1) (len := 1) (r := (0, 0, 0, 0)) (pc' := 170) (ls' := [some (.inl (some A)), some (zi xi), some (zi xj)]) (st' := [zi xi, zi xj]) (by decide +kernel) (fun k q => by cases q) rfl ?_
    rcases Decidable.em (xj.toInt ≥ xi.toInt) with q2506 | q2506
    ·
      refine y_cT (c := .ge) (off := 66) (pc' := 236) (len := 3) (r := (0, 0, 0, 0)) (by decide +kernel) (acmpT (c := .ge) (by show _ ≤ _; omega)) (by decide +kernel) ?_
      exact kk _ (fun j9 q hj h2 => c1 j9 q (by omega) h2)
    ·
      refine y_cF (c := .ge) (off := 66) (len := 3) (r := (0, 0, 0, 0)) (by decide +kernel) (acmpF (c := .ge) (by show _ < _; omega)) ?_
      refine y_same (i := .aload_n 0) (len := 1) (r := (0, 0, 0, 0)) (pc' := 174) (ls' := [some (.inl (some A)), some (zi xi), some (zi xj)]) (st' := [.inl (some A)]) (by decide +kernel) (fun k q => by cases q) rfl ?_
      refine y_same (i := .iload_n 1) (len := 1) (r := (0, 0, 0, 0)) (pc' := 175) (ls' := [some (.inl (some A)), some (zi xi), some (zi xj)]) (st' := [zi xi, .inl (some A)]) (by decide +kernel) (fun k q => by cases q) rfl ?_
      refine y_cI (i := .invokestatic 249) (len := 3) (r := (1, 197, 12, 1644)) (nL := 1) (k := 1) (n := 1) (hs := []) (args := [zi xi]) (rest := [.inl (some A)]) (l0 := [some (zi xi)]) (by decide +kernel) (Or.inl ⟨_, rfl⟩) rfl rfl rfl rfl (Nat.le_of_ble_eq_true rfl) rfl rfl (qI_le (by omega) (e_leftAt (d := 0) (by omega) (by omega))) (fun y2507 qy2507 hRy2507 => ?_)
      obtain ⟨rfl, hy2507⟩ := hRy2507
      refine y_ial (i := (24 + 4 * i)) (len := 1) (r := (0, 0, 0, 0)) (by decide +kernel) Q.1 tA aT (by omega) haik ?_
      refine y_ic (c := 3) (len := 1) (r := (0, 0, 0, 0)) (by decide +kernel) (by decide) (fun y2508 hy2508 => ?_)
      rcases Decidable.em (aik.toInt ≠ y2508.toInt) with q2509 | q2509
      ·
        refine y_cT (c := .ne) (off := 50) (pc' := 230) (len := 3) (r := (0, 0, 0, 0)) (by decide +kernel) (acmpT (c := .ne) (by show ¬ (_ = _); omega)) (by decide +kernel) ?_
        refine y_inc (j := 2) (a := xj) (c := 1) (ls' := fun v => [some (.inl (some A)), some (zi xi), some v]) (len := 3) (r := (0, 0, 0, 0)) (by decide +kernel) rfl (fun _ => rfl) (by decide) (by omega) (by omega) (fun y2510 hy2510 => ?_)
        show qX (d + 4) 215 233 [some (.inl (some A)), some (zi xi), some (zi y2510)] [] h t _
        refine y_goto (off := (-65)) (pc' := 168) (len := 3) (r := (0, 0, 0, 0)) (by decide +kernel) (by decide +kernel) ?_
        refine ih (j + 1) y2510 (by omega) (by omega) (fun j9 q hj h2 => ?_) (by omega)
        rcases Nat.lt_or_ge j9 j with q9 | q9
        · exact c1 j9 q q9 h2
        · obtain rfl : j9 = j := by omega
          intro z1 z2
          omega
      ·
        refine y_cF (c := .ne) (off := 50) (len := 3) (r := (0, 0, 0, 0)) (by decide +kernel) (acmpF (c := .ne) (by show _ = _; omega)) ?_
        refine y_same (i := .aload_n 0) (len := 1) (r := (0, 0, 0, 0)) (pc' := 184) (ls' := [some (.inl (some A)), some (zi xi), some (zi xj)]) (st' := [.inl (some A)]) (by decide +kernel) (fun k q => by cases q) rfl ?_
        refine y_same (i := .iload_n 2) (len := 1) (r := (0, 0, 0, 0)) (pc' := 185) (ls' := [some (.inl (some A)), some (zi xi), some (zi xj)]) (st' := [zi xj, .inl (some A)]) (by decide +kernel) (fun k q => by cases q) rfl ?_
        refine y_cI (i := .invokestatic 249) (len := 3) (r := (1, 197, 12, 1644)) (nL := 1) (k := 1) (n := 1) (hs := []) (args := [zi xj]) (rest := [.inl (some A)]) (l0 := [some (zi xj)]) (by decide +kernel) (Or.inl ⟨_, rfl⟩) rfl rfl rfl rfl (Nat.le_of_ble_eq_true rfl) rfl rfl (qI_le (by omega) (e_leftAt (d := 0) (by omega) (by omega))) (fun y2511 qy2511 hRy2511 => ?_)
        obtain ⟨rfl, hy2511⟩ := hRy2511
        obtain ⟨i2512, ki2512⟩ : ∃ i9, s.1[j]? = some i9 := ⟨_, List.getElem?_eq_getElem (by omega)⟩
        have oi2512 := okQ_L Q.2.2.2 ki2512
        have pi2512 := oi2512.1
        unfold okV at pi2512
        obtain ⟨ai2512, bi2512, ci2512, di2512, ⟨hai2512, hbi2512, hci2512, hdi2512⟩, eai2512, ebi2512, eci2512, edi2512⟩ := qm_itL Q ki2512
        refine y_ial (i := (24 + 4 * j)) (len := 1) (r := (0, 0, 0, 0)) (by decide +kernel) Q.1 tA aT (by omega) hai2512 ?_
        refine y_ic (c := 3) (len := 1) (r := (0, 0, 0, 0)) (by decide +kernel) (by decide) (fun y2513 hy2513 => ?_)
        rcases Decidable.em (ai2512.toInt ≠ y2513.toInt) with q2514 | q2514
        ·
          refine y_cT (c := .ne) (off := 40) (pc' := 230) (len := 3) (r := (0, 0, 0, 0)) (by decide +kernel) (acmpT (c := .ne) (by show ¬ (_ = _); omega)) (by decide +kernel) ?_
          refine y_inc (j := 2) (a := xj) (c := 1) (ls' := fun v => [some (.inl (some A)), some (zi xi), some v]) (len := 3) (r := (0, 0, 0, 0)) (by decide +kernel) rfl (fun _ => rfl) (by decide) (by omega) (by omega) (fun y2515 hy2515 => ?_)
          show qX (d + 4) 215 233 [some (.inl (some A)), some (zi xi), some (zi y2515)] [] h t _
          refine y_goto (off := (-65)) (pc' := 168) (len := 3) (r := (0, 0, 0, 0)) (by decide +kernel) (by decide +kernel) ?_
          refine ih (j + 1) y2515 (by omega) (by omega) (fun j9 q hj h2 => ?_) (by omega)
          rcases Nat.lt_or_ge j9 j with q9 | q9
          · exact c1 j9 q q9 h2
          · obtain rfl : j9 = j := by omega
            cases ki2512.symm.trans h2
            intro z1 z2
            omega
        ·
          refine y_cF (c := .ne) (off := 40) (len := 3) (r := (0, 0, 0, 0)) (by decide +kernel) (acmpF (c := .ne) (by show _ = _; omega)) ?_
          refine y_same (i := .aload_n 0) (len := 1) (r := (0, 0, 0, 0)) (pc' := 194) (ls' := [some (.inl (some A)), some (zi xi), some (zi xj)]) (st' := [.inl (some A)]) (by decide +kernel) (fun k q => by cases q) rfl ?_
          refine y_same (i := .iload_n 1) (len := 1) (r := (0, 0, 0, 0)) (pc' := 195) (ls' := [some (.inl (some A)), some (zi xi), some (zi xj)]) (st' := [zi xi, .inl (some A)]) (by decide +kernel) (fun k q => by cases q) rfl ?_
          refine y_cI (i := .invokestatic 249) (len := 3) (r := (1, 197, 12, 1644)) (nL := 1) (k := 1) (n := 1) (hs := []) (args := [zi xi]) (rest := [.inl (some A)]) (l0 := [some (zi xi)]) (by decide +kernel) (Or.inl ⟨_, rfl⟩) rfl rfl rfl rfl (Nat.le_of_ble_eq_true rfl) rfl rfl (qI_le (by omega) (e_leftAt (d := 0) (by omega) (by omega))) (fun y2516 qy2516 hRy2516 => ?_)
          obtain ⟨rfl, hy2516⟩ := hRy2516
          refine y_ic (c := 1) (len := 1) (r := (0, 0, 0, 0)) (by decide +kernel) (by decide) (fun y2517 hy2517 => ?_)
          refine y_add (len := 1) (r := (0, 0, 0, 0)) (by decide +kernel) (by omega) (by omega) (fun y2518 hy2518 => ?_)
          refine y_ial (i := ((24 + 4 * i) + 1)) (len := 1) (r := (0, 0, 0, 0)) (by decide +kernel) Q.1 tA aT (by omega) hbik ?_
          refine y_same (i := .aload_n 0) (len := 1) (r := (0, 0, 0, 0)) (pc' := 202) (ls' := [some (.inl (some A)), some (zi xi), some (zi xj)]) (st' := [.inl (some A), zi bik]) (by decide +kernel) (fun k q => by cases q) rfl ?_
          refine y_same (i := .iload_n 2) (len := 1) (r := (0, 0, 0, 0)) (pc' := 203) (ls' := [some (.inl (some A)), some (zi xi), some (zi xj)]) (st' := [zi xj, .inl (some A), zi bik]) (by decide +kernel) (fun k q => by cases q) rfl ?_
          refine y_cI (i := .invokestatic 249) (len := 3) (r := (1, 197, 12, 1644)) (nL := 1) (k := 1) (n := 1) (hs := []) (args := [zi xj]) (rest := [.inl (some A), zi bik]) (l0 := [some (zi xj)]) (by decide +kernel) (Or.inl ⟨_, rfl⟩) rfl rfl rfl rfl (Nat.le_of_ble_eq_true rfl) rfl rfl (qI_le (by omega) (e_leftAt (d := 0) (by omega) (by omega))) (fun y2519 qy2519 hRy2519 => ?_)
          obtain ⟨rfl, hy2519⟩ := hRy2519
          refine y_ic (c := 1) (len := 1) (r := (0, 0, 0, 0)) (by decide +kernel) (by decide) (fun y2520 hy2520 => ?_)
          refine y_add (len := 1) (r := (0, 0, 0, 0)) (by decide +kernel) (by omega) (by omega) (fun y2521 hy2521 => ?_)
          refine y_ial (i := ((24 + 4 * j) + 1)) (len := 1) (r := (0, 0, 0, 0)) (by decide +kernel) Q.1 tA aT (by omega) hbi2512 ?_
          rcases Decidable.em (bik.toInt = bi2512.toInt) with q2522 | q2522
          ·
            refine y_cT (c := .eq) (off := 6) (pc' := 215) (len := 3) (r := (0, 0, 0, 0)) (by decide +kernel) (acmpT (c := .eq) (by show _ = _; omega)) (by decide +kernel) ?_
            refine y_same (i := .aload_n 0) (len := 1) (r := (0, 0, 0, 0)) (pc' := 216) (ls' := [some (.inl (some A)), some (zi xi), some (zi xj)]) (st' := [.inl (some A)]) (by decide +kernel) (fun k q => by cases q) rfl ?_
            refine y_same (i := .aload_n 0) (len := 1) (r := (0, 0, 0, 0)) (pc' := 217) (ls' := [some (.inl (some A)), some (zi xi), some (zi xj)]) (st' := [.inl (some A), .inl (some A)]) (by decide +kernel) (fun k q => by cases q) rfl ?_
            refine y_same (i := .iload_n 1) (len := 1) (r := (0, 0, 0, 0)) (pc' := 218) (ls' := [some (.inl (some A)), some (zi xi), some (zi xj)]) (st' := [zi xi, .inl (some A), .inl (some A)]) (by decide +kernel) (fun k q => by cases q) rfl ?_
            refine y_cI (i := .invokestatic 249) (len := 3) (r := (1, 197, 12, 1644)) (nL := 1) (k := 1) (n := 1) (hs := []) (args := [zi xi]) (rest := [.inl (some A), .inl (some A)]) (l0 := [some (zi xi)]) (by decide +kernel) (Or.inl ⟨_, rfl⟩) rfl rfl rfl rfl (Nat.le_of_ble_eq_true rfl) rfl rfl (qI_le (by omega) (e_leftAt (d := 0) (by omega) (by omega))) (fun y2523 qy2523 hRy2523 => ?_)
            obtain ⟨rfl, hy2523⟩ := hRy2523
            refine y_ic (c := 1) (len := 1) (r := (0, 0, 0, 0)) (by decide +kernel) (by decide) (fun y2524 hy2524 => ?_)
            refine y_add (len := 1) (r := (0, 0, 0, 0)) (by decide +kernel) (by omega) (by omega) (fun y2525 hy2525 => ?_)
            refine y_ial (i := ((24 + 4 * i) + 1)) (len := 1) (r := (0, 0, 0, 0)) (by decide +kernel) Q.1 tA aT (by omega) hbik ?_
            refine y_ic (c := 0) (len := 1) (r := (0, 0, 0, 0)) (by decide +kernel) (by decide) (fun y2526 hy2526 => ?_)
            refine y_cV (i := .invokestatic 288) (len := 3) (r := (1, 206, 12, 1660)) (nL := 7) (k := 0) (n := 3) (hs := []) (args := [.inl (some A), zi bik, zi y2526]) (rest := []) (l0 := [some (.inl (some A)), some (zi bik), some (zi y2526), none, none, none, none]) (by decide +kernel) (Or.inl ⟨_, rfl⟩) rfl rfl rfl rfl (Nat.le_of_ble_eq_true rfl) rfl rfl (qV_le (by omega) (m_mk (d := 0) (x := ik.2.1) (y := 0) Q (by omega) (by omega) (by omega) (by omega))) (fun h2527 hR2527 => ?_)
            obtain ⟨Q2527, F2527⟩ := hR2527
            refine y_ic (c := 1) (len := 1) (r := (0, 0, 0, 0)) (by decide +kernel) (by decide) (fun y2528 hy2528 => ?_)
            refine y_rI (len := 1) (r := (0, 0, 0, 0)) (nL := 3) (k := 2) (n9 := 1) (hs := []) (by decide +kernel) rfl (zfit_b (by omega) (by omega)).2 ?_
            have tw : two_ s.1 ik.2.1 := ⟨j, i, i2512, ik, by omega, ki2512, kik, by omega, by omega, by omega, rfl⟩
            have ak : asks s.1 (ik.2.1) 0 := Or.inr (Or.inr ⟨tw, rfl⟩)
            exact Or.inl ⟨by omega, _, ⟨Or.inr (Or.inl ⟨ik.2.1, 0, ak, rfl⟩), mr2_of (asks_mq Q.2.2.2 nt ak)⟩, Q2527, F2527⟩
          ·
            refine y_cF (c := .eq) (off := 6) (len := 3) (r := (0, 0, 0, 0)) (by decide +kernel) (acmpF (c := .eq) (by show ¬ (_ = _); omega)) ?_
            refine y_goto (off := 18) (pc' := 230) (len := 3) (r := (0, 0, 0, 0)) (by decide +kernel) (by decide +kernel) ?_
            refine y_inc (j := 2) (a := xj) (c := 1) (ls' := fun v => [some (.inl (some A)), some (zi xi), some v]) (len := 3) (r := (0, 0, 0, 0)) (by decide +kernel) rfl (fun _ => rfl) (by decide) (by omega) (by omega) (fun y2529 hy2529 => ?_)
            show qX (d + 4) 215 233 [some (.inl (some A)), some (zi xi), some (zi y2529)] [] h t _
            refine y_goto (off := (-65)) (pc' := 168) (len := 3) (r := (0, 0, 0, 0)) (by decide +kernel) (by decide +kernel) ?_
            refine ih (j + 1) y2529 (by omega) (by omega) (fun j9 q hj h2 => ?_) (by omega)
            rcases Nat.lt_or_ge j9 j with q9 | q9
            · exact c1 j9 q q9 h2
            · obtain rfl : j9 = j := by omega
              cases ki2512.symm.trans h2
              intro z1 z2
              omega
theorem rlm_to {d t A : Nat} {τ : List Nat} {h : zh} {s : sqT} (Q : QM τ h A s) (nv : ¬ vd_ s) (nt : ∀ q ∈ s.1, ¬ trv q) (n1 : ∀ p ∈ s.1, p.1 = 2 → p.2.1 ≠ 0) (n2 : ∀ p ∈ s.1, p.1 = 2 → ∀ q ∈ s.1, q.1 ≤ 1 → q.2.1 ≠ p.2.1) : ∀ (n : Nat) (i : Nat) (xi : Int32) (l2 : Option zv), (xi.toInt = (i : Int)) → (i ≤ s.1.length) → (∀ (i9 j9 : Nat) (p q : it4), i9 < i → j9 < i9 → s.1[i9]? = some p → s.1[j9]? = some q → p.1 = 3 → q.1 = 3 → q.2.1 ≠ p.2.1) → (s.1.length < i + n) → qX (d + 4) 215 159 [some (.inl (some A)), some (zi xi), l2] [] h t (rI (sdm_ τ A h s (nrm s)) t) := by
  intro n
  induction n with
  | zero =>
    intro i xi l2 hxi hi c1 hn
    exfalso
    omega
  | succ n ih =>
    intro i xi l2 hxi hi c1 hn
    obtain ⟨T, c0, tA, aT, hc0, pT⟩ := Q.2.1
    refine y_same (i := .iload_n 1) (len := 1) (r := (0, 0, 0, 0)) (pc' := 160) (ls' := [some (.inl (some A)), some (zi xi), l2]) (st' := [zi xi]) (by decide +kernel) (fun k q => by cases q) rfl ?_
    refine y_same (i := .aload_n 0) (len := 1) (r := (0, 0, 0, 0)) (pc' := 161) (ls' := [some (.inl (some A)), some (zi xi), l2]) (st' := [.inl (some A), zi xi]) (by decide +kernel) (fun k q => by cases q) rfl ?_
    refine y_ic (c := 0) (len := 1) (r := (0, 0, 0, 0)) (by decide +kernel) (by decide) (fun y2530 hy2530 => ?_)
    obtain ⟨z2531, hz2531, ez2531⟩ := Q.2.2.1.1
    have ez2531 : z2531.toInt = ((s.1.length : Nat) : Int) := ez2531
    have mz2531 := qm_lenL Q
    have mz2531 : s.1.length ≤ 14 := mz2531
    refine y_ial (i := 0) (len := 1) (r := (0, 0, 0, 0)) (by decide +kernel) Q.1 tA aT (by omega) hz2531 ?_
    rcases Decidable.em (xi.toInt ≥ z2531.toInt) with q2532 | q2532
    ·
      refine y_cT (c := .ge) (off := 79) (pc' := 242) (len := 3) (r := (0, 0, 0, 0)) (by decide +kernel) (acmpT (c := .ge) (by show _ ≤ _; omega)) (by decide +kernel) ?_
      refine y_same (i := .aload_n 0) (len := 1) (r := (0, 0, 0, 0)) (pc' := 243) (ls' := [some (.inl (some A)), some (zi xi), l2]) (st' := [.inl (some A)]) (by decide +kernel) (fun k q => by cases q) rfl ?_
      refine y_cI (i := .invokestatic 291) (len := 3) (r := (1, 216, 12, 1724)) (nL := 4) (k := 2) (n := 1) (hs := []) (args := [.inl (some A)]) (rest := []) (l0 := [some (.inl (some A)), none, none, none]) (by decide +kernel) (Or.inl ⟨_, rfl⟩) rfl rfl rfl rfl (Nat.le_of_ble_eq_true rfl) rfl rfl (qI_le (by omega) (m_rdR (d := 0) Q nv ⟨nt, n1, n2, fun x ⟨i9, j9, p, q, h8, h2, h3, h1, h4, h5, h6⟩ => c1 j9 i9 q p (by have := (List.getElem?_eq_some_iff.mp h3).1; omega) h8 h3 h2 h4 h1 (by omega)⟩)) (fun y2533 h2533 hR2533 => ?_)
      have v2533 : y2533.toInt = 0 ∨ y2533.toInt = 1 := by
        unfold sdm_ at hR2533
        rcases hR2533 with ⟨q1, -⟩ | ⟨q1, -, -⟩ <;> omega
      refine y_rI (len := 1) (r := (0, 0, 0, 0)) (nL := 3) (k := 2) (n9 := 1) (hs := []) (by decide +kernel) rfl (zfit_b (by omega) (by omega)).2 ?_
      unfold sdm_ at hR2533
      rcases hR2533 with ⟨q1, q2⟩ | ⟨q1, rfl, q2⟩
      · exact Or.inl ⟨q1, q2⟩
      · exact Or.inr ⟨q1, rfl, q2⟩
    ·
      refine y_cF (c := .ge) (off := 79) (len := 3) (r := (0, 0, 0, 0)) (by decide +kernel) (acmpF (c := .ge) (by show _ < _; omega)) ?_
      refine y_ic (c := 0) (len := 1) (r := (0, 0, 0, 0)) (by decide +kernel) (by decide) (fun y2534 hy2534 => ?_)
      refine y_same (i := .istore_n 2) (len := 1) (r := (0, 0, 0, 0)) (pc' := 168) (ls' := [some (.inl (some A)), some (zi xi), some (zi y2534)]) (st' := []) (by decide +kernel) (fun k q => by cases q) rfl ?_
      obtain ⟨ik, kik⟩ : ∃ i9, s.1[i]? = some i9 := ⟨_, List.getElem?_eq_getElem (by omega)⟩
      refine rlm_ti Q nv nt hxi kik (fun l9 c9 => ?_) (i + 1) 0 y2534 (by omega) (by omega) (fun j9 _ hj => absurd hj (Nat.not_lt_zero j9)) (by omega)
      refine y_inc (j := 1) (a := xi) (c := 1) (ls' := fun v => [some (.inl (some A)), some v, l9]) (len := 3) (r := (0, 0, 0, 0)) (by decide +kernel) rfl (fun _ => rfl) (by decide) (by omega) (by omega) (fun y2535 hy2535 => ?_)
      show qX (d + 4) 215 239 [some (.inl (some A)), some (zi y2535), l9] [] h t _
      refine y_goto (off := (-80)) (pc' := 159) (len := 3) (r := (0, 0, 0, 0)) (by decide +kernel) (by decide +kernel) ?_
      refine ih (i + 1) y2535 l9 (by omega) (by omega) (fun i9 j9 p q hi9 hj9 h2 h3 => ?_) (by omega)
      rcases Nat.lt_or_ge i9 i with q9 | q9
      · exact c1 i9 j9 p q q9 hj9 h2 h3
      · obtain rfl : i9 = i := by omega
        cases kik.symm.trans h2
        exact c9 j9 q hj9 h3
theorem rlm_o {d t A : Nat} {τ : List Nat} {h : zh} {s : sqT} (Q : QM τ h A s) (nv : ¬ vd_ s) (nt : ∀ q ∈ s.1, ¬ trv q) (n1 : ∀ p ∈ s.1, p.1 = 2 → p.2.1 ≠ 0) : ∀ (n : Nat) (i : Nat) (xi : Int32) (l2 : Option zv), (xi.toInt = (i : Int)) → (i ≤ s.1.length) → (∀ (j : Nat) (q : it4), j < i → s.1[j]? = some q → q.1 = 2 → ∀ r ∈ s.1, r.1 ≤ 1 → r.2.1 ≠ q.2.1) → (s.1.length < i + n) → qX (d + 4) 215 92 [some (.inl (some A)), some (zi xi), l2] [] h t (rI (sdm_ τ A h s (nrm s)) t) := by
  intro n
  induction n with
  | zero =>
    intro i xi l2 hxi hi c1 hn
    exfalso
    omega
  | succ n ih =>
    intro i xi l2 hxi hi c1 hn
    obtain ⟨T, c0, tA, aT, hc0, pT⟩ := Q.2.1
    refine y_same (i := .iload_n 1) (len := 1) (r := (0, 0, 0, 0)) (pc' := 93) (ls' := [some (.inl (some A)), some (zi xi), l2]) (st' := [zi xi]) (by decide +kernel) (fun k q => by cases q) rfl ?_
    refine y_same (i := .aload_n 0) (len := 1) (r := (0, 0, 0, 0)) (pc' := 94) (ls' := [some (.inl (some A)), some (zi xi), l2]) (st' := [.inl (some A), zi xi]) (by decide +kernel) (fun k q => by cases q) rfl ?_
    refine y_ic (c := 0) (len := 1) (r := (0, 0, 0, 0)) (by decide +kernel) (by decide) (fun y2536 hy2536 => ?_)
    obtain ⟨z2537, hz2537, ez2537⟩ := Q.2.2.1.1
    have ez2537 : z2537.toInt = ((s.1.length : Nat) : Int) := ez2537
    have mz2537 := qm_lenL Q
    have mz2537 : s.1.length ≤ 14 := mz2537
    refine y_ial (i := 0) (len := 1) (r := (0, 0, 0, 0)) (by decide +kernel) Q.1 tA aT (by omega) hz2537 ?_
    rcases Decidable.em (xi.toInt ≥ z2537.toInt) with q2538 | q2538
    ·
      refine y_cT (c := .ge) (off := 61) (pc' := 157) (len := 3) (r := (0, 0, 0, 0)) (by decide +kernel) (acmpT (c := .ge) (by show _ ≤ _; omega)) (by decide +kernel) ?_
      refine y_ic (c := 0) (len := 1) (r := (0, 0, 0, 0)) (by decide +kernel) (by decide) (fun y2539 hy2539 => ?_)
      refine y_same (i := .istore_n 1) (len := 1) (r := (0, 0, 0, 0)) (pc' := 159) (ls' := [some (.inl (some A)), some (zi y2539), l2]) (st' := []) (by decide +kernel) (fun k q => by cases q) rfl ?_
      exact rlm_to Q nv nt n1 (fun q m9 h1 => by obtain ⟨j, hj⟩ := List.getElem?_of_mem m9; exact c1 j q (by have := (List.getElem?_eq_some_iff.mp hj).1; omega) hj h1) (s.1.length + 1) 0 y2539 l2 (by omega) (by omega) (fun i9 _ _ _ hj => absurd hj (Nat.not_lt_zero i9)) (by omega)
    ·
      refine y_cF (c := .ge) (off := 61) (len := 3) (r := (0, 0, 0, 0)) (by decide +kernel) (acmpF (c := .ge) (by show _ < _; omega)) ?_
      refine y_same (i := .aload_n 0) (len := 1) (r := (0, 0, 0, 0)) (pc' := 100) (ls' := [some (.inl (some A)), some (zi xi), l2]) (st' := [.inl (some A)]) (by decide +kernel) (fun k q => by cases q) rfl ?_
      refine y_same (i := .iload_n 1) (len := 1) (r := (0, 0, 0, 0)) (pc' := 101) (ls' := [some (.inl (some A)), some (zi xi), l2]) (st' := [zi xi, .inl (some A)]) (by decide +kernel) (fun k q => by cases q) rfl ?_
      refine y_cI (i := .invokestatic 249) (len := 3) (r := (1, 197, 12, 1644)) (nL := 1) (k := 1) (n := 1) (hs := []) (args := [zi xi]) (rest := [.inl (some A)]) (l0 := [some (zi xi)]) (by decide +kernel) (Or.inl ⟨_, rfl⟩) rfl rfl rfl rfl (Nat.le_of_ble_eq_true rfl) rfl rfl (qI_le (by omega) (e_leftAt (d := 0) (by omega) (by omega))) (fun y2540 qy2540 hRy2540 => ?_)
      obtain ⟨rfl, hy2540⟩ := hRy2540
      obtain ⟨i2541, ki2541⟩ : ∃ i9, s.1[i]? = some i9 := ⟨_, List.getElem?_eq_getElem (by omega)⟩
      have oi2541 := okQ_L Q.2.2.2 ki2541
      have pi2541 := oi2541.1
      unfold okV at pi2541
      obtain ⟨ai2541, bi2541, ci2541, di2541, ⟨hai2541, hbi2541, hci2541, hdi2541⟩, eai2541, ebi2541, eci2541, edi2541⟩ := qm_itL Q ki2541
      refine y_ial (i := (24 + 4 * i)) (len := 1) (r := (0, 0, 0, 0)) (by decide +kernel) Q.1 tA aT (by omega) hai2541 ?_
      refine y_ic (c := 2) (len := 1) (r := (0, 0, 0, 0)) (by decide +kernel) (by decide) (fun y2542 hy2542 => ?_)
      rcases Decidable.em (ai2541.toInt ≠ y2542.toInt) with q2543 | q2543
      ·
        refine y_cT (c := .ne) (off := 45) (pc' := 151) (len := 3) (r := (0, 0, 0, 0)) (by decide +kernel) (acmpT (c := .ne) (by show ¬ (_ = _); omega)) (by decide +kernel) ?_
        refine y_inc (j := 1) (a := xi) (c := 1) (ls' := fun v => [some (.inl (some A)), some v, l2]) (len := 3) (r := (0, 0, 0, 0)) (by decide +kernel) rfl (fun _ => rfl) (by decide) (by omega) (by omega) (fun y2544 hy2544 => ?_)
        show qX (d + 4) 215 154 [some (.inl (some A)), some (zi y2544), l2] [] h t _
        refine y_goto (off := (-62)) (pc' := 92) (len := 3) (r := (0, 0, 0, 0)) (by decide +kernel) (by decide +kernel) ?_
        refine ih (i + 1) y2544 l2 (by omega) (by omega) (fun j q hj h2 h1 => ?_) (by omega)
        rcases Nat.lt_or_ge j i with q9 | q9
        · exact c1 j q q9 h2 h1
        · obtain rfl : j = i := by omega
          cases ki2541.symm.trans h2
          omega
      ·
        refine y_cF (c := .ne) (off := 45) (len := 3) (r := (0, 0, 0, 0)) (by decide +kernel) (acmpF (c := .ne) (by show _ = _; omega)) ?_
        refine y_same (i := .aload_n 0) (len := 1) (r := (0, 0, 0, 0)) (pc' := 110) (ls' := [some (.inl (some A)), some (zi xi), l2]) (st' := [.inl (some A)]) (by decide +kernel) (fun k q => by cases q) rfl ?_
        refine y_same (i := .aload_n 0) (len := 1) (r := (0, 0, 0, 0)) (pc' := 111) (ls' := [some (.inl (some A)), some (zi xi), l2]) (st' := [.inl (some A), .inl (some A)]) (by decide +kernel) (fun k q => by cases q) rfl ?_
        refine y_same (i := .iload_n 1) (len := 1) (r := (0, 0, 0, 0)) (pc' := 112) (ls' := [some (.inl (some A)), some (zi xi), l2]) (st' := [zi xi, .inl (some A), .inl (some A)]) (by decide +kernel) (fun k q => by cases q) rfl ?_
        refine y_cI (i := .invokestatic 249) (len := 3) (r := (1, 197, 12, 1644)) (nL := 1) (k := 1) (n := 1) (hs := []) (args := [zi xi]) (rest := [.inl (some A), .inl (some A)]) (l0 := [some (zi xi)]) (by decide +kernel) (Or.inl ⟨_, rfl⟩) rfl rfl rfl rfl (Nat.le_of_ble_eq_true rfl) rfl rfl (qI_le (by omega) (e_leftAt (d := 0) (by omega) (by omega))) (fun y2545 qy2545 hRy2545 => ?_)
        obtain ⟨rfl, hy2545⟩ := hRy2545
        refine y_ic (c := 1) (len := 1) (r := (0, 0, 0, 0)) (by decide +kernel) (by decide) (fun y2546 hy2546 => ?_)
        refine y_add (len := 1) (r := (0, 0, 0, 0)) (by decide +kernel) (by omega) (by omega) (fun y2547 hy2547 => ?_)
        refine y_ial (i := ((24 + 4 * i) + 1)) (len := 1) (r := (0, 0, 0, 0)) (by decide +kernel) Q.1 tA aT (by omega) hbi2541 ?_
        refine y_ic (c := 0) (len := 1) (r := (0, 0, 0, 0)) (by decide +kernel) (by decide) (fun y2548 hy2548 => ?_)
        refine y_cI (i := .invokestatic 276) (len := 3) (r := (1, 211, 12, 1712)) (nL := 4) (k := 1) (n := 3) (hs := []) (args := [.inl (some A), zi bi2541, zi y2548]) (rest := []) (l0 := [some (.inl (some A)), some (zi bi2541), some (zi y2548), none]) (by decide +kernel) (Or.inl ⟨_, rfl⟩) rfl rfl rfl rfl (Nat.le_of_ble_eq_true rfl) rfl rfl (qI_le (by omega) (m_cat (d := 0) (x := i2541.2.1) (f := 0) Q (by omega) (by omega))) (fun y2549 qy2549 hRy2549 => ?_)
        obtain ⟨rfl, hDy2549⟩ := hRy2549
        rcases hDy2549 with ⟨ky2549, qy2549, vy2549, fy2549, gy2549, cy2549, xy2549⟩ | ⟨vy2549, ny2549⟩
        ·
          refine y_ic (c := (-1)) (len := 1) (r := (0, 0, 0, 0)) (by decide +kernel) (by decide) (fun y2550 hy2550 => ?_)
          refine y_cT (c := .ne) (off := 6) (pc' := 129) (len := 3) (r := (0, 0, 0, 0)) (by decide +kernel) (acmpT (c := .ne) (by show ¬ (_ = _); omega)) (by decide +kernel) ?_
          refine y_same (i := .aload_n 0) (len := 1) (r := (0, 0, 0, 0)) (pc' := 130) (ls' := [some (.inl (some A)), some (zi xi), l2]) (st' := [.inl (some A)]) (by decide +kernel) (fun k q => by cases q) rfl ?_
          refine y_same (i := .aload_n 0) (len := 1) (r := (0, 0, 0, 0)) (pc' := 131) (ls' := [some (.inl (some A)), some (zi xi), l2]) (st' := [.inl (some A), .inl (some A)]) (by decide +kernel) (fun k q => by cases q) rfl ?_
          refine y_same (i := .iload_n 1) (len := 1) (r := (0, 0, 0, 0)) (pc' := 132) (ls' := [some (.inl (some A)), some (zi xi), l2]) (st' := [zi xi, .inl (some A), .inl (some A)]) (by decide +kernel) (fun k q => by cases q) rfl ?_
          refine y_cI (i := .invokestatic 249) (len := 3) (r := (1, 197, 12, 1644)) (nL := 1) (k := 1) (n := 1) (hs := []) (args := [zi xi]) (rest := [.inl (some A), .inl (some A)]) (l0 := [some (zi xi)]) (by decide +kernel) (Or.inl ⟨_, rfl⟩) rfl rfl rfl rfl (Nat.le_of_ble_eq_true rfl) rfl rfl (qI_le (by omega) (e_leftAt (d := 0) (by omega) (by omega))) (fun y2551 qy2551 hRy2551 => ?_)
          obtain ⟨rfl, hy2551⟩ := hRy2551
          refine y_ic (c := 1) (len := 1) (r := (0, 0, 0, 0)) (by decide +kernel) (by decide) (fun y2552 hy2552 => ?_)
          refine y_add (len := 1) (r := (0, 0, 0, 0)) (by decide +kernel) (by omega) (by omega) (fun y2553 hy2553 => ?_)
          refine y_ial (i := ((24 + 4 * i) + 1)) (len := 1) (r := (0, 0, 0, 0)) (by decide +kernel) Q.1 tA aT (by omega) hbi2541 ?_
          refine y_same (i := .aload_n 0) (len := 1) (r := (0, 0, 0, 0)) (pc' := 139) (ls' := [some (.inl (some A)), some (zi xi), l2]) (st' := [.inl (some A), zi bi2541, .inl (some A)]) (by decide +kernel) (fun k q => by cases q) rfl ?_
          refine y_same (i := .iload_n 1) (len := 1) (r := (0, 0, 0, 0)) (pc' := 140) (ls' := [some (.inl (some A)), some (zi xi), l2]) (st' := [zi xi, .inl (some A), zi bi2541, .inl (some A)]) (by decide +kernel) (fun k q => by cases q) rfl ?_
          refine y_cI (i := .invokestatic 249) (len := 3) (r := (1, 197, 12, 1644)) (nL := 1) (k := 1) (n := 1) (hs := []) (args := [zi xi]) (rest := [.inl (some A), zi bi2541, .inl (some A)]) (l0 := [some (zi xi)]) (by decide +kernel) (Or.inl ⟨_, rfl⟩) rfl rfl rfl rfl (Nat.le_of_ble_eq_true rfl) rfl rfl (qI_le (by omega) (e_leftAt (d := 0) (by omega) (by omega))) (fun y2554 qy2554 hRy2554 => ?_)
          obtain ⟨rfl, hy2554⟩ := hRy2554
          refine y_ic (c := 2) (len := 1) (r := (0, 0, 0, 0)) (by decide +kernel) (by decide) (fun y2555 hy2555 => ?_)
          refine y_add (len := 1) (r := (0, 0, 0, 0)) (by decide +kernel) (by omega) (by omega) (fun y2556 hy2556 => ?_)
          refine y_ial (i := ((24 + 4 * i) + 2)) (len := 1) (r := (0, 0, 0, 0)) (by decide +kernel) Q.1 tA aT (by omega) hci2541 ?_
          refine y_cV (i := .invokestatic 288) (len := 3) (r := (1, 206, 12, 1660)) (nL := 7) (k := 0) (n := 3) (hs := []) (args := [.inl (some A), zi bi2541, zi ci2541]) (rest := []) (l0 := [some (.inl (some A)), some (zi bi2541), some (zi ci2541), none, none, none, none]) (by decide +kernel) (Or.inl ⟨_, rfl⟩) rfl rfl rfl rfl (Nat.le_of_ble_eq_true rfl) rfl rfl (qV_le (by omega) (m_mk (d := 0) (x := i2541.2.1) (y := i2541.2.2.1) Q (by omega) (by omega) (by omega) (by omega))) (fun h2557 hR2557 => ?_)
          obtain ⟨Q2557, F2557⟩ := hR2557
          refine y_ic (c := 1) (len := 1) (r := (0, 0, 0, 0)) (by decide +kernel) (by decide) (fun y2558 hy2558 => ?_)
          refine y_rI (len := 1) (r := (0, 0, 0, 0)) (nL := 3) (k := 2) (n9 := 1) (hs := []) (by decide +kernel) rfl (zfit_b (by omega) (by omega)).2 ?_
          have m9 := List.mem_of_getElem? ki2541
          have ak : asks s.1 (i2541.2.1) (i2541.2.2.1) := Or.inr (Or.inl ⟨i2541, m9, by omega, rfl, rfl, qy2549, List.mem_of_getElem? gy2549, cy2549, xy2549⟩)
          exact Or.inl ⟨by omega, _, ⟨Or.inr (Or.inl ⟨i2541.2.1, i2541.2.2.1, ak, rfl⟩), mr2_of (asks_mq Q.2.2.2 nt ak)⟩, Q2557, F2557⟩
        ·
          refine y_ic (c := (-1)) (len := 1) (r := (0, 0, 0, 0)) (by decide +kernel) (by decide) (fun y2559 hy2559 => ?_)
          refine y_cF (c := .ne) (off := 6) (len := 3) (r := (0, 0, 0, 0)) (by decide +kernel) (acmpF (c := .ne) (by show _ = _; omega)) ?_
          refine y_goto (off := 25) (pc' := 151) (len := 3) (r := (0, 0, 0, 0)) (by decide +kernel) (by decide +kernel) ?_
          refine y_inc (j := 1) (a := xi) (c := 1) (ls' := fun v => [some (.inl (some A)), some v, l2]) (len := 3) (r := (0, 0, 0, 0)) (by decide +kernel) rfl (fun _ => rfl) (by decide) (by omega) (by omega) (fun y2560 hy2560 => ?_)
          show qX (d + 4) 215 154 [some (.inl (some A)), some (zi y2560), l2] [] h t _
          refine y_goto (off := (-62)) (pc' := 92) (len := 3) (r := (0, 0, 0, 0)) (by decide +kernel) (by decide +kernel) ?_
          refine ih (i + 1) y2560 l2 (by omega) (by omega) (fun j q hj h2 h1 => ?_) (by omega)
          rcases Nat.lt_or_ge j i with q9 | q9
          · exact c1 j q q9 h2 h1
          · obtain rfl : j = i := by omega
            cases ki2541.symm.trans h2
            exact fun r m k e => by obtain ⟨j9, hj9⟩ := List.getElem?_of_mem m; exact ny2549 j9 r (Nat.zero_le _) hj9 k e
theorem rlm_z {d t A : Nat} {τ : List Nat} {h : zh} {s : sqT} (Q : QM τ h A s) (nv : ¬ vd_ s) (nt : ∀ q ∈ s.1, ¬ trv q) : ∀ (n : Nat) (i : Nat) (xi : Int32) (l2 : Option zv), (xi.toInt = (i : Int)) → (i ≤ s.1.length) → (∀ (j : Nat) (q : it4), j < i → s.1[j]? = some q → q.1 = 2 → q.2.1 ≠ 0) → (s.1.length < i + n) → qX (d + 4) 215 38 [some (.inl (some A)), some (zi xi), l2] [] h t (rI (sdm_ τ A h s (nrm s)) t) := by
  intro n
  induction n with
  | zero =>
    intro i xi l2 hxi hi c1 hn
    exfalso
    omega
  | succ n ih =>
    intro i xi l2 hxi hi c1 hn
    obtain ⟨T, c0, tA, aT, hc0, pT⟩ := Q.2.1
    refine y_same (i := .iload_n 1) (len := 1) (r := (0, 0, 0, 0)) (pc' := 39) (ls' := [some (.inl (some A)), some (zi xi), l2]) (st' := [zi xi]) (by decide +kernel) (fun k q => by cases q) rfl ?_
    refine y_same (i := .aload_n 0) (len := 1) (r := (0, 0, 0, 0)) (pc' := 40) (ls' := [some (.inl (some A)), some (zi xi), l2]) (st' := [.inl (some A), zi xi]) (by decide +kernel) (fun k q => by cases q) rfl ?_
    refine y_ic (c := 0) (len := 1) (r := (0, 0, 0, 0)) (by decide +kernel) (by decide) (fun y2561 hy2561 => ?_)
    obtain ⟨z2562, hz2562, ez2562⟩ := Q.2.2.1.1
    have ez2562 : z2562.toInt = ((s.1.length : Nat) : Int) := ez2562
    have mz2562 := qm_lenL Q
    have mz2562 : s.1.length ≤ 14 := mz2562
    refine y_ial (i := 0) (len := 1) (r := (0, 0, 0, 0)) (by decide +kernel) Q.1 tA aT (by omega) hz2562 ?_
    rcases Decidable.em (xi.toInt ≥ z2562.toInt) with q2563 | q2563
    ·
      refine y_cT (c := .ge) (off := 48) (pc' := 90) (len := 3) (r := (0, 0, 0, 0)) (by decide +kernel) (acmpT (c := .ge) (by show _ ≤ _; omega)) (by decide +kernel) ?_
      refine y_ic (c := 0) (len := 1) (r := (0, 0, 0, 0)) (by decide +kernel) (by decide) (fun y2564 hy2564 => ?_)
      refine y_same (i := .istore_n 1) (len := 1) (r := (0, 0, 0, 0)) (pc' := 92) (ls' := [some (.inl (some A)), some (zi y2564), l2]) (st' := []) (by decide +kernel) (fun k q => by cases q) rfl ?_
      exact rlm_o Q nv nt (fun q m9 h1 => by obtain ⟨j, hj⟩ := List.getElem?_of_mem m9; exact c1 j q (by have := (List.getElem?_eq_some_iff.mp hj).1; omega) hj h1) (s.1.length + 1) 0 y2564 l2 (by omega) (by omega) (fun j _ hj => absurd hj (Nat.not_lt_zero j)) (by omega)
    ·
      refine y_cF (c := .ge) (off := 48) (len := 3) (r := (0, 0, 0, 0)) (by decide +kernel) (acmpF (c := .ge) (by show _ < _; omega)) ?_
      refine y_same (i := .aload_n 0) (len := 1) (r := (0, 0, 0, 0)) (pc' := 46) (ls' := [some (.inl (some A)), some (zi xi), l2]) (st' := [.inl (some A)]) (by decide +kernel) (fun k q => by cases q) rfl ?_
      refine y_same (i := .iload_n 1) (len := 1) (r := (0, 0, 0, 0)) (pc' := 47) (ls' := [some (.inl (some A)), some (zi xi), l2]) (st' := [zi xi, .inl (some A)]) (by decide +kernel) (fun k q => by cases q) rfl ?_
      refine y_cI (i := .invokestatic 249) (len := 3) (r := (1, 197, 12, 1644)) (nL := 1) (k := 1) (n := 1) (hs := []) (args := [zi xi]) (rest := [.inl (some A)]) (l0 := [some (zi xi)]) (by decide +kernel) (Or.inl ⟨_, rfl⟩) rfl rfl rfl rfl (Nat.le_of_ble_eq_true rfl) rfl rfl (qI_le (by omega) (e_leftAt (d := 0) (by omega) (by omega))) (fun y2565 qy2565 hRy2565 => ?_)
      obtain ⟨rfl, hy2565⟩ := hRy2565
      obtain ⟨i2566, ki2566⟩ : ∃ i9, s.1[i]? = some i9 := ⟨_, List.getElem?_eq_getElem (by omega)⟩
      have oi2566 := okQ_L Q.2.2.2 ki2566
      have pi2566 := oi2566.1
      unfold okV at pi2566
      obtain ⟨ai2566, bi2566, ci2566, di2566, ⟨hai2566, hbi2566, hci2566, hdi2566⟩, eai2566, ebi2566, eci2566, edi2566⟩ := qm_itL Q ki2566
      refine y_ial (i := (24 + 4 * i)) (len := 1) (r := (0, 0, 0, 0)) (by decide +kernel) Q.1 tA aT (by omega) hai2566 ?_
      refine y_ic (c := 2) (len := 1) (r := (0, 0, 0, 0)) (by decide +kernel) (by decide) (fun y2567 hy2567 => ?_)
      rcases Decidable.em (ai2566.toInt ≠ y2567.toInt) with q2568 | q2568
      ·
        refine y_cT (c := .ne) (off := 32) (pc' := 84) (len := 3) (r := (0, 0, 0, 0)) (by decide +kernel) (acmpT (c := .ne) (by show ¬ (_ = _); omega)) (by decide +kernel) ?_
        refine y_inc (j := 1) (a := xi) (c := 1) (ls' := fun v => [some (.inl (some A)), some v, l2]) (len := 3) (r := (0, 0, 0, 0)) (by decide +kernel) rfl (fun _ => rfl) (by decide) (by omega) (by omega) (fun y2569 hy2569 => ?_)
        show qX (d + 4) 215 87 [some (.inl (some A)), some (zi y2569), l2] [] h t _
        refine y_goto (off := (-49)) (pc' := 38) (len := 3) (r := (0, 0, 0, 0)) (by decide +kernel) (by decide +kernel) ?_
        refine ih (i + 1) y2569 l2 (by omega) (by omega) (fun j q hj h2 h1 => ?_) (by omega)
        rcases Nat.lt_or_ge j i with q9 | q9
        · exact c1 j q q9 h2 h1
        · obtain rfl : j = i := by omega
          cases ki2566.symm.trans h2
          omega
      ·
        refine y_cF (c := .ne) (off := 32) (len := 3) (r := (0, 0, 0, 0)) (by decide +kernel) (acmpF (c := .ne) (by show _ = _; omega)) ?_
        refine y_same (i := .aload_n 0) (len := 1) (r := (0, 0, 0, 0)) (pc' := 56) (ls' := [some (.inl (some A)), some (zi xi), l2]) (st' := [.inl (some A)]) (by decide +kernel) (fun k q => by cases q) rfl ?_
        refine y_same (i := .iload_n 1) (len := 1) (r := (0, 0, 0, 0)) (pc' := 57) (ls' := [some (.inl (some A)), some (zi xi), l2]) (st' := [zi xi, .inl (some A)]) (by decide +kernel) (fun k q => by cases q) rfl ?_
        refine y_cI (i := .invokestatic 249) (len := 3) (r := (1, 197, 12, 1644)) (nL := 1) (k := 1) (n := 1) (hs := []) (args := [zi xi]) (rest := [.inl (some A)]) (l0 := [some (zi xi)]) (by decide +kernel) (Or.inl ⟨_, rfl⟩) rfl rfl rfl rfl (Nat.le_of_ble_eq_true rfl) rfl rfl (qI_le (by omega) (e_leftAt (d := 0) (by omega) (by omega))) (fun y2570 qy2570 hRy2570 => ?_)
        obtain ⟨rfl, hy2570⟩ := hRy2570
        refine y_ic (c := 1) (len := 1) (r := (0, 0, 0, 0)) (by decide +kernel) (by decide) (fun y2571 hy2571 => ?_)
        refine y_add (len := 1) (r := (0, 0, 0, 0)) (by decide +kernel) (by omega) (by omega) (fun y2572 hy2572 => ?_)
        refine y_ial (i := ((24 + 4 * i) + 1)) (len := 1) (r := (0, 0, 0, 0)) (by decide +kernel) Q.1 tA aT (by omega) hbi2566 ?_
        rcases Decidable.em (bi2566.toInt = 0) with q2573 | q2573
        ·
          refine y_iT (c := .eq) (off := 6) (pc' := 69) (len := 3) (r := (0, 0, 0, 0)) (by decide +kernel) (acmpT (c := .eq) (by show _ = _; omega)) (by decide +kernel) ?_
          refine y_same (i := .aload_n 0) (len := 1) (r := (0, 0, 0, 0)) (pc' := 70) (ls' := [some (.inl (some A)), some (zi xi), l2]) (st' := [.inl (some A)]) (by decide +kernel) (fun k q => by cases q) rfl ?_
          refine y_same (i := .aload_n 0) (len := 1) (r := (0, 0, 0, 0)) (pc' := 71) (ls' := [some (.inl (some A)), some (zi xi), l2]) (st' := [.inl (some A), .inl (some A)]) (by decide +kernel) (fun k q => by cases q) rfl ?_
          refine y_same (i := .iload_n 1) (len := 1) (r := (0, 0, 0, 0)) (pc' := 72) (ls' := [some (.inl (some A)), some (zi xi), l2]) (st' := [zi xi, .inl (some A), .inl (some A)]) (by decide +kernel) (fun k q => by cases q) rfl ?_
          refine y_cI (i := .invokestatic 249) (len := 3) (r := (1, 197, 12, 1644)) (nL := 1) (k := 1) (n := 1) (hs := []) (args := [zi xi]) (rest := [.inl (some A), .inl (some A)]) (l0 := [some (zi xi)]) (by decide +kernel) (Or.inl ⟨_, rfl⟩) rfl rfl rfl rfl (Nat.le_of_ble_eq_true rfl) rfl rfl (qI_le (by omega) (e_leftAt (d := 0) (by omega) (by omega))) (fun y2574 qy2574 hRy2574 => ?_)
          obtain ⟨rfl, hy2574⟩ := hRy2574
          refine y_ic (c := 2) (len := 1) (r := (0, 0, 0, 0)) (by decide +kernel) (by decide) (fun y2575 hy2575 => ?_)
          refine y_add (len := 1) (r := (0, 0, 0, 0)) (by decide +kernel) (by omega) (by omega) (fun y2576 hy2576 => ?_)
          refine y_ial (i := ((24 + 4 * i) + 2)) (len := 1) (r := (0, 0, 0, 0)) (by decide +kernel) Q.1 tA aT (by omega) hci2566 ?_
          refine y_ic (c := 0) (len := 1) (r := (0, 0, 0, 0)) (by decide +kernel) (by decide) (fun y2577 hy2577 => ?_)
          refine y_cV (i := .invokestatic 288) (len := 3) (r := (1, 206, 12, 1660)) (nL := 7) (k := 0) (n := 3) (hs := []) (args := [.inl (some A), zi ci2566, zi y2577]) (rest := []) (l0 := [some (.inl (some A)), some (zi ci2566), some (zi y2577), none, none, none, none]) (by decide +kernel) (Or.inl ⟨_, rfl⟩) rfl rfl rfl rfl (Nat.le_of_ble_eq_true rfl) rfl rfl (qV_le (by omega) (m_mk (d := 0) (x := i2566.2.2.1) (y := 0) Q (by omega) (by omega) (by omega) (by omega))) (fun h2578 hR2578 => ?_)
          obtain ⟨Q2578, F2578⟩ := hR2578
          refine y_ic (c := 1) (len := 1) (r := (0, 0, 0, 0)) (by decide +kernel) (by decide) (fun y2579 hy2579 => ?_)
          refine y_rI (len := 1) (r := (0, 0, 0, 0)) (nL := 3) (k := 2) (n9 := 1) (hs := []) (by decide +kernel) rfl (zfit_b (by omega) (by omega)).2 ?_
          have m9 := List.mem_of_getElem? ki2566
          have ak : asks s.1 (i2566.2.2.1) 0 := Or.inl ⟨i2566, m9, by omega, by omega, rfl, rfl⟩
          exact Or.inl ⟨by omega, _, ⟨Or.inr (Or.inl ⟨i2566.2.2.1, 0, ak, rfl⟩), mr2_of (asks_mq Q.2.2.2 nt ak)⟩, Q2578, F2578⟩
        ·
          refine y_iF (c := .eq) (off := 6) (len := 3) (r := (0, 0, 0, 0)) (by decide +kernel) (acmpF (c := .eq) (by show ¬ (_ = _); omega)) ?_
          refine y_goto (off := 18) (pc' := 84) (len := 3) (r := (0, 0, 0, 0)) (by decide +kernel) (by decide +kernel) ?_
          refine y_inc (j := 1) (a := xi) (c := 1) (ls' := fun v => [some (.inl (some A)), some v, l2]) (len := 3) (r := (0, 0, 0, 0)) (by decide +kernel) rfl (fun _ => rfl) (by decide) (by omega) (by omega) (fun y2580 hy2580 => ?_)
          show qX (d + 4) 215 87 [some (.inl (some A)), some (zi y2580), l2] [] h t _
          refine y_goto (off := (-49)) (pc' := 38) (len := 3) (r := (0, 0, 0, 0)) (by decide +kernel) (by decide +kernel) ?_
          refine ih (i + 1) y2580 l2 (by omega) (by omega) (fun j q hj h2 h1 => ?_) (by omega)
          rcases Nat.lt_or_ge j i with q9 | q9
          · exact c1 j q q9 h2 h1
          · obtain rfl : j = i := by omega
            cases ki2566.symm.trans h2
            omega
theorem rlm_n {d t A : Nat} {τ : List Nat} {h : zh} {s : sqT} (Q : QM τ h A s) (nv : ¬ vd_ s) : ∀ (n : Nat) (i : Nat) (xi : Int32) (l2 : Option zv), (xi.toInt = (i : Int)) → (i ≤ s.1.length) → (∀ (j : Nat) (q : it4), j < i → s.1[j]? = some q → ¬ trv q) → (s.1.length < i + n) → qX (d + 4) 215 2 [some (.inl (some A)), some (zi xi), l2] [] h t (rI (sdm_ τ A h s (nrm s)) t) := by
  intro n
  induction n with
  | zero =>
    intro i xi l2 hxi hi c1 hn
    exfalso
    omega
  | succ n ih =>
    intro i xi l2 hxi hi c1 hn
    obtain ⟨T, c0, tA, aT, hc0, pT⟩ := Q.2.1
    refine y_same (i := .iload_n 1) (len := 1) (r := (0, 0, 0, 0)) (pc' := 3) (ls' := [some (.inl (some A)), some (zi xi), l2]) (st' := [zi xi]) (by decide +kernel) (fun k q => by cases q) rfl ?_
    refine y_same (i := .aload_n 0) (len := 1) (r := (0, 0, 0, 0)) (pc' := 4) (ls' := [some (.inl (some A)), some (zi xi), l2]) (st' := [.inl (some A), zi xi]) (by decide +kernel) (fun k q => by cases q) rfl ?_
    refine y_ic (c := 0) (len := 1) (r := (0, 0, 0, 0)) (by decide +kernel) (by decide) (fun y2581 hy2581 => ?_)
    obtain ⟨z2582, hz2582, ez2582⟩ := Q.2.2.1.1
    have ez2582 : z2582.toInt = ((s.1.length : Nat) : Int) := ez2582
    have mz2582 := qm_lenL Q
    have mz2582 : s.1.length ≤ 14 := mz2582
    refine y_ial (i := 0) (len := 1) (r := (0, 0, 0, 0)) (by decide +kernel) Q.1 tA aT (by omega) hz2582 ?_
    rcases Decidable.em (xi.toInt ≥ z2582.toInt) with q2583 | q2583
    ·
      refine y_cT (c := .ge) (off := 30) (pc' := 36) (len := 3) (r := (0, 0, 0, 0)) (by decide +kernel) (acmpT (c := .ge) (by show _ ≤ _; omega)) (by decide +kernel) ?_
      refine y_ic (c := 0) (len := 1) (r := (0, 0, 0, 0)) (by decide +kernel) (by decide) (fun y2584 hy2584 => ?_)
      refine y_same (i := .istore_n 1) (len := 1) (r := (0, 0, 0, 0)) (pc' := 38) (ls' := [some (.inl (some A)), some (zi y2584), l2]) (st' := []) (by decide +kernel) (fun k q => by cases q) rfl ?_
      exact rlm_z Q nv (fun q m9 => by obtain ⟨j, hj⟩ := List.getElem?_of_mem m9; exact c1 j q (by have := (List.getElem?_eq_some_iff.mp hj).1; omega) hj) (s.1.length + 1) 0 y2584 l2 (by omega) (by omega) (fun j _ hj => absurd hj (Nat.not_lt_zero j)) (by omega)
    ·
      refine y_cF (c := .ge) (off := 30) (len := 3) (r := (0, 0, 0, 0)) (by decide +kernel) (acmpF (c := .ge) (by show _ < _; omega)) ?_
      refine y_same (i := .aload_n 0) (len := 1) (r := (0, 0, 0, 0)) (pc' := 10) (ls' := [some (.inl (some A)), some (zi xi), l2]) (st' := [.inl (some A)]) (by decide +kernel) (fun k q => by cases q) rfl ?_
      refine y_same (i := .iload_n 1) (len := 1) (r := (0, 0, 0, 0)) (pc' := 11) (ls' := [some (.inl (some A)), some (zi xi), l2]) (st' := [zi xi, .inl (some A)]) (by decide +kernel) (fun k q => by cases q) rfl ?_
      refine y_cI (i := .invokestatic 249) (len := 3) (r := (1, 197, 12, 1644)) (nL := 1) (k := 1) (n := 1) (hs := []) (args := [zi xi]) (rest := [.inl (some A)]) (l0 := [some (zi xi)]) (by decide +kernel) (Or.inl ⟨_, rfl⟩) rfl rfl rfl rfl (Nat.le_of_ble_eq_true rfl) rfl rfl (qI_le (by omega) (e_leftAt (d := 0) (by omega) (by omega))) (fun y2585 qy2585 hRy2585 => ?_)
      obtain ⟨rfl, hy2585⟩ := hRy2585
      obtain ⟨i2587, ki2587⟩ : ∃ i9, s.1[i]? = some i9 := ⟨_, List.getElem?_eq_getElem (by omega)⟩
      have oi2587 := okQ_L Q.2.2.2 ki2587
      have pi2587 := oi2587.1
      unfold okV at pi2587
      obtain ⟨ai2587, bi2587, ci2587, di2587, ⟨hai2587, hbi2587, hci2587, hdi2587⟩, eai2587, ebi2587, eci2587, edi2587⟩ := qm_itL Q ki2587
      refine y_cI (i := .invokestatic 280) (len := 3) (r := (1, 214, 12, 1721)) (nL := 2) (k := 2) (n := 2) (hs := []) (args := [.inl (some A), zi y2585]) (rest := []) (l0 := [some (.inl (some A)), some (zi y2585)]) (by decide +kernel) (Or.inl ⟨_, rfl⟩) rfl rfl rfl rfl (Nat.le_of_ble_eq_true rfl) rfl rfl (qI_le (by omega) (m_nthL (d := 0) (k := i) Q (by omega) ki2587)) (fun y2586 qy2586 hRy2586 => ?_)
      obtain ⟨rfl, hDy2586⟩ := hRy2586
      rcases hDy2586 with ⟨vy2586, ty2586⟩ | ⟨vy2586, ty2586⟩
      ·
        refine y_iT (c := .ne) (off := 6) (pc' := 23) (len := 3) (r := (0, 0, 0, 0)) (by decide +kernel) (acmpT (c := .ne) (by show ¬ (_ = _); omega)) (by decide +kernel) ?_
        refine y_same (i := .aload_n 0) (len := 1) (r := (0, 0, 0, 0)) (pc' := 24) (ls' := [some (.inl (some A)), some (zi xi), l2]) (st' := [.inl (some A)]) (by decide +kernel) (fun k q => by cases q) rfl ?_
        refine y_same (i := .iload_n 1) (len := 1) (r := (0, 0, 0, 0)) (pc' := 25) (ls' := [some (.inl (some A)), some (zi xi), l2]) (st' := [zi xi, .inl (some A)]) (by decide +kernel) (fun k q => by cases q) rfl ?_
        refine y_cV (i := .invokestatic 284) (len := 3) (r := (1, 208, 12, 1682)) (nL := 2) (k := 0) (n := 2) (hs := []) (args := [.inl (some A), zi xi]) (rest := []) (l0 := [some (.inl (some A)), some (zi xi)]) (by decide +kernel) (Or.inl ⟨_, rfl⟩) rfl rfl rfl rfl (Nat.le_of_ble_eq_true rfl) rfl rfl (qV_le (by omega) (m_goL1 (d := 0) (k := i) Q (by omega) (by omega))) (fun h2588 hR2588 => ?_)
        obtain ⟨Q2588, F2588⟩ := hR2588
        refine y_ic (c := 1) (len := 1) (r := (0, 0, 0, 0)) (by decide +kernel) (by decide) (fun y2589 hy2589 => ?_)
        refine y_rI (len := 1) (r := (0, 0, 0, 0)) (nL := 3) (k := 2) (n9 := 1) (hs := []) (by decide +kernel) rfl (zfit_b (by omega) (by omega)).2 ?_
        have hk9 := (List.getElem?_eq_some_iff.mp ki2587).1
        exact Or.inl ⟨by omega, _, ⟨Or.inl ⟨i, i2587, ki2587, ty2586, rfl⟩, mr2_of (mq_erL hk9)⟩, Q2588, F2588⟩
      ·
        refine y_iF (c := .ne) (off := 6) (len := 3) (r := (0, 0, 0, 0)) (by decide +kernel) (acmpF (c := .ne) (by show _ = _; omega)) ?_
        refine y_goto (off := 10) (pc' := 30) (len := 3) (r := (0, 0, 0, 0)) (by decide +kernel) (by decide +kernel) ?_
        refine y_inc (j := 1) (a := xi) (c := 1) (ls' := fun v => [some (.inl (some A)), some v, l2]) (len := 3) (r := (0, 0, 0, 0)) (by decide +kernel) rfl (fun _ => rfl) (by decide) (by omega) (by omega) (fun y2590 hy2590 => ?_)
        show qX (d + 4) 215 33 [some (.inl (some A)), some (zi y2590), l2] [] h t _
        refine y_goto (off := (-31)) (pc' := 2) (len := 3) (r := (0, 0, 0, 0)) (by decide +kernel) (by decide +kernel) ?_
        refine ih (i + 1) y2590 l2 (by omega) (by omega) (fun j q hj h2 => ?_) (by omega)
        rcases Nat.lt_or_ge j i with q9 | q9
        · exact c1 j q q9 h2
        · obtain rfl : j = i := by omega
          cases ki2587.symm.trans h2
          exact ty2586
theorem m_rdy {d t A : Nat} {τ : List Nat} {h : zh} {s : sqT} (Q : QM τ h A s) (nv : ¬ vd_ s) : qI (d + 5) 215 [some (.inl (some A)), none, none] h t (sdm_ τ A h s (nrm s)) := by
  refine qI_of ?_
  refine y_ic (c := 0) (len := 1) (r := (0, 0, 0, 0)) (by decide +kernel) (by decide) (fun y2591 hy2591 => ?_)
  refine y_same (i := .istore_n 1) (len := 1) (r := (0, 0, 0, 0)) (pc' := 2) (ls' := [some (.inl (some A)), some (zi y2591), none]) (st' := []) (by decide +kernel) (fun k q => by cases q) rfl ?_
  exact rlm_n Q nv (s.1.length + 1) 0 y2591 none (by omega) (by omega) (fun j _ hj => absurd hj (Nat.not_lt_zero j)) (by omega)
