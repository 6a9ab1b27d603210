/-! pairs that differ, as bits: renamed, kept among -/
theorem bs_an {a b : Int32} {S S' : Nat → Prop} (h : bs_ a S) (h' : bs_ b S') : bs_ (a &&& b) (fun v => S v ∧ S' v) := fun v hv => by
  rw [b_and, Bool.and_eq_true, h v hv, h' v hv]
theorem bs_nt {a c : Int32} {S : Nat → Prop} (h : bs_ a S) (hc : c.toInt = -1) : bs_ (a ^^^ c) (fun v => ¬ S v) := fun v hv => by
  rw [ofI (w := -1) hc rfl, b_xor, b_m1 v hv]
  have := h v hv
  cases q : btz a v with
  | true =>
    rw [q] at this
    exact ⟨fun h9 => (by cases h9), fun h9 => absurd (this.mp rfl) h9⟩
  | false =>
    rw [q] at this
    exact ⟨fun _ h9 => (by cases this.mpr h9), fun _ => rfl⟩
/-- rows of bits -/
def rW (h : zh) (A : Nat) (E : Nat → Nat → Prop) : Prop := ∀ x : Nat, x < 21 → ∃ v : Int32, hsl h A x = some (zi v) ∧ bs_ v (E x)
theorem rW_of {h : zh} {A : Nat} {D : dfT} (c : dC h A 0 D) : rW h A (fun x y => D (x : Int) (y : Int)) := fun x hx => by
  obtain ⟨v, e1, e2⟩ := c x hx
  rw [Nat.zero_add] at e1
  exact ⟨v, e1, e2⟩
theorem rW_to {h : zh} {A : Nat} {E : Nat → Nat → Prop} {D : dfT} (c : rW h A E) (e : ∀ x y : Nat, x < 21 → y < 32 → (E x y ↔ D (x : Int) (y : Int))) : dC h A 0 D := fun x hx => by
  obtain ⟨v, e1, e2⟩ := c x hx
  exact ⟨v, by rw [Nat.zero_add]; exact e1, bs_cg e2 (fun y hy => e x y hx hy)⟩
theorem rW_set {h h1 : zh} {A i : Nat} {E E' : Nat → Nat → Prop} {w : Int32} {S : Nat → Prop} (c : rW h A E) (o : hO A i h h1) (hs : hsl h1 A i = some (zi w)) (hw : bs_ w S) (e1 : ∀ y, y < 32 → (S y ↔ E' i y)) (e2 : ∀ x y, x ≠ i → x < 21 → y < 32 → (E x y ↔ E' x y)) : rW h1 A E' := fun x hx => by
  by_cases q : x = i
  · subst q
    exact ⟨w, hs, bs_cg hw e1⟩
  · obtain ⟨v, a, b⟩ := c x hx
    exact ⟨v, (o A x (by omega)).trans a, bs_cg b (fun y hy => e2 x y q hx hy)⟩
theorem rn_ex {P : Int → Prop} {o g x : Int} (ne : o ≠ g) : (∃ v, P v ∧ rnV o g v = x) ↔ ((x ≠ o ∧ x ≠ g ∧ P x) ∨ (x = g ∧ (P g ∨ P o))) := by
  constructor
  · rintro ⟨v, hp, e⟩
    unfold rnV at e
    by_cases q : v = o
    · rw [if_pos q] at e
      subst q
      exact Or.inr ⟨e.symm, Or.inr hp⟩
    · rw [if_neg q] at e
      subst e
      by_cases q2 : v = g
      · subst q2
        exact Or.inr ⟨rfl, Or.inl hp⟩
      · exact Or.inl ⟨q, q2, hp⟩
  · rintro (⟨h1, h2, hp⟩ | ⟨h1, hp | hp⟩)
    · exact ⟨x, hp, if_neg h1⟩
    · exact ⟨g, hp, by rw [h1]; exact if_neg (fun e => ne e.symm)⟩
    · exact ⟨o, hp, by rw [h1]; exact if_pos rfl⟩
/-- what the rows are: the first ones renamed -/
def dR1 (o g : Int) (D : dfT) : dfT := fun x z => ∃ v, D v z ∧ rnV o g v = x
theorem dR2 {o g : Int} {D : dfT} {x y : Int} : (∃ w, dR1 o g D x w ∧ rnV o g w = y) ↔ Dm (rnV o g) D x y := ⟨fun ⟨w, ⟨v, h, e1⟩, e2⟩ => ⟨v, w, h, e1, e2⟩, fun ⟨v, w, h, e1, e2⟩ => ⟨w, ⟨v, h, e1⟩, e2⟩⟩
theorem drn_l {d t o g DA OA : Nat} {τ : List Nat} {h0 : zh} {D : dfT} {xo xg : Int32} (tDA : τ[DA]? = some 1009) (tOA : τ[OA]? = some 1010) (n4 : DA ≠ OA) (exo : xo.toInt = (o : Int)) (exg : xg.toInt = (g : Int)) (hog : g < o) (ho : o ≤ 20) (ne : (o : Int) ≠ (g : Int)) : ∀ (n : Nat) (h : zh) (i : Nat) (xi : Int32), (hG τ h) → (hsl h DA 0 = some (.inl (some OA))) → (rW h OA (fun x y => (x < i ∧ Dm (rnV (o : Int) (g : Int)) D (x : Int) (y : Int)) ∨ (i ≤ x ∧ dR1 (o : Int) (g : Int) D (x : Int) (y : Int)))) → (∀ k j, k ≠ OA → hsl h k j = hsl h0 k j) → (xi.toInt = (i : Int)) → (i ≤ 21) → (21 < i + n) → qX d 5 40 [some (.inl (some DA)), some (zi xo), some (zi xg), some (zi xi)] [] h t (rV (fun h1 => hG τ h1 ∧ dC h1 OA 0 (Dm (rnV (o : Int) (g : Int)) D) ∧ ∀ k j, k ≠ OA → hsl h1 k j = hsl h0 k j) t) := by
  intro n
  induction n with
  | zero =>
    intro h i xi hg pO c1 F0 hxi hi hn
    exfalso
    omega
  | succ n ih =>
    intro h i xi hg pO c1 F0 hxi hi hn
    skip
    refine y_same (i := .iload_n 3) (len := 1) (r := (0, 0, 0, 0)) (pc' := 41) (ls' := [some (.inl (some DA)), some (zi xo), some (zi xg), some (zi xi)]) (st' := [zi xi]) (by decide +kernel) (fun k q => by cases q) rfl ?_
    refine y_bi (c := 21) (len := 2) (r := (0, 0, 0, 0)) (by decide +kernel) (by decide) (fun y2440 hy2440 => ?_)
    rcases Decidable.em (xi.toInt ≥ y2440.toInt) with q2441 | q2441
    ·
      refine y_cT (c := .ge) (off := 45) (pc' := 88) (len := 3) (r := (0, 0, 0, 0)) (by decide +kernel) (acmpT (c := .ge) (by show _ ≤ _; omega)) (by decide +kernel) ?_
      refine y_rV (len := 1) (r := (0, 0, 0, 0)) (nL := 4) (n9 := 3) (hs := []) (by decide +kernel) rfl ?_
      exact ⟨hg, rW_to c1 (fun x y hx hy => ⟨fun q9 => q9.elim (fun q8 => q8.2) (fun q8 => absurd q8.1 (by omega)), fun q9 => Or.inl ⟨by omega, q9⟩⟩), F0⟩
    ·
      refine y_cF (c := .ge) (off := 45) (len := 3) (r := (0, 0, 0, 0)) (by decide +kernel) (acmpF (c := .ge) (by show _ < _; omega)) ?_
      obtain ⟨xv, hv, bv⟩ := c1 i (by omega)
      refine y_same (i := .aload_n 0) (len := 1) (r := (0, 0, 0, 0)) (pc' := 47) (ls' := [some (.inl (some DA)), some (zi xo), some (zi xg), some (zi xi)]) (st' := [.inl (some DA)]) (by decide +kernel) (fun k q => by cases q) rfl ?_
      refine y_get (j := 9) (len := 3) (r := (0, 0, 2, 524)) (by decide +kernel) hg tDA aw1009 rfl rfl pO ?_
      refine y_same (i := .iload_n 3) (len := 1) (r := (0, 0, 0, 0)) (pc' := 51) (ls' := [some (.inl (some DA)), some (zi xo), some (zi xg), some (zi xi)]) (st' := [zi xi, .inl (some OA)]) (by decide +kernel) (fun k q => by cases q) rfl ?_
      refine y_ial (i := i) (len := 1) (r := (0, 0, 0, 0)) (by decide +kernel) hg tOA aw1010 (by omega) hv ?_
      refine y_same (i := .iload_n 1) (len := 1) (r := (0, 0, 0, 0)) (pc' := 53) (ls' := [some (.inl (some DA)), some (zi xo), some (zi xg), some (zi xi)]) (st' := [zi xo, zi xv]) (by decide +kernel) (fun k q => by cases q) rfl ?_
      refine y_bp (i := .ishr) (f := fun x y => x >>> (y &&& 31)) (len := 1) (r := (0, 0, 0, 0)) (by decide +kernel) rfl rfl (fun y2442 hy2442 => ?_)
      have hy2442 : y2442 = xv >>> (xo &&& 31) := hy2442
      refine y_ic (c := 1) (len := 1) (r := (0, 0, 0, 0)) (by decide +kernel) (by decide) (fun y2443 hy2443 => ?_)
      refine y_bp (i := .iand) (f := fun x y => x &&& y) (len := 1) (r := (0, 0, 0, 0)) (by decide +kernel) rfl rfl (fun y2444 hy2444 => ?_)
      have hy2444 : y2444 = y2442 &&& y2443 := hy2444
      have t9 := bs_t (k := o) bv exo (by omega) hy2442 hy2443 hy2444
      refine y_ic (c := 1) (len := 1) (r := (0, 0, 0, 0)) (by decide +kernel) (by decide) (fun y2445 hy2445 => ?_)
      rcases Decidable.em (y2444.toInt ≠ y2445.toInt) with q2446 | q2446
      ·
        refine y_cT (c := .ne) (off := 25) (pc' := 82) (len := 3) (r := (0, 0, 0, 0)) (by decide +kernel) (acmpT (c := .ne) (by show ¬ (_ = _); omega)) (by decide +kernel) ?_
        refine y_inc (j := 3) (a := xi) (c := 1) (ls' := fun v => [some (.inl (some DA)), some (zi xo), some (zi xg), some v]) (len := 3) (r := (0, 0, 0, 0)) (by decide +kernel) rfl (fun _ => rfl) (by decide) (by omega) (by omega) (fun y2447 hy2447 => ?_)
        show qX d 5 85 [some (.inl (some DA)), some (zi xo), some (zi xg), some (zi y2447)] [] h t _
        refine y_goto (off := (-45)) (pc' := 40) (len := 3) (r := (0, 0, 0, 0)) (by decide +kernel) (by decide +kernel) ?_
        have so : ¬ dR1 (o : Int) (g : Int) D (i : Int) (o : Int) := by
          rcases t9 with ⟨q1, -⟩ | ⟨-, q2⟩
          · omega
          · exact fun q8 => q2 (Or.inr ⟨by omega, q8⟩)
        refine ih h (i + 1) y2447 hg pO (fun x hx => ?_) F0 (by omega) (by omega) (by omega)
        obtain ⟨v, a1, a2⟩ := c1 x hx
        refine ⟨v, a1, bs_cg a2 (fun y hy => ?_)⟩
        by_cases q0 : x = i
        · subst q0
          constructor
          · rintro (⟨q1, -⟩ | ⟨-, q2⟩)
            · omega
            · refine Or.inl ⟨by omega, dR2.mp ((rn_ex ne).mpr ?_)⟩
              by_cases q4 : (y : Int) = (g : Int)
              · exact Or.inr ⟨q4, Or.inl ((congrArg (fun z => dR1 (o : Int) (g : Int) D (x : Int) z) q4).mp q2)⟩
              · exact Or.inl ⟨fun q5 => so ((congrArg (fun z => dR1 (o : Int) (g : Int) D (x : Int) z) q5).mp q2), q4, q2⟩
          · rintro (⟨-, q1⟩ | ⟨q1, -⟩)
            · rcases (rn_ex ne).mp (dR2.mpr q1) with ⟨-, -, q4⟩ | ⟨q2, q3 | q3⟩
              · exact Or.inr ⟨by omega, q4⟩
              · exact Or.inr ⟨by omega, by rw [q2]; exact q3⟩
              · exact absurd q3 so
            · omega
        · constructor
          · rintro (⟨q1, q2⟩ | ⟨q1, q2⟩)
            · exact Or.inl ⟨by omega, q2⟩
            · exact Or.inr ⟨by omega, q2⟩
          · rintro (⟨q1, q2⟩ | ⟨q1, q2⟩)
            · exact Or.inl ⟨by omega, q2⟩
            · exact Or.inr ⟨by omega, q2⟩
      ·
        refine y_cF (c := .ne) (off := 25) (len := 3) (r := (0, 0, 0, 0)) (by decide +kernel) (acmpF (c := .ne) (by show _ = _; omega)) ?_
        refine y_same (i := .aload_n 0) (len := 1) (r := (0, 0, 0, 0)) (pc' := 61) (ls' := [some (.inl (some DA)), some (zi xo), some (zi xg), some (zi xi)]) (st' := [.inl (some DA)]) (by decide +kernel) (fun k q => by cases q) rfl ?_
        refine y_get (j := 9) (len := 3) (r := (0, 0, 2, 524)) (by decide +kernel) hg tDA aw1009 rfl rfl pO ?_
        refine y_same (i := .iload_n 3) (len := 1) (r := (0, 0, 0, 0)) (pc' := 65) (ls' := [some (.inl (some DA)), some (zi xo), some (zi xg), some (zi xi)]) (st' := [zi xi, .inl (some OA)]) (by decide +kernel) (fun k q => by cases q) rfl ?_
        refine y_same (i := .aload_n 0) (len := 1) (r := (0, 0, 0, 0)) (pc' := 66) (ls' := [some (.inl (some DA)), some (zi xo), some (zi xg), some (zi xi)]) (st' := [.inl (some DA), zi xi, .inl (some OA)]) (by decide +kernel) (fun k q => by cases q) rfl ?_
        refine y_get (j := 9) (len := 3) (r := (0, 0, 2, 524)) (by decide +kernel) hg tDA aw1009 rfl rfl pO ?_
        refine y_same (i := .iload_n 3) (len := 1) (r := (0, 0, 0, 0)) (pc' := 70) (ls' := [some (.inl (some DA)), some (zi xo), some (zi xg), some (zi xi)]) (st' := [zi xi, .inl (some OA), zi xi, .inl (some OA)]) (by decide +kernel) (fun k q => by cases q) rfl ?_
        refine y_ial (i := i) (len := 1) (r := (0, 0, 0, 0)) (by decide +kernel) hg tOA aw1010 (by omega) hv ?_
        refine y_ic (c := 1) (len := 1) (r := (0, 0, 0, 0)) (by decide +kernel) (by decide) (fun y2448 hy2448 => ?_)
        refine y_same (i := .iload_n 1) (len := 1) (r := (0, 0, 0, 0)) (pc' := 73) (ls' := [some (.inl (some DA)), some (zi xo), some (zi xg), some (zi xi)]) (st' := [zi xo, zi y2448, zi xv, zi xi, .inl (some OA)]) (by decide +kernel) (fun k q => by cases q) rfl ?_
        refine y_bp (i := .ishl) (f := fun x y => x <<< (y &&& 31)) (len := 1) (r := (0, 0, 0, 0)) (by decide +kernel) rfl rfl (fun y2449 hy2449 => ?_)
        have hy2449 : y2449 = y2448 <<< (xo &&& 31) := hy2449
        refine y_ic (c := (-1)) (len := 1) (r := (0, 0, 0, 0)) (by decide +kernel) (by decide) (fun y2450 hy2450 => ?_)
        refine y_bp (i := .ixor) (f := fun x y => x ^^^ y) (len := 1) (r := (0, 0, 0, 0)) (by decide +kernel) rfl rfl (fun y2451 hy2451 => ?_)
        have hy2451 : y2451 = y2449 ^^^ y2450 := hy2451
        refine y_bp (i := .iand) (f := fun x y => x &&& y) (len := 1) (r := (0, 0, 0, 0)) (by decide +kernel) rfl rfl (fun y2452 hy2452 => ?_)
        have hy2452 : y2452 = xv &&& y2451 := hy2452
        refine y_ic (c := 1) (len := 1) (r := (0, 0, 0, 0)) (by decide +kernel) (by decide) (fun y2453 hy2453 => ?_)
        refine y_same (i := .iload_n 2) (len := 1) (r := (0, 0, 0, 0)) (pc' := 79) (ls' := [some (.inl (some DA)), some (zi xo), some (zi xg), some (zi xi)]) (st' := [zi xg, zi y2453, zi y2452, zi xi, .inl (some OA)]) (by decide +kernel) (fun k q => by cases q) rfl ?_
        refine y_bp (i := .ishl) (f := fun x y => x <<< (y &&& 31)) (len := 1) (r := (0, 0, 0, 0)) (by decide +kernel) rfl rfl (fun y2454 hy2454 => ?_)
        have hy2454 : y2454 = y2453 <<< (xg &&& 31) := hy2454
        refine y_bp (i := .ior) (f := fun x y => x ||| y) (len := 1) (r := (0, 0, 0, 0)) (by decide +kernel) rfl rfl (fun y2455 hy2455 => ?_)
        have hy2455 : y2455 = y2452 ||| y2454 := hy2455
        refine y_ias (i := i) (len := 1) (r := (0, 0, 0, 0)) (by decide +kernel) hg tOA aw1010 rfl (by omega) (by omega) (sr1 (by omega)) (qin_full _).1 (qin_full _).2 (fun h2456 hg2456 hl2456 hs2456 ho2456 => ?_)
        refine y_inc (j := 3) (a := xi) (c := 1) (ls' := fun v => [some (.inl (some DA)), some (zi xo), some (zi xg), some v]) (len := 3) (r := (0, 0, 0, 0)) (by decide +kernel) rfl (fun _ => rfl) (by decide) (by omega) (by omega) (fun y2457 hy2457 => ?_)
        show qX d 5 85 [some (.inl (some DA)), some (zi xo), some (zi xg), some (zi y2457)] [] h2456 t _
        refine y_goto (off := (-45)) (pc' := 40) (len := 3) (r := (0, 0, 0, 0)) (by decide +kernel) (by decide +kernel) ?_
        have b1 := bs_1 (c := y2448) (y := xo) (k := (o : Int)) hy2448 exo (by omega) (by omega)
        rw [← hy2449] at b1
        have b2 := bs_nt b1 hy2450
        rw [← hy2451] at b2
        have b3 := bs_an bv b2
        rw [← hy2452] at b3
        have b4 := bs_1 (c := y2453) (y := xg) (k := (g : Int)) hy2453 exg (by omega) (by omega)
        rw [← hy2454] at b4
        have b5 := bs_or b3 b4
        rw [← hy2455] at b5
        have so : dR1 (o : Int) (g : Int) D (i : Int) (o : Int) := by
          rcases t9 with ⟨-, q2⟩ | ⟨q1, -⟩
          · exact q2.elim (fun q8 => absurd q8.1 (by omega)) (fun q8 => q8.2)
          · omega
        refine ih h2456 (i + 1) y2457 hg2456 ((ho2456 DA 0 (by omega)).trans pO) (rW_set c1 ho2456 hs2456 b5 (fun y hy => ?_) (fun x y hx h1 h2 => ?_)) (fun k j hC => (ho2456 k j (by omega)).trans (F0 k j hC)) (by omega) (by omega) (by omega)
        · constructor
          · rintro (⟨q1, q2⟩ | q1)
            · refine Or.inl ⟨by omega, dR2.mp ((rn_ex ne).mpr ?_)⟩
              have q3 := q1.elim (fun q8 => absurd q8.1 (by omega)) (fun q8 => q8.2)
              by_cases q4 : (y : Int) = (g : Int)
              · exact Or.inr ⟨q4, Or.inl ((congrArg (fun z => dR1 (o : Int) (g : Int) D (i : Int) z) q4).mp q3)⟩
              · exact Or.inl ⟨fun q5 => q2 q5.symm, q4, q3⟩
            · exact Or.inl ⟨by omega, dR2.mp ((rn_ex ne).mpr (Or.inr ⟨q1.symm, Or.inr so⟩))⟩
          · rintro (⟨-, q1⟩ | ⟨q1, -⟩)
            · rcases (rn_ex ne).mp (dR2.mpr q1) with ⟨q2, q3, q4⟩ | ⟨q2, -⟩
              · exact Or.inl ⟨Or.inr ⟨by omega, q4⟩, fun q5 => q2 q5.symm⟩
              · exact Or.inr q2.symm
            · omega
        · constructor
          · rintro (⟨q1, q2⟩ | ⟨q1, q2⟩)
            · exact Or.inl ⟨by omega, q2⟩
            · exact Or.inr ⟨by omega, q2⟩
          · rintro (⟨q1, q2⟩ | ⟨q1, q2⟩)
            · exact Or.inl ⟨by omega, q2⟩
            · exact Or.inr ⟨by omega, q2⟩
theorem e_drn {d t o g : Nat} {τ : List Nat} {h : zh} {xo xg : Int32} (hg : hG τ h) {DA OA : Nat} {D : dfT} (tDA : τ[DA]? = some 1009) (tOA : τ[OA]? = some 1010) (pO : hsl h DA 0 = some (.inl (some OA))) (dc : dC h OA 0 D) (n4 : DA ≠ OA) (exo : xo.toInt = (o : Int)) (exg : xg.toInt = (g : Int)) (hog : g < o) (ho : o ≤ 20) : qV (d + 1) 5 [some (.inl (some DA)), some (zi xo), some (zi xg), none] h t (fun h1 => hG τ h1 ∧ dC h1 OA 0 (Dm (rnV (o : Int) (g : Int)) D) ∧ ∀ k j, k ≠ OA → hsl h1 k j = hsl h k j) := by
  have ne : (o : Int) ≠ (g : Int) := by omega
  have w0 := rW_of dc
  obtain ⟨xv, hv, bv⟩ := w0 g (by omega)
  obtain ⟨xw, hw, bw⟩ := w0 o (by omega)
  refine qV_of ?_
  refine y_same (i := .iload_n 2) (len := 1) (r := (0, 0, 0, 0)) (pc' := 1) (ls' := [some (.inl (some DA)), some (zi xo), some (zi xg), none]) (st' := [zi xg]) (by decide +kernel) (fun k q => by cases q) rfl ?_
  refine y_iF (c := .lt) (off := 14) (len := 3) (r := (0, 0, 0, 0)) (by decide +kernel) (acmpF (c := .lt) (by show _ ≤ _; omega)) ?_
  refine y_same (i := .iload_n 1) (len := 1) (r := (0, 0, 0, 0)) (pc' := 5) (ls' := [some (.inl (some DA)), some (zi xo), some (zi xg), none]) (st' := [zi xo]) (by decide +kernel) (fun k q => by cases q) rfl ?_
  refine y_same (i := .iload_n 2) (len := 1) (r := (0, 0, 0, 0)) (pc' := 6) (ls' := [some (.inl (some DA)), some (zi xo), some (zi xg), none]) (st' := [zi xg, zi xo]) (by decide +kernel) (fun k q => by cases q) rfl ?_
  refine y_cF (c := .le) (off := 9) (len := 3) (r := (0, 0, 0, 0)) (by decide +kernel) (acmpF (c := .le) (by show _ < _; omega)) ?_
  refine y_same (i := .iload_n 1) (len := 1) (r := (0, 0, 0, 0)) (pc' := 10) (ls' := [some (.inl (some DA)), some (zi xo), some (zi xg), none]) (st' := [zi xo]) (by decide +kernel) (fun k q => by cases q) rfl ?_
  refine y_bi (c := 21) (len := 2) (r := (0, 0, 0, 0)) (by decide +kernel) (by decide) (fun y2458 hy2458 => ?_)
  refine y_cT (c := .lt) (off := 4) (pc' := 16) (len := 3) (r := (0, 0, 0, 0)) (by decide +kernel) (acmpT (c := .lt) (by show _ < _; omega)) (by decide +kernel) ?_
  refine y_same (i := .aload_n 0) (len := 1) (r := (0, 0, 0, 0)) (pc' := 17) (ls' := [some (.inl (some DA)), some (zi xo), some (zi xg), none]) (st' := [.inl (some DA)]) (by decide +kernel) (fun k q => by cases q) rfl ?_
  refine y_get (j := 9) (len := 3) (r := (0, 0, 2, 524)) (by decide +kernel) hg tDA aw1009 rfl rfl pO ?_
  refine y_same (i := .iload_n 2) (len := 1) (r := (0, 0, 0, 0)) (pc' := 21) (ls' := [some (.inl (some DA)), some (zi xo), some (zi xg), none]) (st' := [zi xg, .inl (some OA)]) (by decide +kernel) (fun k q => by cases q) rfl ?_
  refine y_same (i := .dup2) (len := 1) (r := (0, 0, 0, 0)) (pc' := 22) (ls' := [some (.inl (some DA)), some (zi xo), some (zi xg), none]) (st' := [zi xg, .inl (some OA), zi xg, .inl (some OA)]) (by decide +kernel) (fun k q => by cases q) rfl ?_
  refine y_ial (i := g) (len := 1) (r := (0, 0, 0, 0)) (by decide +kernel) hg tOA aw1010 (by omega) hv ?_
  refine y_same (i := .aload_n 0) (len := 1) (r := (0, 0, 0, 0)) (pc' := 24) (ls' := [some (.inl (some DA)), some (zi xo), some (zi xg), none]) (st' := [.inl (some DA), zi xv, zi xg, .inl (some OA)]) (by decide +kernel) (fun k q => by cases q) rfl ?_
  refine y_get (j := 9) (len := 3) (r := (0, 0, 2, 524)) (by decide +kernel) hg tDA aw1009 rfl rfl pO ?_
  refine y_same (i := .iload_n 1) (len := 1) (r := (0, 0, 0, 0)) (pc' := 28) (ls' := [some (.inl (some DA)), some (zi xo), some (zi xg), none]) (st' := [zi xo, .inl (some OA), zi xv, zi xg, .inl (some OA)]) (by decide +kernel) (fun k q => by cases q) rfl ?_
  refine y_ial (i := o) (len := 1) (r := (0, 0, 0, 0)) (by decide +kernel) hg tOA aw1010 (by omega) hw ?_
  refine y_bp (i := .ior) (f := fun x y => x ||| y) (len := 1) (r := (0, 0, 0, 0)) (by decide +kernel) rfl rfl (fun y2459 hy2459 => ?_)
  have hy2459 : y2459 = xv ||| xw := hy2459
  refine y_ias (i := g) (len := 1) (r := (0, 0, 0, 0)) (by decide +kernel) hg tOA aw1010 rfl (by omega) (by omega) (sr1 (by omega)) (qin_full _).1 (qin_full _).2 (fun h2460 hg2460 hl2460 hs2460 ho2460 => ?_)
  refine y_same (i := .aload_n 0) (len := 1) (r := (0, 0, 0, 0)) (pc' := 32) (ls' := [some (.inl (some DA)), some (zi xo), some (zi xg), none]) (st' := [.inl (some DA)]) (by decide +kernel) (fun k q => by cases q) rfl ?_
  have hv2461 := (ho2460 DA 0 (Or.inl (by omega))).trans pO
  refine y_get (j := 9) (len := 3) (r := (0, 0, 2, 524)) (by decide +kernel) hg2460 tDA aw1009 rfl rfl hv2461 ?_
  refine y_same (i := .iload_n 1) (len := 1) (r := (0, 0, 0, 0)) (pc' := 36) (ls' := [some (.inl (some DA)), some (zi xo), some (zi xg), none]) (st' := [zi xo, .inl (some OA)]) (by decide +kernel) (fun k q => by cases q) rfl ?_
  refine y_ic (c := 0) (len := 1) (r := (0, 0, 0, 0)) (by decide +kernel) (by decide) (fun y2462 hy2462 => ?_)
  refine y_ias (i := o) (len := 1) (r := (0, 0, 0, 0)) (by decide +kernel) hg2460 tOA aw1010 rfl (by omega) (by omega) (sr1 (by omega)) (qin_full _).1 (qin_full _).2 (fun h2463 hg2463 hl2463 hs2463 ho2463 => ?_)
  refine y_ic (c := 0) (len := 1) (r := (0, 0, 0, 0)) (by decide +kernel) (by decide) (fun y2464 hy2464 => ?_)
  refine y_same (i := .istore_n 3) (len := 1) (r := (0, 0, 0, 0)) (pc' := 40) (ls' := [some (.inl (some DA)), some (zi xo), some (zi xg), some (zi y2464)]) (st' := []) (by decide +kernel) (fun k q => by cases q) rfl ?_
  have b1 := bs_or bv bw
  rw [← hy2459] at b1
  have w1 : rW h2460 OA (fun x y => (x ≠ g ∧ D (x : Int) (y : Int)) ∨ (x = g ∧ (D (g : Int) (y : Int) ∨ D (o : Int) (y : Int)))) := rW_set w0 ho2460 hs2460 b1 (fun y hy => ⟨fun q => Or.inr ⟨rfl, q⟩, fun q => q.elim (fun q8 => absurd rfl q8.1) (fun q8 => q8.2)⟩) (fun x y hx _ _ => ⟨fun q => Or.inl ⟨hx, q⟩, fun q => q.elim (fun q8 => q8.2) (fun q8 => absurd q8.1 hx)⟩)
  have w2 : rW h2463 OA (fun x y => (x < 0 ∧ Dm (rnV (o : Int) (g : Int)) D (x : Int) (y : Int)) ∨ (0 ≤ x ∧ dR1 (o : Int) (g : Int) D (x : Int) (y : Int))) := rW_set w1 ho2463 hs2463 (bs_0 (b := y2462) (S := fun _ => False) (by omega) (fun _ q => q)) (fun y hy => ⟨fun q => q.elim, fun q => ?_⟩) (fun x y hx h1 h2 => ⟨fun q => Or.inr ⟨Nat.zero_le _, (rn_ex (P := fun v => D v (y : Int)) ne).mpr ?_⟩, fun q => ?_⟩)
  · exact drn_l (o := o) (g := g) tDA tOA n4 exo exg hog ho ne 22 h2463 0 y2464 hg2463 (((ho2463 DA 0 (by omega)).trans (ho2460 DA 0 (by omega))).trans pO) w2 (fun k j hC => ((ho2463 k j (by omega)).trans (ho2460 k j (by omega)))) (by omega) (by omega) (by omega)
  · rcases q with ⟨q1, -⟩ | ⟨-, q1⟩
    · omega
    · rcases (rn_ex (P := fun v => D v (y : Int)) ne).mp q1 with ⟨q2, -⟩ | ⟨q2, -⟩
      · exact q2 rfl
      · omega
  · rcases q with ⟨q1, q2⟩ | ⟨q1, q2⟩
    · exact Or.inl ⟨by omega, by omega, q2⟩
    · exact Or.inr ⟨by omega, q2⟩
  · rcases q with ⟨q1, -⟩ | ⟨-, q1⟩
    · omega
    · rcases (rn_ex (P := fun v => D v (y : Int)) ne).mp q1 with ⟨q2, q3, q4⟩ | ⟨q2, q3⟩
      · exact Or.inl ⟨by omega, q4⟩
      · exact Or.inr ⟨by omega, q3⟩
def dKp (B : Int → Prop) (D : dfT) : dfT := fun x y => D x y ∧ B x ∧ B y
theorem dkp_l {d t DA OA : Nat} {τ : List Nat} {h0 : zh} {D : dfT} {B : Int → Prop} {xb xc : Int32} (tDA : τ[DA]? = some 1009) (tOA : τ[OA]? = some 1010) (n4 : DA ≠ OA) (hb : bs_ xb (fun v => B (v : Int))) {f : Nat → Int32} (hxc : xc = cntF f 21) (hfD : ∀ x, x < 21 → bs_ (f x) (fun y => D (x : Int) (y : Int))) : ∀ (n : Nat) (h : zh) (i : Nat) (xi : Int32), (hG τ h) → (hsl h DA 0 = some (.inl (some OA))) → (rW h OA (fun x y => D (x : Int) (y : Int) ∧ (x < i → B (x : Int) ∧ B (y : Int)))) → (∀ k j, k ≠ OA → hsl h k j = hsl h0 k j) → (xi.toInt = (i : Int)) → (i ≤ 21) → (21 < i + n) → qX (d + 2) 9 7 [some (.inl (some DA)), some (zi xb), some (zi xc), some (zi xi)] [] h t (rI (fun y h1 => (y.toInt = 0 ∨ (y.toInt = 1 ∧ ¬ ∀ a b, D a b → dKp B D a b)) ∧ hG τ h1 ∧ dC h1 OA 0 (dKp B D) ∧ ∀ k j, k ≠ OA → hsl h1 k j = hsl h0 k j) t) := by
  intro n
  induction n with
  | zero =>
    intro h i xi hg pO c1 F0 hxi hi hn
    exfalso
    omega
  | succ n ih =>
    intro h i xi hg pO c1 F0 hxi hi hn
    skip
    refine y_same (i := .iload_n 3) (len := 1) (r := (0, 0, 0, 0)) (pc' := 8) (ls' := [some (.inl (some DA)), some (zi xb), some (zi xc), some (zi xi)]) (st' := [zi xi]) (by decide +kernel) (fun k q => by cases q) rfl ?_
    refine y_bi (c := 21) (len := 2) (r := (0, 0, 0, 0)) (by decide +kernel) (by decide) (fun y2465 hy2465 => ?_)
    rcases Decidable.em (xi.toInt ≥ y2465.toInt) with q2466 | q2466
    ·
      refine y_cT (c := .ge) (off := 36) (pc' := 46) (len := 3) (r := (0, 0, 0, 0)) (by decide +kernel) (acmpT (c := .ge) (by show _ ≤ _; omega)) (by decide +kernel) ?_
      have dE : dC h OA 0 (dKp B D) := rW_to c1 (fun x y hx hy => ⟨fun q9 => ⟨q9.1, q9.2 (by omega)⟩, fun q9 => ⟨q9.1, fun _ => q9.2⟩⟩)
      refine y_same (i := .aload_n 0) (len := 1) (r := (0, 0, 0, 0)) (pc' := 47) (ls' := [some (.inl (some DA)), some (zi xb), some (zi xc), some (zi xi)]) (st' := [.inl (some DA)]) (by decide +kernel) (fun k q => by cases q) rfl ?_
      obtain ⟨gy2467, hfy2467⟩ := dC_f dE
      refine y_cI (i := .invokevirtual 37) (len := 3) (r := (0, 7, 0, 700)) (nL := 3) (k := 1) (n := 1) (hs := []) (args := [.inl (some DA)]) (rest := []) (l0 := [some (.inl (some DA)), none, none]) (by decide +kernel) (Or.inr (Or.inl ⟨_, rfl⟩)) rfl rfl rfl rfl (Nat.le_of_ble_eq_true rfl) (zO hg tDA aw1009 rfl) rfl (qI_le (by omega) (e_dcnt (d := 0) (f := gy2467) hg tDA tOA pO (fun x hx => (hfy2467 x hx).1))) (fun y2467 qy2467 hRy2467 => ?_)
      obtain ⟨rfl, ey2467⟩ := hRy2467
      refine y_same (i := .iload_n 2) (len := 1) (r := (0, 0, 0, 0)) (pc' := 51) (ls' := [some (.inl (some DA)), some (zi xb), some (zi xc), some (zi xi)]) (st' := [zi xc, zi y2467]) (by decide +kernel) (fun k q => by cases q) rfl ?_
      rcases Decidable.em (y2467.toInt = xc.toInt) with q2468 | q2468
      ·
        refine y_cT (c := .eq) (off := 7) (pc' := 58) (len := 3) (r := (0, 0, 0, 0)) (by decide +kernel) (acmpT (c := .eq) (by show _ = _; omega)) (by decide +kernel) ?_
        refine y_ic (c := 0) (len := 1) (r := (0, 0, 0, 0)) (by decide +kernel) (by decide) (fun y2469 hy2469 => ?_)
        refine y_rI (len := 1) (r := (0, 0, 0, 0)) (nL := 4) (k := 2) (n9 := 2) (hs := []) (by decide +kernel) rfl (zfit_b (by omega) (by omega)).2 ?_
        exact ⟨Or.inl (by omega), hg, dE, F0⟩
      ·
        refine y_cF (c := .eq) (off := 7) (len := 3) (r := (0, 0, 0, 0)) (by decide +kernel) (acmpF (c := .eq) (by show ¬ (_ = _); omega)) ?_
        refine y_ic (c := 1) (len := 1) (r := (0, 0, 0, 0)) (by decide +kernel) (by decide) (fun y2470 hy2470 => ?_)
        refine y_goto (off := 4) (pc' := 59) (len := 3) (r := (0, 0, 0, 0)) (by decide +kernel) (by decide +kernel) ?_
        refine y_rI (len := 1) (r := (0, 0, 0, 0)) (nL := 4) (k := 2) (n9 := 2) (hs := []) (by decide +kernel) rfl (zfit_b (by omega) (by omega)).2 ?_
        refine ⟨Or.inr ⟨by omega, fun q9 => ?_⟩, hg, dE, F0⟩
        have q8 : y2467 = xc := by
          rw [ey2467, hxc]
          exact cntF_cg (fun x hx => bs_eq (hfy2467 x hx).2 (hfD x hx) (fun v hv => ⟨fun q7 => q7.1, fun q7 => q9 _ _ q7⟩))
        rw [q8] at q2468
        omega
    ·
      refine y_cF (c := .ge) (off := 36) (len := 3) (r := (0, 0, 0, 0)) (by decide +kernel) (acmpF (c := .ge) (by show _ < _; omega)) ?_
      obtain ⟨xv, hv, bv⟩ := c1 i (by omega)
      refine y_same (i := .aload_n 0) (len := 1) (r := (0, 0, 0, 0)) (pc' := 14) (ls' := [some (.inl (some DA)), some (zi xb), some (zi xc), some (zi xi)]) (st' := [.inl (some DA)]) (by decide +kernel) (fun k q => by cases q) rfl ?_
      refine y_get (j := 9) (len := 3) (r := (0, 0, 2, 524)) (by decide +kernel) hg tDA aw1009 rfl rfl pO ?_
      refine y_same (i := .iload_n 3) (len := 1) (r := (0, 0, 0, 0)) (pc' := 18) (ls' := [some (.inl (some DA)), some (zi xb), some (zi xc), some (zi xi)]) (st' := [zi xi, .inl (some OA)]) (by decide +kernel) (fun k q => by cases q) rfl ?_
      refine y_same (i := .iload_n 1) (len := 1) (r := (0, 0, 0, 0)) (pc' := 19) (ls' := [some (.inl (some DA)), some (zi xb), some (zi xc), some (zi xi)]) (st' := [zi xb, zi xi, .inl (some OA)]) (by decide +kernel) (fun k q => by cases q) rfl ?_
      refine y_same (i := .iload_n 3) (len := 1) (r := (0, 0, 0, 0)) (pc' := 20) (ls' := [some (.inl (some DA)), some (zi xb), some (zi xc), some (zi xi)]) (st' := [zi xi, zi xb, zi xi, .inl (some OA)]) (by decide +kernel) (fun k q => by cases q) rfl ?_
      refine y_bp (i := .ishr) (f := fun x y => x >>> (y &&& 31)) (len := 1) (r := (0, 0, 0, 0)) (by decide +kernel) rfl rfl (fun y2471 hy2471 => ?_)
      have hy2471 : y2471 = xb >>> (xi &&& 31) := hy2471
      refine y_ic (c := 1) (len := 1) (r := (0, 0, 0, 0)) (by decide +kernel) (by decide) (fun y2472 hy2472 => ?_)
      refine y_bp (i := .iand) (f := fun x y => x &&& y) (len := 1) (r := (0, 0, 0, 0)) (by decide +kernel) rfl rfl (fun y2473 hy2473 => ?_)
      have hy2473 : y2473 = y2471 &&& y2472 := hy2473
      have t9 := bs_t (k := i) hb hxi (by omega) hy2471 hy2472 hy2473
      refine y_ic (c := 1) (len := 1) (r := (0, 0, 0, 0)) (by decide +kernel) (by decide) (fun y2474 hy2474 => ?_)
      rcases Decidable.em (y2473.toInt ≠ y2474.toInt) with q2475 | q2475
      ·
        refine y_cT (c := .ne) (off := 14) (pc' := 38) (len := 3) (r := (0, 0, 0, 0)) (by decide +kernel) (acmpT (c := .ne) (by show ¬ (_ = _); omega)) (by decide +kernel) ?_
        refine y_ic (c := 0) (len := 1) (r := (0, 0, 0, 0)) (by decide +kernel) (by decide) (fun y2476 hy2476 => ?_)
        refine y_ias (i := i) (len := 1) (r := (0, 0, 0, 0)) (by decide +kernel) hg tOA aw1010 rfl (by omega) (by omega) (sr1 (by omega)) (qin_full _).1 (qin_full _).2 (fun h2477 hg2477 hl2477 hs2477 ho2477 => ?_)
        refine y_inc (j := 3) (a := xi) (c := 1) (ls' := fun v => [some (.inl (some DA)), some (zi xb), some (zi xc), some v]) (len := 3) (r := (0, 0, 0, 0)) (by decide +kernel) rfl (fun _ => rfl) (by decide) (by omega) (by omega) (fun y2478 hy2478 => ?_)
        show qX (d + 2) 9 43 [some (.inl (some DA)), some (zi xb), some (zi xc), some (zi y2478)] [] h2477 t _
        refine y_goto (off := (-36)) (pc' := 7) (len := 3) (r := (0, 0, 0, 0)) (by decide +kernel) (by decide +kernel) ?_
        have s9 : ¬ B (i : Int) := by
          rcases t9 with ⟨q1, -⟩ | ⟨-, q2⟩
          · omega
          · exact q2
        have b5 := bs_0 (b := y2476) (S := fun _ => False) (by omega) (fun _ q => q)
        refine ih h2477 (i + 1) y2478 hg2477 ((ho2477 DA 0 (by omega)).trans pO) (rW_set c1 ho2477 hs2477 b5 (fun y hy => ?_) (fun x y hx h1 h2 => ?_)) (fun k j hC => (ho2477 k j (by omega)).trans (F0 k j hC)) (by omega) (by omega) (by omega)
        · exact ⟨fun q => q.elim, fun q => s9 (q.2 (by omega)).1⟩
        · exact ⟨fun q => ⟨q.1, fun q8 => q.2 (by omega)⟩, fun q => ⟨q.1, fun q8 => q.2 (by omega)⟩⟩
      ·
        refine y_cF (c := .ne) (off := 14) (len := 3) (r := (0, 0, 0, 0)) (by decide +kernel) (acmpF (c := .ne) (by show _ = _; omega)) ?_
        refine y_same (i := .aload_n 0) (len := 1) (r := (0, 0, 0, 0)) (pc' := 28) (ls' := [some (.inl (some DA)), some (zi xb), some (zi xc), some (zi xi)]) (st' := [.inl (some DA), zi xi, .inl (some OA)]) (by decide +kernel) (fun k q => by cases q) rfl ?_
        refine y_get (j := 9) (len := 3) (r := (0, 0, 2, 524)) (by decide +kernel) hg tDA aw1009 rfl rfl pO ?_
        refine y_same (i := .iload_n 3) (len := 1) (r := (0, 0, 0, 0)) (pc' := 32) (ls' := [some (.inl (some DA)), some (zi xb), some (zi xc), some (zi xi)]) (st' := [zi xi, .inl (some OA), zi xi, .inl (some OA)]) (by decide +kernel) (fun k q => by cases q) rfl ?_
        refine y_ial (i := i) (len := 1) (r := (0, 0, 0, 0)) (by decide +kernel) hg tOA aw1010 (by omega) hv ?_
        refine y_same (i := .iload_n 1) (len := 1) (r := (0, 0, 0, 0)) (pc' := 34) (ls' := [some (.inl (some DA)), some (zi xb), some (zi xc), some (zi xi)]) (st' := [zi xb, zi xv, zi xi, .inl (some OA)]) (by decide +kernel) (fun k q => by cases q) rfl ?_
        refine y_bp (i := .iand) (f := fun x y => x &&& y) (len := 1) (r := (0, 0, 0, 0)) (by decide +kernel) rfl rfl (fun y2479 hy2479 => ?_)
        have hy2479 : y2479 = xv &&& xb := hy2479
        refine y_goto (off := 4) (pc' := 39) (len := 3) (r := (0, 0, 0, 0)) (by decide +kernel) (by decide +kernel) ?_
        refine y_ias (i := i) (len := 1) (r := (0, 0, 0, 0)) (by decide +kernel) hg tOA aw1010 rfl (by omega) (by omega) (sr1 (by omega)) (qin_full _).1 (qin_full _).2 (fun h2480 hg2480 hl2480 hs2480 ho2480 => ?_)
        refine y_inc (j := 3) (a := xi) (c := 1) (ls' := fun v => [some (.inl (some DA)), some (zi xb), some (zi xc), some v]) (len := 3) (r := (0, 0, 0, 0)) (by decide +kernel) rfl (fun _ => rfl) (by decide) (by omega) (by omega) (fun y2481 hy2481 => ?_)
        show qX (d + 2) 9 43 [some (.inl (some DA)), some (zi xb), some (zi xc), some (zi y2481)] [] h2480 t _
        refine y_goto (off := (-36)) (pc' := 7) (len := 3) (r := (0, 0, 0, 0)) (by decide +kernel) (by decide +kernel) ?_
        have s9 : B (i : Int) := by
          rcases t9 with ⟨-, q2⟩ | ⟨q1, -⟩
          · exact q2
          · omega
        have b5 := bs_an bv hb
        rw [← hy2479] at b5
        refine ih h2480 (i + 1) y2481 hg2480 ((ho2480 DA 0 (by omega)).trans pO) (rW_set c1 ho2480 hs2480 b5 (fun y hy => ?_) (fun x y hx h1 h2 => ?_)) (fun k j hC => (ho2480 k j (by omega)).trans (F0 k j hC)) (by omega) (by omega) (by omega)
        · exact ⟨fun q => ⟨q.1.1, fun _ => ⟨s9, q.2⟩⟩, fun q => ⟨⟨q.1, fun q8 => absurd q8 (by omega)⟩, (q.2 (by omega)).2⟩⟩
        · exact ⟨fun q => ⟨q.1, fun q8 => q.2 (by omega)⟩, fun q => ⟨q.1, fun q8 => q.2 (by omega)⟩⟩
theorem e_dkp {d t : Nat} {τ : List Nat} {h : zh} {xb : Int32} {B : Int → Prop} (hg : hG τ h) {DA OA : Nat} {D : dfT} (tDA : τ[DA]? = some 1009) (tOA : τ[OA]? = some 1010) (pO : hsl h DA 0 = some (.inl (some OA))) (dc : dC h OA 0 D) (n4 : DA ≠ OA) (hb : bs_ xb (fun v => B (v : Int))) : qI (d + 3) 9 [some (.inl (some DA)), some (zi xb), none, none] h t (fun y h1 => (y.toInt = 0 ∨ (y.toInt = 1 ∧ ¬ ∀ a b, D a b → dKp B D a b)) ∧ hG τ h1 ∧ dC h1 OA 0 (dKp B D) ∧ ∀ k j, k ≠ OA → hsl h1 k j = hsl h k j) := by
  refine qI_of ?_
  refine y_same (i := .aload_n 0) (len := 1) (r := (0, 0, 0, 0)) (pc' := 1) (ls' := [some (.inl (some DA)), some (zi xb), none, none]) (st' := [.inl (some DA)]) (by decide +kernel) (fun k q => by cases q) rfl ?_
  obtain ⟨gy2482, hfy2482⟩ := dC_f dc
  refine y_cI (i := .invokevirtual 37) (len := 3) (r := (0, 7, 0, 700)) (nL := 3) (k := 1) (n := 1) (hs := []) (args := [.inl (some DA)]) (rest := []) (l0 := [some (.inl (some DA)), none, none]) (by decide +kernel) (Or.inr (Or.inl ⟨_, rfl⟩)) rfl rfl rfl rfl (Nat.le_of_ble_eq_true rfl) (zO hg tDA aw1009 rfl) rfl (qI_le (by omega) (e_dcnt (d := 0) (f := gy2482) hg tDA tOA pO (fun x hx => (hfy2482 x hx).1))) (fun y2482 qy2482 hRy2482 => ?_)
  obtain ⟨rfl, ey2482⟩ := hRy2482
  refine y_same (i := .istore_n 2) (len := 1) (r := (0, 0, 0, 0)) (pc' := 5) (ls' := [some (.inl (some DA)), some (zi xb), some (zi y2482), none]) (st' := []) (by decide +kernel) (fun k q => by cases q) rfl ?_
  refine y_ic (c := 0) (len := 1) (r := (0, 0, 0, 0)) (by decide +kernel) (by decide) (fun y2483 hy2483 => ?_)
  refine y_same (i := .istore_n 3) (len := 1) (r := (0, 0, 0, 0)) (pc' := 7) (ls' := [some (.inl (some DA)), some (zi xb), some (zi y2482), some (zi y2483)]) (st' := []) (by decide +kernel) (fun k q => by cases q) rfl ?_
  exact dkp_l tDA tOA n4 hb ey2482 (fun x hx => (hfy2482 x hx).2) 22 h 0 y2483 hg pO (fun x hx => by obtain ⟨v, a, b⟩ := rW_of dc x hx; exact ⟨v, a, bs_cg b (fun y hy => ⟨fun q => ⟨q, fun q8 => absurd q8 (Nat.not_lt_zero _)⟩, fun q => q.1⟩)⟩) (fun k j _ => rfl) (by omega) (by omega) (by omega)
