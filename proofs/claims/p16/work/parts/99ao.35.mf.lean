/-! the reference's draft -/
theorem cpm_l {d t A B : Nat} {τ : List Nat} {h0 : zh} {xn : Int32} {T T2 : Nat} {c0 c2 : Int} (tA : τ[A]? = some T) (aT : atyp T = some (.inl (0, 200, wRs c0))) (pT : aprot T = false) (tB : τ[B]? = some T2) (aB : atyp T2 = some (.inl (0, 200, wRs c2))) (ne : A ≠ B) (hxn : xn.toInt = 200) (hv : ∀ j, j < 3 → ∀ x : Int32, hsl h0 B j = some (zi x) → x.toInt ≤ c0) : ∀ (n : Nat) (h : zh) (i : Nat) (xi : Int32), hG τ h → (∀ j, j < i → hsl h A j = hsl h0 B j) → (∀ k j, k ≠ A → hsl h k j = hsl h0 k j) → xi.toInt = (i : Int) → i ≤ 200 → 200 ≤ i + n → qX d 185 2 [some (.inl (some B)), some (.inl (some A)), some (zi xn), some (zi xi)] [] h t (rV (fun h1 => hG τ h1 ∧ (∀ j, j < 200 → hsl h1 A j = hsl h0 B j) ∧ FM A h0 h1) t) := by
  intro n
  induction n with
  | zero =>
    intro h i xi hg c1 F0 hxi hi hn
    refine y_same (i := .iload_n 3) (len := 1) (r := (0, 0, 0, 0)) (pc' := 3) (ls' := [some (.inl (some B)), some (.inl (some A)), some (zi xn), some (zi xi)]) (st' := [zi xi]) (by decide +kernel) (fun k q => by cases q) rfl ?_
    refine y_same (i := .iload_n 2) (len := 1) (r := (0, 0, 0, 0)) (pc' := 4) (ls' := [some (.inl (some B)), some (.inl (some A)), some (zi xn), some (zi xi)]) (st' := [zi xn, zi xi]) (by decide +kernel) (fun k q => by cases q) rfl ?_
    refine y_cT (c := .ge) (off := 15) (pc' := 19) (len := 3) (r := (0, 0, 0, 0)) (by decide +kernel) (acmpT (c := .ge) (by show _ ≤ _; omega)) (by decide +kernel) ?_
    refine y_rV (len := 1) (r := (0, 0, 0, 0)) (nL := 4) (n9 := 3) (hs := []) (by decide +kernel) rfl ?_
    exact ⟨hg, fun j hj => c1 j (by omega), F0⟩
  | succ n ih =>
    intro h i xi hg c1 F0 hxi hi hn
    rcases Nat.lt_or_ge i 200 with q | q
    · rcases (show i < 3 ∨ (3 ≤ i ∧ i < 24) ∨ 24 ≤ i by omega) with q1 | q1 | q1
      ·
        refine y_same (i := .iload_n 3) (len := 1) (r := (0, 0, 0, 0)) (pc' := 3) (ls' := [some (.inl (some B)), some (.inl (some A)), some (zi xn), some (zi xi)]) (st' := [zi xi]) (by decide +kernel) (fun k q => by cases q) rfl ?_
        refine y_same (i := .iload_n 2) (len := 1) (r := (0, 0, 0, 0)) (pc' := 4) (ls' := [some (.inl (some B)), some (.inl (some A)), some (zi xn), some (zi xi)]) (st' := [zi xn, zi xi]) (by decide +kernel) (fun k q => by cases q) rfl ?_
        refine y_cF (c := .ge) (off := 15) (len := 3) (r := (0, 0, 0, 0)) (by decide +kernel) (acmpF (c := .ge) (by show _ < _; omega)) ?_
        refine y_same (i := .aload_n 1) (len := 1) (r := (0, 0, 0, 0)) (pc' := 8) (ls' := [some (.inl (some B)), some (.inl (some A)), some (zi xn), some (zi xi)]) (st' := [.inl (some A)]) (by decide +kernel) (fun k q => by cases q) rfl ?_
        refine y_same (i := .iload_n 3) (len := 1) (r := (0, 0, 0, 0)) (pc' := 9) (ls' := [some (.inl (some B)), some (.inl (some A)), some (zi xn), some (zi xi)]) (st' := [zi xi, .inl (some A)]) (by decide +kernel) (fun k q => by cases q) rfl ?_
        refine y_same (i := .aload_n 0) (len := 1) (r := (0, 0, 0, 0)) (pc' := 10) (ls' := [some (.inl (some B)), some (.inl (some A)), some (zi xn), some (zi xi)]) (st' := [.inl (some B), zi xi, .inl (some A)]) (by decide +kernel) (fun k q => by cases q) rfl ?_
        refine y_same (i := .iload_n 3) (len := 1) (r := (0, 0, 0, 0)) (pc' := 11) (ls' := [some (.inl (some B)), some (.inl (some A)), some (zi xn), some (zi xi)]) (st' := [zi xi, .inl (some B), zi xi, .inl (some A)]) (by decide +kernel) (fun k q => by cases q) rfl ?_
        obtain ⟨v2592, hv2593, lv2592, uv2592⟩ := g_int (i := i) hg tB aB (show i < 200 by omega) (srA (by omega))
        refine y_ial (i := i) (len := 1) (r := (0, 0, 0, 0)) (by decide +kernel) hg tB aB (by omega) hv2593 ?_
        have hv9 := hv i (by omega) v2592 ((F0 B i (by omega)).symm.trans hv2593)
        refine y_ias (i := i) (len := 1) (r := (0, 0, 0, 0)) (by decide +kernel) hg tA aT pT (by omega) (by omega) (srA (by omega)) (by omega) (by omega) (fun h2594 hg2594 hl2594 hs2594 ho2594 => ?_)
        refine y_inc (j := 3) (a := xi) (c := 1) (ls' := fun v => [some (.inl (some B)), some (.inl (some A)), some (zi xn), some v]) (len := 3) (r := (0, 0, 0, 0)) (by decide +kernel) rfl (fun _ => rfl) (by decide) (by omega) (by omega) (fun y2595 hy2595 => ?_)
        show qX d 185 16 [some (.inl (some B)), some (.inl (some A)), some (zi xn), some (zi y2595)] [] h2594 t _
        refine y_goto (off := (-14)) (pc' := 2) (len := 3) (r := (0, 0, 0, 0)) (by decide +kernel) (by decide +kernel) ?_
        refine ih h2594 (i + 1) y2595 hg2594 (fun j hj => ?_) (fun k j hk => (ho2594 k j (by omega)).trans (F0 k j hk)) (by omega) (by omega) (by omega)
        rcases Nat.lt_or_ge j i with q9 | q9
        · exact (ho2594 A j (by omega)).trans (c1 j q9)
        · obtain rfl : j = i := by omega
          exact hs2594.trans ((F0 B j (by omega)).symm.trans hv2593).symm
      ·
        refine y_same (i := .iload_n 3) (len := 1) (r := (0, 0, 0, 0)) (pc' := 3) (ls' := [some (.inl (some B)), some (.inl (some A)), some (zi xn), some (zi xi)]) (st' := [zi xi]) (by decide +kernel) (fun k q => by cases q) rfl ?_
        refine y_same (i := .iload_n 2) (len := 1) (r := (0, 0, 0, 0)) (pc' := 4) (ls' := [some (.inl (some B)), some (.inl (some A)), some (zi xn), some (zi xi)]) (st' := [zi xn, zi xi]) (by decide +kernel) (fun k q => by cases q) rfl ?_
        refine y_cF (c := .ge) (off := 15) (len := 3) (r := (0, 0, 0, 0)) (by decide +kernel) (acmpF (c := .ge) (by show _ < _; omega)) ?_
        refine y_same (i := .aload_n 1) (len := 1) (r := (0, 0, 0, 0)) (pc' := 8) (ls' := [some (.inl (some B)), some (.inl (some A)), some (zi xn), some (zi xi)]) (st' := [.inl (some A)]) (by decide +kernel) (fun k q => by cases q) rfl ?_
        refine y_same (i := .iload_n 3) (len := 1) (r := (0, 0, 0, 0)) (pc' := 9) (ls' := [some (.inl (some B)), some (.inl (some A)), some (zi xn), some (zi xi)]) (st' := [zi xi, .inl (some A)]) (by decide +kernel) (fun k q => by cases q) rfl ?_
        refine y_same (i := .aload_n 0) (len := 1) (r := (0, 0, 0, 0)) (pc' := 10) (ls' := [some (.inl (some B)), some (.inl (some A)), some (zi xn), some (zi xi)]) (st' := [.inl (some B), zi xi, .inl (some A)]) (by decide +kernel) (fun k q => by cases q) rfl ?_
        refine y_same (i := .iload_n 3) (len := 1) (r := (0, 0, 0, 0)) (pc' := 11) (ls' := [some (.inl (some B)), some (.inl (some A)), some (zi xn), some (zi xi)]) (st' := [zi xi, .inl (some B), zi xi, .inl (some A)]) (by decide +kernel) (fun k q => by cases q) rfl ?_
        obtain ⟨v2596, hv2597, lv2596, uv2596⟩ := g_int (i := i) hg tB aB (show i < 200 by omega) (srB (by omega) (by omega))
        refine y_ial (i := i) (len := 1) (r := (0, 0, 0, 0)) (by decide +kernel) hg tB aB (by omega) hv2597 ?_
        refine y_ias (i := i) (len := 1) (r := (0, 0, 0, 0)) (by decide +kernel) hg tA aT pT (by omega) (by omega) (srB (by omega) (by omega)) (qin_full _).1 (qin_full _).2 (fun h2598 hg2598 hl2598 hs2598 ho2598 => ?_)
        refine y_inc (j := 3) (a := xi) (c := 1) (ls' := fun v => [some (.inl (some B)), some (.inl (some A)), some (zi xn), some v]) (len := 3) (r := (0, 0, 0, 0)) (by decide +kernel) rfl (fun _ => rfl) (by decide) (by omega) (by omega) (fun y2599 hy2599 => ?_)
        show qX d 185 16 [some (.inl (some B)), some (.inl (some A)), some (zi xn), some (zi y2599)] [] h2598 t _
        refine y_goto (off := (-14)) (pc' := 2) (len := 3) (r := (0, 0, 0, 0)) (by decide +kernel) (by decide +kernel) ?_
        refine ih h2598 (i + 1) y2599 hg2598 (fun j hj => ?_) (fun k j hk => (ho2598 k j (by omega)).trans (F0 k j hk)) (by omega) (by omega) (by omega)
        rcases Nat.lt_or_ge j i with q9 | q9
        · exact (ho2598 A j (by omega)).trans (c1 j q9)
        · obtain rfl : j = i := by omega
          exact hs2598.trans ((F0 B j (by omega)).symm.trans hv2597).symm
      ·
        refine y_same (i := .iload_n 3) (len := 1) (r := (0, 0, 0, 0)) (pc' := 3) (ls' := [some (.inl (some B)), some (.inl (some A)), some (zi xn), some (zi xi)]) (st' := [zi xi]) (by decide +kernel) (fun k q => by cases q) rfl ?_
        refine y_same (i := .iload_n 2) (len := 1) (r := (0, 0, 0, 0)) (pc' := 4) (ls' := [some (.inl (some B)), some (.inl (some A)), some (zi xn), some (zi xi)]) (st' := [zi xn, zi xi]) (by decide +kernel) (fun k q => by cases q) rfl ?_
        refine y_cF (c := .ge) (off := 15) (len := 3) (r := (0, 0, 0, 0)) (by decide +kernel) (acmpF (c := .ge) (by show _ < _; omega)) ?_
        refine y_same (i := .aload_n 1) (len := 1) (r := (0, 0, 0, 0)) (pc' := 8) (ls' := [some (.inl (some B)), some (.inl (some A)), some (zi xn), some (zi xi)]) (st' := [.inl (some A)]) (by decide +kernel) (fun k q => by cases q) rfl ?_
        refine y_same (i := .iload_n 3) (len := 1) (r := (0, 0, 0, 0)) (pc' := 9) (ls' := [some (.inl (some B)), some (.inl (some A)), some (zi xn), some (zi xi)]) (st' := [zi xi, .inl (some A)]) (by decide +kernel) (fun k q => by cases q) rfl ?_
        refine y_same (i := .aload_n 0) (len := 1) (r := (0, 0, 0, 0)) (pc' := 10) (ls' := [some (.inl (some B)), some (.inl (some A)), some (zi xn), some (zi xi)]) (st' := [.inl (some B), zi xi, .inl (some A)]) (by decide +kernel) (fun k q => by cases q) rfl ?_
        refine y_same (i := .iload_n 3) (len := 1) (r := (0, 0, 0, 0)) (pc' := 11) (ls' := [some (.inl (some B)), some (.inl (some A)), some (zi xn), some (zi xi)]) (st' := [zi xi, .inl (some B), zi xi, .inl (some A)]) (by decide +kernel) (fun k q => by cases q) rfl ?_
        obtain ⟨v2600, hv2601, lv2600, uv2600⟩ := g_int (i := i) hg tB aB (show i < 200 by omega) (srC (by omega) (by omega))
        refine y_ial (i := i) (len := 1) (r := (0, 0, 0, 0)) (by decide +kernel) hg tB aB (by omega) hv2601 ?_
        refine y_ias (i := i) (len := 1) (r := (0, 0, 0, 0)) (by decide +kernel) hg tA aT pT (by omega) (by omega) (srC (by omega) (by omega)) (by omega) (by omega) (fun h2602 hg2602 hl2602 hs2602 ho2602 => ?_)
        refine y_inc (j := 3) (a := xi) (c := 1) (ls' := fun v => [some (.inl (some B)), some (.inl (some A)), some (zi xn), some v]) (len := 3) (r := (0, 0, 0, 0)) (by decide +kernel) rfl (fun _ => rfl) (by decide) (by omega) (by omega) (fun y2603 hy2603 => ?_)
        show qX d 185 16 [some (.inl (some B)), some (.inl (some A)), some (zi xn), some (zi y2603)] [] h2602 t _
        refine y_goto (off := (-14)) (pc' := 2) (len := 3) (r := (0, 0, 0, 0)) (by decide +kernel) (by decide +kernel) ?_
        refine ih h2602 (i + 1) y2603 hg2602 (fun j hj => ?_) (fun k j hk => (ho2602 k j (by omega)).trans (F0 k j hk)) (by omega) (by omega) (by omega)
        rcases Nat.lt_or_ge j i with q9 | q9
        · exact (ho2602 A j (by omega)).trans (c1 j q9)
        · obtain rfl : j = i := by omega
          exact hs2602.trans ((F0 B j (by omega)).symm.trans hv2601).symm
    ·
      refine y_same (i := .iload_n 3) (len := 1) (r := (0, 0, 0, 0)) (pc' := 3) (ls' := [some (.inl (some B)), some (.inl (some A)), some (zi xn), some (zi xi)]) (st' := [zi xi]) (by decide +kernel) (fun k q => by cases q) rfl ?_
      refine y_same (i := .iload_n 2) (len := 1) (r := (0, 0, 0, 0)) (pc' := 4) (ls' := [some (.inl (some B)), some (.inl (some A)), some (zi xn), some (zi xi)]) (st' := [zi xn, zi xi]) (by decide +kernel) (fun k q => by cases q) rfl ?_
      refine y_cT (c := .ge) (off := 15) (pc' := 19) (len := 3) (r := (0, 0, 0, 0)) (by decide +kernel) (acmpT (c := .ge) (by show _ ≤ _; omega)) (by decide +kernel) ?_
      refine y_rV (len := 1) (r := (0, 0, 0, 0)) (nL := 4) (n9 := 3) (hs := []) (by decide +kernel) rfl ?_
      exact ⟨hg, fun j hj => c1 j (by omega), F0⟩
theorem out200 {τ : List Nat} {h : zh} {A T : Nat} {c : Int} {j : Nat} (hg : hG τ h) (tA : τ[A]? = some T) (aT : atyp T = some (.inl (0, 200, wRs c))) (hj : 200 ≤ j) : hsl h A j = none := by
  obtain ⟨fs, hc, hl⟩ := g_arr hg tA aT
  rw [hsl_arr hc, List.getElem?_eq_none (by omega)]
theorem m_cpy {d t A B : Nat} {τ : List Nat} {h : zh} {s : sqT} {xn : Int32} (Q : QM τ h B s) (rt : rwT τ A) (ne : A ≠ B) (hxn : xn.toInt = 200) (hb : ¬ big_ s) : qV (d + 1) 185 [some (.inl (some B)), some (.inl (some A)), some (zi xn), none] h t (fun h1 => QM τ h1 A s ∧ FM A h h1) := by
  obtain ⟨T, c0, tA, aT, hc0, pT⟩ := id rt
  obtain ⟨T2, c2, tB, aB, hc2, pB⟩ := Q.2.1
  have hg := Q.1
  have b1 : ¬ 12 < s.1.length := fun q => hb (Or.inl q)
  have b2 : ¬ 12 < s.2.1.length := fun q => hb (Or.inr (Or.inl q))
  have b3 : ¬ 12 < s.2.2.1.length := fun q => hb (Or.inr (Or.inr q))
  have hv : ∀ j, j < 3 → ∀ x : Int32, hsl h B j = some (zi x) → x.toInt ≤ c0 := fun j hj x e => by
    obtain ⟨⟨x0, a0, e0⟩, ⟨x1, a1, e1⟩, ⟨x2, a2, e2⟩, -⟩ := Q.2.2.1
    rcases (show j = 0 ∨ j = 1 ∨ j = 2 by omega) with rfl | rfl | rfl
    · cases e.symm.trans a0
      omega
    · cases e.symm.trans a1
      omega
    · cases e.symm.trans a2
      omega
  refine qV_of ?_
  refine y_ic (c := 0) (len := 1) (r := (0, 0, 0, 0)) (by decide +kernel) (by decide) (fun y2604 hy2604 => ?_)
  refine y_same (i := .istore_n 3) (len := 1) (r := (0, 0, 0, 0)) (pc' := 2) (ls' := [some (.inl (some B)), some (.inl (some A)), some (zi xn), some (zi y2604)]) (st' := []) (by decide +kernel) (fun k q => by cases q) rfl ?_
  refine qX_V (cpm_l (h0 := h) tA aT pT tB aB ne hxn hv 200 h 0 y2604 hg (fun j hj => absurd hj (Nat.not_lt_zero j)) (fun k j _ => rfl) (by omega) (by omega) (by omega)) (fun h1 hR => ?_)
  obtain ⟨g1, c1, F⟩ := hR
  obtain ⟨a, b, c, e, f, g, i⟩ := Q.2.2.1
  exact ⟨⟨g1, rt, ⟨ci_to a (c1 0 (by omega)), ci_to b (c1 1 (by omega)), ci_to c (c1 2 (by omega)), fun j x hj => qdM_up (e j x hj) (fun w hw => c1 _ (by have := (List.getElem?_eq_some_iff.mp hj).1; omega)), fun j x hj => qdM_up (f j x hj) (fun w hw => c1 _ (by have := (List.getElem?_eq_some_iff.mp hj).1; omega)), fun j x hj => qdM_up (g j x hj) (fun w hw => c1 _ (by have := (List.getElem?_eq_some_iff.mp hj).1; omega)), fun x hx => by obtain ⟨v, e1, e2⟩ := i x hx; exact ⟨v, (c1 (3 + x) (by omega)).trans e1, e2⟩⟩, Q.2.2.2⟩, F⟩
theorem QM_L {τ : List Nat} {h h1 : zh} {A : Nat} {s : sqT} {l : List it4} (Q : QM τ h A s) (g1 : hG τ h1) (cN : ci_ h1 A 0 l.length) (it : ∀ (j : Nat) (i : it4), l[j]? = some i → qdM h1 A (24 + 4 * j) i) (F : ∀ k j, (k ≠ A ∨ (j ≠ 0 ∧ (j < 24 ∨ 80 ≤ j))) → hsl h1 k j = hsl h k j) (ok : okQ (l, s.2.1, s.2.2.1, s.2.2.2)) : QM τ h1 A (l, s.2.1, s.2.2.1, s.2.2.2) ∧ FM A h h1 := by
  obtain ⟨a, b, c, e, f, g, i⟩ := Q.2.2.1
  exact ⟨⟨g1, Q.2.1, ⟨cN, ci_up b (F _ _ (by omega)), ci_up c (F _ _ (by omega)), it, fun j x hj => qdM_up (f j x hj) (fun w hw => F _ _ (by have q9 : j < s.2.1.length := (List.getElem?_eq_some_iff.mp hj).1; have := qm_lenR Q; omega)), fun j x hj => qdM_up (g j x hj) (fun w hw => F _ _ (by have q9 : j < s.2.2.1.length := (List.getElem?_eq_some_iff.mp hj).1; have := qm_lenC Q; omega)), dC_up2 i (fun j hj => F _ _ (by omega))⟩, ok⟩, fun k j hC => F k j (Or.inl hC)⟩
theorem QM_R {τ : List Nat} {h h1 : zh} {A : Nat} {s : sqT} {l : List it4} (Q : QM τ h A s) (g1 : hG τ h1) (cN : ci_ h1 A 1 l.length) (it : ∀ (j : Nat) (i : it4), l[j]? = some i → qdM h1 A (80 + 4 * j) i) (F : ∀ k j, (k ≠ A ∨ (j ≠ 1 ∧ (j < 80 ∨ 136 ≤ j))) → hsl h1 k j = hsl h k j) (ok : okQ (s.1, l, s.2.2.1, s.2.2.2)) : QM τ h1 A (s.1, l, s.2.2.1, s.2.2.2) ∧ FM A h h1 := by
  obtain ⟨a, b, c, e, f, g, i⟩ := Q.2.2.1
  exact ⟨⟨g1, Q.2.1, ⟨ci_up a (F _ _ (by omega)), cN, ci_up c (F _ _ (by omega)), fun j x hj => qdM_up (e j x hj) (fun w hw => F _ _ (by have q9 : j < s.1.length := (List.getElem?_eq_some_iff.mp hj).1; have := qm_lenL Q; omega)), it, fun j x hj => qdM_up (g j x hj) (fun w hw => F _ _ (by have q9 : j < s.2.2.1.length := (List.getElem?_eq_some_iff.mp hj).1; have := qm_lenC Q; omega)), dC_up2 i (fun j hj => F _ _ (by omega))⟩, ok⟩, fun k j hC => F k j (Or.inl hC)⟩
theorem QM_C {τ : List Nat} {h h1 : zh} {A : Nat} {s : sqT} {l : List it4} (Q : QM τ h A s) (g1 : hG τ h1) (cN : ci_ h1 A 2 l.length) (it : ∀ (j : Nat) (i : it4), l[j]? = some i → qdM h1 A (136 + 4 * j) i) (F : ∀ k j, (k ≠ A ∨ (j ≠ 2 ∧ (j < 136 ∨ 192 ≤ j))) → hsl h1 k j = hsl h k j) (ok : okQ (s.1, s.2.1, l, s.2.2.2)) : QM τ h1 A (s.1, s.2.1, l, s.2.2.2) ∧ FM A h h1 := by
  obtain ⟨a, b, c, e, f, g, i⟩ := Q.2.2.1
  exact ⟨⟨g1, Q.2.1, ⟨ci_up a (F _ _ (by omega)), ci_up b (F _ _ (by omega)), cN, fun j x hj => qdM_up (e j x hj) (fun w hw => F _ _ (by have q9 : j < s.1.length := (List.getElem?_eq_some_iff.mp hj).1; have := qm_lenL Q; omega)), fun j x hj => qdM_up (f j x hj) (fun w hw => F _ _ (by have q9 : j < s.2.1.length := (List.getElem?_eq_some_iff.mp hj).1; have := qm_lenR Q; omega)), it, dC_up2 i (fun j hj => F _ _ (by omega))⟩, ok⟩, fun k j hC => F k j (Or.inl hC)⟩
theorem opm_l {d t f k m n0 : Nat} {τ : List Nat} {h0 : zh} {xc xf xk xm : Int32} {P : zo × zh × Nat → Prop} (exf : xf.toInt = (f : Int)) (hf : 24 ≤ f ∧ f + 56 ≤ 200) (exk : xk.toInt = (k : Int)) (hk : k < n0) (exm : xm.toInt = (m : Int)) (hm : 1 ≤ m ∧ m ≤ 2) (hn0 : n0 + m ≤ 14) (kk : ∀ (h : zh) (xi : Int32), hG τ h → (∀ j, f + 4 * (k + 1) ≤ j → j < f + 4 * n0 → hsl h 378 (j + 4 * m) = hsl h0 378 j) → (∀ k9 j, (k9 ≠ 378 ∨ j < f + 4 * (k + 1 + m) ∨ f + 4 * (n0 + m) ≤ j) → hsl h k9 j = hsl h0 k9 j) → qX d 227 51 [some (.inl (some 52)), some (zi xc), some (zi xf), some (zi xk), some (zi xm), some (zi xi)] [] h t P) : ∀ (n : Nat) (h : zh) (i : Nat) (xi : Int32), (hG τ h) → (∀ j, i < j → j < f + 4 * n0 → hsl h 378 (j + 4 * m) = hsl h0 378 j) → (∀ j, j ≤ i → hsl h 378 j = hsl h0 378 j) → (∀ k9 j, (k9 ≠ 378 ∨ j < f + 4 * (k + 1 + m) ∨ f + 4 * (n0 + m) ≤ j) → hsl h k9 j = hsl h0 k9 j) → (xi.toInt = (i : Int)) → (f + 4 * (k + 1) ≤ i + 1) → (i + 1 ≤ f + 4 * n0) → (i + 1 < f + 4 * (k + 1) + n) → qX d 227 14 [some (.inl (some 52)), some (zi xc), some (zi xf), some (zi xk), some (zi xm), some (zi xi)] [] h t P := by
  intro n
  induction n with
  | zero =>
    intro h i xi hg c1 c2 c3 hxi h1 hi hn
    exfalso
    omega
  | succ n ih =>
    intro h i xi hg c1 c2 c3 hxi h1 hi hn
    skip
    refine y_same (i := .iload 5) (len := 2) (r := (0, 0, 0, 0)) (pc' := 16) (ls' := [some (.inl (some 52)), some (zi xc), some (zi xf), some (zi xk), some (zi xm), some (zi xi)]) (st' := [zi xi]) (by decide +kernel) (fun k q => by cases q) rfl ?_
    refine y_same (i := .iload_n 2) (len := 1) (r := (0, 0, 0, 0)) (pc' := 17) (ls' := [some (.inl (some 52)), some (zi xc), some (zi xf), some (zi xk), some (zi xm), some (zi xi)]) (st' := [zi xf, zi xi]) (by decide +kernel) (fun k q => by cases q) rfl ?_
    refine y_ic (c := 4) (len := 1) (r := (0, 0, 0, 0)) (by decide +kernel) (by decide) (fun y2605 hy2605 => ?_)
    refine y_same (i := .iload_n 3) (len := 1) (r := (0, 0, 0, 0)) (pc' := 19) (ls' := [some (.inl (some 52)), some (zi xc), some (zi xf), some (zi xk), some (zi xm), some (zi xi)]) (st' := [zi xk, zi y2605, zi xf, zi xi]) (by decide +kernel) (fun k q => by cases q) rfl ?_
    refine y_ic (c := 1) (len := 1) (r := (0, 0, 0, 0)) (by decide +kernel) (by decide) (fun y2606 hy2606 => ?_)
    refine y_add (len := 1) (r := (0, 0, 0, 0)) (by decide +kernel) (by omega) (by omega) (fun y2607 hy2607 => ?_)
    refine y_mul (c := 4) (len := 1) (r := (0, 0, 0, 0)) (by decide +kernel) (by omega) (by omega) (by omega) (fun y2608 hy2608 => ?_)
    refine y_add (len := 1) (r := (0, 0, 0, 0)) (by decide +kernel) (by omega) (by omega) (fun y2609 hy2609 => ?_)
    rcases Decidable.em (xi.toInt < y2609.toInt) with q2610 | q2610
    ·
      refine y_cT (c := .lt) (off := 28) (pc' := 51) (len := 3) (r := (0, 0, 0, 0)) (by decide +kernel) (acmpT (c := .lt) (by show _ < _; omega)) (by decide +kernel) ?_
      exact kk h _ hg (fun j h1 h2 => c1 j (by omega) h2) c3
    ·
      refine y_cF (c := .lt) (off := 28) (len := 3) (r := (0, 0, 0, 0)) (by decide +kernel) (acmpF (c := .lt) (by show _ ≤ _; omega)) ?_
      refine y_same (i := .aload_n 0) (len := 1) (r := (0, 0, 0, 0)) (pc' := 27) (ls' := [some (.inl (some 52)), some (zi xc), some (zi xf), some (zi xk), some (zi xm), some (zi xi)]) (st' := [.inl (some 52)]) (by decide +kernel) (fun k q => by cases q) rfl ?_
      refine y_get (j := 61) (len := 3) (r := (12, 23, 2, 1351)) (by decide +kernel) hg (t52 hg) at52 rfl rfl (g_r52 (f := 23) (T2 := 378) hg rfl (by decide)).1 ?_
      refine y_same (i := .iload 5) (len := 2) (r := (0, 0, 0, 0)) (pc' := 32) (ls' := [some (.inl (some 52)), some (zi xc), some (zi xf), some (zi xk), some (zi xm), some (zi xi)]) (st' := [zi xi, .inl (some 378)]) (by decide +kernel) (fun k q => by cases q) rfl ?_
      refine y_ic (c := 4) (len := 1) (r := (0, 0, 0, 0)) (by decide +kernel) (by decide) (fun y2611 hy2611 => ?_)
      refine y_same (i := .iload 4) (len := 2) (r := (0, 0, 0, 0)) (pc' := 35) (ls' := [some (.inl (some 52)), some (zi xc), some (zi xf), some (zi xk), some (zi xm), some (zi xi)]) (st' := [zi xm, zi y2611, zi xi, .inl (some 378)]) (by decide +kernel) (fun k q => by cases q) rfl ?_
      refine y_mul (c := 4) (len := 1) (r := (0, 0, 0, 0)) (by decide +kernel) (by omega) (by omega) (by omega) (fun y2612 hy2612 => ?_)
      refine y_add (len := 1) (r := (0, 0, 0, 0)) (by decide +kernel) (by omega) (by omega) (fun y2613 hy2613 => ?_)
      refine y_same (i := .aload_n 0) (len := 1) (r := (0, 0, 0, 0)) (pc' := 38) (ls' := [some (.inl (some 52)), some (zi xc), some (zi xf), some (zi xk), some (zi xm), some (zi xi)]) (st' := [.inl (some 52), zi y2613, .inl (some 378)]) (by decide +kernel) (fun k q => by cases q) rfl ?_
      refine y_get (j := 61) (len := 3) (r := (12, 23, 2, 1351)) (by decide +kernel) hg (t52 hg) at52 rfl rfl (g_r52 (f := 23) (T2 := 378) hg rfl (by decide)).1 ?_
      refine y_same (i := .iload 5) (len := 2) (r := (0, 0, 0, 0)) (pc' := 43) (ls' := [some (.inl (some 52)), some (zi xc), some (zi xf), some (zi xk), some (zi xm), some (zi xi)]) (st' := [zi xi, .inl (some 378), zi y2613, .inl (some 378)]) (by decide +kernel) (fun k q => by cases q) rfl ?_
      obtain ⟨v2614, hv2615, lv2614, uv2614⟩ := g_int (i := i) hg (tu378 hg) at378 (show i < 200 by omega) (srC (by omega) (by omega))
      refine y_ial (i := i) (len := 1) (r := (0, 0, 0, 0)) (by decide +kernel) hg (tu378 hg) at378 (by omega) hv2615 ?_
      refine y_ias (i := (i + (4 * m))) (len := 1) (r := (0, 0, 0, 0)) (by decide +kernel) hg (tu378 hg) at378 rfl (by omega) (by omega) (srC (by omega) (by omega)) (by omega) (by omega) (fun h2616 hg2616 hl2616 hs2616 ho2616 => ?_)
      refine y_inc (j := 5) (a := xi) (c := (-1)) (ls' := fun v => [some (.inl (some 52)), some (zi xc), some (zi xf), some (zi xk), some (zi xm), some v]) (len := 3) (r := (0, 0, 0, 0)) (by decide +kernel) rfl (fun _ => rfl) (by decide) (by omega) (by omega) (fun y2617 hy2617 => ?_)
      show qX d 227 48 [some (.inl (some 52)), some (zi xc), some (zi xf), some (zi xk), some (zi xm), some (zi y2617)] [] h2616 t _
      refine y_goto (off := (-34)) (pc' := 14) (len := 3) (r := (0, 0, 0, 0)) (by decide +kernel) (by decide +kernel) ?_
      refine ih h2616 (i - 1) y2617 hg2616 (fun j h1 h2 => ?_) (fun j hj => (ho2616 378 j (by omega)).trans (c2 j (by omega))) (fun k j hk9 => (ho2616 k j (by omega)).trans (c3 k j (by omega))) (by omega) (by omega) (by omega) (by omega)
      rcases Nat.lt_or_ge i j with q9 | q9
      · exact (ho2616 378 (j + 4 * m) (by omega)).trans (c1 j q9 h2)
      · obtain rfl : j = i := by omega
        exact hs2616.trans ((c2 j (by omega)).symm.trans hv2615).symm
theorem m_opn {d t c f k m n0 : Nat} {τ : List Nat} {h : zh} {xc xf xk xm : Int32} (hg : hG τ h) (exc : xc.toInt = (c : Int)) (hc : c < 3) (exf : xf.toInt = (f : Int)) (hf : 24 ≤ f ∧ f + 56 ≤ 200) (exk : xk.toInt = (k : Int)) (hk : k < n0) (exm : xm.toInt = (m : Int)) (hm : 1 ≤ m ∧ m ≤ 2) (hn0 : n0 + m ≤ 14) (cn : ci_ h 378 c n0) : qV (d + 1) 227 [some (.inl (some 52)), some (zi xc), some (zi xf), some (zi xk), some (zi xm), none] h t (fun h1 => hG τ h1 ∧ ci_ h1 378 c (n0 + m) ∧ (∀ j, f + 4 * (k + 1) ≤ j → j < f + 4 * n0 → hsl h1 378 (j + 4 * m) = hsl h 378 j) ∧ ∀ k9 j, (k9 ≠ 378 ∨ (j ≠ c ∧ (j < f + 4 * (k + 1 + m) ∨ f + 4 * (n0 + m) ≤ j))) → hsl h1 k9 j = hsl h k9 j) := by
  obtain ⟨xn, hn9, en⟩ := cn
  refine qV_of ?_
  refine y_same (i := .iload_n 2) (len := 1) (r := (0, 0, 0, 0)) (pc' := 1) (ls' := [some (.inl (some 52)), some (zi xc), some (zi xf), some (zi xk), some (zi xm), none]) (st' := [zi xf]) (by decide +kernel) (fun k q => by cases q) rfl ?_
  refine y_ic (c := 4) (len := 1) (r := (0, 0, 0, 0)) (by decide +kernel) (by decide) (fun y2618 hy2618 => ?_)
  refine y_same (i := .aload_n 0) (len := 1) (r := (0, 0, 0, 0)) (pc' := 3) (ls' := [some (.inl (some 52)), some (zi xc), some (zi xf), some (zi xk), some (zi xm), none]) (st' := [.inl (some 52), zi y2618, zi xf]) (by decide +kernel) (fun k q => by cases q) rfl ?_
  refine y_get (j := 61) (len := 3) (r := (12, 23, 2, 1351)) (by decide +kernel) hg (t52 hg) at52 rfl rfl (g_r52 (f := 23) (T2 := 378) hg rfl (by decide)).1 ?_
  refine y_same (i := .iload_n 1) (len := 1) (r := (0, 0, 0, 0)) (pc' := 7) (ls' := [some (.inl (some 52)), some (zi xc), some (zi xf), some (zi xk), some (zi xm), none]) (st' := [zi xc, .inl (some 378), zi y2618, zi xf]) (by decide +kernel) (fun k q => by cases q) rfl ?_
  refine y_ial (i := c) (len := 1) (r := (0, 0, 0, 0)) (by decide +kernel) hg (tu378 hg) at378 (by omega) hn9 ?_
  refine y_mul (c := 4) (len := 1) (r := (0, 0, 0, 0)) (by decide +kernel) (by omega) (by omega) (by omega) (fun y2619 hy2619 => ?_)
  refine y_add (len := 1) (r := (0, 0, 0, 0)) (by decide +kernel) (by omega) (by omega) (fun y2620 hy2620 => ?_)
  refine y_ic (c := 1) (len := 1) (r := (0, 0, 0, 0)) (by decide +kernel) (by decide) (fun y2621 hy2621 => ?_)
  refine y_sub (len := 1) (r := (0, 0, 0, 0)) (by decide +kernel) (by omega) (by omega) (fun y2622 hy2622 => ?_)
  refine y_same (i := .istore 5) (len := 2) (r := (0, 0, 0, 0)) (pc' := 14) (ls' := [some (.inl (some 52)), some (zi xc), some (zi xf), some (zi xk), some (zi xm), some (zi y2622)]) (st' := []) (by decide +kernel) (fun k q => by cases q) rfl ?_
  refine opm_l (h0 := h) (n0 := n0) (m := m) (k := k) (f := f) exf hf exk hk exm hm hn0 (fun h9 xi9 g9 c9 F9 => ?_) (4 * n0 + 4) h (f + 4 * n0 - 1) y2622 hg (fun j h1 h2 => absurd h1 (by omega)) (fun _ _ => rfl) (fun _ _ _ => rfl) (by omega) (by omega) (by omega) (by omega)
  refine y_same (i := .aload_n 0) (len := 1) (r := (0, 0, 0, 0)) (pc' := 52) (ls' := [some (.inl (some 52)), some (zi xc), some (zi xf), some (zi xk), some (zi xm), some (zi xi9)]) (st' := [.inl (some 52)]) (by decide +kernel) (fun k q => by cases q) rfl ?_
  refine y_get (j := 61) (len := 3) (r := (12, 23, 2, 1351)) (by decide +kernel) g9 (t52 g9) at52 rfl rfl (g_r52 (f := 23) (T2 := 378) g9 rfl (by decide)).1 ?_
  refine y_same (i := .iload_n 1) (len := 1) (r := (0, 0, 0, 0)) (pc' := 56) (ls' := [some (.inl (some 52)), some (zi xc), some (zi xf), some (zi xk), some (zi xm), some (zi xi9)]) (st' := [zi xc, .inl (some 378)]) (by decide +kernel) (fun k q => by cases q) rfl ?_
  refine y_same (i := .dup2) (len := 1) (r := (0, 0, 0, 0)) (pc' := 57) (ls' := [some (.inl (some 52)), some (zi xc), some (zi xf), some (zi xk), some (zi xm), some (zi xi9)]) (st' := [zi xc, .inl (some 378), zi xc, .inl (some 378)]) (by decide +kernel) (fun k q => by cases q) rfl ?_
  refine y_ial (i := c) (len := 1) (r := (0, 0, 0, 0)) (by decide +kernel) g9 (tu378 g9) at378 (by omega) ((F9 378 c (by omega)).trans hn9) ?_
  refine y_same (i := .iload 4) (len := 2) (r := (0, 0, 0, 0)) (pc' := 60) (ls' := [some (.inl (some 52)), some (zi xc), some (zi xf), some (zi xk), some (zi xm), some (zi xi9)]) (st' := [zi xm, zi xn, zi xc, .inl (some 378)]) (by decide +kernel) (fun k q => by cases q) rfl ?_
  refine y_add (len := 1) (r := (0, 0, 0, 0)) (by decide +kernel) (by omega) (by omega) (fun y2623 hy2623 => ?_)
  refine y_ias (i := c) (len := 1) (r := (0, 0, 0, 0)) (by decide +kernel) g9 (tu378 g9) at378 rfl (by omega) (by omega) (srA (by omega)) (by omega) (by omega) (fun h2624 hg2624 hl2624 hs2624 ho2624 => ?_)
  refine y_rV (len := 1) (r := (0, 0, 0, 0)) (nL := 6) (n9 := 5) (hs := []) (by decide +kernel) rfl ?_
  exact ⟨hg2624, ⟨_, hs2624, by omega⟩, fun j h1 h2 => (ho2624 378 (j + 4 * m) (by omega)).trans (c9 j h1 h2), fun k9 j hC => (ho2624 k9 j (by omega)).trans (F9 k9 j (by omega))⟩
theorem set_get {l : List it4} {k j : Nat} {a x : it4} (h : (l.set k a)[j]? = some x) : (j = k ∧ x = a) ∨ (j ≠ k ∧ l[j]? = some x) := by
  rw [List.getElem?_set] at h
  by_cases q : k = j
  · rw [if_pos q] at h
    split at h
    · exact Or.inl ⟨q.symm, (Option.some.inj h).symm⟩
    · cases h
  · rw [if_neg q] at h
    exact Or.inr ⟨fun e => q e.symm, h⟩
theorem in2_get {l : List it4} {k j : Nat} {a b x : it4} (hk : k < l.length) (h : (ins_ (l.set k a) (k + 1) b)[j]? = some x) : (j < k ∧ l[j]? = some x) ∨ (j = k ∧ x = a) ∨ (j = k + 1 ∧ x = b) ∨ (k + 1 < j ∧ l[j - 1]? = some x) := by
  rcases ins_get (by rw [List.length_set]; omega) h with ⟨q1, q2⟩ | ⟨q1, q2⟩ | ⟨q1, q2⟩
  · rcases set_get q2 with ⟨q3, q4⟩ | ⟨q3, q4⟩
    · exact Or.inr (Or.inl ⟨q3, q4⟩)
    · exact Or.inl ⟨by omega, q4⟩
  · exact Or.inr (Or.inr (Or.inl ⟨q1, q2⟩))
  · rcases set_get q2 with ⟨q3, q4⟩ | ⟨q3, q4⟩
    · omega
    · exact Or.inr (Or.inr (Or.inr ⟨q1, q4⟩))
theorem in3_get {l : List it4} {k j : Nat} {a b c x : it4} (hk : k < l.length) (h : (ins_ (ins_ (l.set k a) (k + 1) b) (k + 2) c)[j]? = some x) : (j < k ∧ l[j]? = some x) ∨ (j = k ∧ x = a) ∨ (j = k + 1 ∧ x = b) ∨ (j = k + 2 ∧ x = c) ∨ (k + 2 < j ∧ l[j - 2]? = some x) := by
  have hl : (ins_ (l.set k a) (k + 1) b).length = l.length + 1 := by rw [ins_len (by rw [List.length_set]; omega), List.length_set]
  rcases ins_get (by rw [hl]; omega) h with ⟨q1, q2⟩ | ⟨q1, q2⟩ | ⟨q1, q2⟩
  · rcases in2_get hk q2 with q | q | q | ⟨q3, q4⟩
    · exact Or.inl q
    · exact Or.inr (Or.inl q)
    · exact Or.inr (Or.inr (Or.inl q))
    · omega
  · exact Or.inr (Or.inr (Or.inr (Or.inl ⟨q1, q2⟩)))
  · rcases in2_get hk q2 with ⟨q3, _⟩ | ⟨q3, _⟩ | ⟨q3, _⟩ | ⟨q3, q4⟩
    · omega
    · omega
    · omega
    · exact Or.inr (Or.inr (Or.inr (Or.inr ⟨q1, by rw [show j - 2 = j - 1 - 1 by omega]; exact q4⟩)))
theorem m_fld {d t : Nat} {τ : List Nat} {h : zh} {s : sqT} (Q : QM τ h 378 s) (nb : ¬ big_ s) {r : Nat} {ip : it4} {xr : Int32} (exr : xr.toInt = (r : Int)) (kip : s.2.1[r]? = some ip) {l : Nat} {iq : it4} {xl : Int32} (exl : xl.toInt = (l : Int)) (kiq : s.1[l]? = some iq) {xu xv : Int32} (exu : xu.toInt = iq.2.2.1) (exv : xv.toInt = iq.2.2.2) : qV (d + 4) 229 [some (.inl (some 52)), some (zi xr), some (zi xl), some (zi xu), some (zi xv), none] h t (fun h1 => QM τ h1 378 (s.1.eraseIdx l, if ip.1 = 2 then s.2.1.set r (2, iq.2.2.1, ip.2.2.1, 0) else ins_ (s.2.1.set r (3, iq.2.2.1, 0, 0)) (r + 1) (3, iq.2.2.2, 0, 0), s.2.2.1, s.2.2.2) ∧ FM 378 h h1) := by
  have hr9 := (List.getElem?_eq_some_iff.mp kip).1
  have hl9 := (List.getElem?_eq_some_iff.mp kiq).1
  have oiq := okQ_L Q.2.2.2 kiq
  have piq := oiq.1
  unfold okV at piq
  have zip := (okQ_R Q.2.2.2 kip).2.1
  have b1 : ¬ 12 < s.1.length := fun q => nb (Or.inl q)
  have b2 : ¬ 12 < s.2.1.length := fun q => nb (Or.inr (Or.inl q))
  have b3 : ¬ 12 < s.2.2.1.length := fun q => nb (Or.inr (Or.inr q))
  refine qV_of ?_
  have oip := okQ_R Q.2.2.2 kip
  have pip := oip.1
  unfold okV at pip
  obtain ⟨aip, bip, cip, dip, ⟨haip, hbip, hcip, hdip⟩, eaip, ebip, ecip, edip⟩ := qm_itR Q kip
  refine y_same (i := .iload_n 1) (len := 1) (r := (0, 0, 0, 0)) (pc' := 1) (ls' := [some (.inl (some 52)), some (zi xr), some (zi xl), some (zi xu), some (zi xv), none]) (st' := [zi xr]) (by decide +kernel) (fun k q => by cases q) rfl ?_
  refine y_cI (i := .invokestatic 256) (len := 3) (r := (1, 198, 12, 1651)) (nL := 1) (k := 1) (n := 1) (hs := []) (args := [zi xr]) (rest := []) (l0 := [some (zi xr)]) (by decide +kernel) (Or.inl ⟨_, rfl⟩) rfl rfl rfl rfl (Nat.le_of_ble_eq_true rfl) rfl rfl (qI_le (by omega) (e_rightAt (d := 0) (by omega) (by omega))) (fun y2625 qy2625 hRy2625 => ?_)
  obtain ⟨rfl, hy2625⟩ := hRy2625
  refine y_same (i := .istore 5) (len := 2) (r := (0, 0, 0, 0)) (pc' := 6) (ls' := [some (.inl (some 52)), some (zi xr), some (zi xl), some (zi xu), some (zi xv), some (zi y2625)]) (st' := []) (by decide +kernel) (fun k q => by cases q) rfl ?_
  refine y_same (i := .aload_n 0) (len := 1) (r := (0, 0, 0, 0)) (pc' := 7) (ls' := [some (.inl (some 52)), some (zi xr), some (zi xl), some (zi xu), some (zi xv), some (zi y2625)]) (st' := [.inl (some 52)]) (by decide +kernel) (fun k q => by cases q) rfl ?_
  refine y_get (j := 61) (len := 3) (r := (12, 23, 2, 1351)) (by decide +kernel) Q.1 (t52 Q.1) at52 rfl rfl (g_r52 (f := 23) (T2 := 378) Q.1 rfl (by decide)).1 ?_
  refine y_same (i := .iload 5) (len := 2) (r := (0, 0, 0, 0)) (pc' := 12) (ls' := [some (.inl (some 52)), some (zi xr), some (zi xl), some (zi xu), some (zi xv), some (zi y2625)]) (st' := [zi y2625, .inl (some 378)]) (by decide +kernel) (fun k q => by cases q) rfl ?_
  refine y_ial (i := (80 + 4 * r)) (len := 1) (r := (0, 0, 0, 0)) (by decide +kernel) Q.1 (tu378 Q.1) at378 (by omega) haip ?_
  refine y_ic (c := 2) (len := 1) (r := (0, 0, 0, 0)) (by decide +kernel) (by decide) (fun y2626 hy2626 => ?_)
  rcases Decidable.em (aip.toInt ≠ y2626.toInt) with q2627 | q2627
  ·
    refine y_cT (c := .ne) (off := 16) (pc' := 30) (len := 3) (r := (0, 0, 0, 0)) (by decide +kernel) (acmpT (c := .ne) (by show ¬ (_ = _); omega)) (by decide +kernel) ?_
    refine y_same (i := .aload_n 0) (len := 1) (r := (0, 0, 0, 0)) (pc' := 31) (ls' := [some (.inl (some 52)), some (zi xr), some (zi xl), some (zi xu), some (zi xv), some (zi y2625)]) (st' := [.inl (some 52)]) (by decide +kernel) (fun k q => by cases q) rfl ?_
    refine y_ic (c := 1) (len := 1) (r := (0, 0, 0, 0)) (by decide +kernel) (by decide) (fun y2628 hy2628 => ?_)
    refine y_bi (c := 80) (len := 2) (r := (0, 0, 0, 0)) (by decide +kernel) (by decide) (fun y2629 hy2629 => ?_)
    refine y_same (i := .iload_n 1) (len := 1) (r := (0, 0, 0, 0)) (pc' := 35) (ls' := [some (.inl (some 52)), some (zi xr), some (zi xl), some (zi xu), some (zi xv), some (zi y2625)]) (st' := [zi xr, zi y2629, zi y2628, .inl (some 52)]) (by decide +kernel) (fun k q => by cases q) rfl ?_
    refine y_ic (c := 1) (len := 1) (r := (0, 0, 0, 0)) (by decide +kernel) (by decide) (fun y2630 hy2630 => ?_)
    refine y_cV (i := .invokevirtual 339) (len := 3) (r := (0, 227, 12, 1692)) (nL := 6) (k := 0) (n := 5) (hs := []) (args := [.inl (some 52), zi y2628, zi y2629, zi xr, zi y2630]) (rest := []) (l0 := [some (.inl (some 52)), some (zi y2628), some (zi y2629), some (zi xr), some (zi y2630), none]) (by decide +kernel) (Or.inr (Or.inl ⟨_, rfl⟩)) rfl rfl rfl rfl (Nat.le_of_ble_eq_true rfl) (z52 Q.1) rfl (qV_le (by omega) (m_opn (d := 0) (c := 1) (f := 80) (k := r) (m := 1) (n0 := s.2.1.length) Q.1 (by omega) (by decide) (by omega) (by decide) (by omega) (by omega) (by omega) (by decide) (by omega) (ci_up Q.2.2.1.2.1 (rfl)))) (fun h2631 hR2631 => ?_)
    obtain ⟨hg2631, cO, sO, F2631⟩ := hR2631
    refine y_same (i := .aload_n 0) (len := 1) (r := (0, 0, 0, 0)) (pc' := 40) (ls' := [some (.inl (some 52)), some (zi xr), some (zi xl), some (zi xu), some (zi xv), some (zi y2625)]) (st' := [.inl (some 52)]) (by decide +kernel) (fun k q => by cases q) rfl ?_
    refine y_get (j := 61) (len := 3) (r := (12, 23, 2, 1351)) (by decide +kernel) hg2631 (t52 hg2631) at52 rfl rfl (g_r52 (f := 23) (T2 := 378) hg2631 rfl (by decide)).1 ?_
    refine y_same (i := .iload 5) (len := 2) (r := (0, 0, 0, 0)) (pc' := 45) (ls' := [some (.inl (some 52)), some (zi xr), some (zi xl), some (zi xu), some (zi xv), some (zi y2625)]) (st' := [zi y2625, .inl (some 378)]) (by decide +kernel) (fun k q => by cases q) rfl ?_
    refine y_ic (c := 3) (len := 1) (r := (0, 0, 0, 0)) (by decide +kernel) (by decide) (fun y2632 hy2632 => ?_)
    refine y_same (i := .iload_n 3) (len := 1) (r := (0, 0, 0, 0)) (pc' := 47) (ls' := [some (.inl (some 52)), some (zi xr), some (zi xl), some (zi xu), some (zi xv), some (zi y2625)]) (st' := [zi xu, zi y2632, zi y2625, .inl (some 378)]) (by decide +kernel) (fun k q => by cases q) rfl ?_
    refine y_ic (c := 0) (len := 1) (r := (0, 0, 0, 0)) (by decide +kernel) (by decide) (fun y2633 hy2633 => ?_)
    refine y_ic (c := 0) (len := 1) (r := (0, 0, 0, 0)) (by decide +kernel) (by decide) (fun y2634 hy2634 => ?_)
    refine y_cV (i := .invokestatic 151) (len := 3) (r := (1, 179, 12, 1549)) (nL := 6) (k := 0) (n := 6) (hs := []) (args := [.inl (some 378), zi y2625, zi y2632, zi xu, zi y2633, zi y2634]) (rest := []) (l0 := [some (.inl (some 378)), some (zi y2625), some (zi y2632), some (zi xu), some (zi y2633), some (zi y2634)]) (by decide +kernel) (Or.inl ⟨_, rfl⟩) rfl rfl rfl rfl (Nat.le_of_ble_eq_true rfl) rfl rfl (qV_le (by omega) (m_fur (d := 0) (p := (80 + 4 * r)) (i := (3, iq.2.2.1, 0, 0)) hg2631 (rwT_d hg2631) (by omega) (by omega) (by omega) (okPt_t (by omega)).1 (by omega) (by omega) (by omega) (by omega))) (fun h2635 hR2635 => ?_)
    obtain ⟨hg2635, d2635, F2635⟩ := hR2635
    refine y_same (i := .aload_n 0) (len := 1) (r := (0, 0, 0, 0)) (pc' := 53) (ls' := [some (.inl (some 52)), some (zi xr), some (zi xl), some (zi xu), some (zi xv), some (zi y2625)]) (st' := [.inl (some 52)]) (by decide +kernel) (fun k q => by cases q) rfl ?_
    refine y_get (j := 61) (len := 3) (r := (12, 23, 2, 1351)) (by decide +kernel) hg2635 (t52 hg2635) at52 rfl rfl (g_r52 (f := 23) (T2 := 378) hg2635 rfl (by decide)).1 ?_
    refine y_same (i := .iload 5) (len := 2) (r := (0, 0, 0, 0)) (pc' := 58) (ls' := [some (.inl (some 52)), some (zi xr), some (zi xl), some (zi xu), some (zi xv), some (zi y2625)]) (st' := [zi y2625, .inl (some 378)]) (by decide +kernel) (fun k q => by cases q) rfl ?_
    refine y_ic (c := 4) (len := 1) (r := (0, 0, 0, 0)) (by decide +kernel) (by decide) (fun y2636 hy2636 => ?_)
    refine y_add (len := 1) (r := (0, 0, 0, 0)) (by decide +kernel) (by omega) (by omega) (fun y2637 hy2637 => ?_)
    refine y_ic (c := 3) (len := 1) (r := (0, 0, 0, 0)) (by decide +kernel) (by decide) (fun y2638 hy2638 => ?_)
    refine y_same (i := .iload 4) (len := 2) (r := (0, 0, 0, 0)) (pc' := 63) (ls' := [some (.inl (some 52)), some (zi xr), some (zi xl), some (zi xu), some (zi xv), some (zi y2625)]) (st' := [zi xv, zi y2638, zi y2637, .inl (some 378)]) (by decide +kernel) (fun k q => by cases q) rfl ?_
    refine y_ic (c := 0) (len := 1) (r := (0, 0, 0, 0)) (by decide +kernel) (by decide) (fun y2639 hy2639 => ?_)
    refine y_ic (c := 0) (len := 1) (r := (0, 0, 0, 0)) (by decide +kernel) (by decide) (fun y2640 hy2640 => ?_)
    refine y_cV (i := .invokestatic 151) (len := 3) (r := (1, 179, 12, 1549)) (nL := 6) (k := 0) (n := 6) (hs := []) (args := [.inl (some 378), zi y2637, zi y2638, zi xv, zi y2639, zi y2640]) (rest := []) (l0 := [some (.inl (some 378)), some (zi y2637), some (zi y2638), some (zi xv), some (zi y2639), some (zi y2640)]) (by decide +kernel) (Or.inl ⟨_, rfl⟩) rfl rfl rfl rfl (Nat.le_of_ble_eq_true rfl) rfl rfl (qV_le (by omega) (m_fur (d := 0) (p := ((80 + 4 * r) + 4)) (i := (3, iq.2.2.2, 0, 0)) hg2635 (rwT_d hg2635) (by omega) (by omega) (by omega) (okPt_t (by omega)).1 (by omega) (by omega) (by omega) (by omega))) (fun h2641 hR2641 => ?_)
    obtain ⟨hg2641, d2641, F2641⟩ := hR2641
    have it9 : ∀ (j : Nat) (i : it4), (ins_ (s.2.1.set r (3, iq.2.2.1, 0, 0)) (r + 1) (3, iq.2.2.2, 0, 0))[j]? = some i → qdM h2641 378 (80 + 4 * j) i := fun j i hj => by
      rcases in2_get (by omega) hj with ⟨q1, q2⟩ | ⟨q1, q2⟩ | ⟨q1, q2⟩ | ⟨q1, q2⟩
      · exact qdM_up (Q.2.2.1.2.2.2.2.1 j i q2) (fun w hw => ((F2641 378 (80 + 4 * j + w) (by omega)).trans ((F2635 378 (80 + 4 * j + w) (by omega)).trans (F2631 378 (80 + 4 * j + w) (by omega)))))
      · rw [q1, q2]
        exact qdM_up d2635 (fun w hw => (F2641 378 (80 + 4 * (r) + w) (by omega)))
      · rw [q1, q2]
        exact qdM_up d2641 (fun w hw => rfl)
      · have hj9 := (List.getElem?_eq_some_iff.mp q2).1
        refine qdM_up (Q.2.2.1.2.2.2.2.1 (j - 1) i q2) (fun w hw => ?_)
        have e9 := sO (80 + 4 * (j - 1) + w) (by omega) (by omega)
        rw [show 80 + 4 * (j - 1) + w + 4 * 1 = 80 + 4 * j + w by omega] at e9
        exact (((F2641 378 (80 + 4 * j + w) (by omega)).trans (F2635 378 (80 + 4 * j + w) (by omega)))).trans (e9.trans (rfl))
    have ln9 : (ins_ (s.2.1.set r (3, iq.2.2.1, 0, 0)) (r + 1) (3, iq.2.2.2, 0, 0)).length = s.2.1.length + 1 := by rw [ins_len (by rw [List.length_set]; omega), List.length_set]
    have QF := QM_R Q hg2641 (by rw [ln9]; exact ci_up cO (((F2641 378 1 (by omega)).trans (F2635 378 1 (by omega))))) it9 (fun k j hC => ((F2641 k j (by omega)).trans ((F2635 k j (by omega)).trans (F2631 k j (by omega))))) ⟨Q.2.2.2.1, fun p m => (mem_ins m).elim (fun e => by rw [e]; exact okPt_t (by omega)) (fun m => (mem_st m).elim (fun e => by rw [e]; exact okPt_t (by omega)) (Q.2.2.2.2.1 p)), Q.2.2.2.2.2⟩
    obtain ⟨QN, FN⟩ := QF
    refine y_same (i := .aload_n 0) (len := 1) (r := (0, 0, 0, 0)) (pc' := 69) (ls' := [some (.inl (some 52)), some (zi xr), some (zi xl), some (zi xu), some (zi xv), some (zi y2625)]) (st' := [.inl (some 52)]) (by decide +kernel) (fun k q => by cases q) rfl ?_
    refine y_get (j := 61) (len := 3) (r := (12, 23, 2, 1351)) (by decide +kernel) hg2641 (t52 hg2641) at52 rfl rfl (g_r52 (f := 23) (T2 := 378) hg2641 rfl (by decide)).1 ?_
    refine y_same (i := .iload_n 2) (len := 1) (r := (0, 0, 0, 0)) (pc' := 73) (ls' := [some (.inl (some 52)), some (zi xr), some (zi xl), some (zi xu), some (zi xv), some (zi y2625)]) (st' := [zi xl, .inl (some 378)]) (by decide +kernel) (fun k q => by cases q) rfl ?_
    refine y_cV (i := .invokestatic 284) (len := 3) (r := (1, 208, 12, 1682)) (nL := 2) (k := 0) (n := 2) (hs := []) (args := [.inl (some 378), zi xl]) (rest := []) (l0 := [some (.inl (some 378)), some (zi xl)]) (by decide +kernel) (Or.inl ⟨_, rfl⟩) rfl rfl rfl rfl (Nat.le_of_ble_eq_true rfl) rfl rfl (qV_le (by omega) (m_goL1 (d := 0) (k := l) QN (by omega) hl9)) (fun h2642 hR2642 => ?_)
    obtain ⟨Q2642, F2642⟩ := hR2642
    refine y_rV (len := 1) (r := (0, 0, 0, 0)) (nL := 6) (n9 := 5) (hs := []) (by decide +kernel) rfl ?_
    rw [if_neg (by omega)]
    exact ⟨Q2642, fun k j hC => ((F2642 k j (by omega)).trans (FN k j (by omega)))⟩
  ·
    refine y_cF (c := .ne) (off := 16) (len := 3) (r := (0, 0, 0, 0)) (by decide +kernel) (acmpF (c := .ne) (by show _ = _; omega)) ?_
    refine y_same (i := .aload_n 0) (len := 1) (r := (0, 0, 0, 0)) (pc' := 18) (ls' := [some (.inl (some 52)), some (zi xr), some (zi xl), some (zi xu), some (zi xv), some (zi y2625)]) (st' := [.inl (some 52)]) (by decide +kernel) (fun k q => by cases q) rfl ?_
    refine y_get (j := 61) (len := 3) (r := (12, 23, 2, 1351)) (by decide +kernel) Q.1 (t52 Q.1) at52 rfl rfl (g_r52 (f := 23) (T2 := 378) Q.1 rfl (by decide)).1 ?_
    refine y_same (i := .iload 5) (len := 2) (r := (0, 0, 0, 0)) (pc' := 23) (ls' := [some (.inl (some 52)), some (zi xr), some (zi xl), some (zi xu), some (zi xv), some (zi y2625)]) (st' := [zi y2625, .inl (some 378)]) (by decide +kernel) (fun k q => by cases q) rfl ?_
    refine y_ic (c := 1) (len := 1) (r := (0, 0, 0, 0)) (by decide +kernel) (by decide) (fun y2643 hy2643 => ?_)
    refine y_add (len := 1) (r := (0, 0, 0, 0)) (by decide +kernel) (by omega) (by omega) (fun y2644 hy2644 => ?_)
    refine y_same (i := .iload_n 3) (len := 1) (r := (0, 0, 0, 0)) (pc' := 26) (ls' := [some (.inl (some 52)), some (zi xr), some (zi xl), some (zi xu), some (zi xv), some (zi y2625)]) (st' := [zi xu, zi y2644, .inl (some 378)]) (by decide +kernel) (fun k q => by cases q) rfl ?_
    refine y_ias (i := ((80 + 4 * r) + 1)) (len := 1) (r := (0, 0, 0, 0)) (by decide +kernel) Q.1 (tu378 Q.1) at378 rfl (by omega) (by omega) (srC (by omega) (by omega)) (by omega) (by omega) (fun h2645 hg2645 hl2645 hs2645 ho2645 => ?_)
    refine y_goto (off := 41) (pc' := 68) (len := 3) (r := (0, 0, 0, 0)) (by decide +kernel) (by decide +kernel) ?_
    have hv2646 := (ho2645 378 (80 + 4 * r) (Or.inr (by omega))).trans haip
    have hv2647 := (ho2645 378 ((80 + 4 * r) + 2) (Or.inr (by omega))).trans hcip
    have hv2648 := (ho2645 378 ((80 + 4 * r) + 3) (Or.inr (by omega))).trans hdip
    have it9 : ∀ (j : Nat) (i : it4), (s.2.1.set r (2, iq.2.2.1, ip.2.2.1, 0))[j]? = some i → qdM h2645 378 (80 + 4 * j) i := fun j i hj => by
      rcases set_get hj with ⟨q1, q2⟩ | ⟨q1, q2⟩
      · rw [q1, q2]
        exact ⟨_, _, _, _, ⟨hv2646, hs2645, hv2647, hv2648⟩, by show _ = (2 : Int); omega, by show _ = iq.2.2.1; omega, by show _ = ip.2.2.1; omega, by show _ = (0 : Int); omega⟩
      · exact qdM_up (Q.2.2.1.2.2.2.2.1 j i q2) (fun w hw => (ho2645 378 (80 + 4 * j + w) (by omega)))
    have QF := QM_R Q hg2645 (by rw [List.length_set]; exact ci_up Q.2.2.1.2.1 ((ho2645 378 1 (by omega)))) it9 (fun k j hC => (ho2645 k j (by omega))) ⟨Q.2.2.2.1, fun p m => (mem_st m).elim (fun e => by rw [e]; exact okPt_l (by omega) (by omega)) (Q.2.2.2.2.1 p), Q.2.2.2.2.2⟩
    obtain ⟨QN, FN⟩ := QF
    refine y_same (i := .aload_n 0) (len := 1) (r := (0, 0, 0, 0)) (pc' := 69) (ls' := [some (.inl (some 52)), some (zi xr), some (zi xl), some (zi xu), some (zi xv), some (zi y2625)]) (st' := [.inl (some 52)]) (by decide +kernel) (fun k q => by cases q) rfl ?_
    refine y_get (j := 61) (len := 3) (r := (12, 23, 2, 1351)) (by decide +kernel) hg2645 (t52 hg2645) at52 rfl rfl (g_r52 (f := 23) (T2 := 378) hg2645 rfl (by decide)).1 ?_
    refine y_same (i := .iload_n 2) (len := 1) (r := (0, 0, 0, 0)) (pc' := 73) (ls' := [some (.inl (some 52)), some (zi xr), some (zi xl), some (zi xu), some (zi xv), some (zi y2625)]) (st' := [zi xl, .inl (some 378)]) (by decide +kernel) (fun k q => by cases q) rfl ?_
    refine y_cV (i := .invokestatic 284) (len := 3) (r := (1, 208, 12, 1682)) (nL := 2) (k := 0) (n := 2) (hs := []) (args := [.inl (some 378), zi xl]) (rest := []) (l0 := [some (.inl (some 378)), some (zi xl)]) (by decide +kernel) (Or.inl ⟨_, rfl⟩) rfl rfl rfl rfl (Nat.le_of_ble_eq_true rfl) rfl rfl (qV_le (by omega) (m_goL1 (d := 0) (k := l) QN (by omega) hl9)) (fun h2649 hR2649 => ?_)
    obtain ⟨Q2649, F2649⟩ := hR2649
    refine y_rV (len := 1) (r := (0, 0, 0, 0)) (nL := 6) (n9 := 5) (hs := []) (by decide +kernel) rfl ?_
    rw [if_pos (by omega)]
    exact ⟨Q2649, fun k j hC => ((F2649 k j (by omega)).trans (FN k j (by omega)))⟩
theorem m_unf {d t : Nat} {τ : List Nat} {h : zh} {s : sqT} (Q : QM τ h 378 s) (nb : ¬ big_ s) {l : Nat} {iq : it4} {xl : Int32} (exl : xl.toInt = (l : Int)) (kiq : s.1[l]? = some iq) (h2 : 2 ≤ iq.1) {xw : Int32} : qI (d + 5) 230 [some (.inl (some 52)), some (zi xl), some (zi xw), none, none, none, none, none, none] h t (fun y h1 => (y.toInt = 1 ∧ ∃ s', (if xw.toInt ≠ 0 then (if frF (mnA s) = 21 then none else if iq.1 = 2 then some (ins_ (s.1.set l (0, iq.2.1, (frF (mnA s) : Int), 0)) (l + 1) (2, (frF (mnA s) : Int), iq.2.2.1, 0), s.2.1, s.2.2.1, dAdd s.2.2.2 iq.2.1 iq.2.2.1) else if frF (fun v => mnA s v ∨ v = (frF (mnA s) : Int)) = 21 then none else some (ins_ (ins_ (s.1.set l (1, iq.2.1, (frF (mnA s) : Int), (frF (fun v => mnA s v ∨ v = (frF (mnA s) : Int)) : Int))) (l + 1) (3, (frF (mnA s) : Int), 0, 0)) (l + 2) (3, (frF (fun v => mnA s v ∨ v = (frF (mnA s) : Int)) : Int), 0, 0), s.2.1, s.2.2.1, s.2.2.2) : Option sqT) else some (mkQ iq.2.1 iq.2.2.1 s)) = some s' ∧ QM τ h1 378 s' ∧ FM 378 h h1) ∨ (y.toInt = 0 ∧ (if xw.toInt ≠ 0 then (if frF (mnA s) = 21 then none else if iq.1 = 2 then some (ins_ (s.1.set l (0, iq.2.1, (frF (mnA s) : Int), 0)) (l + 1) (2, (frF (mnA s) : Int), iq.2.2.1, 0), s.2.1, s.2.2.1, dAdd s.2.2.2 iq.2.1 iq.2.2.1) else if frF (fun v => mnA s v ∨ v = (frF (mnA s) : Int)) = 21 then none else some (ins_ (ins_ (s.1.set l (1, iq.2.1, (frF (mnA s) : Int), (frF (fun v => mnA s v ∨ v = (frF (mnA s) : Int)) : Int))) (l + 1) (3, (frF (mnA s) : Int), 0, 0)) (l + 2) (3, (frF (fun v => mnA s v ∨ v = (frF (mnA s) : Int)) : Int), 0, 0), s.2.1, s.2.2.1, s.2.2.2) : Option sqT) else some (mkQ iq.2.1 iq.2.2.1 s)) = none ∧ ∃ s', QM τ h1 378 s' ∧ FM 378 h h1)) := by
  have hl9 := (List.getElem?_eq_some_iff.mp kiq).1
  have oiq := okQ_L Q.2.2.2 kiq
  have piq := oiq.1
  have ziq := oiq.2.2
  unfold okV at piq
  have b1 : ¬ 12 < s.1.length := fun q => nb (Or.inl q)
  have b2 : ¬ 12 < s.2.1.length := fun q => nb (Or.inr (Or.inl q))
  have b3 : ¬ 12 < s.2.2.1.length := fun q => nb (Or.inr (Or.inr q))
  refine qI_of ?_
  have oiq := okQ_L Q.2.2.2 kiq
  have piq := oiq.1
  unfold okV at piq
  obtain ⟨aiq, biq, ciq, diq, ⟨haiq, hbiq, hciq, hdiq⟩, eaiq, ebiq, eciq, ediq⟩ := qm_itL Q kiq
  refine y_same (i := .iload_n 1) (len := 1) (r := (0, 0, 0, 0)) (pc' := 1) (ls' := [some (.inl (some 52)), some (zi xl), some (zi xw), none, none, none, none, none, none]) (st' := [zi xl]) (by decide +kernel) (fun k q => by cases q) rfl ?_
  refine y_cI (i := .invokestatic 249) (len := 3) (r := (1, 197, 12, 1644)) (nL := 1) (k := 1) (n := 1) (hs := []) (args := [zi xl]) (rest := []) (l0 := [some (zi xl)]) (by decide +kernel) (Or.inl ⟨_, rfl⟩) rfl rfl rfl rfl (Nat.le_of_ble_eq_true rfl) rfl rfl (qI_le (by omega) (e_leftAt (d := 0) (by omega) (by omega))) (fun y2650 qy2650 hRy2650 => ?_)
  obtain ⟨rfl, hy2650⟩ := hRy2650
  refine y_same (i := .istore_n 3) (len := 1) (r := (0, 0, 0, 0)) (pc' := 5) (ls' := [some (.inl (some 52)), some (zi xl), some (zi xw), some (zi y2650), none, none, none, none, none]) (st' := []) (by decide +kernel) (fun k q => by cases q) rfl ?_
  refine y_same (i := .aload_n 0) (len := 1) (r := (0, 0, 0, 0)) (pc' := 6) (ls' := [some (.inl (some 52)), some (zi xl), some (zi xw), some (zi y2650), none, none, none, none, none]) (st' := [.inl (some 52)]) (by decide +kernel) (fun k q => by cases q) rfl ?_
  refine y_get (j := 61) (len := 3) (r := (12, 23, 2, 1351)) (by decide +kernel) Q.1 (t52 Q.1) at52 rfl rfl (g_r52 (f := 23) (T2 := 378) Q.1 rfl (by decide)).1 ?_
  refine y_same (i := .iload_n 3) (len := 1) (r := (0, 0, 0, 0)) (pc' := 10) (ls' := [some (.inl (some 52)), some (zi xl), some (zi xw), some (zi y2650), none, none, none, none, none]) (st' := [zi y2650, .inl (some 378)]) (by decide +kernel) (fun k q => by cases q) rfl ?_
  refine y_ic (c := 1) (len := 1) (r := (0, 0, 0, 0)) (by decide +kernel) (by decide) (fun y2651 hy2651 => ?_)
  refine y_add (len := 1) (r := (0, 0, 0, 0)) (by decide +kernel) (by omega) (by omega) (fun y2652 hy2652 => ?_)
  refine y_ial (i := ((24 + 4 * l) + 1)) (len := 1) (r := (0, 0, 0, 0)) (by decide +kernel) Q.1 (tu378 Q.1) at378 (by omega) hbiq ?_
  refine y_same (i := .istore 4) (len := 2) (r := (0, 0, 0, 0)) (pc' := 15) (ls' := [some (.inl (some 52)), some (zi xl), some (zi xw), some (zi y2650), some (zi biq), none, none, none, none]) (st' := []) (by decide +kernel) (fun k q => by cases q) rfl ?_
  refine y_same (i := .aload_n 0) (len := 1) (r := (0, 0, 0, 0)) (pc' := 16) (ls' := [some (.inl (some 52)), some (zi xl), some (zi xw), some (zi y2650), some (zi biq), none, none, none, none]) (st' := [.inl (some 52)]) (by decide +kernel) (fun k q => by cases q) rfl ?_
  refine y_get (j := 61) (len := 3) (r := (12, 23, 2, 1351)) (by decide +kernel) Q.1 (t52 Q.1) at52 rfl rfl (g_r52 (f := 23) (T2 := 378) Q.1 rfl (by decide)).1 ?_
  refine y_same (i := .iload_n 3) (len := 1) (r := (0, 0, 0, 0)) (pc' := 20) (ls' := [some (.inl (some 52)), some (zi xl), some (zi xw), some (zi y2650), some (zi biq), none, none, none, none]) (st' := [zi y2650, .inl (some 378)]) (by decide +kernel) (fun k q => by cases q) rfl ?_
  refine y_ic (c := 2) (len := 1) (r := (0, 0, 0, 0)) (by decide +kernel) (by decide) (fun y2653 hy2653 => ?_)
  refine y_add (len := 1) (r := (0, 0, 0, 0)) (by decide +kernel) (by omega) (by omega) (fun y2654 hy2654 => ?_)
  refine y_ial (i := ((24 + 4 * l) + 2)) (len := 1) (r := (0, 0, 0, 0)) (by decide +kernel) Q.1 (tu378 Q.1) at378 (by omega) hciq ?_
  refine y_same (i := .istore 5) (len := 2) (r := (0, 0, 0, 0)) (pc' := 25) (ls' := [some (.inl (some 52)), some (zi xl), some (zi xw), some (zi y2650), some (zi biq), some (zi ciq), none, none, none]) (st' := []) (by decide +kernel) (fun k q => by cases q) rfl ?_
  refine y_same (i := .aload_n 0) (len := 1) (r := (0, 0, 0, 0)) (pc' := 26) (ls' := [some (.inl (some 52)), some (zi xl), some (zi xw), some (zi y2650), some (zi biq), some (zi ciq), none, none, none]) (st' := [.inl (some 52)]) (by decide +kernel) (fun k q => by cases q) rfl ?_
  refine y_get (j := 61) (len := 3) (r := (12, 23, 2, 1351)) (by decide +kernel) Q.1 (t52 Q.1) at52 rfl rfl (g_r52 (f := 23) (T2 := 378) Q.1 rfl (by decide)).1 ?_
  refine y_same (i := .iload_n 3) (len := 1) (r := (0, 0, 0, 0)) (pc' := 30) (ls' := [some (.inl (some 52)), some (zi xl), some (zi xw), some (zi y2650), some (zi biq), some (zi ciq), none, none, none]) (st' := [zi y2650, .inl (some 378)]) (by decide +kernel) (fun k q => by cases q) rfl ?_
  refine y_ial (i := (24 + 4 * l)) (len := 1) (r := (0, 0, 0, 0)) (by decide +kernel) Q.1 (tu378 Q.1) at378 (by omega) haiq ?_
  refine y_ic (c := 2) (len := 1) (r := (0, 0, 0, 0)) (by decide +kernel) (by decide) (fun y2655 hy2655 => ?_)
  rcases Decidable.em (aiq.toInt ≠ y2655.toInt) with q2656 | q2656
  ·
    refine y_cT (c := .ne) (off := 7) (pc' := 39) (len := 3) (r := (0, 0, 0, 0)) (by decide +kernel) (acmpT (c := .ne) (by show ¬ (_ = _); omega)) (by decide +kernel) ?_
    refine y_ic (c := 0) (len := 1) (r := (0, 0, 0, 0)) (by decide +kernel) (by decide) (fun y2657 hy2657 => ?_)
    refine y_same (i := .istore 6) (len := 2) (r := (0, 0, 0, 0)) (pc' := 42) (ls' := [some (.inl (some 52)), some (zi xl), some (zi xw), some (zi y2650), some (zi biq), some (zi ciq), some (zi y2657), none, none]) (st' := []) (by decide +kernel) (fun k q => by cases q) rfl ?_
    refine y_same (i := .iload_n 2) (len := 1) (r := (0, 0, 0, 0)) (pc' := 43) (ls' := [some (.inl (some 52)), some (zi xl), some (zi xw), some (zi y2650), some (zi biq), some (zi ciq), some (zi y2657), none, none]) (st' := [zi xw]) (by decide +kernel) (fun k q => by cases q) rfl ?_
    rcases Decidable.em (xw.toInt ≠ 0) with q2658 | q2658
    ·
      refine y_iT (c := .ne) (off := 25) (pc' := 68) (len := 3) (r := (0, 0, 0, 0)) (by decide +kernel) (acmpT (c := .ne) (by show ¬ (_ = _); omega)) (by decide +kernel) ?_
      refine y_same (i := .aload_n 0) (len := 1) (r := (0, 0, 0, 0)) (pc' := 69) (ls' := [some (.inl (some 52)), some (zi xl), some (zi xw), some (zi y2650), some (zi biq), some (zi ciq), some (zi y2657), none, none]) (st' := [.inl (some 52)]) (by decide +kernel) (fun k q => by cases q) rfl ?_
      refine y_get (j := 61) (len := 3) (r := (12, 23, 2, 1351)) (by decide +kernel) Q.1 (t52 Q.1) at52 rfl rfl (g_r52 (f := 23) (T2 := 378) Q.1 rfl (by decide)).1 ?_
      refine y_ic (c := 0) (len := 1) (r := (0, 0, 0, 0)) (by decide +kernel) (by decide) (fun y2659 hy2659 => ?_)
      refine y_cI (i := .invokestatic 342) (len := 3) (r := (1, 219, 12, 1700)) (nL := 4) (k := 1) (n := 2) (hs := []) (args := [.inl (some 378), zi y2659]) (rest := []) (l0 := [some (.inl (some 378)), some (zi y2659), none, none]) (by decide +kernel) (Or.inl ⟨_, rfl⟩) rfl rfl rfl rfl (Nat.le_of_ble_eq_true rfl) rfl rfl (qI_le (by omega) (m_frs (d := 0) (w := 0) Q (by omega) (by omega))) (fun y2660 qy2660 hRy2660 => ?_)
      obtain ⟨rfl, u2660, ey2660, fy2660⟩ := hRy2660
      have gy2660 := fy2660.1
      have iy2660 := fy2660.2.1
      refine y_same (i := .istore 7) (len := 2) (r := (0, 0, 0, 0)) (pc' := 78) (ls' := [some (.inl (some 52)), some (zi xl), some (zi xw), some (zi y2650), some (zi biq), some (zi ciq), some (zi y2657), some (zi y2660), none]) (st' := []) (by decide +kernel) (fun k q => by cases q) rfl ?_
      refine y_same (i := .iload 6) (len := 2) (r := (0, 0, 0, 0)) (pc' := 80) (ls' := [some (.inl (some 52)), some (zi xl), some (zi xw), some (zi y2650), some (zi biq), some (zi ciq), some (zi y2657), some (zi y2660), none]) (st' := [zi y2657]) (by decide +kernel) (fun k q => by cases q) rfl ?_
      refine y_iT (c := .eq) (off := 8) (pc' := 88) (len := 3) (r := (0, 0, 0, 0)) (by decide +kernel) (acmpT (c := .eq) (by show _ = _; omega)) (by decide +kernel) ?_
      refine y_same (i := .aload_n 0) (len := 1) (r := (0, 0, 0, 0)) (pc' := 89) (ls' := [some (.inl (some 52)), some (zi xl), some (zi xw), some (zi y2650), some (zi biq), some (zi ciq), some (zi y2657), some (zi y2660), none]) (st' := [.inl (some 52)]) (by decide +kernel) (fun k q => by cases q) rfl ?_
      refine y_get (j := 61) (len := 3) (r := (12, 23, 2, 1351)) (by decide +kernel) Q.1 (t52 Q.1) at52 rfl rfl (g_r52 (f := 23) (T2 := 378) Q.1 rfl (by decide)).1 ?_
      refine y_same (i := .iload 7) (len := 2) (r := (0, 0, 0, 0)) (pc' := 94) (ls' := [some (.inl (some 52)), some (zi xl), some (zi xw), some (zi y2650), some (zi biq), some (zi ciq), some (zi y2657), some (zi y2660), none]) (st' := [zi y2660, .inl (some 378)]) (by decide +kernel) (fun k q => by cases q) rfl ?_
      refine y_cI (i := .invokestatic 342) (len := 3) (r := (1, 219, 12, 1700)) (nL := 4) (k := 1) (n := 2) (hs := []) (args := [.inl (some 378), zi y2660]) (rest := []) (l0 := [some (.inl (some 378)), some (zi y2660), none, none]) (by decide +kernel) (Or.inl ⟨_, rfl⟩) rfl rfl rfl rfl (Nat.le_of_ble_eq_true rfl) rfl rfl (qI_le (by omega) (m_frs (d := 0) (w := u2660) Q (by omega) (by omega))) (fun y2661 qy2661 hRy2661 => ?_)
      obtain ⟨rfl, u2661, ey2661, fy2661⟩ := hRy2661
      have gy2661 := fy2661.1
      have iy2661 := fy2661.2.1
      refine y_same (i := .istore 8) (len := 2) (r := (0, 0, 0, 0)) (pc' := 99) (ls' := [some (.inl (some 52)), some (zi xl), some (zi xw), some (zi y2650), some (zi biq), some (zi ciq), some (zi y2657), some (zi y2660), some (zi y2661)]) (st' := []) (by decide +kernel) (fun k q => by cases q) rfl ?_
      refine y_same (i := .iload 7) (len := 2) (r := (0, 0, 0, 0)) (pc' := 101) (ls' := [some (.inl (some 52)), some (zi xl), some (zi xw), some (zi y2650), some (zi biq), some (zi ciq), some (zi y2657), some (zi y2660), some (zi y2661)]) (st' := [zi y2660]) (by decide +kernel) (fun k q => by cases q) rfl ?_
      refine y_bi (c := 21) (len := 2) (r := (0, 0, 0, 0)) (by decide +kernel) (by decide) (fun y2662 hy2662 => ?_)
      rcases Decidable.em (y2660.toInt ≥ y2662.toInt) with q2663 | q2663
      ·
        refine y_cT (c := .ge) (off := 10) (pc' := 113) (len := 3) (r := (0, 0, 0, 0)) (by decide +kernel) (acmpT (c := .ge) (by show _ ≤ _; omega)) (by decide +kernel) ?_
        refine y_ic (c := 0) (len := 1) (r := (0, 0, 0, 0)) (by decide +kernel) (by decide) (fun y2664 hy2664 => ?_)
        refine y_rI (len := 1) (r := (0, 0, 0, 0)) (nL := 9) (k := 2) (n9 := 3) (hs := []) (by decide +kernel) rfl (zfit_b (by omega) (by omega)).2 ?_
        have E1 := frF_eq (S := mnA s) (frs_cg fy2660 (fun v h6 _ => ⟨fun q => q.elim id (fun e => by omega), Or.inl⟩))
        have E2 := frF_eq (S := fun x => mnA s x ∨ x = (u2660 : Int)) fy2661
        obtain rfl : u2660 = 21 := by omega
        exact Or.inr ⟨by omega, by rw [if_pos (by omega), E1, if_pos rfl], s, Q, fun k j _ => rfl⟩
      ·
        refine y_cF (c := .ge) (off := 10) (len := 3) (r := (0, 0, 0, 0)) (by decide +kernel) (acmpF (c := .ge) (by show _ < _; omega)) ?_
        refine y_same (i := .iload 8) (len := 2) (r := (0, 0, 0, 0)) (pc' := 108) (ls' := [some (.inl (some 52)), some (zi xl), some (zi xw), some (zi y2650), some (zi biq), some (zi ciq), some (zi y2657), some (zi y2660), some (zi y2661)]) (st' := [zi y2661]) (by decide +kernel) (fun k q => by cases q) rfl ?_
        refine y_bi (c := 21) (len := 2) (r := (0, 0, 0, 0)) (by decide +kernel) (by decide) (fun y2665 hy2665 => ?_)
        rcases Decidable.em (y2661.toInt < y2665.toInt) with q2666 | q2666
        ·
          refine y_cT (c := .lt) (off := 5) (pc' := 115) (len := 3) (r := (0, 0, 0, 0)) (by decide +kernel) (acmpT (c := .lt) (by show _ < _; omega)) (by decide +kernel) ?_
          refine y_same (i := .iload 6) (len := 2) (r := (0, 0, 0, 0)) (pc' := 117) (ls' := [some (.inl (some 52)), some (zi xl), some (zi xw), some (zi y2650), some (zi biq), some (zi ciq), some (zi y2657), some (zi y2660), some (zi y2661)]) (st' := [zi y2657]) (by decide +kernel) (fun k q => by cases q) rfl ?_
          refine y_iT (c := .eq) (off := 55) (pc' := 172) (len := 3) (r := (0, 0, 0, 0)) (by decide +kernel) (acmpT (c := .eq) (by show _ = _; omega)) (by decide +kernel) ?_
          refine y_same (i := .aload_n 0) (len := 1) (r := (0, 0, 0, 0)) (pc' := 173) (ls' := [some (.inl (some 52)), some (zi xl), some (zi xw), some (zi y2650), some (zi biq), some (zi ciq), some (zi y2657), some (zi y2660), some (zi y2661)]) (st' := [.inl (some 52)]) (by decide +kernel) (fun k q => by cases q) rfl ?_
          refine y_ic (c := 0) (len := 1) (r := (0, 0, 0, 0)) (by decide +kernel) (by decide) (fun y2667 hy2667 => ?_)
          refine y_bi (c := 24) (len := 2) (r := (0, 0, 0, 0)) (by decide +kernel) (by decide) (fun y2668 hy2668 => ?_)
          refine y_same (i := .iload_n 1) (len := 1) (r := (0, 0, 0, 0)) (pc' := 177) (ls' := [some (.inl (some 52)), some (zi xl), some (zi xw), some (zi y2650), some (zi biq), some (zi ciq), some (zi y2657), some (zi y2660), some (zi y2661)]) (st' := [zi xl, zi y2668, zi y2667, .inl (some 52)]) (by decide +kernel) (fun k q => by cases q) rfl ?_
          refine y_ic (c := 2) (len := 1) (r := (0, 0, 0, 0)) (by decide +kernel) (by decide) (fun y2669 hy2669 => ?_)
          refine y_cV (i := .invokevirtual 339) (len := 3) (r := (0, 227, 12, 1692)) (nL := 6) (k := 0) (n := 5) (hs := []) (args := [.inl (some 52), zi y2667, zi y2668, zi xl, zi y2669]) (rest := []) (l0 := [some (.inl (some 52)), some (zi y2667), some (zi y2668), some (zi xl), some (zi y2669), none]) (by decide +kernel) (Or.inr (Or.inl ⟨_, rfl⟩)) rfl rfl rfl rfl (Nat.le_of_ble_eq_true rfl) (z52 Q.1) rfl (qV_le (by omega) (m_opn (d := 0) (c := 0) (f := 24) (k := l) (m := 2) (n0 := s.1.length) Q.1 (by omega) (by decide) (by omega) (by decide) (by omega) (by omega) (by omega) (by decide) (by omega) (Q.2.2.1.1))) (fun h2670 hR2670 => ?_)
          obtain ⟨hg2670, cO, sO, F2670⟩ := hR2670
          refine y_same (i := .aload_n 0) (len := 1) (r := (0, 0, 0, 0)) (pc' := 182) (ls' := [some (.inl (some 52)), some (zi xl), some (zi xw), some (zi y2650), some (zi biq), some (zi ciq), some (zi y2657), some (zi y2660), some (zi y2661)]) (st' := [.inl (some 52)]) (by decide +kernel) (fun k q => by cases q) rfl ?_
          refine y_get (j := 61) (len := 3) (r := (12, 23, 2, 1351)) (by decide +kernel) hg2670 (t52 hg2670) at52 rfl rfl (g_r52 (f := 23) (T2 := 378) hg2670 rfl (by decide)).1 ?_
          refine y_same (i := .iload_n 3) (len := 1) (r := (0, 0, 0, 0)) (pc' := 186) (ls' := [some (.inl (some 52)), some (zi xl), some (zi xw), some (zi y2650), some (zi biq), some (zi ciq), some (zi y2657), some (zi y2660), some (zi y2661)]) (st' := [zi y2650, .inl (some 378)]) (by decide +kernel) (fun k q => by cases q) rfl ?_
          refine y_ic (c := 1) (len := 1) (r := (0, 0, 0, 0)) (by decide +kernel) (by decide) (fun y2671 hy2671 => ?_)
          refine y_same (i := .iload 4) (len := 2) (r := (0, 0, 0, 0)) (pc' := 189) (ls' := [some (.inl (some 52)), some (zi xl), some (zi xw), some (zi y2650), some (zi biq), some (zi ciq), some (zi y2657), some (zi y2660), some (zi y2661)]) (st' := [zi biq, zi y2671, zi y2650, .inl (some 378)]) (by decide +kernel) (fun k q => by cases q) rfl ?_
          refine y_same (i := .iload 7) (len := 2) (r := (0, 0, 0, 0)) (pc' := 191) (ls' := [some (.inl (some 52)), some (zi xl), some (zi xw), some (zi y2650), some (zi biq), some (zi ciq), some (zi y2657), some (zi y2660), some (zi y2661)]) (st' := [zi y2660, zi biq, zi y2671, zi y2650, .inl (some 378)]) (by decide +kernel) (fun k q => by cases q) rfl ?_
          refine y_same (i := .iload 8) (len := 2) (r := (0, 0, 0, 0)) (pc' := 193) (ls' := [some (.inl (some 52)), some (zi xl), some (zi xw), some (zi y2650), some (zi biq), some (zi ciq), some (zi y2657), some (zi y2660), some (zi y2661)]) (st' := [zi y2661, zi y2660, zi biq, zi y2671, zi y2650, .inl (some 378)]) (by decide +kernel) (fun k q => by cases q) rfl ?_
          refine y_cV (i := .invokestatic 151) (len := 3) (r := (1, 179, 12, 1549)) (nL := 6) (k := 0) (n := 6) (hs := []) (args := [.inl (some 378), zi y2650, zi y2671, zi biq, zi y2660, zi y2661]) (rest := []) (l0 := [some (.inl (some 378)), some (zi y2650), some (zi y2671), some (zi biq), some (zi y2660), some (zi y2661)]) (by decide +kernel) (Or.inl ⟨_, rfl⟩) rfl rfl rfl rfl (Nat.le_of_ble_eq_true rfl) rfl rfl (qV_le (by omega) (m_fur (d := 0) (p := (24 + 4 * l)) (i := (1, iq.2.1, (u2660 : Int), (u2661 : Int))) hg2670 (rwT_d hg2670) (by omega) (by omega) (by omega) (okPt_p (by omega) (by omega) (by omega)).1 (by omega) (by omega) (by omega) (by omega))) (fun h2672 hR2672 => ?_)
          obtain ⟨hg2672, d2672, F2672⟩ := hR2672
          refine y_same (i := .aload_n 0) (len := 1) (r := (0, 0, 0, 0)) (pc' := 197) (ls' := [some (.inl (some 52)), some (zi xl), some (zi xw), some (zi y2650), some (zi biq), some (zi ciq), some (zi y2657), some (zi y2660), some (zi y2661)]) (st' := [.inl (some 52)]) (by decide +kernel) (fun k q => by cases q) rfl ?_
          refine y_get (j := 61) (len := 3) (r := (12, 23, 2, 1351)) (by decide +kernel) hg2672 (t52 hg2672) at52 rfl rfl (g_r52 (f := 23) (T2 := 378) hg2672 rfl (by decide)).1 ?_
          refine y_same (i := .iload_n 3) (len := 1) (r := (0, 0, 0, 0)) (pc' := 201) (ls' := [some (.inl (some 52)), some (zi xl), some (zi xw), some (zi y2650), some (zi biq), some (zi ciq), some (zi y2657), some (zi y2660), some (zi y2661)]) (st' := [zi y2650, .inl (some 378)]) (by decide +kernel) (fun k q => by cases q) rfl ?_
          refine y_ic (c := 4) (len := 1) (r := (0, 0, 0, 0)) (by decide +kernel) (by decide) (fun y2673 hy2673 => ?_)
          refine y_add (len := 1) (r := (0, 0, 0, 0)) (by decide +kernel) (by omega) (by omega) (fun y2674 hy2674 => ?_)
          refine y_ic (c := 3) (len := 1) (r := (0, 0, 0, 0)) (by decide +kernel) (by decide) (fun y2675 hy2675 => ?_)
          refine y_same (i := .iload 7) (len := 2) (r := (0, 0, 0, 0)) (pc' := 206) (ls' := [some (.inl (some 52)), some (zi xl), some (zi xw), some (zi y2650), some (zi biq), some (zi ciq), some (zi y2657), some (zi y2660), some (zi y2661)]) (st' := [zi y2660, zi y2675, zi y2674, .inl (some 378)]) (by decide +kernel) (fun k q => by cases q) rfl ?_
          refine y_ic (c := 0) (len := 1) (r := (0, 0, 0, 0)) (by decide +kernel) (by decide) (fun y2676 hy2676 => ?_)
          refine y_ic (c := 0) (len := 1) (r := (0, 0, 0, 0)) (by decide +kernel) (by decide) (fun y2677 hy2677 => ?_)
          refine y_cV (i := .invokestatic 151) (len := 3) (r := (1, 179, 12, 1549)) (nL := 6) (k := 0) (n := 6) (hs := []) (args := [.inl (some 378), zi y2674, zi y2675, zi y2660, zi y2676, zi y2677]) (rest := []) (l0 := [some (.inl (some 378)), some (zi y2674), some (zi y2675), some (zi y2660), some (zi y2676), some (zi y2677)]) (by decide +kernel) (Or.inl ⟨_, rfl⟩) rfl rfl rfl rfl (Nat.le_of_ble_eq_true rfl) rfl rfl (qV_le (by omega) (m_fur (d := 0) (p := ((24 + 4 * l) + 4)) (i := (3, (u2660 : Int), 0, 0)) hg2672 (rwT_d hg2672) (by omega) (by omega) (by omega) (okPt_t (by omega)).1 (by omega) (by omega) (by omega) (by omega))) (fun h2678 hR2678 => ?_)
          obtain ⟨hg2678, d2678, F2678⟩ := hR2678
          refine y_same (i := .aload_n 0) (len := 1) (r := (0, 0, 0, 0)) (pc' := 212) (ls' := [some (.inl (some 52)), some (zi xl), some (zi xw), some (zi y2650), some (zi biq), some (zi ciq), some (zi y2657), some (zi y2660), some (zi y2661)]) (st' := [.inl (some 52)]) (by decide +kernel) (fun k q => by cases q) rfl ?_
          refine y_get (j := 61) (len := 3) (r := (12, 23, 2, 1351)) (by decide +kernel) hg2678 (t52 hg2678) at52 rfl rfl (g_r52 (f := 23) (T2 := 378) hg2678 rfl (by decide)).1 ?_
          refine y_same (i := .iload_n 3) (len := 1) (r := (0, 0, 0, 0)) (pc' := 216) (ls' := [some (.inl (some 52)), some (zi xl), some (zi xw), some (zi y2650), some (zi biq), some (zi ciq), some (zi y2657), some (zi y2660), some (zi y2661)]) (st' := [zi y2650, .inl (some 378)]) (by decide +kernel) (fun k q => by cases q) rfl ?_
          refine y_bi (c := 8) (len := 2) (r := (0, 0, 0, 0)) (by decide +kernel) (by decide) (fun y2679 hy2679 => ?_)
          refine y_add (len := 1) (r := (0, 0, 0, 0)) (by decide +kernel) (by omega) (by omega) (fun y2680 hy2680 => ?_)
          refine y_ic (c := 3) (len := 1) (r := (0, 0, 0, 0)) (by decide +kernel) (by decide) (fun y2681 hy2681 => ?_)
          refine y_same (i := .iload 8) (len := 2) (r := (0, 0, 0, 0)) (pc' := 222) (ls' := [some (.inl (some 52)), some (zi xl), some (zi xw), some (zi y2650), some (zi biq), some (zi ciq), some (zi y2657), some (zi y2660), some (zi y2661)]) (st' := [zi y2661, zi y2681, zi y2680, .inl (some 378)]) (by decide +kernel) (fun k q => by cases q) rfl ?_
          refine y_ic (c := 0) (len := 1) (r := (0, 0, 0, 0)) (by decide +kernel) (by decide) (fun y2682 hy2682 => ?_)
          refine y_ic (c := 0) (len := 1) (r := (0, 0, 0, 0)) (by decide +kernel) (by decide) (fun y2683 hy2683 => ?_)
          refine y_cV (i := .invokestatic 151) (len := 3) (r := (1, 179, 12, 1549)) (nL := 6) (k := 0) (n := 6) (hs := []) (args := [.inl (some 378), zi y2680, zi y2681, zi y2661, zi y2682, zi y2683]) (rest := []) (l0 := [some (.inl (some 378)), some (zi y2680), some (zi y2681), some (zi y2661), some (zi y2682), some (zi y2683)]) (by decide +kernel) (Or.inl ⟨_, rfl⟩) rfl rfl rfl rfl (Nat.le_of_ble_eq_true rfl) rfl rfl (qV_le (by omega) (m_fur (d := 0) (p := ((24 + 4 * l) + 8)) (i := (3, (u2661 : Int), 0, 0)) hg2678 (rwT_d hg2678) (by omega) (by omega) (by omega) (okPt_t (by omega)).1 (by omega) (by omega) (by omega) (by omega))) (fun h2684 hR2684 => ?_)
          obtain ⟨hg2684, d2684, F2684⟩ := hR2684
          refine y_ic (c := 1) (len := 1) (r := (0, 0, 0, 0)) (by decide +kernel) (by decide) (fun y2685 hy2685 => ?_)
          refine y_rI (len := 1) (r := (0, 0, 0, 0)) (nL := 9) (k := 2) (n9 := 3) (hs := []) (by decide +kernel) rfl (zfit_b (by omega) (by omega)).2 ?_
          have E1 := frF_eq (S := mnA s) (frs_cg fy2660 (fun v h6 _ => ⟨fun q => q.elim id (fun e => by omega), Or.inl⟩))
          have E2 := frF_eq (S := fun x => mnA s x ∨ x = (u2660 : Int)) fy2661
          have it9 : ∀ (j : Nat) (i : it4), (ins_ (ins_ (s.1.set l (1, iq.2.1, (u2660 : Int), (u2661 : Int))) (l + 1) (3, (u2660 : Int), 0, 0)) (l + 2) (3, (u2661 : Int), 0, 0))[j]? = some i → qdM h2684 378 (24 + 4 * j) i := fun j i hj => by
            rcases in3_get (by omega) hj with ⟨q1, q2⟩ | ⟨q1, q2⟩ | ⟨q1, q2⟩ | ⟨q1, q2⟩ | ⟨q1, q2⟩
            · exact qdM_up (Q.2.2.1.2.2.2.1 j i q2) (fun w hw => ((F2684 378 (24 + 4 * j + w) (by omega)).trans ((F2678 378 (24 + 4 * j + w) (by omega)).trans ((F2672 378 (24 + 4 * j + w) (by omega)).trans (F2670 378 (24 + 4 * j + w) (by omega))))))
            · rw [q1, q2]
              exact qdM_up d2672 (fun w hw => ((F2684 378 (24 + 4 * (l) + w) (by omega)).trans (F2678 378 (24 + 4 * (l) + w) (by omega))))
            · rw [q1, q2]
              exact qdM_up d2678 (fun w hw => (F2684 378 (24 + 4 * (l + 1) + w) (by omega)))
            · rw [q1, q2]
              exact qdM_up d2684 (fun w hw => rfl)
            · have hj9 := (List.getElem?_eq_some_iff.mp q2).1
              refine qdM_up (Q.2.2.1.2.2.2.1 (j - 2) i q2) (fun w hw => ?_)
              have e9 := sO (24 + 4 * (j - 2) + w) (by omega) (by omega)
              rw [show 24 + 4 * (j - 2) + w + 4 * 2 = 24 + 4 * j + w by omega] at e9
              exact (((F2684 378 (24 + 4 * j + w) (by omega)).trans ((F2678 378 (24 + 4 * j + w) (by omega)).trans (F2672 378 (24 + 4 * j + w) (by omega))))).trans (e9.trans (rfl))
          have ln9 : (ins_ (ins_ (s.1.set l (1, iq.2.1, (u2660 : Int), (u2661 : Int))) (l + 1) (3, (u2660 : Int), 0, 0)) (l + 2) (3, (u2661 : Int), 0, 0)).length = s.1.length + 2 := by rw [ins_len (by rw [ins_len (by rw [List.length_set]; omega), List.length_set]; omega), ins_len (by rw [List.length_set]; omega), List.length_set]
          have QF := QM_L Q hg2684 (by rw [ln9]; exact ci_up cO (((F2684 378 0 (by omega)).trans ((F2678 378 0 (by omega)).trans (F2672 378 0 (by omega)))))) it9 (fun k j hC => ((F2684 k j (by omega)).trans ((F2678 k j (by omega)).trans ((F2672 k j (by omega)).trans (F2670 k j (by omega)))))) ⟨fun p m => (mem_ins m).elim (fun e => by rw [e]; exact okPt_t (by omega)) (fun m => (mem_ins m).elim (fun e => by rw [e]; exact okPt_t (by omega)) (fun m => (mem_st m).elim (fun e => by rw [e]; exact okPt_p (by omega) (by omega) (by omega)) (Q.2.2.2.1 p))), Q.2.2.2.2.1, Q.2.2.2.2.2.1, Q.2.2.2.2.2.2⟩
          obtain ⟨QN, FN⟩ := QF
          exact Or.inl ⟨by omega, _, by rw [if_pos (by omega), E1, if_neg (by omega), if_neg (by omega), E2, if_neg (by omega)], QN, FN⟩
        ·
          refine y_cF (c := .lt) (off := 5) (len := 3) (r := (0, 0, 0, 0)) (by decide +kernel) (acmpF (c := .lt) (by show _ ≤ _; omega)) ?_
          refine y_ic (c := 0) (len := 1) (r := (0, 0, 0, 0)) (by decide +kernel) (by decide) (fun y2686 hy2686 => ?_)
          refine y_rI (len := 1) (r := (0, 0, 0, 0)) (nL := 9) (k := 2) (n9 := 3) (hs := []) (by decide +kernel) rfl (zfit_b (by omega) (by omega)).2 ?_
          have E1 := frF_eq (S := mnA s) (frs_cg fy2660 (fun v h6 _ => ⟨fun q => q.elim id (fun e => by omega), Or.inl⟩))
          have E2 := frF_eq (S := fun x => mnA s x ∨ x = (u2660 : Int)) fy2661
          obtain rfl : u2661 = 21 := by omega
          exact Or.inr ⟨by omega, by rw [if_pos (by omega), E1, if_neg (by omega), if_neg (by omega), E2, if_pos rfl], s, Q, fun k j _ => rfl⟩
    ·
      refine y_iF (c := .ne) (off := 25) (len := 3) (r := (0, 0, 0, 0)) (by decide +kernel) (acmpF (c := .ne) (by show _ = _; omega)) ?_
      refine y_same (i := .aload_n 0) (len := 1) (r := (0, 0, 0, 0)) (pc' := 47) (ls' := [some (.inl (some 52)), some (zi xl), some (zi xw), some (zi y2650), some (zi biq), some (zi ciq), some (zi y2657), none, none]) (st' := [.inl (some 52)]) (by decide +kernel) (fun k q => by cases q) rfl ?_
      refine y_get (j := 61) (len := 3) (r := (12, 23, 2, 1351)) (by decide +kernel) Q.1 (t52 Q.1) at52 rfl rfl (g_r52 (f := 23) (T2 := 378) Q.1 rfl (by decide)).1 ?_
      refine y_same (i := .iload 4) (len := 2) (r := (0, 0, 0, 0)) (pc' := 52) (ls' := [some (.inl (some 52)), some (zi xl), some (zi xw), some (zi y2650), some (zi biq), some (zi ciq), some (zi y2657), none, none]) (st' := [zi biq, .inl (some 378)]) (by decide +kernel) (fun k q => by cases q) rfl ?_
      refine y_same (i := .iload 6) (len := 2) (r := (0, 0, 0, 0)) (pc' := 54) (ls' := [some (.inl (some 52)), some (zi xl), some (zi xw), some (zi y2650), some (zi biq), some (zi ciq), some (zi y2657), none, none]) (st' := [zi y2657, zi biq, .inl (some 378)]) (by decide +kernel) (fun k q => by cases q) rfl ?_
      refine y_iT (c := .eq) (off := 8) (pc' := 62) (len := 3) (r := (0, 0, 0, 0)) (by decide +kernel) (acmpT (c := .eq) (by show _ = _; omega)) (by decide +kernel) ?_
      refine y_ic (c := 0) (len := 1) (r := (0, 0, 0, 0)) (by decide +kernel) (by decide) (fun y2687 hy2687 => ?_)
      refine y_cV (i := .invokestatic 288) (len := 3) (r := (1, 206, 12, 1660)) (nL := 7) (k := 0) (n := 3) (hs := []) (args := [.inl (some 378), zi biq, zi y2687]) (rest := []) (l0 := [some (.inl (some 378)), some (zi biq), some (zi y2687), none, none, none, none]) (by decide +kernel) (Or.inl ⟨_, rfl⟩) rfl rfl rfl rfl (Nat.le_of_ble_eq_true rfl) rfl rfl (qV_le (by omega) (m_mk (d := 0) (x := iq.2.1) (y := iq.2.2.1) Q (by omega) (by omega) (by omega) (by omega))) (fun h2688 hR2688 => ?_)
      obtain ⟨Q2688, F2688⟩ := hR2688
      refine y_ic (c := 1) (len := 1) (r := (0, 0, 0, 0)) (by decide +kernel) (by decide) (fun y2689 hy2689 => ?_)
      refine y_rI (len := 1) (r := (0, 0, 0, 0)) (nL := 9) (k := 2) (n9 := 3) (hs := []) (by decide +kernel) rfl (zfit_b (by omega) (by omega)).2 ?_
      exact Or.inl ⟨by omega, _, by rw [if_neg (by omega)], Q2688, F2688⟩
  ·
    refine y_cF (c := .ne) (off := 7) (len := 3) (r := (0, 0, 0, 0)) (by decide +kernel) (acmpF (c := .ne) (by show _ = _; omega)) ?_
    refine y_ic (c := 1) (len := 1) (r := (0, 0, 0, 0)) (by decide +kernel) (by decide) (fun y2690 hy2690 => ?_)
    refine y_goto (off := 4) (pc' := 40) (len := 3) (r := (0, 0, 0, 0)) (by decide +kernel) (by decide +kernel) ?_
    refine y_same (i := .istore 6) (len := 2) (r := (0, 0, 0, 0)) (pc' := 42) (ls' := [some (.inl (some 52)), some (zi xl), some (zi xw), some (zi y2650), some (zi biq), some (zi ciq), some (zi y2690), none, none]) (st' := []) (by decide +kernel) (fun k q => by cases q) rfl ?_
    refine y_same (i := .iload_n 2) (len := 1) (r := (0, 0, 0, 0)) (pc' := 43) (ls' := [some (.inl (some 52)), some (zi xl), some (zi xw), some (zi y2650), some (zi biq), some (zi ciq), some (zi y2690), none, none]) (st' := [zi xw]) (by decide +kernel) (fun k q => by cases q) rfl ?_
    rcases Decidable.em (xw.toInt ≠ 0) with q2691 | q2691
    ·
      refine y_iT (c := .ne) (off := 25) (pc' := 68) (len := 3) (r := (0, 0, 0, 0)) (by decide +kernel) (acmpT (c := .ne) (by show ¬ (_ = _); omega)) (by decide +kernel) ?_
      refine y_same (i := .aload_n 0) (len := 1) (r := (0, 0, 0, 0)) (pc' := 69) (ls' := [some (.inl (some 52)), some (zi xl), some (zi xw), some (zi y2650), some (zi biq), some (zi ciq), some (zi y2690), none, none]) (st' := [.inl (some 52)]) (by decide +kernel) (fun k q => by cases q) rfl ?_
      refine y_get (j := 61) (len := 3) (r := (12, 23, 2, 1351)) (by decide +kernel) Q.1 (t52 Q.1) at52 rfl rfl (g_r52 (f := 23) (T2 := 378) Q.1 rfl (by decide)).1 ?_
      refine y_ic (c := 0) (len := 1) (r := (0, 0, 0, 0)) (by decide +kernel) (by decide) (fun y2692 hy2692 => ?_)
      refine y_cI (i := .invokestatic 342) (len := 3) (r := (1, 219, 12, 1700)) (nL := 4) (k := 1) (n := 2) (hs := []) (args := [.inl (some 378), zi y2692]) (rest := []) (l0 := [some (.inl (some 378)), some (zi y2692), none, none]) (by decide +kernel) (Or.inl ⟨_, rfl⟩) rfl rfl rfl rfl (Nat.le_of_ble_eq_true rfl) rfl rfl (qI_le (by omega) (m_frs (d := 0) (w := 0) Q (by omega) (by omega))) (fun y2693 qy2693 hRy2693 => ?_)
      obtain ⟨rfl, u2693, ey2693, fy2693⟩ := hRy2693
      have gy2693 := fy2693.1
      have iy2693 := fy2693.2.1
      refine y_same (i := .istore 7) (len := 2) (r := (0, 0, 0, 0)) (pc' := 78) (ls' := [some (.inl (some 52)), some (zi xl), some (zi xw), some (zi y2650), some (zi biq), some (zi ciq), some (zi y2690), some (zi y2693), none]) (st' := []) (by decide +kernel) (fun k q => by cases q) rfl ?_
      refine y_same (i := .iload 6) (len := 2) (r := (0, 0, 0, 0)) (pc' := 80) (ls' := [some (.inl (some 52)), some (zi xl), some (zi xw), some (zi y2650), some (zi biq), some (zi ciq), some (zi y2690), some (zi y2693), none]) (st' := [zi y2690]) (by decide +kernel) (fun k q => by cases q) rfl ?_
      refine y_iF (c := .eq) (off := 8) (len := 3) (r := (0, 0, 0, 0)) (by decide +kernel) (acmpF (c := .eq) (by show ¬ (_ = _); omega)) ?_
      refine y_same (i := .iload 7) (len := 2) (r := (0, 0, 0, 0)) (pc' := 85) (ls' := [some (.inl (some 52)), some (zi xl), some (zi xw), some (zi y2650), some (zi biq), some (zi ciq), some (zi y2690), some (zi y2693), none]) (st' := [zi y2693]) (by decide +kernel) (fun k q => by cases q) rfl ?_
      refine y_goto (off := 12) (pc' := 97) (len := 3) (r := (0, 0, 0, 0)) (by decide +kernel) (by decide +kernel) ?_
      refine y_same (i := .istore 8) (len := 2) (r := (0, 0, 0, 0)) (pc' := 99) (ls' := [some (.inl (some 52)), some (zi xl), some (zi xw), some (zi y2650), some (zi biq), some (zi ciq), some (zi y2690), some (zi y2693), some (zi y2693)]) (st' := []) (by decide +kernel) (fun k q => by cases q) rfl ?_
      refine y_same (i := .iload 7) (len := 2) (r := (0, 0, 0, 0)) (pc' := 101) (ls' := [some (.inl (some 52)), some (zi xl), some (zi xw), some (zi y2650), some (zi biq), some (zi ciq), some (zi y2690), some (zi y2693), some (zi y2693)]) (st' := [zi y2693]) (by decide +kernel) (fun k q => by cases q) rfl ?_
      refine y_bi (c := 21) (len := 2) (r := (0, 0, 0, 0)) (by decide +kernel) (by decide) (fun y2694 hy2694 => ?_)
      rcases Decidable.em (y2693.toInt ≥ y2694.toInt) with q2695 | q2695
      ·
        refine y_cT (c := .ge) (off := 10) (pc' := 113) (len := 3) (r := (0, 0, 0, 0)) (by decide +kernel) (acmpT (c := .ge) (by show _ ≤ _; omega)) (by decide +kernel) ?_
        refine y_ic (c := 0) (len := 1) (r := (0, 0, 0, 0)) (by decide +kernel) (by decide) (fun y2696 hy2696 => ?_)
        refine y_rI (len := 1) (r := (0, 0, 0, 0)) (nL := 9) (k := 2) (n9 := 3) (hs := []) (by decide +kernel) rfl (zfit_b (by omega) (by omega)).2 ?_
        have E1 := frF_eq (S := mnA s) (frs_cg fy2693 (fun v h6 _ => ⟨fun q => q.elim id (fun e => by omega), Or.inl⟩))
        obtain rfl : u2693 = 21 := by omega
        exact Or.inr ⟨by omega, by rw [if_pos (by omega), E1, if_pos rfl], s, Q, fun k j _ => rfl⟩
      ·
        refine y_cF (c := .ge) (off := 10) (len := 3) (r := (0, 0, 0, 0)) (by decide +kernel) (acmpF (c := .ge) (by show _ < _; omega)) ?_
        refine y_same (i := .iload 8) (len := 2) (r := (0, 0, 0, 0)) (pc' := 108) (ls' := [some (.inl (some 52)), some (zi xl), some (zi xw), some (zi y2650), some (zi biq), some (zi ciq), some (zi y2690), some (zi y2693), some (zi y2693)]) (st' := [zi y2693]) (by decide +kernel) (fun k q => by cases q) rfl ?_
        refine y_bi (c := 21) (len := 2) (r := (0, 0, 0, 0)) (by decide +kernel) (by decide) (fun y2697 hy2697 => ?_)
        rcases Decidable.em (y2693.toInt < y2697.toInt) with q2698 | q2698
        ·
          refine y_cT (c := .lt) (off := 5) (pc' := 115) (len := 3) (r := (0, 0, 0, 0)) (by decide +kernel) (acmpT (c := .lt) (by show _ < _; omega)) (by decide +kernel) ?_
          refine y_same (i := .iload 6) (len := 2) (r := (0, 0, 0, 0)) (pc' := 117) (ls' := [some (.inl (some 52)), some (zi xl), some (zi xw), some (zi y2650), some (zi biq), some (zi ciq), some (zi y2690), some (zi y2693), some (zi y2693)]) (st' := [zi y2690]) (by decide +kernel) (fun k q => by cases q) rfl ?_
          refine y_iF (c := .eq) (off := 55) (len := 3) (r := (0, 0, 0, 0)) (by decide +kernel) (acmpF (c := .eq) (by show ¬ (_ = _); omega)) ?_
          refine y_same (i := .aload_n 0) (len := 1) (r := (0, 0, 0, 0)) (pc' := 121) (ls' := [some (.inl (some 52)), some (zi xl), some (zi xw), some (zi y2650), some (zi biq), some (zi ciq), some (zi y2690), some (zi y2693), some (zi y2693)]) (st' := [.inl (some 52)]) (by decide +kernel) (fun k q => by cases q) rfl ?_
          refine y_get (j := 61) (len := 3) (r := (12, 23, 2, 1351)) (by decide +kernel) Q.1 (t52 Q.1) at52 rfl rfl (g_r52 (f := 23) (T2 := 378) Q.1 rfl (by decide)).1 ?_
          refine y_same (i := .iload 4) (len := 2) (r := (0, 0, 0, 0)) (pc' := 126) (ls' := [some (.inl (some 52)), some (zi xl), some (zi xw), some (zi y2650), some (zi biq), some (zi ciq), some (zi y2690), some (zi y2693), some (zi y2693)]) (st' := [zi biq, .inl (some 378)]) (by decide +kernel) (fun k q => by cases q) rfl ?_
          refine y_same (i := .iload 5) (len := 2) (r := (0, 0, 0, 0)) (pc' := 128) (ls' := [some (.inl (some 52)), some (zi xl), some (zi xw), some (zi y2650), some (zi biq), some (zi ciq), some (zi y2690), some (zi y2693), some (zi y2693)]) (st' := [zi ciq, zi biq, .inl (some 378)]) (by decide +kernel) (fun k q => by cases q) rfl ?_
          refine y_cV (i := .invokestatic 266) (len := 3) (r := (1, 201, 12, 1672)) (nL := 3) (k := 0) (n := 3) (hs := []) (args := [.inl (some 378), zi biq, zi ciq]) (rest := []) (l0 := [some (.inl (some 378)), some (zi biq), some (zi ciq)]) (by decide +kernel) (Or.inl ⟨_, rfl⟩) rfl rfl rfl rfl (Nat.le_of_ble_eq_true rfl) rfl rfl (qV_le (by omega) (m_dfs (d := 0) (x := iq.2.1.toNat) (y := iq.2.2.1.toNat) Q (by omega) (by omega) (by omega) (by omega))) (fun h2699 hR2699 => ?_)
          obtain ⟨QD, FD2699⟩ := hR2699
          rw [show ((iq.2.1.toNat : Nat) : Int) = iq.2.1 by omega, show ((iq.2.2.1.toNat : Nat) : Int) = iq.2.2.1 by omega] at QD
          refine y_same (i := .aload_n 0) (len := 1) (r := (0, 0, 0, 0)) (pc' := 132) (ls' := [some (.inl (some 52)), some (zi xl), some (zi xw), some (zi y2650), some (zi biq), some (zi ciq), some (zi y2690), some (zi y2693), some (zi y2693)]) (st' := [.inl (some 52)]) (by decide +kernel) (fun k q => by cases q) rfl ?_
          refine y_ic (c := 0) (len := 1) (r := (0, 0, 0, 0)) (by decide +kernel) (by decide) (fun y2700 hy2700 => ?_)
          refine y_bi (c := 24) (len := 2) (r := (0, 0, 0, 0)) (by decide +kernel) (by decide) (fun y2701 hy2701 => ?_)
          refine y_same (i := .iload_n 1) (len := 1) (r := (0, 0, 0, 0)) (pc' := 136) (ls' := [some (.inl (some 52)), some (zi xl), some (zi xw), some (zi y2650), some (zi biq), some (zi ciq), some (zi y2690), some (zi y2693), some (zi y2693)]) (st' := [zi xl, zi y2701, zi y2700, .inl (some 52)]) (by decide +kernel) (fun k q => by cases q) rfl ?_
          refine y_ic (c := 1) (len := 1) (r := (0, 0, 0, 0)) (by decide +kernel) (by decide) (fun y2702 hy2702 => ?_)
          refine y_cV (i := .invokevirtual 339) (len := 3) (r := (0, 227, 12, 1692)) (nL := 6) (k := 0) (n := 5) (hs := []) (args := [.inl (some 52), zi y2700, zi y2701, zi xl, zi y2702]) (rest := []) (l0 := [some (.inl (some 52)), some (zi y2700), some (zi y2701), some (zi xl), some (zi y2702), none]) (by decide +kernel) (Or.inr (Or.inl ⟨_, rfl⟩)) rfl rfl rfl rfl (Nat.le_of_ble_eq_true rfl) (z52 QD.1) rfl (qV_le (by omega) (m_opn (d := 0) (c := 0) (f := 24) (k := l) (m := 1) (n0 := s.1.length) QD.1 (by omega) (by decide) (by omega) (by decide) (by omega) (by omega) (by omega) (by decide) (by omega) (QD.2.2.1.1))) (fun h2703 hR2703 => ?_)
          obtain ⟨hg2703, cO, sO, F2703⟩ := hR2703
          refine y_same (i := .aload_n 0) (len := 1) (r := (0, 0, 0, 0)) (pc' := 141) (ls' := [some (.inl (some 52)), some (zi xl), some (zi xw), some (zi y2650), some (zi biq), some (zi ciq), some (zi y2690), some (zi y2693), some (zi y2693)]) (st' := [.inl (some 52)]) (by decide +kernel) (fun k q => by cases q) rfl ?_
          refine y_get (j := 61) (len := 3) (r := (12, 23, 2, 1351)) (by decide +kernel) hg2703 (t52 hg2703) at52 rfl rfl (g_r52 (f := 23) (T2 := 378) hg2703 rfl (by decide)).1 ?_
          refine y_same (i := .iload_n 3) (len := 1) (r := (0, 0, 0, 0)) (pc' := 145) (ls' := [some (.inl (some 52)), some (zi xl), some (zi xw), some (zi y2650), some (zi biq), some (zi ciq), some (zi y2690), some (zi y2693), some (zi y2693)]) (st' := [zi y2650, .inl (some 378)]) (by decide +kernel) (fun k q => by cases q) rfl ?_
          refine y_ic (c := 0) (len := 1) (r := (0, 0, 0, 0)) (by decide +kernel) (by decide) (fun y2704 hy2704 => ?_)
          refine y_same (i := .iload 4) (len := 2) (r := (0, 0, 0, 0)) (pc' := 148) (ls' := [some (.inl (some 52)), some (zi xl), some (zi xw), some (zi y2650), some (zi biq), some (zi ciq), some (zi y2690), some (zi y2693), some (zi y2693)]) (st' := [zi biq, zi y2704, zi y2650, .inl (some 378)]) (by decide +kernel) (fun k q => by cases q) rfl ?_
          refine y_same (i := .iload 7) (len := 2) (r := (0, 0, 0, 0)) (pc' := 150) (ls' := [some (.inl (some 52)), some (zi xl), some (zi xw), some (zi y2650), some (zi biq), some (zi ciq), some (zi y2690), some (zi y2693), some (zi y2693)]) (st' := [zi y2693, zi biq, zi y2704, zi y2650, .inl (some 378)]) (by decide +kernel) (fun k q => by cases q) rfl ?_
          refine y_ic (c := 0) (len := 1) (r := (0, 0, 0, 0)) (by decide +kernel) (by decide) (fun y2705 hy2705 => ?_)
          refine y_cV (i := .invokestatic 151) (len := 3) (r := (1, 179, 12, 1549)) (nL := 6) (k := 0) (n := 6) (hs := []) (args := [.inl (some 378), zi y2650, zi y2704, zi biq, zi y2693, zi y2705]) (rest := []) (l0 := [some (.inl (some 378)), some (zi y2650), some (zi y2704), some (zi biq), some (zi y2693), some (zi y2705)]) (by decide +kernel) (Or.inl ⟨_, rfl⟩) rfl rfl rfl rfl (Nat.le_of_ble_eq_true rfl) rfl rfl (qV_le (by omega) (m_fur (d := 0) (p := (24 + 4 * l)) (i := (0, iq.2.1, (u2693 : Int), 0)) hg2703 (rwT_d hg2703) (by omega) (by omega) (by omega) (okPt_c (by omega) (by omega)).1 (by omega) (by omega) (by omega) (by omega))) (fun h2706 hR2706 => ?_)
          obtain ⟨hg2706, d2706, F2706⟩ := hR2706
          refine y_same (i := .aload_n 0) (len := 1) (r := (0, 0, 0, 0)) (pc' := 155) (ls' := [some (.inl (some 52)), some (zi xl), some (zi xw), some (zi y2650), some (zi biq), some (zi ciq), some (zi y2690), some (zi y2693), some (zi y2693)]) (st' := [.inl (some 52)]) (by decide +kernel) (fun k q => by cases q) rfl ?_
          refine y_get (j := 61) (len := 3) (r := (12, 23, 2, 1351)) (by decide +kernel) hg2706 (t52 hg2706) at52 rfl rfl (g_r52 (f := 23) (T2 := 378) hg2706 rfl (by decide)).1 ?_
          refine y_same (i := .iload_n 3) (len := 1) (r := (0, 0, 0, 0)) (pc' := 159) (ls' := [some (.inl (some 52)), some (zi xl), some (zi xw), some (zi y2650), some (zi biq), some (zi ciq), some (zi y2690), some (zi y2693), some (zi y2693)]) (st' := [zi y2650, .inl (some 378)]) (by decide +kernel) (fun k q => by cases q) rfl ?_
          refine y_ic (c := 4) (len := 1) (r := (0, 0, 0, 0)) (by decide +kernel) (by decide) (fun y2707 hy2707 => ?_)
          refine y_add (len := 1) (r := (0, 0, 0, 0)) (by decide +kernel) (by omega) (by omega) (fun y2708 hy2708 => ?_)
          refine y_ic (c := 2) (len := 1) (r := (0, 0, 0, 0)) (by decide +kernel) (by decide) (fun y2709 hy2709 => ?_)
          refine y_same (i := .iload 7) (len := 2) (r := (0, 0, 0, 0)) (pc' := 164) (ls' := [some (.inl (some 52)), some (zi xl), some (zi xw), some (zi y2650), some (zi biq), some (zi ciq), some (zi y2690), some (zi y2693), some (zi y2693)]) (st' := [zi y2693, zi y2709, zi y2708, .inl (some 378)]) (by decide +kernel) (fun k q => by cases q) rfl ?_
          refine y_same (i := .iload 5) (len := 2) (r := (0, 0, 0, 0)) (pc' := 166) (ls' := [some (.inl (some 52)), some (zi xl), some (zi xw), some (zi y2650), some (zi biq), some (zi ciq), some (zi y2690), some (zi y2693), some (zi y2693)]) (st' := [zi ciq, zi y2693, zi y2709, zi y2708, .inl (some 378)]) (by decide +kernel) (fun k q => by cases q) rfl ?_
          refine y_ic (c := 0) (len := 1) (r := (0, 0, 0, 0)) (by decide +kernel) (by decide) (fun y2710 hy2710 => ?_)
          refine y_cV (i := .invokestatic 151) (len := 3) (r := (1, 179, 12, 1549)) (nL := 6) (k := 0) (n := 6) (hs := []) (args := [.inl (some 378), zi y2708, zi y2709, zi y2693, zi ciq, zi y2710]) (rest := []) (l0 := [some (.inl (some 378)), some (zi y2708), some (zi y2709), some (zi y2693), some (zi ciq), some (zi y2710)]) (by decide +kernel) (Or.inl ⟨_, rfl⟩) rfl rfl rfl rfl (Nat.le_of_ble_eq_true rfl) rfl rfl (qV_le (by omega) (m_fur (d := 0) (p := ((24 + 4 * l) + 4)) (i := (2, (u2693 : Int), iq.2.2.1, 0)) hg2706 (rwT_d hg2706) (by omega) (by omega) (by omega) (okPt_l (by omega) (by omega)).1 (by omega) (by omega) (by omega) (by omega))) (fun h2711 hR2711 => ?_)
          obtain ⟨hg2711, d2711, F2711⟩ := hR2711
          refine y_ic (c := 1) (len := 1) (r := (0, 0, 0, 0)) (by decide +kernel) (by decide) (fun y2712 hy2712 => ?_)
          refine y_rI (len := 1) (r := (0, 0, 0, 0)) (nL := 9) (k := 2) (n9 := 3) (hs := []) (by decide +kernel) rfl (zfit_b (by omega) (by omega)).2 ?_
          have E1 := frF_eq (S := mnA s) (frs_cg fy2693 (fun v h6 _ => ⟨fun q => q.elim id (fun e => by omega), Or.inl⟩))
          have it9 : ∀ (j : Nat) (i : it4), (ins_ (s.1.set l (0, iq.2.1, (u2693 : Int), 0)) (l + 1) (2, (u2693 : Int), iq.2.2.1, 0))[j]? = some i → qdM h2711 378 (24 + 4 * j) i := fun j i hj => by
            rcases in2_get (by omega) hj with ⟨q1, q2⟩ | ⟨q1, q2⟩ | ⟨q1, q2⟩ | ⟨q1, q2⟩
            · exact qdM_up (QD.2.2.1.2.2.2.1 j i q2) (fun w hw => ((F2711 378 (24 + 4 * j + w) (by omega)).trans ((F2706 378 (24 + 4 * j + w) (by omega)).trans (F2703 378 (24 + 4 * j + w) (by omega)))))
            · rw [q1, q2]
              exact qdM_up d2706 (fun w hw => (F2711 378 (24 + 4 * (l) + w) (by omega)))
            · rw [q1, q2]
              exact qdM_up d2711 (fun w hw => rfl)
            · have hj9 := (List.getElem?_eq_some_iff.mp q2).1
              refine qdM_up (QD.2.2.1.2.2.2.1 (j - 1) i q2) (fun w hw => ?_)
              have e9 := sO (24 + 4 * (j - 1) + w) (by omega) (by omega)
              rw [show 24 + 4 * (j - 1) + w + 4 * 1 = 24 + 4 * j + w by omega] at e9
              exact (((F2711 378 (24 + 4 * j + w) (by omega)).trans (F2706 378 (24 + 4 * j + w) (by omega)))).trans (e9.trans (rfl))
          have ln9 : (ins_ (s.1.set l (0, iq.2.1, (u2693 : Int), 0)) (l + 1) (2, (u2693 : Int), iq.2.2.1, 0)).length = s.1.length + 1 := by rw [ins_len (by rw [List.length_set]; omega), List.length_set]
          have QF := QM_L QD hg2711 (by rw [ln9]; exact ci_up cO (((F2711 378 0 (by omega)).trans (F2706 378 0 (by omega))))) it9 (fun k j hC => ((F2711 k j (by omega)).trans ((F2706 k j (by omega)).trans (F2703 k j (by omega))))) ⟨fun p m => (mem_ins m).elim (fun e => by rw [e]; exact okPt_l (by omega) (by omega)) (fun m => (mem_st m).elim (fun e => by rw [e]; exact okPt_c (by omega) (by omega)) (Q.2.2.2.1 p)), Q.2.2.2.2.1, Q.2.2.2.2.2.1, QD.2.2.2.2.2.2⟩
          obtain ⟨QN, FN⟩ := QF
          exact Or.inl ⟨by omega, _, by rw [if_pos (by omega), E1, if_neg (by omega), if_pos (by omega)], QN, FM_tr FD2699 FN⟩
        ·
          refine y_cF (c := .lt) (off := 5) (len := 3) (r := (0, 0, 0, 0)) (by decide +kernel) (acmpF (c := .lt) (by show _ ≤ _; omega)) ?_
          refine y_ic (c := 0) (len := 1) (r := (0, 0, 0, 0)) (by decide +kernel) (by decide) (fun y2713 hy2713 => ?_)
          refine y_rI (len := 1) (r := (0, 0, 0, 0)) (nL := 9) (k := 2) (n9 := 3) (hs := []) (by decide +kernel) rfl (zfit_b (by omega) (by omega)).2 ?_
          have E1 := frF_eq (S := mnA s) (frs_cg fy2693 (fun v h6 _ => ⟨fun q => q.elim id (fun e => by omega), Or.inl⟩))
          obtain rfl : u2693 = 21 := by omega
          exact Or.inr ⟨by omega, by rw [if_pos (by omega), E1, if_pos rfl], s, Q, fun k j _ => rfl⟩
    ·
      refine y_iF (c := .ne) (off := 25) (len := 3) (r := (0, 0, 0, 0)) (by decide +kernel) (acmpF (c := .ne) (by show _ = _; omega)) ?_
      refine y_same (i := .aload_n 0) (len := 1) (r := (0, 0, 0, 0)) (pc' := 47) (ls' := [some (.inl (some 52)), some (zi xl), some (zi xw), some (zi y2650), some (zi biq), some (zi ciq), some (zi y2690), none, none]) (st' := [.inl (some 52)]) (by decide +kernel) (fun k q => by cases q) rfl ?_
      refine y_get (j := 61) (len := 3) (r := (12, 23, 2, 1351)) (by decide +kernel) Q.1 (t52 Q.1) at52 rfl rfl (g_r52 (f := 23) (T2 := 378) Q.1 rfl (by decide)).1 ?_
      refine y_same (i := .iload 4) (len := 2) (r := (0, 0, 0, 0)) (pc' := 52) (ls' := [some (.inl (some 52)), some (zi xl), some (zi xw), some (zi y2650), some (zi biq), some (zi ciq), some (zi y2690), none, none]) (st' := [zi biq, .inl (some 378)]) (by decide +kernel) (fun k q => by cases q) rfl ?_
      refine y_same (i := .iload 6) (len := 2) (r := (0, 0, 0, 0)) (pc' := 54) (ls' := [some (.inl (some 52)), some (zi xl), some (zi xw), some (zi y2650), some (zi biq), some (zi ciq), some (zi y2690), none, none]) (st' := [zi y2690, zi biq, .inl (some 378)]) (by decide +kernel) (fun k q => by cases q) rfl ?_
      refine y_iF (c := .eq) (off := 8) (len := 3) (r := (0, 0, 0, 0)) (by decide +kernel) (acmpF (c := .eq) (by show ¬ (_ = _); omega)) ?_
      refine y_same (i := .iload 5) (len := 2) (r := (0, 0, 0, 0)) (pc' := 59) (ls' := [some (.inl (some 52)), some (zi xl), some (zi xw), some (zi y2650), some (zi biq), some (zi ciq), some (zi y2690), none, none]) (st' := [zi ciq, zi biq, .inl (some 378)]) (by decide +kernel) (fun k q => by cases q) rfl ?_
      refine y_goto (off := 4) (pc' := 63) (len := 3) (r := (0, 0, 0, 0)) (by decide +kernel) (by decide +kernel) ?_
      refine y_cV (i := .invokestatic 288) (len := 3) (r := (1, 206, 12, 1660)) (nL := 7) (k := 0) (n := 3) (hs := []) (args := [.inl (some 378), zi biq, zi ciq]) (rest := []) (l0 := [some (.inl (some 378)), some (zi biq), some (zi ciq), none, none, none, none]) (by decide +kernel) (Or.inl ⟨_, rfl⟩) rfl rfl rfl rfl (Nat.le_of_ble_eq_true rfl) rfl rfl (qV_le (by omega) (m_mk (d := 0) (x := iq.2.1) (y := iq.2.2.1) Q (by omega) (by omega) (by omega) (by omega))) (fun h2714 hR2714 => ?_)
      obtain ⟨Q2714, F2714⟩ := hR2714
      refine y_ic (c := 1) (len := 1) (r := (0, 0, 0, 0)) (by decide +kernel) (by decide) (fun y2715 hy2715 => ?_)
      refine y_rI (len := 1) (r := (0, 0, 0, 0)) (nL := 9) (k := 2) (n9 := 3) (hs := []) (by decide +kernel) rfl (zfit_b (by omega) (by omega)).2 ?_
      exact Or.inl ⟨by omega, _, by rw [if_neg (by omega)], Q2714, F2714⟩
