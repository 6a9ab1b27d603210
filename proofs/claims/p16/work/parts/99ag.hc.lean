/-! the model's small heaps: claims, a heap is built -/
def mmV (ls : List Nat) (v : Nat) : Prop := v = 0 ∨ v ∈ ls
def mnI (ls : List Nat) (i : it4) : Prop := mmV ls i.2.1.toNat ∧ mmV ls i.2.2.1.toNat ∧ mmV ls i.2.2.2.toNat
def tM (h : zh) (ls : List Nat) (f : tlT) : Prop := ∀ v, v ≤ 5 → mmV ls v → ci_ h 381 v (f v)
theorem tM_up {h h1 : zh} {ls : List Nat} {f : tlT} (c : tM h ls f) (e : ∀ j, hsl h1 381 j = hsl h 381 j) : tM h1 ls f := fun v h2 h3 => ci_up (c v h2 h3) (e v)
def hpM (h : zh) (H : hpT) : Prop := (∀ w, w ≤ H.2.2.2 → kx_ h 383 w (H.1 w) ∧ (H.1 w ≠ -1 → ci_ h 384 w (H.2.1 w) ∧ ci_ h 385 w (H.2.2.1 w))) ∧ ci_ h 52 39 H.2.2.2
theorem hpM_up {h h1 : zh} {H : hpT} (c : hpM h H) (e : ∀ k j, (k = 383 ∨ k = 384 ∨ k = 385 ∨ (k = 52 ∧ j = 39)) → hsl h1 k j = hsl h k j) : hpM h1 H := ⟨fun w h1 => ⟨kx_up (c.1 w h1).1 (e _ _ (by omega)), fun q => ⟨ci_up ((c.1 w h1).2 q).1 (e _ _ (by omega)), ci_up ((c.1 w h1).2 q).2 (e _ _ (by omega))⟩⟩, ci_up c.2 (e _ _ (by omega))⟩
def okP (f : tlT) (i : it4) (n : Nat) (H : hpT) : Prop := (lo1 f i ≤ n ∧ n ≤ hi1 f i) ∧ (hsS f i → vX_ f i ≠ 0 ∧ H.1 (vX_ f i) = -1)
def tpI (i : it4) : Nat := if i.1 = 2 then 2 else if i.1 = 3 then 3 else 0
theorem okP_01 {f : tlT} {i : it4} {n : Nat} {H : hpT} (h : i.1 ≤ 1) (hn : n ≤ tpI i) : okP f i n H ↔ (vX_ f i ≠ 0 ∧ H.1 (vX_ f i) = -1) := by
  unfold tpI at hn
  rw [if_neg (by omega), if_neg (by omega)] at hn
  have h1 : lo1 f i = 0 := if_neg (fun q => by have := q.1; omega)
  have h2 : hi1 f i = 0 := if_pos h1
  unfold okP
  rw [h1, h2]
  exact ⟨fun q => q.2 (Or.inl h), fun q => ⟨⟨by omega, by omega⟩, fun _ => q⟩⟩
theorem okP_23 {f : tlT} {i : it4} {n : Nat} {H : hpT} (h : 2 ≤ i.1) (hn : n ≤ tpI i) : okP f i n H ↔ ((n = 0 ↔ vX_ f i = vY_ f i) ∧ (vX_ f i ≠ vY_ f i → vX_ f i ≠ 0 ∧ H.1 (vX_ f i) = -1)) := by
  have hh : hsS f i ↔ vX_ f i ≠ vY_ f i := ⟨fun q => q.elim (fun q => by omega) id, Or.inr⟩
  unfold okP
  by_cases q : vX_ f i = vY_ f i
  · have h1 : lo1 f i = 0 := if_neg (fun q9 => (hh.mp q9.2) q)
    have h2 : hi1 f i = 0 := if_pos h1
    rw [h1, h2]
    constructor
    · exact fun q9 => ⟨⟨fun _ => q, fun _ => by omega⟩, fun q8 => absurd q q8⟩
    · exact fun q9 => ⟨⟨by omega, by have := q9.1.mpr q; omega⟩, fun q8 => absurd q (hh.mp q8)⟩
  · have h1 : lo1 f i = 1 := if_pos ⟨h, hh.mpr q⟩
    have h2 : n ≠ 0 → n ≤ hi1 f i := fun q0 => by
      unfold hi1
      rw [if_neg (by omega)]
      unfold tpI at hn
      by_cases q2 : i.1 = 2
      · rw [if_pos q2] at hn ⊢
        exact hn
      · rw [if_neg q2] at hn ⊢
        split at hn <;> omega
    rw [h1]
    constructor
    · exact fun q9 => ⟨⟨fun q0 => by have := q9.1.1; omega, fun q0 => absurd q0 q⟩, fun _ => q9.2 (hh.mpr q)⟩
    · intro q9
      have q0 : n ≠ 0 := fun q0 => q (q9.1.mp q0)
      exact ⟨⟨by omega, h2 q0⟩, fun _ => q9.2 q⟩
theorem mca0_l {d t mx : Nat} {τ : List Nat} {h : zh} {l : List it4} {ls : List Nat} {f : tlT} {xs : Int32} (hg : hG τ h) (hxs : xs.toInt = 0) (hl9 : ci_ h 55 1 l.length) (ic : ∀ (j : Nat) (i : it4), l[j]? = some i → qdM h 55 (22 + 4 * j) i) (l6 : l.length ≤ 6) (ok : ∀ (j : Nat) (i : it4), l[j]? = some i → okI i) (men : ∀ i ∈ l, mnI ls i) (tm : tM h ls f) (hfb : ∀ v, v ≤ 5 → f v ≤ mx) : ∀ (n : Nat) (k : Nat) (xi : Int32) (l3 : Option zv), (xi.toInt = (k : Int)) → (k ≤ l.length) → (∀ (j : Nat) (i : it4), j < k → l[j]? = some i → so1 f i) → (l.length < k + n) → qX (d + 1) 248 2 [some (.inl (some 52)), some (zi xs), some (zi xi), l3] [] h t (rI (fun y h1 => h = h1 ∧ ((y.toInt = 1 ∧ arS f l) ∨ (y.toInt = 0 ∧ ¬ arS f l))) t) := by
  intro n
  induction n with
  | zero =>
    intro k xi l3 hxi hk0 c1 hn
    exfalso
    omega
  | succ n ih =>
    intro k xi l3 hxi hk0 c1 hn
    obtain ⟨xl, hl, el⟩ := hl9
    refine y_same (i := .iload_n 2) (len := 1) (r := (0, 0, 0, 0)) (pc' := 3) (ls' := [some (.inl (some 52)), some (zi xs), some (zi xi), l3]) (st' := [zi xi]) (by decide +kernel) (fun k q => by cases q) rfl ?_
    refine y_same (i := .aload_n 0) (len := 1) (r := (0, 0, 0, 0)) (pc' := 4) (ls' := [some (.inl (some 52)), some (zi xs), some (zi xi), l3]) (st' := [.inl (some 52), zi xi]) (by decide +kernel) (fun k q => by cases q) rfl ?_
    refine y_get (j := 20) (len := 3) (r := (12, 9, 2, 1337)) (by decide +kernel) hg (t52 hg) at52 rfl rfl (g_r52 (f := 9) (T2 := 55) hg rfl (by decide)).1 ?_
    refine y_same (i := .iload_n 1) (len := 1) (r := (0, 0, 0, 0)) (pc' := 8) (ls' := [some (.inl (some 52)), some (zi xs), some (zi xi), l3]) (st' := [zi xs, .inl (some 55), zi xi]) (by decide +kernel) (fun k q => by cases q) rfl ?_
    refine y_cI (i := .invokestatic 155) (len := 3) (r := (1, 167, 12, 1560)) (nL := 2) (k := 1) (n := 2) (hs := []) (args := [.inl (some 55), zi xs]) (rest := [zi xi]) (l0 := [some (.inl (some 55)), some (zi xs)]) (by decide +kernel) (Or.inl ⟨_, rfl⟩) rfl rfl rfl rfl (Nat.le_of_ble_eq_true rfl) rfl rfl (qI_le (by omega) (m_claims (d := 0) (s := 0) hg (by omega) (by omega) hl)) (fun y3108 qy3108 hRy3108 => ?_)
    obtain ⟨rfl, rfl⟩ := hRy3108
    rcases Decidable.em (xi.toInt ≥ xl.toInt) with q3109 | q3109
    ·
      refine y_cT (c := .ge) (off := 69) (pc' := 80) (len := 3) (r := (0, 0, 0, 0)) (by decide +kernel) (acmpT (c := .ge) (by show _ ≤ _; omega)) (by decide +kernel) ?_
      refine y_ic (c := 1) (len := 1) (r := (0, 0, 0, 0)) (by decide +kernel) (by decide) (fun y3110 hy3110 => ?_)
      refine y_rI (len := 1) (r := (0, 0, 0, 0)) (nL := 4) (k := 2) (n9 := 2) (hs := []) (by decide +kernel) rfl (zfit_b (by omega) (by omega)).2 ?_
      refine ⟨rfl, Or.inl ⟨by omega, fun i hi => ?_⟩⟩
      obtain ⟨j, hj⟩ := List.getElem?_of_mem hi
      exact c1 j i (by have := (List.getElem?_eq_some_iff.mp hj).1; omega) hj
    ·
      refine y_cF (c := .ge) (off := 69) (len := 3) (r := (0, 0, 0, 0)) (by decide +kernel) (acmpF (c := .ge) (by show _ < _; omega)) ?_
      obtain ⟨ik, hk⟩ : ∃ ik, l[k]? = some ik := ⟨_, List.getElem?_eq_getElem (by omega)⟩
      have okk := ok k ik hk
      unfold okI at okk
      have mn := men ik (List.mem_of_getElem? hk)
      obtain ⟨x0z, x1z, x2z, x3z, ⟨g0z, g1z, g2z, g3z⟩, e0z, e1z, e2z, e3z⟩ := ic k ik hk
      have g0z : hsl h 55 (22 + 4 * k) = some (zi x0z) := g0z
      have g1z : hsl h 55 ((22 + 4 * k) + 1) = some (zi x1z) := g1z
      have g2z : hsl h 55 ((22 + 4 * k) + 2) = some (zi x2z) := g2z
      have g3z : hsl h 55 ((22 + 4 * k) + 3) = some (zi x3z) := g3z
      refine y_same (i := .iload_n 1) (len := 1) (r := (0, 0, 0, 0)) (pc' := 15) (ls' := [some (.inl (some 52)), some (zi xs), some (zi xi), l3]) (st' := [zi xs]) (by decide +kernel) (fun k q => by cases q) rfl ?_
      refine y_same (i := .iload_n 2) (len := 1) (r := (0, 0, 0, 0)) (pc' := 16) (ls' := [some (.inl (some 52)), some (zi xs), some (zi xi), l3]) (st' := [zi xi, zi xs]) (by decide +kernel) (fun k q => by cases q) rfl ?_
      refine y_cI (i := .invokestatic 158) (len := 3) (r := (1, 169, 12, 1563)) (nL := 2) (k := 1) (n := 2) (hs := []) (args := [zi xs, zi xi]) (rest := []) (l0 := [some (zi xs), some (zi xi)]) (by decide +kernel) (Or.inl ⟨_, rfl⟩) rfl rfl rfl rfl (Nat.le_of_ble_eq_true rfl) rfl rfl (qI_le (by omega) (m_claimAt (d := 0) (s := 0) (k := k) (by omega) (by omega) (by omega) (by omega))) (fun y3111 qy3111 hRy3111 => ?_)
      obtain ⟨rfl, hy3111⟩ := hRy3111
      refine y_same (i := .istore_n 3) (len := 1) (r := (0, 0, 0, 0)) (pc' := 20) (ls' := [some (.inl (some 52)), some (zi xs), some (zi xi), some (zi y3111)]) (st' := []) (by decide +kernel) (fun k q => by cases q) rfl ?_
      refine y_same (i := .aload_n 0) (len := 1) (r := (0, 0, 0, 0)) (pc' := 21) (ls' := [some (.inl (some 52)), some (zi xs), some (zi xi), some (zi y3111)]) (st' := [.inl (some 52)]) (by decide +kernel) (fun k q => by cases q) rfl ?_
      refine y_get (j := 70) (len := 3) (r := (12, 33, 2, 1361)) (by decide +kernel) hg (t52 hg) at52 rfl rfl (g_r52 (f := 33) (T2 := 381) hg rfl (by decide)).1 ?_
      refine y_same (i := .aload_n 0) (len := 1) (r := (0, 0, 0, 0)) (pc' := 25) (ls' := [some (.inl (some 52)), some (zi xs), some (zi xi), some (zi y3111)]) (st' := [.inl (some 52), .inl (some 381)]) (by decide +kernel) (fun k q => by cases q) rfl ?_
      refine y_get (j := 20) (len := 3) (r := (12, 9, 2, 1337)) (by decide +kernel) hg (t52 hg) at52 rfl rfl (g_r52 (f := 9) (T2 := 55) hg rfl (by decide)).1 ?_
      refine y_same (i := .iload_n 3) (len := 1) (r := (0, 0, 0, 0)) (pc' := 29) (ls' := [some (.inl (some 52)), some (zi xs), some (zi xi), some (zi y3111)]) (st' := [zi y3111, .inl (some 55), .inl (some 381)]) (by decide +kernel) (fun k q => by cases q) rfl ?_
      refine y_ic (c := 1) (len := 1) (r := (0, 0, 0, 0)) (by decide +kernel) (by decide) (fun y3112 hy3112 => ?_)
      refine y_add (len := 1) (r := (0, 0, 0, 0)) (by decide +kernel) (by omega) (by omega) (fun y3113 hy3113 => ?_)
      refine y_ial (i := ((22 + 4 * k) + 1)) (len := 1) (r := (0, 0, 0, 0)) (by decide +kernel) hg (tv55 hg) av55 (by omega) g1z ?_
      obtain ⟨v3114, hv3115, ev3114⟩ := tm ik.2.1.toNat (by omega) mn.1
      obtain ⟨X3116, eX3116⟩ : ∃ X, f ik.2.1.toNat = X := ⟨_, rfl⟩
      have bX3116 : X3116 ≤ mx := by
        rw [← eX3116]
        exact hfb _ (by omega)
      rw [eX3116] at ev3114
      refine y_ial (i := ik.2.1.toNat) (len := 1) (r := (0, 0, 0, 0)) (by decide +kernel) hg (tu381 hg) at381 (by omega) hv3115 ?_
      refine y_same (i := .aload_n 0) (len := 1) (r := (0, 0, 0, 0)) (pc' := 34) (ls' := [some (.inl (some 52)), some (zi xs), some (zi xi), some (zi y3111)]) (st' := [.inl (some 52), zi v3114]) (by decide +kernel) (fun k q => by cases q) rfl ?_
      refine y_get (j := 70) (len := 3) (r := (12, 33, 2, 1361)) (by decide +kernel) hg (t52 hg) at52 rfl rfl (g_r52 (f := 33) (T2 := 381) hg rfl (by decide)).1 ?_
      refine y_same (i := .aload_n 0) (len := 1) (r := (0, 0, 0, 0)) (pc' := 38) (ls' := [some (.inl (some 52)), some (zi xs), some (zi xi), some (zi y3111)]) (st' := [.inl (some 52), .inl (some 381), zi v3114]) (by decide +kernel) (fun k q => by cases q) rfl ?_
      refine y_get (j := 20) (len := 3) (r := (12, 9, 2, 1337)) (by decide +kernel) hg (t52 hg) at52 rfl rfl (g_r52 (f := 9) (T2 := 55) hg rfl (by decide)).1 ?_
      refine y_same (i := .iload_n 3) (len := 1) (r := (0, 0, 0, 0)) (pc' := 42) (ls' := [some (.inl (some 52)), some (zi xs), some (zi xi), some (zi y3111)]) (st' := [zi y3111, .inl (some 55), .inl (some 381), zi v3114]) (by decide +kernel) (fun k q => by cases q) rfl ?_
      refine y_ic (c := 2) (len := 1) (r := (0, 0, 0, 0)) (by decide +kernel) (by decide) (fun y3117 hy3117 => ?_)
      refine y_add (len := 1) (r := (0, 0, 0, 0)) (by decide +kernel) (by omega) (by omega) (fun y3118 hy3118 => ?_)
      refine y_ial (i := ((22 + 4 * k) + 2)) (len := 1) (r := (0, 0, 0, 0)) (by decide +kernel) hg (tv55 hg) av55 (by omega) g2z ?_
      obtain ⟨v3119, hv3120, ev3119⟩ := tm ik.2.2.1.toNat (by omega) mn.2.1
      obtain ⟨X3121, eX3121⟩ : ∃ X, f ik.2.2.1.toNat = X := ⟨_, rfl⟩
      have bX3121 : X3121 ≤ mx := by
        rw [← eX3121]
        exact hfb _ (by omega)
      rw [eX3121] at ev3119
      refine y_ial (i := ik.2.2.1.toNat) (len := 1) (r := (0, 0, 0, 0)) (by decide +kernel) hg (tu381 hg) at381 (by omega) hv3120 ?_
      rcases Decidable.em (v3114.toInt ≠ v3119.toInt) with q3122 | q3122
      ·
        refine y_cT (c := .ne) (off := 7) (pc' := 53) (len := 3) (r := (0, 0, 0, 0)) (by decide +kernel) (acmpT (c := .ne) (by show ¬ (_ = _); omega)) (by decide +kernel) ?_
        refine y_ic (c := 0) (len := 1) (r := (0, 0, 0, 0)) (by decide +kernel) (by decide) (fun y3123 hy3123 => ?_)
        refine y_same (i := .aload_n 0) (len := 1) (r := (0, 0, 0, 0)) (pc' := 55) (ls' := [some (.inl (some 52)), some (zi xs), some (zi xi), some (zi y3111)]) (st' := [.inl (some 52), zi y3123]) (by decide +kernel) (fun k q => by cases q) rfl ?_
        refine y_get (j := 20) (len := 3) (r := (12, 9, 2, 1337)) (by decide +kernel) hg (t52 hg) at52 rfl rfl (g_r52 (f := 9) (T2 := 55) hg rfl (by decide)).1 ?_
        refine y_same (i := .iload_n 3) (len := 1) (r := (0, 0, 0, 0)) (pc' := 59) (ls' := [some (.inl (some 52)), some (zi xs), some (zi xi), some (zi y3111)]) (st' := [zi y3111, .inl (some 55), zi y3123]) (by decide +kernel) (fun k q => by cases q) rfl ?_
        refine y_ial (i := (22 + 4 * k)) (len := 1) (r := (0, 0, 0, 0)) (by decide +kernel) hg (tv55 hg) av55 (by omega) g0z ?_
        refine y_ic (c := 1) (len := 1) (r := (0, 0, 0, 0)) (by decide +kernel) (by decide) (fun y3124 hy3124 => ?_)
        rcases Decidable.em (x0z.toInt ≠ y3124.toInt) with q3125 | q3125
        ·
          refine y_cT (c := .ne) (off := 7) (pc' := 68) (len := 3) (r := (0, 0, 0, 0)) (by decide +kernel) (acmpT (c := .ne) (by show ¬ (_ = _); omega)) (by decide +kernel) ?_
          refine y_ic (c := 0) (len := 1) (r := (0, 0, 0, 0)) (by decide +kernel) (by decide) (fun y3126 hy3126 => ?_)
          refine y_cT (c := .eq) (off := 5) (pc' := 74) (len := 3) (r := (0, 0, 0, 0)) (by decide +kernel) (acmpT (c := .eq) (by show _ = _; omega)) (by decide +kernel) ?_
          refine y_inc (j := 2) (a := xi) (c := 1) (ls' := fun v => [some (.inl (some 52)), some (zi xs), some v, some (zi y3111)]) (len := 3) (r := (0, 0, 0, 0)) (by decide +kernel) rfl (fun _ => rfl) (by decide) (by omega) (by omega) (fun y3127 hy3127 => ?_)
          show qX (d + 1) 248 77 [some (.inl (some 52)), some (zi xs), some (zi y3127), some (zi y3111)] [] h t _
          refine y_goto (off := (-75)) (pc' := 2) (len := 3) (r := (0, 0, 0, 0)) (by decide +kernel) (by decide +kernel) ?_
          refine ih (k + 1) y3127 _ (by omega) (by omega) (fun j i hj hk9 => ?_) (by omega)
          rcases Nat.lt_or_ge j k with q9 | q9
          · exact c1 j i q9 hk9
          · have e9 : j = k := by omega
            subst e9
            have e8 := Option.some.inj (hk.symm.trans hk9)
            subst e8
            show (f ik.2.1.toNat = f ik.2.2.1.toNat) ↔ ik.1 = 1
            rw [eX3116, eX3121]
            omega
        ·
          refine y_cF (c := .ne) (off := 7) (len := 3) (r := (0, 0, 0, 0)) (by decide +kernel) (acmpF (c := .ne) (by show _ = _; omega)) ?_
          refine y_ic (c := 1) (len := 1) (r := (0, 0, 0, 0)) (by decide +kernel) (by decide) (fun y3128 hy3128 => ?_)
          refine y_goto (off := 4) (pc' := 69) (len := 3) (r := (0, 0, 0, 0)) (by decide +kernel) (by decide +kernel) ?_
          refine y_cF (c := .eq) (off := 5) (len := 3) (r := (0, 0, 0, 0)) (by decide +kernel) (acmpF (c := .eq) (by show ¬ (_ = _); omega)) ?_
          refine y_ic (c := 0) (len := 1) (r := (0, 0, 0, 0)) (by decide +kernel) (by decide) (fun y3129 hy3129 => ?_)
          refine y_rI (len := 1) (r := (0, 0, 0, 0)) (nL := 4) (k := 2) (n9 := 2) (hs := []) (by decide +kernel) rfl (zfit_b (by omega) (by omega)).2 ?_
          refine ⟨rfl, Or.inr ⟨by omega, fun a9 => ?_⟩⟩
          have a8 : (f ik.2.1.toNat = f ik.2.2.1.toNat) ↔ ik.1 = 1 := a9 ik (List.mem_of_getElem? hk)
          rw [eX3116, eX3121] at a8
          omega
      ·
        refine y_cF (c := .ne) (off := 7) (len := 3) (r := (0, 0, 0, 0)) (by decide +kernel) (acmpF (c := .ne) (by show _ = _; omega)) ?_
        refine y_ic (c := 1) (len := 1) (r := (0, 0, 0, 0)) (by decide +kernel) (by decide) (fun y3130 hy3130 => ?_)
        refine y_goto (off := 4) (pc' := 54) (len := 3) (r := (0, 0, 0, 0)) (by decide +kernel) (by decide +kernel) ?_
        refine y_same (i := .aload_n 0) (len := 1) (r := (0, 0, 0, 0)) (pc' := 55) (ls' := [some (.inl (some 52)), some (zi xs), some (zi xi), some (zi y3111)]) (st' := [.inl (some 52), zi y3130]) (by decide +kernel) (fun k q => by cases q) rfl ?_
        refine y_get (j := 20) (len := 3) (r := (12, 9, 2, 1337)) (by decide +kernel) hg (t52 hg) at52 rfl rfl (g_r52 (f := 9) (T2 := 55) hg rfl (by decide)).1 ?_
        refine y_same (i := .iload_n 3) (len := 1) (r := (0, 0, 0, 0)) (pc' := 59) (ls' := [some (.inl (some 52)), some (zi xs), some (zi xi), some (zi y3111)]) (st' := [zi y3111, .inl (some 55), zi y3130]) (by decide +kernel) (fun k q => by cases q) rfl ?_
        refine y_ial (i := (22 + 4 * k)) (len := 1) (r := (0, 0, 0, 0)) (by decide +kernel) hg (tv55 hg) av55 (by omega) g0z ?_
        refine y_ic (c := 1) (len := 1) (r := (0, 0, 0, 0)) (by decide +kernel) (by decide) (fun y3131 hy3131 => ?_)
        rcases Decidable.em (x0z.toInt ≠ y3131.toInt) with q3132 | q3132
        ·
          refine y_cT (c := .ne) (off := 7) (pc' := 68) (len := 3) (r := (0, 0, 0, 0)) (by decide +kernel) (acmpT (c := .ne) (by show ¬ (_ = _); omega)) (by decide +kernel) ?_
          refine y_ic (c := 0) (len := 1) (r := (0, 0, 0, 0)) (by decide +kernel) (by decide) (fun y3133 hy3133 => ?_)
          refine y_cF (c := .eq) (off := 5) (len := 3) (r := (0, 0, 0, 0)) (by decide +kernel) (acmpF (c := .eq) (by show ¬ (_ = _); omega)) ?_
          refine y_ic (c := 0) (len := 1) (r := (0, 0, 0, 0)) (by decide +kernel) (by decide) (fun y3134 hy3134 => ?_)
          refine y_rI (len := 1) (r := (0, 0, 0, 0)) (nL := 4) (k := 2) (n9 := 2) (hs := []) (by decide +kernel) rfl (zfit_b (by omega) (by omega)).2 ?_
          refine ⟨rfl, Or.inr ⟨by omega, fun a9 => ?_⟩⟩
          have a8 : (f ik.2.1.toNat = f ik.2.2.1.toNat) ↔ ik.1 = 1 := a9 ik (List.mem_of_getElem? hk)
          rw [eX3116, eX3121] at a8
          omega
        ·
          refine y_cF (c := .ne) (off := 7) (len := 3) (r := (0, 0, 0, 0)) (by decide +kernel) (acmpF (c := .ne) (by show _ = _; omega)) ?_
          refine y_ic (c := 1) (len := 1) (r := (0, 0, 0, 0)) (by decide +kernel) (by decide) (fun y3135 hy3135 => ?_)
          refine y_goto (off := 4) (pc' := 69) (len := 3) (r := (0, 0, 0, 0)) (by decide +kernel) (by decide +kernel) ?_
          refine y_cT (c := .eq) (off := 5) (pc' := 74) (len := 3) (r := (0, 0, 0, 0)) (by decide +kernel) (acmpT (c := .eq) (by show _ = _; omega)) (by decide +kernel) ?_
          refine y_inc (j := 2) (a := xi) (c := 1) (ls' := fun v => [some (.inl (some 52)), some (zi xs), some v, some (zi y3111)]) (len := 3) (r := (0, 0, 0, 0)) (by decide +kernel) rfl (fun _ => rfl) (by decide) (by omega) (by omega) (fun y3136 hy3136 => ?_)
          show qX (d + 1) 248 77 [some (.inl (some 52)), some (zi xs), some (zi y3136), some (zi y3111)] [] h t _
          refine y_goto (off := (-75)) (pc' := 2) (len := 3) (r := (0, 0, 0, 0)) (by decide +kernel) (by decide +kernel) ?_
          refine ih (k + 1) y3136 _ (by omega) (by omega) (fun j i hj hk9 => ?_) (by omega)
          rcases Nat.lt_or_ge j k with q9 | q9
          · exact c1 j i q9 hk9
          · have e9 : j = k := by omega
            subst e9
            have e8 := Option.some.inj (hk.symm.trans hk9)
            subst e8
            show (f ik.2.1.toNat = f ik.2.2.1.toNat) ↔ ik.1 = 1
            rw [eX3116, eX3121]
            omega
theorem m_ca0 {d t mx : Nat} {τ : List Nat} {h : zh} {l : List it4} {ls : List Nat} {f : tlT} {xs : Int32} (hg : hG τ h) (hxs : xs.toInt = 0) (hl9 : ci_ h 55 1 l.length) (ic : ∀ (j : Nat) (i : it4), l[j]? = some i → qdM h 55 (22 + 4 * j) i) (l6 : l.length ≤ 6) (ok : ∀ (j : Nat) (i : it4), l[j]? = some i → okI i) (men : ∀ i ∈ l, mnI ls i) (tm : tM h ls f) (hfb : ∀ v, v ≤ 5 → f v ≤ mx) : qI (d + 2) 248 [some (.inl (some 52)), some (zi xs), none, none] h t (fun y h1 => h = h1 ∧ ((y.toInt = 1 ∧ arS f l) ∨ (y.toInt = 0 ∧ ¬ arS f l))) := by
  refine qI_of ?_
  refine y_ic (c := 0) (len := 1) (r := (0, 0, 0, 0)) (by decide +kernel) (by decide) (fun y3137 hy3137 => ?_)
  refine y_same (i := .istore_n 2) (len := 1) (r := (0, 0, 0, 0)) (pc' := 2) (ls' := [some (.inl (some 52)), some (zi xs), some (zi y3137), none]) (st' := []) (by decide +kernel) (fun k q => by cases q) rfl ?_
  exact mca0_l hg hxs hl9 ic l6 ok men tm hfb (l.length + 1) 0 y3137 _ (by omega) (by omega) (fun j _ hj _ => absurd hj (Nat.not_lt_zero j)) (by omega)
theorem mca1_l {d t mx : Nat} {τ : List Nat} {h : zh} {l : List it4} {ls : List Nat} {f : tlT} {xs : Int32} (hg : hG τ h) (hxs : xs.toInt = 1) (hl9 : ci_ h 55 47 l.length) (ic : ∀ (j : Nat) (i : it4), l[j]? = some i → qdM h 55 (68 + 4 * j) i) (l6 : l.length ≤ 6) (ok : ∀ (j : Nat) (i : it4), l[j]? = some i → okI i) (men : ∀ i ∈ l, mnI ls i) (tm : tM h ls f) (hfb : ∀ v, v ≤ 5 → f v ≤ mx) : ∀ (n : Nat) (k : Nat) (xi : Int32) (l3 : Option zv), (xi.toInt = (k : Int)) → (k ≤ l.length) → (∀ (j : Nat) (i : it4), j < k → l[j]? = some i → so1 f i) → (l.length < k + n) → qX (d + 1) 248 2 [some (.inl (some 52)), some (zi xs), some (zi xi), l3] [] h t (rI (fun y h1 => h = h1 ∧ ((y.toInt = 1 ∧ arS f l) ∨ (y.toInt = 0 ∧ ¬ arS f l))) t) := by
  intro n
  induction n with
  | zero =>
    intro k xi l3 hxi hk0 c1 hn
    exfalso
    omega
  | succ n ih =>
    intro k xi l3 hxi hk0 c1 hn
    obtain ⟨xl, hl, el⟩ := hl9
    refine y_same (i := .iload_n 2) (len := 1) (r := (0, 0, 0, 0)) (pc' := 3) (ls' := [some (.inl (some 52)), some (zi xs), some (zi xi), l3]) (st' := [zi xi]) (by decide +kernel) (fun k q => by cases q) rfl ?_
    refine y_same (i := .aload_n 0) (len := 1) (r := (0, 0, 0, 0)) (pc' := 4) (ls' := [some (.inl (some 52)), some (zi xs), some (zi xi), l3]) (st' := [.inl (some 52), zi xi]) (by decide +kernel) (fun k q => by cases q) rfl ?_
    refine y_get (j := 20) (len := 3) (r := (12, 9, 2, 1337)) (by decide +kernel) hg (t52 hg) at52 rfl rfl (g_r52 (f := 9) (T2 := 55) hg rfl (by decide)).1 ?_
    refine y_same (i := .iload_n 1) (len := 1) (r := (0, 0, 0, 0)) (pc' := 8) (ls' := [some (.inl (some 52)), some (zi xs), some (zi xi), l3]) (st' := [zi xs, .inl (some 55), zi xi]) (by decide +kernel) (fun k q => by cases q) rfl ?_
    refine y_cI (i := .invokestatic 155) (len := 3) (r := (1, 167, 12, 1560)) (nL := 2) (k := 1) (n := 2) (hs := []) (args := [.inl (some 55), zi xs]) (rest := [zi xi]) (l0 := [some (.inl (some 55)), some (zi xs)]) (by decide +kernel) (Or.inl ⟨_, rfl⟩) rfl rfl rfl rfl (Nat.le_of_ble_eq_true rfl) rfl rfl (qI_le (by omega) (m_claims (d := 0) (s := 1) hg (by omega) (by omega) hl)) (fun y3138 qy3138 hRy3138 => ?_)
    obtain ⟨rfl, rfl⟩ := hRy3138
    rcases Decidable.em (xi.toInt ≥ xl.toInt) with q3139 | q3139
    ·
      refine y_cT (c := .ge) (off := 69) (pc' := 80) (len := 3) (r := (0, 0, 0, 0)) (by decide +kernel) (acmpT (c := .ge) (by show _ ≤ _; omega)) (by decide +kernel) ?_
      refine y_ic (c := 1) (len := 1) (r := (0, 0, 0, 0)) (by decide +kernel) (by decide) (fun y3140 hy3140 => ?_)
      refine y_rI (len := 1) (r := (0, 0, 0, 0)) (nL := 4) (k := 2) (n9 := 2) (hs := []) (by decide +kernel) rfl (zfit_b (by omega) (by omega)).2 ?_
      refine ⟨rfl, Or.inl ⟨by omega, fun i hi => ?_⟩⟩
      obtain ⟨j, hj⟩ := List.getElem?_of_mem hi
      exact c1 j i (by have := (List.getElem?_eq_some_iff.mp hj).1; omega) hj
    ·
      refine y_cF (c := .ge) (off := 69) (len := 3) (r := (0, 0, 0, 0)) (by decide +kernel) (acmpF (c := .ge) (by show _ < _; omega)) ?_
      obtain ⟨ik, hk⟩ : ∃ ik, l[k]? = some ik := ⟨_, List.getElem?_eq_getElem (by omega)⟩
      have okk := ok k ik hk
      unfold okI at okk
      have mn := men ik (List.mem_of_getElem? hk)
      obtain ⟨x0z, x1z, x2z, x3z, ⟨g0z, g1z, g2z, g3z⟩, e0z, e1z, e2z, e3z⟩ := ic k ik hk
      have g0z : hsl h 55 (68 + 4 * k) = some (zi x0z) := g0z
      have g1z : hsl h 55 ((68 + 4 * k) + 1) = some (zi x1z) := g1z
      have g2z : hsl h 55 ((68 + 4 * k) + 2) = some (zi x2z) := g2z
      have g3z : hsl h 55 ((68 + 4 * k) + 3) = some (zi x3z) := g3z
      refine y_same (i := .iload_n 1) (len := 1) (r := (0, 0, 0, 0)) (pc' := 15) (ls' := [some (.inl (some 52)), some (zi xs), some (zi xi), l3]) (st' := [zi xs]) (by decide +kernel) (fun k q => by cases q) rfl ?_
      refine y_same (i := .iload_n 2) (len := 1) (r := (0, 0, 0, 0)) (pc' := 16) (ls' := [some (.inl (some 52)), some (zi xs), some (zi xi), l3]) (st' := [zi xi, zi xs]) (by decide +kernel) (fun k q => by cases q) rfl ?_
      refine y_cI (i := .invokestatic 158) (len := 3) (r := (1, 169, 12, 1563)) (nL := 2) (k := 1) (n := 2) (hs := []) (args := [zi xs, zi xi]) (rest := []) (l0 := [some (zi xs), some (zi xi)]) (by decide +kernel) (Or.inl ⟨_, rfl⟩) rfl rfl rfl rfl (Nat.le_of_ble_eq_true rfl) rfl rfl (qI_le (by omega) (m_claimAt (d := 0) (s := 1) (k := k) (by omega) (by omega) (by omega) (by omega))) (fun y3141 qy3141 hRy3141 => ?_)
      obtain ⟨rfl, hy3141⟩ := hRy3141
      refine y_same (i := .istore_n 3) (len := 1) (r := (0, 0, 0, 0)) (pc' := 20) (ls' := [some (.inl (some 52)), some (zi xs), some (zi xi), some (zi y3141)]) (st' := []) (by decide +kernel) (fun k q => by cases q) rfl ?_
      refine y_same (i := .aload_n 0) (len := 1) (r := (0, 0, 0, 0)) (pc' := 21) (ls' := [some (.inl (some 52)), some (zi xs), some (zi xi), some (zi y3141)]) (st' := [.inl (some 52)]) (by decide +kernel) (fun k q => by cases q) rfl ?_
      refine y_get (j := 70) (len := 3) (r := (12, 33, 2, 1361)) (by decide +kernel) hg (t52 hg) at52 rfl rfl (g_r52 (f := 33) (T2 := 381) hg rfl (by decide)).1 ?_
      refine y_same (i := .aload_n 0) (len := 1) (r := (0, 0, 0, 0)) (pc' := 25) (ls' := [some (.inl (some 52)), some (zi xs), some (zi xi), some (zi y3141)]) (st' := [.inl (some 52), .inl (some 381)]) (by decide +kernel) (fun k q => by cases q) rfl ?_
      refine y_get (j := 20) (len := 3) (r := (12, 9, 2, 1337)) (by decide +kernel) hg (t52 hg) at52 rfl rfl (g_r52 (f := 9) (T2 := 55) hg rfl (by decide)).1 ?_
      refine y_same (i := .iload_n 3) (len := 1) (r := (0, 0, 0, 0)) (pc' := 29) (ls' := [some (.inl (some 52)), some (zi xs), some (zi xi), some (zi y3141)]) (st' := [zi y3141, .inl (some 55), .inl (some 381)]) (by decide +kernel) (fun k q => by cases q) rfl ?_
      refine y_ic (c := 1) (len := 1) (r := (0, 0, 0, 0)) (by decide +kernel) (by decide) (fun y3142 hy3142 => ?_)
      refine y_add (len := 1) (r := (0, 0, 0, 0)) (by decide +kernel) (by omega) (by omega) (fun y3143 hy3143 => ?_)
      refine y_ial (i := ((68 + 4 * k) + 1)) (len := 1) (r := (0, 0, 0, 0)) (by decide +kernel) hg (tv55 hg) av55 (by omega) g1z ?_
      obtain ⟨v3144, hv3145, ev3144⟩ := tm ik.2.1.toNat (by omega) mn.1
      obtain ⟨X3146, eX3146⟩ : ∃ X, f ik.2.1.toNat = X := ⟨_, rfl⟩
      have bX3146 : X3146 ≤ mx := by
        rw [← eX3146]
        exact hfb _ (by omega)
      rw [eX3146] at ev3144
      refine y_ial (i := ik.2.1.toNat) (len := 1) (r := (0, 0, 0, 0)) (by decide +kernel) hg (tu381 hg) at381 (by omega) hv3145 ?_
      refine y_same (i := .aload_n 0) (len := 1) (r := (0, 0, 0, 0)) (pc' := 34) (ls' := [some (.inl (some 52)), some (zi xs), some (zi xi), some (zi y3141)]) (st' := [.inl (some 52), zi v3144]) (by decide +kernel) (fun k q => by cases q) rfl ?_
      refine y_get (j := 70) (len := 3) (r := (12, 33, 2, 1361)) (by decide +kernel) hg (t52 hg) at52 rfl rfl (g_r52 (f := 33) (T2 := 381) hg rfl (by decide)).1 ?_
      refine y_same (i := .aload_n 0) (len := 1) (r := (0, 0, 0, 0)) (pc' := 38) (ls' := [some (.inl (some 52)), some (zi xs), some (zi xi), some (zi y3141)]) (st' := [.inl (some 52), .inl (some 381), zi v3144]) (by decide +kernel) (fun k q => by cases q) rfl ?_
      refine y_get (j := 20) (len := 3) (r := (12, 9, 2, 1337)) (by decide +kernel) hg (t52 hg) at52 rfl rfl (g_r52 (f := 9) (T2 := 55) hg rfl (by decide)).1 ?_
      refine y_same (i := .iload_n 3) (len := 1) (r := (0, 0, 0, 0)) (pc' := 42) (ls' := [some (.inl (some 52)), some (zi xs), some (zi xi), some (zi y3141)]) (st' := [zi y3141, .inl (some 55), .inl (some 381), zi v3144]) (by decide +kernel) (fun k q => by cases q) rfl ?_
      refine y_ic (c := 2) (len := 1) (r := (0, 0, 0, 0)) (by decide +kernel) (by decide) (fun y3147 hy3147 => ?_)
      refine y_add (len := 1) (r := (0, 0, 0, 0)) (by decide +kernel) (by omega) (by omega) (fun y3148 hy3148 => ?_)
      refine y_ial (i := ((68 + 4 * k) + 2)) (len := 1) (r := (0, 0, 0, 0)) (by decide +kernel) hg (tv55 hg) av55 (by omega) g2z ?_
      obtain ⟨v3149, hv3150, ev3149⟩ := tm ik.2.2.1.toNat (by omega) mn.2.1
      obtain ⟨X3151, eX3151⟩ : ∃ X, f ik.2.2.1.toNat = X := ⟨_, rfl⟩
      have bX3151 : X3151 ≤ mx := by
        rw [← eX3151]
        exact hfb _ (by omega)
      rw [eX3151] at ev3149
      refine y_ial (i := ik.2.2.1.toNat) (len := 1) (r := (0, 0, 0, 0)) (by decide +kernel) hg (tu381 hg) at381 (by omega) hv3150 ?_
      rcases Decidable.em (v3144.toInt ≠ v3149.toInt) with q3152 | q3152
      ·
        refine y_cT (c := .ne) (off := 7) (pc' := 53) (len := 3) (r := (0, 0, 0, 0)) (by decide +kernel) (acmpT (c := .ne) (by show ¬ (_ = _); omega)) (by decide +kernel) ?_
        refine y_ic (c := 0) (len := 1) (r := (0, 0, 0, 0)) (by decide +kernel) (by decide) (fun y3153 hy3153 => ?_)
        refine y_same (i := .aload_n 0) (len := 1) (r := (0, 0, 0, 0)) (pc' := 55) (ls' := [some (.inl (some 52)), some (zi xs), some (zi xi), some (zi y3141)]) (st' := [.inl (some 52), zi y3153]) (by decide +kernel) (fun k q => by cases q) rfl ?_
        refine y_get (j := 20) (len := 3) (r := (12, 9, 2, 1337)) (by decide +kernel) hg (t52 hg) at52 rfl rfl (g_r52 (f := 9) (T2 := 55) hg rfl (by decide)).1 ?_
        refine y_same (i := .iload_n 3) (len := 1) (r := (0, 0, 0, 0)) (pc' := 59) (ls' := [some (.inl (some 52)), some (zi xs), some (zi xi), some (zi y3141)]) (st' := [zi y3141, .inl (some 55), zi y3153]) (by decide +kernel) (fun k q => by cases q) rfl ?_
        refine y_ial (i := (68 + 4 * k)) (len := 1) (r := (0, 0, 0, 0)) (by decide +kernel) hg (tv55 hg) av55 (by omega) g0z ?_
        refine y_ic (c := 1) (len := 1) (r := (0, 0, 0, 0)) (by decide +kernel) (by decide) (fun y3154 hy3154 => ?_)
        rcases Decidable.em (x0z.toInt ≠ y3154.toInt) with q3155 | q3155
        ·
          refine y_cT (c := .ne) (off := 7) (pc' := 68) (len := 3) (r := (0, 0, 0, 0)) (by decide +kernel) (acmpT (c := .ne) (by show ¬ (_ = _); omega)) (by decide +kernel) ?_
          refine y_ic (c := 0) (len := 1) (r := (0, 0, 0, 0)) (by decide +kernel) (by decide) (fun y3156 hy3156 => ?_)
          refine y_cT (c := .eq) (off := 5) (pc' := 74) (len := 3) (r := (0, 0, 0, 0)) (by decide +kernel) (acmpT (c := .eq) (by show _ = _; omega)) (by decide +kernel) ?_
          refine y_inc (j := 2) (a := xi) (c := 1) (ls' := fun v => [some (.inl (some 52)), some (zi xs), some v, some (zi y3141)]) (len := 3) (r := (0, 0, 0, 0)) (by decide +kernel) rfl (fun _ => rfl) (by decide) (by omega) (by omega) (fun y3157 hy3157 => ?_)
          show qX (d + 1) 248 77 [some (.inl (some 52)), some (zi xs), some (zi y3157), some (zi y3141)] [] h t _
          refine y_goto (off := (-75)) (pc' := 2) (len := 3) (r := (0, 0, 0, 0)) (by decide +kernel) (by decide +kernel) ?_
          refine ih (k + 1) y3157 _ (by omega) (by omega) (fun j i hj hk9 => ?_) (by omega)
          rcases Nat.lt_or_ge j k with q9 | q9
          · exact c1 j i q9 hk9
          · have e9 : j = k := by omega
            subst e9
            have e8 := Option.some.inj (hk.symm.trans hk9)
            subst e8
            show (f ik.2.1.toNat = f ik.2.2.1.toNat) ↔ ik.1 = 1
            rw [eX3146, eX3151]
            omega
        ·
          refine y_cF (c := .ne) (off := 7) (len := 3) (r := (0, 0, 0, 0)) (by decide +kernel) (acmpF (c := .ne) (by show _ = _; omega)) ?_
          refine y_ic (c := 1) (len := 1) (r := (0, 0, 0, 0)) (by decide +kernel) (by decide) (fun y3158 hy3158 => ?_)
          refine y_goto (off := 4) (pc' := 69) (len := 3) (r := (0, 0, 0, 0)) (by decide +kernel) (by decide +kernel) ?_
          refine y_cF (c := .eq) (off := 5) (len := 3) (r := (0, 0, 0, 0)) (by decide +kernel) (acmpF (c := .eq) (by show ¬ (_ = _); omega)) ?_
          refine y_ic (c := 0) (len := 1) (r := (0, 0, 0, 0)) (by decide +kernel) (by decide) (fun y3159 hy3159 => ?_)
          refine y_rI (len := 1) (r := (0, 0, 0, 0)) (nL := 4) (k := 2) (n9 := 2) (hs := []) (by decide +kernel) rfl (zfit_b (by omega) (by omega)).2 ?_
          refine ⟨rfl, Or.inr ⟨by omega, fun a9 => ?_⟩⟩
          have a8 : (f ik.2.1.toNat = f ik.2.2.1.toNat) ↔ ik.1 = 1 := a9 ik (List.mem_of_getElem? hk)
          rw [eX3146, eX3151] at a8
          omega
      ·
        refine y_cF (c := .ne) (off := 7) (len := 3) (r := (0, 0, 0, 0)) (by decide +kernel) (acmpF (c := .ne) (by show _ = _; omega)) ?_
        refine y_ic (c := 1) (len := 1) (r := (0, 0, 0, 0)) (by decide +kernel) (by decide) (fun y3160 hy3160 => ?_)
        refine y_goto (off := 4) (pc' := 54) (len := 3) (r := (0, 0, 0, 0)) (by decide +kernel) (by decide +kernel) ?_
        refine y_same (i := .aload_n 0) (len := 1) (r := (0, 0, 0, 0)) (pc' := 55) (ls' := [some (.inl (some 52)), some (zi xs), some (zi xi), some (zi y3141)]) (st' := [.inl (some 52), zi y3160]) (by decide +kernel) (fun k q => by cases q) rfl ?_
        refine y_get (j := 20) (len := 3) (r := (12, 9, 2, 1337)) (by decide +kernel) hg (t52 hg) at52 rfl rfl (g_r52 (f := 9) (T2 := 55) hg rfl (by decide)).1 ?_
        refine y_same (i := .iload_n 3) (len := 1) (r := (0, 0, 0, 0)) (pc' := 59) (ls' := [some (.inl (some 52)), some (zi xs), some (zi xi), some (zi y3141)]) (st' := [zi y3141, .inl (some 55), zi y3160]) (by decide +kernel) (fun k q => by cases q) rfl ?_
        refine y_ial (i := (68 + 4 * k)) (len := 1) (r := (0, 0, 0, 0)) (by decide +kernel) hg (tv55 hg) av55 (by omega) g0z ?_
        refine y_ic (c := 1) (len := 1) (r := (0, 0, 0, 0)) (by decide +kernel) (by decide) (fun y3161 hy3161 => ?_)
        rcases Decidable.em (x0z.toInt ≠ y3161.toInt) with q3162 | q3162
        ·
          refine y_cT (c := .ne) (off := 7) (pc' := 68) (len := 3) (r := (0, 0, 0, 0)) (by decide +kernel) (acmpT (c := .ne) (by show ¬ (_ = _); omega)) (by decide +kernel) ?_
          refine y_ic (c := 0) (len := 1) (r := (0, 0, 0, 0)) (by decide +kernel) (by decide) (fun y3163 hy3163 => ?_)
          refine y_cF (c := .eq) (off := 5) (len := 3) (r := (0, 0, 0, 0)) (by decide +kernel) (acmpF (c := .eq) (by show ¬ (_ = _); omega)) ?_
          refine y_ic (c := 0) (len := 1) (r := (0, 0, 0, 0)) (by decide +kernel) (by decide) (fun y3164 hy3164 => ?_)
          refine y_rI (len := 1) (r := (0, 0, 0, 0)) (nL := 4) (k := 2) (n9 := 2) (hs := []) (by decide +kernel) rfl (zfit_b (by omega) (by omega)).2 ?_
          refine ⟨rfl, Or.inr ⟨by omega, fun a9 => ?_⟩⟩
          have a8 : (f ik.2.1.toNat = f ik.2.2.1.toNat) ↔ ik.1 = 1 := a9 ik (List.mem_of_getElem? hk)
          rw [eX3146, eX3151] at a8
          omega
        ·
          refine y_cF (c := .ne) (off := 7) (len := 3) (r := (0, 0, 0, 0)) (by decide +kernel) (acmpF (c := .ne) (by show _ = _; omega)) ?_
          refine y_ic (c := 1) (len := 1) (r := (0, 0, 0, 0)) (by decide +kernel) (by decide) (fun y3165 hy3165 => ?_)
          refine y_goto (off := 4) (pc' := 69) (len := 3) (r := (0, 0, 0, 0)) (by decide +kernel) (by decide +kernel) ?_
          refine y_cT (c := .eq) (off := 5) (pc' := 74) (len := 3) (r := (0, 0, 0, 0)) (by decide +kernel) (acmpT (c := .eq) (by show _ = _; omega)) (by decide +kernel) ?_
          refine y_inc (j := 2) (a := xi) (c := 1) (ls' := fun v => [some (.inl (some 52)), some (zi xs), some v, some (zi y3141)]) (len := 3) (r := (0, 0, 0, 0)) (by decide +kernel) rfl (fun _ => rfl) (by decide) (by omega) (by omega) (fun y3166 hy3166 => ?_)
          show qX (d + 1) 248 77 [some (.inl (some 52)), some (zi xs), some (zi y3166), some (zi y3141)] [] h t _
          refine y_goto (off := (-75)) (pc' := 2) (len := 3) (r := (0, 0, 0, 0)) (by decide +kernel) (by decide +kernel) ?_
          refine ih (k + 1) y3166 _ (by omega) (by omega) (fun j i hj hk9 => ?_) (by omega)
          rcases Nat.lt_or_ge j k with q9 | q9
          · exact c1 j i q9 hk9
          · have e9 : j = k := by omega
            subst e9
            have e8 := Option.some.inj (hk.symm.trans hk9)
            subst e8
            show (f ik.2.1.toNat = f ik.2.2.1.toNat) ↔ ik.1 = 1
            rw [eX3146, eX3151]
            omega
theorem m_ca1 {d t mx : Nat} {τ : List Nat} {h : zh} {l : List it4} {ls : List Nat} {f : tlT} {xs : Int32} (hg : hG τ h) (hxs : xs.toInt = 1) (hl9 : ci_ h 55 47 l.length) (ic : ∀ (j : Nat) (i : it4), l[j]? = some i → qdM h 55 (68 + 4 * j) i) (l6 : l.length ≤ 6) (ok : ∀ (j : Nat) (i : it4), l[j]? = some i → okI i) (men : ∀ i ∈ l, mnI ls i) (tm : tM h ls f) (hfb : ∀ v, v ≤ 5 → f v ≤ mx) : qI (d + 2) 248 [some (.inl (some 52)), some (zi xs), none, none] h t (fun y h1 => h = h1 ∧ ((y.toInt = 1 ∧ arS f l) ∨ (y.toInt = 0 ∧ ¬ arS f l))) := by
  refine qI_of ?_
  refine y_ic (c := 0) (len := 1) (r := (0, 0, 0, 0)) (by decide +kernel) (by decide) (fun y3167 hy3167 => ?_)
  refine y_same (i := .istore_n 2) (len := 1) (r := (0, 0, 0, 0)) (pc' := 2) (ls' := [some (.inl (some 52)), some (zi xs), some (zi y3167), none]) (st' := []) (by decide +kernel) (fun k q => by cases q) rfl ?_
  exact mca1_l hg hxs hl9 ic l6 ok men tm hfb (l.length + 1) 0 y3167 _ (by omega) (by omega) (fun j _ hj _ => absurd hj (Nat.not_lt_zero j)) (by omega)
theorem m_puts {d t w a b : Nat} {k9 : Int} {τ : List Nat} {h : zh} {H : hpT} {xw xk xa xb : Int32} (hg : hG τ h) (hp : hpM h H) (exw : xw.toInt = (w : Int)) (hw : w ≤ H.2.2.2) (ht : H.2.2.2 ≤ 31) (exk : xk.toInt = k9) (hk : k9 = 0 ∨ k9 = 1) (exa : xa.toInt = (a : Int)) (ha : a ≤ 31) (exb : xb.toInt = (b : Int)) (hb : b ≤ 31) : qI (d + 1) 246 [some (.inl (some 52)), some (zi xw), some (zi xk), some (zi xa), some (zi xb)] h t (fun y h1 => hG τ h1 ∧ (∀ k j, (k ≠ 383 ∧ k ≠ 384 ∧ k ≠ 385) → hsl h1 k j = hsl h k j) ∧ ((w ≠ 0 ∧ H.1 w = -1 ∧ y.toInt = 1 ∧ hpM h1 (put1 H w k9 a b)) ∨ ((w = 0 ∨ H.1 w ≠ -1) ∧ y.toInt = 0 ∧ hpM h1 H))) := by
  obtain ⟨⟨xv, hv, ev⟩, -⟩ := hp.1 w hw
  refine qI_of ?_
  refine y_same (i := .iload_n 1) (len := 1) (r := (0, 0, 0, 0)) (pc' := 1) (ls' := [some (.inl (some 52)), some (zi xw), some (zi xk), some (zi xa), some (zi xb)]) (st' := [zi xw]) (by decide +kernel) (fun k q => by cases q) rfl ?_
  rcases Decidable.em (xw.toInt = 0) with q3168 | q3168
  ·
    refine y_iT (c := .eq) (off := 13) (pc' := 14) (len := 3) (r := (0, 0, 0, 0)) (by decide +kernel) (acmpT (c := .eq) (by show _ = _; omega)) (by decide +kernel) ?_
    refine y_ic (c := 0) (len := 1) (r := (0, 0, 0, 0)) (by decide +kernel) (by decide) (fun y3169 hy3169 => ?_)
    refine y_rI (len := 1) (r := (0, 0, 0, 0)) (nL := 5) (k := 2) (n9 := 5) (hs := []) (by decide +kernel) rfl (zfit_b (by omega) (by omega)).2 ?_
    exact ⟨hg, fun k j _ => rfl, Or.inr ⟨by omega, by omega, hp⟩⟩
  ·
    refine y_iF (c := .eq) (off := 13) (len := 3) (r := (0, 0, 0, 0)) (by decide +kernel) (acmpF (c := .eq) (by show ¬ (_ = _); omega)) ?_
    refine y_same (i := .aload_n 0) (len := 1) (r := (0, 0, 0, 0)) (pc' := 5) (ls' := [some (.inl (some 52)), some (zi xw), some (zi xk), some (zi xa), some (zi xb)]) (st' := [.inl (some 52)]) (by decide +kernel) (fun k q => by cases q) rfl ?_
    refine y_get (j := 76) (len := 3) (r := (12, 35, 2, 1363)) (by decide +kernel) hg (t52 hg) at52 rfl rfl (g_r52 (f := 35) (T2 := 383) hg rfl (by decide)).1 ?_
    refine y_same (i := .iload_n 1) (len := 1) (r := (0, 0, 0, 0)) (pc' := 9) (ls' := [some (.inl (some 52)), some (zi xw), some (zi xk), some (zi xa), some (zi xb)]) (st' := [zi xw, .inl (some 383)]) (by decide +kernel) (fun k q => by cases q) rfl ?_
    refine y_ial (i := w) (len := 1) (r := (0, 0, 0, 0)) (by decide +kernel) hg (tu383 hg) at383 (by omega) hv ?_
    refine y_ic (c := (-1)) (len := 1) (r := (0, 0, 0, 0)) (by decide +kernel) (by decide) (fun y3170 hy3170 => ?_)
    rcases Decidable.em (xv.toInt = y3170.toInt) with q3171 | q3171
    ·
      refine y_cT (c := .eq) (off := 5) (pc' := 16) (len := 3) (r := (0, 0, 0, 0)) (by decide +kernel) (acmpT (c := .eq) (by show _ = _; omega)) (by decide +kernel) ?_
      refine y_same (i := .aload_n 0) (len := 1) (r := (0, 0, 0, 0)) (pc' := 17) (ls' := [some (.inl (some 52)), some (zi xw), some (zi xk), some (zi xa), some (zi xb)]) (st' := [.inl (some 52)]) (by decide +kernel) (fun k q => by cases q) rfl ?_
      refine y_get (j := 76) (len := 3) (r := (12, 35, 2, 1363)) (by decide +kernel) hg (t52 hg) at52 rfl rfl (g_r52 (f := 35) (T2 := 383) hg rfl (by decide)).1 ?_
      refine y_same (i := .iload_n 1) (len := 1) (r := (0, 0, 0, 0)) (pc' := 21) (ls' := [some (.inl (some 52)), some (zi xw), some (zi xk), some (zi xa), some (zi xb)]) (st' := [zi xw, .inl (some 383)]) (by decide +kernel) (fun k q => by cases q) rfl ?_
      refine y_same (i := .iload_n 2) (len := 1) (r := (0, 0, 0, 0)) (pc' := 22) (ls' := [some (.inl (some 52)), some (zi xw), some (zi xk), some (zi xa), some (zi xb)]) (st' := [zi xk, zi xw, .inl (some 383)]) (by decide +kernel) (fun k q => by cases q) rfl ?_
      refine y_ias (i := w) (len := 1) (r := (0, 0, 0, 0)) (by decide +kernel) hg (tu383 hg) at383 rfl (by omega) (by omega) (sr1 (by omega)) (by omega) (by omega) (fun h3172 hg3172 hl3172 hs3172 ho3172 => ?_)
      refine y_same (i := .aload_n 0) (len := 1) (r := (0, 0, 0, 0)) (pc' := 24) (ls' := [some (.inl (some 52)), some (zi xw), some (zi xk), some (zi xa), some (zi xb)]) (st' := [.inl (some 52)]) (by decide +kernel) (fun k q => by cases q) rfl ?_
      refine y_get (j := 79) (len := 3) (r := (12, 36, 2, 1364)) (by decide +kernel) hg3172 (t52 hg3172) at52 rfl rfl (g_r52 (f := 36) (T2 := 384) hg3172 rfl (by decide)).1 ?_
      refine y_same (i := .iload_n 1) (len := 1) (r := (0, 0, 0, 0)) (pc' := 28) (ls' := [some (.inl (some 52)), some (zi xw), some (zi xk), some (zi xa), some (zi xb)]) (st' := [zi xw, .inl (some 384)]) (by decide +kernel) (fun k q => by cases q) rfl ?_
      refine y_same (i := .iload_n 3) (len := 1) (r := (0, 0, 0, 0)) (pc' := 29) (ls' := [some (.inl (some 52)), some (zi xw), some (zi xk), some (zi xa), some (zi xb)]) (st' := [zi xa, zi xw, .inl (some 384)]) (by decide +kernel) (fun k q => by cases q) rfl ?_
      refine y_ias (i := w) (len := 1) (r := (0, 0, 0, 0)) (by decide +kernel) hg3172 (tu384 hg3172) at384 rfl (by omega) (by omega) (sr1 (by omega)) (by omega) (by omega) (fun h3173 hg3173 hl3173 hs3173 ho3173 => ?_)
      refine y_same (i := .aload_n 0) (len := 1) (r := (0, 0, 0, 0)) (pc' := 31) (ls' := [some (.inl (some 52)), some (zi xw), some (zi xk), some (zi xa), some (zi xb)]) (st' := [.inl (some 52)]) (by decide +kernel) (fun k q => by cases q) rfl ?_
      refine y_get (j := 82) (len := 3) (r := (12, 37, 2, 1365)) (by decide +kernel) hg3173 (t52 hg3173) at52 rfl rfl (g_r52 (f := 37) (T2 := 385) hg3173 rfl (by decide)).1 ?_
      refine y_same (i := .iload_n 1) (len := 1) (r := (0, 0, 0, 0)) (pc' := 35) (ls' := [some (.inl (some 52)), some (zi xw), some (zi xk), some (zi xa), some (zi xb)]) (st' := [zi xw, .inl (some 385)]) (by decide +kernel) (fun k q => by cases q) rfl ?_
      refine y_same (i := .iload 4) (len := 2) (r := (0, 0, 0, 0)) (pc' := 37) (ls' := [some (.inl (some 52)), some (zi xw), some (zi xk), some (zi xa), some (zi xb)]) (st' := [zi xb, zi xw, .inl (some 385)]) (by decide +kernel) (fun k q => by cases q) rfl ?_
      refine y_ias (i := w) (len := 1) (r := (0, 0, 0, 0)) (by decide +kernel) hg3173 (tu385 hg3173) at385 rfl (by omega) (by omega) (sr1 (by omega)) (by omega) (by omega) (fun h3174 hg3174 hl3174 hs3174 ho3174 => ?_)
      refine y_ic (c := 1) (len := 1) (r := (0, 0, 0, 0)) (by decide +kernel) (by decide) (fun y3175 hy3175 => ?_)
      refine y_rI (len := 1) (r := (0, 0, 0, 0)) (nL := 5) (k := 2) (n9 := 5) (hs := []) (by decide +kernel) rfl (zfit_b (by omega) (by omega)).2 ?_
      have hv3176 := (ho3173 383 w (Or.inl (by omega))).trans hs3172
      have hv3177 := (ho3174 383 w (Or.inl (by omega))).trans hv3176
      have hv3178 := (ho3174 384 w (Or.inl (by omega))).trans hs3173
      refine ⟨hg3174, fun k j hC => ((ho3174 k j (by omega)).trans ((ho3173 k j (by omega)).trans (ho3172 k j (by omega)))), Or.inl ⟨by omega, by omega, by omega, ⟨fun v h1 => ?_, ci_up hp.2 (((ho3174 52 39 (by omega)).trans ((ho3173 52 39 (by omega)).trans (ho3172 52 39 (by omega)))))⟩⟩⟩
      show kx_ h3174 383 v (if v = w then k9 else H.1 v) ∧ ((if v = w then k9 else H.1 v) ≠ -1 → ci_ h3174 384 v (if v = w then a else H.2.1 v) ∧ ci_ h3174 385 v (if v = w then b else H.2.2.1 v))
      by_cases q : v = w
      · subst q
        rw [if_pos rfl, if_pos rfl, if_pos rfl]
        exact ⟨⟨_, hv3177, exk⟩, fun _ => ⟨⟨_, hv3178, exa⟩, ⟨_, hs3174, exb⟩⟩⟩
      · rw [if_neg q, if_neg q, if_neg q]
        obtain ⟨c1, c2⟩ := hp.1 v h1
        exact ⟨kx_up c1 (((ho3174 383 v (by omega)).trans ((ho3173 383 v (by omega)).trans (ho3172 383 v (by omega))))), fun q9 => ⟨ci_up (c2 q9).1 (((ho3174 384 v (by omega)).trans ((ho3173 384 v (by omega)).trans (ho3172 384 v (by omega))))), ci_up (c2 q9).2 (((ho3174 385 v (by omega)).trans ((ho3173 385 v (by omega)).trans (ho3172 385 v (by omega)))))⟩⟩
    ·
      refine y_cF (c := .eq) (off := 5) (len := 3) (r := (0, 0, 0, 0)) (by decide +kernel) (acmpF (c := .eq) (by show ¬ (_ = _); omega)) ?_
      refine y_ic (c := 0) (len := 1) (r := (0, 0, 0, 0)) (by decide +kernel) (by decide) (fun y3179 hy3179 => ?_)
      refine y_rI (len := 1) (r := (0, 0, 0, 0)) (nL := 5) (k := 2) (n9 := 5) (hs := []) (by decide +kernel) rfl (zfit_b (by omega) (by omega)).2 ?_
      exact ⟨hg, fun k j _ => rfl, Or.inr ⟨by omega, by omega, hp⟩⟩
theorem m_new {d t : Nat} {τ : List Nat} {h : zh} {H : hpT} (hg : hG τ h) (hp : hpM h H) (ht9 : H.2.2.2 < 31) (hnw : H.1 (H.2.2.2 + 1) = -1) : qI (d + 1) 247 [some (.inl (some 52))] h t (fun y h1 => hG τ h1 ∧ y.toInt = ((H.2.2.2 + 1 : Nat) : Int) ∧ hpM h1 (new1 H) ∧ ∀ k j, (k ≠ 383 ∧ (k ≠ 52 ∨ j ≠ 39)) → hsl h1 k j = hsl h k j) := by
  obtain ⟨xt, ht, et⟩ := hp.2
  refine qI_of ?_
  refine y_same (i := .aload_n 0) (len := 1) (r := (0, 0, 0, 0)) (pc' := 1) (ls' := [some (.inl (some 52))]) (st' := [.inl (some 52)]) (by decide +kernel) (fun k q => by cases q) rfl ?_
  refine y_same (i := .dup) (len := 1) (r := (0, 0, 0, 0)) (pc' := 2) (ls' := [some (.inl (some 52))]) (st' := [.inl (some 52), .inl (some 52)]) (by decide +kernel) (fun k q => by cases q) rfl ?_
  refine y_get (j := 410) (len := 3) (r := (12, 39, 0, 1367)) (by decide +kernel) hg (t52 hg) at52 rfl rfl ht ?_
  refine y_ic (c := 1) (len := 1) (r := (0, 0, 0, 0)) (by decide +kernel) (by decide) (fun y3180 hy3180 => ?_)
  refine y_add (len := 1) (r := (0, 0, 0, 0)) (by decide +kernel) (by omega) (by omega) (fun y3181 hy3181 => ?_)
  refine y_put (j := 410) (lo := 0) (hi := 31) (len := 3) (r := (12, 39, 0, 1367)) (by decide +kernel) hg (t52 hg) at52 rfl rfl (by decide) rfl (by omega) (by omega) rfl (fun h3182 hg3182 hl3182 hs3182 ho3182 => ?_)
  have ho3182 : hO 52 39 h h3182 := ho3182
  have hs3182 : hsl h3182 52 39 = some (zi y3181) := hs3182
  refine y_same (i := .aload_n 0) (len := 1) (r := (0, 0, 0, 0)) (pc' := 11) (ls' := [some (.inl (some 52))]) (st' := [.inl (some 52)]) (by decide +kernel) (fun k q => by cases q) rfl ?_
  refine y_get (j := 76) (len := 3) (r := (12, 35, 2, 1363)) (by decide +kernel) hg3182 (t52 hg3182) at52 rfl rfl (g_r52 (f := 35) (T2 := 383) hg3182 rfl (by decide)).1 ?_
  refine y_same (i := .aload_n 0) (len := 1) (r := (0, 0, 0, 0)) (pc' := 15) (ls' := [some (.inl (some 52))]) (st' := [.inl (some 52), .inl (some 383)]) (by decide +kernel) (fun k q => by cases q) rfl ?_
  refine y_get (j := 410) (len := 3) (r := (12, 39, 0, 1367)) (by decide +kernel) hg3182 (t52 hg3182) at52 rfl rfl hs3182 ?_
  refine y_ic (c := (-1)) (len := 1) (r := (0, 0, 0, 0)) (by decide +kernel) (by decide) (fun y3183 hy3183 => ?_)
  refine y_ias (i := (H.2.2.2 + 1)) (len := 1) (r := (0, 0, 0, 0)) (by decide +kernel) hg3182 (tu383 hg3182) at383 rfl (by omega) (by omega) (sr1 (by omega)) (by omega) (by omega) (fun h3184 hg3184 hl3184 hs3184 ho3184 => ?_)
  refine y_same (i := .aload_n 0) (len := 1) (r := (0, 0, 0, 0)) (pc' := 21) (ls' := [some (.inl (some 52))]) (st' := [.inl (some 52)]) (by decide +kernel) (fun k q => by cases q) rfl ?_
  have hv3185 := (ho3184 52 39 (Or.inl (by omega))).trans hs3182
  refine y_get (j := 410) (len := 3) (r := (12, 39, 0, 1367)) (by decide +kernel) hg3184 (t52 hg3184) at52 rfl rfl hv3185 ?_
  refine y_rI (len := 1) (r := (0, 0, 0, 0)) (nL := 1) (k := 1) (n9 := 1) (hs := []) (by decide +kernel) rfl rfl ?_
  refine ⟨hg3184, by omega, ⟨fun w h1 => ?_, ⟨_, hv3185, by show _ = ((H.2.2.2 + 1 : Nat) : Int); omega⟩⟩, fun k j hC => ((ho3184 k j (by omega)).trans (ho3182 k j (by omega)))⟩
  have h1 : w ≤ H.2.2.2 + 1 := h1
  show kx_ h3184 383 w (H.1 w) ∧ (H.1 w ≠ -1 → ci_ h3184 384 w (H.2.1 w) ∧ ci_ h3184 385 w (H.2.2.1 w))
  by_cases q : w = H.2.2.2 + 1
  · subst q
    rw [hnw]
    exact ⟨⟨_, hs3184, by omega⟩, fun q9 => absurd rfl q9⟩
  · obtain ⟨c1, c2⟩ := hp.1 w (by omega)
    exact ⟨kx_up c1 (((ho3184 383 w (by omega)).trans (ho3182 383 w (by omega)))), fun q9 => ⟨ci_up (c2 q9).1 (((ho3184 384 w (by omega)).trans (ho3182 384 w (by omega)))), ci_up (c2 q9).2 (((ho3184 385 w (by omega)).trans (ho3182 385 w (by omega))))⟩⟩
theorem m_pp {d t k n : Nat} {τ : List Nat} {h : zh} {l : List it4} {ls : List Nat} {f : tlT} {H : hpT} {ik : it4} {xi xn : Int32} (hg : hG τ h) (ip : ∀ (j : Nat) (i : it4), l[j]? = some i → qdM h 55 (2 + 4 * j) i) (hk : l[k]? = some ik) (hk5 : k < 5) (exi : xi.toInt = (k : Int)) (okk : okI ik) (pz : ik.1 ≤ 3) (htz : ik.1 = 3 → ik.2.2.1.toNat = 0) (hcz : ik.1 = 0 → vZ_ f ik = 0) (hf0 : f 0 = 0) (mn : mnI ls ik) (tm : tM h ls f) {mx : Nat} (hfb : ∀ v, v ≤ 5 → f v ≤ mx) (hmx : mx ≤ H.2.2.2) (ht : H.2.2.2 < 31) (hnw : H.1 (H.2.2.2 + 1) = -1) (hp : hpM h H) (hn : hsl h 382 k = some (zi xn)) (en : xn.toInt = (n : Int)) (hnt : n ≤ tpI ik) : qI (d + 2) 249 [some (.inl (some 52)), some (zi xi), none, none, none, none, none] h t (fun y h1 => hG τ h1 ∧ (∀ k j, (k ≠ 383 ∧ k ≠ 384 ∧ k ≠ 385 ∧ (k ≠ 52 ∨ j ≠ 39)) → hsl h1 k j = hsl h k j) ∧ ((okP f ik n H ∧ y.toInt = 1 ∧ hpM h1 (bld1 f ik n H)) ∨ (¬ okP f ik n H ∧ y.toInt = 0))) := by
  unfold okI at okk
  have hn3 : n ≤ 3 ∧ (ik.1 = 2 → n ≤ 2) := by
    unfold tpI at hnt
    split at hnt
    · omega
    · split at hnt <;> omega
  refine qI_of ?_
  obtain ⟨x0z, x1z, x2z, x3z, ⟨g0z, g1z, g2z, g3z⟩, e0z, e1z, e2z, e3z⟩ := ip k ik hk
  have g0z : hsl h 55 (2 + 4 * k) = some (zi x0z) := g0z
  have g1z : hsl h 55 ((2 + 4 * k) + 1) = some (zi x1z) := g1z
  have g2z : hsl h 55 ((2 + 4 * k) + 2) = some (zi x2z) := g2z
  have g3z : hsl h 55 ((2 + 4 * k) + 3) = some (zi x3z) := g3z
  refine y_ic (c := 0) (len := 1) (r := (0, 0, 0, 0)) (by decide +kernel) (by decide) (fun y3186 hy3186 => ?_)
  refine y_same (i := .iload_n 1) (len := 1) (r := (0, 0, 0, 0)) (pc' := 2) (ls' := [some (.inl (some 52)), some (zi xi), none, none, none, none, none]) (st' := [zi xi, zi y3186]) (by decide +kernel) (fun k q => by cases q) rfl ?_
  refine y_cI (i := .invokestatic 147) (len := 3) (r := (1, 168, 12, 1546)) (nL := 2) (k := 1) (n := 2) (hs := []) (args := [zi y3186, zi xi]) (rest := []) (l0 := [some (zi y3186), some (zi xi)]) (by decide +kernel) (Or.inl ⟨_, rfl⟩) rfl rfl rfl rfl (Nat.le_of_ble_eq_true rfl) rfl rfl (qI_le (by omega) (m_partAt (d := 0) (s := 0) (k := k) (by omega) (by omega) (by omega) (by omega))) (fun y3187 qy3187 hRy3187 => ?_)
  obtain ⟨rfl, hy3187⟩ := hRy3187
  refine y_same (i := .istore_n 2) (len := 1) (r := (0, 0, 0, 0)) (pc' := 6) (ls' := [some (.inl (some 52)), some (zi xi), some (zi y3187), none, none, none, none]) (st' := []) (by decide +kernel) (fun k q => by cases q) rfl ?_
  refine y_same (i := .aload_n 0) (len := 1) (r := (0, 0, 0, 0)) (pc' := 7) (ls' := [some (.inl (some 52)), some (zi xi), some (zi y3187), none, none, none, none]) (st' := [.inl (some 52)]) (by decide +kernel) (fun k q => by cases q) rfl ?_
  refine y_get (j := 70) (len := 3) (r := (12, 33, 2, 1361)) (by decide +kernel) hg (t52 hg) at52 rfl rfl (g_r52 (f := 33) (T2 := 381) hg rfl (by decide)).1 ?_
  refine y_same (i := .aload_n 0) (len := 1) (r := (0, 0, 0, 0)) (pc' := 11) (ls' := [some (.inl (some 52)), some (zi xi), some (zi y3187), none, none, none, none]) (st' := [.inl (some 52), .inl (some 381)]) (by decide +kernel) (fun k q => by cases q) rfl ?_
  refine y_get (j := 20) (len := 3) (r := (12, 9, 2, 1337)) (by decide +kernel) hg (t52 hg) at52 rfl rfl (g_r52 (f := 9) (T2 := 55) hg rfl (by decide)).1 ?_
  refine y_same (i := .iload_n 2) (len := 1) (r := (0, 0, 0, 0)) (pc' := 15) (ls' := [some (.inl (some 52)), some (zi xi), some (zi y3187), none, none, none, none]) (st' := [zi y3187, .inl (some 55), .inl (some 381)]) (by decide +kernel) (fun k q => by cases q) rfl ?_
  refine y_ic (c := 1) (len := 1) (r := (0, 0, 0, 0)) (by decide +kernel) (by decide) (fun y3188 hy3188 => ?_)
  refine y_add (len := 1) (r := (0, 0, 0, 0)) (by decide +kernel) (by omega) (by omega) (fun y3189 hy3189 => ?_)
  refine y_ial (i := ((2 + 4 * k) + 1)) (len := 1) (r := (0, 0, 0, 0)) (by decide +kernel) hg (tv55 hg) av55 (by omega) g1z ?_
  obtain ⟨v3190, hv3191, ev3190⟩ := tm ik.2.1.toNat (by omega) mn.1
  obtain ⟨X3192, eX3192⟩ : ∃ X, f ik.2.1.toNat = X := ⟨_, rfl⟩
  have bX3192 : X3192 ≤ mx := by
    rw [← eX3192]
    exact hfb _ (by omega)
  rw [eX3192] at ev3190
  refine y_ial (i := ik.2.1.toNat) (len := 1) (r := (0, 0, 0, 0)) (by decide +kernel) hg (tu381 hg) at381 (by omega) hv3191 ?_
  refine y_same (i := .istore_n 3) (len := 1) (r := (0, 0, 0, 0)) (pc' := 20) (ls' := [some (.inl (some 52)), some (zi xi), some (zi y3187), some (zi v3190), none, none, none]) (st' := []) (by decide +kernel) (fun k q => by cases q) rfl ?_
  refine y_same (i := .aload_n 0) (len := 1) (r := (0, 0, 0, 0)) (pc' := 21) (ls' := [some (.inl (some 52)), some (zi xi), some (zi y3187), some (zi v3190), none, none, none]) (st' := [.inl (some 52)]) (by decide +kernel) (fun k q => by cases q) rfl ?_
  refine y_get (j := 70) (len := 3) (r := (12, 33, 2, 1361)) (by decide +kernel) hg (t52 hg) at52 rfl rfl (g_r52 (f := 33) (T2 := 381) hg rfl (by decide)).1 ?_
  refine y_same (i := .aload_n 0) (len := 1) (r := (0, 0, 0, 0)) (pc' := 25) (ls' := [some (.inl (some 52)), some (zi xi), some (zi y3187), some (zi v3190), none, none, none]) (st' := [.inl (some 52), .inl (some 381)]) (by decide +kernel) (fun k q => by cases q) rfl ?_
  refine y_get (j := 20) (len := 3) (r := (12, 9, 2, 1337)) (by decide +kernel) hg (t52 hg) at52 rfl rfl (g_r52 (f := 9) (T2 := 55) hg rfl (by decide)).1 ?_
  refine y_same (i := .iload_n 2) (len := 1) (r := (0, 0, 0, 0)) (pc' := 29) (ls' := [some (.inl (some 52)), some (zi xi), some (zi y3187), some (zi v3190), none, none, none]) (st' := [zi y3187, .inl (some 55), .inl (some 381)]) (by decide +kernel) (fun k q => by cases q) rfl ?_
  refine y_ic (c := 2) (len := 1) (r := (0, 0, 0, 0)) (by decide +kernel) (by decide) (fun y3193 hy3193 => ?_)
  refine y_add (len := 1) (r := (0, 0, 0, 0)) (by decide +kernel) (by omega) (by omega) (fun y3194 hy3194 => ?_)
  refine y_ial (i := ((2 + 4 * k) + 2)) (len := 1) (r := (0, 0, 0, 0)) (by decide +kernel) hg (tv55 hg) av55 (by omega) g2z ?_
  obtain ⟨v3195, hv3196, ev3195⟩ := tm ik.2.2.1.toNat (by omega) mn.2.1
  obtain ⟨X3197, eX3197⟩ : ∃ X, f ik.2.2.1.toNat = X := ⟨_, rfl⟩
  have bX3197 : X3197 ≤ mx := by
    rw [← eX3197]
    exact hfb _ (by omega)
  rw [eX3197] at ev3195
  refine y_ial (i := ik.2.2.1.toNat) (len := 1) (r := (0, 0, 0, 0)) (by decide +kernel) hg (tu381 hg) at381 (by omega) hv3196 ?_
  refine y_same (i := .istore 4) (len := 2) (r := (0, 0, 0, 0)) (pc' := 35) (ls' := [some (.inl (some 52)), some (zi xi), some (zi y3187), some (zi v3190), some (zi v3195), none, none]) (st' := []) (by decide +kernel) (fun k q => by cases q) rfl ?_
  refine y_same (i := .aload_n 0) (len := 1) (r := (0, 0, 0, 0)) (pc' := 36) (ls' := [some (.inl (some 52)), some (zi xi), some (zi y3187), some (zi v3190), some (zi v3195), none, none]) (st' := [.inl (some 52)]) (by decide +kernel) (fun k q => by cases q) rfl ?_
  refine y_get (j := 73) (len := 3) (r := (12, 34, 2, 1362)) (by decide +kernel) hg (t52 hg) at52 rfl rfl (g_r52 (f := 34) (T2 := 382) hg rfl (by decide)).1 ?_
  refine y_same (i := .iload_n 1) (len := 1) (r := (0, 0, 0, 0)) (pc' := 40) (ls' := [some (.inl (some 52)), some (zi xi), some (zi y3187), some (zi v3190), some (zi v3195), none, none]) (st' := [zi xi, .inl (some 382)]) (by decide +kernel) (fun k q => by cases q) rfl ?_
  refine y_ial (i := k) (len := 1) (r := (0, 0, 0, 0)) (by decide +kernel) hg (tu382 hg) at382 (by omega) hn ?_
  refine y_same (i := .istore 5) (len := 2) (r := (0, 0, 0, 0)) (pc' := 43) (ls' := [some (.inl (some 52)), some (zi xi), some (zi y3187), some (zi v3190), some (zi v3195), some (zi xn), none]) (st' := []) (by decide +kernel) (fun k q => by cases q) rfl ?_
  refine y_same (i := .aload_n 0) (len := 1) (r := (0, 0, 0, 0)) (pc' := 44) (ls' := [some (.inl (some 52)), some (zi xi), some (zi y3187), some (zi v3190), some (zi v3195), some (zi xn), none]) (st' := [.inl (some 52)]) (by decide +kernel) (fun k q => by cases q) rfl ?_
  refine y_get (j := 20) (len := 3) (r := (12, 9, 2, 1337)) (by decide +kernel) hg (t52 hg) at52 rfl rfl (g_r52 (f := 9) (T2 := 55) hg rfl (by decide)).1 ?_
  refine y_same (i := .iload_n 2) (len := 1) (r := (0, 0, 0, 0)) (pc' := 48) (ls' := [some (.inl (some 52)), some (zi xi), some (zi y3187), some (zi v3190), some (zi v3195), some (zi xn), none]) (st' := [zi y3187, .inl (some 55)]) (by decide +kernel) (fun k q => by cases q) rfl ?_
  refine y_ial (i := (2 + 4 * k)) (len := 1) (r := (0, 0, 0, 0)) (by decide +kernel) hg (tv55 hg) av55 (by omega) g0z ?_
  rcases (show x0z.toInt = 0 ∨ x0z.toInt = 1 ∨ x0z.toInt = 2 ∨ (x0z.toInt < 0 ∨ 2 < x0z.toInt) by omega) with q3198 | q3198 | q3198 | q3198
  ·
    refine y_sw (dflt := 146) (lo := 0) (hi := 2) (offs := #[27, 37, 59]) (off := 27) (pc' := 76) (len := 27) (r := (0, 0, 0, 0)) (by decide +kernel) (zswI (k := 0) (by omega) (by omega) (by omega) rfl) (by decide +kernel) ?_
    refine y_same (i := .aload_n 0) (len := 1) (r := (0, 0, 0, 0)) (pc' := 77) (ls' := [some (.inl (some 52)), some (zi xi), some (zi y3187), some (zi v3190), some (zi v3195), some (zi xn), none]) (st' := [.inl (some 52)]) (by decide +kernel) (fun k q => by cases q) rfl ?_
    refine y_same (i := .iload_n 3) (len := 1) (r := (0, 0, 0, 0)) (pc' := 78) (ls' := [some (.inl (some 52)), some (zi xi), some (zi y3187), some (zi v3190), some (zi v3195), some (zi xn), none]) (st' := [zi v3190, .inl (some 52)]) (by decide +kernel) (fun k q => by cases q) rfl ?_
    refine y_ic (c := 0) (len := 1) (r := (0, 0, 0, 0)) (by decide +kernel) (by decide) (fun y3199 hy3199 => ?_)
    refine y_same (i := .iload 4) (len := 2) (r := (0, 0, 0, 0)) (pc' := 81) (ls' := [some (.inl (some 52)), some (zi xi), some (zi y3187), some (zi v3190), some (zi v3195), some (zi xn), none]) (st' := [zi v3195, zi y3199, zi v3190, .inl (some 52)]) (by decide +kernel) (fun k q => by cases q) rfl ?_
    refine y_ic (c := 0) (len := 1) (r := (0, 0, 0, 0)) (by decide +kernel) (by decide) (fun y3200 hy3200 => ?_)
    refine y_cI (i := .invokevirtual 413) (len := 3) (r := (0, 246, 12, 1826)) (nL := 5) (k := 2) (n := 5) (hs := []) (args := [.inl (some 52), zi v3190, zi y3199, zi v3195, zi y3200]) (rest := []) (l0 := [some (.inl (some 52)), some (zi v3190), some (zi y3199), some (zi v3195), some (zi y3200)]) (by decide +kernel) (Or.inr (Or.inl ⟨_, rfl⟩)) rfl rfl rfl rfl (Nat.le_of_ble_eq_true rfl) (z52 hg) rfl (qI_le (by omega) (m_puts (d := 0) (w := X3192) (k9 := 0) (a := X3197) (b := 0) (H := H) hg hp (by omega) (by show X3192 ≤ H.2.2.2; omega) (by show H.2.2.2 ≤ 31; omega) (by omega) (by decide) (by omega) (by omega) (by omega) (by omega))) (fun y3201 h3201 hRy3201 => ?_)
    obtain ⟨hg3201, F3201, hD3201⟩ := hRy3201
    rcases hD3201 with ⟨pr3201, pq3201, hy3201, hp3201⟩ | ⟨bd3201, hy3201, hp3201⟩
    ·
      refine y_rI (len := 1) (r := (0, 0, 0, 0)) (nL := 7) (k := 2) (n9 := 2) (hs := []) (by decide +kernel) rfl (zfit_b (by omega) (by omega)).2 ?_
      have eX : vX_ f ik = X3192 := eX3192
      have eY : vY_ f ik = X3197 := eX3197
      refine ⟨hg3201, fun k j hC => (F3201 k j (by omega)), Or.inl ⟨?_, by omega, ?_⟩⟩
      · rw [okP_01 (by omega) hnt, eX]
        exact ⟨pr3201, pq3201⟩
      · unfold bld1
        rw [if_pos (show ik.1 ≤ 1 by omega), eX, eY, show ik.1 = 0 by omega, show vZ_ f ik = 0 from hcz (by omega)]
        exact hp3201
    ·
      refine y_rI (len := 1) (r := (0, 0, 0, 0)) (nL := 7) (k := 2) (n9 := 2) (hs := []) (by decide +kernel) rfl (zfit_b (by omega) (by omega)).2 ?_
      have eX : vX_ f ik = X3192 := eX3192
      have eY : vY_ f ik = X3197 := eX3197
      refine ⟨hg3201, fun k j hC => (F3201 k j (by omega)), Or.inr ⟨?_, by omega⟩⟩
      rw [okP_01 (by omega) hnt, eX]
      rintro ⟨q8, q9⟩
      rcases bd3201 with q7 | q7
      · exact q8 q7
      · exact q7 q9
  ·
    refine y_sw (dflt := 146) (lo := 0) (hi := 2) (offs := #[27, 37, 59]) (off := 37) (pc' := 86) (len := 27) (r := (0, 0, 0, 0)) (by decide +kernel) (zswI (k := 1) (by omega) (by omega) (by omega) rfl) (by decide +kernel) ?_
    refine y_same (i := .aload_n 0) (len := 1) (r := (0, 0, 0, 0)) (pc' := 87) (ls' := [some (.inl (some 52)), some (zi xi), some (zi y3187), some (zi v3190), some (zi v3195), some (zi xn), none]) (st' := [.inl (some 52)]) (by decide +kernel) (fun k q => by cases q) rfl ?_
    refine y_same (i := .iload_n 3) (len := 1) (r := (0, 0, 0, 0)) (pc' := 88) (ls' := [some (.inl (some 52)), some (zi xi), some (zi y3187), some (zi v3190), some (zi v3195), some (zi xn), none]) (st' := [zi v3190, .inl (some 52)]) (by decide +kernel) (fun k q => by cases q) rfl ?_
    refine y_ic (c := 1) (len := 1) (r := (0, 0, 0, 0)) (by decide +kernel) (by decide) (fun y3202 hy3202 => ?_)
    refine y_same (i := .iload 4) (len := 2) (r := (0, 0, 0, 0)) (pc' := 91) (ls' := [some (.inl (some 52)), some (zi xi), some (zi y3187), some (zi v3190), some (zi v3195), some (zi xn), none]) (st' := [zi v3195, zi y3202, zi v3190, .inl (some 52)]) (by decide +kernel) (fun k q => by cases q) rfl ?_
    refine y_same (i := .aload_n 0) (len := 1) (r := (0, 0, 0, 0)) (pc' := 92) (ls' := [some (.inl (some 52)), some (zi xi), some (zi y3187), some (zi v3190), some (zi v3195), some (zi xn), none]) (st' := [.inl (some 52), zi v3195, zi y3202, zi v3190, .inl (some 52)]) (by decide +kernel) (fun k q => by cases q) rfl ?_
    refine y_get (j := 70) (len := 3) (r := (12, 33, 2, 1361)) (by decide +kernel) hg (t52 hg) at52 rfl rfl (g_r52 (f := 33) (T2 := 381) hg rfl (by decide)).1 ?_
    refine y_same (i := .aload_n 0) (len := 1) (r := (0, 0, 0, 0)) (pc' := 96) (ls' := [some (.inl (some 52)), some (zi xi), some (zi y3187), some (zi v3190), some (zi v3195), some (zi xn), none]) (st' := [.inl (some 52), .inl (some 381), zi v3195, zi y3202, zi v3190, .inl (some 52)]) (by decide +kernel) (fun k q => by cases q) rfl ?_
    refine y_get (j := 20) (len := 3) (r := (12, 9, 2, 1337)) (by decide +kernel) hg (t52 hg) at52 rfl rfl (g_r52 (f := 9) (T2 := 55) hg rfl (by decide)).1 ?_
    refine y_same (i := .iload_n 2) (len := 1) (r := (0, 0, 0, 0)) (pc' := 100) (ls' := [some (.inl (some 52)), some (zi xi), some (zi y3187), some (zi v3190), some (zi v3195), some (zi xn), none]) (st' := [zi y3187, .inl (some 55), .inl (some 381), zi v3195, zi y3202, zi v3190, .inl (some 52)]) (by decide +kernel) (fun k q => by cases q) rfl ?_
    refine y_ic (c := 3) (len := 1) (r := (0, 0, 0, 0)) (by decide +kernel) (by decide) (fun y3203 hy3203 => ?_)
    refine y_add (len := 1) (r := (0, 0, 0, 0)) (by decide +kernel) (by omega) (by omega) (fun y3204 hy3204 => ?_)
    refine y_ial (i := ((2 + 4 * k) + 3)) (len := 1) (r := (0, 0, 0, 0)) (by decide +kernel) hg (tv55 hg) av55 (by omega) g3z ?_
    obtain ⟨v3205, hv3206, ev3205⟩ := tm ik.2.2.2.toNat (by omega) mn.2.2
    obtain ⟨X3207, eX3207⟩ : ∃ X, f ik.2.2.2.toNat = X := ⟨_, rfl⟩
    have bX3207 : X3207 ≤ mx := by
      rw [← eX3207]
      exact hfb _ (by omega)
    rw [eX3207] at ev3205
    refine y_ial (i := ik.2.2.2.toNat) (len := 1) (r := (0, 0, 0, 0)) (by decide +kernel) hg (tu381 hg) at381 (by omega) hv3206 ?_
    refine y_cI (i := .invokevirtual 413) (len := 3) (r := (0, 246, 12, 1826)) (nL := 5) (k := 2) (n := 5) (hs := []) (args := [.inl (some 52), zi v3190, zi y3202, zi v3195, zi v3205]) (rest := []) (l0 := [some (.inl (some 52)), some (zi v3190), some (zi y3202), some (zi v3195), some (zi v3205)]) (by decide +kernel) (Or.inr (Or.inl ⟨_, rfl⟩)) rfl rfl rfl rfl (Nat.le_of_ble_eq_true rfl) (z52 hg) rfl (qI_le (by omega) (m_puts (d := 0) (w := X3192) (k9 := 1) (a := X3197) (b := X3207) (H := H) hg hp (by omega) (by show X3192 ≤ H.2.2.2; omega) (by show H.2.2.2 ≤ 31; omega) (by omega) (by decide) (by omega) (by omega) (by omega) (by omega))) (fun y3208 h3208 hRy3208 => ?_)
    obtain ⟨hg3208, F3208, hD3208⟩ := hRy3208
    rcases hD3208 with ⟨pr3208, pq3208, hy3208, hp3208⟩ | ⟨bd3208, hy3208, hp3208⟩
    ·
      refine y_rI (len := 1) (r := (0, 0, 0, 0)) (nL := 7) (k := 2) (n9 := 2) (hs := []) (by decide +kernel) rfl (zfit_b (by omega) (by omega)).2 ?_
      have eX : vX_ f ik = X3192 := eX3192
      have eY : vY_ f ik = X3197 := eX3197
      have eZ : vZ_ f ik = X3207 := eX3207
      refine ⟨hg3208, fun k j hC => (F3208 k j (by omega)), Or.inl ⟨?_, by omega, ?_⟩⟩
      · rw [okP_01 (by omega) hnt, eX]
        exact ⟨pr3208, pq3208⟩
      · unfold bld1
        rw [if_pos (show ik.1 ≤ 1 by omega), eX, eY, eZ, show ik.1 = 1 by omega]
        exact hp3208
    ·
      refine y_rI (len := 1) (r := (0, 0, 0, 0)) (nL := 7) (k := 2) (n9 := 2) (hs := []) (by decide +kernel) rfl (zfit_b (by omega) (by omega)).2 ?_
      have eX : vX_ f ik = X3192 := eX3192
      have eY : vY_ f ik = X3197 := eX3197
      refine ⟨hg3208, fun k j hC => (F3208 k j (by omega)), Or.inr ⟨?_, by omega⟩⟩
      rw [okP_01 (by omega) hnt, eX]
      rintro ⟨q8, q9⟩
      rcases bd3208 with q7 | q7
      · exact q8 q7
      · exact q7 q9
  ·
    refine y_sw (dflt := 146) (lo := 0) (hi := 2) (offs := #[27, 37, 59]) (off := 59) (pc' := 108) (len := 27) (r := (0, 0, 0, 0)) (by decide +kernel) (zswI (k := 2) (by omega) (by omega) (by omega) rfl) (by decide +kernel) ?_
    refine y_same (i := .iload 5) (len := 2) (r := (0, 0, 0, 0)) (pc' := 110) (ls' := [some (.inl (some 52)), some (zi xi), some (zi y3187), some (zi v3190), some (zi v3195), some (zi xn), none]) (st' := [zi xn]) (by decide +kernel) (fun k q => by cases q) rfl ?_
    rcases Decidable.em (xn.toInt ≠ 0) with q3209 | q3209
    ·
      refine y_iT (c := .ne) (off := 7) (pc' := 117) (len := 3) (r := (0, 0, 0, 0)) (by decide +kernel) (acmpT (c := .ne) (by show ¬ (_ = _); omega)) (by decide +kernel) ?_
      refine y_ic (c := 0) (len := 1) (r := (0, 0, 0, 0)) (by decide +kernel) (by decide) (fun y3210 hy3210 => ?_)
      refine y_same (i := .iload_n 3) (len := 1) (r := (0, 0, 0, 0)) (pc' := 119) (ls' := [some (.inl (some 52)), some (zi xi), some (zi y3187), some (zi v3190), some (zi v3195), some (zi xn), none]) (st' := [zi v3190, zi y3210]) (by decide +kernel) (fun k q => by cases q) rfl ?_
      refine y_same (i := .iload 4) (len := 2) (r := (0, 0, 0, 0)) (pc' := 121) (ls' := [some (.inl (some 52)), some (zi xi), some (zi y3187), some (zi v3190), some (zi v3195), some (zi xn), none]) (st' := [zi v3195, zi v3190, zi y3210]) (by decide +kernel) (fun k q => by cases q) rfl ?_
      rcases Decidable.em (v3190.toInt ≠ v3195.toInt) with q3211 | q3211
      ·
        refine y_cT (c := .ne) (off := 7) (pc' := 128) (len := 3) (r := (0, 0, 0, 0)) (by decide +kernel) (acmpT (c := .ne) (by show ¬ (_ = _); omega)) (by decide +kernel) ?_
        refine y_ic (c := 0) (len := 1) (r := (0, 0, 0, 0)) (by decide +kernel) (by decide) (fun y3212 hy3212 => ?_)
        refine y_cT (c := .eq) (off := 5) (pc' := 134) (len := 3) (r := (0, 0, 0, 0)) (by decide +kernel) (acmpT (c := .eq) (by show _ = _; omega)) (by decide +kernel) ?_
        refine y_same (i := .iload 5) (len := 2) (r := (0, 0, 0, 0)) (pc' := 136) (ls' := [some (.inl (some 52)), some (zi xi), some (zi y3187), some (zi v3190), some (zi v3195), some (zi xn), none]) (st' := [zi xn]) (by decide +kernel) (fun k q => by cases q) rfl ?_
        refine y_iT (c := .ne) (off := 5) (pc' := 141) (len := 3) (r := (0, 0, 0, 0)) (by decide +kernel) (acmpT (c := .ne) (by show ¬ (_ = _); omega)) (by decide +kernel) ?_
        refine y_same (i := .iload 5) (len := 2) (r := (0, 0, 0, 0)) (pc' := 143) (ls' := [some (.inl (some 52)), some (zi xi), some (zi y3187), some (zi v3190), some (zi v3195), some (zi xn), none]) (st' := [zi xn]) (by decide +kernel) (fun k q => by cases q) rfl ?_
        refine y_ic (c := 1) (len := 1) (r := (0, 0, 0, 0)) (by decide +kernel) (by decide) (fun y3213 hy3213 => ?_)
        rcases Decidable.em (xn.toInt ≠ y3213.toInt) with q3214 | q3214
        ·
          refine y_cT (c := .ne) (off := 8) (pc' := 152) (len := 3) (r := (0, 0, 0, 0)) (by decide +kernel) (acmpT (c := .ne) (by show ¬ (_ = _); omega)) (by decide +kernel) ?_
          refine y_same (i := .aload_n 0) (len := 1) (r := (0, 0, 0, 0)) (pc' := 153) (ls' := [some (.inl (some 52)), some (zi xi), some (zi y3187), some (zi v3190), some (zi v3195), some (zi xn), none]) (st' := [.inl (some 52)]) (by decide +kernel) (fun k q => by cases q) rfl ?_
          refine y_cI (i := .invokevirtual 417) (len := 3) (r := (0, 247, 12, 1830)) (nL := 1) (k := 1) (n := 1) (hs := []) (args := [.inl (some 52)]) (rest := []) (l0 := [some (.inl (some 52))]) (by decide +kernel) (Or.inr (Or.inl ⟨_, rfl⟩)) rfl rfl rfl rfl (Nat.le_of_ble_eq_true rfl) (z52 hg) rfl (qI_le (by omega) (m_new (d := 0) (H := H) hg hp (by omega) hnw)) (fun y3215 h3215 hRy3215 => ?_)
          obtain ⟨hg3215, ey3215, hp3215, F3215⟩ := hRy3215
          refine y_same (i := .istore 6) (len := 2) (r := (0, 0, 0, 0)) (pc' := 158) (ls' := [some (.inl (some 52)), some (zi xi), some (zi y3187), some (zi v3190), some (zi v3195), some (zi xn), some (zi y3215)]) (st' := []) (by decide +kernel) (fun k q => by cases q) rfl ?_
          refine y_same (i := .aload_n 0) (len := 1) (r := (0, 0, 0, 0)) (pc' := 159) (ls' := [some (.inl (some 52)), some (zi xi), some (zi y3187), some (zi v3190), some (zi v3195), some (zi xn), some (zi y3215)]) (st' := [.inl (some 52)]) (by decide +kernel) (fun k q => by cases q) rfl ?_
          refine y_same (i := .iload_n 3) (len := 1) (r := (0, 0, 0, 0)) (pc' := 160) (ls' := [some (.inl (some 52)), some (zi xi), some (zi y3187), some (zi v3190), some (zi v3195), some (zi xn), some (zi y3215)]) (st' := [zi v3190, .inl (some 52)]) (by decide +kernel) (fun k q => by cases q) rfl ?_
          refine y_ic (c := 0) (len := 1) (r := (0, 0, 0, 0)) (by decide +kernel) (by decide) (fun y3216 hy3216 => ?_)
          refine y_same (i := .iload 6) (len := 2) (r := (0, 0, 0, 0)) (pc' := 163) (ls' := [some (.inl (some 52)), some (zi xi), some (zi y3187), some (zi v3190), some (zi v3195), some (zi xn), some (zi y3215)]) (st' := [zi y3215, zi y3216, zi v3190, .inl (some 52)]) (by decide +kernel) (fun k q => by cases q) rfl ?_
          refine y_ic (c := 0) (len := 1) (r := (0, 0, 0, 0)) (by decide +kernel) (by decide) (fun y3217 hy3217 => ?_)
          refine y_cI (i := .invokevirtual 413) (len := 3) (r := (0, 246, 12, 1826)) (nL := 5) (k := 2) (n := 5) (hs := []) (args := [.inl (some 52), zi v3190, zi y3216, zi y3215, zi y3217]) (rest := []) (l0 := [some (.inl (some 52)), some (zi v3190), some (zi y3216), some (zi y3215), some (zi y3217)]) (by decide +kernel) (Or.inr (Or.inl ⟨_, rfl⟩)) rfl rfl rfl rfl (Nat.le_of_ble_eq_true rfl) (z52 hg3215) rfl (qI_le (by omega) (m_puts (d := 0) (w := X3192) (k9 := 0) (a := (H.2.2.2 + 1)) (b := 0) (H := (new1 H)) hg3215 hp3215 (by omega) (by show X3192 ≤ H.2.2.2 + 1; omega) (by show H.2.2.2 + 1 ≤ 31; omega) (by omega) (by decide) (by omega) (by omega) (by omega) (by omega))) (fun y3218 h3218 hRy3218 => ?_)
          obtain ⟨hg3218, F3218, hD3218⟩ := hRy3218
          rcases hD3218 with ⟨pr3218, pq3218, hy3218, hp3218⟩ | ⟨bd3218, hy3218, hp3218⟩
          ·
            refine y_iF (c := .eq) (off := 26) (len := 3) (r := (0, 0, 0, 0)) (by decide +kernel) (acmpF (c := .eq) (by show ¬ (_ = _); omega)) ?_
            refine y_same (i := .iload 5) (len := 2) (r := (0, 0, 0, 0)) (pc' := 172) (ls' := [some (.inl (some 52)), some (zi xi), some (zi y3187), some (zi v3190), some (zi v3195), some (zi xn), some (zi y3215)]) (st' := [zi xn]) (by decide +kernel) (fun k q => by cases q) rfl ?_
            refine y_ic (c := 1) (len := 1) (r := (0, 0, 0, 0)) (by decide +kernel) (by decide) (fun y3219 hy3219 => ?_)
            refine y_cF (c := .eq) (off := 16) (len := 3) (r := (0, 0, 0, 0)) (by decide +kernel) (acmpF (c := .eq) (by show ¬ (_ = _); omega)) ?_
            refine y_same (i := .aload_n 0) (len := 1) (r := (0, 0, 0, 0)) (pc' := 177) (ls' := [some (.inl (some 52)), some (zi xi), some (zi y3187), some (zi v3190), some (zi v3195), some (zi xn), some (zi y3215)]) (st' := [.inl (some 52)]) (by decide +kernel) (fun k q => by cases q) rfl ?_
            refine y_same (i := .iload 6) (len := 2) (r := (0, 0, 0, 0)) (pc' := 179) (ls' := [some (.inl (some 52)), some (zi xi), some (zi y3187), some (zi v3190), some (zi v3195), some (zi xn), some (zi y3215)]) (st' := [zi y3215, .inl (some 52)]) (by decide +kernel) (fun k q => by cases q) rfl ?_
            refine y_ic (c := 0) (len := 1) (r := (0, 0, 0, 0)) (by decide +kernel) (by decide) (fun y3220 hy3220 => ?_)
            refine y_same (i := .iload 4) (len := 2) (r := (0, 0, 0, 0)) (pc' := 182) (ls' := [some (.inl (some 52)), some (zi xi), some (zi y3187), some (zi v3190), some (zi v3195), some (zi xn), some (zi y3215)]) (st' := [zi v3195, zi y3220, zi y3215, .inl (some 52)]) (by decide +kernel) (fun k q => by cases q) rfl ?_
            refine y_ic (c := 0) (len := 1) (r := (0, 0, 0, 0)) (by decide +kernel) (by decide) (fun y3221 hy3221 => ?_)
            refine y_cI (i := .invokevirtual 413) (len := 3) (r := (0, 246, 12, 1826)) (nL := 5) (k := 2) (n := 5) (hs := []) (args := [.inl (some 52), zi y3215, zi y3220, zi v3195, zi y3221]) (rest := []) (l0 := [some (.inl (some 52)), some (zi y3215), some (zi y3220), some (zi v3195), some (zi y3221)]) (by decide +kernel) (Or.inr (Or.inl ⟨_, rfl⟩)) rfl rfl rfl rfl (Nat.le_of_ble_eq_true rfl) (z52 hg3218) rfl (qI_le (by omega) (m_puts (d := 0) (w := (H.2.2.2 + 1)) (k9 := 0) (a := X3197) (b := 0) (H := (put1 (new1 H) X3192 0 (H.2.2.2 + 1) 0)) hg3218 hp3218 (by omega) (by show (H.2.2.2 + 1) ≤ H.2.2.2 + 1; omega) (by show H.2.2.2 + 1 ≤ 31; omega) (by omega) (by decide) (by omega) (by omega) (by omega) (by omega))) (fun y3222 h3222 hRy3222 => ?_)
            obtain ⟨hg3222, F3222, hD3222⟩ := hRy3222
            rcases hD3222 with ⟨pr3222, pq3222, hy3222, hp3222⟩ | ⟨bd3222, hy3222, hp3222⟩
            ·
              refine y_iF (c := .eq) (off := 7) (len := 3) (r := (0, 0, 0, 0)) (by decide +kernel) (acmpF (c := .eq) (by show ¬ (_ = _); omega)) ?_
              refine y_ic (c := 1) (len := 1) (r := (0, 0, 0, 0)) (by decide +kernel) (by decide) (fun y3223 hy3223 => ?_)
              refine y_goto (off := 4) (pc' := 194) (len := 3) (r := (0, 0, 0, 0)) (by decide +kernel) (by decide +kernel) ?_
              refine y_rI (len := 1) (r := (0, 0, 0, 0)) (nL := 7) (k := 2) (n9 := 2) (hs := []) (by decide +kernel) rfl (zfit_b (by omega) (by omega)).2 ?_
              have eX : vX_ f ik = X3192 := eX3192
              have eY : vY_ f ik = X3197 := eX3197
              refine ⟨hg3222, fun k j hC => ((F3222 k j (by omega)).trans ((F3218 k j (by omega)).trans (F3215 k j (by omega)))), Or.inl ⟨?_, by omega, ?_⟩⟩
              · rw [okP_23 (by omega) hnt, eX, eY]
                exact ⟨⟨fun _ => by omega, fun _ => by omega⟩, fun _ => ⟨pr3218, pq3218⟩⟩
              · unfold bld1
                rw [if_neg (show ¬ ik.1 ≤ 1 by omega), if_pos (show ik.1 = 2 by omega), if_neg (show ¬ n = 0 by omega), if_neg (show ¬ n = 1 by omega), eX, eY]
                exact hp3222
            ·
              refine y_iT (c := .eq) (off := 7) (pc' := 193) (len := 3) (r := (0, 0, 0, 0)) (by decide +kernel) (acmpT (c := .eq) (by show _ = _; omega)) (by decide +kernel) ?_
              refine y_ic (c := 0) (len := 1) (r := (0, 0, 0, 0)) (by decide +kernel) (by decide) (fun y3224 hy3224 => ?_)
              refine y_rI (len := 1) (r := (0, 0, 0, 0)) (nL := 7) (k := 2) (n9 := 2) (hs := []) (by decide +kernel) rfl (zfit_b (by omega) (by omega)).2 ?_
              have eX : vX_ f ik = X3192 := eX3192
              have eY : vY_ f ik = X3197 := eX3197
              exfalso
              rcases bd3222 with q7 | q7
              · omega
              · refine q7 ?_
                show (if H.2.2.2 + 1 = X3192 then _ else H.1 (H.2.2.2 + 1)) = -1
                rw [if_neg (by omega)]
                exact hnw
          ·
            refine y_iT (c := .eq) (off := 26) (pc' := 193) (len := 3) (r := (0, 0, 0, 0)) (by decide +kernel) (acmpT (c := .eq) (by show _ = _; omega)) (by decide +kernel) ?_
            refine y_ic (c := 0) (len := 1) (r := (0, 0, 0, 0)) (by decide +kernel) (by decide) (fun y3225 hy3225 => ?_)
            refine y_rI (len := 1) (r := (0, 0, 0, 0)) (nL := 7) (k := 2) (n9 := 2) (hs := []) (by decide +kernel) rfl (zfit_b (by omega) (by omega)).2 ?_
            have eX : vX_ f ik = X3192 := eX3192
            have eY : vY_ f ik = X3197 := eX3197
            refine ⟨hg3218, fun k j hC => ((F3218 k j (by omega)).trans (F3215 k j (by omega))), Or.inr ⟨?_, by omega⟩⟩
            rw [okP_23 (by omega) hnt, eX, eY]
            rintro ⟨q8, q9⟩
            have q6 := q9 (by omega)
            rcases bd3218 with q7 | q7
            · exact q6.1 q7
            · exact q7 q6.2
        ·
          refine y_cF (c := .ne) (off := 8) (len := 3) (r := (0, 0, 0, 0)) (by decide +kernel) (acmpF (c := .ne) (by show _ = _; omega)) ?_
          refine y_same (i := .iload 4) (len := 2) (r := (0, 0, 0, 0)) (pc' := 149) (ls' := [some (.inl (some 52)), some (zi xi), some (zi y3187), some (zi v3190), some (zi v3195), some (zi xn), none]) (st' := [zi v3195]) (by decide +kernel) (fun k q => by cases q) rfl ?_
          refine y_goto (off := 7) (pc' := 156) (len := 3) (r := (0, 0, 0, 0)) (by decide +kernel) (by decide +kernel) ?_
          refine y_same (i := .istore 6) (len := 2) (r := (0, 0, 0, 0)) (pc' := 158) (ls' := [some (.inl (some 52)), some (zi xi), some (zi y3187), some (zi v3190), some (zi v3195), some (zi xn), some (zi v3195)]) (st' := []) (by decide +kernel) (fun k q => by cases q) rfl ?_
          refine y_same (i := .aload_n 0) (len := 1) (r := (0, 0, 0, 0)) (pc' := 159) (ls' := [some (.inl (some 52)), some (zi xi), some (zi y3187), some (zi v3190), some (zi v3195), some (zi xn), some (zi v3195)]) (st' := [.inl (some 52)]) (by decide +kernel) (fun k q => by cases q) rfl ?_
          refine y_same (i := .iload_n 3) (len := 1) (r := (0, 0, 0, 0)) (pc' := 160) (ls' := [some (.inl (some 52)), some (zi xi), some (zi y3187), some (zi v3190), some (zi v3195), some (zi xn), some (zi v3195)]) (st' := [zi v3190, .inl (some 52)]) (by decide +kernel) (fun k q => by cases q) rfl ?_
          refine y_ic (c := 0) (len := 1) (r := (0, 0, 0, 0)) (by decide +kernel) (by decide) (fun y3226 hy3226 => ?_)
          refine y_same (i := .iload 6) (len := 2) (r := (0, 0, 0, 0)) (pc' := 163) (ls' := [some (.inl (some 52)), some (zi xi), some (zi y3187), some (zi v3190), some (zi v3195), some (zi xn), some (zi v3195)]) (st' := [zi v3195, zi y3226, zi v3190, .inl (some 52)]) (by decide +kernel) (fun k q => by cases q) rfl ?_
          refine y_ic (c := 0) (len := 1) (r := (0, 0, 0, 0)) (by decide +kernel) (by decide) (fun y3227 hy3227 => ?_)
          refine y_cI (i := .invokevirtual 413) (len := 3) (r := (0, 246, 12, 1826)) (nL := 5) (k := 2) (n := 5) (hs := []) (args := [.inl (some 52), zi v3190, zi y3226, zi v3195, zi y3227]) (rest := []) (l0 := [some (.inl (some 52)), some (zi v3190), some (zi y3226), some (zi v3195), some (zi y3227)]) (by decide +kernel) (Or.inr (Or.inl ⟨_, rfl⟩)) rfl rfl rfl rfl (Nat.le_of_ble_eq_true rfl) (z52 hg) rfl (qI_le (by omega) (m_puts (d := 0) (w := X3192) (k9 := 0) (a := X3197) (b := 0) (H := H) hg hp (by omega) (by show X3192 ≤ H.2.2.2; omega) (by show H.2.2.2 ≤ 31; omega) (by omega) (by decide) (by omega) (by omega) (by omega) (by omega))) (fun y3228 h3228 hRy3228 => ?_)
          obtain ⟨hg3228, F3228, hD3228⟩ := hRy3228
          rcases hD3228 with ⟨pr3228, pq3228, hy3228, hp3228⟩ | ⟨bd3228, hy3228, hp3228⟩
          ·
            refine y_iF (c := .eq) (off := 26) (len := 3) (r := (0, 0, 0, 0)) (by decide +kernel) (acmpF (c := .eq) (by show ¬ (_ = _); omega)) ?_
            refine y_same (i := .iload 5) (len := 2) (r := (0, 0, 0, 0)) (pc' := 172) (ls' := [some (.inl (some 52)), some (zi xi), some (zi y3187), some (zi v3190), some (zi v3195), some (zi xn), some (zi v3195)]) (st' := [zi xn]) (by decide +kernel) (fun k q => by cases q) rfl ?_
            refine y_ic (c := 1) (len := 1) (r := (0, 0, 0, 0)) (by decide +kernel) (by decide) (fun y3229 hy3229 => ?_)
            refine y_cT (c := .eq) (off := 16) (pc' := 189) (len := 3) (r := (0, 0, 0, 0)) (by decide +kernel) (acmpT (c := .eq) (by show _ = _; omega)) (by decide +kernel) ?_
            refine y_ic (c := 1) (len := 1) (r := (0, 0, 0, 0)) (by decide +kernel) (by decide) (fun y3230 hy3230 => ?_)
            refine y_goto (off := 4) (pc' := 194) (len := 3) (r := (0, 0, 0, 0)) (by decide +kernel) (by decide +kernel) ?_
            refine y_rI (len := 1) (r := (0, 0, 0, 0)) (nL := 7) (k := 2) (n9 := 2) (hs := []) (by decide +kernel) rfl (zfit_b (by omega) (by omega)).2 ?_
            have eX : vX_ f ik = X3192 := eX3192
            have eY : vY_ f ik = X3197 := eX3197
            refine ⟨hg3228, fun k j hC => (F3228 k j (by omega)), Or.inl ⟨?_, by omega, ?_⟩⟩
            · rw [okP_23 (by omega) hnt, eX, eY]
              exact ⟨⟨fun _ => by omega, fun _ => by omega⟩, fun _ => ⟨pr3228, pq3228⟩⟩
            · unfold bld1
              rw [if_neg (show ¬ ik.1 ≤ 1 by omega), if_pos (show ik.1 = 2 by omega), if_neg (show ¬ n = 0 by omega), if_pos (show n = 1 by omega), eX, eY]
              exact hp3228
          ·
            refine y_iT (c := .eq) (off := 26) (pc' := 193) (len := 3) (r := (0, 0, 0, 0)) (by decide +kernel) (acmpT (c := .eq) (by show _ = _; omega)) (by decide +kernel) ?_
            refine y_ic (c := 0) (len := 1) (r := (0, 0, 0, 0)) (by decide +kernel) (by decide) (fun y3231 hy3231 => ?_)
            refine y_rI (len := 1) (r := (0, 0, 0, 0)) (nL := 7) (k := 2) (n9 := 2) (hs := []) (by decide +kernel) rfl (zfit_b (by omega) (by omega)).2 ?_
            have eX : vX_ f ik = X3192 := eX3192
            have eY : vY_ f ik = X3197 := eX3197
            refine ⟨hg3228, fun k j hC => (F3228 k j (by omega)), Or.inr ⟨?_, by omega⟩⟩
            rw [okP_23 (by omega) hnt, eX, eY]
            rintro ⟨q8, q9⟩
            have q6 := q9 (by omega)
            rcases bd3228 with q7 | q7
            · exact q6.1 q7
            · exact q7 q6.2
      ·
        refine y_cF (c := .ne) (off := 7) (len := 3) (r := (0, 0, 0, 0)) (by decide +kernel) (acmpF (c := .ne) (by show _ = _; omega)) ?_
        refine y_ic (c := 1) (len := 1) (r := (0, 0, 0, 0)) (by decide +kernel) (by decide) (fun y3232 hy3232 => ?_)
        refine y_goto (off := 4) (pc' := 129) (len := 3) (r := (0, 0, 0, 0)) (by decide +kernel) (by decide +kernel) ?_
        refine y_cF (c := .eq) (off := 5) (len := 3) (r := (0, 0, 0, 0)) (by decide +kernel) (acmpF (c := .eq) (by show ¬ (_ = _); omega)) ?_
        refine y_ic (c := 0) (len := 1) (r := (0, 0, 0, 0)) (by decide +kernel) (by decide) (fun y3233 hy3233 => ?_)
        refine y_rI (len := 1) (r := (0, 0, 0, 0)) (nL := 7) (k := 2) (n9 := 2) (hs := []) (by decide +kernel) rfl (zfit_b (by omega) (by omega)).2 ?_
        have eX : vX_ f ik = X3192 := eX3192
        have eY : vY_ f ik = X3197 := eX3197
        refine ⟨hg, fun k j hC => rfl, Or.inr ⟨?_, by omega⟩⟩
        rw [okP_23 (by omega) hnt, eX, eY]
        rintro ⟨q8, q9⟩
        omega
    ·
      refine y_iF (c := .ne) (off := 7) (len := 3) (r := (0, 0, 0, 0)) (by decide +kernel) (acmpF (c := .ne) (by show _ = _; omega)) ?_
      refine y_ic (c := 1) (len := 1) (r := (0, 0, 0, 0)) (by decide +kernel) (by decide) (fun y3234 hy3234 => ?_)
      refine y_goto (off := 4) (pc' := 118) (len := 3) (r := (0, 0, 0, 0)) (by decide +kernel) (by decide +kernel) ?_
      refine y_same (i := .iload_n 3) (len := 1) (r := (0, 0, 0, 0)) (pc' := 119) (ls' := [some (.inl (some 52)), some (zi xi), some (zi y3187), some (zi v3190), some (zi v3195), some (zi xn), none]) (st' := [zi v3190, zi y3234]) (by decide +kernel) (fun k q => by cases q) rfl ?_
      refine y_same (i := .iload 4) (len := 2) (r := (0, 0, 0, 0)) (pc' := 121) (ls' := [some (.inl (some 52)), some (zi xi), some (zi y3187), some (zi v3190), some (zi v3195), some (zi xn), none]) (st' := [zi v3195, zi v3190, zi y3234]) (by decide +kernel) (fun k q => by cases q) rfl ?_
      rcases Decidable.em (v3190.toInt ≠ v3195.toInt) with q3235 | q3235
      ·
        refine y_cT (c := .ne) (off := 7) (pc' := 128) (len := 3) (r := (0, 0, 0, 0)) (by decide +kernel) (acmpT (c := .ne) (by show ¬ (_ = _); omega)) (by decide +kernel) ?_
        refine y_ic (c := 0) (len := 1) (r := (0, 0, 0, 0)) (by decide +kernel) (by decide) (fun y3236 hy3236 => ?_)
        refine y_cF (c := .eq) (off := 5) (len := 3) (r := (0, 0, 0, 0)) (by decide +kernel) (acmpF (c := .eq) (by show ¬ (_ = _); omega)) ?_
        refine y_ic (c := 0) (len := 1) (r := (0, 0, 0, 0)) (by decide +kernel) (by decide) (fun y3237 hy3237 => ?_)
        refine y_rI (len := 1) (r := (0, 0, 0, 0)) (nL := 7) (k := 2) (n9 := 2) (hs := []) (by decide +kernel) rfl (zfit_b (by omega) (by omega)).2 ?_
        have eX : vX_ f ik = X3192 := eX3192
        have eY : vY_ f ik = X3197 := eX3197
        refine ⟨hg, fun k j hC => rfl, Or.inr ⟨?_, by omega⟩⟩
        rw [okP_23 (by omega) hnt, eX, eY]
        rintro ⟨q8, q9⟩
        omega
      ·
        refine y_cF (c := .ne) (off := 7) (len := 3) (r := (0, 0, 0, 0)) (by decide +kernel) (acmpF (c := .ne) (by show _ = _; omega)) ?_
        refine y_ic (c := 1) (len := 1) (r := (0, 0, 0, 0)) (by decide +kernel) (by decide) (fun y3238 hy3238 => ?_)
        refine y_goto (off := 4) (pc' := 129) (len := 3) (r := (0, 0, 0, 0)) (by decide +kernel) (by decide +kernel) ?_
        refine y_cT (c := .eq) (off := 5) (pc' := 134) (len := 3) (r := (0, 0, 0, 0)) (by decide +kernel) (acmpT (c := .eq) (by show _ = _; omega)) (by decide +kernel) ?_
        refine y_same (i := .iload 5) (len := 2) (r := (0, 0, 0, 0)) (pc' := 136) (ls' := [some (.inl (some 52)), some (zi xi), some (zi y3187), some (zi v3190), some (zi v3195), some (zi xn), none]) (st' := [zi xn]) (by decide +kernel) (fun k q => by cases q) rfl ?_
        refine y_iF (c := .ne) (off := 5) (len := 3) (r := (0, 0, 0, 0)) (by decide +kernel) (acmpF (c := .ne) (by show _ = _; omega)) ?_
        refine y_ic (c := 1) (len := 1) (r := (0, 0, 0, 0)) (by decide +kernel) (by decide) (fun y3239 hy3239 => ?_)
        refine y_rI (len := 1) (r := (0, 0, 0, 0)) (nL := 7) (k := 2) (n9 := 2) (hs := []) (by decide +kernel) rfl (zfit_b (by omega) (by omega)).2 ?_
        have eX : vX_ f ik = X3192 := eX3192
        have eY : vY_ f ik = X3197 := eX3197
        refine ⟨hg, fun k j hC => rfl, Or.inl ⟨?_, by omega, ?_⟩⟩
        · rw [okP_23 (by omega) hnt, eX, eY]
          exact ⟨⟨fun _ => by omega, fun _ => by omega⟩, fun q9 => absurd (by omega) q9⟩
        · unfold bld1
          rw [if_neg (show ¬ ik.1 ≤ 1 by omega), if_pos (show ik.1 = 2 by omega), if_pos (show n = 0 by omega)]
          exact hp
  ·
    refine y_sw (dflt := 146) (lo := 0) (hi := 2) (offs := #[27, 37, 59]) (off := 146) (pc' := 195) (len := 27) (r := (0, 0, 0, 0)) (by decide +kernel) (zswO (by omega)) (by decide +kernel) ?_
    refine y_same (i := .iload 5) (len := 2) (r := (0, 0, 0, 0)) (pc' := 197) (ls' := [some (.inl (some 52)), some (zi xi), some (zi y3187), some (zi v3190), some (zi v3195), some (zi xn), none]) (st' := [zi xn]) (by decide +kernel) (fun k q => by cases q) rfl ?_
    rcases Decidable.em (xn.toInt ≠ 0) with q3240 | q3240
    ·
      refine y_iT (c := .ne) (off := 7) (pc' := 204) (len := 3) (r := (0, 0, 0, 0)) (by decide +kernel) (acmpT (c := .ne) (by show ¬ (_ = _); omega)) (by decide +kernel) ?_
      refine y_ic (c := 0) (len := 1) (r := (0, 0, 0, 0)) (by decide +kernel) (by decide) (fun y3241 hy3241 => ?_)
      refine y_same (i := .iload_n 3) (len := 1) (r := (0, 0, 0, 0)) (pc' := 206) (ls' := [some (.inl (some 52)), some (zi xi), some (zi y3187), some (zi v3190), some (zi v3195), some (zi xn), none]) (st' := [zi v3190, zi y3241]) (by decide +kernel) (fun k q => by cases q) rfl ?_
      rcases Decidable.em (v3190.toInt ≠ 0) with q3242 | q3242
      ·
        refine y_iT (c := .ne) (off := 7) (pc' := 213) (len := 3) (r := (0, 0, 0, 0)) (by decide +kernel) (acmpT (c := .ne) (by show ¬ (_ = _); omega)) (by decide +kernel) ?_
        refine y_ic (c := 0) (len := 1) (r := (0, 0, 0, 0)) (by decide +kernel) (by decide) (fun y3243 hy3243 => ?_)
        refine y_cT (c := .eq) (off := 5) (pc' := 219) (len := 3) (r := (0, 0, 0, 0)) (by decide +kernel) (acmpT (c := .eq) (by show _ = _; omega)) (by decide +kernel) ?_
        refine y_same (i := .iload 5) (len := 2) (r := (0, 0, 0, 0)) (pc' := 221) (ls' := [some (.inl (some 52)), some (zi xi), some (zi y3187), some (zi v3190), some (zi v3195), some (zi xn), none]) (st' := [zi xn]) (by decide +kernel) (fun k q => by cases q) rfl ?_
        refine y_iT (c := .ne) (off := 5) (pc' := 226) (len := 3) (r := (0, 0, 0, 0)) (by decide +kernel) (acmpT (c := .ne) (by show ¬ (_ = _); omega)) (by decide +kernel) ?_
        refine y_same (i := .iload 5) (len := 2) (r := (0, 0, 0, 0)) (pc' := 228) (ls' := [some (.inl (some 52)), some (zi xi), some (zi y3187), some (zi v3190), some (zi v3195), some (zi xn), none]) (st' := [zi xn]) (by decide +kernel) (fun k q => by cases q) rfl ?_
        refine y_ic (c := 1) (len := 1) (r := (0, 0, 0, 0)) (by decide +kernel) (by decide) (fun y3244 hy3244 => ?_)
        rcases Decidable.em (xn.toInt ≠ y3244.toInt) with q3245 | q3245
        ·
          refine y_cT (c := .ne) (off := 7) (pc' := 236) (len := 3) (r := (0, 0, 0, 0)) (by decide +kernel) (acmpT (c := .ne) (by show ¬ (_ = _); omega)) (by decide +kernel) ?_
          refine y_same (i := .aload_n 0) (len := 1) (r := (0, 0, 0, 0)) (pc' := 237) (ls' := [some (.inl (some 52)), some (zi xi), some (zi y3187), some (zi v3190), some (zi v3195), some (zi xn), none]) (st' := [.inl (some 52)]) (by decide +kernel) (fun k q => by cases q) rfl ?_
          refine y_cI (i := .invokevirtual 417) (len := 3) (r := (0, 247, 12, 1830)) (nL := 1) (k := 1) (n := 1) (hs := []) (args := [.inl (some 52)]) (rest := []) (l0 := [some (.inl (some 52))]) (by decide +kernel) (Or.inr (Or.inl ⟨_, rfl⟩)) rfl rfl rfl rfl (Nat.le_of_ble_eq_true rfl) (z52 hg) rfl (qI_le (by omega) (m_new (d := 0) (H := H) hg hp (by omega) hnw)) (fun y3246 h3246 hRy3246 => ?_)
          obtain ⟨hg3246, ey3246, hp3246, F3246⟩ := hRy3246
          refine y_same (i := .istore 6) (len := 2) (r := (0, 0, 0, 0)) (pc' := 242) (ls' := [some (.inl (some 52)), some (zi xi), some (zi y3187), some (zi v3190), some (zi v3195), some (zi xn), some (zi y3246)]) (st' := []) (by decide +kernel) (fun k q => by cases q) rfl ?_
          refine y_same (i := .aload_n 0) (len := 1) (r := (0, 0, 0, 0)) (pc' := 243) (ls' := [some (.inl (some 52)), some (zi xi), some (zi y3187), some (zi v3190), some (zi v3195), some (zi xn), some (zi y3246)]) (st' := [.inl (some 52)]) (by decide +kernel) (fun k q => by cases q) rfl ?_
          refine y_same (i := .iload_n 3) (len := 1) (r := (0, 0, 0, 0)) (pc' := 244) (ls' := [some (.inl (some 52)), some (zi xi), some (zi y3187), some (zi v3190), some (zi v3195), some (zi xn), some (zi y3246)]) (st' := [zi v3190, .inl (some 52)]) (by decide +kernel) (fun k q => by cases q) rfl ?_
          refine y_ic (c := 1) (len := 1) (r := (0, 0, 0, 0)) (by decide +kernel) (by decide) (fun y3247 hy3247 => ?_)
          refine y_same (i := .iload 5) (len := 2) (r := (0, 0, 0, 0)) (pc' := 247) (ls' := [some (.inl (some 52)), some (zi xi), some (zi y3187), some (zi v3190), some (zi v3195), some (zi xn), some (zi y3246)]) (st' := [zi xn, zi y3247, zi v3190, .inl (some 52)]) (by decide +kernel) (fun k q => by cases q) rfl ?_
          refine y_ic (c := 2) (len := 1) (r := (0, 0, 0, 0)) (by decide +kernel) (by decide) (fun y3248 hy3248 => ?_)
          rcases Decidable.em (xn.toInt ≠ y3248.toInt) with q3249 | q3249
          ·
            refine y_cT (c := .ne) (off := 8) (pc' := 256) (len := 3) (r := (0, 0, 0, 0)) (by decide +kernel) (acmpT (c := .ne) (by show ¬ (_ = _); omega)) (by decide +kernel) ?_
            refine y_ic (c := 0) (len := 1) (r := (0, 0, 0, 0)) (by decide +kernel) (by decide) (fun y3250 hy3250 => ?_)
            refine y_same (i := .iload 5) (len := 2) (r := (0, 0, 0, 0)) (pc' := 259) (ls' := [some (.inl (some 52)), some (zi xi), some (zi y3187), some (zi v3190), some (zi v3195), some (zi xn), some (zi y3246)]) (st' := [zi xn, zi y3250, zi y3247, zi v3190, .inl (some 52)]) (by decide +kernel) (fun k q => by cases q) rfl ?_
            refine y_ic (c := 3) (len := 1) (r := (0, 0, 0, 0)) (by decide +kernel) (by decide) (fun y3251 hy3251 => ?_)
            refine y_cF (c := .ne) (off := 8) (len := 3) (r := (0, 0, 0, 0)) (by decide +kernel) (acmpF (c := .ne) (by show _ = _; omega)) ?_
            refine y_same (i := .iload 6) (len := 2) (r := (0, 0, 0, 0)) (pc' := 265) (ls' := [some (.inl (some 52)), some (zi xi), some (zi y3187), some (zi v3190), some (zi v3195), some (zi xn), some (zi y3246)]) (st' := [zi y3246, zi y3250, zi y3247, zi v3190, .inl (some 52)]) (by decide +kernel) (fun k q => by cases q) rfl ?_
            refine y_goto (off := 4) (pc' := 269) (len := 3) (r := (0, 0, 0, 0)) (by decide +kernel) (by decide +kernel) ?_
            refine y_cI (i := .invokevirtual 413) (len := 3) (r := (0, 246, 12, 1826)) (nL := 5) (k := 2) (n := 5) (hs := []) (args := [.inl (some 52), zi v3190, zi y3247, zi y3250, zi y3246]) (rest := []) (l0 := [some (.inl (some 52)), some (zi v3190), some (zi y3247), some (zi y3250), some (zi y3246)]) (by decide +kernel) (Or.inr (Or.inl ⟨_, rfl⟩)) rfl rfl rfl rfl (Nat.le_of_ble_eq_true rfl) (z52 hg3246) rfl (qI_le (by omega) (m_puts (d := 0) (w := X3192) (k9 := 1) (a := 0) (b := (H.2.2.2 + 1)) (H := (new1 H)) hg3246 hp3246 (by omega) (by show X3192 ≤ H.2.2.2 + 1; omega) (by show H.2.2.2 + 1 ≤ 31; omega) (by omega) (by decide) (by omega) (by omega) (by omega) (by omega))) (fun y3252 h3252 hRy3252 => ?_)
            obtain ⟨hg3252, F3252, hD3252⟩ := hRy3252
            rcases hD3252 with ⟨pr3252, pq3252, hy3252, hp3252⟩ | ⟨bd3252, hy3252, hp3252⟩
            ·
              refine y_iF (c := .eq) (off := 25) (len := 3) (r := (0, 0, 0, 0)) (by decide +kernel) (acmpF (c := .eq) (by show ¬ (_ = _); omega)) ?_
              refine y_same (i := .iload 5) (len := 2) (r := (0, 0, 0, 0)) (pc' := 277) (ls' := [some (.inl (some 52)), some (zi xi), some (zi y3187), some (zi v3190), some (zi v3195), some (zi xn), some (zi y3246)]) (st' := [zi xn]) (by decide +kernel) (fun k q => by cases q) rfl ?_
              refine y_ic (c := 1) (len := 1) (r := (0, 0, 0, 0)) (by decide +kernel) (by decide) (fun y3253 hy3253 => ?_)
              refine y_cF (c := .eq) (off := 15) (len := 3) (r := (0, 0, 0, 0)) (by decide +kernel) (acmpF (c := .eq) (by show ¬ (_ = _); omega)) ?_
              refine y_same (i := .aload_n 0) (len := 1) (r := (0, 0, 0, 0)) (pc' := 282) (ls' := [some (.inl (some 52)), some (zi xi), some (zi y3187), some (zi v3190), some (zi v3195), some (zi xn), some (zi y3246)]) (st' := [.inl (some 52)]) (by decide +kernel) (fun k q => by cases q) rfl ?_
              refine y_same (i := .iload 6) (len := 2) (r := (0, 0, 0, 0)) (pc' := 284) (ls' := [some (.inl (some 52)), some (zi xi), some (zi y3187), some (zi v3190), some (zi v3195), some (zi xn), some (zi y3246)]) (st' := [zi y3246, .inl (some 52)]) (by decide +kernel) (fun k q => by cases q) rfl ?_
              refine y_ic (c := 1) (len := 1) (r := (0, 0, 0, 0)) (by decide +kernel) (by decide) (fun y3254 hy3254 => ?_)
              refine y_ic (c := 0) (len := 1) (r := (0, 0, 0, 0)) (by decide +kernel) (by decide) (fun y3255 hy3255 => ?_)
              refine y_ic (c := 0) (len := 1) (r := (0, 0, 0, 0)) (by decide +kernel) (by decide) (fun y3256 hy3256 => ?_)
              refine y_cI (i := .invokevirtual 413) (len := 3) (r := (0, 246, 12, 1826)) (nL := 5) (k := 2) (n := 5) (hs := []) (args := [.inl (some 52), zi y3246, zi y3254, zi y3255, zi y3256]) (rest := []) (l0 := [some (.inl (some 52)), some (zi y3246), some (zi y3254), some (zi y3255), some (zi y3256)]) (by decide +kernel) (Or.inr (Or.inl ⟨_, rfl⟩)) rfl rfl rfl rfl (Nat.le_of_ble_eq_true rfl) (z52 hg3252) rfl (qI_le (by omega) (m_puts (d := 0) (w := (H.2.2.2 + 1)) (k9 := 1) (a := 0) (b := 0) (H := (put1 (new1 H) X3192 1 0 (H.2.2.2 + 1))) hg3252 hp3252 (by omega) (by show (H.2.2.2 + 1) ≤ H.2.2.2 + 1; omega) (by show H.2.2.2 + 1 ≤ 31; omega) (by omega) (by decide) (by omega) (by omega) (by omega) (by omega))) (fun y3257 h3257 hRy3257 => ?_)
              obtain ⟨hg3257, F3257, hD3257⟩ := hRy3257
              rcases hD3257 with ⟨pr3257, pq3257, hy3257, hp3257⟩ | ⟨bd3257, hy3257, hp3257⟩
              ·
                refine y_iF (c := .eq) (off := 7) (len := 3) (r := (0, 0, 0, 0)) (by decide +kernel) (acmpF (c := .eq) (by show ¬ (_ = _); omega)) ?_
                refine y_ic (c := 1) (len := 1) (r := (0, 0, 0, 0)) (by decide +kernel) (by decide) (fun y3258 hy3258 => ?_)
                refine y_goto (off := 4) (pc' := 298) (len := 3) (r := (0, 0, 0, 0)) (by decide +kernel) (by decide +kernel) ?_
                refine y_rI (len := 1) (r := (0, 0, 0, 0)) (nL := 7) (k := 2) (n9 := 2) (hs := []) (by decide +kernel) rfl (zfit_b (by omega) (by omega)).2 ?_
                have eX : vX_ f ik = X3192 := eX3192
                have eY : vY_ f ik = X3197 := eX3197
                have eY0 : X3197 = 0 := by
                  rw [← eX3197, htz (by omega)]
                  exact hf0
                refine ⟨hg3257, fun k j hC => ((F3257 k j (by omega)).trans ((F3252 k j (by omega)).trans (F3246 k j (by omega)))), Or.inl ⟨?_, by omega, ?_⟩⟩
                · rw [okP_23 (by omega) hnt, eX, eY]
                  exact ⟨⟨fun _ => by omega, fun _ => by omega⟩, fun _ => ⟨pr3252, pq3252⟩⟩
                · unfold bld1
                  rw [if_neg (show ¬ ik.1 ≤ 1 by omega), if_neg (show ¬ ik.1 = 2 by omega), if_neg (show ¬ n = 0 by omega), if_neg (show ¬ n = 1 by omega), eX, if_neg (show ¬ n = 2 by omega), if_neg (show ¬ n = 2 by omega)]
                  exact hp3257
              ·
                refine y_iT (c := .eq) (off := 7) (pc' := 297) (len := 3) (r := (0, 0, 0, 0)) (by decide +kernel) (acmpT (c := .eq) (by show _ = _; omega)) (by decide +kernel) ?_
                refine y_ic (c := 0) (len := 1) (r := (0, 0, 0, 0)) (by decide +kernel) (by decide) (fun y3259 hy3259 => ?_)
                refine y_rI (len := 1) (r := (0, 0, 0, 0)) (nL := 7) (k := 2) (n9 := 2) (hs := []) (by decide +kernel) rfl (zfit_b (by omega) (by omega)).2 ?_
                have eX : vX_ f ik = X3192 := eX3192
                have eY : vY_ f ik = X3197 := eX3197
                have eY0 : X3197 = 0 := by
                  rw [← eX3197, htz (by omega)]
                  exact hf0
                exfalso
                rcases bd3257 with q7 | q7
                · omega
                · refine q7 ?_
                  show (if H.2.2.2 + 1 = X3192 then _ else H.1 (H.2.2.2 + 1)) = -1
                  rw [if_neg (by omega)]
                  exact hnw
            ·
              refine y_iT (c := .eq) (off := 25) (pc' := 297) (len := 3) (r := (0, 0, 0, 0)) (by decide +kernel) (acmpT (c := .eq) (by show _ = _; omega)) (by decide +kernel) ?_
              refine y_ic (c := 0) (len := 1) (r := (0, 0, 0, 0)) (by decide +kernel) (by decide) (fun y3260 hy3260 => ?_)
              refine y_rI (len := 1) (r := (0, 0, 0, 0)) (nL := 7) (k := 2) (n9 := 2) (hs := []) (by decide +kernel) rfl (zfit_b (by omega) (by omega)).2 ?_
              have eX : vX_ f ik = X3192 := eX3192
              have eY : vY_ f ik = X3197 := eX3197
              have eY0 : X3197 = 0 := by
                rw [← eX3197, htz (by omega)]
                exact hf0
              refine ⟨hg3252, fun k j hC => ((F3252 k j (by omega)).trans (F3246 k j (by omega))), Or.inr ⟨?_, by omega⟩⟩
              rw [okP_23 (by omega) hnt, eX, eY]
              rintro ⟨q8, q9⟩
              have q6 := q9 (by omega)
              rcases bd3252 with q7 | q7
              · exact q6.1 q7
              · exact q7 q6.2
          ·
            refine y_cF (c := .ne) (off := 8) (len := 3) (r := (0, 0, 0, 0)) (by decide +kernel) (acmpF (c := .ne) (by show _ = _; omega)) ?_
            refine y_same (i := .iload 6) (len := 2) (r := (0, 0, 0, 0)) (pc' := 253) (ls' := [some (.inl (some 52)), some (zi xi), some (zi y3187), some (zi v3190), some (zi v3195), some (zi xn), some (zi y3246)]) (st' := [zi y3246, zi y3247, zi v3190, .inl (some 52)]) (by decide +kernel) (fun k q => by cases q) rfl ?_
            refine y_goto (off := 4) (pc' := 257) (len := 3) (r := (0, 0, 0, 0)) (by decide +kernel) (by decide +kernel) ?_
            refine y_same (i := .iload 5) (len := 2) (r := (0, 0, 0, 0)) (pc' := 259) (ls' := [some (.inl (some 52)), some (zi xi), some (zi y3187), some (zi v3190), some (zi v3195), some (zi xn), some (zi y3246)]) (st' := [zi xn, zi y3246, zi y3247, zi v3190, .inl (some 52)]) (by decide +kernel) (fun k q => by cases q) rfl ?_
            refine y_ic (c := 3) (len := 1) (r := (0, 0, 0, 0)) (by decide +kernel) (by decide) (fun y3261 hy3261 => ?_)
            refine y_cT (c := .ne) (off := 8) (pc' := 268) (len := 3) (r := (0, 0, 0, 0)) (by decide +kernel) (acmpT (c := .ne) (by show ¬ (_ = _); omega)) (by decide +kernel) ?_
            refine y_ic (c := 0) (len := 1) (r := (0, 0, 0, 0)) (by decide +kernel) (by decide) (fun y3262 hy3262 => ?_)
            refine y_cI (i := .invokevirtual 413) (len := 3) (r := (0, 246, 12, 1826)) (nL := 5) (k := 2) (n := 5) (hs := []) (args := [.inl (some 52), zi v3190, zi y3247, zi y3246, zi y3262]) (rest := []) (l0 := [some (.inl (some 52)), some (zi v3190), some (zi y3247), some (zi y3246), some (zi y3262)]) (by decide +kernel) (Or.inr (Or.inl ⟨_, rfl⟩)) rfl rfl rfl rfl (Nat.le_of_ble_eq_true rfl) (z52 hg3246) rfl (qI_le (by omega) (m_puts (d := 0) (w := X3192) (k9 := 1) (a := (H.2.2.2 + 1)) (b := 0) (H := (new1 H)) hg3246 hp3246 (by omega) (by show X3192 ≤ H.2.2.2 + 1; omega) (by show H.2.2.2 + 1 ≤ 31; omega) (by omega) (by decide) (by omega) (by omega) (by omega) (by omega))) (fun y3263 h3263 hRy3263 => ?_)
            obtain ⟨hg3263, F3263, hD3263⟩ := hRy3263
            rcases hD3263 with ⟨pr3263, pq3263, hy3263, hp3263⟩ | ⟨bd3263, hy3263, hp3263⟩
            ·
              refine y_iF (c := .eq) (off := 25) (len := 3) (r := (0, 0, 0, 0)) (by decide +kernel) (acmpF (c := .eq) (by show ¬ (_ = _); omega)) ?_
              refine y_same (i := .iload 5) (len := 2) (r := (0, 0, 0, 0)) (pc' := 277) (ls' := [some (.inl (some 52)), some (zi xi), some (zi y3187), some (zi v3190), some (zi v3195), some (zi xn), some (zi y3246)]) (st' := [zi xn]) (by decide +kernel) (fun k q => by cases q) rfl ?_
              refine y_ic (c := 1) (len := 1) (r := (0, 0, 0, 0)) (by decide +kernel) (by decide) (fun y3264 hy3264 => ?_)
              refine y_cF (c := .eq) (off := 15) (len := 3) (r := (0, 0, 0, 0)) (by decide +kernel) (acmpF (c := .eq) (by show ¬ (_ = _); omega)) ?_
              refine y_same (i := .aload_n 0) (len := 1) (r := (0, 0, 0, 0)) (pc' := 282) (ls' := [some (.inl (some 52)), some (zi xi), some (zi y3187), some (zi v3190), some (zi v3195), some (zi xn), some (zi y3246)]) (st' := [.inl (some 52)]) (by decide +kernel) (fun k q => by cases q) rfl ?_
              refine y_same (i := .iload 6) (len := 2) (r := (0, 0, 0, 0)) (pc' := 284) (ls' := [some (.inl (some 52)), some (zi xi), some (zi y3187), some (zi v3190), some (zi v3195), some (zi xn), some (zi y3246)]) (st' := [zi y3246, .inl (some 52)]) (by decide +kernel) (fun k q => by cases q) rfl ?_
              refine y_ic (c := 1) (len := 1) (r := (0, 0, 0, 0)) (by decide +kernel) (by decide) (fun y3265 hy3265 => ?_)
              refine y_ic (c := 0) (len := 1) (r := (0, 0, 0, 0)) (by decide +kernel) (by decide) (fun y3266 hy3266 => ?_)
              refine y_ic (c := 0) (len := 1) (r := (0, 0, 0, 0)) (by decide +kernel) (by decide) (fun y3267 hy3267 => ?_)
              refine y_cI (i := .invokevirtual 413) (len := 3) (r := (0, 246, 12, 1826)) (nL := 5) (k := 2) (n := 5) (hs := []) (args := [.inl (some 52), zi y3246, zi y3265, zi y3266, zi y3267]) (rest := []) (l0 := [some (.inl (some 52)), some (zi y3246), some (zi y3265), some (zi y3266), some (zi y3267)]) (by decide +kernel) (Or.inr (Or.inl ⟨_, rfl⟩)) rfl rfl rfl rfl (Nat.le_of_ble_eq_true rfl) (z52 hg3263) rfl (qI_le (by omega) (m_puts (d := 0) (w := (H.2.2.2 + 1)) (k9 := 1) (a := 0) (b := 0) (H := (put1 (new1 H) X3192 1 (H.2.2.2 + 1) 0)) hg3263 hp3263 (by omega) (by show (H.2.2.2 + 1) ≤ H.2.2.2 + 1; omega) (by show H.2.2.2 + 1 ≤ 31; omega) (by omega) (by decide) (by omega) (by omega) (by omega) (by omega))) (fun y3268 h3268 hRy3268 => ?_)
              obtain ⟨hg3268, F3268, hD3268⟩ := hRy3268
              rcases hD3268 with ⟨pr3268, pq3268, hy3268, hp3268⟩ | ⟨bd3268, hy3268, hp3268⟩
              ·
                refine y_iF (c := .eq) (off := 7) (len := 3) (r := (0, 0, 0, 0)) (by decide +kernel) (acmpF (c := .eq) (by show ¬ (_ = _); omega)) ?_
                refine y_ic (c := 1) (len := 1) (r := (0, 0, 0, 0)) (by decide +kernel) (by decide) (fun y3269 hy3269 => ?_)
                refine y_goto (off := 4) (pc' := 298) (len := 3) (r := (0, 0, 0, 0)) (by decide +kernel) (by decide +kernel) ?_
                refine y_rI (len := 1) (r := (0, 0, 0, 0)) (nL := 7) (k := 2) (n9 := 2) (hs := []) (by decide +kernel) rfl (zfit_b (by omega) (by omega)).2 ?_
                have eX : vX_ f ik = X3192 := eX3192
                have eY : vY_ f ik = X3197 := eX3197
                have eY0 : X3197 = 0 := by
                  rw [← eX3197, htz (by omega)]
                  exact hf0
                refine ⟨hg3268, fun k j hC => ((F3268 k j (by omega)).trans ((F3263 k j (by omega)).trans (F3246 k j (by omega)))), Or.inl ⟨?_, by omega, ?_⟩⟩
                · rw [okP_23 (by omega) hnt, eX, eY]
                  exact ⟨⟨fun _ => by omega, fun _ => by omega⟩, fun _ => ⟨pr3263, pq3263⟩⟩
                · unfold bld1
                  rw [if_neg (show ¬ ik.1 ≤ 1 by omega), if_neg (show ¬ ik.1 = 2 by omega), if_neg (show ¬ n = 0 by omega), if_neg (show ¬ n = 1 by omega), eX, if_pos (show n = 2 by omega), if_pos (show n = 2 by omega)]
                  exact hp3268
              ·
                refine y_iT (c := .eq) (off := 7) (pc' := 297) (len := 3) (r := (0, 0, 0, 0)) (by decide +kernel) (acmpT (c := .eq) (by show _ = _; omega)) (by decide +kernel) ?_
                refine y_ic (c := 0) (len := 1) (r := (0, 0, 0, 0)) (by decide +kernel) (by decide) (fun y3270 hy3270 => ?_)
                refine y_rI (len := 1) (r := (0, 0, 0, 0)) (nL := 7) (k := 2) (n9 := 2) (hs := []) (by decide +kernel) rfl (zfit_b (by omega) (by omega)).2 ?_
                have eX : vX_ f ik = X3192 := eX3192
                have eY : vY_ f ik = X3197 := eX3197
                have eY0 : X3197 = 0 := by
                  rw [← eX3197, htz (by omega)]
                  exact hf0
                exfalso
                rcases bd3268 with q7 | q7
                · omega
                · refine q7 ?_
                  show (if H.2.2.2 + 1 = X3192 then _ else H.1 (H.2.2.2 + 1)) = -1
                  rw [if_neg (by omega)]
                  exact hnw
            ·
              refine y_iT (c := .eq) (off := 25) (pc' := 297) (len := 3) (r := (0, 0, 0, 0)) (by decide +kernel) (acmpT (c := .eq) (by show _ = _; omega)) (by decide +kernel) ?_
              refine y_ic (c := 0) (len := 1) (r := (0, 0, 0, 0)) (by decide +kernel) (by decide) (fun y3271 hy3271 => ?_)
              refine y_rI (len := 1) (r := (0, 0, 0, 0)) (nL := 7) (k := 2) (n9 := 2) (hs := []) (by decide +kernel) rfl (zfit_b (by omega) (by omega)).2 ?_
              have eX : vX_ f ik = X3192 := eX3192
              have eY : vY_ f ik = X3197 := eX3197
              have eY0 : X3197 = 0 := by
                rw [← eX3197, htz (by omega)]
                exact hf0
              refine ⟨hg3263, fun k j hC => ((F3263 k j (by omega)).trans (F3246 k j (by omega))), Or.inr ⟨?_, by omega⟩⟩
              rw [okP_23 (by omega) hnt, eX, eY]
              rintro ⟨q8, q9⟩
              have q6 := q9 (by omega)
              rcases bd3263 with q7 | q7
              · exact q6.1 q7
              · exact q7 q6.2
        ·
          refine y_cF (c := .ne) (off := 7) (len := 3) (r := (0, 0, 0, 0)) (by decide +kernel) (acmpF (c := .ne) (by show _ = _; omega)) ?_
          refine y_ic (c := 0) (len := 1) (r := (0, 0, 0, 0)) (by decide +kernel) (by decide) (fun y3272 hy3272 => ?_)
          refine y_goto (off := 7) (pc' := 240) (len := 3) (r := (0, 0, 0, 0)) (by decide +kernel) (by decide +kernel) ?_
          refine y_same (i := .istore 6) (len := 2) (r := (0, 0, 0, 0)) (pc' := 242) (ls' := [some (.inl (some 52)), some (zi xi), some (zi y3187), some (zi v3190), some (zi v3195), some (zi xn), some (zi y3272)]) (st' := []) (by decide +kernel) (fun k q => by cases q) rfl ?_
          refine y_same (i := .aload_n 0) (len := 1) (r := (0, 0, 0, 0)) (pc' := 243) (ls' := [some (.inl (some 52)), some (zi xi), some (zi y3187), some (zi v3190), some (zi v3195), some (zi xn), some (zi y3272)]) (st' := [.inl (some 52)]) (by decide +kernel) (fun k q => by cases q) rfl ?_
          refine y_same (i := .iload_n 3) (len := 1) (r := (0, 0, 0, 0)) (pc' := 244) (ls' := [some (.inl (some 52)), some (zi xi), some (zi y3187), some (zi v3190), some (zi v3195), some (zi xn), some (zi y3272)]) (st' := [zi v3190, .inl (some 52)]) (by decide +kernel) (fun k q => by cases q) rfl ?_
          refine y_ic (c := 1) (len := 1) (r := (0, 0, 0, 0)) (by decide +kernel) (by decide) (fun y3273 hy3273 => ?_)
          refine y_same (i := .iload 5) (len := 2) (r := (0, 0, 0, 0)) (pc' := 247) (ls' := [some (.inl (some 52)), some (zi xi), some (zi y3187), some (zi v3190), some (zi v3195), some (zi xn), some (zi y3272)]) (st' := [zi xn, zi y3273, zi v3190, .inl (some 52)]) (by decide +kernel) (fun k q => by cases q) rfl ?_
          refine y_ic (c := 2) (len := 1) (r := (0, 0, 0, 0)) (by decide +kernel) (by decide) (fun y3274 hy3274 => ?_)
          refine y_cT (c := .ne) (off := 8) (pc' := 256) (len := 3) (r := (0, 0, 0, 0)) (by decide +kernel) (acmpT (c := .ne) (by show ¬ (_ = _); omega)) (by decide +kernel) ?_
          refine y_ic (c := 0) (len := 1) (r := (0, 0, 0, 0)) (by decide +kernel) (by decide) (fun y3275 hy3275 => ?_)
          refine y_same (i := .iload 5) (len := 2) (r := (0, 0, 0, 0)) (pc' := 259) (ls' := [some (.inl (some 52)), some (zi xi), some (zi y3187), some (zi v3190), some (zi v3195), some (zi xn), some (zi y3272)]) (st' := [zi xn, zi y3275, zi y3273, zi v3190, .inl (some 52)]) (by decide +kernel) (fun k q => by cases q) rfl ?_
          refine y_ic (c := 3) (len := 1) (r := (0, 0, 0, 0)) (by decide +kernel) (by decide) (fun y3276 hy3276 => ?_)
          refine y_cT (c := .ne) (off := 8) (pc' := 268) (len := 3) (r := (0, 0, 0, 0)) (by decide +kernel) (acmpT (c := .ne) (by show ¬ (_ = _); omega)) (by decide +kernel) ?_
          refine y_ic (c := 0) (len := 1) (r := (0, 0, 0, 0)) (by decide +kernel) (by decide) (fun y3277 hy3277 => ?_)
          refine y_cI (i := .invokevirtual 413) (len := 3) (r := (0, 246, 12, 1826)) (nL := 5) (k := 2) (n := 5) (hs := []) (args := [.inl (some 52), zi v3190, zi y3273, zi y3275, zi y3277]) (rest := []) (l0 := [some (.inl (some 52)), some (zi v3190), some (zi y3273), some (zi y3275), some (zi y3277)]) (by decide +kernel) (Or.inr (Or.inl ⟨_, rfl⟩)) rfl rfl rfl rfl (Nat.le_of_ble_eq_true rfl) (z52 hg) rfl (qI_le (by omega) (m_puts (d := 0) (w := X3192) (k9 := 1) (a := 0) (b := 0) (H := H) hg hp (by omega) (by show X3192 ≤ H.2.2.2; omega) (by show H.2.2.2 ≤ 31; omega) (by omega) (by decide) (by omega) (by omega) (by omega) (by omega))) (fun y3278 h3278 hRy3278 => ?_)
          obtain ⟨hg3278, F3278, hD3278⟩ := hRy3278
          rcases hD3278 with ⟨pr3278, pq3278, hy3278, hp3278⟩ | ⟨bd3278, hy3278, hp3278⟩
          ·
            refine y_iF (c := .eq) (off := 25) (len := 3) (r := (0, 0, 0, 0)) (by decide +kernel) (acmpF (c := .eq) (by show ¬ (_ = _); omega)) ?_
            refine y_same (i := .iload 5) (len := 2) (r := (0, 0, 0, 0)) (pc' := 277) (ls' := [some (.inl (some 52)), some (zi xi), some (zi y3187), some (zi v3190), some (zi v3195), some (zi xn), some (zi y3272)]) (st' := [zi xn]) (by decide +kernel) (fun k q => by cases q) rfl ?_
            refine y_ic (c := 1) (len := 1) (r := (0, 0, 0, 0)) (by decide +kernel) (by decide) (fun y3279 hy3279 => ?_)
            refine y_cT (c := .eq) (off := 15) (pc' := 293) (len := 3) (r := (0, 0, 0, 0)) (by decide +kernel) (acmpT (c := .eq) (by show _ = _; omega)) (by decide +kernel) ?_
            refine y_ic (c := 1) (len := 1) (r := (0, 0, 0, 0)) (by decide +kernel) (by decide) (fun y3280 hy3280 => ?_)
            refine y_goto (off := 4) (pc' := 298) (len := 3) (r := (0, 0, 0, 0)) (by decide +kernel) (by decide +kernel) ?_
            refine y_rI (len := 1) (r := (0, 0, 0, 0)) (nL := 7) (k := 2) (n9 := 2) (hs := []) (by decide +kernel) rfl (zfit_b (by omega) (by omega)).2 ?_
            have eX : vX_ f ik = X3192 := eX3192
            have eY : vY_ f ik = X3197 := eX3197
            have eY0 : X3197 = 0 := by
              rw [← eX3197, htz (by omega)]
              exact hf0
            refine ⟨hg3278, fun k j hC => (F3278 k j (by omega)), Or.inl ⟨?_, by omega, ?_⟩⟩
            · rw [okP_23 (by omega) hnt, eX, eY]
              exact ⟨⟨fun _ => by omega, fun _ => by omega⟩, fun _ => ⟨pr3278, pq3278⟩⟩
            · unfold bld1
              rw [if_neg (show ¬ ik.1 ≤ 1 by omega), if_neg (show ¬ ik.1 = 2 by omega), if_neg (show ¬ n = 0 by omega), if_pos (show n = 1 by omega), eX]
              exact hp3278
          ·
            refine y_iT (c := .eq) (off := 25) (pc' := 297) (len := 3) (r := (0, 0, 0, 0)) (by decide +kernel) (acmpT (c := .eq) (by show _ = _; omega)) (by decide +kernel) ?_
            refine y_ic (c := 0) (len := 1) (r := (0, 0, 0, 0)) (by decide +kernel) (by decide) (fun y3281 hy3281 => ?_)
            refine y_rI (len := 1) (r := (0, 0, 0, 0)) (nL := 7) (k := 2) (n9 := 2) (hs := []) (by decide +kernel) rfl (zfit_b (by omega) (by omega)).2 ?_
            have eX : vX_ f ik = X3192 := eX3192
            have eY : vY_ f ik = X3197 := eX3197
            have eY0 : X3197 = 0 := by
              rw [← eX3197, htz (by omega)]
              exact hf0
            refine ⟨hg3278, fun k j hC => (F3278 k j (by omega)), Or.inr ⟨?_, by omega⟩⟩
            rw [okP_23 (by omega) hnt, eX, eY]
            rintro ⟨q8, q9⟩
            have q6 := q9 (by omega)
            rcases bd3278 with q7 | q7
            · exact q6.1 q7
            · exact q7 q6.2
      ·
        refine y_iF (c := .ne) (off := 7) (len := 3) (r := (0, 0, 0, 0)) (by decide +kernel) (acmpF (c := .ne) (by show _ = _; omega)) ?_
        refine y_ic (c := 1) (len := 1) (r := (0, 0, 0, 0)) (by decide +kernel) (by decide) (fun y3282 hy3282 => ?_)
        refine y_goto (off := 4) (pc' := 214) (len := 3) (r := (0, 0, 0, 0)) (by decide +kernel) (by decide +kernel) ?_
        refine y_cF (c := .eq) (off := 5) (len := 3) (r := (0, 0, 0, 0)) (by decide +kernel) (acmpF (c := .eq) (by show ¬ (_ = _); omega)) ?_
        refine y_ic (c := 0) (len := 1) (r := (0, 0, 0, 0)) (by decide +kernel) (by decide) (fun y3283 hy3283 => ?_)
        refine y_rI (len := 1) (r := (0, 0, 0, 0)) (nL := 7) (k := 2) (n9 := 2) (hs := []) (by decide +kernel) rfl (zfit_b (by omega) (by omega)).2 ?_
        have eX : vX_ f ik = X3192 := eX3192
        have eY : vY_ f ik = X3197 := eX3197
        have eY0 : X3197 = 0 := by
          rw [← eX3197, htz (by omega)]
          exact hf0
        refine ⟨hg, fun k j hC => rfl, Or.inr ⟨?_, by omega⟩⟩
        rw [okP_23 (by omega) hnt, eX, eY]
        rintro ⟨q8, q9⟩
        omega
    ·
      refine y_iF (c := .ne) (off := 7) (len := 3) (r := (0, 0, 0, 0)) (by decide +kernel) (acmpF (c := .ne) (by show _ = _; omega)) ?_
      refine y_ic (c := 1) (len := 1) (r := (0, 0, 0, 0)) (by decide +kernel) (by decide) (fun y3284 hy3284 => ?_)
      refine y_goto (off := 4) (pc' := 205) (len := 3) (r := (0, 0, 0, 0)) (by decide +kernel) (by decide +kernel) ?_
      refine y_same (i := .iload_n 3) (len := 1) (r := (0, 0, 0, 0)) (pc' := 206) (ls' := [some (.inl (some 52)), some (zi xi), some (zi y3187), some (zi v3190), some (zi v3195), some (zi xn), none]) (st' := [zi v3190, zi y3284]) (by decide +kernel) (fun k q => by cases q) rfl ?_
      rcases Decidable.em (v3190.toInt ≠ 0) with q3285 | q3285
      ·
        refine y_iT (c := .ne) (off := 7) (pc' := 213) (len := 3) (r := (0, 0, 0, 0)) (by decide +kernel) (acmpT (c := .ne) (by show ¬ (_ = _); omega)) (by decide +kernel) ?_
        refine y_ic (c := 0) (len := 1) (r := (0, 0, 0, 0)) (by decide +kernel) (by decide) (fun y3286 hy3286 => ?_)
        refine y_cF (c := .eq) (off := 5) (len := 3) (r := (0, 0, 0, 0)) (by decide +kernel) (acmpF (c := .eq) (by show ¬ (_ = _); omega)) ?_
        refine y_ic (c := 0) (len := 1) (r := (0, 0, 0, 0)) (by decide +kernel) (by decide) (fun y3287 hy3287 => ?_)
        refine y_rI (len := 1) (r := (0, 0, 0, 0)) (nL := 7) (k := 2) (n9 := 2) (hs := []) (by decide +kernel) rfl (zfit_b (by omega) (by omega)).2 ?_
        have eX : vX_ f ik = X3192 := eX3192
        have eY : vY_ f ik = X3197 := eX3197
        have eY0 : X3197 = 0 := by
          rw [← eX3197, htz (by omega)]
          exact hf0
        refine ⟨hg, fun k j hC => rfl, Or.inr ⟨?_, by omega⟩⟩
        rw [okP_23 (by omega) hnt, eX, eY]
        rintro ⟨q8, q9⟩
        omega
      ·
        refine y_iF (c := .ne) (off := 7) (len := 3) (r := (0, 0, 0, 0)) (by decide +kernel) (acmpF (c := .ne) (by show _ = _; omega)) ?_
        refine y_ic (c := 1) (len := 1) (r := (0, 0, 0, 0)) (by decide +kernel) (by decide) (fun y3288 hy3288 => ?_)
        refine y_goto (off := 4) (pc' := 214) (len := 3) (r := (0, 0, 0, 0)) (by decide +kernel) (by decide +kernel) ?_
        refine y_cT (c := .eq) (off := 5) (pc' := 219) (len := 3) (r := (0, 0, 0, 0)) (by decide +kernel) (acmpT (c := .eq) (by show _ = _; omega)) (by decide +kernel) ?_
        refine y_same (i := .iload 5) (len := 2) (r := (0, 0, 0, 0)) (pc' := 221) (ls' := [some (.inl (some 52)), some (zi xi), some (zi y3187), some (zi v3190), some (zi v3195), some (zi xn), none]) (st' := [zi xn]) (by decide +kernel) (fun k q => by cases q) rfl ?_
        refine y_iF (c := .ne) (off := 5) (len := 3) (r := (0, 0, 0, 0)) (by decide +kernel) (acmpF (c := .ne) (by show _ = _; omega)) ?_
        refine y_ic (c := 1) (len := 1) (r := (0, 0, 0, 0)) (by decide +kernel) (by decide) (fun y3289 hy3289 => ?_)
        refine y_rI (len := 1) (r := (0, 0, 0, 0)) (nL := 7) (k := 2) (n9 := 2) (hs := []) (by decide +kernel) rfl (zfit_b (by omega) (by omega)).2 ?_
        have eX : vX_ f ik = X3192 := eX3192
        have eY : vY_ f ik = X3197 := eX3197
        have eY0 : X3197 = 0 := by
          rw [← eX3197, htz (by omega)]
          exact hf0
        refine ⟨hg, fun k j hC => rfl, Or.inl ⟨?_, by omega, ?_⟩⟩
        · rw [okP_23 (by omega) hnt, eX, eY]
          exact ⟨⟨fun _ => by omega, fun _ => by omega⟩, fun q9 => absurd (by omega) q9⟩
        · unfold bld1
          rw [if_neg (show ¬ ik.1 ≤ 1 by omega), if_neg (show ¬ ik.1 = 2 by omega), if_pos (show n = 0 by omega)]
          exact hp
