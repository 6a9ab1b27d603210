/-! the class's small heaps: one is looked at -/
def rcC (h : zh) (ls : List Nat) (s : rcT) : Prop := ci_ h 42 6 s.1 ∧ ci_ h 42 7 s.2.1 ∧ kx_ h 42 8 (rN s) ∧ kx_ h 42 9 (rCe s) ∧ kx_ h 42 10 (rPa s) ∧ ∀ v, 1 ≤ v → v ≤ 5 → kx_ h 51 v (rPl ls s v)
theorem rcC_up {h h1 : zh} {ls : List Nat} {s : rcT} (c : rcC h ls s) (F : ∀ k j, ((k = 42 ∧ 5 < j) ∨ k = 51) → hsl h1 k j = hsl h k j) : rcC h1 ls s :=
  ⟨ci_up c.1 (F _ _ (by omega)), ci_up c.2.1 (F _ _ (by omega)), kx_up c.2.2.1 (F _ _ (by omega)), kx_up c.2.2.2.1 (F _ _ (by omega)), kx_up c.2.2.2.2.1 (F _ _ (by omega)), fun v h1 h2 => kx_up (c.2.2.2.2.2 v h1 h2) (F _ _ (by omega))⟩
theorem rN_n {s : rcT} (h : rN s = -1) : s.2.2 = none := by
  unfold rN at h
  split at h
  · assumption
  · omega
theorem rN_s {s : rcT} (h : rN s ≠ -1) : ∃ r, s.2.2 = some r := by
  unfold rN at h
  split at h
  · exact absurd rfl h
  · rename_i r e
    exact ⟨r, e⟩
theorem pl_l {d t S : Nat} {τ : List Nat} {h0 : zh} {f : tlT} {ls : List Nat} {R : zh → Prop} (lt0 : ltC h0 ls) (vc0 : vC_ h0 f) (hls : ∀ v ∈ ls, 1 ≤ v ∧ v ≤ 5) (hl5 : ls.length ≤ 5) (kk : ∀ (h : zh) (l2 : Option zv), hG τ h → (∀ v, 1 ≤ v → v ≤ 5 → kx_ h 51 v (if v ∈ ls then (f v : Int) else -1)) → (∀ k j, k ≠ 51 → hsl h k j = hsl h0 k j) → qX (d + 1) 130 104 [some (.inl (some 42)), some (.inl (some S)), l2] [] h t (rV R t)) : ∀ (n : Nat) (h : zh) (i : Nat) (xi : Int32), (hG τ h) → (∀ v, 1 ≤ v → v ≤ 5 → kx_ h 51 v (if v ∈ ls.take i then (f v : Int) else -1)) → (∀ k j, k ≠ 51 → hsl h k j = hsl h0 k j) → (xi.toInt = (i : Int)) → (i ≤ ls.length) → (ls.length < i + n) → qX (d + 1) 130 66 [some (.inl (some 42)), some (.inl (some S)), some (zi xi)] [] h t (rV R t) := by
  intro n
  induction n with
  | zero =>
    intro h i xi hg c1 F0 hxi hi hn
    exfalso
    omega
  | succ n ih =>
    intro h i xi hg c1 F0 hxi hi hn
    have lt : ltC h ls := ltC_up lt0 (F0 _ _ (by omega)) (fun j => F0 _ _ (by omega))
    have vc : vC_ h f := vC_up vc0 (fun j => F0 _ _ (by omega))
    obtain ⟨xm, hm, em⟩ := lt.1
    refine y_same (i := .iload_n 2) (len := 1) (r := (0, 0, 0, 0)) (pc' := 67) (ls' := [some (.inl (some 42)), some (.inl (some S)), some (zi xi)]) (st' := [zi xi]) (by decide +kernel) (fun k q => by cases q) rfl ?_
    refine y_same (i := .aload_n 0) (len := 1) (r := (0, 0, 0, 0)) (pc' := 68) (ls' := [some (.inl (some 42)), some (.inl (some S)), some (zi xi)]) (st' := [.inl (some 42), zi xi]) (by decide +kernel) (fun k q => by cases q) rfl ?_
    refine y_get (j := 28) (len := 3) (r := (10, 4, 0, 363)) (by decide +kernel) hg (tv42 hg) aw42 rfl rfl hm ?_
    rcases Decidable.em (xi.toInt ≥ xm.toInt) with q3450 | q3450
    ·
      refine y_cT (c := .ge) (off := 33) (pc' := 104) (len := 3) (r := (0, 0, 0, 0)) (by decide +kernel) (acmpT (c := .ge) (by show _ ≤ _; omega)) (by decide +kernel) ?_
      refine kk h _ hg (fun w h1 h2 => ?_) F0
      have c9 := c1 w h1 h2
      rw [List.take_of_length_le (show ls.length ≤ i by omega)] at c9
      exact c9
    ·
      refine y_cF (c := .ge) (off := 33) (len := 3) (r := (0, 0, 0, 0)) (by decide +kernel) (acmpF (c := .ge) (by show _ < _; omega)) ?_
      obtain ⟨v, hk⟩ : ∃ v, ls[i]? = some v := ⟨_, List.getElem?_eq_getElem (by omega)⟩
      obtain ⟨xv, hv, ev⟩ := lt.2 i v hk
      have hvb := hls v (List.mem_of_getElem? hk)
      refine y_same (i := .aload_n 0) (len := 1) (r := (0, 0, 0, 0)) (pc' := 75) (ls' := [some (.inl (some 42)), some (.inl (some S)), some (zi xi)]) (st' := [.inl (some 42)]) (by decide +kernel) (fun k q => by cases q) rfl ?_
      refine y_get (j := 25) (len := 3) (r := (10, 3, 2, 362)) (by decide +kernel) hg (tv42 hg) aw42 rfl rfl (g_rU (f := 3) (T2 := 51) hg (tv42 hg) aw42 rfl (by decide)) ?_
      refine y_same (i := .aload_n 0) (len := 1) (r := (0, 0, 0, 0)) (pc' := 79) (ls' := [some (.inl (some 42)), some (.inl (some S)), some (zi xi)]) (st' := [.inl (some 42), .inl (some 51)]) (by decide +kernel) (fun k q => by cases q) rfl ?_
      refine y_get (j := 18) (len := 3) (r := (10, 1, 2, 360)) (by decide +kernel) hg (tv42 hg) aw42 rfl rfl (g_rU (f := 1) (T2 := 49) hg (tv42 hg) aw42 rfl (by decide)) ?_
      refine y_same (i := .iload_n 2) (len := 1) (r := (0, 0, 0, 0)) (pc' := 83) (ls' := [some (.inl (some 42)), some (.inl (some S)), some (zi xi)]) (st' := [zi xi, .inl (some 49), .inl (some 51)]) (by decide +kernel) (fun k q => by cases q) rfl ?_
      refine y_ial (i := i) (len := 1) (r := (0, 0, 0, 0)) (by decide +kernel) hg (tv49 hg) aw49 (by omega) hv ?_
      refine y_same (i := .aload_n 0) (len := 1) (r := (0, 0, 0, 0)) (pc' := 85) (ls' := [some (.inl (some 42)), some (.inl (some S)), some (zi xi)]) (st' := [.inl (some 42), zi xv, .inl (some 51)]) (by decide +kernel) (fun k q => by cases q) rfl ?_
      refine y_get (j := 12) (len := 3) (r := (10, 0, 2, 359)) (by decide +kernel) hg (tv42 hg) aw42 rfl rfl (g_rU (f := 0) (T2 := 43) hg (tv42 hg) aw42 rfl (by decide)) ?_
      refine y_same (i := .aload_n 0) (len := 1) (r := (0, 0, 0, 0)) (pc' := 89) (ls' := [some (.inl (some 42)), some (.inl (some S)), some (zi xi)]) (st' := [.inl (some 42), .inl (some 43), zi xv, .inl (some 51)]) (by decide +kernel) (fun k q => by cases q) rfl ?_
      refine y_get (j := 18) (len := 3) (r := (10, 1, 2, 360)) (by decide +kernel) hg (tv42 hg) aw42 rfl rfl (g_rU (f := 1) (T2 := 49) hg (tv42 hg) aw42 rfl (by decide)) ?_
      refine y_same (i := .iload_n 2) (len := 1) (r := (0, 0, 0, 0)) (pc' := 93) (ls' := [some (.inl (some 42)), some (.inl (some S)), some (zi xi)]) (st' := [zi xi, .inl (some 49), .inl (some 43), zi xv, .inl (some 51)]) (by decide +kernel) (fun k q => by cases q) rfl ?_
      refine y_ial (i := i) (len := 1) (r := (0, 0, 0, 0)) (by decide +kernel) hg (tv49 hg) aw49 (by omega) hv ?_
      refine y_cI (i := .invokevirtual 89) (len := 3) (r := (0, 11, 1, 1220)) (nL := 2) (k := 1) (n := 2) (hs := []) (args := [.inl (some 43), zi xv]) (rest := [zi xv, .inl (some 51)]) (l0 := [some (.inl (some 43)), some (zi xv)]) (by decide +kernel) (Or.inr (Or.inl ⟨_, rfl⟩)) rfl rfl rfl rfl (Nat.le_of_ble_eq_true rfl) (zO hg (tv43 hg) aw43 rfl) rfl (qI_le (by omega) (e_val (d := 0) (v := v) hg vc (by omega) (by omega))) (fun y3451 qy3451 hRy3451 => ?_)
      obtain ⟨rfl, ey3451⟩ := hRy3451
      refine y_ias (i := v) (len := 1) (r := (0, 0, 0, 0)) (by decide +kernel) hg (tv51 hg) aw51 rfl (by omega) (by omega) (sr1 (by omega)) (qin_full _).1 (qin_full _).2 (fun h3452 hg3452 hl3452 hs3452 ho3452 => ?_)
      refine y_inc (j := 2) (a := xi) (c := 1) (ls' := fun v => [some (.inl (some 42)), some (.inl (some S)), some v]) (len := 3) (r := (0, 0, 0, 0)) (by decide +kernel) rfl (fun _ => rfl) (by decide) (by omega) (by omega) (fun y3453 hy3453 => ?_)
      show qX (d + 1) 130 101 [some (.inl (some 42)), some (.inl (some S)), some (zi y3453)] [] h3452 t _
      refine y_goto (off := (-35)) (pc' := 66) (len := 3) (r := (0, 0, 0, 0)) (by decide +kernel) (by decide +kernel) ?_
      refine ih h3452 (i + 1) y3453 hg3452 (fun w h1 h2 => ?_) (fun k j hC => (ho3452 k j (by omega)).trans (F0 k j hC)) (by omega) (by omega) (by omega)
      have tk : ∀ w : Nat, w ∈ ls.take (i + 1) ↔ w ∈ ls.take i ∨ w = v := fun w => by
        rw [List.take_succ, hk]
        simp
      by_cases q9 : w = v
      · subst q9
        rw [if_pos ((tk w).mpr (Or.inr rfl))]
        exact ⟨_, hs3452, ey3451⟩
      · have c9 := kx_up (c1 w h1 h2) (ho3452 51 w (by omega))
        by_cases q8 : w ∈ ls.take i
        · rw [if_pos q8] at c9
          rw [if_pos ((tk w).mpr (Or.inl q8))]
          exact c9
        · rw [if_neg q8] at c9
          rw [if_neg (fun q7 => ((tk w).mp q7).elim q8 q9)]
          exact c9
theorem e_look {d t S : Nat} {τ : List Nat} {h : zh} {b : bsT} {f sh : tlT} {ls : List Nat} {s : rcT} (hg : hG τ h) (ty : tyS τ S) (hS : S + 4 < 42) (la : laS h S) (sd : sdC h S b.2) (ok1 : ∀ (j : Nat) (i : it4), b.2.1[j]? = some i → okI i) (ok2 : ∀ (j : Nat) (i : it4), b.2.2[j]? = some i → okI i) (hq5 : b.2.1.length ≤ 5) (vc : vC_ h f) (hfb : ∀ v, v ≤ 5 → f v ≤ 5) (hp : hpC h (bld_ f sh b.1.1 0 (hp0 f))) (hw : hpW (bld_ f sh b.1.1 0 (hp0 f))) (lt : ltC h ls) (hls : ∀ v ∈ ls, 1 ≤ v ∧ v ≤ 5) (hl5 : ls.length ≤ 5) (rc : rcC h ls s) (hs1 : s.1 ≤ 1000000) (hs2 : s.2.1 ≤ s.1) : qV (d + 6) 130 [some (.inl (some 42)), some (.inl (some S)), none] h t (fun h1 => hG τ h1 ∧ (∀ k j, (k ≠ 48 ∧ k ≠ 51 ∧ (k ≠ 43 ∨ j ≠ 5) ∧ (k ≠ 42 ∨ j < 6)) → hsl h1 k j = hsl h k j) ∧ rcC h1 ls (lok b f sh s)) := by
  obtain ⟨c1, c2, c3, c4, c5, c6⟩ := rc
  obtain ⟨x6, h6, e6⟩ := id c1
  obtain ⟨x7, h7, e7⟩ := id c2
  obtain ⟨x8, h8, e8⟩ := id c3
  obtain ⟨x9, h9, e9'⟩ := id c4
  obtain ⟨x10, h10, e10⟩ := id c5
  refine qV_of ?_
  refine y_same (i := .aload_n 0) (len := 1) (r := (0, 0, 0, 0)) (pc' := 1) (ls' := [some (.inl (some 42)), some (.inl (some S)), none]) (st' := [.inl (some 42)]) (by decide +kernel) (fun k q => by cases q) rfl ?_
  refine y_get (j := 12) (len := 3) (r := (10, 0, 2, 359)) (by decide +kernel) hg (tv42 hg) aw42 rfl rfl (g_rU (f := 0) (T2 := 43) hg (tv42 hg) aw42 rfl (by decide)) ?_
  refine y_same (i := .aload_n 1) (len := 1) (r := (0, 0, 0, 0)) (pc' := 5) (ls' := [some (.inl (some 42)), some (.inl (some S)), none]) (st' := [.inl (some S), .inl (some 43)]) (by decide +kernel) (fun k q => by cases q) rfl ?_
  refine y_cI (i := .invokevirtual 166) (len := 3) (r := (0, 18, 1, 1259)) (nL := 3) (k := 2) (n := 2) (hs := []) (args := [.inl (some 43), .inl (some S)]) (rest := []) (l0 := [some (.inl (some 43)), some (.inl (some S)), none]) (by decide +kernel) (Or.inr (Or.inl ⟨_, rfl⟩)) rfl rfl rfl rfl (Nat.le_of_ble_eq_true rfl) (zO hg (tv43 hg) aw43 rfl) rfl (qI_le (by omega) (e_isOf (d := 0) (q := b.2) (f := f) (H := bld_ f sh b.1.1 0 (hp0 f)) hg ty hS la sd ok1 ok2 hq5 vc hfb hp hw)) (fun y3454 h3454 hRy3454 => ?_)
  obtain ⟨hg3454, F3454, hD3454⟩ := hRy3454
  rcases hD3454 with ⟨hy3454, ft⟩ | ⟨hy3454, ft⟩
  ·
    refine y_iF (c := .eq) (off := 16) (len := 3) (r := (0, 0, 0, 0)) (by decide +kernel) (acmpF (c := .eq) (by show ¬ (_ = _); omega)) ?_
    refine y_same (i := .aload_n 0) (len := 1) (r := (0, 0, 0, 0)) (pc' := 12) (ls' := [some (.inl (some 42)), some (.inl (some S)), none]) (st' := [.inl (some 42)]) (by decide +kernel) (fun k q => by cases q) rfl ?_
    refine y_same (i := .dup) (len := 1) (r := (0, 0, 0, 0)) (pc' := 13) (ls' := [some (.inl (some 42)), some (.inl (some S)), none]) (st' := [.inl (some 42), .inl (some 42)]) (by decide +kernel) (fun k q => by cases q) rfl ?_
    have hv3455 := (F3454 42 7 (by omega)).trans h7
    refine y_get (j := 39) (len := 3) (r := (10, 7, 0, 368)) (by decide +kernel) hg3454 (tv42 hg3454) aw42 rfl rfl hv3455 ?_
    refine y_ic (c := 1) (len := 1) (r := (0, 0, 0, 0)) (by decide +kernel) (by decide) (fun y3456 hy3456 => ?_)
    refine y_add (len := 1) (r := (0, 0, 0, 0)) (by decide +kernel) (by omega) (by omega) (fun y3457 hy3457 => ?_)
    refine y_put (j := 39) (lo := (-2147483648)) (hi := 2147483647) (len := 3) (r := (10, 7, 0, 368)) (by decide +kernel) hg3454 (tv42 hg3454) aw42 rfl rfl (by decide) rfl (qin_full _).1 (qin_full _).2 rfl (fun h3458 hg3458 hl3458 hs3458 ho3458 => ?_)
    have ho3458 : hO 42 7 h3454 h3458 := ho3458
    have hs3458 : hsl h3458 42 7 = some (zi y3457) := hs3458
    refine y_goto (off := 83) (pc' := 104) (len := 3) (r := (0, 0, 0, 0)) (by decide +kernel) (by decide +kernel) ?_
    refine y_same (i := .aload_n 0) (len := 1) (r := (0, 0, 0, 0)) (pc' := 105) (ls' := [some (.inl (some 42)), some (.inl (some S)), none]) (st' := [.inl (some 42)]) (by decide +kernel) (fun k q => by cases q) rfl ?_
    refine y_same (i := .dup) (len := 1) (r := (0, 0, 0, 0)) (pc' := 106) (ls' := [some (.inl (some 42)), some (.inl (some S)), none]) (st' := [.inl (some 42), .inl (some 42)]) (by decide +kernel) (fun k q => by cases q) rfl ?_
    have hv3459 := (F3454 42 6 (by omega)).trans h6
    have hv3460 := (ho3458 42 6 (Or.inr (by omega))).trans hv3459
    refine y_get (j := 36) (len := 3) (r := (10, 6, 0, 366)) (by decide +kernel) hg3458 (tv42 hg3458) aw42 rfl rfl hv3460 ?_
    refine y_ic (c := 1) (len := 1) (r := (0, 0, 0, 0)) (by decide +kernel) (by decide) (fun y3461 hy3461 => ?_)
    refine y_add (len := 1) (r := (0, 0, 0, 0)) (by decide +kernel) (by omega) (by omega) (fun y3462 hy3462 => ?_)
    refine y_put (j := 36) (lo := (-2147483648)) (hi := 2147483647) (len := 3) (r := (10, 6, 0, 366)) (by decide +kernel) hg3458 (tv42 hg3458) aw42 rfl rfl (by decide) rfl (qin_full _).1 (qin_full _).2 rfl (fun h3463 hg3463 hl3463 hs3463 ho3463 => ?_)
    have ho3463 : hO 42 6 h3458 h3463 := ho3463
    have hs3463 : hsl h3463 42 6 = some (zi y3462) := hs3463
    refine y_rV (len := 1) (r := (0, 0, 0, 0)) (nL := 3) (n9 := 2) (hs := []) (by decide +kernel) rfl ?_
    have hv3464 := (ho3463 42 7 (Or.inr (by omega))).trans hs3458
    have e9 := lok_y (s := s) (b := b) (sh := sh) ft
    rw [e9]
    exact ⟨hg3463, fun k j hC => ((ho3463 k j (by omega)).trans ((ho3458 k j (by omega)).trans (F3454 k j (by omega)))), ⟨_, hs3463, by show _ = ((s.1 + 1 : Nat) : Int); omega⟩, ⟨_, hv3464, by show _ = ((s.2.1 + 1 : Nat) : Int); omega⟩, kx_up c3 (((ho3463 42 8 (by omega)).trans ((ho3458 42 8 (by omega)).trans (F3454 42 8 (by omega))))), kx_up c4 (((ho3463 42 9 (by omega)).trans ((ho3458 42 9 (by omega)).trans (F3454 42 9 (by omega))))), kx_up c5 (((ho3463 42 10 (by omega)).trans ((ho3458 42 10 (by omega)).trans (F3454 42 10 (by omega))))), fun v h1 h2 => kx_up (c6 v h1 h2) (((ho3463 51 v (by omega)).trans ((ho3458 51 v (by omega)).trans (F3454 51 v (by omega)))))⟩
  ·
    refine y_iT (c := .eq) (off := 16) (pc' := 24) (len := 3) (r := (0, 0, 0, 0)) (by decide +kernel) (acmpT (c := .eq) (by show _ = _; omega)) (by decide +kernel) ?_
    refine y_same (i := .aload_n 0) (len := 1) (r := (0, 0, 0, 0)) (pc' := 25) (ls' := [some (.inl (some 42)), some (.inl (some S)), none]) (st' := [.inl (some 42)]) (by decide +kernel) (fun k q => by cases q) rfl ?_
    have hv3465 := (F3454 42 8 (by omega)).trans h8
    refine y_get (j := 42) (len := 3) (r := (10, 8, 0, 370)) (by decide +kernel) hg3454 (tv42 hg3454) aw42 rfl rfl hv3465 ?_
    refine y_ic (c := (-1)) (len := 1) (r := (0, 0, 0, 0)) (by decide +kernel) (by decide) (fun y3466 hy3466 => ?_)
    rcases Decidable.em (x8.toInt ≠ y3466.toInt) with q3467 | q3467
    ·
      refine y_cT (c := .ne) (off := 75) (pc' := 104) (len := 3) (r := (0, 0, 0, 0)) (by decide +kernel) (acmpT (c := .ne) (by show ¬ (_ = _); omega)) (by decide +kernel) ?_
      refine y_same (i := .aload_n 0) (len := 1) (r := (0, 0, 0, 0)) (pc' := 105) (ls' := [some (.inl (some 42)), some (.inl (some S)), none]) (st' := [.inl (some 42)]) (by decide +kernel) (fun k q => by cases q) rfl ?_
      refine y_same (i := .dup) (len := 1) (r := (0, 0, 0, 0)) (pc' := 106) (ls' := [some (.inl (some 42)), some (.inl (some S)), none]) (st' := [.inl (some 42), .inl (some 42)]) (by decide +kernel) (fun k q => by cases q) rfl ?_
      have hv3468 := (F3454 42 6 (by omega)).trans h6
      refine y_get (j := 36) (len := 3) (r := (10, 6, 0, 366)) (by decide +kernel) hg3454 (tv42 hg3454) aw42 rfl rfl hv3468 ?_
      refine y_ic (c := 1) (len := 1) (r := (0, 0, 0, 0)) (by decide +kernel) (by decide) (fun y3469 hy3469 => ?_)
      refine y_add (len := 1) (r := (0, 0, 0, 0)) (by decide +kernel) (by omega) (by omega) (fun y3470 hy3470 => ?_)
      refine y_put (j := 36) (lo := (-2147483648)) (hi := 2147483647) (len := 3) (r := (10, 6, 0, 366)) (by decide +kernel) hg3454 (tv42 hg3454) aw42 rfl rfl (by decide) rfl (qin_full _).1 (qin_full _).2 rfl (fun h3471 hg3471 hl3471 hs3471 ho3471 => ?_)
      have ho3471 : hO 42 6 h3454 h3471 := ho3471
      have hs3471 : hsl h3471 42 6 = some (zi y3470) := hs3471
      refine y_rV (len := 1) (r := (0, 0, 0, 0)) (nL := 3) (n9 := 2) (hs := []) (by decide +kernel) rfl ?_
      have hv3472 := (F3454 42 7 (by omega)).trans h7
      have hv3473 := (ho3471 42 7 (Or.inr (by omega))).trans hv3472
      obtain ⟨r, es⟩ := rN_s (by omega : rN s ≠ -1)
      have e9 : lok b f sh s = (s.1 + 1, s.2.1, s.2.2) := by rw [lok_n ft, es]
      rw [e9]
      exact ⟨hg3471, fun k j hC => ((ho3471 k j (by omega)).trans (F3454 k j (by omega))), ⟨_, hs3471, by show _ = ((s.1 + 1 : Nat) : Int); omega⟩, ⟨_, hv3473, by show _ = ((s.2.1 : Nat) : Int); omega⟩, kx_up c3 (((ho3471 42 8 (by omega)).trans (F3454 42 8 (by omega)))), kx_up c4 (((ho3471 42 9 (by omega)).trans (F3454 42 9 (by omega)))), kx_up c5 (((ho3471 42 10 (by omega)).trans (F3454 42 10 (by omega)))), fun v h1 h2 => kx_up (c6 v h1 h2) (((ho3471 51 v (by omega)).trans (F3454 51 v (by omega))))⟩
    ·
      refine y_cF (c := .ne) (off := 75) (len := 3) (r := (0, 0, 0, 0)) (by decide +kernel) (acmpF (c := .ne) (by show _ = _; omega)) ?_
      refine y_same (i := .aload_n 0) (len := 1) (r := (0, 0, 0, 0)) (pc' := 33) (ls' := [some (.inl (some 42)), some (.inl (some S)), none]) (st' := [.inl (some 42)]) (by decide +kernel) (fun k q => by cases q) rfl ?_
      refine y_same (i := .aload_n 0) (len := 1) (r := (0, 0, 0, 0)) (pc' := 34) (ls' := [some (.inl (some 42)), some (.inl (some S)), none]) (st' := [.inl (some 42), .inl (some 42)]) (by decide +kernel) (fun k q => by cases q) rfl ?_
      have hv3474 := (F3454 42 6 (by omega)).trans h6
      refine y_get (j := 36) (len := 3) (r := (10, 6, 0, 366)) (by decide +kernel) hg3454 (tv42 hg3454) aw42 rfl rfl hv3474 ?_
      refine y_put (j := 42) (lo := (-2147483648)) (hi := 2147483647) (len := 3) (r := (10, 8, 0, 370)) (by decide +kernel) hg3454 (tv42 hg3454) aw42 rfl rfl (by decide) rfl (qin_full _).1 (qin_full _).2 rfl (fun h3475 hg3475 hl3475 hs3475 ho3475 => ?_)
      have ho3475 : hO 42 8 h3454 h3475 := ho3475
      have hs3475 : hsl h3475 42 8 = some (zi x6) := hs3475
      refine y_same (i := .aload_n 0) (len := 1) (r := (0, 0, 0, 0)) (pc' := 41) (ls' := [some (.inl (some 42)), some (.inl (some S)), none]) (st' := [.inl (some 42)]) (by decide +kernel) (fun k q => by cases q) rfl ?_
      refine y_same (i := .aload_n 0) (len := 1) (r := (0, 0, 0, 0)) (pc' := 42) (ls' := [some (.inl (some 42)), some (.inl (some S)), none]) (st' := [.inl (some 42), .inl (some 42)]) (by decide +kernel) (fun k q => by cases q) rfl ?_
      refine y_get (j := 12) (len := 3) (r := (10, 0, 2, 359)) (by decide +kernel) hg3475 (tv42 hg3475) aw42 rfl rfl (g_rU (f := 0) (T2 := 43) hg3475 (tv42 hg3475) aw42 rfl (by decide)) ?_
      refine y_ic (c := 0) (len := 1) (r := (0, 0, 0, 0)) (by decide +kernel) (by decide) (fun y3476 hy3476 => ?_)
      refine y_cI (i := .invokevirtual 169) (len := 3) (r := (0, 16, 1, 1280)) (nL := 4) (k := 1) (n := 2) (hs := []) (args := [.inl (some 43), zi y3476]) (rest := [.inl (some 42)]) (l0 := [some (.inl (some 43)), some (zi y3476), none, none]) (by decide +kernel) (Or.inr (Or.inl ⟨_, rfl⟩)) rfl rfl rfl rfl (Nat.le_of_ble_eq_true rfl) (zO hg3475 (tv43 hg3475) aw43 rfl) rfl (qI_le (by omega) (e_ch (d := 0) (k9 := 0) (H := bld_ f sh b.1.1 0 (hp0 f)) hg3475 (hpC_up hp (fun k j hC => ((ho3475 k j (by omega)).trans (F3454 k j (by omega))))) (by omega))) (fun y3477 qy3477 hRy3477 => ?_)
      obtain ⟨rfl, ey3477⟩ := hRy3477
      refine y_put (j := 45) (lo := (-2147483648)) (hi := 2147483647) (len := 3) (r := (10, 9, 0, 372)) (by decide +kernel) hg3475 (tv42 hg3475) aw42 rfl rfl (by decide) rfl (qin_full _).1 (qin_full _).2 rfl (fun h3478 hg3478 hl3478 hs3478 ho3478 => ?_)
      have ho3478 : hO 42 9 h3475 h3478 := ho3478
      have hs3478 : hsl h3478 42 9 = some (zi y3477) := hs3478
      refine y_same (i := .aload_n 0) (len := 1) (r := (0, 0, 0, 0)) (pc' := 53) (ls' := [some (.inl (some 42)), some (.inl (some S)), none]) (st' := [.inl (some 42)]) (by decide +kernel) (fun k q => by cases q) rfl ?_
      refine y_same (i := .aload_n 0) (len := 1) (r := (0, 0, 0, 0)) (pc' := 54) (ls' := [some (.inl (some 42)), some (.inl (some S)), none]) (st' := [.inl (some 42), .inl (some 42)]) (by decide +kernel) (fun k q => by cases q) rfl ?_
      refine y_get (j := 12) (len := 3) (r := (10, 0, 2, 359)) (by decide +kernel) hg3478 (tv42 hg3478) aw42 rfl rfl (g_rU (f := 0) (T2 := 43) hg3478 (tv42 hg3478) aw42 rfl (by decide)) ?_
      refine y_ic (c := 1) (len := 1) (r := (0, 0, 0, 0)) (by decide +kernel) (by decide) (fun y3479 hy3479 => ?_)
      refine y_cI (i := .invokevirtual 169) (len := 3) (r := (0, 16, 1, 1280)) (nL := 4) (k := 1) (n := 2) (hs := []) (args := [.inl (some 43), zi y3479]) (rest := [.inl (some 42)]) (l0 := [some (.inl (some 43)), some (zi y3479), none, none]) (by decide +kernel) (Or.inr (Or.inl ⟨_, rfl⟩)) rfl rfl rfl rfl (Nat.le_of_ble_eq_true rfl) (zO hg3478 (tv43 hg3478) aw43 rfl) rfl (qI_le (by omega) (e_ch (d := 0) (k9 := 1) (H := bld_ f sh b.1.1 0 (hp0 f)) hg3478 (hpC_up hp (fun k j hC => ((ho3478 k j (by omega)).trans ((ho3475 k j (by omega)).trans (F3454 k j (by omega)))))) (by omega))) (fun y3480 qy3480 hRy3480 => ?_)
      obtain ⟨rfl, ey3480⟩ := hRy3480
      refine y_put (j := 48) (lo := (-2147483648)) (hi := 2147483647) (len := 3) (r := (10, 10, 0, 374)) (by decide +kernel) hg3478 (tv42 hg3478) aw42 rfl rfl (by decide) rfl (qin_full _).1 (qin_full _).2 rfl (fun h3481 hg3481 hl3481 hs3481 ho3481 => ?_)
      have ho3481 : hO 42 10 h3478 h3481 := ho3481
      have hs3481 : hsl h3481 42 10 = some (zi y3480) := hs3481
      refine y_ic (c := 0) (len := 1) (r := (0, 0, 0, 0)) (by decide +kernel) (by decide) (fun y3482 hy3482 => ?_)
      refine y_same (i := .istore_n 2) (len := 1) (r := (0, 0, 0, 0)) (pc' := 66) (ls' := [some (.inl (some 42)), some (.inl (some S)), some (zi y3482)]) (st' := []) (by decide +kernel) (fun k q => by cases q) rfl ?_
      have hv3483 := (ho3478 42 8 (Or.inr (by omega))).trans hs3475
      have hv3484 := (ho3481 42 8 (Or.inr (by omega))).trans hv3483
      have hv3485 := (ho3481 42 9 (Or.inr (by omega))).trans hs3478
      have es := rN_n (by omega : rN s = -1)
      have e9 : lok b f sh s = (s.1 + 1, s.2.1, some (s.1, cntK (bld_ f sh b.1.1 0 (hp0 f)) 0, cntK (bld_ f sh b.1.1 0 (hp0 f)) 1, f)) := by
        rw [lok_n ft, es]
      rw [e9]
      refine pl_l (h0 := h3481) (ltC_up lt (((ho3481 42 4 (by omega)).trans ((ho3478 42 4 (by omega)).trans ((ho3475 42 4 (by omega)).trans (F3454 42 4 (by omega)))))) (fun j => ((ho3481 49 j (by omega)).trans ((ho3478 49 j (by omega)).trans ((ho3475 49 j (by omega)).trans (F3454 49 j (by omega))))))) (vC_up vc (fun j => ((ho3481 44 j (by omega)).trans ((ho3478 44 j (by omega)).trans ((ho3475 44 j (by omega)).trans (F3454 44 j (by omega))))))) hls hl5 (fun hz l2 gz cz Fz => ?_) (ls.length + 1) h3481 0 y3482 hg3481 (fun w h1 h2 => ?_) (fun k j _ => rfl) (by omega) (by omega) (by omega)
      ·
        have h6z : hsl hz 42 6 = some (zi x6) := (Fz 42 6 (by omega)).trans (((ho3481 42 6 (by omega)).trans ((ho3478 42 6 (by omega)).trans ((ho3475 42 6 (by omega)).trans (F3454 42 6 (by omega))))).trans h6)
        refine y_same (i := .aload_n 0) (len := 1) (r := (0, 0, 0, 0)) (pc' := 105) (ls' := [some (.inl (some 42)), some (.inl (some S)), l2]) (st' := [.inl (some 42)]) (by decide +kernel) (fun k q => by cases q) rfl ?_
        refine y_same (i := .dup) (len := 1) (r := (0, 0, 0, 0)) (pc' := 106) (ls' := [some (.inl (some 42)), some (.inl (some S)), l2]) (st' := [.inl (some 42), .inl (some 42)]) (by decide +kernel) (fun k q => by cases q) rfl ?_
        refine y_get (j := 36) (len := 3) (r := (10, 6, 0, 366)) (by decide +kernel) gz (tv42 gz) aw42 rfl rfl h6z ?_
        refine y_ic (c := 1) (len := 1) (r := (0, 0, 0, 0)) (by decide +kernel) (by decide) (fun y3486 hy3486 => ?_)
        refine y_add (len := 1) (r := (0, 0, 0, 0)) (by decide +kernel) (by omega) (by omega) (fun y3487 hy3487 => ?_)
        refine y_put (j := 36) (lo := (-2147483648)) (hi := 2147483647) (len := 3) (r := (10, 6, 0, 366)) (by decide +kernel) gz (tv42 gz) aw42 rfl rfl (by decide) rfl (qin_full _).1 (qin_full _).2 rfl (fun h3488 hg3488 hl3488 hs3488 ho3488 => ?_)
        have ho3488 : hO 42 6 hz h3488 := ho3488
        have hs3488 : hsl h3488 42 6 = some (zi y3487) := hs3488
        refine y_rV (len := 1) (r := (0, 0, 0, 0)) (nL := 3) (n9 := 2) (hs := []) (by decide +kernel) rfl ?_
        have n8 : hsl h3481 42 8 = _ := hv3484
        have n9 : hsl h3481 42 9 = _ := hv3485
        have n10 : hsl h3481 42 10 = _ := hs3481
        exact ⟨hg3488, fun k j hC => (ho3488 k j (by omega)).trans ((Fz k j (by omega)).trans (((ho3481 k j (by omega)).trans ((ho3478 k j (by omega)).trans ((ho3475 k j (by omega)).trans (F3454 k j (by omega))))))), ⟨_, hs3488, by show _ = ((s.1 + 1 : Nat) : Int); omega⟩, ci_up c2 ((ho3488 42 7 (by omega)).trans ((Fz 42 7 (by omega)).trans ((ho3481 42 7 (by omega)).trans ((ho3478 42 7 (by omega)).trans ((ho3475 42 7 (by omega)).trans (F3454 42 7 (by omega))))))), ⟨_, ((ho3488 42 8 (by omega)).trans (Fz 42 8 (by omega))).trans n8, by show _ = ((s.1 : Nat) : Int); omega⟩, ⟨_, ((ho3488 42 9 (by omega)).trans (Fz 42 9 (by omega))).trans n9, ey3477⟩, ⟨_, ((ho3488 42 10 (by omega)).trans (Fz 42 10 (by omega))).trans n10, ey3480⟩, fun v h1 h2 => kx_up (cz v h1 h2) ((ho3488 51 v (by omega)))⟩
      · have c9 := kx_up (c6 w h1 h2) (((ho3481 51 w (by omega)).trans ((ho3478 51 w (by omega)).trans ((ho3475 51 w (by omega)).trans (F3454 51 w (by omega))))))
        rw [show rPl ls s w = -1 by unfold rPl; rw [es]] at c9
        rw [if_neg (fun q9 => by cases q9)]
        exact c9
