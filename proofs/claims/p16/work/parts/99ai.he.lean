/-! the model's small heaps: one is weighed -/
noncomputable def wgh (b : bsT) (f : tlT) (s : rcT) (sh : tlT) : rcT := by
  classical
  exact if arS f b.1.2 ∧ bOK f sh b.1.1 then lok b f sh s else s
theorem wgh_y {b : bsT} {f sh : tlT} {s : rcT} (h : arS f b.1.2 ∧ bOK f sh b.1.1) : wgh b f s sh = lok b f sh s := by
  unfold wgh
  rw [if_pos h]
theorem wgh_n {b : bsT} {f sh : tlT} {s : rcT} (h : ¬ (arS f b.1.2 ∧ bOK f sh b.1.1)) : wgh b f s sh = s := by
  unfold wgh
  rw [if_neg h]
theorem wgh_b {b : bsT} {f sh : tlT} {s : rcT} (h : s.2.1 ≤ s.1) : (wgh b f s sh).1 ≤ s.1 + 1 ∧ (wgh b f s sh).2.1 ≤ (wgh b f s sh).1 := by
  by_cases q : arS f b.1.2 ∧ bOK f sh b.1.1
  · rw [wgh_y q]
    exact ⟨Nat.le_of_eq lok_1, lok_b h⟩
  · rw [wgh_n q]
    exact ⟨Nat.le_succ _, h⟩
theorem wf_b {b : bsT} {f : tlT} : ∀ {L : List tlT} {s : rcT}, s.2.1 ≤ s.1 → (L.foldl (wgh b f) s).1 ≤ s.1 + L.length ∧ (L.foldl (wgh b f) s).2.1 ≤ (L.foldl (wgh b f) s).1
  | [], _, h => ⟨Nat.le_refl _, h⟩
  | sh :: L, s, h => by
    obtain ⟨a, c⟩ := wgh_b (b := b) (f := f) (sh := sh) h
    obtain ⟨d, e⟩ := wf_b (b := b) (f := f) (L := L) c
    rw [List.foldl_cons, List.length_cons]
    exact ⟨by omega, e⟩
theorem wf_no {b : bsT} {f : tlT} (h : ¬ alw f b) : ∀ {L : List tlT} {s : rcT}, L.foldl (wgh b f) s = s
  | [], _ => rfl
  | sh :: L, s => by
    rw [List.foldl_cons, wgh_n (fun q => h ⟨q.1, q.2.1⟩)]
    exact wf_no h
theorem wf_yes {b : bsT} {f : tlT} (h : alw f b) : ∀ {L : List tlT} {s : rcT}, L.foldl (wgh b f) s = (L.filter (fun sh => decide (∀ k ∈ List.range b.1.1.length, loS b.1.1 f k ≤ sh k ∧ sh k ≤ hiS b.1.1 f k))).foldl (fun s sh => lok b f sh s) s
  | [], _ => rfl
  | sh :: L, s => by
    rw [List.foldl_cons]
    by_cases q : ∀ k ∈ List.range b.1.1.length, loS b.1.1 f k ≤ sh k ∧ sh k ≤ hiS b.1.1 f k
    · rw [wgh_y ⟨h.1, h.2, fun k hk => q k (List.mem_range.mpr hk)⟩, List.filter_cons_of_pos (by exact decide_eq_true q), List.foldl_cons]
      exact wf_yes h
    · rw [wgh_n (fun q9 => q (fun k hk => q9.2.2 k (List.mem_range.mp hk))), List.filter_cons_of_neg (by rw [decide_eq_true_eq]; exact q)]
      exact wf_yes h
def tqS (l : List it4) (k : Nat) : Nat := match l[k]? with
  | some i => tpI i
  | none => 0
theorem tqS_s {l : List it4} {k : Nat} {i : it4} (h : l[k]? = some i) : tqS l k = tpI i := by
  unfold tqS
  rw [h]
theorem tqS_3 {l : List it4} {k : Nat} : tqS l k ≤ 3 := by
  unfold tqS
  split
  · unfold tpI
    split
    · omega
    · split <;> omega
  · omega
def shA (l : List it4) (ks : List Nat) (g : tlT) : List tlT := en_ (fun _ => 0) (fun _ k => tqS l k) (fun m _ => m) ks 0 g
theorem shA_c {l : List it4} {k : Nat} {ks : List Nat} {g : tlT} : shA l (k :: ks) g = (List.range' 0 (tqS l k + 1)).flatMap (fun p => shA l ks (upd_ g k p)) := rfl
theorem hi_tp {l : List it4} {f : tlT} (pz : ∀ i ∈ l, pzi i) (k : Nat) : hiS l f k ≤ tqS l k := by
  cases e : l[k]? with
  | none =>
    unfold hiS
    rw [e]
    exact Nat.zero_le _
  | some i =>
    rw [hiS_s e, tqS_s e]
    have p9 := (pz i (List.mem_of_getElem? e)).1
    unfold hi1 tpI
    by_cases q : lo1 f i = 0
    · rw [if_pos q]
      exact Nat.zero_le _
    · rw [if_neg q]
      have h2 : 2 ≤ i.1 := Decidable.byContradiction (fun q9 => q (if_neg (fun q8 => q9 q8.1)))
      by_cases q2 : i.1 = 2
      · rw [if_pos q2, if_pos q2]
        exact Nat.le_refl _
      · rw [if_neg q2, if_neg q2, if_pos (by omega)]
        exact Nat.le_refl _
theorem wf_all {b : bsT} {f : tlT} {s : rcT} (pz : ∀ i ∈ b.1.1, pzi i) : (shA b.1.1 (List.range b.1.1.length) (fun _ => 0)).foldl (wgh b f) s = tel1 b s f := by
  unfold tel1
  by_cases q : alw f b
  · rw [if_pos q, wf_yes q]
    congr 1
    exact en_fil (lo := loS b.1.1 f) (hi := hiS b.1.1 f) (top := tqS b.1.1) (fun k => ⟨(loS_le k).1, hi_tp pz k⟩) List.nodup_range
  · rw [if_neg q]
    exact wf_no q
theorem shA_len {l : List it4} : ∀ {ks : List Nat} {g : tlT}, (shA l ks g).length ≤ 4 ^ ks.length
  | [], _ => Nat.le_refl _
  | k :: ks, g => by
    rw [shA_c, List.length_flatMap, List.length_cons, Nat.pow_succ]
    have key : ∀ (r : List Nat), (r.map (fun p => (shA l ks (upd_ g k p)).length)).sum ≤ r.length * 4 ^ ks.length := by
      intro r
      induction r with
      | nil => simp
      | cons p r ih2 =>
        rw [List.map_cons, List.sum_cons, List.length_cons, Nat.succ_mul]
        have := shA_len (l := l) (ks := ks) (g := upd_ g k p)
        omega
    have h1 := key (List.range' 0 (tqS l k + 1))
    rw [List.length_range'] at h1
    refine Nat.le_trans h1 ?_
    rw [Nat.mul_comm (4 ^ ks.length) 4]
    exact Nat.mul_le_mul_right _ (by have := tqS_3 (l := l) (k := k); omega)
def tF (h : zh) (ls : List Nat) (f : tlT) : Prop := ∀ v, v ≤ 5 → kx_ h 381 v (if v = 0 ∨ v ∈ ls then (f v : Int) else -1)
theorem tF_M {h : zh} {ls : List Nat} {f : tlT} (c : tF h ls f) : tM h ls f := fun v hv hm => by
  have := c v hv
  rw [if_pos (show v = 0 ∨ v ∈ ls from hm)] at this
  exact this
theorem tF_up {h h1 : zh} {ls : List Nat} {f : tlT} (c : tF h ls f) (e : ∀ j, hsl h1 381 j = hsl h 381 j) : tF h1 ls f := fun v hv => kx_up (c v hv) (e v)
def rcM (h : zh) (ls : List Nat) (s : rcT) : Prop := ci_ h 52 41 s.1 ∧ ci_ h 52 42 s.2.1 ∧ kx_ h 52 43 (rN s) ∧ (rN s ≠ -1 → kx_ h 52 44 (rCe s) ∧ kx_ h 52 45 (rPa s) ∧ ∀ v, 1 ≤ v → v ≤ 5 → kx_ h 387 v (rPl ls s v))
theorem rcM_up {h h1 : zh} {ls : List Nat} {s : rcT} (c : rcM h ls s) (F : ∀ k j, ((k = 52 ∧ 40 < j ∧ j < 46) ∨ k = 387) → hsl h1 k j = hsl h k j) : rcM h1 ls s :=
  ⟨ci_up c.1 (F _ _ (by omega)), ci_up c.2.1 (F _ _ (by omega)), kx_up c.2.2.1 (F _ _ (by omega)), fun q => ⟨kx_up (c.2.2.2 q).1 (F _ _ (by omega)), kx_up (c.2.2.2 q).2.1 (F _ _ (by omega)), fun v h1 h2 => kx_up ((c.2.2.2 q).2.2 v h1 h2) (F _ _ (by omega))⟩⟩
def mnB (ls : List Nat) (b : bsT) : Prop := (∀ i ∈ b.1.1, mnI ls i) ∧ (∀ i ∈ b.1.2, mnI ls i) ∧ (∀ i ∈ b.2.1, mnI ls i) ∧ ∀ i ∈ b.2.2, mnI ls i
theorem bOK_W {f sh : tlT} {l : List it4} (o : bOK f sh l) (ok : ∀ (j : Nat) (i : it4), l[j]? = some i → okI i) (hl : l.length ≤ 5) (hfb : ∀ v, v ≤ 5 → f v ≤ 5) (hf0 : f 0 = 0) : hpW (bld_ f sh l 0 (hp0 f)) ∧ mxv f ≤ (bld_ f sh l 0 (hp0 f)).2.2.2 := by
  have mb := mxv_b hfb
  refine bld_W (m := mxv f) (fun v hv => mxv_ge hv hf0) l 0 (hp0 f) (hp0_W (by omega)) (Nat.le_refl _) (by show mxv f + _ ≤ 10; omega) ok (fun j i hj hq => ?_)
  have hb := o.2 j (List.getElem?_eq_some_iff.mp hj).1
  rw [loS_s hj, hiS_s hj] at hb
  rw [Nat.zero_add] at hq
  have hs : hsS f i := hq.elim Or.inl (lo_hi hb.1 hb.2).2.2
  have h1 : vX_ f i ∈ own f l := List.mem_map.mpr ⟨i, List.mem_filter.mpr ⟨List.mem_of_getElem? hj, decide_eq_true hs⟩, rfl⟩
  rcases Nat.eq_zero_or_pos (vX_ f i) with q | q
  · rw [q] at h1
    exact absurd h1 (List.nodup_cons.mp o.1).1
  · exact q
theorem ri_l {d t : Nat} {τ : List Nat} {h0 : zh} {ls : List Nat} {f : tlT} (tf0 : tF h0 ls f) : ∀ (n : Nat) (h : zh) (i : Nat) (xi : Int32), (hG τ h) → (∀ v, 1 ≤ v → v < i → kx_ h 387 v (if v ∈ ls then (f v : Int) else -1)) → (∀ k j, k ≠ 387 → hsl h k j = hsl h0 k j) → (xi.toInt = (i : Int)) → (i ≤ 6) → (6 < i + n) → qX (d + 15) 256 75 [some (.inl (some 52)), some (zi xi)] [] h t (rV (fun h1 => hG τ h1 ∧ (∀ v, 1 ≤ v → v ≤ 5 → kx_ h1 387 v (if v ∈ ls then (f v : Int) else -1)) ∧ ∀ k j, k ≠ 387 → hsl h1 k j = hsl h0 k j) t) := by
  intro n
  induction n with
  | zero =>
    intro h i xi hg c1 F0 hxi hi hn
    exfalso
    omega
  | succ n ih =>
    intro h i xi hg c1 F0 hxi hi hn
    have tf : tF h ls f := tF_up tf0 (fun j => F0 _ _ (by omega))
    refine y_same (i := .iload_n 1) (len := 1) (r := (0, 0, 0, 0)) (pc' := 76) (ls' := [some (.inl (some 52)), some (zi xi)]) (st' := [zi xi]) (by decide +kernel) (fun k q => by cases q) rfl ?_
    refine y_ic (c := 5) (len := 1) (r := (0, 0, 0, 0)) (by decide +kernel) (by decide) (fun y3406 hy3406 => ?_)
    rcases Decidable.em (xi.toInt > y3406.toInt) with q3407 | q3407
    ·
      refine y_cT (c := .gt) (off := 21) (pc' := 98) (len := 3) (r := (0, 0, 0, 0)) (by decide +kernel) (acmpT (c := .gt) (by show _ < _; omega)) (by decide +kernel) ?_
      refine y_rV (len := 1) (r := (0, 0, 0, 0)) (nL := 2) (n9 := 1) (hs := []) (by decide +kernel) rfl ?_
      exact ⟨hg, (fun v h1 h2 => c1 v h1 (by omega)), F0⟩
    ·
      refine y_cF (c := .gt) (off := 21) (len := 3) (r := (0, 0, 0, 0)) (by decide +kernel) (acmpF (c := .gt) (by show _ ≤ _; omega)) ?_
      obtain ⟨xv, hv, ev⟩ := tf i (by omega)
      refine y_same (i := .aload_n 0) (len := 1) (r := (0, 0, 0, 0)) (pc' := 81) (ls' := [some (.inl (some 52)), some (zi xi)]) (st' := [.inl (some 52)]) (by decide +kernel) (fun k q => by cases q) rfl ?_
      refine y_get (j := 89) (len := 3) (r := (12, 46, 2, 1374)) (by decide +kernel) hg (t52 hg) at52 rfl rfl (g_r52 (f := 46) (T2 := 387) hg rfl (by decide)).1 ?_
      refine y_same (i := .iload_n 1) (len := 1) (r := (0, 0, 0, 0)) (pc' := 85) (ls' := [some (.inl (some 52)), some (zi xi)]) (st' := [zi xi, .inl (some 387)]) (by decide +kernel) (fun k q => by cases q) rfl ?_
      refine y_same (i := .aload_n 0) (len := 1) (r := (0, 0, 0, 0)) (pc' := 86) (ls' := [some (.inl (some 52)), some (zi xi)]) (st' := [.inl (some 52), zi xi, .inl (some 387)]) (by decide +kernel) (fun k q => by cases q) rfl ?_
      refine y_get (j := 70) (len := 3) (r := (12, 33, 2, 1361)) (by decide +kernel) hg (t52 hg) at52 rfl rfl (g_r52 (f := 33) (T2 := 381) hg rfl (by decide)).1 ?_
      refine y_same (i := .iload_n 1) (len := 1) (r := (0, 0, 0, 0)) (pc' := 90) (ls' := [some (.inl (some 52)), some (zi xi)]) (st' := [zi xi, .inl (some 381), zi xi, .inl (some 387)]) (by decide +kernel) (fun k q => by cases q) rfl ?_
      refine y_ial (i := i) (len := 1) (r := (0, 0, 0, 0)) (by decide +kernel) hg (tu381 hg) at381 (by omega) hv ?_
      refine y_ias (i := i) (len := 1) (r := (0, 0, 0, 0)) (by decide +kernel) hg (tu387 hg) at387 rfl (by omega) (by omega) (sr1 (by omega)) (qin_full _).1 (qin_full _).2 (fun h3408 hg3408 hl3408 hs3408 ho3408 => ?_)
      refine y_inc (j := 1) (a := xi) (c := 1) (ls' := fun v => [some (.inl (some 52)), some v]) (len := 3) (r := (0, 0, 0, 0)) (by decide +kernel) rfl (fun _ => rfl) (by decide) (by omega) (by omega) (fun y3409 hy3409 => ?_)
      show qX (d + 15) 256 95 [some (.inl (some 52)), some (zi y3409)] [] h3408 t _
      refine y_goto (off := (-20)) (pc' := 75) (len := 3) (r := (0, 0, 0, 0)) (by decide +kernel) (by decide +kernel) ?_
      refine ih h3408 (i + 1) y3409 hg3408 (fun w h1 h2 => ?_) (fun k j hC => (ho3408 k j (by omega)).trans (F0 k j hC)) (by omega) (by omega) (by omega)
      rcases Nat.lt_or_ge w i with q9 | q9
      · exact kx_up (c1 w h1 q9) (ho3408 387 w (by omega))
      · have e9 : w = i := by omega
        subst e9
        have ev9 := ev
        by_cases q8 : w ∈ ls
        · rw [if_pos (Or.inr q8)] at ev9
          rw [if_pos q8]
          exact ⟨_, hs3408, ev9⟩
        · rw [if_neg (by rintro (q7 | q7); omega; exact q8 q7)] at ev9
          rw [if_neg q8]
          exact ⟨_, hs3408, ev9⟩
theorem m_wei {d t : Nat} {τ : List Nat} {h : zh} {b : bsT} {ls : List Nat} {f sh : tlT} {s : rcT} (hg : hG τ h) (bs : bsM h 55 b) (len : b.1.1.length ≤ 5 ∧ b.1.2.length ≤ 6 ∧ b.2.1.length ≤ 5 ∧ b.2.2.length ≤ 6) (ok : (∀ (j : Nat) (i : it4), b.1.1[j]? = some i → okI i) ∧ (∀ (j : Nat) (i : it4), b.1.2[j]? = some i → okI i) ∧ (∀ (j : Nat) (i : it4), b.2.1[j]? = some i → okI i) ∧ ∀ (j : Nat) (i : it4), b.2.2[j]? = some i → okI i) (pz : ∀ i ∈ b.1.1, pzi i) (mn : mnB ls b) (tf : tF h ls f) (hfb : ∀ v, v ≤ 5 → f v ≤ 5) (hf0 : f 0 = 0) (hu : ci_ h 52 40 (mxv f)) (sm : shM h sh b.1.1.length) (hst : ∀ (j : Nat) (i : it4), b.1.1[j]? = some i → sh j ≤ tpI i) (rc : rcM h ls s) (hs1 : s.1 < 1000000) (hs2 : s.2.1 ≤ s.1) : qV (d + 16) 256 [some (.inl (some 52)), none] h t (fun h1 => hG τ h1 ∧ (∀ k j, ((k < 383 ∨ 387 < k) ∧ (k ≠ 52 ∨ (j ≠ 39 ∧ (j < 41 ∨ 45 < j)))) → hsl h1 k j = hsl h k j) ∧ rcM h1 ls (wgh b f s sh)) := by
  obtain ⟨c1, c2, c3, c4⟩ := id rc
  obtain ⟨x41, h41, e41⟩ := id c1
  obtain ⟨x42, h42, e42⟩ := id c2
  obtain ⟨x43, h43, e43⟩ := id c3
  refine qV_of ?_
  refine y_same (i := .aload_n 0) (len := 1) (r := (0, 0, 0, 0)) (pc' := 1) (ls' := [some (.inl (some 52)), none]) (st' := [.inl (some 52)]) (by decide +kernel) (fun k q => by cases q) rfl ?_
  refine y_cI (i := .invokevirtual 438) (len := 3) (r := (0, 250, 12, 1814)) (nL := 2) (k := 2) (n := 1) (hs := []) (args := [.inl (some 52)]) (rest := []) (l0 := [some (.inl (some 52)), none]) (by decide +kernel) (Or.inr (Or.inl ⟨_, rfl⟩)) rfl rfl rfl rfl (Nat.le_of_ble_eq_true rfl) (z52 hg) rfl (qI_le (by omega) (m_ib (d := 0) (l := b.1.1) (c := b.1.2) (ls := ls) (f := f) (sh := sh) hg bs.1.1 bs.1.2.2.1 len.1 ok.1 pz mn.1 hfb hf0 hst bs.1.2.1 bs.1.2.2.2 len.2.1 ok.2.1 mn.2.1 (tF_M tf) sm hu)) (fun y3410 h3410 hRy3410 => ?_)
  obtain ⟨hg3410, F3410, hD3410⟩ := hRy3410
  rcases hD3410 with ⟨hy3410, bo, hp3410⟩ | ⟨hy3410, bo⟩
  ·
    obtain ⟨hw, hmx⟩ := bOK_W bo.2 ok.1 len.1 hfb hf0
    refine y_iT (c := .ne) (off := 4) (pc' := 8) (len := 3) (r := (0, 0, 0, 0)) (by decide +kernel) (acmpT (c := .ne) (by show ¬ (_ = _); omega)) (by decide +kernel) ?_
    refine y_same (i := .aload_n 0) (len := 1) (r := (0, 0, 0, 0)) (pc' := 9) (ls' := [some (.inl (some 52)), none]) (st' := [.inl (some 52)]) (by decide +kernel) (fun k q => by cases q) rfl ?_
    refine y_same (i := .dup) (len := 1) (r := (0, 0, 0, 0)) (pc' := 10) (ls' := [some (.inl (some 52)), none]) (st' := [.inl (some 52), .inl (some 52)]) (by decide +kernel) (fun k q => by cases q) rfl ?_
    have hv3411 := (F3410 52 41 (by omega)).trans h41
    refine y_get (j := 441) (len := 3) (r := (12, 41, 0, 1369)) (by decide +kernel) hg3410 (t52 hg3410) at52 rfl rfl hv3411 ?_
    refine y_ic (c := 1) (len := 1) (r := (0, 0, 0, 0)) (by decide +kernel) (by decide) (fun y3412 hy3412 => ?_)
    refine y_add (len := 1) (r := (0, 0, 0, 0)) (by decide +kernel) (by omega) (by omega) (fun y3413 hy3413 => ?_)
    refine y_put (j := 441) (lo := (-2147483648)) (hi := 2147483647) (len := 3) (r := (12, 41, 0, 1369)) (by decide +kernel) hg3410 (t52 hg3410) at52 rfl rfl (by decide) rfl (qin_full _).1 (qin_full _).2 rfl (fun h3414 hg3414 hl3414 hs3414 ho3414 => ?_)
    have ho3414 : hO 52 41 h3410 h3414 := ho3414
    have hs3414 : hsl h3414 52 41 = some (zi y3413) := hs3414
    refine y_same (i := .aload_n 0) (len := 1) (r := (0, 0, 0, 0)) (pc' := 19) (ls' := [some (.inl (some 52)), none]) (st' := [.inl (some 52)]) (by decide +kernel) (fun k q => by cases q) rfl ?_
    have bs9 := bsM_to bs (fun j => ((ho3414 55 j (by omega)).trans (F3410 55 j (by omega))))
    refine y_cI (i := .invokevirtual 444) (len := 3) (r := (0, 254, 12, 1834)) (nL := 2) (k := 2) (n := 1) (hs := []) (args := [.inl (some 52)]) (rest := []) (l0 := [some (.inl (some 52)), none]) (by decide +kernel) (Or.inr (Or.inl ⟨_, rfl⟩)) rfl rfl rfl rfl (Nat.le_of_ble_eq_true rfl) (z52 hg3414) rfl (qI_le (by omega) (m_ir (d := 0) (l := b.2.1) (c := b.2.2) (ls := ls) (f := f) (H := (bld_ f sh b.1.1 0 (hp0 f))) hg3414 bs9.2.1 bs9.2.2.2.1 len.2.2.1 ok.2.2.1 mn.2.2.1 hfb (mx := mxv f) (fun v hv => mxv_ge hv hf0) hmx (tF_M (tF_up tf (fun j => ((ho3414 381 j (by omega)).trans (F3410 381 j (by omega)))))) (hpM_up hp3410 (fun k j hC => (ho3414 k j (by omega)))) hw bs9.2.2.1 bs9.2.2.2.2 len.2.2.2 ok.2.2.2 mn.2.2.2)) (fun y3415 h3415 hRy3415 => ?_)
    obtain ⟨hg3415, F3415, hD3415⟩ := hRy3415
    rcases hD3415 with ⟨hy3415, ft⟩ | ⟨hy3415, ft⟩
    ·
      refine y_iF (c := .eq) (off := 14) (len := 3) (r := (0, 0, 0, 0)) (by decide +kernel) (acmpF (c := .eq) (by show ¬ (_ = _); omega)) ?_
      refine y_same (i := .aload_n 0) (len := 1) (r := (0, 0, 0, 0)) (pc' := 26) (ls' := [some (.inl (some 52)), none]) (st' := [.inl (some 52)]) (by decide +kernel) (fun k q => by cases q) rfl ?_
      refine y_same (i := .dup) (len := 1) (r := (0, 0, 0, 0)) (pc' := 27) (ls' := [some (.inl (some 52)), none]) (st' := [.inl (some 52), .inl (some 52)]) (by decide +kernel) (fun k q => by cases q) rfl ?_
      have hv3416 := (F3410 52 42 (by omega)).trans h42
      have hv3417 := (ho3414 52 42 (Or.inr (by omega))).trans hv3416
      have hv3418 := (F3415 52 42 (by omega)).trans hv3417
      refine y_get (j := 447) (len := 3) (r := (12, 42, 0, 1370)) (by decide +kernel) hg3415 (t52 hg3415) at52 rfl rfl hv3418 ?_
      refine y_ic (c := 1) (len := 1) (r := (0, 0, 0, 0)) (by decide +kernel) (by decide) (fun y3419 hy3419 => ?_)
      refine y_add (len := 1) (r := (0, 0, 0, 0)) (by decide +kernel) (by omega) (by omega) (fun y3420 hy3420 => ?_)
      refine y_put (j := 447) (lo := (-2147483648)) (hi := 2147483647) (len := 3) (r := (12, 42, 0, 1370)) (by decide +kernel) hg3415 (t52 hg3415) at52 rfl rfl (by decide) rfl (qin_full _).1 (qin_full _).2 rfl (fun h3421 hg3421 hl3421 hs3421 ho3421 => ?_)
      have ho3421 : hO 52 42 h3415 h3421 := ho3421
      have hs3421 : hsl h3421 52 42 = some (zi y3420) := hs3421
      refine y_rV (len := 1) (r := (0, 0, 0, 0)) (nL := 2) (n9 := 1) (hs := []) (by decide +kernel) rfl ?_
      have hv3422 := (F3415 52 41 (by omega)).trans hs3414
      have hv3423 := (ho3421 52 41 (Or.inr (by omega))).trans hv3422
      rw [wgh_y bo, lok_y ft]
      exact ⟨hg3421, fun k j hC => ((ho3421 k j (by omega)).trans ((F3415 k j (by omega)).trans ((ho3414 k j (by omega)).trans (F3410 k j (by omega))))), ⟨_, hv3423, by show _ = ((s.1 + 1 : Nat) : Int); omega⟩, ⟨_, hs3421, by show _ = ((s.2.1 + 1 : Nat) : Int); omega⟩, kx_up c3 (((ho3421 52 43 (by omega)).trans ((F3415 52 43 (by omega)).trans ((ho3414 52 43 (by omega)).trans (F3410 52 43 (by omega)))))), fun q9 => ⟨kx_up (c4 q9).1 (((ho3421 52 44 (by omega)).trans ((F3415 52 44 (by omega)).trans ((ho3414 52 44 (by omega)).trans (F3410 52 44 (by omega)))))), kx_up (c4 q9).2.1 (((ho3421 52 45 (by omega)).trans ((F3415 52 45 (by omega)).trans ((ho3414 52 45 (by omega)).trans (F3410 52 45 (by omega)))))), fun v h1 h2 => kx_up ((c4 q9).2.2 v h1 h2) (((ho3421 387 v (by omega)).trans ((F3415 387 v (by omega)).trans ((ho3414 387 v (by omega)).trans (F3410 387 v (by omega))))))⟩⟩
    ·
      refine y_iT (c := .eq) (off := 14) (pc' := 36) (len := 3) (r := (0, 0, 0, 0)) (by decide +kernel) (acmpT (c := .eq) (by show _ = _; omega)) (by decide +kernel) ?_
      refine y_same (i := .aload_n 0) (len := 1) (r := (0, 0, 0, 0)) (pc' := 37) (ls' := [some (.inl (some 52)), none]) (st' := [.inl (some 52)]) (by decide +kernel) (fun k q => by cases q) rfl ?_
      have hv3424 := (F3410 52 43 (by omega)).trans h43
      have hv3425 := (ho3414 52 43 (Or.inr (by omega))).trans hv3424
      have hv3426 := (F3415 52 43 (by omega)).trans hv3425
      refine y_get (j := 450) (len := 3) (r := (12, 43, 0, 1371)) (by decide +kernel) hg3415 (t52 hg3415) at52 rfl rfl hv3426 ?_
      refine y_ic (c := (-1)) (len := 1) (r := (0, 0, 0, 0)) (by decide +kernel) (by decide) (fun y3427 hy3427 => ?_)
      rcases Decidable.em (x43.toInt = y3427.toInt) with q3428 | q3428
      ·
        refine y_cT (c := .eq) (off := 4) (pc' := 45) (len := 3) (r := (0, 0, 0, 0)) (by decide +kernel) (acmpT (c := .eq) (by show _ = _; omega)) (by decide +kernel) ?_
        refine y_same (i := .aload_n 0) (len := 1) (r := (0, 0, 0, 0)) (pc' := 46) (ls' := [some (.inl (some 52)), none]) (st' := [.inl (some 52)]) (by decide +kernel) (fun k q => by cases q) rfl ?_
        refine y_same (i := .aload_n 0) (len := 1) (r := (0, 0, 0, 0)) (pc' := 47) (ls' := [some (.inl (some 52)), none]) (st' := [.inl (some 52), .inl (some 52)]) (by decide +kernel) (fun k q => by cases q) rfl ?_
        have hv3429 := (F3415 52 41 (by omega)).trans hs3414
        refine y_get (j := 441) (len := 3) (r := (12, 41, 0, 1369)) (by decide +kernel) hg3415 (t52 hg3415) at52 rfl rfl hv3429 ?_
        refine y_ic (c := 1) (len := 1) (r := (0, 0, 0, 0)) (by decide +kernel) (by decide) (fun y3430 hy3430 => ?_)
        refine y_sub (len := 1) (r := (0, 0, 0, 0)) (by decide +kernel) (by omega) (by omega) (fun y3431 hy3431 => ?_)
        refine y_put (j := 450) (lo := (-2147483648)) (hi := 2147483647) (len := 3) (r := (12, 43, 0, 1371)) (by decide +kernel) hg3415 (t52 hg3415) at52 rfl rfl (by decide) rfl (qin_full _).1 (qin_full _).2 rfl (fun h3432 hg3432 hl3432 hs3432 ho3432 => ?_)
        have ho3432 : hO 52 43 h3415 h3432 := ho3432
        have hs3432 : hsl h3432 52 43 = some (zi y3431) := hs3432
        refine y_same (i := .aload_n 0) (len := 1) (r := (0, 0, 0, 0)) (pc' := 56) (ls' := [some (.inl (some 52)), none]) (st' := [.inl (some 52)]) (by decide +kernel) (fun k q => by cases q) rfl ?_
        refine y_same (i := .aload_n 0) (len := 1) (r := (0, 0, 0, 0)) (pc' := 57) (ls' := [some (.inl (some 52)), none]) (st' := [.inl (some 52), .inl (some 52)]) (by decide +kernel) (fun k q => by cases q) rfl ?_
        refine y_ic (c := 0) (len := 1) (r := (0, 0, 0, 0)) (by decide +kernel) (by decide) (fun y3433 hy3433 => ?_)
        refine y_cI (i := .invokevirtual 453) (len := 3) (r := (0, 255, 12, 1850)) (nL := 4) (k := 1) (n := 2) (hs := []) (args := [.inl (some 52), zi y3433]) (rest := [.inl (some 52)]) (l0 := [some (.inl (some 52)), some (zi y3433), none, none]) (by decide +kernel) (Or.inr (Or.inl ⟨_, rfl⟩)) rfl rfl rfl rfl (Nat.le_of_ble_eq_true rfl) (z52 hg3432) rfl (qI_le (by omega) (m_pw (d := 0) (k9 := 0) (H := (bld_ f sh b.1.1 0 (hp0 f))) hg3432 (hpM_up hp3410 (fun k j hC => ((ho3432 k j (by omega)).trans ((F3415 k j (by omega)).trans (ho3414 k j (by omega)))))) hw (by omega) (by decide))) (fun y3434 qy3434 hRy3434 => ?_)
        obtain ⟨rfl, ey3434⟩ := hRy3434
        refine y_put (j := 456) (lo := (-2147483648)) (hi := 2147483647) (len := 3) (r := (12, 44, 0, 1372)) (by decide +kernel) hg3432 (t52 hg3432) at52 rfl rfl (by decide) rfl (qin_full _).1 (qin_full _).2 rfl (fun h3435 hg3435 hl3435 hs3435 ho3435 => ?_)
        have ho3435 : hO 52 44 h3432 h3435 := ho3435
        have hs3435 : hsl h3435 52 44 = some (zi y3434) := hs3435
        refine y_same (i := .aload_n 0) (len := 1) (r := (0, 0, 0, 0)) (pc' := 65) (ls' := [some (.inl (some 52)), none]) (st' := [.inl (some 52)]) (by decide +kernel) (fun k q => by cases q) rfl ?_
        refine y_same (i := .aload_n 0) (len := 1) (r := (0, 0, 0, 0)) (pc' := 66) (ls' := [some (.inl (some 52)), none]) (st' := [.inl (some 52), .inl (some 52)]) (by decide +kernel) (fun k q => by cases q) rfl ?_
        refine y_ic (c := 1) (len := 1) (r := (0, 0, 0, 0)) (by decide +kernel) (by decide) (fun y3436 hy3436 => ?_)
        refine y_cI (i := .invokevirtual 453) (len := 3) (r := (0, 255, 12, 1850)) (nL := 4) (k := 1) (n := 2) (hs := []) (args := [.inl (some 52), zi y3436]) (rest := [.inl (some 52)]) (l0 := [some (.inl (some 52)), some (zi y3436), none, none]) (by decide +kernel) (Or.inr (Or.inl ⟨_, rfl⟩)) rfl rfl rfl rfl (Nat.le_of_ble_eq_true rfl) (z52 hg3435) rfl (qI_le (by omega) (m_pw (d := 0) (k9 := 1) (H := (bld_ f sh b.1.1 0 (hp0 f))) hg3435 (hpM_up hp3410 (fun k j hC => ((ho3435 k j (by omega)).trans ((ho3432 k j (by omega)).trans ((F3415 k j (by omega)).trans (ho3414 k j (by omega))))))) hw (by omega) (by decide))) (fun y3437 qy3437 hRy3437 => ?_)
        obtain ⟨rfl, ey3437⟩ := hRy3437
        refine y_put (j := 459) (lo := (-2147483648)) (hi := 2147483647) (len := 3) (r := (12, 45, 0, 1373)) (by decide +kernel) hg3435 (t52 hg3435) at52 rfl rfl (by decide) rfl (qin_full _).1 (qin_full _).2 rfl (fun h3438 hg3438 hl3438 hs3438 ho3438 => ?_)
        have ho3438 : hO 52 45 h3435 h3438 := ho3438
        have hs3438 : hsl h3438 52 45 = some (zi y3437) := hs3438
        refine y_ic (c := 0) (len := 1) (r := (0, 0, 0, 0)) (by decide +kernel) (by decide) (fun y3439 hy3439 => ?_)
        refine y_same (i := .istore_n 1) (len := 1) (r := (0, 0, 0, 0)) (pc' := 75) (ls' := [some (.inl (some 52)), some (zi y3439)]) (st' := []) (by decide +kernel) (fun k q => by cases q) rfl ?_
        have hv3440 := (ho3432 52 41 (Or.inr (by omega))).trans hv3429
        have hv3441 := (ho3435 52 41 (Or.inr (by omega))).trans hv3440
        have hv3442 := (ho3438 52 41 (Or.inr (by omega))).trans hv3441
        have hv3443 := (F3410 52 42 (by omega)).trans h42
        have hv3444 := (ho3414 52 42 (Or.inr (by omega))).trans hv3443
        have hv3445 := (F3415 52 42 (by omega)).trans hv3444
        have hv3446 := (ho3432 52 42 (Or.inr (by omega))).trans hv3445
        have hv3447 := (ho3435 52 42 (Or.inr (by omega))).trans hv3446
        have hv3448 := (ho3438 52 42 (Or.inr (by omega))).trans hv3447
        have hv3449 := (ho3435 52 43 (Or.inr (by omega))).trans hs3432
        have hv3450 := (ho3438 52 43 (Or.inr (by omega))).trans hv3449
        have hv3451 := (ho3438 52 44 (Or.inr (by omega))).trans hs3435
        have es := rN_n (by omega : rN s = -1)
        have e9 : lok b f sh s = (s.1 + 1, s.2.1, some (s.1, cntK (bld_ f sh b.1.1 0 (hp0 f)) 0, cntK (bld_ f sh b.1.1 0 (hp0 f)) 1, f)) := by
          rw [lok_n ft, es]
        rw [wgh_y bo, e9]
        refine qX_V (ri_l (h0 := h3438) (tF_up tf (fun j => ((ho3438 381 j (by omega)).trans ((ho3435 381 j (by omega)).trans ((ho3432 381 j (by omega)).trans ((F3415 381 j (by omega)).trans ((ho3414 381 j (by omega)).trans (F3410 381 j (by omega))))))))) 7 h3438 0 y3439 hg3438 (fun v h1 h2 => absurd h2 (Nat.not_lt_zero v)) (fun k j _ => rfl) (by omega) (by omega) (by omega)) (fun hz hR => ?_)
        obtain ⟨gz, cz, Fz⟩ := hR
        exact ⟨gz, fun k j hC => (Fz k j (by omega)).trans (((ho3438 k j (by omega)).trans ((ho3435 k j (by omega)).trans ((ho3432 k j (by omega)).trans ((F3415 k j (by omega)).trans ((ho3414 k j (by omega)).trans (F3410 k j (by omega)))))))), ⟨_, (Fz 52 41 (by omega)).trans hv3442, by show _ = ((s.1 + 1 : Nat) : Int); omega⟩, ⟨_, (Fz 52 42 (by omega)).trans hv3448, by show _ = ((s.2.1 : Nat) : Int); omega⟩, ⟨_, (Fz 52 43 (by omega)).trans hv3450, by show _ = ((s.1 : Nat) : Int); omega⟩, fun _ => ⟨⟨_, (Fz 52 44 (by omega)).trans hv3451, ey3434⟩, ⟨_, (Fz 52 45 (by omega)).trans hs3438, ey3437⟩, cz⟩⟩
      ·
        refine y_cF (c := .eq) (off := 4) (len := 3) (r := (0, 0, 0, 0)) (by decide +kernel) (acmpF (c := .eq) (by show ¬ (_ = _); omega)) ?_
        refine y_rV (len := 1) (r := (0, 0, 0, 0)) (nL := 2) (n9 := 1) (hs := []) (by decide +kernel) rfl ?_
        have hv3452 := (F3415 52 41 (by omega)).trans hs3414
        have hv3453 := (F3410 52 42 (by omega)).trans h42
        have hv3454 := (ho3414 52 42 (Or.inr (by omega))).trans hv3453
        have hv3455 := (F3415 52 42 (by omega)).trans hv3454
        obtain ⟨r, es⟩ := rN_s (by omega : rN s ≠ -1)
        have e9 : lok b f sh s = (s.1 + 1, s.2.1, s.2.2) := by rw [lok_n ft, es]
        rw [wgh_y bo, e9]
        exact ⟨hg3415, fun k j hC => ((F3415 k j (by omega)).trans ((ho3414 k j (by omega)).trans (F3410 k j (by omega)))), ⟨_, hv3452, by show _ = ((s.1 + 1 : Nat) : Int); omega⟩, ⟨_, hv3455, by show _ = ((s.2.1 : Nat) : Int); omega⟩, kx_up c3 (((F3415 52 43 (by omega)).trans ((ho3414 52 43 (by omega)).trans (F3410 52 43 (by omega))))), fun q9 => ⟨kx_up (c4 q9).1 (((F3415 52 44 (by omega)).trans ((ho3414 52 44 (by omega)).trans (F3410 52 44 (by omega))))), kx_up (c4 q9).2.1 (((F3415 52 45 (by omega)).trans ((ho3414 52 45 (by omega)).trans (F3410 52 45 (by omega))))), fun v h1 h2 => kx_up ((c4 q9).2.2 v h1 h2) (((F3415 387 v (by omega)).trans ((ho3414 387 v (by omega)).trans (F3410 387 v (by omega)))))⟩⟩
  ·
    refine y_iF (c := .ne) (off := 4) (len := 3) (r := (0, 0, 0, 0)) (by decide +kernel) (acmpF (c := .ne) (by show _ = _; omega)) ?_
    refine y_rV (len := 1) (r := (0, 0, 0, 0)) (nL := 2) (n9 := 1) (hs := []) (by decide +kernel) rfl ?_
    rw [wgh_n bo]
    exact ⟨hg3410, fun k j hC => (F3410 k j (by omega)), rcM_up rc (fun k j hC => (F3410 k j (by omega)))⟩
theorem hsh_l {D t k n0 m : Nat} {τ : List Nat} {h0 : zh} {g : tlT} {xk xm : Int32} {l2 : Option zv} {b : bsT} {ls : List Nat} {f : tlT} (len : b.1.1.length ≤ 5 ∧ b.1.2.length ≤ 6 ∧ b.2.1.length ≤ 5 ∧ b.2.2.length ≤ 6) (ok : (∀ (j : Nat) (i : it4), b.1.1[j]? = some i → okI i) ∧ (∀ (j : Nat) (i : it4), b.1.2[j]? = some i → okI i) ∧ (∀ (j : Nat) (i : it4), b.2.1[j]? = some i → okI i) ∧ ∀ (j : Nat) (i : it4), b.2.2[j]? = some i → okI i) (pz : ∀ i ∈ b.1.1, pzi i) (mn : mnB ls b) (hfb : ∀ v, v ≤ 5 → f v ≤ 5) (hf0 : f 0 = 0) (exk : xk.toInt = (k : Int)) (hk5 : k < 5) (exm : xm.toInt = (m : Int)) (hm3 : m ≤ 3) (htk : m = tqS b.1.1 k) (hst : ∀ (j : Nat) (i : it4), j < k → b.1.1[j]? = some i → g j ≤ tpI i) (ih0 : ∀ (h : zh) (g : tlT) (s : rcT) (xk : Int32), hG τ h → bsM h 55 b → tF h ls f → ci_ h 52 40 (mxv f) → shM h g (k + 1) → (∀ (j : Nat) (i : it4), j < k + 1 → b.1.1[j]? = some i → g j ≤ tpI i) → rcM h ls s → s.2.1 ≤ s.1 → s.1 + (shA b.1.1 (List.range' (k + 1) n0) g).length ≤ 1000000 → xk.toInt = ((k + 1 : Nat) : Int) → qV D 257 [some (.inl (some 52)), some (zi xk), none, none, none] h t (fun h1 => hG τ h1 ∧ (∀ k j, ((k < 382 ∨ 387 < k) ∧ (k ≠ 52 ∨ (j ≠ 39 ∧ (j < 41 ∨ 45 < j)))) → hsl h1 k j = hsl h k j) ∧ (∀ j, j < k + 1 → hsl h1 382 j = hsl h 382 j) ∧ rcM h1 ls ((shA b.1.1 (List.range' (k + 1) n0) g).foldl (wgh b f) s))) : ∀ (n : Nat) (h : zh) (r : Nat) (s : rcT) (p : Nat) (xp : Int32), (hG τ h) → (bsM h 55 b) → (tF h ls f) → (ci_ h 52 40 (mxv f)) → (shM h g k) → (rcM h ls s) → (s.2.1 ≤ s.1) → (∀ k j, ((k < 382 ∨ 387 < k) ∧ (k ≠ 52 ∨ (j ≠ 39 ∧ (j < 41 ∨ 45 < j)))) → hsl h k j = hsl h0 k j) → (∀ j, j < k → hsl h 382 j = hsl h0 382 j) → (s.1 + ((List.range' p r).flatMap (fun p => shA b.1.1 (List.range' (k + 1) n0) (upd_ g k p))).length ≤ 1000000) → (xp.toInt = (p : Int)) → (p + r = m + 1) → (r < n) → qX D 257 51 [some (.inl (some 52)), some (zi xk), l2, some (zi xm), some (zi xp)] [] h t (rV (fun h1 => hG τ h1 ∧ (∀ k j, ((k < 382 ∨ 387 < k) ∧ (k ≠ 52 ∨ (j ≠ 39 ∧ (j < 41 ∨ 45 < j)))) → hsl h1 k j = hsl h0 k j) ∧ (∀ j, j < k → hsl h1 382 j = hsl h0 382 j) ∧ rcM h1 ls (((List.range' p r).flatMap (fun p => shA b.1.1 (List.range' (k + 1) n0) (upd_ g k p))).foldl (wgh b f) s)) t) := by
  intro n
  induction n with
  | zero =>
    intro h r s p xp hg bs tf hu sm rc hs2 F0 K0 hs1 hxp hpr hn
    exfalso
    omega
  | succ n ih =>
    intro h r s p xp hg bs tf hu sm rc hs2 F0 K0 hs1 hxp hpr hn
    skip
    refine y_same (i := .iload 4) (len := 2) (r := (0, 0, 0, 0)) (pc' := 53) (ls' := [some (.inl (some 52)), some (zi xk), l2, some (zi xm), some (zi xp)]) (st' := [zi xp]) (by decide +kernel) (fun k q => by cases q) rfl ?_
    refine y_same (i := .iload_n 3) (len := 1) (r := (0, 0, 0, 0)) (pc' := 54) (ls' := [some (.inl (some 52)), some (zi xk), l2, some (zi xm), some (zi xp)]) (st' := [zi xm, zi xp]) (by decide +kernel) (fun k q => by cases q) rfl ?_
    rcases Decidable.em (xp.toInt > xm.toInt) with q3456 | q3456
    ·
      refine y_cT (c := .gt) (off := 24) (pc' := 78) (len := 3) (r := (0, 0, 0, 0)) (by decide +kernel) (acmpT (c := .gt) (by show _ < _; omega)) (by decide +kernel) ?_
      refine y_rV (len := 1) (r := (0, 0, 0, 0)) (nL := 5) (n9 := 2) (hs := []) (by decide +kernel) rfl ?_
      obtain rfl : r = 0 := by omega
      exact ⟨hg, F0, K0, rc⟩
    ·
      refine y_cF (c := .gt) (off := 24) (len := 3) (r := (0, 0, 0, 0)) (by decide +kernel) (acmpF (c := .gt) (by show _ ≤ _; omega)) ?_
      obtain ⟨r, rfl⟩ : ∃ r9, r = r9 + 1 := ⟨r - 1, by omega⟩
      rw [List.range'_succ, List.flatMap_cons] at hs1 ⊢
      rw [List.length_append] at hs1
      have wb9 := wf_b (b := b) (f := f) (L := shA b.1.1 (List.range' (k + 1) n0) (upd_ g k p)) hs2
      refine y_same (i := .aload_n 0) (len := 1) (r := (0, 0, 0, 0)) (pc' := 58) (ls' := [some (.inl (some 52)), some (zi xk), l2, some (zi xm), some (zi xp)]) (st' := [.inl (some 52)]) (by decide +kernel) (fun k q => by cases q) rfl ?_
      refine y_get (j := 73) (len := 3) (r := (12, 34, 2, 1362)) (by decide +kernel) hg (t52 hg) at52 rfl rfl (g_r52 (f := 34) (T2 := 382) hg rfl (by decide)).1 ?_
      refine y_same (i := .iload_n 1) (len := 1) (r := (0, 0, 0, 0)) (pc' := 62) (ls' := [some (.inl (some 52)), some (zi xk), l2, some (zi xm), some (zi xp)]) (st' := [zi xk, .inl (some 382)]) (by decide +kernel) (fun k q => by cases q) rfl ?_
      refine y_same (i := .iload 4) (len := 2) (r := (0, 0, 0, 0)) (pc' := 64) (ls' := [some (.inl (some 52)), some (zi xk), l2, some (zi xm), some (zi xp)]) (st' := [zi xp, zi xk, .inl (some 382)]) (by decide +kernel) (fun k q => by cases q) rfl ?_
      refine y_ias (i := k) (len := 1) (r := (0, 0, 0, 0)) (by decide +kernel) hg (tu382 hg) at382 rfl (by omega) (by omega) (sr1 (by omega)) (by omega) (by omega) (fun h3457 hg3457 hl3457 hs3457 ho3457 => ?_)
      refine y_same (i := .aload_n 0) (len := 1) (r := (0, 0, 0, 0)) (pc' := 66) (ls' := [some (.inl (some 52)), some (zi xk), l2, some (zi xm), some (zi xp)]) (st' := [.inl (some 52)]) (by decide +kernel) (fun k q => by cases q) rfl ?_
      refine y_same (i := .iload_n 1) (len := 1) (r := (0, 0, 0, 0)) (pc' := 67) (ls' := [some (.inl (some 52)), some (zi xk), l2, some (zi xm), some (zi xp)]) (st' := [zi xk, .inl (some 52)]) (by decide +kernel) (fun k q => by cases q) rfl ?_
      refine y_ic (c := 1) (len := 1) (r := (0, 0, 0, 0)) (by decide +kernel) (by decide) (fun y3458 hy3458 => ?_)
      refine y_add (len := 1) (r := (0, 0, 0, 0)) (by decide +kernel) (by omega) (by omega) (fun y3459 hy3459 => ?_)
      have sm9 : shM h3457 (upd_ g k p) (k + 1) := fun w hw => by
        unfold upd_
        by_cases q9 : w = k
        · rw [if_pos q9, q9]
          exact ⟨_, hs3457, by omega⟩
        · rw [if_neg q9]
          exact ci_up (sm w (by omega)) (ho3457 382 w (by omega))
      have hst9 : ∀ (j : Nat) (i : it4), j < k + 1 → b.1.1[j]? = some i → upd_ g k p j ≤ tpI i := fun j i hj hi => by
        unfold upd_
        by_cases q9 : j = k
        · subst q9
          rw [if_pos rfl, ← tqS_s hi]
          omega
        · rw [if_neg q9]
          exact hst j i (by omega) hi
      refine y_cV (i := .invokevirtual 465) (len := 3) (r := (0, 257, 12, 1806)) (nL := 5) (k := 0) (n := 2) (hs := []) (args := [.inl (some 52), zi y3459]) (rest := []) (l0 := [some (.inl (some 52)), some (zi y3459), none, none, none]) (by decide +kernel) (Or.inr (Or.inl ⟨_, rfl⟩)) rfl rfl rfl rfl (Nat.le_of_ble_eq_true rfl) (z52 hg3457) rfl (ih0 h3457 (upd_ g k p) s y3459 hg3457 (bsM_to bs (fun j => (ho3457 55 j (by omega)))) (tF_up tf (fun j => (ho3457 381 j (by omega)))) (ci_up hu ((ho3457 52 40 (by omega)))) sm9 hst9 (rcM_up rc (fun k j hC => (ho3457 k j (by omega)))) hs2 (by omega) (by omega)) (fun h3460 hR3460 => ?_)
      obtain ⟨hg3460, F3460, K3460, rc3460⟩ := hR3460
      refine y_inc (j := 4) (a := xp) (c := 1) (ls' := fun v => [some (.inl (some 52)), some (zi xk), l2, some (zi xm), some v]) (len := 3) (r := (0, 0, 0, 0)) (by decide +kernel) rfl (fun _ => rfl) (by decide) (by omega) (by omega) (fun y3461 hy3461 => ?_)
      show qX D 257 75 [some (.inl (some 52)), some (zi xk), l2, some (zi xm), some (zi y3461)] [] h3460 t _
      refine y_goto (off := (-24)) (pc' := 51) (len := 3) (r := (0, 0, 0, 0)) (by decide +kernel) (by decide +kernel) ?_
      have e382 : ∀ j, j < k → hsl h3460 382 j = hsl h 382 j := fun j hj => (K3460 j (by omega)).trans (ho3457 382 j (by omega))
      rw [List.foldl_append]
      exact ih h3460 r ((shA b.1.1 (List.range' (k + 1) n0) (upd_ g k p)).foldl (wgh b f) s) (p + 1) y3461 hg3460 (bsM_to bs (fun j => ((F3460 55 j (by omega)).trans (ho3457 55 j (by omega))))) (tF_up tf (fun j => ((F3460 381 j (by omega)).trans (ho3457 381 j (by omega))))) (ci_up hu (((F3460 52 40 (by omega)).trans (ho3457 52 40 (by omega))))) (fun w hw => ci_up (sm w hw) (e382 w hw)) rc3460 wb9.2 (fun k j hC => (((F3460 k j (by omega)).trans (ho3457 k j (by omega)))).trans (F0 k j hC)) (fun j hj => (e382 j hj).trans (K0 j hj)) (by omega) (by omega) (by omega) (by omega)
theorem m_sh {t : Nat} {τ : List Nat} {b : bsT} {ls : List Nat} {f : tlT} (len : b.1.1.length ≤ 5 ∧ b.1.2.length ≤ 6 ∧ b.2.1.length ≤ 5 ∧ b.2.2.length ≤ 6) (ok : (∀ (j : Nat) (i : it4), b.1.1[j]? = some i → okI i) ∧ (∀ (j : Nat) (i : it4), b.1.2[j]? = some i → okI i) ∧ (∀ (j : Nat) (i : it4), b.2.1[j]? = some i → okI i) ∧ ∀ (j : Nat) (i : it4), b.2.2[j]? = some i → okI i) (pz : ∀ i ∈ b.1.1, pzi i) (mn : mnB ls b) (hfb : ∀ v, v ≤ 5 → f v ≤ 5) (hf0 : f 0 = 0) : ∀ (n : Nat) (h : zh) (g : tlT) (s : rcT) (k : Nat) (xk : Int32), hG τ h → bsM h 55 b → tF h ls f → ci_ h 52 40 (mxv f) → shM h g k → (∀ (j : Nat) (i : it4), j < k → b.1.1[j]? = some i → g j ≤ tpI i) → rcM h ls s → s.2.1 ≤ s.1 → s.1 + (shA b.1.1 (List.range' k n) g).length ≤ 1000000 → xk.toInt = (k : Int) → k + n = b.1.1.length → qV (n + 17) 257 [some (.inl (some 52)), some (zi xk), none, none, none] h t (fun h1 => hG τ h1 ∧ (∀ k j, ((k < 382 ∨ 387 < k) ∧ (k ≠ 52 ∨ (j ≠ 39 ∧ (j < 41 ∨ 45 < j)))) → hsl h1 k j = hsl h k j) ∧ (∀ j, j < k → hsl h1 382 j = hsl h 382 j) ∧ rcM h1 ls ((shA b.1.1 (List.range' k n) g).foldl (wgh b f) s)) := by
  intro n
  induction n with
  | zero =>
    intro h g s k xk hg bs tf hu sm hst rc hs2 hs1 hxk hkn
    obtain ⟨xl, hl, el⟩ := id bs.1.1
    have hs1 : s.1 < 1000000 := hs1
    obtain rfl : k = b.1.1.length := by omega
    refine qV_of ?_
    refine y_same (i := .iload_n 1) (len := 1) (r := (0, 0, 0, 0)) (pc' := 1) (ls' := [some (.inl (some 52)), some (zi xk), none, none, none]) (st' := [zi xk]) (by decide +kernel) (fun k q => by cases q) rfl ?_
    refine y_same (i := .aload_n 0) (len := 1) (r := (0, 0, 0, 0)) (pc' := 2) (ls' := [some (.inl (some 52)), some (zi xk), none, none, none]) (st' := [.inl (some 52), zi xk]) (by decide +kernel) (fun k q => by cases q) rfl ?_
    refine y_get (j := 20) (len := 3) (r := (12, 9, 2, 1337)) (by decide +kernel) hg (t52 hg) at52 rfl rfl (g_r52 (f := 9) (T2 := 55) hg rfl (by decide)).1 ?_
    refine y_ic (c := 0) (len := 1) (r := (0, 0, 0, 0)) (by decide +kernel) (by decide) (fun y3462 hy3462 => ?_)
    refine y_cI (i := .invokestatic 143) (len := 3) (r := (1, 166, 12, 1543)) (nL := 2) (k := 1) (n := 2) (hs := []) (args := [.inl (some 55), zi y3462]) (rest := [zi xk]) (l0 := [some (.inl (some 55)), some (zi y3462)]) (by decide +kernel) (Or.inl ⟨_, rfl⟩) rfl rfl rfl rfl (Nat.le_of_ble_eq_true rfl) rfl rfl (qI_le (by omega) (m_parts (d := 0) (s := 0) hg (by omega) (by omega) hl)) (fun y3463 qy3463 hRy3463 => ?_)
    obtain ⟨rfl, rfl⟩ := hRy3463
    refine y_cF (c := .ne) (off := 8) (len := 3) (r := (0, 0, 0, 0)) (by decide +kernel) (acmpF (c := .ne) (by show _ = _; omega)) ?_
    refine y_same (i := .aload_n 0) (len := 1) (r := (0, 0, 0, 0)) (pc' := 13) (ls' := [some (.inl (some 52)), some (zi xk), none, none, none]) (st' := [.inl (some 52)]) (by decide +kernel) (fun k q => by cases q) rfl ?_
    refine y_cV (i := .invokevirtual 462) (len := 3) (r := (0, 256, 12, 1810)) (nL := 2) (k := 0) (n := 1) (hs := []) (args := [.inl (some 52)]) (rest := []) (l0 := [some (.inl (some 52)), none]) (by decide +kernel) (Or.inr (Or.inl ⟨_, rfl⟩)) rfl rfl rfl rfl (Nat.le_of_ble_eq_true rfl) (z52 hg) rfl (qV_le (by omega) (m_wei (d := 0) (sh := g) hg bs len ok pz mn tf hfb hf0 hu sm (fun j i hj => hst j i (by have := (List.getElem?_eq_some_iff.mp hj).1; omega) hj) rc hs1 hs2)) (fun h3464 hR3464 => ?_)
    obtain ⟨hg3464, F3464, rc3464⟩ := hR3464
    refine y_rV (len := 1) (r := (0, 0, 0, 0)) (nL := 5) (n9 := 2) (hs := []) (by decide +kernel) rfl ?_
    exact ⟨hg3464, fun k j hC => (F3464 k j (by omega)), (fun j hj => (F3464 382 j (by omega))), rc3464⟩
  | succ n ih =>
    intro h g s k xk hg bs tf hu sm hst rc hs2 hs1 hxk hkn
    obtain ⟨xl, hl, el⟩ := id bs.1.1
    have l5 := len.1
    rw [List.range'_succ, shA_c] at hs1
    refine qV_of ?_
    refine y_same (i := .iload_n 1) (len := 1) (r := (0, 0, 0, 0)) (pc' := 1) (ls' := [some (.inl (some 52)), some (zi xk), none, none, none]) (st' := [zi xk]) (by decide +kernel) (fun k q => by cases q) rfl ?_
    refine y_same (i := .aload_n 0) (len := 1) (r := (0, 0, 0, 0)) (pc' := 2) (ls' := [some (.inl (some 52)), some (zi xk), none, none, none]) (st' := [.inl (some 52), zi xk]) (by decide +kernel) (fun k q => by cases q) rfl ?_
    refine y_get (j := 20) (len := 3) (r := (12, 9, 2, 1337)) (by decide +kernel) hg (t52 hg) at52 rfl rfl (g_r52 (f := 9) (T2 := 55) hg rfl (by decide)).1 ?_
    refine y_ic (c := 0) (len := 1) (r := (0, 0, 0, 0)) (by decide +kernel) (by decide) (fun y3465 hy3465 => ?_)
    refine y_cI (i := .invokestatic 143) (len := 3) (r := (1, 166, 12, 1543)) (nL := 2) (k := 1) (n := 2) (hs := []) (args := [.inl (some 55), zi y3465]) (rest := [zi xk]) (l0 := [some (.inl (some 55)), some (zi y3465)]) (by decide +kernel) (Or.inl ⟨_, rfl⟩) rfl rfl rfl rfl (Nat.le_of_ble_eq_true rfl) rfl rfl (qI_le (by omega) (m_parts (d := 0) (s := 0) hg (by omega) (by omega) hl)) (fun y3466 qy3466 hRy3466 => ?_)
    obtain ⟨rfl, rfl⟩ := hRy3466
    refine y_cT (c := .ne) (off := 8) (pc' := 17) (len := 3) (r := (0, 0, 0, 0)) (by decide +kernel) (acmpT (c := .ne) (by show ¬ (_ = _); omega)) (by decide +kernel) ?_
    obtain ⟨ik, hk⟩ : ∃ ik, b.1.1[k]? = some ik := ⟨_, List.getElem?_eq_getElem (by omega)⟩
    have okk := ok.1 k ik hk
    unfold okI at okk
    obtain ⟨x0, -, -, -, ⟨g0, -⟩, e0, -⟩ := bs.1.2.2.1 k ik hk
    have g0 : hsl h 55 (2 + 4 * k) = some (zi x0) := g0
    have tk := tqS_s hk
    unfold tpI at tk
    refine y_same (i := .aload_n 0) (len := 1) (r := (0, 0, 0, 0)) (pc' := 18) (ls' := [some (.inl (some 52)), some (zi xk), none, none, none]) (st' := [.inl (some 52)]) (by decide +kernel) (fun k q => by cases q) rfl ?_
    refine y_get (j := 20) (len := 3) (r := (12, 9, 2, 1337)) (by decide +kernel) hg (t52 hg) at52 rfl rfl (g_r52 (f := 9) (T2 := 55) hg rfl (by decide)).1 ?_
    refine y_ic (c := 0) (len := 1) (r := (0, 0, 0, 0)) (by decide +kernel) (by decide) (fun y3467 hy3467 => ?_)
    refine y_same (i := .iload_n 1) (len := 1) (r := (0, 0, 0, 0)) (pc' := 23) (ls' := [some (.inl (some 52)), some (zi xk), none, none, none]) (st' := [zi xk, zi y3467, .inl (some 55)]) (by decide +kernel) (fun k q => by cases q) rfl ?_
    refine y_cI (i := .invokestatic 147) (len := 3) (r := (1, 168, 12, 1546)) (nL := 2) (k := 1) (n := 2) (hs := []) (args := [zi y3467, zi xk]) (rest := [.inl (some 55)]) (l0 := [some (zi y3467), some (zi xk)]) (by decide +kernel) (Or.inl ⟨_, rfl⟩) rfl rfl rfl rfl (Nat.le_of_ble_eq_true rfl) rfl rfl (qI_le (by omega) (m_partAt (d := 0) (s := 0) (k := k) (by omega) (by omega) (by omega) (by omega))) (fun y3468 qy3468 hRy3468 => ?_)
    obtain ⟨rfl, hy3468⟩ := hRy3468
    refine y_ial (i := (2 + 4 * k)) (len := 1) (r := (0, 0, 0, 0)) (by decide +kernel) hg (tv55 hg) av55 (by omega) g0 ?_
    refine y_same (i := .istore_n 2) (len := 1) (r := (0, 0, 0, 0)) (pc' := 28) (ls' := [some (.inl (some 52)), some (zi xk), some (zi x0), none, none]) (st' := []) (by decide +kernel) (fun k q => by cases q) rfl ?_
    refine y_same (i := .iload_n 2) (len := 1) (r := (0, 0, 0, 0)) (pc' := 29) (ls' := [some (.inl (some 52)), some (zi xk), some (zi x0), none, none]) (st' := [zi x0]) (by decide +kernel) (fun k q => by cases q) rfl ?_
    refine y_ic (c := 2) (len := 1) (r := (0, 0, 0, 0)) (by decide +kernel) (by decide) (fun y3469 hy3469 => ?_)
    rcases Decidable.em (x0.toInt ≠ y3469.toInt) with q3470 | q3470
    ·
      refine y_cT (c := .ne) (off := 7) (pc' := 37) (len := 3) (r := (0, 0, 0, 0)) (by decide +kernel) (acmpT (c := .ne) (by show ¬ (_ = _); omega)) (by decide +kernel) ?_
      refine y_same (i := .iload_n 2) (len := 1) (r := (0, 0, 0, 0)) (pc' := 38) (ls' := [some (.inl (some 52)), some (zi xk), some (zi x0), none, none]) (st' := [zi x0]) (by decide +kernel) (fun k q => by cases q) rfl ?_
      refine y_ic (c := 3) (len := 1) (r := (0, 0, 0, 0)) (by decide +kernel) (by decide) (fun y3471 hy3471 => ?_)
      rcases Decidable.em (x0.toInt ≠ y3471.toInt) with q3472 | q3472
      ·
        refine y_cT (c := .ne) (off := 7) (pc' := 46) (len := 3) (r := (0, 0, 0, 0)) (by decide +kernel) (acmpT (c := .ne) (by show ¬ (_ = _); omega)) (by decide +kernel) ?_
        refine y_ic (c := 0) (len := 1) (r := (0, 0, 0, 0)) (by decide +kernel) (by decide) (fun y3473 hy3473 => ?_)
        refine y_same (i := .istore_n 3) (len := 1) (r := (0, 0, 0, 0)) (pc' := 48) (ls' := [some (.inl (some 52)), some (zi xk), some (zi x0), some (zi y3473), none]) (st' := []) (by decide +kernel) (fun k q => by cases q) rfl ?_
        refine y_ic (c := 0) (len := 1) (r := (0, 0, 0, 0)) (by decide +kernel) (by decide) (fun y3474 hy3474 => ?_)
        refine y_same (i := .istore 4) (len := 2) (r := (0, 0, 0, 0)) (pc' := 51) (ls' := [some (.inl (some 52)), some (zi xk), some (zi x0), some (zi y3473), some (zi y3474)]) (st' := []) (by decide +kernel) (fun k q => by cases q) rfl ?_
        rw [if_neg (by omega), if_neg (by omega)] at tk
        refine qX_V (hsh_l (D := n + 17) (h0 := h) (k := k) (n0 := n) (m := 0) len ok pz mn hfb hf0 hxk (by omega) (by omega) (by omega) tk.symm (fun j i hj hi => hst j i hj hi) (fun h g s xk a1 a2 a3 a4 a5 a6 a7 a8 a9 a10 => ih h g s (k + 1) xk a1 a2 a3 a4 a5 a6 a7 a8 a9 a10 (by omega)) (0 + 2) h (0 + 1) s 0 y3474 hg bs tf hu sm rc hs2 (fun k j _ => rfl) (fun j _ => rfl) (by have h9 := hs1; rw [show tqS b.1.1 k = 0 from tk] at h9; exact h9) (by omega) (by omega) (by omega)) (fun h1 hR => ?_)
        rw [List.range'_succ, shA_c, tk]
        exact hR
      ·
        refine y_cF (c := .ne) (off := 7) (len := 3) (r := (0, 0, 0, 0)) (by decide +kernel) (acmpF (c := .ne) (by show _ = _; omega)) ?_
        refine y_ic (c := 3) (len := 1) (r := (0, 0, 0, 0)) (by decide +kernel) (by decide) (fun y3475 hy3475 => ?_)
        refine y_goto (off := 4) (pc' := 47) (len := 3) (r := (0, 0, 0, 0)) (by decide +kernel) (by decide +kernel) ?_
        refine y_same (i := .istore_n 3) (len := 1) (r := (0, 0, 0, 0)) (pc' := 48) (ls' := [some (.inl (some 52)), some (zi xk), some (zi x0), some (zi y3475), none]) (st' := []) (by decide +kernel) (fun k q => by cases q) rfl ?_
        refine y_ic (c := 0) (len := 1) (r := (0, 0, 0, 0)) (by decide +kernel) (by decide) (fun y3476 hy3476 => ?_)
        refine y_same (i := .istore 4) (len := 2) (r := (0, 0, 0, 0)) (pc' := 51) (ls' := [some (.inl (some 52)), some (zi xk), some (zi x0), some (zi y3475), some (zi y3476)]) (st' := []) (by decide +kernel) (fun k q => by cases q) rfl ?_
        rw [if_neg (by omega), if_pos (by omega)] at tk
        refine qX_V (hsh_l (D := n + 17) (h0 := h) (k := k) (n0 := n) (m := 3) len ok pz mn hfb hf0 hxk (by omega) (by omega) (by omega) tk.symm (fun j i hj hi => hst j i hj hi) (fun h g s xk a1 a2 a3 a4 a5 a6 a7 a8 a9 a10 => ih h g s (k + 1) xk a1 a2 a3 a4 a5 a6 a7 a8 a9 a10 (by omega)) (3 + 2) h (3 + 1) s 0 y3476 hg bs tf hu sm rc hs2 (fun k j _ => rfl) (fun j _ => rfl) (by have h9 := hs1; rw [show tqS b.1.1 k = 3 from tk] at h9; exact h9) (by omega) (by omega) (by omega)) (fun h1 hR => ?_)
        rw [List.range'_succ, shA_c, tk]
        exact hR
    ·
      refine y_cF (c := .ne) (off := 7) (len := 3) (r := (0, 0, 0, 0)) (by decide +kernel) (acmpF (c := .ne) (by show _ = _; omega)) ?_
      refine y_ic (c := 2) (len := 1) (r := (0, 0, 0, 0)) (by decide +kernel) (by decide) (fun y3477 hy3477 => ?_)
      refine y_goto (off := 13) (pc' := 47) (len := 3) (r := (0, 0, 0, 0)) (by decide +kernel) (by decide +kernel) ?_
      refine y_same (i := .istore_n 3) (len := 1) (r := (0, 0, 0, 0)) (pc' := 48) (ls' := [some (.inl (some 52)), some (zi xk), some (zi x0), some (zi y3477), none]) (st' := []) (by decide +kernel) (fun k q => by cases q) rfl ?_
      refine y_ic (c := 0) (len := 1) (r := (0, 0, 0, 0)) (by decide +kernel) (by decide) (fun y3478 hy3478 => ?_)
      refine y_same (i := .istore 4) (len := 2) (r := (0, 0, 0, 0)) (pc' := 51) (ls' := [some (.inl (some 52)), some (zi xk), some (zi x0), some (zi y3477), some (zi y3478)]) (st' := []) (by decide +kernel) (fun k q => by cases q) rfl ?_
      rw [if_pos (by omega)] at tk
      refine qX_V (hsh_l (D := n + 17) (h0 := h) (k := k) (n0 := n) (m := 2) len ok pz mn hfb hf0 hxk (by omega) (by omega) (by omega) tk.symm (fun j i hj hi => hst j i hj hi) (fun h g s xk a1 a2 a3 a4 a5 a6 a7 a8 a9 a10 => ih h g s (k + 1) xk a1 a2 a3 a4 a5 a6 a7 a8 a9 a10 (by omega)) (2 + 2) h (2 + 1) s 0 y3478 hg bs tf hu sm rc hs2 (fun k j _ => rfl) (fun j _ => rfl) (by have h9 := hs1; rw [show tqS b.1.1 k = 2 from tk] at h9; exact h9) (by omega) (by omega) (by omega)) (fun h1 hR => ?_)
      rw [List.range'_succ, shA_c, tk]
      exact hR
