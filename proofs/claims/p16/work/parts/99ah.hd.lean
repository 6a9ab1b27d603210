/-! the model's small heaps: the heap by what is told -/
def shM (h : zh) (sh : tlT) (n : Nat) : Prop := ∀ k, k < n → ci_ h 382 k (sh k)
theorem shM_up {h h1 : zh} {f : tlT} {m : Nat} (c : shM h f m) (e : ∀ j, hsl h1 382 j = hsl h 382 j) : shM h1 f m := fun w hw => ci_up (c w hw) (e w)
theorem bld1_1 {f : tlT} {i : it4} {n w : Nat} {H : hpT} (ok : okP f i n H) (h0 : 0 ≤ i.1) (hw : w ≤ H.2.2.2) : (bld1 f i n H).1 w ≠ -1 ↔ (H.1 w ≠ -1 ∨ (hsS f i ∧ w = vX_ f i)) := by
  obtain ⟨⟨l1, l2⟩, l3⟩ := ok
  unfold bld1
  by_cases q1 : i.1 ≤ 1
  · rw [if_pos q1]
    show (if w = vX_ f i then i.1 else H.1 w) ≠ -1 ↔ _
    by_cases q : w = vX_ f i
    · rw [if_pos q]
      exact ⟨fun _ => Or.inr ⟨Or.inl q1, q⟩, fun _ => by omega⟩
    · rw [if_neg q]
      exact ⟨Or.inl, fun q9 => q9.elim id (fun q8 => absurd q8.2 q)⟩
  · rw [if_neg q1]
    have hh := lo_hi l1 l2
    have hno : n = 0 → ¬ hsS f i := fun q0 q2 => by
      have : lo1 f i = 1 := if_pos ⟨by omega, q2⟩
      omega
    have key : ∀ (c : Int) (a b : Nat) (H' : hpT), c ≠ -1 → H'.1 w = H.1 w → n ≠ 0 → ((put1 H' (vX_ f i) c a b).1 w ≠ -1 ↔ (H.1 w ≠ -1 ∨ (hsS f i ∧ w = vX_ f i))) := fun c a b H' hc e hn => by
      show (if w = vX_ f i then c else H'.1 w) ≠ -1 ↔ _
      by_cases q : w = vX_ f i
      · rw [if_pos q]
        exact ⟨fun _ => Or.inr ⟨hh.2.2 hn, q⟩, fun _ => hc⟩
      · rw [if_neg q, e]
        exact ⟨Or.inl, fun q9 => q9.elim id (fun q8 => absurd q8.2 q)⟩
    have key2 : ∀ (c : Int) (a b : Nat) (H' : hpT), (put1 H' (H.2.2.2 + 1) c a b).1 w = H'.1 w := fun c a b H' => if_neg (by omega)
    by_cases n0 : n = 0
    · by_cases q2 : i.1 = 2
      · rw [if_pos q2, if_pos n0]
        exact ⟨Or.inl, fun q9 => q9.elim id (fun q8 => absurd q8.1 (hno n0))⟩
      · rw [if_neg q2, if_pos n0]
        exact ⟨Or.inl, fun q9 => q9.elim id (fun q8 => absurd q8.1 (hno n0))⟩
    · by_cases q2 : i.1 = 2
      · rw [if_pos q2, if_neg n0]
        by_cases n1 : n = 1
        · rw [if_pos n1]
          exact key _ _ _ H (by decide) rfl n0
        · rw [if_neg n1, key2]
          exact key _ _ _ (new1 H) (by decide) rfl n0
      · rw [if_neg q2, if_neg n0]
        by_cases n1 : n = 1
        · rw [if_pos n1]
          exact key _ _ _ H (by decide) rfl n0
        · rw [if_neg n1, key2]
          exact key _ _ _ (new1 H) (by decide) rfl n0
def bOK (f sh : tlT) (l : List it4) : Prop := (0 :: own f l).Nodup ∧ ∀ k, k < l.length → loS l f k ≤ sh k ∧ sh k ≤ hiS l f k
theorem no_l {d t m : Nat} {τ : List Nat} {h0 : zh} {P : zo × zh × Nat → Prop} {xp : Int32} (hp390 : hsl h0 52 39 = some (zi xp)) (ep : xp.toInt = (m : Int)) (hm : m ≤ 10) (kk : ∀ (h : zh) (l1 : Option zv), hG τ h → (∀ w, w ≤ m → kx_ h 383 w (-1)) → (∀ k j, k ≠ 383 → hsl h k j = hsl h0 k j) → qX (d + 2) 250 31 [some (.inl (some 52)), l1] [] h t P) : ∀ (n : Nat) (h : zh) (k : Nat) (xk : Int32), (hG τ h) → (∀ w, w < k → kx_ h 383 w (-1)) → (∀ k j, k ≠ 383 → hsl h k j = hsl h0 k j) → (xk.toInt = (k : Int)) → (k ≤ m + 1) → (m + 1 < k + n) → qX (d + 2) 250 10 [some (.inl (some 52)), some (zi xk)] [] h t P := by
  intro n
  induction n with
  | zero =>
    intro h k xk hg c1 F0 hxk hk hn
    exfalso
    omega
  | succ n ih =>
    intro h k xk hg c1 F0 hxk hk hn
    have hp39 : hsl h 52 39 = some (zi xp) := (F0 _ _ (by omega)).trans hp390
    refine y_same (i := .iload_n 1) (len := 1) (r := (0, 0, 0, 0)) (pc' := 11) (ls' := [some (.inl (some 52)), some (zi xk)]) (st' := [zi xk]) (by decide +kernel) (fun k q => by cases q) rfl ?_
    refine y_same (i := .aload_n 0) (len := 1) (r := (0, 0, 0, 0)) (pc' := 12) (ls' := [some (.inl (some 52)), some (zi xk)]) (st' := [.inl (some 52), zi xk]) (by decide +kernel) (fun k q => by cases q) rfl ?_
    refine y_get (j := 410) (len := 3) (r := (12, 39, 0, 1367)) (by decide +kernel) hg (t52 hg) at52 rfl rfl hp39 ?_
    rcases Decidable.em (xk.toInt > xp.toInt) with q3290 | q3290
    ·
      refine y_cT (c := .gt) (off := 16) (pc' := 31) (len := 3) (r := (0, 0, 0, 0)) (by decide +kernel) (acmpT (c := .gt) (by show _ < _; omega)) (by decide +kernel) ?_
      exact kk h _ hg (fun w hw => c1 w (by omega)) F0
    ·
      refine y_cF (c := .gt) (off := 16) (len := 3) (r := (0, 0, 0, 0)) (by decide +kernel) (acmpF (c := .gt) (by show _ ≤ _; omega)) ?_
      refine y_same (i := .aload_n 0) (len := 1) (r := (0, 0, 0, 0)) (pc' := 19) (ls' := [some (.inl (some 52)), some (zi xk)]) (st' := [.inl (some 52)]) (by decide +kernel) (fun k q => by cases q) rfl ?_
      refine y_get (j := 76) (len := 3) (r := (12, 35, 2, 1363)) (by decide +kernel) hg (t52 hg) at52 rfl rfl (g_r52 (f := 35) (T2 := 383) hg rfl (by decide)).1 ?_
      refine y_same (i := .iload_n 1) (len := 1) (r := (0, 0, 0, 0)) (pc' := 23) (ls' := [some (.inl (some 52)), some (zi xk)]) (st' := [zi xk, .inl (some 383)]) (by decide +kernel) (fun k q => by cases q) rfl ?_
      refine y_ic (c := (-1)) (len := 1) (r := (0, 0, 0, 0)) (by decide +kernel) (by decide) (fun y3291 hy3291 => ?_)
      refine y_ias (i := k) (len := 1) (r := (0, 0, 0, 0)) (by decide +kernel) hg (tu383 hg) at383 rfl (by omega) (by omega) (sr1 (by omega)) (by omega) (by omega) (fun h3292 hg3292 hl3292 hs3292 ho3292 => ?_)
      refine y_inc (j := 1) (a := xk) (c := 1) (ls' := fun v => [some (.inl (some 52)), some v]) (len := 3) (r := (0, 0, 0, 0)) (by decide +kernel) rfl (fun _ => rfl) (by decide) (by omega) (by omega) (fun y3293 hy3293 => ?_)
      show qX (d + 2) 250 28 [some (.inl (some 52)), some (zi y3293)] [] h3292 t _
      refine y_goto (off := (-18)) (pc' := 10) (len := 3) (r := (0, 0, 0, 0)) (by decide +kernel) (by decide +kernel) ?_
      refine ih h3292 (k + 1) y3293 hg3292 (fun w hw => ?_) (fun k j hC => (ho3292 k j (by omega)).trans (F0 k j hC)) (by omega) (by omega) (by omega)
      rcases Nat.lt_or_ge w k with q9 | q9
      · exact kx_up (c1 w q9) (ho3292 383 w (by omega))
      · have e9 : w = k := by omega
        subst e9
        exact ⟨_, hs3292, by omega⟩
theorem ib_l {d t : Nat} {τ : List Nat} {h0 : zh} {l : List it4} {ls : List Nat} {f sh : tlT} (hl0 : ci_ h0 55 0 l.length) (ip0 : ∀ (j : Nat) (i : it4), l[j]? = some i → qdM h0 55 (2 + 4 * j) i) (l5 : l.length ≤ 5) (ok : ∀ (j : Nat) (i : it4), l[j]? = some i → okI i) (pz : ∀ i ∈ l, pzi i) (men : ∀ i ∈ l, mnI ls i) (hfb : ∀ v, v ≤ 5 → f v ≤ 5) (hf0 : f 0 = 0) (hst : ∀ (j : Nat) (i : it4), l[j]? = some i → sh j ≤ tpI i) (tm0 : tM h0 ls f) (sm0 : shM h0 sh l.length) : ∀ (n : Nat) (h : zh) (H : hpT) (k : Nat) (xk : Int32), (hG τ h) → (hpM h H) → (hpW H) → (mxv f ≤ H.2.2.2 ∧ H.2.2.2 ≤ mxv f + k) → (∀ w, 1 ≤ w → w ≤ mxv f → (H.1 w ≠ -1 ↔ w ∈ own f (l.take k))) → ((0 :: own f (l.take k)).Nodup) → (∀ j, j < k → loS l f j ≤ sh j ∧ sh j ≤ hiS l f j) → (∀ k j, (k ≠ 383 ∧ k ≠ 384 ∧ k ≠ 385 ∧ (k ≠ 52 ∨ j ≠ 39)) → hsl h k j = hsl h0 k j) → (xk.toInt = (k : Int)) → (k ≤ l.length) → (l.length < k + n) → qX (d + 2) 250 43 [some (.inl (some 52)), some (zi xk)] [] h t (rI (fun y h1 => hG τ h1 ∧ (∀ k j, (k ≠ 383 ∧ k ≠ 384 ∧ k ≠ 385 ∧ (k ≠ 52 ∨ j ≠ 39)) → hsl h1 k j = hsl h0 k j) ∧ ((y.toInt = 1 ∧ bOK f sh l ∧ hpM h1 (bld_ f sh (l.drop k) k H)) ∨ (y.toInt = 0 ∧ ¬ bOK f sh l))) t) := by
  intro n
  induction n with
  | zero =>
    intro h H k xk hg hp hw htop Oi nd wi F0 hxk hk hn
    exfalso
    omega
  | succ n ih =>
    intro h H k xk hg hp hw htop Oi nd wi F0 hxk hk hn
    have U : ∀ k j, (k = 55 ∨ k = 381 ∨ k = 382) → hsl h k j = hsl h0 k j := fun k j hk => F0 k j (by omega)
    have tm : tM h ls f := tM_up tm0 (fun j => U _ _ (by omega))
    have sm : shM h sh l.length := shM_up sm0 (fun j => U _ _ (by omega))
    have ip : ∀ (j : Nat) (i : it4), l[j]? = some i → qdM h 55 (2 + 4 * j) i := fun j i hj => qdM_up (ip0 j i hj) (fun w _ => U _ _ (by omega))
    obtain ⟨xl, hl, el⟩ := ci_up hl0 (U 55 0 (by omega))
    have mb := mxv_b hfb
    refine y_same (i := .iload_n 1) (len := 1) (r := (0, 0, 0, 0)) (pc' := 44) (ls' := [some (.inl (some 52)), some (zi xk)]) (st' := [zi xk]) (by decide +kernel) (fun k q => by cases q) rfl ?_
    refine y_same (i := .aload_n 0) (len := 1) (r := (0, 0, 0, 0)) (pc' := 45) (ls' := [some (.inl (some 52)), some (zi xk)]) (st' := [.inl (some 52), zi xk]) (by decide +kernel) (fun k q => by cases q) rfl ?_
    refine y_get (j := 20) (len := 3) (r := (12, 9, 2, 1337)) (by decide +kernel) hg (t52 hg) at52 rfl rfl (g_r52 (f := 9) (T2 := 55) hg rfl (by decide)).1 ?_
    refine y_ic (c := 0) (len := 1) (r := (0, 0, 0, 0)) (by decide +kernel) (by decide) (fun y3294 hy3294 => ?_)
    refine y_cI (i := .invokestatic 143) (len := 3) (r := (1, 166, 12, 1543)) (nL := 2) (k := 1) (n := 2) (hs := []) (args := [.inl (some 55), zi y3294]) (rest := [zi xk]) (l0 := [some (.inl (some 55)), some (zi y3294)]) (by decide +kernel) (Or.inl ⟨_, rfl⟩) rfl rfl rfl rfl (Nat.le_of_ble_eq_true rfl) rfl rfl (qI_le (by omega) (m_parts (d := 0) (s := 0) hg (by omega) (by omega) hl)) (fun y3295 qy3295 hRy3295 => ?_)
    obtain ⟨rfl, rfl⟩ := hRy3295
    rcases Decidable.em (xk.toInt ≥ xl.toInt) with q3296 | q3296
    ·
      refine y_cT (c := .ge) (off := 19) (pc' := 71) (len := 3) (r := (0, 0, 0, 0)) (by decide +kernel) (acmpT (c := .ge) (by show _ ≤ _; omega)) (by decide +kernel) ?_
      refine y_ic (c := 1) (len := 1) (r := (0, 0, 0, 0)) (by decide +kernel) (by decide) (fun y3297 hy3297 => ?_)
      refine y_rI (len := 1) (r := (0, 0, 0, 0)) (nL := 2) (k := 2) (n9 := 1) (hs := []) (by decide +kernel) rfl (zfit_b (by omega) (by omega)).2 ?_
      rw [List.drop_of_length_le (show l.length ≤ k by omega)]
      rw [List.take_of_length_le (show l.length ≤ k by omega)] at nd
      exact ⟨hg, F0, Or.inl ⟨by omega, ⟨nd, fun j hj => wi j (by omega)⟩, hp⟩⟩
    ·
      refine y_cF (c := .ge) (off := 19) (len := 3) (r := (0, 0, 0, 0)) (by decide +kernel) (acmpF (c := .ge) (by show _ < _; omega)) ?_
      obtain ⟨ik, hk⟩ : ∃ ik, l[k]? = some ik := ⟨_, List.getElem?_eq_getElem (by omega)⟩
      have mem := List.mem_of_getElem? hk
      have okk := ok k ik hk
      have okk2 := okk
      unfold okI at okk2
      obtain ⟨xn, hn9, en9⟩ := sm k (by omega)
      have hnw : H.1 (H.2.2.2 + 1) = -1 := Decidable.byContradiction (fun q => by have := hw.2 _ q; omega)
      refine y_same (i := .aload_n 0) (len := 1) (r := (0, 0, 0, 0)) (pc' := 56) (ls' := [some (.inl (some 52)), some (zi xk)]) (st' := [.inl (some 52)]) (by decide +kernel) (fun k q => by cases q) rfl ?_
      refine y_same (i := .iload_n 1) (len := 1) (r := (0, 0, 0, 0)) (pc' := 57) (ls' := [some (.inl (some 52)), some (zi xk)]) (st' := [zi xk, .inl (some 52)]) (by decide +kernel) (fun k q => by cases q) rfl ?_
      refine y_cI (i := .invokevirtual 426) (len := 3) (r := (0, 249, 12, 1822)) (nL := 7) (k := 2) (n := 2) (hs := []) (args := [.inl (some 52), zi xk]) (rest := []) (l0 := [some (.inl (some 52)), some (zi xk), none, none, none, none, none]) (by decide +kernel) (Or.inr (Or.inl ⟨_, rfl⟩)) rfl rfl rfl rfl (Nat.le_of_ble_eq_true rfl) (z52 hg) rfl (qI_le (by omega) (m_pp (d := 0) (n := sh k) (H := H) (f := f) (ls := ls) hg ip hk (by omega) (by omega) okk (pz ik mem).1.2 (fun q9 => by rw [((pz ik mem).2.1 q9).1]; rfl) (fun q9 => by unfold vZ_; rw [(pz ik mem).2.2 q9]; exact hf0) hf0 (men ik mem) tm (mx := mxv f) (fun v hv => mxv_ge hv hf0) (by omega) (by omega) hnw hp hn9 en9 (hst k ik hk))) (fun y3298 h3298 hRy3298 => ?_)
      obtain ⟨hg3298, F3298, hD3298⟩ := hRy3298
      rcases hD3298 with ⟨op, hy3298, hp3298⟩ | ⟨op, hy3298⟩
      ·
        refine y_iT (c := .ne) (off := 5) (pc' := 65) (len := 3) (r := (0, 0, 0, 0)) (by decide +kernel) (acmpT (c := .ne) (by show ¬ (_ = _); omega)) (by decide +kernel) ?_
        refine y_inc (j := 1) (a := xk) (c := 1) (ls' := fun v => [some (.inl (some 52)), some v]) (len := 3) (r := (0, 0, 0, 0)) (by decide +kernel) rfl (fun _ => rfl) (by decide) (by omega) (by omega) (fun y3299 hy3299 => ?_)
        show qX (d + 2) 250 68 [some (.inl (some 52)), some (zi y3299)] [] h3298 t _
        refine y_goto (off := (-25)) (pc' := 43) (len := 3) (r := (0, 0, 0, 0)) (by decide +kernel) (by decide +kernel) ?_
        have wi9 := op.1
        rw [← loS_s hk, ← hiS_s hk] at wi9
        have ot := own_tk (f := f) hk
        obtain ⟨hw9, ht9⟩ := bld1_W (f := f) (i := ik) (n := sh k) hw (by omega) (fun q9 => by
          rcases q9 with q9 | q9
          · have := (op.2 (Or.inl q9)).1
            omega
          · have := (op.2 ((lo_hi op.1.1 op.1.2).2.2 q9)).1
            omega) (Nat.le_trans (mxv_ge (v := ik.2.1.toNat) (by omega) hf0) htop.1) (Nat.le_trans (mxv_ge (v := ik.2.2.1.toNat) (by omega) hf0) htop.1) (Nat.le_trans (mxv_ge (v := ik.2.2.2.toNat) (by omega) hf0) htop.1)
        have ht8 := bld1_top (f := f) (i := ik) (n := sh k) (H := H)
        rw [drop_c hk]
        refine ih h3298 (bld1 f ik (sh k) H) (k + 1) y3299 hg3298 hp3298 hw9 ⟨by omega, by omega⟩ (fun w h1 h2 => ?_) ?_ (fun j hj => ?_) (fun k j hC => ((F3298 k j (by omega))).trans (F0 k j hC)) (by omega) (by omega) (by omega)
        · rw [bld1_1 op (by omega) (by omega), Oi w h1 h2, ot]
          by_cases q9 : hsS f ik
          · rw [if_pos q9, List.mem_append, List.mem_singleton]
            exact ⟨fun q8 => q8.elim Or.inl (fun q7 => Or.inr q7.2), fun q8 => q8.elim Or.inl (fun q7 => Or.inr ⟨q9, q7⟩)⟩
          · rw [if_neg q9, List.append_nil]
            exact ⟨fun q8 => q8.elim id (fun q7 => absurd q7.1 q9), Or.inl⟩
        · rw [ot]
          by_cases q9 : hsS f ik
          · rw [if_pos q9]
            have op9 := op.2 q9
            refine nd_sn nd (fun q8 => ?_)
            rcases List.mem_cons.mp q8 with q7 | q7
            · exact op9.1 q7
            · exact (Oi (vX_ f ik) (by have := op9.1; omega) (mxv_ge (v := ik.2.1.toNat) (by omega) hf0)).mpr q7 op9.2
          · rw [if_neg q9, List.append_nil]
            exact nd
        · rcases Nat.lt_or_ge j k with q9 | q9
          · exact wi j q9
          · obtain rfl : j = k := by omega
            exact wi9
      ·
        refine y_iF (c := .ne) (off := 5) (len := 3) (r := (0, 0, 0, 0)) (by decide +kernel) (acmpF (c := .ne) (by show _ = _; omega)) ?_
        refine y_ic (c := 0) (len := 1) (r := (0, 0, 0, 0)) (by decide +kernel) (by decide) (fun y3300 hy3300 => ?_)
        refine y_rI (len := 1) (r := (0, 0, 0, 0)) (nL := 2) (k := 2) (n9 := 1) (hs := []) (by decide +kernel) rfl (zfit_b (by omega) (by omega)).2 ?_
        refine ⟨hg3298, (fun k j hC => ((F3298 k j (by omega))).trans (F0 k j hC)), Or.inr ⟨by omega, fun q9 => op ⟨?_, fun hs => ?_⟩⟩⟩
        · have := q9.2 k (by omega)
          rw [loS_s hk, hiS_s hk] at this
          exact this
        · refine Decidable.byContradiction (fun q8 => own_bad hk hs ?_ q9.1)
          rcases Nat.eq_zero_or_pos (vX_ f ik) with q7 | q7
          · rw [q7]
            exact List.mem_cons_self
          · exact List.mem_cons_of_mem _ ((Oi (vX_ f ik) q7 (mxv_ge (v := ik.2.1.toNat) (by omega) hf0)).mp (fun q6 => q8 ⟨by omega, q6⟩))
theorem m_ib {d t : Nat} {τ : List Nat} {h0 : zh} {l : List it4} {ls : List Nat} {f sh : tlT} (hg : hG τ h0) (hl0 : ci_ h0 55 0 l.length) (ip0 : ∀ (j : Nat) (i : it4), l[j]? = some i → qdM h0 55 (2 + 4 * j) i) (l5 : l.length ≤ 5) (ok : ∀ (j : Nat) (i : it4), l[j]? = some i → okI i) (pz : ∀ i ∈ l, pzi i) (men : ∀ i ∈ l, mnI ls i) (hfb : ∀ v, v ≤ 5 → f v ≤ 5) (hf0 : f 0 = 0) (hst : ∀ (j : Nat) (i : it4), l[j]? = some i → sh j ≤ tpI i) {c : List it4} (hc0 : ci_ h0 55 1 c.length) (ic0 : ∀ (j : Nat) (i : it4), c[j]? = some i → qdM h0 55 (22 + 4 * j) i) (l6 : c.length ≤ 6) (okc : ∀ (j : Nat) (i : it4), c[j]? = some i → okI i) (menc : ∀ i ∈ c, mnI ls i) (tm0 : tM h0 ls f) (sm0 : shM h0 sh l.length) (hu0 : ci_ h0 52 40 (mxv f)) : qI (d + 3) 250 [some (.inl (some 52)), none] h0 t (fun y h1 => hG τ h1 ∧ (∀ k j, (k ≠ 383 ∧ k ≠ 384 ∧ k ≠ 385 ∧ (k ≠ 52 ∨ j ≠ 39)) → hsl h1 k j = hsl h0 k j) ∧ ((y.toInt = 1 ∧ (arS f c ∧ bOK f sh l) ∧ hpM h1 (bld_ f sh l 0 (hp0 f))) ∨ (y.toInt = 0 ∧ ¬ (arS f c ∧ bOK f sh l)))) := by
  obtain ⟨xu, hu, eu⟩ := hu0
  have mb := mxv_b hfb
  refine qI_of ?_
  refine y_same (i := .aload_n 0) (len := 1) (r := (0, 0, 0, 0)) (pc' := 1) (ls' := [some (.inl (some 52)), none]) (st' := [.inl (some 52)]) (by decide +kernel) (fun k q => by cases q) rfl ?_
  refine y_same (i := .aload_n 0) (len := 1) (r := (0, 0, 0, 0)) (pc' := 2) (ls' := [some (.inl (some 52)), none]) (st' := [.inl (some 52), .inl (some 52)]) (by decide +kernel) (fun k q => by cases q) rfl ?_
  refine y_get (j := 420) (len := 3) (r := (12, 40, 0, 1368)) (by decide +kernel) hg (t52 hg) at52 rfl rfl hu ?_
  refine y_put (j := 410) (lo := 0) (hi := 31) (len := 3) (r := (12, 39, 0, 1367)) (by decide +kernel) hg (t52 hg) at52 rfl rfl (by decide) rfl (by omega) (by omega) rfl (fun h3301 hg3301 hl3301 hs3301 ho3301 => ?_)
  have ho3301 : hO 52 39 h0 h3301 := ho3301
  have hs3301 : hsl h3301 52 39 = some (zi xu) := hs3301
  refine y_ic (c := 0) (len := 1) (r := (0, 0, 0, 0)) (by decide +kernel) (by decide) (fun y3302 hy3302 => ?_)
  refine y_same (i := .istore_n 1) (len := 1) (r := (0, 0, 0, 0)) (pc' := 10) (ls' := [some (.inl (some 52)), some (zi y3302)]) (st' := []) (by decide +kernel) (fun k q => by cases q) rfl ?_
  refine no_l (m := mxv f) (h0 := h3301) hs3301 (by omega) (by omega) (fun h9 l1 g9 c9 F9 => ?_) (mxv f + 2) h3301 0 y3302 hg3301 (fun w hw => absurd hw (Nat.not_lt_zero w)) (fun k j _ => rfl) (by omega) (by omega) (by omega)
  refine y_same (i := .aload_n 0) (len := 1) (r := (0, 0, 0, 0)) (pc' := 32) (ls' := [some (.inl (some 52)), l1]) (st' := [.inl (some 52)]) (by decide +kernel) (fun k q => by cases q) rfl ?_
  refine y_ic (c := 0) (len := 1) (r := (0, 0, 0, 0)) (by decide +kernel) (by decide) (fun y3303 hy3303 => ?_)
  refine y_cI (i := .invokevirtual 423) (len := 3) (r := (0, 248, 12, 1818)) (nL := 4) (k := 2) (n := 2) (hs := []) (args := [.inl (some 52), zi y3303]) (rest := []) (l0 := [some (.inl (some 52)), some (zi y3303), none, none]) (by decide +kernel) (Or.inr (Or.inl ⟨_, rfl⟩)) rfl rfl rfl rfl (Nat.le_of_ble_eq_true rfl) (z52 g9) rfl (qI_le (by omega) (m_ca0 (d := 0) (mx := 5) (l := c) (ls := ls) (f := f) g9 (by omega) (ci_up hc0 (((F9 55 1 (by omega)).trans (ho3301 55 1 (by omega))))) (fun j i hj => qdM_up (ic0 j i hj) (fun w _ => ((F9 55 (22 + 4 * j + w) (by omega)).trans (ho3301 55 (22 + 4 * j + w) (by omega))))) l6 okc menc (tM_up tm0 (fun j => ((F9 381 j (by omega)).trans (ho3301 381 j (by omega))))) hfb)) (fun y3304 qy3304 hRy3304 => ?_)
  obtain ⟨rfl, hDy3304⟩ := hRy3304
  rcases hDy3304 with ⟨hyy3304, soy3304⟩ | ⟨hyy3304, soy3304⟩
  ·
    refine y_iT (c := .ne) (off := 5) (pc' := 41) (len := 3) (r := (0, 0, 0, 0)) (by decide +kernel) (acmpT (c := .ne) (by show ¬ (_ = _); omega)) (by decide +kernel) ?_
    refine y_ic (c := 0) (len := 1) (r := (0, 0, 0, 0)) (by decide +kernel) (by decide) (fun y3305 hy3305 => ?_)
    refine y_same (i := .istore_n 1) (len := 1) (r := (0, 0, 0, 0)) (pc' := 43) (ls' := [some (.inl (some 52)), some (zi y3305)]) (st' := []) (by decide +kernel) (fun k q => by cases q) rfl ?_
    refine qX_I (ib_l (h0 := h0) hl0 ip0 l5 ok pz men hfb hf0 hst tm0 sm0 (l.length + 1) h9 (hp0 f) 0 y3305 g9 ⟨fun w h1 => ⟨c9 w h1, fun q9 => absurd rfl q9⟩, ci_up ⟨_, hs3301, by show _ = ((mxv f : Nat) : Int); omega⟩ (F9 52 39 (by omega))⟩ (hp0_W (by omega)) ⟨Nat.le_refl _, by show mxv f ≤ _; omega⟩ (fun w h1 h2 => ⟨fun q9 => absurd rfl q9, fun q9 => by cases q9⟩) (by simp [own]) (fun j hj => absurd hj (Nat.not_lt_zero j)) (fun k j hC => ((F9 k j (by omega)).trans (ho3301 k j (by omega)))) (by omega) (by omega) (by omega)) (fun y h1 hR => ⟨hR.1, hR.2.1, ?_⟩)
    rw [List.drop_zero] at hR
    rcases hR.2.2 with ⟨q1, q2, q3⟩ | ⟨q1, q2⟩
    · exact Or.inl ⟨q1, ⟨soy3304, q2⟩, q3⟩
    · exact Or.inr ⟨q1, fun q3 => q2 q3.2⟩
  ·
    refine y_iF (c := .ne) (off := 5) (len := 3) (r := (0, 0, 0, 0)) (by decide +kernel) (acmpF (c := .ne) (by show _ = _; omega)) ?_
    refine y_ic (c := 0) (len := 1) (r := (0, 0, 0, 0)) (by decide +kernel) (by decide) (fun y3306 hy3306 => ?_)
    refine y_rI (len := 1) (r := (0, 0, 0, 0)) (nL := 2) (k := 2) (n9 := 1) (hs := []) (by decide +kernel) rfl (zfit_b (by omega) (by omega)).2 ?_
    exact ⟨g9, fun k j hC => ((F9 k j (by omega)).trans (ho3301 k j (by omega))), Or.inr ⟨by omega, fun q3 => soy3304 q3.1⟩⟩
/-! the model's small heaps: what the right side uses -/
def usM (h : zh) (u : usT) (m : Nat) : Prop := ∀ w, w ≤ m → ci_ h 386 w (u w).toNat
theorem usM_up {h h1 : zh} {u : usT} {m : Nat} (c : usM h u m) (e : ∀ j, hsl h1 386 j = hsl h 386 j) : usM h1 u m := fun w hw => ci_up (c w hw) (e w)
theorem m_us {d t w : Nat} {k9 : Int} {τ : List Nat} {h : zh} {H : hpT} {u : usT} {xw xk : Int32} (hg : hG τ h) (hp : hpM h H) (uc : usM h u H.2.2.2) (ht : H.2.2.2 ≤ 10) (exw : xw.toInt = (w : Int)) (hw : w ≤ H.2.2.2) (exk : xk.toInt = k9) : qI (d + 1) 251 [some (.inl (some 52)), some (zi xw), some (zi xk)] h t (fun y h1 => hG τ h1 ∧ (∀ k j, k ≠ 386 → hsl h1 k j = hsl h k j) ∧ ((∃ u', tkA H u w k9 = some u' ∧ y.toInt = 1 ∧ usM h1 u' H.2.2.2) ∨ (tkA H u w k9 = none ∧ y.toInt = 0 ∧ usM h1 u H.2.2.2))) := by
  obtain ⟨⟨xv, hv, ev⟩, -⟩ := hp.1 w hw
  obtain ⟨xb, hb, eb⟩ := uc w hw
  have bb := Bool.toNat_le (u w)
  refine qI_of ?_
  refine y_same (i := .iload_n 1) (len := 1) (r := (0, 0, 0, 0)) (pc' := 1) (ls' := [some (.inl (some 52)), some (zi xw), some (zi xk)]) (st' := [zi xw]) (by decide +kernel) (fun k q => by cases q) rfl ?_
  rcases Decidable.em (xw.toInt = 0) with q3307 | q3307
  ·
    refine y_iT (c := .eq) (off := 22) (pc' := 23) (len := 3) (r := (0, 0, 0, 0)) (by decide +kernel) (acmpT (c := .eq) (by show _ = _; omega)) (by decide +kernel) ?_
    refine y_ic (c := 0) (len := 1) (r := (0, 0, 0, 0)) (by decide +kernel) (by decide) (fun y3308 hy3308 => ?_)
    refine y_rI (len := 1) (r := (0, 0, 0, 0)) (nL := 3) (k := 2) (n9 := 3) (hs := []) (by decide +kernel) rfl (zfit_b (by omega) (by omega)).2 ?_
    exact ⟨hg, fun k j _ => rfl, Or.inr ⟨tkA_none (Or.inl (by omega)), by omega, uc⟩⟩
  ·
    refine y_iF (c := .eq) (off := 22) (len := 3) (r := (0, 0, 0, 0)) (by decide +kernel) (acmpF (c := .eq) (by show ¬ (_ = _); omega)) ?_
    refine y_same (i := .aload_n 0) (len := 1) (r := (0, 0, 0, 0)) (pc' := 5) (ls' := [some (.inl (some 52)), some (zi xw), some (zi xk)]) (st' := [.inl (some 52)]) (by decide +kernel) (fun k q => by cases q) rfl ?_
    refine y_get (j := 76) (len := 3) (r := (12, 35, 2, 1363)) (by decide +kernel) hg (t52 hg) at52 rfl rfl (g_r52 (f := 35) (T2 := 383) hg rfl (by decide)).1 ?_
    refine y_same (i := .iload_n 1) (len := 1) (r := (0, 0, 0, 0)) (pc' := 9) (ls' := [some (.inl (some 52)), some (zi xw), some (zi xk)]) (st' := [zi xw, .inl (some 383)]) (by decide +kernel) (fun k q => by cases q) rfl ?_
    refine y_ial (i := w) (len := 1) (r := (0, 0, 0, 0)) (by decide +kernel) hg (tu383 hg) at383 (by omega) hv ?_
    refine y_same (i := .iload_n 2) (len := 1) (r := (0, 0, 0, 0)) (pc' := 11) (ls' := [some (.inl (some 52)), some (zi xw), some (zi xk)]) (st' := [zi xk, zi xv]) (by decide +kernel) (fun k q => by cases q) rfl ?_
    rcases Decidable.em (xv.toInt ≠ xk.toInt) with q3309 | q3309
    ·
      refine y_cT (c := .ne) (off := 12) (pc' := 23) (len := 3) (r := (0, 0, 0, 0)) (by decide +kernel) (acmpT (c := .ne) (by show ¬ (_ = _); omega)) (by decide +kernel) ?_
      refine y_ic (c := 0) (len := 1) (r := (0, 0, 0, 0)) (by decide +kernel) (by decide) (fun y3310 hy3310 => ?_)
      refine y_rI (len := 1) (r := (0, 0, 0, 0)) (nL := 3) (k := 2) (n9 := 3) (hs := []) (by decide +kernel) rfl (zfit_b (by omega) (by omega)).2 ?_
      exact ⟨hg, fun k j _ => rfl, Or.inr ⟨tkA_none (Or.inr (Or.inl (by omega))), by omega, uc⟩⟩
    ·
      refine y_cF (c := .ne) (off := 12) (len := 3) (r := (0, 0, 0, 0)) (by decide +kernel) (acmpF (c := .ne) (by show _ = _; omega)) ?_
      refine y_same (i := .aload_n 0) (len := 1) (r := (0, 0, 0, 0)) (pc' := 15) (ls' := [some (.inl (some 52)), some (zi xw), some (zi xk)]) (st' := [.inl (some 52)]) (by decide +kernel) (fun k q => by cases q) rfl ?_
      refine y_get (j := 85) (len := 3) (r := (12, 38, 2, 1366)) (by decide +kernel) hg (t52 hg) at52 rfl rfl (g_r52 (f := 38) (T2 := 386) hg rfl (by decide)).1 ?_
      refine y_same (i := .iload_n 1) (len := 1) (r := (0, 0, 0, 0)) (pc' := 19) (ls' := [some (.inl (some 52)), some (zi xw), some (zi xk)]) (st' := [zi xw, .inl (some 386)]) (by decide +kernel) (fun k q => by cases q) rfl ?_
      refine y_bal (i := w) (len := 1) (r := (0, 0, 0, 0)) (by decide +kernel) hg (tu386 hg) at386 (by omega) hb ?_
      rcases Decidable.em (xb.toInt = 0) with q3311 | q3311
      ·
        refine y_iT (c := .eq) (off := 5) (pc' := 25) (len := 3) (r := (0, 0, 0, 0)) (by decide +kernel) (acmpT (c := .eq) (by show _ = _; omega)) (by decide +kernel) ?_
        refine y_same (i := .aload_n 0) (len := 1) (r := (0, 0, 0, 0)) (pc' := 26) (ls' := [some (.inl (some 52)), some (zi xw), some (zi xk)]) (st' := [.inl (some 52)]) (by decide +kernel) (fun k q => by cases q) rfl ?_
        refine y_get (j := 85) (len := 3) (r := (12, 38, 2, 1366)) (by decide +kernel) hg (t52 hg) at52 rfl rfl (g_r52 (f := 38) (T2 := 386) hg rfl (by decide)).1 ?_
        refine y_same (i := .iload_n 1) (len := 1) (r := (0, 0, 0, 0)) (pc' := 30) (ls' := [some (.inl (some 52)), some (zi xw), some (zi xk)]) (st' := [zi xw, .inl (some 386)]) (by decide +kernel) (fun k q => by cases q) rfl ?_
        refine y_ic (c := 1) (len := 1) (r := (0, 0, 0, 0)) (by decide +kernel) (by decide) (fun y3312 hy3312 => ?_)
        refine y_bas (i := w) (len := 1) (r := (0, 0, 0, 0)) (by decide +kernel) hg (tu386 hg) at386 rfl (by omega) (by omega) (sr1 (by omega)) (by omega) (by omega) (zfit_b (by omega) (by omega)).1 (fun h3313 hg3313 hl3313 hs3313 ho3313 => ?_)
        refine y_ic (c := 1) (len := 1) (r := (0, 0, 0, 0)) (by decide +kernel) (by decide) (fun y3314 hy3314 => ?_)
        refine y_rI (len := 1) (r := (0, 0, 0, 0)) (nL := 3) (k := 2) (n9 := 3) (hs := []) (by decide +kernel) rfl (zfit_b (by omega) (by omega)).2 ?_
        have hu0 : u w = false := by
          cases q9 : u w with
          | false => rfl
          | true =>
            rw [q9] at eb
            exfalso
            have eb : xb.toInt = 1 := eb
            omega
        refine ⟨hg3313, fun k j hC => (ho3313 k j (by omega)), Or.inl ⟨_, tkA_yes (by omega) (by omega) hu0, by omega, fun v hv9 => ?_⟩⟩
        by_cases q8 : v = w
        · subst q8
          rw [st1_at rfl]
          exact ⟨_, hs3313, by show _ = ((1 : Nat) : Int); omega⟩
        · rw [st1_ne q8]
          exact ci_up (uc v hv9) (ho3313 386 v (by omega))
      ·
        refine y_iF (c := .eq) (off := 5) (len := 3) (r := (0, 0, 0, 0)) (by decide +kernel) (acmpF (c := .eq) (by show ¬ (_ = _); omega)) ?_
        refine y_ic (c := 0) (len := 1) (r := (0, 0, 0, 0)) (by decide +kernel) (by decide) (fun y3315 hy3315 => ?_)
        refine y_rI (len := 1) (r := (0, 0, 0, 0)) (nL := 3) (k := 2) (n9 := 3) (hs := []) (by decide +kernel) rfl (zfit_b (by omega) (by omega)).2 ?_
        refine ⟨hg, fun k j _ => rfl, Or.inr ⟨tkA_none (Or.inr (Or.inr ?_)), by omega, uc⟩⟩
        cases q9 : u w with
        | true => rfl
        | false =>
          rw [q9] at eb
          exfalso
          have eb : xb.toInt = 0 := eb
          omega
theorem m_ut {t : Nat} {τ : List Nat} {H : hpT} (hw : hpW H) : ∀ (n : Nat) (h : zh) (u : usT) (x : Nat) (xx : Int32), hG τ h → hpM h H → usM h u H.2.2.2 → xx.toInt = (x : Int) → x ≤ H.2.2.2 → 10 < cu_ u + n → qI (n + 2) 252 [some (.inl (some 52)), some (zi xx)] h t (fun y h1 => hG τ h1 ∧ (∀ k j, k ≠ 386 → hsl h1 k j = hsl h k j) ∧ ((∃ u', y.toInt = 1 ∧ cu_ u ≤ cu_ u' ∧ usM h1 u' H.2.2.2 ∧ ∀ (fu : Nat) (st : List Nat), st.length + 1 + 2 * (10 - cu_ u) ≤ fu → tkT H fu u (x :: st) = tkT H (fu - 1 - 2 * (cu_ u' - cu_ u)) u' st) ∨ (y.toInt = 0 ∧ ∀ (fu : Nat) (st : List Nat), st.length + 1 + 2 * (10 - cu_ u) ≤ fu → tkT H fu u (x :: st) = none))) := by
  intro n
  induction n with
  | zero =>
    intro h u x xx hg hp uc exx hx hn
    have := cu_le (u := u)
    exfalso
    omega
  | succ n ih =>
    intro h u x xx hg hp uc exx hx hn
    have hw1 := hw.1
    have cl := cu_le (u := u)
    refine qI_of ?_
    refine y_same (i := .iload_n 1) (len := 1) (r := (0, 0, 0, 0)) (pc' := 1) (ls' := [some (.inl (some 52)), some (zi xx)]) (st' := [zi xx]) (by decide +kernel) (fun k q => by cases q) rfl ?_
    rcases Decidable.em (xx.toInt = 0) with q3316 | q3316
    ·
      refine y_iT (c := .eq) (off := 38) (pc' := 39) (len := 3) (r := (0, 0, 0, 0)) (by decide +kernel) (acmpT (c := .eq) (by show _ = _; omega)) (by decide +kernel) ?_
      refine y_ic (c := 1) (len := 1) (r := (0, 0, 0, 0)) (by decide +kernel) (by decide) (fun y3317 hy3317 => ?_)
      refine y_goto (off := 4) (pc' := 44) (len := 3) (r := (0, 0, 0, 0)) (by decide +kernel) (by decide +kernel) ?_
      refine y_rI (len := 1) (r := (0, 0, 0, 0)) (nL := 2) (k := 2) (n9 := 2) (hs := []) (by decide +kernel) rfl (zfit_b (by omega) (by omega)).2 ?_
      obtain rfl : x = 0 := by omega
      refine ⟨hg, fun k j _ => rfl, Or.inl ⟨u, by omega, Nat.le_refl _, uc, fun fu st hf => ?_⟩⟩
      obtain ⟨m9, rfl⟩ : ∃ m, fu = m + 1 := ⟨fu - 1, by omega⟩
      rw [tkT_0, show m9 + 1 - 1 - 2 * (cu_ u - cu_ u) = m9 by omega]
    ·
      refine y_iF (c := .eq) (off := 38) (len := 3) (r := (0, 0, 0, 0)) (by decide +kernel) (acmpF (c := .eq) (by show ¬ (_ = _); omega)) ?_
      refine y_same (i := .aload_n 0) (len := 1) (r := (0, 0, 0, 0)) (pc' := 5) (ls' := [some (.inl (some 52)), some (zi xx)]) (st' := [.inl (some 52)]) (by decide +kernel) (fun k q => by cases q) rfl ?_
      refine y_same (i := .iload_n 1) (len := 1) (r := (0, 0, 0, 0)) (pc' := 6) (ls' := [some (.inl (some 52)), some (zi xx)]) (st' := [zi xx, .inl (some 52)]) (by decide +kernel) (fun k q => by cases q) rfl ?_
      refine y_ic (c := 1) (len := 1) (r := (0, 0, 0, 0)) (by decide +kernel) (by decide) (fun y3318 hy3318 => ?_)
      refine y_cI (i := .invokevirtual 429) (len := 3) (r := (0, 251, 12, 1842)) (nL := 3) (k := 2) (n := 3) (hs := []) (args := [.inl (some 52), zi xx, zi y3318]) (rest := []) (l0 := [some (.inl (some 52)), some (zi xx), some (zi y3318)]) (by decide +kernel) (Or.inr (Or.inl ⟨_, rfl⟩)) rfl rfl rfl rfl (Nat.le_of_ble_eq_true rfl) (z52 hg) rfl (qI_le (by omega) (m_us (d := 0) (w := x) (k9 := 1) (u := u) hg hp uc hw.1 (by omega) (by omega) (by omega))) (fun y3319 h3319 hRy3319 => ?_)
      obtain ⟨hg3319, F3319, hD3319⟩ := hRy3319
      rcases hD3319 with ⟨u3319, tk3319, hy3319, uc3319⟩ | ⟨tk3319, hy3319, uc3319⟩
      ·
        obtain ⟨t13319, t23319, t33319, t43319⟩ := tkA_some tk3319
        obtain ⟨⟨xa3319, ha3319, ea3319⟩, xb3319, hb3319, eb3319⟩ := (hp.1 x (by omega)).2 (by rw [t23319]; decide)
        have hB3319 := hw.2 x (by rw [t23319]; decide)
        have cu3319 := cu_tk (w := x) (by omega) tk3319
        refine y_iF (c := .eq) (off := 33) (len := 3) (r := (0, 0, 0, 0)) (by decide +kernel) (acmpF (c := .eq) (by show ¬ (_ = _); omega)) ?_
        refine y_same (i := .aload_n 0) (len := 1) (r := (0, 0, 0, 0)) (pc' := 14) (ls' := [some (.inl (some 52)), some (zi xx)]) (st' := [.inl (some 52)]) (by decide +kernel) (fun k q => by cases q) rfl ?_
        refine y_same (i := .aload_n 0) (len := 1) (r := (0, 0, 0, 0)) (pc' := 15) (ls' := [some (.inl (some 52)), some (zi xx)]) (st' := [.inl (some 52), .inl (some 52)]) (by decide +kernel) (fun k q => by cases q) rfl ?_
        refine y_get (j := 79) (len := 3) (r := (12, 36, 2, 1364)) (by decide +kernel) hg3319 (t52 hg3319) at52 rfl rfl (g_r52 (f := 36) (T2 := 384) hg3319 rfl (by decide)).1 ?_
        refine y_same (i := .iload_n 1) (len := 1) (r := (0, 0, 0, 0)) (pc' := 19) (ls' := [some (.inl (some 52)), some (zi xx)]) (st' := [zi xx, .inl (some 384), .inl (some 52)]) (by decide +kernel) (fun k q => by cases q) rfl ?_
        have hv3320 := (F3319 384 x (by omega)).trans ha3319
        refine y_ial (i := x) (len := 1) (r := (0, 0, 0, 0)) (by decide +kernel) hg3319 (tu384 hg3319) at384 (by omega) hv3320 ?_
        have hc3321 := cu_le (u := u3319)
        refine y_cI (i := .invokevirtual 432) (len := 3) (r := (0, 252, 12, 1846)) (nL := 2) (k := 2) (n := 2) (hs := []) (args := [.inl (some 52), zi xa3319]) (rest := []) (l0 := [some (.inl (some 52)), some (zi xa3319)]) (by decide +kernel) (Or.inr (Or.inl ⟨_, rfl⟩)) rfl rfl rfl rfl (Nat.le_of_ble_eq_true rfl) (z52 hg3319) rfl (ih h3319 u3319 (H.2.1 x) xa3319 hg3319 (hpM_up hp (fun k j hC => (F3319 k j (by omega)))) uc3319 (by omega) (by omega) (by omega)) (fun y3321 h3321 hRy3321 => ?_)
        obtain ⟨hg3321, F3321, hD3321⟩ := hRy3321
        rcases hD3321 with ⟨u3321, hy3321, cl3321, uc3321, q3321⟩ | ⟨hy3321, q3321⟩
        ·
          refine y_iF (c := .eq) (off := 20) (len := 3) (r := (0, 0, 0, 0)) (by decide +kernel) (acmpF (c := .eq) (by show ¬ (_ = _); omega)) ?_
          refine y_same (i := .aload_n 0) (len := 1) (r := (0, 0, 0, 0)) (pc' := 27) (ls' := [some (.inl (some 52)), some (zi xx)]) (st' := [.inl (some 52)]) (by decide +kernel) (fun k q => by cases q) rfl ?_
          refine y_same (i := .aload_n 0) (len := 1) (r := (0, 0, 0, 0)) (pc' := 28) (ls' := [some (.inl (some 52)), some (zi xx)]) (st' := [.inl (some 52), .inl (some 52)]) (by decide +kernel) (fun k q => by cases q) rfl ?_
          refine y_get (j := 82) (len := 3) (r := (12, 37, 2, 1365)) (by decide +kernel) hg3321 (t52 hg3321) at52 rfl rfl (g_r52 (f := 37) (T2 := 385) hg3321 rfl (by decide)).1 ?_
          refine y_same (i := .iload_n 1) (len := 1) (r := (0, 0, 0, 0)) (pc' := 32) (ls' := [some (.inl (some 52)), some (zi xx)]) (st' := [zi xx, .inl (some 385), .inl (some 52)]) (by decide +kernel) (fun k q => by cases q) rfl ?_
          have hv3322 := (F3319 385 x (by omega)).trans hb3319
          have hv3323 := (F3321 385 x (by omega)).trans hv3322
          refine y_ial (i := x) (len := 1) (r := (0, 0, 0, 0)) (by decide +kernel) hg3321 (tu385 hg3321) at385 (by omega) hv3323 ?_
          have hc3324 := cu_le (u := u3321)
          refine y_cI (i := .invokevirtual 432) (len := 3) (r := (0, 252, 12, 1846)) (nL := 2) (k := 2) (n := 2) (hs := []) (args := [.inl (some 52), zi xb3319]) (rest := []) (l0 := [some (.inl (some 52)), some (zi xb3319)]) (by decide +kernel) (Or.inr (Or.inl ⟨_, rfl⟩)) rfl rfl rfl rfl (Nat.le_of_ble_eq_true rfl) (z52 hg3321) rfl (ih h3321 u3321 (H.2.2.1 x) xb3319 hg3321 (hpM_up hp (fun k j hC => ((F3321 k j (by omega)).trans (F3319 k j (by omega))))) uc3321 (by omega) (by omega) (by omega)) (fun y3324 h3324 hRy3324 => ?_)
          obtain ⟨hg3324, F3324, hD3324⟩ := hRy3324
          rcases hD3324 with ⟨u3324, hy3324, cl3324, uc3324, q3324⟩ | ⟨hy3324, q3324⟩
          ·
            refine y_iF (c := .eq) (off := 7) (len := 3) (r := (0, 0, 0, 0)) (by decide +kernel) (acmpF (c := .eq) (by show ¬ (_ = _); omega)) ?_
            refine y_ic (c := 1) (len := 1) (r := (0, 0, 0, 0)) (by decide +kernel) (by decide) (fun y3325 hy3325 => ?_)
            refine y_goto (off := 4) (pc' := 44) (len := 3) (r := (0, 0, 0, 0)) (by decide +kernel) (by decide +kernel) ?_
            refine y_rI (len := 1) (r := (0, 0, 0, 0)) (nL := 2) (k := 2) (n9 := 2) (hs := []) (by decide +kernel) rfl (zfit_b (by omega) (by omega)).2 ?_
            have cu1 := cu_tk (by omega) tk3319
            have cl2 := cu_le (u := u3321)
            have cl3 := cu_le (u := u3324)
            refine ⟨hg3324, (fun k j hC => ((F3324 k j (by omega)).trans ((F3321 k j (by omega)).trans (F3319 k j (by omega))))), Or.inl ⟨u3324, by omega, by omega, uc3324, fun fu st hf => ?_⟩⟩
            obtain ⟨m9, rfl⟩ : ∃ m, fu = m + 1 := ⟨fu - 1, by omega⟩
            have lw : (H.2.2.1 x :: st).length = st.length + 1 := rfl
            rw [tkT_s (by omega) tk3319]
            rw [q3321 m9 (H.2.2.1 x :: st) (by omega), q3324 _ st (by omega)]
            congr 1
            omega
          ·
            refine y_iT (c := .eq) (off := 7) (pc' := 43) (len := 3) (r := (0, 0, 0, 0)) (by decide +kernel) (acmpT (c := .eq) (by show _ = _; omega)) (by decide +kernel) ?_
            refine y_ic (c := 0) (len := 1) (r := (0, 0, 0, 0)) (by decide +kernel) (by decide) (fun y3326 hy3326 => ?_)
            refine y_rI (len := 1) (r := (0, 0, 0, 0)) (nL := 2) (k := 2) (n9 := 2) (hs := []) (by decide +kernel) rfl (zfit_b (by omega) (by omega)).2 ?_
            have cu1 := cu_tk (by omega) tk3319
            have cl2 := cu_le (u := u3321)
            refine ⟨hg3324, (fun k j hC => ((F3324 k j (by omega)).trans ((F3321 k j (by omega)).trans (F3319 k j (by omega))))), Or.inr ⟨by omega, fun fu st hf => ?_⟩⟩
            obtain ⟨m9, rfl⟩ : ∃ m, fu = m + 1 := ⟨fu - 1, by omega⟩
            have lw : (H.2.2.1 x :: st).length = st.length + 1 := rfl
            rw [tkT_s (by omega) tk3319]
            rw [q3321 m9 (H.2.2.1 x :: st) (by omega)]
            exact q3324 _ st (by omega)
        ·
          refine y_iT (c := .eq) (off := 20) (pc' := 43) (len := 3) (r := (0, 0, 0, 0)) (by decide +kernel) (acmpT (c := .eq) (by show _ = _; omega)) (by decide +kernel) ?_
          refine y_ic (c := 0) (len := 1) (r := (0, 0, 0, 0)) (by decide +kernel) (by decide) (fun y3327 hy3327 => ?_)
          refine y_rI (len := 1) (r := (0, 0, 0, 0)) (nL := 2) (k := 2) (n9 := 2) (hs := []) (by decide +kernel) rfl (zfit_b (by omega) (by omega)).2 ?_
          have cu1 := cu_tk (by omega) tk3319
          refine ⟨hg3321, (fun k j hC => ((F3321 k j (by omega)).trans (F3319 k j (by omega)))), Or.inr ⟨by omega, fun fu st hf => ?_⟩⟩
          obtain ⟨m9, rfl⟩ : ∃ m, fu = m + 1 := ⟨fu - 1, by omega⟩
          have lw : (H.2.2.1 x :: st).length = st.length + 1 := rfl
          rw [tkT_s (by omega) tk3319]
          exact q3321 m9 (H.2.2.1 x :: st) (by omega)
      ·
        refine y_iT (c := .eq) (off := 33) (pc' := 43) (len := 3) (r := (0, 0, 0, 0)) (by decide +kernel) (acmpT (c := .eq) (by show _ = _; omega)) (by decide +kernel) ?_
        refine y_ic (c := 0) (len := 1) (r := (0, 0, 0, 0)) (by decide +kernel) (by decide) (fun y3328 hy3328 => ?_)
        refine y_rI (len := 1) (r := (0, 0, 0, 0)) (nL := 2) (k := 2) (n9 := 2) (hs := []) (by decide +kernel) rfl (zfit_b (by omega) (by omega)).2 ?_
        refine ⟨hg3319, (fun k j hC => (F3319 k j (by omega))), Or.inr ⟨by omega, fun fu st hf => ?_⟩⟩
        obtain ⟨m9, rfl⟩ : ∃ m, fu = m + 1 := ⟨fu - 1, by omega⟩
        exact tkT_n (by omega) tk3319
theorem ul_l {d t y : Nat} {τ : List Nat} {h0 : zh} {H : hpT} {l1 : Option zv} {xq xy : Int32} (hw : hpW H) (exy : xy.toInt = (y : Int)) : ∀ (n : Nat) (h : zh) (x : Nat) (u : usT) (xx : Int32) (n9 : Nat), (hG τ h) → (hpM h H) → (usM h u H.2.2.2) → (∀ k j, k ≠ 386 → hsl h k j = hsl h0 k j) → (xx.toInt = (x : Int)) → (x ≤ H.2.2.2) → (11 ≤ n9 + cu_ u) → (11 ≤ cu_ u + n) → qX (d + 13) 253 142 [some (.inl (some 52)), l1, some (zi xq), some (zi xx), some (zi xy)] [] h t (rI (fun y9 h1 => hG τ h1 ∧ (∀ k j, k ≠ 386 → hsl h1 k j = hsl h0 k j) ∧ ((∃ u', tkL H n9 u x y = some u' ∧ y9.toInt = 1 ∧ usM h1 u' H.2.2.2) ∨ (tkL H n9 u x y = none ∧ y9.toInt = 0))) t) := by
  intro n
  induction n with
  | zero =>
    intro h x u xx n9 hg hp uc F0 hxx hx hn9 hn
    have cl := cu_le (u := u)
    exfalso
    omega
  | succ n ih =>
    intro h x u xx n9 hg hp uc F0 hxx hx hn9 hn
    have cl := cu_le (u := u)
    have hw1 := hw.1
    refine y_same (i := .iload_n 3) (len := 1) (r := (0, 0, 0, 0)) (pc' := 143) (ls' := [some (.inl (some 52)), l1, some (zi xq), some (zi xx), some (zi xy)]) (st' := [zi xx]) (by decide +kernel) (fun k q => by cases q) rfl ?_
    refine y_same (i := .iload 4) (len := 2) (r := (0, 0, 0, 0)) (pc' := 145) (ls' := [some (.inl (some 52)), l1, some (zi xq), some (zi xx), some (zi xy)]) (st' := [zi xy, zi xx]) (by decide +kernel) (fun k q => by cases q) rfl ?_
    rcases Decidable.em (xx.toInt = xy.toInt) with q3329 | q3329
    ·
      refine y_cT (c := .eq) (off := 24) (pc' := 169) (len := 3) (r := (0, 0, 0, 0)) (by decide +kernel) (acmpT (c := .eq) (by show _ = _; omega)) (by decide +kernel) ?_
      refine y_ic (c := 1) (len := 1) (r := (0, 0, 0, 0)) (by decide +kernel) (by decide) (fun y3330 hy3330 => ?_)
      refine y_rI (len := 1) (r := (0, 0, 0, 0)) (nL := 5) (k := 2) (n9 := 2) (hs := []) (by decide +kernel) rfl (zfit_b (by omega) (by omega)).2 ?_
      exact ⟨hg, F0, Or.inl ⟨u, tkL_e (by omega), by omega, uc⟩⟩
    ·
      refine y_cF (c := .eq) (off := 24) (len := 3) (r := (0, 0, 0, 0)) (by decide +kernel) (acmpF (c := .eq) (by show ¬ (_ = _); omega)) ?_
      refine y_same (i := .aload_n 0) (len := 1) (r := (0, 0, 0, 0)) (pc' := 149) (ls' := [some (.inl (some 52)), l1, some (zi xq), some (zi xx), some (zi xy)]) (st' := [.inl (some 52)]) (by decide +kernel) (fun k q => by cases q) rfl ?_
      refine y_same (i := .iload_n 3) (len := 1) (r := (0, 0, 0, 0)) (pc' := 150) (ls' := [some (.inl (some 52)), l1, some (zi xq), some (zi xx), some (zi xy)]) (st' := [zi xx, .inl (some 52)]) (by decide +kernel) (fun k q => by cases q) rfl ?_
      refine y_ic (c := 0) (len := 1) (r := (0, 0, 0, 0)) (by decide +kernel) (by decide) (fun y3331 hy3331 => ?_)
      refine y_cI (i := .invokevirtual 429) (len := 3) (r := (0, 251, 12, 1842)) (nL := 3) (k := 2) (n := 3) (hs := []) (args := [.inl (some 52), zi xx, zi y3331]) (rest := []) (l0 := [some (.inl (some 52)), some (zi xx), some (zi y3331)]) (by decide +kernel) (Or.inr (Or.inl ⟨_, rfl⟩)) rfl rfl rfl rfl (Nat.le_of_ble_eq_true rfl) (z52 hg) rfl (qI_le (by omega) (m_us (d := 0) (w := x) (k9 := 0) (u := u) hg hp uc hw.1 (by omega) (by omega) (by omega))) (fun y3332 h3332 hRy3332 => ?_)
      obtain ⟨hg3332, F3332, hD3332⟩ := hRy3332
      rcases hD3332 with ⟨u3332, tk3332, hy3332, uc3332⟩ | ⟨tk3332, hy3332, uc3332⟩
      ·
        obtain ⟨t13332, t23332, t33332, t43332⟩ := tkA_some tk3332
        obtain ⟨⟨xa3332, ha3332, ea3332⟩, xb3332, hb3332, eb3332⟩ := (hp.1 x (by omega)).2 (by rw [t23332]; decide)
        have hB3332 := hw.2 x (by rw [t23332]; decide)
        have cu3332 := cu_tk (w := x) (by omega) tk3332
        refine y_iT (c := .ne) (off := 5) (pc' := 159) (len := 3) (r := (0, 0, 0, 0)) (by decide +kernel) (acmpT (c := .ne) (by show ¬ (_ = _); omega)) (by decide +kernel) ?_
        refine y_same (i := .aload_n 0) (len := 1) (r := (0, 0, 0, 0)) (pc' := 160) (ls' := [some (.inl (some 52)), l1, some (zi xq), some (zi xx), some (zi xy)]) (st' := [.inl (some 52)]) (by decide +kernel) (fun k q => by cases q) rfl ?_
        refine y_get (j := 79) (len := 3) (r := (12, 36, 2, 1364)) (by decide +kernel) hg3332 (t52 hg3332) at52 rfl rfl (g_r52 (f := 36) (T2 := 384) hg3332 rfl (by decide)).1 ?_
        refine y_same (i := .iload_n 3) (len := 1) (r := (0, 0, 0, 0)) (pc' := 164) (ls' := [some (.inl (some 52)), l1, some (zi xq), some (zi xx), some (zi xy)]) (st' := [zi xx, .inl (some 384)]) (by decide +kernel) (fun k q => by cases q) rfl ?_
        have hv3333 := (F3332 384 x (by omega)).trans ha3332
        refine y_ial (i := x) (len := 1) (r := (0, 0, 0, 0)) (by decide +kernel) hg3332 (tu384 hg3332) at384 (by omega) hv3333 ?_
        refine y_same (i := .istore_n 3) (len := 1) (r := (0, 0, 0, 0)) (pc' := 166) (ls' := [some (.inl (some 52)), l1, some (zi xq), some (zi xa3332), some (zi xy)]) (st' := []) (by decide +kernel) (fun k q => by cases q) rfl ?_
        refine y_goto (off := (-24)) (pc' := 142) (len := 3) (r := (0, 0, 0, 0)) (by decide +kernel) (by decide +kernel) ?_
        have hc9 := cu_tk (by omega) tk3332
        obtain ⟨m9, rfl⟩ : ∃ m, n9 = m + 1 := ⟨n9 - 1, by omega⟩
        rw [tkL_s (show x ≠ y by omega) tk3332]
        exact ih h3332 (H.2.1 x) u3332 xa3332 m9 hg3332 (hpM_up hp (fun k j hC => (F3332 k j (by omega)))) uc3332 (fun k j hC => ((F3332 k j (by omega))).trans (F0 k j hC)) (by omega) (by omega) (by omega) (by omega)
      ·
        refine y_iF (c := .ne) (off := 5) (len := 3) (r := (0, 0, 0, 0)) (by decide +kernel) (acmpF (c := .ne) (by show _ = _; omega)) ?_
        refine y_ic (c := 0) (len := 1) (r := (0, 0, 0, 0)) (by decide +kernel) (by decide) (fun y3334 hy3334 => ?_)
        refine y_rI (len := 1) (r := (0, 0, 0, 0)) (nL := 5) (k := 2) (n9 := 2) (hs := []) (by decide +kernel) rfl (zfit_b (by omega) (by omega)).2 ?_
        obtain ⟨m9, rfl⟩ : ∃ m, n9 = m + 1 := ⟨n9 - 1, by omega⟩
        exact ⟨hg3332, (fun k j hC => ((F3332 k j (by omega))).trans (F0 k j hC)), Or.inr ⟨tkL_n (show x ≠ y by omega) tk3332, by omega⟩⟩
theorem m_up {d t k : Nat} {τ : List Nat} {h : zh} {l : List it4} {ls : List Nat} {f : tlT} {H : hpT} {u : usT} {ik : it4} {xi : Int32} (hg : hG τ h) (ip : ∀ (j : Nat) (i : it4), l[j]? = some i → qdM h 55 (48 + 4 * j) i) (hk : l[k]? = some ik) (hk5 : k < 5) (exi : xi.toInt = (k : Int)) (okk : okI ik) (mn : mnI ls ik) (tm : tM h ls f) {mx : Nat} (hfb : ∀ v, v ≤ 5 → f v ≤ mx) (hmx : mx ≤ H.2.2.2) (hp : hpM h H) (uc : usM h u H.2.2.2) (hw : hpW H) : qI (d + 14) 253 [some (.inl (some 52)), some (zi xi), none, none, none] h t (fun y9 h1 => hG τ h1 ∧ (∀ k j, k ≠ 386 → hsl h1 k j = hsl h k j) ∧ ((∃ u', tkP H f u ik = some u' ∧ y9.toInt = 1 ∧ usM h1 u' H.2.2.2) ∨ (tkP H f u ik = none ∧ y9.toInt = 0))) := by
  unfold okI at okk
  have hw1 := hw.1
  refine qI_of ?_
  obtain ⟨x0z, x1z, x2z, x3z, ⟨g0z, g1z, g2z, g3z⟩, e0z, e1z, e2z, e3z⟩ := ip k ik hk
  have g0z : hsl h 55 (48 + 4 * k) = some (zi x0z) := g0z
  have g1z : hsl h 55 ((48 + 4 * k) + 1) = some (zi x1z) := g1z
  have g2z : hsl h 55 ((48 + 4 * k) + 2) = some (zi x2z) := g2z
  have g3z : hsl h 55 ((48 + 4 * k) + 3) = some (zi x3z) := g3z
  refine y_ic (c := 1) (len := 1) (r := (0, 0, 0, 0)) (by decide +kernel) (by decide) (fun y3335 hy3335 => ?_)
  refine y_same (i := .iload_n 1) (len := 1) (r := (0, 0, 0, 0)) (pc' := 2) (ls' := [some (.inl (some 52)), some (zi xi), none, none, none]) (st' := [zi xi, zi y3335]) (by decide +kernel) (fun k q => by cases q) rfl ?_
  refine y_cI (i := .invokestatic 147) (len := 3) (r := (1, 168, 12, 1546)) (nL := 2) (k := 1) (n := 2) (hs := []) (args := [zi y3335, zi xi]) (rest := []) (l0 := [some (zi y3335), some (zi xi)]) (by decide +kernel) (Or.inl ⟨_, rfl⟩) rfl rfl rfl rfl (Nat.le_of_ble_eq_true rfl) rfl rfl (qI_le (by omega) (m_partAt (d := 0) (s := 1) (k := k) (by omega) (by omega) (by omega) (by omega))) (fun y3336 qy3336 hRy3336 => ?_)
  obtain ⟨rfl, hy3336⟩ := hRy3336
  refine y_same (i := .istore_n 2) (len := 1) (r := (0, 0, 0, 0)) (pc' := 6) (ls' := [some (.inl (some 52)), some (zi xi), some (zi y3336), none, none]) (st' := []) (by decide +kernel) (fun k q => by cases q) rfl ?_
  refine y_same (i := .aload_n 0) (len := 1) (r := (0, 0, 0, 0)) (pc' := 7) (ls' := [some (.inl (some 52)), some (zi xi), some (zi y3336), none, none]) (st' := [.inl (some 52)]) (by decide +kernel) (fun k q => by cases q) rfl ?_
  refine y_get (j := 70) (len := 3) (r := (12, 33, 2, 1361)) (by decide +kernel) hg (t52 hg) at52 rfl rfl (g_r52 (f := 33) (T2 := 381) hg rfl (by decide)).1 ?_
  refine y_same (i := .aload_n 0) (len := 1) (r := (0, 0, 0, 0)) (pc' := 11) (ls' := [some (.inl (some 52)), some (zi xi), some (zi y3336), none, none]) (st' := [.inl (some 52), .inl (some 381)]) (by decide +kernel) (fun k q => by cases q) rfl ?_
  refine y_get (j := 20) (len := 3) (r := (12, 9, 2, 1337)) (by decide +kernel) hg (t52 hg) at52 rfl rfl (g_r52 (f := 9) (T2 := 55) hg rfl (by decide)).1 ?_
  refine y_same (i := .iload_n 2) (len := 1) (r := (0, 0, 0, 0)) (pc' := 15) (ls' := [some (.inl (some 52)), some (zi xi), some (zi y3336), none, none]) (st' := [zi y3336, .inl (some 55), .inl (some 381)]) (by decide +kernel) (fun k q => by cases q) rfl ?_
  refine y_ic (c := 1) (len := 1) (r := (0, 0, 0, 0)) (by decide +kernel) (by decide) (fun y3337 hy3337 => ?_)
  refine y_add (len := 1) (r := (0, 0, 0, 0)) (by decide +kernel) (by omega) (by omega) (fun y3338 hy3338 => ?_)
  refine y_ial (i := ((48 + 4 * k) + 1)) (len := 1) (r := (0, 0, 0, 0)) (by decide +kernel) hg (tv55 hg) av55 (by omega) g1z ?_
  obtain ⟨v3339, hv3340, ev3339⟩ := tm ik.2.1.toNat (by omega) mn.1
  obtain ⟨X3341, eX3341⟩ : ∃ X, f ik.2.1.toNat = X := ⟨_, rfl⟩
  have bX3341 : X3341 ≤ mx := by
    rw [← eX3341]
    exact hfb _ (by omega)
  rw [eX3341] at ev3339
  refine y_ial (i := ik.2.1.toNat) (len := 1) (r := (0, 0, 0, 0)) (by decide +kernel) hg (tu381 hg) at381 (by omega) hv3340 ?_
  refine y_same (i := .istore_n 3) (len := 1) (r := (0, 0, 0, 0)) (pc' := 20) (ls' := [some (.inl (some 52)), some (zi xi), some (zi y3336), some (zi v3339), none]) (st' := []) (by decide +kernel) (fun k q => by cases q) rfl ?_
  refine y_same (i := .aload_n 0) (len := 1) (r := (0, 0, 0, 0)) (pc' := 21) (ls' := [some (.inl (some 52)), some (zi xi), some (zi y3336), some (zi v3339), none]) (st' := [.inl (some 52)]) (by decide +kernel) (fun k q => by cases q) rfl ?_
  refine y_get (j := 70) (len := 3) (r := (12, 33, 2, 1361)) (by decide +kernel) hg (t52 hg) at52 rfl rfl (g_r52 (f := 33) (T2 := 381) hg rfl (by decide)).1 ?_
  refine y_same (i := .aload_n 0) (len := 1) (r := (0, 0, 0, 0)) (pc' := 25) (ls' := [some (.inl (some 52)), some (zi xi), some (zi y3336), some (zi v3339), none]) (st' := [.inl (some 52), .inl (some 381)]) (by decide +kernel) (fun k q => by cases q) rfl ?_
  refine y_get (j := 20) (len := 3) (r := (12, 9, 2, 1337)) (by decide +kernel) hg (t52 hg) at52 rfl rfl (g_r52 (f := 9) (T2 := 55) hg rfl (by decide)).1 ?_
  refine y_same (i := .iload_n 2) (len := 1) (r := (0, 0, 0, 0)) (pc' := 29) (ls' := [some (.inl (some 52)), some (zi xi), some (zi y3336), some (zi v3339), none]) (st' := [zi y3336, .inl (some 55), .inl (some 381)]) (by decide +kernel) (fun k q => by cases q) rfl ?_
  refine y_ic (c := 2) (len := 1) (r := (0, 0, 0, 0)) (by decide +kernel) (by decide) (fun y3342 hy3342 => ?_)
  refine y_add (len := 1) (r := (0, 0, 0, 0)) (by decide +kernel) (by omega) (by omega) (fun y3343 hy3343 => ?_)
  refine y_ial (i := ((48 + 4 * k) + 2)) (len := 1) (r := (0, 0, 0, 0)) (by decide +kernel) hg (tv55 hg) av55 (by omega) g2z ?_
  obtain ⟨v3344, hv3345, ev3344⟩ := tm ik.2.2.1.toNat (by omega) mn.2.1
  obtain ⟨X3346, eX3346⟩ : ∃ X, f ik.2.2.1.toNat = X := ⟨_, rfl⟩
  have bX3346 : X3346 ≤ mx := by
    rw [← eX3346]
    exact hfb _ (by omega)
  rw [eX3346] at ev3344
  refine y_ial (i := ik.2.2.1.toNat) (len := 1) (r := (0, 0, 0, 0)) (by decide +kernel) hg (tu381 hg) at381 (by omega) hv3345 ?_
  refine y_same (i := .istore 4) (len := 2) (r := (0, 0, 0, 0)) (pc' := 35) (ls' := [some (.inl (some 52)), some (zi xi), some (zi y3336), some (zi v3339), some (zi v3344)]) (st' := []) (by decide +kernel) (fun k q => by cases q) rfl ?_
  refine y_same (i := .aload_n 0) (len := 1) (r := (0, 0, 0, 0)) (pc' := 36) (ls' := [some (.inl (some 52)), some (zi xi), some (zi y3336), some (zi v3339), some (zi v3344)]) (st' := [.inl (some 52)]) (by decide +kernel) (fun k q => by cases q) rfl ?_
  refine y_get (j := 20) (len := 3) (r := (12, 9, 2, 1337)) (by decide +kernel) hg (t52 hg) at52 rfl rfl (g_r52 (f := 9) (T2 := 55) hg rfl (by decide)).1 ?_
  refine y_same (i := .iload_n 2) (len := 1) (r := (0, 0, 0, 0)) (pc' := 40) (ls' := [some (.inl (some 52)), some (zi xi), some (zi y3336), some (zi v3339), some (zi v3344)]) (st' := [zi y3336, .inl (some 55)]) (by decide +kernel) (fun k q => by cases q) rfl ?_
  refine y_ial (i := (48 + 4 * k)) (len := 1) (r := (0, 0, 0, 0)) (by decide +kernel) hg (tv55 hg) av55 (by omega) g0z ?_
  rcases (show x0z.toInt = 0 ∨ x0z.toInt = 1 ∨ x0z.toInt = 2 ∨ (x0z.toInt < 0 ∨ 2 < x0z.toInt) by omega) with q3347 | q3347 | q3347 | q3347
  ·
    refine y_sw (dflt := 130) (lo := 0) (hi := 2) (offs := #[27, 53, 101]) (off := 27) (pc' := 68) (len := 27) (r := (0, 0, 0, 0)) (by decide +kernel) (zswI (k := 0) (by omega) (by omega) (by omega) rfl) (by decide +kernel) ?_
    refine y_same (i := .aload_n 0) (len := 1) (r := (0, 0, 0, 0)) (pc' := 69) (ls' := [some (.inl (some 52)), some (zi xi), some (zi y3336), some (zi v3339), some (zi v3344)]) (st' := [.inl (some 52)]) (by decide +kernel) (fun k q => by cases q) rfl ?_
    refine y_same (i := .iload_n 3) (len := 1) (r := (0, 0, 0, 0)) (pc' := 70) (ls' := [some (.inl (some 52)), some (zi xi), some (zi y3336), some (zi v3339), some (zi v3344)]) (st' := [zi v3339, .inl (some 52)]) (by decide +kernel) (fun k q => by cases q) rfl ?_
    refine y_ic (c := 0) (len := 1) (r := (0, 0, 0, 0)) (by decide +kernel) (by decide) (fun y3348 hy3348 => ?_)
    refine y_cI (i := .invokevirtual 429) (len := 3) (r := (0, 251, 12, 1842)) (nL := 3) (k := 2) (n := 3) (hs := []) (args := [.inl (some 52), zi v3339, zi y3348]) (rest := []) (l0 := [some (.inl (some 52)), some (zi v3339), some (zi y3348)]) (by decide +kernel) (Or.inr (Or.inl ⟨_, rfl⟩)) rfl rfl rfl rfl (Nat.le_of_ble_eq_true rfl) (z52 hg) rfl (qI_le (by omega) (m_us (d := 0) (w := X3341) (k9 := 0) (u := u) hg hp uc hw.1 (by omega) (by omega) (by omega))) (fun y3349 h3349 hRy3349 => ?_)
    obtain ⟨hg3349, F3349, hD3349⟩ := hRy3349
    rcases hD3349 with ⟨u3349, tk3349, hy3349, uc3349⟩ | ⟨tk3349, hy3349, uc3349⟩
    ·
      obtain ⟨t13349, t23349, t33349, t43349⟩ := tkA_some tk3349
      obtain ⟨⟨xa3349, ha3349, ea3349⟩, xb3349, hb3349, eb3349⟩ := (hp.1 X3341 (by omega)).2 (by rw [t23349]; decide)
      have hB3349 := hw.2 X3341 (by rw [t23349]; decide)
      have cu3349 := cu_tk (w := X3341) (by omega) tk3349
      refine y_iF (c := .eq) (off := 18) (len := 3) (r := (0, 0, 0, 0)) (by decide +kernel) (acmpF (c := .eq) (by show ¬ (_ = _); omega)) ?_
      refine y_same (i := .aload_n 0) (len := 1) (r := (0, 0, 0, 0)) (pc' := 78) (ls' := [some (.inl (some 52)), some (zi xi), some (zi y3336), some (zi v3339), some (zi v3344)]) (st' := [.inl (some 52)]) (by decide +kernel) (fun k q => by cases q) rfl ?_
      refine y_get (j := 79) (len := 3) (r := (12, 36, 2, 1364)) (by decide +kernel) hg3349 (t52 hg3349) at52 rfl rfl (g_r52 (f := 36) (T2 := 384) hg3349 rfl (by decide)).1 ?_
      refine y_same (i := .iload_n 3) (len := 1) (r := (0, 0, 0, 0)) (pc' := 82) (ls' := [some (.inl (some 52)), some (zi xi), some (zi y3336), some (zi v3339), some (zi v3344)]) (st' := [zi v3339, .inl (some 384)]) (by decide +kernel) (fun k q => by cases q) rfl ?_
      have hv3350 := (F3349 384 X3341 (by omega)).trans ha3349
      refine y_ial (i := X3341) (len := 1) (r := (0, 0, 0, 0)) (by decide +kernel) hg3349 (tu384 hg3349) at384 (by omega) hv3350 ?_
      refine y_same (i := .iload 4) (len := 2) (r := (0, 0, 0, 0)) (pc' := 85) (ls' := [some (.inl (some 52)), some (zi xi), some (zi y3336), some (zi v3339), some (zi v3344)]) (st' := [zi v3344, zi xa3349]) (by decide +kernel) (fun k q => by cases q) rfl ?_
      rcases Decidable.em (xa3349.toInt ≠ v3344.toInt) with q3351 | q3351
      ·
        refine y_cT (c := .ne) (off := 7) (pc' := 92) (len := 3) (r := (0, 0, 0, 0)) (by decide +kernel) (acmpT (c := .ne) (by show ¬ (_ = _); omega)) (by decide +kernel) ?_
        refine y_ic (c := 0) (len := 1) (r := (0, 0, 0, 0)) (by decide +kernel) (by decide) (fun y3352 hy3352 => ?_)
        refine y_rI (len := 1) (r := (0, 0, 0, 0)) (nL := 5) (k := 2) (n9 := 2) (hs := []) (by decide +kernel) rfl (zfit_b (by omega) (by omega)).2 ?_
        exact ⟨hg3349, fun k j hC => (F3349 k j (by omega)), Or.inr ⟨tkP_0x (by omega) eX3341 eX3346 tk3349 (by omega), by omega⟩⟩
      ·
        refine y_cF (c := .ne) (off := 7) (len := 3) (r := (0, 0, 0, 0)) (by decide +kernel) (acmpF (c := .ne) (by show _ = _; omega)) ?_
        refine y_ic (c := 1) (len := 1) (r := (0, 0, 0, 0)) (by decide +kernel) (by decide) (fun y3353 hy3353 => ?_)
        refine y_goto (off := 4) (pc' := 93) (len := 3) (r := (0, 0, 0, 0)) (by decide +kernel) (by decide +kernel) ?_
        refine y_rI (len := 1) (r := (0, 0, 0, 0)) (nL := 5) (k := 2) (n9 := 2) (hs := []) (by decide +kernel) rfl (zfit_b (by omega) (by omega)).2 ?_
        exact ⟨hg3349, fun k j hC => (F3349 k j (by omega)), Or.inl ⟨_, tkP_0y (by omega) eX3341 eX3346 tk3349 (by omega), by omega, uc3349⟩⟩
    ·
      refine y_iT (c := .eq) (off := 18) (pc' := 92) (len := 3) (r := (0, 0, 0, 0)) (by decide +kernel) (acmpT (c := .eq) (by show _ = _; omega)) (by decide +kernel) ?_
      refine y_ic (c := 0) (len := 1) (r := (0, 0, 0, 0)) (by decide +kernel) (by decide) (fun y3354 hy3354 => ?_)
      refine y_rI (len := 1) (r := (0, 0, 0, 0)) (nL := 5) (k := 2) (n9 := 2) (hs := []) (by decide +kernel) rfl (zfit_b (by omega) (by omega)).2 ?_
      exact ⟨hg3349, fun k j hC => (F3349 k j (by omega)), Or.inr ⟨tkP_0n (by omega) eX3341 tk3349, by omega⟩⟩
  ·
    refine y_sw (dflt := 130) (lo := 0) (hi := 2) (offs := #[27, 53, 101]) (off := 53) (pc' := 94) (len := 27) (r := (0, 0, 0, 0)) (by decide +kernel) (zswI (k := 1) (by omega) (by omega) (by omega) rfl) (by decide +kernel) ?_
    refine y_same (i := .aload_n 0) (len := 1) (r := (0, 0, 0, 0)) (pc' := 95) (ls' := [some (.inl (some 52)), some (zi xi), some (zi y3336), some (zi v3339), some (zi v3344)]) (st' := [.inl (some 52)]) (by decide +kernel) (fun k q => by cases q) rfl ?_
    refine y_same (i := .iload_n 3) (len := 1) (r := (0, 0, 0, 0)) (pc' := 96) (ls' := [some (.inl (some 52)), some (zi xi), some (zi y3336), some (zi v3339), some (zi v3344)]) (st' := [zi v3339, .inl (some 52)]) (by decide +kernel) (fun k q => by cases q) rfl ?_
    refine y_ic (c := 1) (len := 1) (r := (0, 0, 0, 0)) (by decide +kernel) (by decide) (fun y3355 hy3355 => ?_)
    refine y_cI (i := .invokevirtual 429) (len := 3) (r := (0, 251, 12, 1842)) (nL := 3) (k := 2) (n := 3) (hs := []) (args := [.inl (some 52), zi v3339, zi y3355]) (rest := []) (l0 := [some (.inl (some 52)), some (zi v3339), some (zi y3355)]) (by decide +kernel) (Or.inr (Or.inl ⟨_, rfl⟩)) rfl rfl rfl rfl (Nat.le_of_ble_eq_true rfl) (z52 hg) rfl (qI_le (by omega) (m_us (d := 0) (w := X3341) (k9 := 1) (u := u) hg hp uc hw.1 (by omega) (by omega) (by omega))) (fun y3356 h3356 hRy3356 => ?_)
    obtain ⟨hg3356, F3356, hD3356⟩ := hRy3356
    rcases hD3356 with ⟨u3356, tk3356, hy3356, uc3356⟩ | ⟨tk3356, hy3356, uc3356⟩
    ·
      obtain ⟨t13356, t23356, t33356, t43356⟩ := tkA_some tk3356
      obtain ⟨⟨xa3356, ha3356, ea3356⟩, xb3356, hb3356, eb3356⟩ := (hp.1 X3341 (by omega)).2 (by rw [t23356]; decide)
      have hB3356 := hw.2 X3341 (by rw [t23356]; decide)
      have cu3356 := cu_tk (w := X3341) (by omega) tk3356
      refine y_iF (c := .eq) (off := 40) (len := 3) (r := (0, 0, 0, 0)) (by decide +kernel) (acmpF (c := .eq) (by show ¬ (_ = _); omega)) ?_
      refine y_same (i := .aload_n 0) (len := 1) (r := (0, 0, 0, 0)) (pc' := 104) (ls' := [some (.inl (some 52)), some (zi xi), some (zi y3336), some (zi v3339), some (zi v3344)]) (st' := [.inl (some 52)]) (by decide +kernel) (fun k q => by cases q) rfl ?_
      refine y_get (j := 79) (len := 3) (r := (12, 36, 2, 1364)) (by decide +kernel) hg3356 (t52 hg3356) at52 rfl rfl (g_r52 (f := 36) (T2 := 384) hg3356 rfl (by decide)).1 ?_
      refine y_same (i := .iload_n 3) (len := 1) (r := (0, 0, 0, 0)) (pc' := 108) (ls' := [some (.inl (some 52)), some (zi xi), some (zi y3336), some (zi v3339), some (zi v3344)]) (st' := [zi v3339, .inl (some 384)]) (by decide +kernel) (fun k q => by cases q) rfl ?_
      have hv3357 := (F3356 384 X3341 (by omega)).trans ha3356
      refine y_ial (i := X3341) (len := 1) (r := (0, 0, 0, 0)) (by decide +kernel) hg3356 (tu384 hg3356) at384 (by omega) hv3357 ?_
      refine y_same (i := .iload 4) (len := 2) (r := (0, 0, 0, 0)) (pc' := 111) (ls' := [some (.inl (some 52)), some (zi xi), some (zi y3336), some (zi v3339), some (zi v3344)]) (st' := [zi v3344, zi xa3356]) (by decide +kernel) (fun k q => by cases q) rfl ?_
      rcases Decidable.em (xa3356.toInt ≠ v3344.toInt) with q3358 | q3358
      ·
        refine y_cT (c := .ne) (off := 29) (pc' := 140) (len := 3) (r := (0, 0, 0, 0)) (by decide +kernel) (acmpT (c := .ne) (by show ¬ (_ = _); omega)) (by decide +kernel) ?_
        refine y_ic (c := 0) (len := 1) (r := (0, 0, 0, 0)) (by decide +kernel) (by decide) (fun y3359 hy3359 => ?_)
        refine y_rI (len := 1) (r := (0, 0, 0, 0)) (nL := 5) (k := 2) (n9 := 2) (hs := []) (by decide +kernel) rfl (zfit_b (by omega) (by omega)).2 ?_
        exact ⟨hg3356, fun k j hC => (F3356 k j (by omega)), Or.inr ⟨tkP_1x (by omega) eX3341 eX3346 tk3356 (by omega), by omega⟩⟩
      ·
        refine y_cF (c := .ne) (off := 29) (len := 3) (r := (0, 0, 0, 0)) (by decide +kernel) (acmpF (c := .ne) (by show _ = _; omega)) ?_
        refine y_same (i := .aload_n 0) (len := 1) (r := (0, 0, 0, 0)) (pc' := 115) (ls' := [some (.inl (some 52)), some (zi xi), some (zi y3336), some (zi v3339), some (zi v3344)]) (st' := [.inl (some 52)]) (by decide +kernel) (fun k q => by cases q) rfl ?_
        refine y_get (j := 82) (len := 3) (r := (12, 37, 2, 1365)) (by decide +kernel) hg3356 (t52 hg3356) at52 rfl rfl (g_r52 (f := 37) (T2 := 385) hg3356 rfl (by decide)).1 ?_
        refine y_same (i := .iload_n 3) (len := 1) (r := (0, 0, 0, 0)) (pc' := 119) (ls' := [some (.inl (some 52)), some (zi xi), some (zi y3336), some (zi v3339), some (zi v3344)]) (st' := [zi v3339, .inl (some 385)]) (by decide +kernel) (fun k q => by cases q) rfl ?_
        have hv3360 := (F3356 385 X3341 (by omega)).trans hb3356
        refine y_ial (i := X3341) (len := 1) (r := (0, 0, 0, 0)) (by decide +kernel) hg3356 (tu385 hg3356) at385 (by omega) hv3360 ?_
        refine y_same (i := .aload_n 0) (len := 1) (r := (0, 0, 0, 0)) (pc' := 121) (ls' := [some (.inl (some 52)), some (zi xi), some (zi y3336), some (zi v3339), some (zi v3344)]) (st' := [.inl (some 52), zi xb3356]) (by decide +kernel) (fun k q => by cases q) rfl ?_
        refine y_get (j := 70) (len := 3) (r := (12, 33, 2, 1361)) (by decide +kernel) hg3356 (t52 hg3356) at52 rfl rfl (g_r52 (f := 33) (T2 := 381) hg3356 rfl (by decide)).1 ?_
        refine y_same (i := .aload_n 0) (len := 1) (r := (0, 0, 0, 0)) (pc' := 125) (ls' := [some (.inl (some 52)), some (zi xi), some (zi y3336), some (zi v3339), some (zi v3344)]) (st' := [.inl (some 52), .inl (some 381), zi xb3356]) (by decide +kernel) (fun k q => by cases q) rfl ?_
        refine y_get (j := 20) (len := 3) (r := (12, 9, 2, 1337)) (by decide +kernel) hg3356 (t52 hg3356) at52 rfl rfl (g_r52 (f := 9) (T2 := 55) hg3356 rfl (by decide)).1 ?_
        refine y_same (i := .iload_n 2) (len := 1) (r := (0, 0, 0, 0)) (pc' := 129) (ls' := [some (.inl (some 52)), some (zi xi), some (zi y3336), some (zi v3339), some (zi v3344)]) (st' := [zi y3336, .inl (some 55), .inl (some 381), zi xb3356]) (by decide +kernel) (fun k q => by cases q) rfl ?_
        refine y_ic (c := 3) (len := 1) (r := (0, 0, 0, 0)) (by decide +kernel) (by decide) (fun y3361 hy3361 => ?_)
        refine y_add (len := 1) (r := (0, 0, 0, 0)) (by decide +kernel) (by omega) (by omega) (fun y3362 hy3362 => ?_)
        have hv3363 := (F3356 55 ((48 + 4 * k) + 3) (by omega)).trans g3z
        refine y_ial (i := ((48 + 4 * k) + 3)) (len := 1) (r := (0, 0, 0, 0)) (by decide +kernel) hg3356 (tv55 hg3356) av55 (by omega) hv3363 ?_
        obtain ⟨v3364, hv3365, ev3364⟩ := (tM_up tm (fun j => (F3356 381 j (by omega)))) ik.2.2.2.toNat (by omega) mn.2.2
        obtain ⟨X3366, eX3366⟩ : ∃ X, f ik.2.2.2.toNat = X := ⟨_, rfl⟩
        have bX3366 : X3366 ≤ mx := by
          rw [← eX3366]
          exact hfb _ (by omega)
        rw [eX3366] at ev3364
        refine y_ial (i := ik.2.2.2.toNat) (len := 1) (r := (0, 0, 0, 0)) (by decide +kernel) hg3356 (tu381 hg3356) at381 (by omega) hv3365 ?_
        rcases Decidable.em (xb3356.toInt ≠ v3364.toInt) with q3367 | q3367
        ·
          refine y_cT (c := .ne) (off := 7) (pc' := 140) (len := 3) (r := (0, 0, 0, 0)) (by decide +kernel) (acmpT (c := .ne) (by show ¬ (_ = _); omega)) (by decide +kernel) ?_
          refine y_ic (c := 0) (len := 1) (r := (0, 0, 0, 0)) (by decide +kernel) (by decide) (fun y3368 hy3368 => ?_)
          refine y_rI (len := 1) (r := (0, 0, 0, 0)) (nL := 5) (k := 2) (n9 := 2) (hs := []) (by decide +kernel) rfl (zfit_b (by omega) (by omega)).2 ?_
          exact ⟨hg3356, fun k j hC => (F3356 k j (by omega)), Or.inr ⟨tkP_1z (by omega) eX3341 eX3366 tk3356 (by omega), by omega⟩⟩
        ·
          refine y_cF (c := .ne) (off := 7) (len := 3) (r := (0, 0, 0, 0)) (by decide +kernel) (acmpF (c := .ne) (by show _ = _; omega)) ?_
          refine y_ic (c := 1) (len := 1) (r := (0, 0, 0, 0)) (by decide +kernel) (by decide) (fun y3369 hy3369 => ?_)
          refine y_goto (off := 4) (pc' := 141) (len := 3) (r := (0, 0, 0, 0)) (by decide +kernel) (by decide +kernel) ?_
          refine y_rI (len := 1) (r := (0, 0, 0, 0)) (nL := 5) (k := 2) (n9 := 2) (hs := []) (by decide +kernel) rfl (zfit_b (by omega) (by omega)).2 ?_
          exact ⟨hg3356, fun k j hC => (F3356 k j (by omega)), Or.inl ⟨_, tkP_1y (by omega) eX3341 eX3346 eX3366 tk3356 (by omega) (by omega), by omega, uc3356⟩⟩
    ·
      refine y_iT (c := .eq) (off := 40) (pc' := 140) (len := 3) (r := (0, 0, 0, 0)) (by decide +kernel) (acmpT (c := .eq) (by show _ = _; omega)) (by decide +kernel) ?_
      refine y_ic (c := 0) (len := 1) (r := (0, 0, 0, 0)) (by decide +kernel) (by decide) (fun y3370 hy3370 => ?_)
      refine y_rI (len := 1) (r := (0, 0, 0, 0)) (nL := 5) (k := 2) (n9 := 2) (hs := []) (by decide +kernel) rfl (zfit_b (by omega) (by omega)).2 ?_
      exact ⟨hg3356, fun k j hC => (F3356 k j (by omega)), Or.inr ⟨tkP_1n (by omega) eX3341 tk3356, by omega⟩⟩
  ·
    refine y_sw (dflt := 130) (lo := 0) (hi := 2) (offs := #[27, 53, 101]) (off := 101) (pc' := 142) (len := 27) (r := (0, 0, 0, 0)) (by decide +kernel) (zswI (k := 2) (by omega) (by omega) (by omega) rfl) (by decide +kernel) ?_
    rw [tkP_2 (by omega) eX3341 eX3346]
    have cl := cu_le (u := u)
    exact ul_l (h0 := h) hw (by omega) 11 h X3341 u v3339 11 hg hp uc (fun k j _ => rfl) (by omega) (by omega) (by omega) (by omega)
  ·
    refine y_sw (dflt := 130) (lo := 0) (hi := 2) (offs := #[27, 53, 101]) (off := 130) (pc' := 171) (len := 27) (r := (0, 0, 0, 0)) (by decide +kernel) (zswO (by omega)) (by decide +kernel) ?_
    refine y_same (i := .aload_n 0) (len := 1) (r := (0, 0, 0, 0)) (pc' := 172) (ls' := [some (.inl (some 52)), some (zi xi), some (zi y3336), some (zi v3339), some (zi v3344)]) (st' := [.inl (some 52)]) (by decide +kernel) (fun k q => by cases q) rfl ?_
    refine y_same (i := .iload_n 3) (len := 1) (r := (0, 0, 0, 0)) (pc' := 173) (ls' := [some (.inl (some 52)), some (zi xi), some (zi y3336), some (zi v3339), some (zi v3344)]) (st' := [zi v3339, .inl (some 52)]) (by decide +kernel) (fun k q => by cases q) rfl ?_
    have hc3371 := cu_le (u := u)
    refine y_cI (i := .invokevirtual 432) (len := 3) (r := (0, 252, 12, 1846)) (nL := 2) (k := 2) (n := 2) (hs := []) (args := [.inl (some 52), zi v3339]) (rest := []) (l0 := [some (.inl (some 52)), some (zi v3339)]) (by decide +kernel) (Or.inr (Or.inl ⟨_, rfl⟩)) rfl rfl rfl rfl (Nat.le_of_ble_eq_true rfl) (z52 hg) rfl (qI_le (by omega) (m_ut hw (11 - cu_ u) h u X3341 v3339 hg hp uc (by omega) (by omega) (by omega))) (fun y3371 h3371 hRy3371 => ?_)
    obtain ⟨hg3371, F3371, hD3371⟩ := hRy3371
    have by3371 : 0 ≤ y3371.toInt ∧ y3371.toInt ≤ 1 := by
      rcases hD3371 with ⟨_, q9, _⟩ | ⟨q9, _⟩ <;> omega
    refine y_rI (len := 1) (r := (0, 0, 0, 0)) (nL := 5) (k := 2) (n9 := 2) (hs := []) (by decide +kernel) rfl (zfit_b (by omega) (by omega)).2 ?_
    rw [tkP_3 (by omega) eX3341]
    refine ⟨hg3371, fun k j hC => (F3371 k j (by omega)), ?_⟩
    rcases hD3371 with ⟨u9, q1, q2, q3, q4⟩ | ⟨q1, q4⟩
    · refine Or.inl ⟨u9, ?_, q1, q3⟩
      have e9 := q4 23 [] (by simp only [List.length_nil]; omega)
      rw [tkT_e] at e9
      exact e9
    · exact Or.inr ⟨q4 23 [] (by simp only [List.length_nil]; omega), q1⟩
theorem mns_l {d t : Nat} {τ : List Nat} {h : zh} {H : hpT} {u : usT} (hg : hG τ h) (hp : hpM h H) (hw : hpW H) (uc : usM h u H.2.2.2) : ∀ (n : Nat) (i : Nat) (xi : Int32), (xi.toInt = (i : Int)) → (1 ≤ i) → (i ≤ H.2.2.2 + 1) → (∀ v, 1 ≤ v → v < i → H.1 v ≠ -1 → u v = true) → (H.2.2.2 + 1 < i + n) → qX (d + 14) 254 65 [some (.inl (some 52)), some (zi xi)] [] h t (rI (fun y h1 => h = h1 ∧ ((y.toInt = 1 ∧ nst H u) ∨ (y.toInt = 0 ∧ ¬ nst H u))) t) := by
  intro n
  induction n with
  | zero =>
    intro i xi hxi hi1 hi c1 hn
    exfalso
    omega
  | succ n ih =>
    intro i xi hxi hi1 hi c1 hn
    obtain ⟨xt, ht, et⟩ := hp.2
    have hw1 := hw.1
    refine y_same (i := .iload_n 1) (len := 1) (r := (0, 0, 0, 0)) (pc' := 66) (ls' := [some (.inl (some 52)), some (zi xi)]) (st' := [zi xi]) (by decide +kernel) (fun k q => by cases q) rfl ?_
    refine y_same (i := .aload_n 0) (len := 1) (r := (0, 0, 0, 0)) (pc' := 67) (ls' := [some (.inl (some 52)), some (zi xi)]) (st' := [.inl (some 52), zi xi]) (by decide +kernel) (fun k q => by cases q) rfl ?_
    refine y_get (j := 410) (len := 3) (r := (12, 39, 0, 1367)) (by decide +kernel) hg (t52 hg) at52 rfl rfl ht ?_
    rcases Decidable.em (xi.toInt > xt.toInt) with q3372 | q3372
    ·
      refine y_cT (c := .gt) (off := 30) (pc' := 100) (len := 3) (r := (0, 0, 0, 0)) (by decide +kernel) (acmpT (c := .gt) (by show _ < _; omega)) (by decide +kernel) ?_
      refine y_ic (c := 1) (len := 1) (r := (0, 0, 0, 0)) (by decide +kernel) (by decide) (fun y3373 hy3373 => ?_)
      refine y_rI (len := 1) (r := (0, 0, 0, 0)) (nL := 2) (k := 2) (n9 := 1) (hs := []) (by decide +kernel) rfl (zfit_b (by omega) (by omega)).2 ?_
      exact ⟨rfl, Or.inl ⟨by omega, fun v h1 h2 q7 => c1 v h1 (by have := hw.2 v q7; omega) q7⟩⟩
    ·
      refine y_cF (c := .gt) (off := 30) (len := 3) (r := (0, 0, 0, 0)) (by decide +kernel) (acmpF (c := .gt) (by show _ ≤ _; omega)) ?_
      obtain ⟨⟨xv, hv, ev⟩, -⟩ := hp.1 i (by omega)
      obtain ⟨xb, hb, eb⟩ := uc i (by omega)
      refine y_same (i := .aload_n 0) (len := 1) (r := (0, 0, 0, 0)) (pc' := 74) (ls' := [some (.inl (some 52)), some (zi xi)]) (st' := [.inl (some 52)]) (by decide +kernel) (fun k q => by cases q) rfl ?_
      refine y_get (j := 76) (len := 3) (r := (12, 35, 2, 1363)) (by decide +kernel) hg (t52 hg) at52 rfl rfl (g_r52 (f := 35) (T2 := 383) hg rfl (by decide)).1 ?_
      refine y_same (i := .iload_n 1) (len := 1) (r := (0, 0, 0, 0)) (pc' := 78) (ls' := [some (.inl (some 52)), some (zi xi)]) (st' := [zi xi, .inl (some 383)]) (by decide +kernel) (fun k q => by cases q) rfl ?_
      refine y_ial (i := i) (len := 1) (r := (0, 0, 0, 0)) (by decide +kernel) hg (tu383 hg) at383 (by omega) hv ?_
      refine y_ic (c := (-1)) (len := 1) (r := (0, 0, 0, 0)) (by decide +kernel) (by decide) (fun y3374 hy3374 => ?_)
      rcases Decidable.em (xv.toInt = y3374.toInt) with q3375 | q3375
      ·
        refine y_cT (c := .eq) (off := 14) (pc' := 94) (len := 3) (r := (0, 0, 0, 0)) (by decide +kernel) (acmpT (c := .eq) (by show _ = _; omega)) (by decide +kernel) ?_
        refine y_inc (j := 1) (a := xi) (c := 1) (ls' := fun v => [some (.inl (some 52)), some v]) (len := 3) (r := (0, 0, 0, 0)) (by decide +kernel) rfl (fun _ => rfl) (by decide) (by omega) (by omega) (fun y3376 hy3376 => ?_)
        show qX (d + 14) 254 97 [some (.inl (some 52)), some (zi y3376)] [] h t _
        refine y_goto (off := (-32)) (pc' := 65) (len := 3) (r := (0, 0, 0, 0)) (by decide +kernel) (by decide +kernel) ?_
        refine ih (i + 1) y3376 (by omega) (by omega) (by omega) (fun v h1 h2 q7 => ?_) (by omega)
        rcases Nat.lt_or_eq_of_le (Nat.le_of_lt_succ h2) with q8 | q8
        · exact c1 v h1 q8 q7
        · subst q8
          exact absurd (by omega) q7
      ·
        refine y_cF (c := .eq) (off := 14) (len := 3) (r := (0, 0, 0, 0)) (by decide +kernel) (acmpF (c := .eq) (by show ¬ (_ = _); omega)) ?_
        refine y_same (i := .aload_n 0) (len := 1) (r := (0, 0, 0, 0)) (pc' := 84) (ls' := [some (.inl (some 52)), some (zi xi)]) (st' := [.inl (some 52)]) (by decide +kernel) (fun k q => by cases q) rfl ?_
        refine y_get (j := 85) (len := 3) (r := (12, 38, 2, 1366)) (by decide +kernel) hg (t52 hg) at52 rfl rfl (g_r52 (f := 38) (T2 := 386) hg rfl (by decide)).1 ?_
        refine y_same (i := .iload_n 1) (len := 1) (r := (0, 0, 0, 0)) (pc' := 88) (ls' := [some (.inl (some 52)), some (zi xi)]) (st' := [zi xi, .inl (some 386)]) (by decide +kernel) (fun k q => by cases q) rfl ?_
        refine y_bal (i := i) (len := 1) (r := (0, 0, 0, 0)) (by decide +kernel) hg (tu386 hg) at386 (by omega) hb ?_
        rcases Decidable.em (xb.toInt ≠ 0) with q3377 | q3377
        ·
          refine y_iT (c := .ne) (off := 5) (pc' := 94) (len := 3) (r := (0, 0, 0, 0)) (by decide +kernel) (acmpT (c := .ne) (by show ¬ (_ = _); omega)) (by decide +kernel) ?_
          refine y_inc (j := 1) (a := xi) (c := 1) (ls' := fun v => [some (.inl (some 52)), some v]) (len := 3) (r := (0, 0, 0, 0)) (by decide +kernel) rfl (fun _ => rfl) (by decide) (by omega) (by omega) (fun y3378 hy3378 => ?_)
          show qX (d + 14) 254 97 [some (.inl (some 52)), some (zi y3378)] [] h t _
          refine y_goto (off := (-32)) (pc' := 65) (len := 3) (r := (0, 0, 0, 0)) (by decide +kernel) (by decide +kernel) ?_
          refine ih (i + 1) y3378 (by omega) (by omega) (by omega) (fun v h1 h2 q7 => ?_) (by omega)
          rcases Nat.lt_or_eq_of_le (Nat.le_of_lt_succ h2) with q8 | q8
          · exact c1 v h1 q8 q7
          · subst q8
            cases h9 : u v with
            | true => rfl
            | false =>
              rw [h9] at eb
              have eb : xb.toInt = 0 := eb
              exfalso
              omega
        ·
          refine y_iF (c := .ne) (off := 5) (len := 3) (r := (0, 0, 0, 0)) (by decide +kernel) (acmpF (c := .ne) (by show _ = _; omega)) ?_
          refine y_ic (c := 0) (len := 1) (r := (0, 0, 0, 0)) (by decide +kernel) (by decide) (fun y3379 hy3379 => ?_)
          refine y_rI (len := 1) (r := (0, 0, 0, 0)) (nL := 2) (k := 2) (n9 := 1) (hs := []) (by decide +kernel) rfl (zfit_b (by omega) (by omega)).2 ?_
          refine ⟨rfl, Or.inr ⟨by omega, fun q7 => ?_⟩⟩
          have h9 := q7 i (by omega) (by omega) (by omega)
          rw [h9] at eb
          have eb : xb.toInt = 1 := eb
          omega
theorem ir_l {d t : Nat} {τ : List Nat} {h0 : zh} {l : List it4} {ls : List Nat} {f : tlT} {H : hpT} (hl0 : ci_ h0 55 46 l.length) (ip0 : ∀ (j : Nat) (i : it4), l[j]? = some i → qdM h0 55 (48 + 4 * j) i) (l5 : l.length ≤ 5) (ok : ∀ (j : Nat) (i : it4), l[j]? = some i → okI i) (men : ∀ i ∈ l, mnI ls i) {mx : Nat} (hfb : ∀ v, v ≤ 5 → f v ≤ mx) (hmx : mx ≤ H.2.2.2) (tm0 : tM h0 ls f) (hp00 : hpM h0 H) (hw : hpW H) : ∀ (n : Nat) (h : zh) (u : usT) (i : Nat) (xi : Int32), (hG τ h) → (usM h u H.2.2.2) → (∀ k j, k ≠ 386 → hsl h k j = hsl h0 k j) → (xi.toInt = (i : Int)) → (i ≤ l.length) → (l.length < i + n) → qX (d + 14) 254 35 [some (.inl (some 52)), some (zi xi)] [] h t (rI (fun y h1 => hG τ h1 ∧ (∀ k j, k ≠ 386 → hsl h1 k j = hsl h0 k j) ∧ ((y.toInt = 1 ∧ ∃ u', tkPs H f u (l.drop i) = some u' ∧ nst H u') ∨ (y.toInt = 0 ∧ ¬ ∃ u', tkPs H f u (l.drop i) = some u' ∧ nst H u'))) t) := by
  intro n
  induction n with
  | zero =>
    intro h u i xi hg uc F0 hxi hi hn
    exfalso
    omega
  | succ n ih =>
    intro h u i xi hg uc F0 hxi hi hn
    have U : ∀ k j, k ≠ 386 → hsl h k j = hsl h0 k j := F0
    have tm : tM h ls f := tM_up tm0 (fun j => U _ _ (by omega))
    have ip : ∀ (j : Nat) (i : it4), l[j]? = some i → qdM h 55 (48 + 4 * j) i := fun j i hj => qdM_up (ip0 j i hj) (fun w _ => U _ _ (by omega))
    obtain ⟨xl, hl, el⟩ := ci_up hl0 (U 55 46 (by omega))
    have hp : hpM h H := hpM_up hp00 (fun k j hC => U _ _ (by omega))
    refine y_same (i := .iload_n 1) (len := 1) (r := (0, 0, 0, 0)) (pc' := 36) (ls' := [some (.inl (some 52)), some (zi xi)]) (st' := [zi xi]) (by decide +kernel) (fun k q => by cases q) rfl ?_
    refine y_same (i := .aload_n 0) (len := 1) (r := (0, 0, 0, 0)) (pc' := 37) (ls' := [some (.inl (some 52)), some (zi xi)]) (st' := [.inl (some 52), zi xi]) (by decide +kernel) (fun k q => by cases q) rfl ?_
    refine y_get (j := 20) (len := 3) (r := (12, 9, 2, 1337)) (by decide +kernel) hg (t52 hg) at52 rfl rfl (g_r52 (f := 9) (T2 := 55) hg rfl (by decide)).1 ?_
    refine y_ic (c := 1) (len := 1) (r := (0, 0, 0, 0)) (by decide +kernel) (by decide) (fun y3380 hy3380 => ?_)
    refine y_cI (i := .invokestatic 143) (len := 3) (r := (1, 166, 12, 1543)) (nL := 2) (k := 1) (n := 2) (hs := []) (args := [.inl (some 55), zi y3380]) (rest := [zi xi]) (l0 := [some (.inl (some 55)), some (zi y3380)]) (by decide +kernel) (Or.inl ⟨_, rfl⟩) rfl rfl rfl rfl (Nat.le_of_ble_eq_true rfl) rfl rfl (qI_le (by omega) (m_parts (d := 0) (s := 1) hg (by omega) (by omega) hl)) (fun y3381 qy3381 hRy3381 => ?_)
    obtain ⟨rfl, rfl⟩ := hRy3381
    rcases Decidable.em (xi.toInt ≥ xl.toInt) with q3382 | q3382
    ·
      refine y_cT (c := .ge) (off := 19) (pc' := 63) (len := 3) (r := (0, 0, 0, 0)) (by decide +kernel) (acmpT (c := .ge) (by show _ ≤ _; omega)) (by decide +kernel) ?_
      refine y_ic (c := 1) (len := 1) (r := (0, 0, 0, 0)) (by decide +kernel) (by decide) (fun y3383 hy3383 => ?_)
      refine y_same (i := .istore_n 1) (len := 1) (r := (0, 0, 0, 0)) (pc' := 65) (ls' := [some (.inl (some 52)), some (zi y3383)]) (st' := []) (by decide +kernel) (fun k q => by cases q) rfl ?_
      refine qX_I (mns_l (u := u) hg hp hw uc (H.2.2.2 + 1) 1 y3383 (by omega) (by omega) (by omega) (fun v h1 h2 => by omega) (by omega)) (fun y h1 hR => ?_)
      obtain ⟨rfl, hR⟩ := hR
      rw [List.drop_of_length_le (show l.length ≤ i by omega)]
      refine ⟨hg, F0, ?_⟩
      rcases hR with ⟨q1, q2⟩ | ⟨q1, q2⟩
      · exact Or.inl ⟨q1, u, rfl, q2⟩
      · refine Or.inr ⟨q1, fun q3 => ?_⟩
        obtain ⟨u9, e9, q3⟩ := q3
        cases e9
        exact q2 q3
    ·
      refine y_cF (c := .ge) (off := 19) (len := 3) (r := (0, 0, 0, 0)) (by decide +kernel) (acmpF (c := .ge) (by show _ < _; omega)) ?_
      obtain ⟨ik, hk⟩ : ∃ ik, l[i]? = some ik := ⟨_, List.getElem?_eq_getElem (by omega)⟩
      have okk := ok i ik hk
      have mn := men ik (List.mem_of_getElem? hk)
      refine y_same (i := .aload_n 0) (len := 1) (r := (0, 0, 0, 0)) (pc' := 48) (ls' := [some (.inl (some 52)), some (zi xi)]) (st' := [.inl (some 52)]) (by decide +kernel) (fun k q => by cases q) rfl ?_
      refine y_same (i := .iload_n 1) (len := 1) (r := (0, 0, 0, 0)) (pc' := 49) (ls' := [some (.inl (some 52)), some (zi xi)]) (st' := [zi xi, .inl (some 52)]) (by decide +kernel) (fun k q => by cases q) rfl ?_
      refine y_cI (i := .invokevirtual 435) (len := 3) (r := (0, 253, 12, 1838)) (nL := 5) (k := 2) (n := 2) (hs := []) (args := [.inl (some 52), zi xi]) (rest := []) (l0 := [some (.inl (some 52)), some (zi xi), none, none, none]) (by decide +kernel) (Or.inr (Or.inl ⟨_, rfl⟩)) rfl rfl rfl rfl (Nat.le_of_ble_eq_true rfl) (z52 hg) rfl (qI_le (by omega) (m_up (d := 0) (k := i) (u := u) (H := H) (f := f) (ls := ls) hg ip hk (by omega) (by omega) okk mn tm hfb hmx hp uc hw)) (fun y3384 h3384 hRy3384 => ?_)
      obtain ⟨hg3384, F3384, hD3384⟩ := hRy3384
      rcases hD3384 with ⟨u3384, tk3384, hy3384, uc3384⟩ | ⟨tk3384, hy3384⟩
      ·
        refine y_iT (c := .ne) (off := 5) (pc' := 57) (len := 3) (r := (0, 0, 0, 0)) (by decide +kernel) (acmpT (c := .ne) (by show ¬ (_ = _); omega)) (by decide +kernel) ?_
        refine y_inc (j := 1) (a := xi) (c := 1) (ls' := fun v => [some (.inl (some 52)), some v]) (len := 3) (r := (0, 0, 0, 0)) (by decide +kernel) rfl (fun _ => rfl) (by decide) (by omega) (by omega) (fun y3385 hy3385 => ?_)
        show qX (d + 14) 254 60 [some (.inl (some 52)), some (zi y3385)] [] h3384 t _
        refine y_goto (off := (-25)) (pc' := 35) (len := 3) (r := (0, 0, 0, 0)) (by decide +kernel) (by decide +kernel) ?_
        rw [drop_c hk, tkPs_s tk3384]
        exact ih h3384 u3384 (i + 1) y3385 hg3384 uc3384 (fun k j hC => ((F3384 k j (by omega))).trans (F0 k j hC)) (by omega) (by omega) (by omega)
      ·
        refine y_iF (c := .ne) (off := 5) (len := 3) (r := (0, 0, 0, 0)) (by decide +kernel) (acmpF (c := .ne) (by show _ = _; omega)) ?_
        refine y_ic (c := 0) (len := 1) (r := (0, 0, 0, 0)) (by decide +kernel) (by decide) (fun y3386 hy3386 => ?_)
        refine y_rI (len := 1) (r := (0, 0, 0, 0)) (nL := 2) (k := 2) (n9 := 1) (hs := []) (by decide +kernel) rfl (zfit_b (by omega) (by omega)).2 ?_
        rw [drop_c hk, tkPs_n tk3384]
        refine ⟨hg3384, fun k j hC => ((F3384 k j (by omega))).trans (F0 k j hC), Or.inr ⟨by omega, fun q3 => ?_⟩⟩
        obtain ⟨u9, e9, -⟩ := q3
        cases e9
theorem nu_l {d t m : Nat} {τ : List Nat} {h0 : zh} {P : zo × zh × Nat → Prop} {xp : Int32} (hp390 : hsl h0 52 39 = some (zi xp)) (ep : xp.toInt = (m : Int)) (hm : m ≤ 10) (kk : ∀ (h : zh) (l1 : Option zv), hG τ h → (∀ w, w ≤ m → ci_ h 386 w 0) → (∀ k j, k ≠ 386 → hsl h k j = hsl h0 k j) → qX (d + 14) 254 33 [some (.inl (some 52)), l1] [] h t P) : ∀ (n : Nat) (h : zh) (i : Nat) (xi : Int32), (hG τ h) → (∀ w, w < i → ci_ h 386 w 0) → (∀ k j, k ≠ 386 → hsl h k j = hsl h0 k j) → (xi.toInt = (i : Int)) → (i ≤ m + 1) → (m + 1 < i + n) → qX (d + 14) 254 12 [some (.inl (some 52)), some (zi xi)] [] h t P := by
  intro n
  induction n with
  | zero =>
    intro h i xi hg c1 F0 hxi hi hn
    exfalso
    omega
  | succ n ih =>
    intro h i xi hg c1 F0 hxi hi hn
    have hp39 : hsl h 52 39 = some (zi xp) := (F0 _ _ (by omega)).trans hp390
    refine y_same (i := .iload_n 1) (len := 1) (r := (0, 0, 0, 0)) (pc' := 13) (ls' := [some (.inl (some 52)), some (zi xi)]) (st' := [zi xi]) (by decide +kernel) (fun k q => by cases q) rfl ?_
    refine y_same (i := .aload_n 0) (len := 1) (r := (0, 0, 0, 0)) (pc' := 14) (ls' := [some (.inl (some 52)), some (zi xi)]) (st' := [.inl (some 52), zi xi]) (by decide +kernel) (fun k q => by cases q) rfl ?_
    refine y_get (j := 410) (len := 3) (r := (12, 39, 0, 1367)) (by decide +kernel) hg (t52 hg) at52 rfl rfl hp39 ?_
    rcases Decidable.em (xi.toInt > xp.toInt) with q3387 | q3387
    ·
      refine y_cT (c := .gt) (off := 16) (pc' := 33) (len := 3) (r := (0, 0, 0, 0)) (by decide +kernel) (acmpT (c := .gt) (by show _ < _; omega)) (by decide +kernel) ?_
      exact kk h _ hg (fun w hw => c1 w (by omega)) F0
    ·
      refine y_cF (c := .gt) (off := 16) (len := 3) (r := (0, 0, 0, 0)) (by decide +kernel) (acmpF (c := .gt) (by show _ ≤ _; omega)) ?_
      refine y_same (i := .aload_n 0) (len := 1) (r := (0, 0, 0, 0)) (pc' := 21) (ls' := [some (.inl (some 52)), some (zi xi)]) (st' := [.inl (some 52)]) (by decide +kernel) (fun k q => by cases q) rfl ?_
      refine y_get (j := 85) (len := 3) (r := (12, 38, 2, 1366)) (by decide +kernel) hg (t52 hg) at52 rfl rfl (g_r52 (f := 38) (T2 := 386) hg rfl (by decide)).1 ?_
      refine y_same (i := .iload_n 1) (len := 1) (r := (0, 0, 0, 0)) (pc' := 25) (ls' := [some (.inl (some 52)), some (zi xi)]) (st' := [zi xi, .inl (some 386)]) (by decide +kernel) (fun k q => by cases q) rfl ?_
      refine y_ic (c := 0) (len := 1) (r := (0, 0, 0, 0)) (by decide +kernel) (by decide) (fun y3388 hy3388 => ?_)
      refine y_bas (i := i) (len := 1) (r := (0, 0, 0, 0)) (by decide +kernel) hg (tu386 hg) at386 rfl (by omega) (by omega) (sr1 (by omega)) (by omega) (by omega) (zfit_b (by omega) (by omega)).1 (fun h3389 hg3389 hl3389 hs3389 ho3389 => ?_)
      refine y_inc (j := 1) (a := xi) (c := 1) (ls' := fun v => [some (.inl (some 52)), some v]) (len := 3) (r := (0, 0, 0, 0)) (by decide +kernel) rfl (fun _ => rfl) (by decide) (by omega) (by omega) (fun y3390 hy3390 => ?_)
      show qX (d + 14) 254 30 [some (.inl (some 52)), some (zi y3390)] [] h3389 t _
      refine y_goto (off := (-18)) (pc' := 12) (len := 3) (r := (0, 0, 0, 0)) (by decide +kernel) (by decide +kernel) ?_
      refine ih h3389 (i + 1) y3390 hg3389 (fun w hw => ?_) (fun k j hC => (ho3389 k j (by omega)).trans (F0 k j hC)) (by omega) (by omega) (by omega)
      rcases Nat.lt_or_ge w i with q9 | q9
      · exact ci_up (c1 w q9) (ho3389 386 w (by omega))
      · have e9 : w = i := by omega
        subst e9
        exact ⟨_, hs3389, by show _ = ((0 : Nat) : Int); omega⟩
theorem m_ir {d t : Nat} {τ : List Nat} {h0 : zh} {l : List it4} {ls : List Nat} {f : tlT} {H : hpT} (hg : hG τ h0) (hl0 : ci_ h0 55 46 l.length) (ip0 : ∀ (j : Nat) (i : it4), l[j]? = some i → qdM h0 55 (48 + 4 * j) i) (l5 : l.length ≤ 5) (ok : ∀ (j : Nat) (i : it4), l[j]? = some i → okI i) (men : ∀ i ∈ l, mnI ls i) (hfb : ∀ v, v ≤ 5 → f v ≤ 5) {mx : Nat} (hfb2 : ∀ v, v ≤ 5 → f v ≤ mx) (hmx : mx ≤ H.2.2.2) (tm0 : tM h0 ls f) (hp00 : hpM h0 H) (hw : hpW H) {c : List it4} (hc0 : ci_ h0 55 47 c.length) (ic0 : ∀ (j : Nat) (i : it4), c[j]? = some i → qdM h0 55 (68 + 4 * j) i) (l6 : c.length ≤ 6) (okc : ∀ (j : Nat) (i : it4), c[j]? = some i → okI i) (menc : ∀ i ∈ c, mnI ls i) : qI (d + 15) 254 [some (.inl (some 52)), none] h0 t (fun y h1 => hG τ h1 ∧ (∀ k j, k ≠ 386 → hsl h1 k j = hsl h0 k j) ∧ ((y.toInt = 1 ∧ fit_ H f (l, c)) ∨ (y.toInt = 0 ∧ ¬ fit_ H f (l, c)))) := by
  refine qI_of ?_
  refine y_same (i := .aload_n 0) (len := 1) (r := (0, 0, 0, 0)) (pc' := 1) (ls' := [some (.inl (some 52)), none]) (st' := [.inl (some 52)]) (by decide +kernel) (fun k q => by cases q) rfl ?_
  refine y_ic (c := 1) (len := 1) (r := (0, 0, 0, 0)) (by decide +kernel) (by decide) (fun y3391 hy3391 => ?_)
  refine y_cI (i := .invokevirtual 423) (len := 3) (r := (0, 248, 12, 1818)) (nL := 4) (k := 2) (n := 2) (hs := []) (args := [.inl (some 52), zi y3391]) (rest := []) (l0 := [some (.inl (some 52)), some (zi y3391), none, none]) (by decide +kernel) (Or.inr (Or.inl ⟨_, rfl⟩)) rfl rfl rfl rfl (Nat.le_of_ble_eq_true rfl) (z52 hg) rfl (qI_le (by omega) (m_ca1 (d := 0) (mx := 5) (l := c) (ls := ls) (f := f) hg (by omega) (ci_up hc0 (rfl)) (fun j i hj => qdM_up (ic0 j i hj) (fun w _ => rfl)) l6 okc menc (tM_up tm0 (fun j => rfl)) hfb)) (fun y3392 qy3392 hRy3392 => ?_)
  obtain ⟨rfl, hDy3392⟩ := hRy3392
  rcases hDy3392 with ⟨hyy3392, soy3392⟩ | ⟨hyy3392, soy3392⟩
  ·
    refine y_iT (c := .ne) (off := 5) (pc' := 10) (len := 3) (r := (0, 0, 0, 0)) (by decide +kernel) (acmpT (c := .ne) (by show ¬ (_ = _); omega)) (by decide +kernel) ?_
    refine y_ic (c := 0) (len := 1) (r := (0, 0, 0, 0)) (by decide +kernel) (by decide) (fun y3393 hy3393 => ?_)
    refine y_same (i := .istore_n 1) (len := 1) (r := (0, 0, 0, 0)) (pc' := 12) (ls' := [some (.inl (some 52)), some (zi y3393)]) (st' := []) (by decide +kernel) (fun k q => by cases q) rfl ?_
    obtain ⟨xp, hp39, ep⟩ := hp00.2
    refine nu_l (m := H.2.2.2) (h0 := h0) hp39 (by omega) hw.1 (fun h9 l1 g9 c9 F9 => ?_) (H.2.2.2 + 2) h0 0 y3393 hg (fun w hw => absurd hw (Nat.not_lt_zero w)) (fun k j _ => rfl) (by omega) (by omega) (by omega)
    refine y_ic (c := 0) (len := 1) (r := (0, 0, 0, 0)) (by decide +kernel) (by decide) (fun y3394 hy3394 => ?_)
    refine y_same (i := .istore_n 1) (len := 1) (r := (0, 0, 0, 0)) (pc' := 35) (ls' := [some (.inl (some 52)), some (zi y3394)]) (st' := []) (by decide +kernel) (fun k q => by cases q) rfl ?_
    refine qX_I (ir_l (h0 := h0) hl0 ip0 l5 ok men hfb2 (Nat.le_trans hmx (Nat.le_refl _)) tm0 hp00 hw (l.length + 1) h9 (fun _ => false) 0 y3394 g9 c9 F9 (by omega) (by omega) (by omega)) (fun y h1 hR => ⟨hR.1, hR.2.1, ?_⟩)
    rw [List.drop_zero] at hR
    rcases hR.2.2 with ⟨q1, q2⟩ | ⟨q1, q2⟩
    · exact Or.inl ⟨q1, soy3392, q2⟩
    · exact Or.inr ⟨q1, fun q3 => q2 q3.2⟩
  ·
    refine y_iF (c := .ne) (off := 5) (len := 3) (r := (0, 0, 0, 0)) (by decide +kernel) (acmpF (c := .ne) (by show _ = _; omega)) ?_
    refine y_ic (c := 0) (len := 1) (r := (0, 0, 0, 0)) (by decide +kernel) (by decide) (fun y3395 hy3395 => ?_)
    refine y_rI (len := 1) (r := (0, 0, 0, 0)) (nL := 2) (k := 2) (n9 := 1) (hs := []) (by decide +kernel) rfl (zfit_b (by omega) (by omega)).2 ?_
    exact ⟨hg, fun k j _ => rfl, Or.inr ⟨by omega, fun q3 => soy3392 q3.1⟩⟩
theorem hpw_l {d t : Nat} {τ : List Nat} {h : zh} {H : hpT} {k9 : Int} {xk : Int32} (hg : hG τ h) (hp : hpM h H) (hw : hpW H) (hxk : xk.toInt = k9) (hk9 : 0 ≤ k9) : ∀ (n : Nat) (i : Nat) (c : Nat) (xi : Int32) (xc : Int32), (xi.toInt = (i : Int)) → (xc.toInt = (c : Int)) → (1 ≤ i) → (i ≤ H.2.2.2 + 1 ∧ c ≤ i) → (H.2.2.2 + 1 < i + n) → qX d 255 4 [some (.inl (some 52)), some (zi xk), some (zi xc), some (zi xi)] [] h t (rI (fun y h1 => h = h1 ∧ y.toInt = ((c + ((List.range' i (11 - i)).filter (fun w => decide (H.1 w = k9))).length : Nat) : Int)) t) := by
  intro n
  induction n with
  | zero =>
    intro i c xi xc hxi hxc hi1 hi hn
    exfalso
    omega
  | succ n ih =>
    intro i c xi xc hxi hxc hi1 hi hn
    obtain ⟨xt, ht, et⟩ := hp.2
    have hw1 := hw.1
    refine y_same (i := .iload_n 3) (len := 1) (r := (0, 0, 0, 0)) (pc' := 5) (ls' := [some (.inl (some 52)), some (zi xk), some (zi xc), some (zi xi)]) (st' := [zi xi]) (by decide +kernel) (fun k q => by cases q) rfl ?_
    refine y_same (i := .aload_n 0) (len := 1) (r := (0, 0, 0, 0)) (pc' := 6) (ls' := [some (.inl (some 52)), some (zi xk), some (zi xc), some (zi xi)]) (st' := [.inl (some 52), zi xi]) (by decide +kernel) (fun k q => by cases q) rfl ?_
    refine y_get (j := 410) (len := 3) (r := (12, 39, 0, 1367)) (by decide +kernel) hg (t52 hg) at52 rfl rfl ht ?_
    rcases Decidable.em (xi.toInt > xt.toInt) with q3396 | q3396
    ·
      refine y_cT (c := .gt) (off := 27) (pc' := 36) (len := 3) (r := (0, 0, 0, 0)) (by decide +kernel) (acmpT (c := .gt) (by show _ < _; omega)) (by decide +kernel) ?_
      refine y_same (i := .iload_n 2) (len := 1) (r := (0, 0, 0, 0)) (pc' := 37) (ls' := [some (.inl (some 52)), some (zi xk), some (zi xc), some (zi xi)]) (st' := [zi xc]) (by decide +kernel) (fun k q => by cases q) rfl ?_
      refine y_rI (len := 1) (r := (0, 0, 0, 0)) (nL := 4) (k := 1) (n9 := 2) (hs := []) (by decide +kernel) rfl rfl ?_
      have e9 : (List.range' i (11 - i)).filter (fun w => decide (H.1 w = k9)) = [] := by
        rw [List.filter_eq_nil_iff]
        intro w hw9 hd
        have := List.mem_range'_1.mp hw9
        have hd := of_decide_eq_true hd
        have := hw.2 w (by omega)
        omega
      rw [e9]
      exact ⟨rfl, by simp only [List.length_nil]; omega⟩
    ·
      refine y_cF (c := .gt) (off := 27) (len := 3) (r := (0, 0, 0, 0)) (by decide +kernel) (acmpF (c := .gt) (by show _ ≤ _; omega)) ?_
      obtain ⟨⟨xv, hv, ev⟩, -⟩ := hp.1 i (by omega)
      refine y_same (i := .iload_n 2) (len := 1) (r := (0, 0, 0, 0)) (pc' := 13) (ls' := [some (.inl (some 52)), some (zi xk), some (zi xc), some (zi xi)]) (st' := [zi xc]) (by decide +kernel) (fun k q => by cases q) rfl ?_
      refine y_same (i := .aload_n 0) (len := 1) (r := (0, 0, 0, 0)) (pc' := 14) (ls' := [some (.inl (some 52)), some (zi xk), some (zi xc), some (zi xi)]) (st' := [.inl (some 52), zi xc]) (by decide +kernel) (fun k q => by cases q) rfl ?_
      refine y_get (j := 76) (len := 3) (r := (12, 35, 2, 1363)) (by decide +kernel) hg (t52 hg) at52 rfl rfl (g_r52 (f := 35) (T2 := 383) hg rfl (by decide)).1 ?_
      refine y_same (i := .iload_n 3) (len := 1) (r := (0, 0, 0, 0)) (pc' := 18) (ls' := [some (.inl (some 52)), some (zi xk), some (zi xc), some (zi xi)]) (st' := [zi xi, .inl (some 383), zi xc]) (by decide +kernel) (fun k q => by cases q) rfl ?_
      refine y_ial (i := i) (len := 1) (r := (0, 0, 0, 0)) (by decide +kernel) hg (tu383 hg) at383 (by omega) hv ?_
      refine y_same (i := .iload_n 1) (len := 1) (r := (0, 0, 0, 0)) (pc' := 20) (ls' := [some (.inl (some 52)), some (zi xk), some (zi xc), some (zi xi)]) (st' := [zi xk, zi xv, zi xc]) (by decide +kernel) (fun k q => by cases q) rfl ?_
      rcases Decidable.em (xv.toInt ≠ xk.toInt) with q3397 | q3397
      ·
        refine y_cT (c := .ne) (off := 7) (pc' := 27) (len := 3) (r := (0, 0, 0, 0)) (by decide +kernel) (acmpT (c := .ne) (by show ¬ (_ = _); omega)) (by decide +kernel) ?_
        refine y_ic (c := 0) (len := 1) (r := (0, 0, 0, 0)) (by decide +kernel) (by decide) (fun y3398 hy3398 => ?_)
        refine y_add (len := 1) (r := (0, 0, 0, 0)) (by decide +kernel) (by omega) (by omega) (fun y3399 hy3399 => ?_)
        refine y_same (i := .istore_n 2) (len := 1) (r := (0, 0, 0, 0)) (pc' := 30) (ls' := [some (.inl (some 52)), some (zi xk), some (zi y3399), some (zi xi)]) (st' := []) (by decide +kernel) (fun k q => by cases q) rfl ?_
        refine y_inc (j := 3) (a := xi) (c := 1) (ls' := fun v => [some (.inl (some 52)), some (zi xk), some (zi y3399), some v]) (len := 3) (r := (0, 0, 0, 0)) (by decide +kernel) rfl (fun _ => rfl) (by decide) (by omega) (by omega) (fun y3400 hy3400 => ?_)
        show qX d 255 33 [some (.inl (some 52)), some (zi xk), some (zi y3399), some (zi y3400)] [] h t _
        refine y_goto (off := (-29)) (pc' := 4) (len := 3) (r := (0, 0, 0, 0)) (by decide +kernel) (by decide +kernel) ?_
        refine qX_I (ih (i + 1) c y3400 y3399 (by omega) (by omega) (by omega) (by omega) (by omega)) (fun y h1 hR => ?_)
        rw [rng_c (by omega), List.filter_cons, decide_eq_false (by omega)]
        refine ⟨hR.1, ?_⟩
        have e9 := hR.2
        exact e9
      ·
        refine y_cF (c := .ne) (off := 7) (len := 3) (r := (0, 0, 0, 0)) (by decide +kernel) (acmpF (c := .ne) (by show _ = _; omega)) ?_
        refine y_ic (c := 1) (len := 1) (r := (0, 0, 0, 0)) (by decide +kernel) (by decide) (fun y3401 hy3401 => ?_)
        refine y_goto (off := 4) (pc' := 28) (len := 3) (r := (0, 0, 0, 0)) (by decide +kernel) (by decide +kernel) ?_
        refine y_add (len := 1) (r := (0, 0, 0, 0)) (by decide +kernel) (by omega) (by omega) (fun y3402 hy3402 => ?_)
        refine y_same (i := .istore_n 2) (len := 1) (r := (0, 0, 0, 0)) (pc' := 30) (ls' := [some (.inl (some 52)), some (zi xk), some (zi y3402), some (zi xi)]) (st' := []) (by decide +kernel) (fun k q => by cases q) rfl ?_
        refine y_inc (j := 3) (a := xi) (c := 1) (ls' := fun v => [some (.inl (some 52)), some (zi xk), some (zi y3402), some v]) (len := 3) (r := (0, 0, 0, 0)) (by decide +kernel) rfl (fun _ => rfl) (by decide) (by omega) (by omega) (fun y3403 hy3403 => ?_)
        show qX d 255 33 [some (.inl (some 52)), some (zi xk), some (zi y3402), some (zi y3403)] [] h t _
        refine y_goto (off := (-29)) (pc' := 4) (len := 3) (r := (0, 0, 0, 0)) (by decide +kernel) (by decide +kernel) ?_
        refine qX_I (ih (i + 1) (c + 1) y3403 y3402 (by omega) (by omega) (by omega) (by omega) (by omega)) (fun y h1 hR => ?_)
        rw [rng_c (by omega), List.filter_cons, decide_eq_true (by omega)]
        refine ⟨hR.1, ?_⟩
        have e9 := hR.2
        simp only [if_true, List.length_cons]
        omega
theorem m_pw {d t : Nat} {τ : List Nat} {h : zh} {H : hpT} {k9 : Int} {xk : Int32} (hg : hG τ h) (hp : hpM h H) (hw : hpW H) (hxk : xk.toInt = k9) (hk9 : 0 ≤ k9) : qI (d + 1) 255 [some (.inl (some 52)), some (zi xk), none, none] h t (fun y h1 => h = h1 ∧ y.toInt = (cntK H k9 : Int)) := by
  refine qI_of ?_
  refine y_ic (c := 0) (len := 1) (r := (0, 0, 0, 0)) (by decide +kernel) (by decide) (fun y3404 hy3404 => ?_)
  refine y_same (i := .istore_n 2) (len := 1) (r := (0, 0, 0, 0)) (pc' := 2) (ls' := [some (.inl (some 52)), some (zi xk), some (zi y3404), none]) (st' := []) (by decide +kernel) (fun k q => by cases q) rfl ?_
  refine y_ic (c := 1) (len := 1) (r := (0, 0, 0, 0)) (by decide +kernel) (by decide) (fun y3405 hy3405 => ?_)
  refine y_same (i := .istore_n 3) (len := 1) (r := (0, 0, 0, 0)) (pc' := 4) (ls' := [some (.inl (some 52)), some (zi xk), some (zi y3404), some (zi y3405)]) (st' := []) (by decide +kernel) (fun k q => by cases q) rfl ?_
  refine qX_I (hpw_l hg hp hw hxk hk9 (H.2.2.2 + 1) 1 0 y3405 y3404 (by omega) (by omega) (by omega) (by omega) (by omega)) (fun y h1 hR => ⟨hR.1, ?_⟩)
  have e9 := hR.2
  rw [Nat.zero_add] at e9
  exact e9
