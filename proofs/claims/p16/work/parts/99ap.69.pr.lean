/-! longs; the steps summed -/
abbrev zlg (w : Int64) : zv := .inr (.inr (.inl w))
theorem y_lc0 {d mi pc : Nat} {ls : List (Option zv)} {st : List zv} {h : zh} {t : Nat} {P : zo × zh × Nat → Prop} {len : Nat} {r : zr} (hf : zfetch mi pc = some (.lconst 0, len, r)) (k : qX d mi (pc + 1) ls (zlg (Int64.ofNat 0) :: st) h t P) : qX d mi pc ls st h t P := by
  refine y_same hf (fun k q => by cases q) (stH_A' rfl ?_) k
  show frcL (Int64.ofNat 0) (fun v => some (pc + 1, ls, (.inr (.inr (.inl v)) : zv) :: st)) = _
  rw [frcL_eq]
theorem y_l2 {d mi pc : Nat} {ls : List (Option zv)} {st : List zv} {h : zh} {t : Nat} {P : zo × zh × Nat → Prop} {len : Nat} {r : zr} {i c : Nat} (hf : zfetch mi pc = some (.ldc2_w i, len, r)) (hr : r.2.1 = c) (k : qX d mi (pc + 3) ls (zlg (Int64.ofNat c) :: st) h t P) : qX d mi pc ls st h t P := by
  subst hr
  refine y_same hf (fun k q => by cases q) ?_ k
  show frcL (Int64.ofNat r.2.1) (fun v => some (pc + 3, ls, (.inr (.inr (.inl v)) : zv) :: st, (none : zp))) = _
  rw [frcL_eq]
theorem y_lbin {d mi pc : Nat} {ls : List (Option zv)} {h : zh} {t : Nat} {P : zo × zh × Nat → Prop} {len : Nat} {r : zr} {i : Instr} {f : Int64 → Int64 → Int64} {a b : Int64} {st' : List zv} (hf : zfetch mi pc = some (i, len, r)) (h1 : anoH i = true) (h2 : stA i r pc ls (zlg b :: zlg a :: st') = zbin (lop f) pc ls (zlg b :: zlg a :: st')) (h9 : ∀ k, i = .new k → Nat.beq r.1 99 = false) (k : qX d mi (pc + 1) ls (zlg (f a b) :: st') h t P) : qX d mi pc ls (zlg b :: zlg a :: st') h t P := by
  refine y_same hf h9 (stH_A' h1 (h2.trans ?_)) k
  show (match lop f (zlg a) (zlg b) with
    | some v => some (pc + 1, ls, v :: st')
    | none => none) = _
  have e : lop f (zlg a) (zlg b) = some (zlg (f a b)) := by
    show frcL (f a b) (fun z => (some (.inr (.inr (.inl z))) : Option zv)) = _
    rw [frcL_eq]
  rw [e]
def rL (R : Int64 → zh → Prop) (t : Nat) (x : zo × zh × Nat) : Prop := ∃ (w : Int64) (h1 : zh), x = (.inl (some (zlg w)), h1, t) ∧ R w h1
def qJ (d mj : Nat) (l0 : List (Option zv)) (h : zh) (t : Nat) (R : Int64 → zh → Prop) : Prop := ∃ (w : Int64) (h1 : zh), qE d mj l0 h t (.inl (some (zlg w)), h1, t) ∧ R w h1
theorem qJ_of {d mj : Nat} {l0 : List (Option zv)} {h : zh} {t : Nat} {R : Int64 → zh → Prop} (k : qX d mj 0 l0 [] h t (rL R t)) : qJ (d + 1) mj l0 h t R := by
  obtain ⟨x, k, w, h1, rfl, r⟩ := k
  exact ⟨w, h1, qE_of k, r⟩
theorem qJ_le {d d' mj : Nat} {l0 : List (Option zv)} {h : zh} {t : Nat} {R : Int64 → zh → Prop} (hd : d ≤ d') (k : qJ d mj l0 h t R) : qJ d' mj l0 h t R := by
  obtain ⟨w, h1, e, r⟩ := k
  exact ⟨w, h1, qE_le hd e, r⟩
theorem y_rL {d mi pc : Nat} {ls : List (Option zv)} {h : zh} {t len : Nat} {r : zr} {w : Int64} {nL k n9 : Nat} {hs : List (Nat × Nat × Nat × Nat)} {R : Int64 → zh → Prop} (hf : zfetch mi pc = some (.lreturn, len, r)) (hm : zmeth mi = some (nL, k, n9, hs)) (hr : zret k (zlg w) = true) (hR : R w h) : qX d mi pc ls [zlg w] h t (rL R t) := ⟨_, qF_fin (i := .lreturn) (f := zisL) hf (Or.inr (Or.inr ⟨rfl, rfl⟩)) hm hr rfl, w, h, rfl, hR⟩
/-- the steps, summed -/
def prS (L : List enT) : Int64 := L.foldl (fun v e => Int64.ofNat 31 * v + (nI e.2.1).toInt64) (Int64.ofNat 0)
theorem prS_s {L : List enT} {k : Nat} {e : enT} (h : L[k]? = some e) : prS (L.take (k + 1)) = Int64.ofNat 31 * prS (L.take k) + (nI e.2.1).toInt64 := by
  have e1 : L.take (k + 1) = L.take k ++ [e] := by rw [List.take_succ, h]; rfl
  unfold prS
  rw [e1, List.foldl_append]
  rfl
theorem y_cJ {d mi pc : Nat} {ls : List (Option zv)} {st : List zv} {h : zh} {t : Nat} {P : zo × zh × Nat → Prop} {len : Nat} {r : zr} {i : Instr} {nL k n : Nat} {hs : List (Nat × Nat × Nat × Nat)} {args rest : List zv} {l0 : List (Option zv)} {R : Int64 → zh → Prop} (hf : zfetch mi pc = some (i, len, r)) (hi : (∃ k, i = .invokestatic k) ∨ (∃ k, i = .invokevirtual k) ∨ (∃ k, i = .invokespecial k)) (h5 : Nat.beq r.1 5 = false) (h7 : Nat.beq r.1 7 = false) (q1 : zmeth r.2.1 = some (nL, k, n, hs)) (q2 : zpop n [] st = some (args, rest)) (q3 : zcat rest ≤ 8) (q4 : zargs r args h = true) (q5 : zent args nL = some l0) (hE : qJ d r.2.1 l0 h t R) (kk : ∀ (w : Int64) (h1 : zh), R w h1 → qX d mi (pc + 3) ls (zlg w :: rest) h1 t P) : qX d mi pc ls st h t P := by
  obtain ⟨w, h1, hE, hR⟩ := hE
  obtain ⟨x, k9, hP⟩ := kk w h1 hR
  exact ⟨x, qF_call hf hi h5 h7 q1 q2 q3 q4 q5 hE (qB_val k9), hP⟩
theorem sum_l {d t : Nat} {τ : List Nat} {h : zh} {L : List enT} {xn : Int32} (hg : hG τ h) (hn6 : hsl h 28 6 = some (zi xn)) (en6 : xn.toInt = (L.length : Int)) (hL : L.length ≤ 300) (V : ∀ (k : Nat) (e : enT), L[k]? = some e → ∃ a, rfs h 29 k a ∧ τ[a]? = some 1008 ∧ ci_ h a 4 e.2.1) : ∀ (n : Nat) (k : Nat) (w : Int64) (xk : Int32), (w = prS (L.take k)) → (xk.toInt = (k : Int)) → (k ≤ L.length) → (L.length < k + n) → qX (d + 2) 36 4 [some (.inl (some 28)), some (.inr (.inr (.inl w))), none, some (zi xk)] [] h t (rL (fun w h1 => h = h1 ∧ w = prS L) t) := by
  intro n
  induction n with
  | zero =>
    intro k w xk hw hxk hk hn
    exfalso
    omega
  | succ n ih =>
    intro k w xk hw hxk hk hn
    skip
    refine y_same (i := .iload_n 3) (len := 1) (r := (0, 0, 0, 0)) (pc' := 5) (ls' := [some (.inl (some 28)), some (.inr (.inr (.inl w))), none, some (zi xk)]) (st' := [zi xk]) (by decide +kernel) (fun k q => by cases q) rfl ?_
    refine y_same (i := .aload_n 0) (len := 1) (r := (0, 0, 0, 0)) (pc' := 6) (ls' := [some (.inl (some 28)), some (.inr (.inr (.inl w))), none, some (zi xk)]) (st' := [.inl (some 28), zi xk]) (by decide +kernel) (fun k q => by cases q) rfl ?_
    refine y_get (j := 35) (len := 3) (r := (4, 6, 0, 289)) (by decide +kernel) hg (tv28 hg) aw28 rfl rfl hn6 ?_
    rcases Decidable.em (xk.toInt ≥ xn.toInt) with q2969 | q2969
    ·
      refine y_cT (c := .ge) (off := 25) (pc' := 34) (len := 3) (r := (0, 0, 0, 0)) (by decide +kernel) (acmpT (c := .ge) (by show _ ≤ _; omega)) (by decide +kernel) ?_
      refine y_same (i := .lload_n 1) (len := 1) (r := (0, 0, 0, 0)) (pc' := 35) (ls' := [some (.inl (some 28)), some (.inr (.inr (.inl w))), none, some (zi xk)]) (st' := [.inr (.inr (.inl w))]) (by decide +kernel) (fun k q => by cases q) rfl ?_
      refine y_rL (len := 1) (r := (0, 0, 0, 0)) (nL := 4) (k := 4) (n9 := 1) (hs := []) (by decide +kernel) rfl rfl ?_
      exact ⟨rfl, by rw [hw, List.take_of_length_le (by omega)]⟩
    ·
      refine y_cF (c := .ge) (off := 25) (len := 3) (r := (0, 0, 0, 0)) (by decide +kernel) (acmpF (c := .ge) (by show _ < _; omega)) ?_
      obtain ⟨e, ke⟩ : ∃ i9, L[k]? = some i9 := ⟨_, List.getElem?_eq_getElem (by omega)⟩
      obtain ⟨a, ra, ta, ⟨xs, hs4, es4⟩⟩ := V k e ke
      have ex := nI_of_i es4
      refine y_l2 (i := 74) (c := 31) (len := 3) (r := (2, 31, 839, 0)) (by decide +kernel) rfl ?_
      refine y_same (i := .lload_n 1) (len := 1) (r := (0, 0, 0, 0)) (pc' := 16) (ls' := [some (.inl (some 28)), some (.inr (.inr (.inl w))), none, some (zi xk)]) (st' := [.inr (.inr (.inl w)), .inr (.inr (.inl (Int64.ofNat 31)))]) (by decide +kernel) (fun k q => by cases q) rfl ?_
      refine y_lbin (i := .lmul) (f := fun x y => x * y) (len := 1) (r := (0, 0, 0, 0)) (by decide +kernel) rfl rfl (fun k q => by cases q) ?_
      show qX (d + 2) 36 17 [some (.inl (some 28)), some (.inr (.inr (.inl w))), none, some (zi xk)] [.inr (.inr (.inl ((Int64.ofNat 31) * w)))] h t _
      refine y_same (i := .aload_n 0) (len := 1) (r := (0, 0, 0, 0)) (pc' := 18) (ls' := [some (.inl (some 28)), some (.inr (.inr (.inl w))), none, some (zi xk)]) (st' := [.inl (some 28), .inr (.inr (.inl ((Int64.ofNat 31) * w)))]) (by decide +kernel) (fun k q => by cases q) rfl ?_
      refine y_same (i := .iload_n 3) (len := 1) (r := (0, 0, 0, 0)) (pc' := 19) (ls' := [some (.inl (some 28)), some (.inr (.inr (.inl w))), none, some (zi xk)]) (st' := [zi xk, .inl (some 28), .inr (.inr (.inl ((Int64.ofNat 31) * w)))]) (by decide +kernel) (fun k q => by cases q) rfl ?_
      refine y_cA (i := .invokevirtual 67) (len := 3) (r := (0, 33, 4, 505)) (nL := 3) (k := 3) (n := 2) (hs := []) (args := [.inl (some 28), zi xk]) (rest := [.inr (.inr (.inl ((Int64.ofNat 31) * w)))]) (l0 := [some (.inl (some 28)), some (zi xk), none]) (by decide +kernel) (Or.inr (Or.inl ⟨_, rfl⟩)) rfl rfl rfl rfl (Nat.le_of_ble_eq_true rfl) (zO hg (tv28 hg) aw28 rfl) rfl (qA_le (by omega) (e_slo28 (d := 0) (k := k) hg (by omega) (by omega) ra)) (fun h2970 hR2970 => ?_)
      obtain rfl := hR2970
      refine y_get (j := 71) (len := 3) (r := (7, 4, 0, 20543)) (by decide +kernel) hg ta aw1008 rfl rfl hs4 ?_
      refine y_i2l2 (len := 1) (r := (0, 0, 0, 0)) (by decide +kernel) ?_
      refine y_lbin (i := .ladd) (f := fun x y => x + y) (len := 1) (r := (0, 0, 0, 0)) (by decide +kernel) rfl rfl (fun k q => by cases q) ?_
      show qX (d + 2) 36 27 [some (.inl (some 28)), some (.inr (.inr (.inl w))), none, some (zi xk)] [.inr (.inr (.inl (((Int64.ofNat 31) * w) + xs.toInt64)))] h t _
      refine y_same (i := .lstore_n 1) (len := 1) (r := (0, 0, 0, 0)) (pc' := 28) (ls' := [some (.inl (some 28)), some (.inr (.inr (.inl (((Int64.ofNat 31) * w) + xs.toInt64)))), none, some (zi xk)]) (st' := []) (by decide +kernel) (fun k q => by cases q) rfl ?_
      refine y_inc (j := 3) (a := xk) (c := 1) (ls' := fun v => [some (.inl (some 28)), some (.inr (.inr (.inl (((Int64.ofNat 31) * w) + xs.toInt64)))), none, some v]) (len := 3) (r := (0, 0, 0, 0)) (by decide +kernel) rfl (fun _ => rfl) (by decide) (by omega) (by omega) (fun y2971 hy2971 => ?_)
      show qX (d + 2) 36 31 [some (.inl (some 28)), some (.inr (.inr (.inl (((Int64.ofNat 31) * w) + xs.toInt64)))), none, some (zi y2971)] [] h t _
      refine y_goto (off := (-27)) (pc' := 4) (len := 3) (r := (0, 0, 0, 0)) (by decide +kernel) (by decide +kernel) ?_
      exact ih (k + 1) (((Int64.ofNat 31) * w) + xs.toInt64) y2971 (by rw [prS_s ke, hw, ex]) (by omega) (by omega) (by omega)
theorem e_sum {d t : Nat} {τ : List Nat} {h : zh} {L : List enT} (hg : hG τ h) (c6 : ci_ h 28 6 L.length) (hL : L.length ≤ 300) (V : ∀ (k : Nat) (e : enT), L[k]? = some e → ∃ a, rfs h 29 k a ∧ τ[a]? = some 1008 ∧ ci_ h a 4 e.2.1) : qJ (d + 3) 36 [some (.inl (some 28)), none, none, none] h t (fun w h1 => h = h1 ∧ w = prS L) := by
  obtain ⟨xn, hn6, en6⟩ := c6
  refine qJ_of ?_
  refine y_lc0 (len := 1) (r := (0, 0, 0, 0)) (by decide +kernel) ?_
  refine y_same (i := .lstore_n 1) (len := 1) (r := (0, 0, 0, 0)) (pc' := 2) (ls' := [some (.inl (some 28)), some (.inr (.inr (.inl (Int64.ofNat 0)))), none, none]) (st' := []) (by decide +kernel) (fun k q => by cases q) rfl ?_
  refine y_ic (c := 0) (len := 1) (r := (0, 0, 0, 0)) (by decide +kernel) (by decide) (fun y2972 hy2972 => ?_)
  refine y_same (i := .istore_n 3) (len := 1) (r := (0, 0, 0, 0)) (pc' := 4) (ls' := [some (.inl (some 28)), some (.inr (.inr (.inl (Int64.ofNat 0)))), none, some (zi y2972)]) (st' := []) (by decide +kernel) (fun k q => by cases q) rfl ?_
  exact sum_l hg hn6 en6 hL V (L.length + 1) 0 _ y2972 rfl (by omega) (by omega) (by omega)
theorem e_prk {d t : Nat} {τ : List Nat} {h : zh} {L : List enT} (hg : hG τ h) (r5 : rfs h 0 5 2) (j1 : kx_ h 28 5 1) (c6 : ci_ h 28 6 L.length) (hL : L.length ≤ 300) (V : ∀ (k : Nat) (e : enT), L[k]? = some e → ∃ a, rfs h 29 k a ∧ τ[a]? = some 1008 ∧ ci_ h a 4 e.2.1) : qJ (d + 14) 150 [some (.inl (some 0))] h t (fun w h1 => w = prS L ∧ h = h1) := by
  refine qJ_of ?_
  refine y_same (i := .aload_n 0) (len := 1) (r := (0, 0, 0, 0)) (pc' := 1) (ls' := [some (.inl (some 0))]) (st' := [.inl (some 0)]) (by decide +kernel) (fun k q => by cases q) rfl ?_
  refine y_get (j := 52) (len := 3) (r := (11, 8, 2, 407)) (by decide +kernel) hg (tv0 hg) aw0 rfl rfl (g_rU (f := 8) (T2 := 28) hg (tv0 hg) aw0 rfl (by decide)) ?_
  refine y_same (i := .aload_n 0) (len := 1) (r := (0, 0, 0, 0)) (pc' := 5) (ls' := [some (.inl (some 0))]) (st' := [.inl (some 0), .inl (some 28)]) (by decide +kernel) (fun k q => by cases q) rfl ?_
  refine y_get (j := 29) (len := 3) (r := (11, 5, 2, 404)) (by decide +kernel) hg (tv0 hg) aw0 rfl rfl r5 ?_
  refine y_cV (i := .invokevirtual 153) (len := 3) (r := (0, 37, 4, 494)) (nL := 6) (k := 0) (n := 2) (hs := []) (args := [.inl (some 28), .inl (some 2)]) (rest := []) (l0 := [some (.inl (some 28)), some (.inl (some 2)), none, none, none, none]) (by decide +kernel) (Or.inr (Or.inl ⟨_, rfl⟩)) rfl rfl rfl rfl (Nat.le_of_ble_eq_true rfl) (zO hg (tv28 hg) aw28 rfl) rfl (qV_le (by omega) (e_jdk28 (d := 0) hg j1)) (fun h2973 hR2973 => ?_)
  obtain rfl := hR2973
  refine y_same (i := .aload_n 0) (len := 1) (r := (0, 0, 0, 0)) (pc' := 12) (ls' := [some (.inl (some 0))]) (st' := [.inl (some 0)]) (by decide +kernel) (fun k q => by cases q) rfl ?_
  refine y_get (j := 52) (len := 3) (r := (11, 8, 2, 407)) (by decide +kernel) hg (tv0 hg) aw0 rfl rfl (g_rU (f := 8) (T2 := 28) hg (tv0 hg) aw0 rfl (by decide)) ?_
  refine y_cJ (i := .invokevirtual 222) (len := 3) (r := (0, 36, 4, 835)) (nL := 4) (k := 4) (n := 1) (hs := []) (args := [.inl (some 28)]) (rest := []) (l0 := [some (.inl (some 28)), none, none, none]) (by decide +kernel) (Or.inr (Or.inl ⟨_, rfl⟩)) rfl rfl rfl rfl (Nat.le_of_ble_eq_true rfl) (zO hg (tv28 hg) aw28 rfl) rfl (qJ_le (by omega) (e_sum (d := 0) hg c6 hL V)) (fun w2974 h2975 hR2975 => ?_)
  obtain ⟨rfl, ew2974⟩ := hR2975
  refine y_rL (len := 1) (r := (0, 0, 0, 0)) (nL := 1) (k := 4) (n9 := 1) (hs := []) (by decide +kernel) rfl rfl ?_
  exact ⟨ew2974, rfl⟩
theorem e_prz {Z : Nat → Prop} {d t u v : Nat} {τ : List Nat} {h : zh} {b : bsT} (hg : hG τ h) (r5 : rfs h 0 5 2) (cm : cmI h 29) (ml : kx_ h 28 0 0) (hu : uv_ u v) (l2 : layC h 2) (b2 : bsC h 2 u v b) (ok : okB b) (j0 : kx_ h 28 5 0) (zj : zI Z τ h h 29) : qJ (d + 14) 150 [some (.inl (some 0))] h t (fun w h1 => w = prS (prfF cyP false b).1 ∧ ∃ τ1, aup τ τ1 ∧ jdZ Z h τ1 h1 28 (prfF cyP false b)) := by
  generalize hR9 : prfF cyP false b = R
  refine qJ_of ?_
  refine y_same (i := .aload_n 0) (len := 1) (r := (0, 0, 0, 0)) (pc' := 1) (ls' := [some (.inl (some 0))]) (st' := [.inl (some 0)]) (by decide +kernel) (fun k q => by cases q) rfl ?_
  refine y_get (j := 52) (len := 3) (r := (11, 8, 2, 407)) (by decide +kernel) hg (tv0 hg) aw0 rfl rfl (g_rU (f := 8) (T2 := 28) hg (tv0 hg) aw0 rfl (by decide)) ?_
  refine y_same (i := .aload_n 0) (len := 1) (r := (0, 0, 0, 0)) (pc' := 5) (ls' := [some (.inl (some 0))]) (st' := [.inl (some 0), .inl (some 28)]) (by decide +kernel) (fun k q => by cases q) rfl ?_
  refine y_get (j := 29) (len := 3) (r := (11, 5, 2, 404)) (by decide +kernel) hg (tv0 hg) aw0 rfl rfl r5 ?_
  refine y_cV (i := .invokevirtual 153) (len := 3) (r := (0, 37, 4, 494)) (nL := 6) (k := 0) (n := 2) (hs := []) (args := [.inl (some 28), .inl (some 2)]) (rest := []) (l0 := [some (.inl (some 28)), some (.inl (some 2)), none, none, none, none]) (by decide +kernel) (Or.inr (Or.inl ⟨_, rfl⟩)) rfl rfl rfl rfl (Nat.le_of_ble_eq_true rfl) (zO hg (tv28 hg) aw28 rfl) rfl (qV_le (by omega) (e_jdh28 (d := 0) hg cm ml hu l2 b2 ok j0 zj)) (fun h2976 hR2976 => ?_)
  rw [hR9] at hR2976
  obtain ⟨τ1, u1, o1⟩ := hR2976
  obtain ⟨⟨hg2976, cm1, j5, o8, c6, l6, c2, gr, pE⟩, -⟩ := id o1
  refine y_same (i := .aload_n 0) (len := 1) (r := (0, 0, 0, 0)) (pc' := 12) (ls' := [some (.inl (some 0))]) (st' := [.inl (some 0)]) (by decide +kernel) (fun k q => by cases q) rfl ?_
  refine y_get (j := 52) (len := 3) (r := (11, 8, 2, 407)) (by decide +kernel) hg2976 (tv0 hg2976) aw0 rfl rfl (g_rU (f := 8) (T2 := 28) hg2976 (tv0 hg2976) aw0 rfl (by decide)) ?_
  refine y_cJ (i := .invokevirtual 222) (len := 3) (r := (0, 36, 4, 835)) (nL := 4) (k := 4) (n := 1) (hs := []) (args := [.inl (some 28)]) (rest := []) (l0 := [some (.inl (some 28)), none, none, none]) (by decide +kernel) (Or.inr (Or.inl ⟨_, rfl⟩)) rfl rfl rfl rfl (Nat.le_of_ble_eq_true rfl) (zO hg2976 (tv28 hg2976) aw28 rfl) rfl (qJ_le (by omega) (e_sum (d := 0) (L := R.1) hg2976 c6 l6 (fun k e ke => by obtain ⟨a, r, g, l, c4, -⟩ := pE k e ke; exact ⟨a, r, l.2.1.1, c4⟩))) (fun w2977 h2978 hR2978 => ?_)
  obtain ⟨rfl, ew2977⟩ := hR2978
  refine y_rL (len := 1) (r := (0, 0, 0, 0)) (nL := 1) (k := 4) (n9 := 1) (hs := []) (by decide +kernel) rfl rfl ?_
  exact ⟨ew2977, τ1, u1, o1⟩
