/-! heaps, refused, place -/
theorem y_lsw {d mi pc : Nat} {ls : List (Option zv)} {h : zh} {t : Nat} {P : zo × zh × Nat → Prop} {len : Nat} {r : zr} {a : Int32} {st' : List zv} {dflt off : Int} {ps : Array (Int × Int)} {pc' : Nat} (hf : zfetch mi pc = some (.lookupswitch dflt ps, len, r)) (hs : (ps.toList.zip (ps.toList.drop 1)).all (fun (a, next) => a.1 < next.1) = true) (ho : Op.lookupswitch.offset ps.toList dflt a.toInt = off) (ht : ztg pc off = some pc') (k : qX d mi pc' ls st' h t P) : qX d mi pc ls (zi a :: st') h t P := by
  refine y_same hf (fun k q => by cases q) (stH_A' rfl ?_) k
  show (bif (ps.toList.zip (ps.toList.drop 1)).all (fun (a, next) => a.1 < next.1) then zbr (some true) pc (Op.lookupswitch.offset ps.toList dflt a.toInt) ls st' else none) = _
  rw [hs, ho]
  show (match ztg pc off with
    | some t => some (t, ls, st')
    | none => none) = _
  rw [ht]
def JC (h : zh) (cur : bsT) : Prop := ci_ h 44 0 0 ∧ (ci_ h 42 5 1 → rcC h (ltr (letN cur)) (run_ cur))
def JM (h : zh) (cur : bsT) : Prop := ci_ h 52 47 1 → rcM h (ltr (letN cur)) (run_ cur)
theorem bl_c {τ : List Nat} {h : zh} (hg : hG τ h) : ∃ x : Int32, hsl h 42 5 = some (zi x) ∧ (x.toInt = 0 ∨ x.toInt = 1) := by
  obtain ⟨x, e, l, u⟩ := g_int (i := 5) (lo := 0) (hi := 1) hg (tv42 hg) aw42 (by decide) rfl
  exact ⟨x, e, by omega⟩
theorem bl_m {τ : List Nat} {h : zh} (hg : hG τ h) : ∃ x : Int32, hsl h 52 47 = some (zi x) ∧ (x.toInt = 0 ∨ x.toInt = 1) := by
  obtain ⟨x, e, l, u⟩ := g_int (i := 47) (lo := 0) (hi := 1) hg (t52 hg) at52 (by decide) rfl
  exact ⟨x, e, by omega⟩
noncomputable def hqV (cur : bsT) (w : Int) : Int := if w = 0 then ((run_ cur).1 : Int) else ((run_ cur).2.1 : Int)
noncomputable def rqV (cur : bsT) (w : Int) : Int := if w = 0 then rN (run_ cur) else if w = 1 then rCe (run_ cur) else rPa (run_ cur)
noncomputable def pqV (cur : bsT) (w : Int) : Int := rPl (ltr (letN cur)) (run_ cur) w.toNat
theorem rN_pl {s : rcT} (h : rN s = -1) : rCe s = -1 ∧ rPa s = -1 ∧ ∀ ls v, rPl ls s v = -1 := by
  have e := rN_n h
  unfold rCe rPa rPl
  rw [e]
  exact ⟨rfl, rfl, fun _ _ => rfl⟩
theorem c_pl {d t v : Nat} {n : Int} {τ : List Nat} {h : zh} {xv : Int32} (hg : hG τ h) (c : kx_ h 51 v n) (exv : xv.toInt = (v : Int)) (hv1 : 1 ≤ v) (hv5 : v ≤ 5) : qI (d + 1) 115 [some (.inl (some 42)), some (zi xv)] h t (fun y h1 => h = h1 ∧ y.toInt = n) := by
  obtain ⟨xz, hz, ez⟩ := c
  refine qI_of ?_
  refine y_same (i := .iload_n 1) (len := 1) (r := (0, 0, 0, 0)) (pc' := 1) (ls' := [some (.inl (some 42)), some (zi xv)]) (st' := [zi xv]) (by decide +kernel) (fun k q => by cases q) rfl ?_
  refine y_ic (c := 1) (len := 1) (r := (0, 0, 0, 0)) (by decide +kernel) (by decide) (fun y4370 hy4370 => ?_)
  refine y_cF (c := .lt) (off := 17) (len := 3) (r := (0, 0, 0, 0)) (by decide +kernel) (acmpF (c := .lt) (by show _ ≤ _; omega)) ?_
  refine y_same (i := .iload_n 1) (len := 1) (r := (0, 0, 0, 0)) (pc' := 6) (ls' := [some (.inl (some 42)), some (zi xv)]) (st' := [zi xv]) (by decide +kernel) (fun k q => by cases q) rfl ?_
  refine y_ic (c := 5) (len := 1) (r := (0, 0, 0, 0)) (by decide +kernel) (by decide) (fun y4371 hy4371 => ?_)
  refine y_cF (c := .gt) (off := 12) (len := 3) (r := (0, 0, 0, 0)) (by decide +kernel) (acmpF (c := .gt) (by show _ ≤ _; omega)) ?_
  refine y_same (i := .aload_n 0) (len := 1) (r := (0, 0, 0, 0)) (pc' := 11) (ls' := [some (.inl (some 42)), some (zi xv)]) (st' := [.inl (some 42)]) (by decide +kernel) (fun k q => by cases q) rfl ?_
  refine y_get (j := 25) (len := 3) (r := (10, 3, 2, 362)) (by decide +kernel) hg (tv42 hg) aw42 rfl rfl (g_rU (f := 3) (T2 := 51) hg (tv42 hg) aw42 rfl (by decide)) ?_
  refine y_same (i := .iload_n 1) (len := 1) (r := (0, 0, 0, 0)) (pc' := 15) (ls' := [some (.inl (some 42)), some (zi xv)]) (st' := [zi xv, .inl (some 51)]) (by decide +kernel) (fun k q => by cases q) rfl ?_
  refine y_ial (i := v) (len := 1) (r := (0, 0, 0, 0)) (by decide +kernel) hg (tv51 hg) aw51 (by omega) hz ?_
  refine y_goto (off := 4) (pc' := 20) (len := 3) (r := (0, 0, 0, 0)) (by decide +kernel) (by decide +kernel) ?_
  refine y_rI (len := 1) (r := (0, 0, 0, 0)) (nL := 2) (k := 1) (n9 := 2) (hs := []) (by decide +kernel) rfl rfl ?_
  exact ⟨rfl, ez⟩
theorem c_heaps0 {t : Nat} {τ : List Nat} {h : zh} {cur : bsT} {hs : List bsT} {xw : Int32} (hg : hG τ h) (rc : RC h cur hs) (r5 : hsl h 0 5 = some (.inl (some 2))) (ok : (∀ (j : Nat) (i : it4), cur.1.1[j]? = some i → okI i) ∧ (∀ (j : Nat) (i : it4), cur.1.2[j]? = some i → okI i) ∧ (∀ (j : Nat) (i : it4), cur.2.1[j]? = some i → okI i) ∧ ∀ (j : Nat) (i : it4), cur.2.2[j]? = some i → okI i) (len : cur.1.1.length ≤ 5 ∧ cur.1.2.length ≤ 6 ∧ cur.2.1.length ≤ 5 ∧ cur.2.2.length ≤ 6) (jc : JC h cur) (hw : xw.toInt = 0) : qI 21 147 [some (.inl (some 0)), some (zi xw)] h t (fun y h1 => hG τ h1 ∧ y.toInt = ((run_ cur).1 : Int) ∧ rcC h1 (ltr (letN cur)) (run_ cur) ∧ ci_ h1 44 0 0 ∧ ∀ k j, (k < 42 ∨ 51 < k) → hsl h1 k j = hsl h k j) := by
  refine qI_of ?_
  refine y_same (i := .aload_n 0) (len := 1) (r := (0, 0, 0, 0)) (pc' := 1) (ls' := [some (.inl (some 0)), some (zi xw)]) (st' := [.inl (some 0)]) (by decide +kernel) (fun k q => by cases q) rfl ?_
  refine y_same (i := .iload_n 1) (len := 1) (r := (0, 0, 0, 0)) (pc' := 2) (ls' := [some (.inl (some 0)), some (zi xw)]) (st' := [zi xw, .inl (some 0)]) (by decide +kernel) (fun k q => by cases q) rfl ?_
  refine y_iT (c := .eq) (off := 8) (pc' := 10) (len := 3) (r := (0, 0, 0, 0)) (by decide +kernel) (acmpT (c := .eq) (by show _ = _; omega)) (by decide +kernel) ?_
  refine y_ic (c := 1) (len := 1) (r := (0, 0, 0, 0)) (by decide +kernel) (by decide) (fun y4372 hy4372 => ?_)
  refine y_goto (off := 4) (pc' := 15) (len := 3) (r := (0, 0, 0, 0)) (by decide +kernel) (by decide +kernel) ?_
  refine y_cV (i := .invokevirtual 70) (len := 3) (r := (0, 153, 11, 852)) (nL := 2) (k := 0) (n := 2) (hs := []) (args := [.inl (some 0), zi y4372]) (rest := []) (l0 := [some (.inl (some 0)), some (zi y4372)]) (by decide +kernel) (Or.inr (Or.inl ⟨_, rfl⟩)) rfl rfl rfl rfl (Nat.le_of_ble_eq_true rfl) (zO hg (tv0 hg) aw0 rfl) rfl (qV_le (by decide) (c_fit (d := 0) (by omega))) (fun q4373 hR4373 => ?_)
  obtain rfl := hR4373
  refine y_same (i := .aload_n 0) (len := 1) (r := (0, 0, 0, 0)) (pc' := 19) (ls' := [some (.inl (some 0)), some (zi xw)]) (st' := [.inl (some 0)]) (by decide +kernel) (fun k q => by cases q) rfl ?_
  refine y_get (j := 62) (len := 3) (r := (11, 10, 2, 409)) (by decide +kernel) hg (tv0 hg) aw0 rfl rfl (g_rU (f := 10) (T2 := 42) hg (tv0 hg) aw0 rfl (by decide)) ?_
  refine y_same (i := .aload_n 0) (len := 1) (r := (0, 0, 0, 0)) (pc' := 23) (ls' := [some (.inl (some 0)), some (zi xw)]) (st' := [.inl (some 0), .inl (some 42)]) (by decide +kernel) (fun k q => by cases q) rfl ?_
  refine y_get (j := 29) (len := 3) (r := (11, 5, 2, 404)) (by decide +kernel) hg (tv0 hg) aw0 rfl rfl r5 ?_
  refine y_cV (i := .invokevirtual 205) (len := 3) (r := (0, 116, 10, 1184)) (nL := 4) (k := 0) (n := 2) (hs := []) (args := [.inl (some 42), .inl (some 2)]) (rest := []) (l0 := [some (.inl (some 42)), some (.inl (some 2)), none, none]) (by decide +kernel) (Or.inr (Or.inl ⟨_, rfl⟩)) rfl rfl rfl rfl (Nat.le_of_ble_eq_true rfl) (zO hg (tv42 hg) aw42 rfl) rfl (qV_le (by decide) (e_jdg (d := 0) hg rc ok len jc.1 (bl_c hg) jc.2)) (fun h4374 hR4374 => ?_)
  obtain ⟨hg4374, rq4374, jf4374, v04374, F4374⟩ := hR4374
  obtain ⟨⟨x6, h6, e6⟩, ⟨x7, h7, e7⟩, ⟨x8, h8, e8⟩, ⟨x9, h9, e9⟩, ⟨x10, h10, e10⟩, cp⟩ := id rq4374
  refine y_same (i := .iload_n 1) (len := 1) (r := (0, 0, 0, 0)) (pc' := 30) (ls' := [some (.inl (some 0)), some (zi xw)]) (st' := [zi xw]) (by decide +kernel) (fun k q => by cases q) rfl ?_
  refine y_iF (c := .ne) (off := 13) (len := 3) (r := (0, 0, 0, 0)) (by decide +kernel) (acmpF (c := .ne) (by show _ = _; omega)) ?_
  refine y_same (i := .aload_n 0) (len := 1) (r := (0, 0, 0, 0)) (pc' := 34) (ls' := [some (.inl (some 0)), some (zi xw)]) (st' := [.inl (some 0)]) (by decide +kernel) (fun k q => by cases q) rfl ?_
  refine y_get (j := 62) (len := 3) (r := (11, 10, 2, 409)) (by decide +kernel) hg4374 (tv0 hg4374) aw0 rfl rfl (g_rU (f := 10) (T2 := 42) hg4374 (tv0 hg4374) aw0 rfl (by decide)) ?_
  refine y_get (j := 206) (len := 3) (r := (10, 6, 0, 20367)) (by decide +kernel) hg4374 (tv42 hg4374) aw42 rfl rfl h6 ?_
  refine y_goto (off := 10) (pc' := 50) (len := 3) (r := (0, 0, 0, 0)) (by decide +kernel) (by decide +kernel) ?_
  refine y_rI (len := 1) (r := (0, 0, 0, 0)) (nL := 2) (k := 1) (n9 := 2) (hs := []) (by decide +kernel) rfl rfl ?_
  exact ⟨hg4374, by omega, rq4374, v04374, fun k j hC => (F4374 k j (by omega))⟩
theorem c_heaps1 {t : Nat} {τ : List Nat} {h : zh} {cur : bsT} {hs : List bsT} {xw : Int32} (hg : hG τ h) (rc : RC h cur hs) (r5 : hsl h 0 5 = some (.inl (some 2))) (ok : (∀ (j : Nat) (i : it4), cur.1.1[j]? = some i → okI i) ∧ (∀ (j : Nat) (i : it4), cur.1.2[j]? = some i → okI i) ∧ (∀ (j : Nat) (i : it4), cur.2.1[j]? = some i → okI i) ∧ ∀ (j : Nat) (i : it4), cur.2.2[j]? = some i → okI i) (len : cur.1.1.length ≤ 5 ∧ cur.1.2.length ≤ 6 ∧ cur.2.1.length ≤ 5 ∧ cur.2.2.length ≤ 6) (jc : JC h cur) (hw : xw.toInt = 1) : qI 21 147 [some (.inl (some 0)), some (zi xw)] h t (fun y h1 => hG τ h1 ∧ y.toInt = ((run_ cur).2.1 : Int) ∧ rcC h1 (ltr (letN cur)) (run_ cur) ∧ ci_ h1 44 0 0 ∧ ∀ k j, (k < 42 ∨ 51 < k) → hsl h1 k j = hsl h k j) := by
  refine qI_of ?_
  refine y_same (i := .aload_n 0) (len := 1) (r := (0, 0, 0, 0)) (pc' := 1) (ls' := [some (.inl (some 0)), some (zi xw)]) (st' := [.inl (some 0)]) (by decide +kernel) (fun k q => by cases q) rfl ?_
  refine y_same (i := .iload_n 1) (len := 1) (r := (0, 0, 0, 0)) (pc' := 2) (ls' := [some (.inl (some 0)), some (zi xw)]) (st' := [zi xw, .inl (some 0)]) (by decide +kernel) (fun k q => by cases q) rfl ?_
  refine y_iF (c := .eq) (off := 8) (len := 3) (r := (0, 0, 0, 0)) (by decide +kernel) (acmpF (c := .eq) (by show ¬ (_ = _); omega)) ?_
  refine y_same (i := .iload_n 1) (len := 1) (r := (0, 0, 0, 0)) (pc' := 6) (ls' := [some (.inl (some 0)), some (zi xw)]) (st' := [zi xw, .inl (some 0)]) (by decide +kernel) (fun k q => by cases q) rfl ?_
  refine y_ic (c := 1) (len := 1) (r := (0, 0, 0, 0)) (by decide +kernel) (by decide) (fun y4375 hy4375 => ?_)
  refine y_cF (c := .ne) (off := 7) (len := 3) (r := (0, 0, 0, 0)) (by decide +kernel) (acmpF (c := .ne) (by show _ = _; omega)) ?_
  refine y_ic (c := 1) (len := 1) (r := (0, 0, 0, 0)) (by decide +kernel) (by decide) (fun y4376 hy4376 => ?_)
  refine y_goto (off := 4) (pc' := 15) (len := 3) (r := (0, 0, 0, 0)) (by decide +kernel) (by decide +kernel) ?_
  refine y_cV (i := .invokevirtual 70) (len := 3) (r := (0, 153, 11, 852)) (nL := 2) (k := 0) (n := 2) (hs := []) (args := [.inl (some 0), zi y4376]) (rest := []) (l0 := [some (.inl (some 0)), some (zi y4376)]) (by decide +kernel) (Or.inr (Or.inl ⟨_, rfl⟩)) rfl rfl rfl rfl (Nat.le_of_ble_eq_true rfl) (zO hg (tv0 hg) aw0 rfl) rfl (qV_le (by decide) (c_fit (d := 0) (by omega))) (fun q4377 hR4377 => ?_)
  obtain rfl := hR4377
  refine y_same (i := .aload_n 0) (len := 1) (r := (0, 0, 0, 0)) (pc' := 19) (ls' := [some (.inl (some 0)), some (zi xw)]) (st' := [.inl (some 0)]) (by decide +kernel) (fun k q => by cases q) rfl ?_
  refine y_get (j := 62) (len := 3) (r := (11, 10, 2, 409)) (by decide +kernel) hg (tv0 hg) aw0 rfl rfl (g_rU (f := 10) (T2 := 42) hg (tv0 hg) aw0 rfl (by decide)) ?_
  refine y_same (i := .aload_n 0) (len := 1) (r := (0, 0, 0, 0)) (pc' := 23) (ls' := [some (.inl (some 0)), some (zi xw)]) (st' := [.inl (some 0), .inl (some 42)]) (by decide +kernel) (fun k q => by cases q) rfl ?_
  refine y_get (j := 29) (len := 3) (r := (11, 5, 2, 404)) (by decide +kernel) hg (tv0 hg) aw0 rfl rfl r5 ?_
  refine y_cV (i := .invokevirtual 205) (len := 3) (r := (0, 116, 10, 1184)) (nL := 4) (k := 0) (n := 2) (hs := []) (args := [.inl (some 42), .inl (some 2)]) (rest := []) (l0 := [some (.inl (some 42)), some (.inl (some 2)), none, none]) (by decide +kernel) (Or.inr (Or.inl ⟨_, rfl⟩)) rfl rfl rfl rfl (Nat.le_of_ble_eq_true rfl) (zO hg (tv42 hg) aw42 rfl) rfl (qV_le (by decide) (e_jdg (d := 0) hg rc ok len jc.1 (bl_c hg) jc.2)) (fun h4378 hR4378 => ?_)
  obtain ⟨hg4378, rq4378, jf4378, v04378, F4378⟩ := hR4378
  obtain ⟨⟨x6, h6, e6⟩, ⟨x7, h7, e7⟩, ⟨x8, h8, e8⟩, ⟨x9, h9, e9⟩, ⟨x10, h10, e10⟩, cp⟩ := id rq4378
  refine y_same (i := .iload_n 1) (len := 1) (r := (0, 0, 0, 0)) (pc' := 30) (ls' := [some (.inl (some 0)), some (zi xw)]) (st' := [zi xw]) (by decide +kernel) (fun k q => by cases q) rfl ?_
  refine y_iT (c := .ne) (off := 13) (pc' := 43) (len := 3) (r := (0, 0, 0, 0)) (by decide +kernel) (acmpT (c := .ne) (by show ¬ (_ = _); omega)) (by decide +kernel) ?_
  refine y_same (i := .aload_n 0) (len := 1) (r := (0, 0, 0, 0)) (pc' := 44) (ls' := [some (.inl (some 0)), some (zi xw)]) (st' := [.inl (some 0)]) (by decide +kernel) (fun k q => by cases q) rfl ?_
  refine y_get (j := 62) (len := 3) (r := (11, 10, 2, 409)) (by decide +kernel) hg4378 (tv0 hg4378) aw0 rfl rfl (g_rU (f := 10) (T2 := 42) hg4378 (tv0 hg4378) aw0 rfl (by decide)) ?_
  refine y_get (j := 207) (len := 3) (r := (10, 7, 0, 20369)) (by decide +kernel) hg4378 (tv42 hg4378) aw42 rfl rfl h7 ?_
  refine y_rI (len := 1) (r := (0, 0, 0, 0)) (nL := 2) (k := 1) (n9 := 2) (hs := []) (by decide +kernel) rfl rfl ?_
  exact ⟨hg4378, by omega, rq4378, v04378, fun k j hC => (F4378 k j (by omega))⟩
theorem c_heapsX {t : Nat} {τ : List Nat} {h : zh} {xw : Int32} (hg : hG τ h) (hw : ¬ (0 ≤ xw.toInt ∧ xw.toInt ≤ 1)) : qT 21 147 [some (.inl (some 0)), some (zi xw)] h t 1 (fun h1 => hG τ h1 ∧ ∀ k j, (k ≠ 0 ∨ j ≠ 4) → hsl h1 k j = hsl h k j) := by
  refine qT_of ?_
  refine y_same (i := .aload_n 0) (len := 1) (r := (0, 0, 0, 0)) (pc' := 1) (ls' := [some (.inl (some 0)), some (zi xw)]) (st' := [.inl (some 0)]) (by decide +kernel) (fun k q => by cases q) rfl ?_
  refine y_same (i := .iload_n 1) (len := 1) (r := (0, 0, 0, 0)) (pc' := 2) (ls' := [some (.inl (some 0)), some (zi xw)]) (st' := [zi xw, .inl (some 0)]) (by decide +kernel) (fun k q => by cases q) rfl ?_
  rcases Decidable.em (xw.toInt = 0) with q4379 | q4379
  ·
    refine y_iT (c := .eq) (off := 8) (pc' := 10) (len := 3) (r := (0, 0, 0, 0)) (by decide +kernel) (acmpT (c := .eq) (by show _ = _; omega)) (by decide +kernel) ?_
    refine y_ic (c := 1) (len := 1) (r := (0, 0, 0, 0)) (by decide +kernel) (by decide) (fun y4380 hy4380 => ?_)
    refine y_goto (off := 4) (pc' := 15) (len := 3) (r := (0, 0, 0, 0)) (by decide +kernel) (by decide +kernel) ?_
    exfalso
    omega
  ·
    refine y_iF (c := .eq) (off := 8) (len := 3) (r := (0, 0, 0, 0)) (by decide +kernel) (acmpF (c := .eq) (by show ¬ (_ = _); omega)) ?_
    refine y_same (i := .iload_n 1) (len := 1) (r := (0, 0, 0, 0)) (pc' := 6) (ls' := [some (.inl (some 0)), some (zi xw)]) (st' := [zi xw, .inl (some 0)]) (by decide +kernel) (fun k q => by cases q) rfl ?_
    refine y_ic (c := 1) (len := 1) (r := (0, 0, 0, 0)) (by decide +kernel) (by decide) (fun y4381 hy4381 => ?_)
    rcases Decidable.em (xw.toInt ≠ y4381.toInt) with q4382 | q4382
    ·
      refine y_cT (c := .ne) (off := 7) (pc' := 14) (len := 3) (r := (0, 0, 0, 0)) (by decide +kernel) (acmpT (c := .ne) (by show ¬ (_ = _); omega)) (by decide +kernel) ?_
      refine y_ic (c := 0) (len := 1) (r := (0, 0, 0, 0)) (by decide +kernel) (by decide) (fun y4383 hy4383 => ?_)
      refine y_cX (i := .invokevirtual 70) (len := 3) (r := (0, 153, 11, 852)) (nL := 2) (k := 0) (n := 2) (hs := []) (args := [.inl (some 0), zi y4383]) (rest := []) (l0 := [some (.inl (some 0)), some (zi y4383)]) (by decide +kernel) (Or.inr (Or.inl ⟨_, rfl⟩)) rfl rfl rfl rfl (Nat.le_of_ble_eq_true rfl) (zO hg (tv0 hg) aw0 rfl) rfl rfl (mL := 2) (mk := 1) (m9 := 2) (ms := []) rfl rfl (qT_le (by decide) (c_fitT (d := 0) hg (by omega))) (fun h4384 hR4384 => ?_)
      obtain ⟨hg4384, F4384⟩ := hR4384
      exact ⟨_, rfl, hg4384, fun k j hC => (F4384 k j (by omega))⟩
    ·
      refine y_cF (c := .ne) (off := 7) (len := 3) (r := (0, 0, 0, 0)) (by decide +kernel) (acmpF (c := .ne) (by show _ = _; omega)) ?_
      refine y_ic (c := 1) (len := 1) (r := (0, 0, 0, 0)) (by decide +kernel) (by decide) (fun y4385 hy4385 => ?_)
      refine y_goto (off := 4) (pc' := 15) (len := 3) (r := (0, 0, 0, 0)) (by decide +kernel) (by decide +kernel) ?_
      exfalso
      omega
theorem c_lheapsX {t : Nat} {τ : List Nat} {h : zh} {xw : Int32} (hg : hG τ h) (hw : ¬ (0 ≤ xw.toInt ∧ xw.toInt ≤ 1)) : ∃ (y : Int32) (h1 : zh), qE 60 286 [some (.inl (some 0)), some (zi xw), some (.inl (some 388)), none] h t (.inl (some (zi y)), h1, t + 1) ∧ y.toInt = 1 ∧ hG τ h1 ∧ ∀ k j, (k ≠ 0 ∨ j ≠ 4) → hsl h1 k j = hsl h k j := by
  have key : qX 31 286 0 [some (.inl (some 0)), some (zi xw), some (.inl (some 388)), none] [] h t (rI (fun y h1 => y.toInt = 1 ∧ hG τ h1 ∧ ∀ k j, (k ≠ 0 ∨ j ≠ 4) → hsl h1 k j = hsl h k j) (t + 1)) := by
    refine y_same (i := .aload_n 2) (len := 1) (r := (0, 0, 0, 0)) (pc' := 1) (ls' := [some (.inl (some 0)), some (zi xw), some (.inl (some 388)), none]) (st' := [.inl (some 388)]) (by decide +kernel) (fun k q => by cases q) rfl ?_
    refine y_ic (c := 0) (len := 1) (r := (0, 0, 0, 0)) (by decide +kernel) (by decide) (fun y4386 hy4386 => ?_)
    refine y_same (i := .aload_n 0) (len := 1) (r := (0, 0, 0, 0)) (pc' := 3) (ls' := [some (.inl (some 0)), some (zi xw), some (.inl (some 388)), none]) (st' := [.inl (some 0), zi y4386, .inl (some 388)]) (by decide +kernel) (fun k q => by cases q) rfl ?_
    refine y_same (i := .iload_n 1) (len := 1) (r := (0, 0, 0, 0)) (pc' := 4) (ls' := [some (.inl (some 0)), some (zi xw), some (.inl (some 388)), none]) (st' := [zi xw, .inl (some 0), zi y4386, .inl (some 388)]) (by decide +kernel) (fun k q => by cases q) rfl ?_
    refine y_cC (i := .invokevirtual 47) (len := 3) (r := (0, 147, 11, 1180)) (nL := 2) (k := 1) (n := 2) (hs := []) (args := [.inl (some 0), zi xw]) (rest := [zi y4386, .inl (some 388)]) (l0 := [some (.inl (some 0)), some (zi xw)]) (by decide +kernel) (Or.inr (Or.inl ⟨_, rfl⟩)) rfl rfl rfl rfl (Nat.le_of_ble_eq_true rfl) (zO hg (tv0 hg) aw0 rfl) rfl rfl (mL := 4) (mk := 1) (m9 := 3) (ms := [(0, 9, 12, 1)]) rfl rfl (qT_le (by decide) (c_heapsX hg hw)) (fun h4387 hR4387 => ?_)
    obtain ⟨hg4387, F4387⟩ := hR4387
    refine y_same (i := .astore_n 3) (len := 1) (r := (0, 0, 0, 0)) (pc' := 13) (ls' := [some (.inl (some 0)), some (zi xw), some (.inl (some 388)), some (.inl (some 1000001))]) (st' := []) (by decide +kernel) (fun k q => by cases q) rfl ?_
    refine y_ic (c := 1) (len := 1) (r := (0, 0, 0, 0)) (by decide +kernel) (by decide) (fun y4388 hy4388 => ?_)
    refine y_rI (len := 1) (r := (0, 0, 0, 0)) (nL := 4) (k := 1) (n9 := 3) (hs := [(0, 9, 12, 1)]) (by decide +kernel) rfl rfl ?_
    exact ⟨by omega, hg4387, fun k j hC => (F4387 k j (by omega))⟩
  obtain ⟨x, k, y, h1, rfl, hR⟩ := key
  exact ⟨y, h1, qE_le (by decide) (qE_of k), hR⟩
theorem c_lheaps {t : Nat} {v : Int} {τ : List Nat} {h : zh} {xw : Int32} {Q : zh → Prop} (hg : hG τ h) (hin : qI 21 147 [some (.inl (some 0)), some (zi xw)] h t (fun y h1 => hG τ h1 ∧ y.toInt = v ∧ Q h1)) : qI 60 286 [some (.inl (some 0)), some (zi xw), some (.inl (some 388)), none] h t (fun y h2 => hG τ h2 ∧ y.toInt = 0 ∧ (∃ h1, Q h1 ∧ ∀ k j, k ≠ 388 → hsl h2 k j = hsl h1 k j) ∧ ∃ z : Int32, ou_ h2 z ∧ z.toInt = v) := by
  refine qI_le (d := 32) (by decide) (qI_of ?_)
  refine y_same (i := .aload_n 2) (len := 1) (r := (0, 0, 0, 0)) (pc' := 1) (ls' := [some (.inl (some 0)), some (zi xw), some (.inl (some 388)), none]) (st' := [.inl (some 388)]) (by decide +kernel) (fun k q => by cases q) rfl ?_
  refine y_ic (c := 0) (len := 1) (r := (0, 0, 0, 0)) (by decide +kernel) (by decide) (fun y4389 hy4389 => ?_)
  refine y_same (i := .aload_n 0) (len := 1) (r := (0, 0, 0, 0)) (pc' := 3) (ls' := [some (.inl (some 0)), some (zi xw), some (.inl (some 388)), none]) (st' := [.inl (some 0), zi y4389, .inl (some 388)]) (by decide +kernel) (fun k q => by cases q) rfl ?_
  refine y_same (i := .iload_n 1) (len := 1) (r := (0, 0, 0, 0)) (pc' := 4) (ls' := [some (.inl (some 0)), some (zi xw), some (.inl (some 388)), none]) (st' := [zi xw, .inl (some 0), zi y4389, .inl (some 388)]) (by decide +kernel) (fun k q => by cases q) rfl ?_
  refine y_cI (i := .invokevirtual 47) (len := 3) (r := (0, 147, 11, 1180)) (nL := 2) (k := 1) (n := 2) (hs := []) (args := [.inl (some 0), zi xw]) (rest := [zi y4389, .inl (some 388)]) (l0 := [some (.inl (some 0)), some (zi xw)]) (by decide +kernel) (Or.inr (Or.inl ⟨_, rfl⟩)) rfl rfl rfl rfl (Nat.le_of_ble_eq_true rfl) (zO hg (tv0 hg) aw0 rfl) rfl (qI_le (by decide) hin) (fun y4390 h4390 hRy4390 => ?_)
  obtain ⟨hg4390, ey, hQ⟩ := hRy4390
  refine y_i2l2 (len := 1) (r := (0, 0, 0, 0)) (by decide +kernel) ?_
  refine y_las2 (i := 0) (len := 1) (r := (0, 0, 0, 0)) (by decide +kernel) hg4390 (t388 hg4390) aw388 rfl (by omega) (by omega) rfl (fun h4391 hg4391 hw4391 ho4391 => ?_)
  refine y_goto (off := 6) (pc' := 15) (len := 3) (r := (0, 0, 0, 0)) (by decide +kernel) (by decide +kernel) ?_
  refine y_ic (c := 0) (len := 1) (r := (0, 0, 0, 0)) (by decide +kernel) (by decide) (fun y4392 hy4392 => ?_)
  refine y_rI (len := 1) (r := (0, 0, 0, 0)) (nL := 4) (k := 1) (n9 := 3) (hs := [(0, 9, 12, 1)]) (by decide +kernel) rfl rfl ?_
  exact ⟨hg4391, by omega, ⟨_, hQ, fun k j hC => (ho4391 k j (by omega))⟩, _, hw4391, ey⟩
theorem m_heaps0 {t : Nat} {τ : List Nat} {h : zh} {cur : bsT} {hs : List bsT} {xw : Int32} (hg : hG τ h) (rm : RM h cur hs) (ok : (∀ (j : Nat) (i : it4), cur.1.1[j]? = some i → okI i) ∧ (∀ (j : Nat) (i : it4), cur.1.2[j]? = some i → okI i) ∧ (∀ (j : Nat) (i : it4), cur.2.1[j]? = some i → okI i) ∧ ∀ (j : Nat) (i : it4), cur.2.2[j]? = some i → okI i) (len : cur.1.1.length ≤ 5 ∧ cur.1.2.length ≤ 6 ∧ cur.2.1.length ≤ 5 ∧ cur.2.2.length ≤ 6) (pz : ∀ i ∈ cur.1.1, pzi i) (cz : cz1 cur) (jm : JM h cur) (hw : xw.toInt = 0) : qI 60 260 [some (.inl (some 52)), some (zi xw)] h t (fun y h1 => hG τ h1 ∧ y.toInt = ((run_ cur).1 : Int) ∧ rcM h1 (ltr (letN cur)) (run_ cur) ∧ (∀ k j, ((k < 52 ∨ (53 < k ∧ k < 381) ∨ 387 < k ∨ (k = 52 ∧ j ≠ 0 ∧ (j < 39 ∨ 47 < j)))) → hsl h1 k j = hsl h k j) ∧ ∃ z : Int32, hsl h1 52 0 = some (zi z) ∧ z.toInt = 0) := by
  refine qI_le (d := 40) (by decide) (qI_of ?_)
  refine y_same (i := .aload_n 0) (len := 1) (r := (0, 0, 0, 0)) (pc' := 1) (ls' := [some (.inl (some 52)), some (zi xw)]) (st' := [.inl (some 52)]) (by decide +kernel) (fun k q => by cases q) rfl ?_
  refine y_ic (c := 0) (len := 1) (r := (0, 0, 0, 0)) (by decide +kernel) (by decide) (fun y4393 hy4393 => ?_)
  refine y_put (j := 92) (lo := (-2147483648)) (hi := 2147483647) (len := 3) (r := (12, 0, 0, 1328)) (by decide +kernel) hg (t52 hg) at52 rfl rfl (by decide) rfl (qin_full _).1 (qin_full _).2 rfl (fun h4394 hg4394 hl4394 hs4394 ho4394 => ?_)
  have ho4394 : hO 52 0 h h4394 := ho4394
  have hs4394 : hsl h4394 52 0 = some (zi y4393) := hs4394
  refine y_same (i := .aload_n 0) (len := 1) (r := (0, 0, 0, 0)) (pc' := 6) (ls' := [some (.inl (some 52)), some (zi xw)]) (st' := [.inl (some 52)]) (by decide +kernel) (fun k q => by cases q) rfl ?_
  refine y_same (i := .iload_n 1) (len := 1) (r := (0, 0, 0, 0)) (pc' := 7) (ls' := [some (.inl (some 52)), some (zi xw)]) (st' := [zi xw, .inl (some 52)]) (by decide +kernel) (fun k q => by cases q) rfl ?_
  refine y_ic (c := 0) (len := 1) (r := (0, 0, 0, 0)) (by decide +kernel) (by decide) (fun y4395 hy4395 => ?_)
  refine y_ic (c := 1) (len := 1) (r := (0, 0, 0, 0)) (by decide +kernel) (by decide) (fun y4396 hy4396 => ?_)
  refine y_cI (i := .invokestatic 200) (len := 3) (r := (1, 162, 12, 1486)) (nL := 3) (k := 2) (n := 3) (hs := []) (args := [zi xw, zi y4395, zi y4396]) (rest := [.inl (some 52)]) (l0 := [some (zi xw), some (zi y4395), some (zi y4396)]) (by decide +kernel) (Or.inl ⟨_, rfl⟩) rfl rfl rfl rfl (Nat.le_of_ble_eq_true rfl) rfl rfl (qI_le (by decide) (m_in (d := 0) (by omega) (by omega))) (fun y4397 qy4397 hRy4397 => ?_)
  obtain ⟨rfl, hy4397⟩ := hRy4397
  refine y_iT (c := .ne) (off := 7) (pc' := 19) (len := 3) (r := (0, 0, 0, 0)) (by decide +kernel) (acmpT (c := .ne) (by show ¬ (_ = _); omega)) (by decide +kernel) ?_
  refine y_ic (c := 0) (len := 1) (r := (0, 0, 0, 0)) (by decide +kernel) (by decide) (fun y4398 hy4398 => ?_)
  refine y_ic (c := 1) (len := 1) (r := (0, 0, 0, 0)) (by decide +kernel) (by decide) (fun y4399 hy4399 => ?_)
  refine y_ic (c := 1) (len := 1) (r := (0, 0, 0, 0)) (by decide +kernel) (by decide) (fun y4400 hy4400 => ?_)
  refine y_cI (i := .invokevirtual 204) (len := 3) (r := (0, 161, 12, 1489)) (nL := 4) (k := 2) (n := 4) (hs := []) (args := [.inl (some 52), zi y4398, zi y4399, zi y4400]) (rest := []) (l0 := [some (.inl (some 52)), some (zi y4398), some (zi y4399), some (zi y4400)]) (by decide +kernel) (Or.inr (Or.inl ⟨_, rfl⟩)) rfl rfl rfl rfl (Nat.le_of_ble_eq_true rfl) (z52 hg4394) rfl (qI_le (by decide) (m_bad (d := 0) hg4394 (by omega) hs4394 (by omega))) (fun y4401 qy4401 hRy4401 => ?_)
  obtain ⟨rfl, hy4401⟩ := hRy4401
  refine y_iT (c := .eq) (off := 5) (pc' := 30) (len := 3) (r := (0, 0, 0, 0)) (by decide +kernel) (acmpT (c := .eq) (by show _ = _; omega)) (by decide +kernel) ?_
  refine y_same (i := .aload_n 0) (len := 1) (r := (0, 0, 0, 0)) (pc' := 31) (ls' := [some (.inl (some 52)), some (zi xw)]) (st' := [.inl (some 52)]) (by decide +kernel) (fun k q => by cases q) rfl ?_
  refine y_cV (i := .invokevirtual 471) (len := 3) (r := (0, 259, 12, 1798)) (nL := 1) (k := 0) (n := 1) (hs := []) (args := [.inl (some 52)]) (rest := []) (l0 := [some (.inl (some 52))]) (by decide +kernel) (Or.inr (Or.inl ⟨_, rfl⟩)) rfl rfl rfl rfl (Nat.le_of_ble_eq_true rfl) (z52 hg4394) rfl (qV_le (by decide) (m_lay (d := 0) hg4394 (RM_up rm (fun k j h1 => (ho4394 k j (by omega)))) len ok pz cz (bl_m hg4394) (fun q9 => rcM_up (jm (ci_to q9 ((ho4394 52 47 (by omega))).symm)) (fun k j hC => (ho4394 k j (by omega)))))) (fun h4402 hR4402 => ?_)
  obtain ⟨hg4402, rq4402, jf4402, F4402⟩ := hR4402
  obtain ⟨⟨x41, h41, e41⟩, ⟨x42, h42, e42⟩, ⟨x43, h43, e43⟩, cp⟩ := id rq4402
  refine y_same (i := .iload_n 1) (len := 1) (r := (0, 0, 0, 0)) (pc' := 35) (ls' := [some (.inl (some 52)), some (zi xw)]) (st' := [zi xw]) (by decide +kernel) (fun k q => by cases q) rfl ?_
  refine y_iF (c := .ne) (off := 10) (len := 3) (r := (0, 0, 0, 0)) (by decide +kernel) (acmpF (c := .ne) (by show _ = _; omega)) ?_
  refine y_same (i := .aload_n 0) (len := 1) (r := (0, 0, 0, 0)) (pc' := 39) (ls' := [some (.inl (some 52)), some (zi xw)]) (st' := [.inl (some 52)]) (by decide +kernel) (fun k q => by cases q) rfl ?_
  refine y_get (j := 441) (len := 3) (r := (12, 41, 0, 1369)) (by decide +kernel) hg4402 (t52 hg4402) at52 rfl rfl h41 ?_
  refine y_goto (off := 7) (pc' := 49) (len := 3) (r := (0, 0, 0, 0)) (by decide +kernel) (by decide +kernel) ?_
  refine y_rI (len := 1) (r := (0, 0, 0, 0)) (nL := 2) (k := 1) (n9 := 2) (hs := []) (by decide +kernel) rfl rfl ?_
  have hv4403 := (F4402 52 0 (by omega)).trans hs4394
  exact ⟨hg4402, by omega, rcM_up rq4402 (fun k j hC => rfl), fun k j hC => ((F4402 k j (by omega)).trans (ho4394 k j (by omega))), _, hv4403, by omega⟩
theorem m_heaps1 {t : Nat} {τ : List Nat} {h : zh} {cur : bsT} {hs : List bsT} {xw : Int32} (hg : hG τ h) (rm : RM h cur hs) (ok : (∀ (j : Nat) (i : it4), cur.1.1[j]? = some i → okI i) ∧ (∀ (j : Nat) (i : it4), cur.1.2[j]? = some i → okI i) ∧ (∀ (j : Nat) (i : it4), cur.2.1[j]? = some i → okI i) ∧ ∀ (j : Nat) (i : it4), cur.2.2[j]? = some i → okI i) (len : cur.1.1.length ≤ 5 ∧ cur.1.2.length ≤ 6 ∧ cur.2.1.length ≤ 5 ∧ cur.2.2.length ≤ 6) (pz : ∀ i ∈ cur.1.1, pzi i) (cz : cz1 cur) (jm : JM h cur) (hw : xw.toInt = 1) : qI 60 260 [some (.inl (some 52)), some (zi xw)] h t (fun y h1 => hG τ h1 ∧ y.toInt = ((run_ cur).2.1 : Int) ∧ rcM h1 (ltr (letN cur)) (run_ cur) ∧ (∀ k j, ((k < 52 ∨ (53 < k ∧ k < 381) ∨ 387 < k ∨ (k = 52 ∧ j ≠ 0 ∧ (j < 39 ∨ 47 < j)))) → hsl h1 k j = hsl h k j) ∧ ∃ z : Int32, hsl h1 52 0 = some (zi z) ∧ z.toInt = 0) := by
  refine qI_le (d := 40) (by decide) (qI_of ?_)
  refine y_same (i := .aload_n 0) (len := 1) (r := (0, 0, 0, 0)) (pc' := 1) (ls' := [some (.inl (some 52)), some (zi xw)]) (st' := [.inl (some 52)]) (by decide +kernel) (fun k q => by cases q) rfl ?_
  refine y_ic (c := 0) (len := 1) (r := (0, 0, 0, 0)) (by decide +kernel) (by decide) (fun y4404 hy4404 => ?_)
  refine y_put (j := 92) (lo := (-2147483648)) (hi := 2147483647) (len := 3) (r := (12, 0, 0, 1328)) (by decide +kernel) hg (t52 hg) at52 rfl rfl (by decide) rfl (qin_full _).1 (qin_full _).2 rfl (fun h4405 hg4405 hl4405 hs4405 ho4405 => ?_)
  have ho4405 : hO 52 0 h h4405 := ho4405
  have hs4405 : hsl h4405 52 0 = some (zi y4404) := hs4405
  refine y_same (i := .aload_n 0) (len := 1) (r := (0, 0, 0, 0)) (pc' := 6) (ls' := [some (.inl (some 52)), some (zi xw)]) (st' := [.inl (some 52)]) (by decide +kernel) (fun k q => by cases q) rfl ?_
  refine y_same (i := .iload_n 1) (len := 1) (r := (0, 0, 0, 0)) (pc' := 7) (ls' := [some (.inl (some 52)), some (zi xw)]) (st' := [zi xw, .inl (some 52)]) (by decide +kernel) (fun k q => by cases q) rfl ?_
  refine y_ic (c := 0) (len := 1) (r := (0, 0, 0, 0)) (by decide +kernel) (by decide) (fun y4406 hy4406 => ?_)
  refine y_ic (c := 1) (len := 1) (r := (0, 0, 0, 0)) (by decide +kernel) (by decide) (fun y4407 hy4407 => ?_)
  refine y_cI (i := .invokestatic 200) (len := 3) (r := (1, 162, 12, 1486)) (nL := 3) (k := 2) (n := 3) (hs := []) (args := [zi xw, zi y4406, zi y4407]) (rest := [.inl (some 52)]) (l0 := [some (zi xw), some (zi y4406), some (zi y4407)]) (by decide +kernel) (Or.inl ⟨_, rfl⟩) rfl rfl rfl rfl (Nat.le_of_ble_eq_true rfl) rfl rfl (qI_le (by decide) (m_in (d := 0) (by omega) (by omega))) (fun y4408 qy4408 hRy4408 => ?_)
  obtain ⟨rfl, hy4408⟩ := hRy4408
  refine y_iT (c := .ne) (off := 7) (pc' := 19) (len := 3) (r := (0, 0, 0, 0)) (by decide +kernel) (acmpT (c := .ne) (by show ¬ (_ = _); omega)) (by decide +kernel) ?_
  refine y_ic (c := 0) (len := 1) (r := (0, 0, 0, 0)) (by decide +kernel) (by decide) (fun y4409 hy4409 => ?_)
  refine y_ic (c := 1) (len := 1) (r := (0, 0, 0, 0)) (by decide +kernel) (by decide) (fun y4410 hy4410 => ?_)
  refine y_ic (c := 1) (len := 1) (r := (0, 0, 0, 0)) (by decide +kernel) (by decide) (fun y4411 hy4411 => ?_)
  refine y_cI (i := .invokevirtual 204) (len := 3) (r := (0, 161, 12, 1489)) (nL := 4) (k := 2) (n := 4) (hs := []) (args := [.inl (some 52), zi y4409, zi y4410, zi y4411]) (rest := []) (l0 := [some (.inl (some 52)), some (zi y4409), some (zi y4410), some (zi y4411)]) (by decide +kernel) (Or.inr (Or.inl ⟨_, rfl⟩)) rfl rfl rfl rfl (Nat.le_of_ble_eq_true rfl) (z52 hg4405) rfl (qI_le (by decide) (m_bad (d := 0) hg4405 (by omega) hs4405 (by omega))) (fun y4412 qy4412 hRy4412 => ?_)
  obtain ⟨rfl, hy4412⟩ := hRy4412
  refine y_iT (c := .eq) (off := 5) (pc' := 30) (len := 3) (r := (0, 0, 0, 0)) (by decide +kernel) (acmpT (c := .eq) (by show _ = _; omega)) (by decide +kernel) ?_
  refine y_same (i := .aload_n 0) (len := 1) (r := (0, 0, 0, 0)) (pc' := 31) (ls' := [some (.inl (some 52)), some (zi xw)]) (st' := [.inl (some 52)]) (by decide +kernel) (fun k q => by cases q) rfl ?_
  refine y_cV (i := .invokevirtual 471) (len := 3) (r := (0, 259, 12, 1798)) (nL := 1) (k := 0) (n := 1) (hs := []) (args := [.inl (some 52)]) (rest := []) (l0 := [some (.inl (some 52))]) (by decide +kernel) (Or.inr (Or.inl ⟨_, rfl⟩)) rfl rfl rfl rfl (Nat.le_of_ble_eq_true rfl) (z52 hg4405) rfl (qV_le (by decide) (m_lay (d := 0) hg4405 (RM_up rm (fun k j h1 => (ho4405 k j (by omega)))) len ok pz cz (bl_m hg4405) (fun q9 => rcM_up (jm (ci_to q9 ((ho4405 52 47 (by omega))).symm)) (fun k j hC => (ho4405 k j (by omega)))))) (fun h4413 hR4413 => ?_)
  obtain ⟨hg4413, rq4413, jf4413, F4413⟩ := hR4413
  obtain ⟨⟨x41, h41, e41⟩, ⟨x42, h42, e42⟩, ⟨x43, h43, e43⟩, cp⟩ := id rq4413
  refine y_same (i := .iload_n 1) (len := 1) (r := (0, 0, 0, 0)) (pc' := 35) (ls' := [some (.inl (some 52)), some (zi xw)]) (st' := [zi xw]) (by decide +kernel) (fun k q => by cases q) rfl ?_
  refine y_iT (c := .ne) (off := 10) (pc' := 45) (len := 3) (r := (0, 0, 0, 0)) (by decide +kernel) (acmpT (c := .ne) (by show ¬ (_ = _); omega)) (by decide +kernel) ?_
  refine y_same (i := .aload_n 0) (len := 1) (r := (0, 0, 0, 0)) (pc' := 46) (ls' := [some (.inl (some 52)), some (zi xw)]) (st' := [.inl (some 52)]) (by decide +kernel) (fun k q => by cases q) rfl ?_
  refine y_get (j := 447) (len := 3) (r := (12, 42, 0, 1370)) (by decide +kernel) hg4413 (t52 hg4413) at52 rfl rfl h42 ?_
  refine y_rI (len := 1) (r := (0, 0, 0, 0)) (nL := 2) (k := 1) (n9 := 2) (hs := []) (by decide +kernel) rfl rfl ?_
  have hv4414 := (F4413 52 0 (by omega)).trans hs4405
  exact ⟨hg4413, by omega, rcM_up rq4413 (fun k j hC => rfl), fun k j hC => ((F4413 k j (by omega)).trans (ho4405 k j (by omega))), _, hv4414, by omega⟩
theorem m_heapsX {t : Nat} {τ : List Nat} {h : zh} {xw : Int32} (hg : hG τ h) (hw : ¬ (0 ≤ xw.toInt ∧ xw.toInt ≤ 1)) : qI 60 260 [some (.inl (some 52)), some (zi xw)] h t (fun y h1 => hG τ h1 ∧ (∀ k j, (k ≠ 53 ∧ (k ≠ 52 ∨ j ≠ 0)) → hsl h1 k j = hsl h k j) ∧ ∃ z : Int32, hsl h1 52 0 = some (zi z) ∧ z.toInt = 1) := by
  refine qI_le (d := 40) (by decide) (qI_of ?_)
  refine y_same (i := .aload_n 0) (len := 1) (r := (0, 0, 0, 0)) (pc' := 1) (ls' := [some (.inl (some 52)), some (zi xw)]) (st' := [.inl (some 52)]) (by decide +kernel) (fun k q => by cases q) rfl ?_
  refine y_ic (c := 0) (len := 1) (r := (0, 0, 0, 0)) (by decide +kernel) (by decide) (fun y4415 hy4415 => ?_)
  refine y_put (j := 92) (lo := (-2147483648)) (hi := 2147483647) (len := 3) (r := (12, 0, 0, 1328)) (by decide +kernel) hg (t52 hg) at52 rfl rfl (by decide) rfl (qin_full _).1 (qin_full _).2 rfl (fun h4416 hg4416 hl4416 hs4416 ho4416 => ?_)
  have ho4416 : hO 52 0 h h4416 := ho4416
  have hs4416 : hsl h4416 52 0 = some (zi y4415) := hs4416
  refine y_same (i := .aload_n 0) (len := 1) (r := (0, 0, 0, 0)) (pc' := 6) (ls' := [some (.inl (some 52)), some (zi xw)]) (st' := [.inl (some 52)]) (by decide +kernel) (fun k q => by cases q) rfl ?_
  refine y_same (i := .iload_n 1) (len := 1) (r := (0, 0, 0, 0)) (pc' := 7) (ls' := [some (.inl (some 52)), some (zi xw)]) (st' := [zi xw, .inl (some 52)]) (by decide +kernel) (fun k q => by cases q) rfl ?_
  refine y_ic (c := 0) (len := 1) (r := (0, 0, 0, 0)) (by decide +kernel) (by decide) (fun y4417 hy4417 => ?_)
  refine y_ic (c := 1) (len := 1) (r := (0, 0, 0, 0)) (by decide +kernel) (by decide) (fun y4418 hy4418 => ?_)
  refine y_cI (i := .invokestatic 200) (len := 3) (r := (1, 162, 12, 1486)) (nL := 3) (k := 2) (n := 3) (hs := []) (args := [zi xw, zi y4417, zi y4418]) (rest := [.inl (some 52)]) (l0 := [some (zi xw), some (zi y4417), some (zi y4418)]) (by decide +kernel) (Or.inl ⟨_, rfl⟩) rfl rfl rfl rfl (Nat.le_of_ble_eq_true rfl) rfl rfl (qI_le (by decide) (m_in0 (d := 0) (by omega))) (fun y4419 qy4419 hRy4419 => ?_)
  obtain ⟨rfl, hy4419⟩ := hRy4419
  refine y_iF (c := .ne) (off := 7) (len := 3) (r := (0, 0, 0, 0)) (by decide +kernel) (acmpF (c := .ne) (by show _ = _; omega)) ?_
  refine y_ic (c := 1) (len := 1) (r := (0, 0, 0, 0)) (by decide +kernel) (by decide) (fun y4420 hy4420 => ?_)
  refine y_goto (off := 4) (pc' := 20) (len := 3) (r := (0, 0, 0, 0)) (by decide +kernel) (by decide +kernel) ?_
  refine y_ic (c := 1) (len := 1) (r := (0, 0, 0, 0)) (by decide +kernel) (by decide) (fun y4421 hy4421 => ?_)
  refine y_ic (c := 1) (len := 1) (r := (0, 0, 0, 0)) (by decide +kernel) (by decide) (fun y4422 hy4422 => ?_)
  refine y_cI (i := .invokevirtual 204) (len := 3) (r := (0, 161, 12, 1489)) (nL := 4) (k := 2) (n := 4) (hs := []) (args := [.inl (some 52), zi y4420, zi y4421, zi y4422]) (rest := []) (l0 := [some (.inl (some 52)), some (zi y4420), some (zi y4421), some (zi y4422)]) (by decide +kernel) (Or.inr (Or.inl ⟨_, rfl⟩)) rfl rfl rfl rfl (Nat.le_of_ble_eq_true rfl) (z52 hg4416) rfl (qI_le (by decide) (m_bad1 (d := 0) (e := 1) hg4416 (by omega) (by omega) (by omega) (by omega) hs4416 (by omega))) (fun y4423 h4423 hRy4423 => ?_)
  obtain ⟨hg4423, hy4423, ⟨z4423, hz4423, ez4423⟩, F4423⟩ := hRy4423
  refine y_iF (c := .eq) (off := 5) (len := 3) (r := (0, 0, 0, 0)) (by decide +kernel) (acmpF (c := .eq) (by show ¬ (_ = _); omega)) ?_
  refine y_ic (c := 0) (len := 1) (r := (0, 0, 0, 0)) (by decide +kernel) (by decide) (fun y4424 hy4424 => ?_)
  refine y_rI (len := 1) (r := (0, 0, 0, 0)) (nL := 2) (k := 1) (n9 := 2) (hs := []) (by decide +kernel) rfl rfl ?_
  exact ⟨hg4423, fun k j hC => ((F4423 k j (by omega)).trans (ho4416 k j (by omega))), _, hz4423, by omega⟩
theorem c_refused0 {t : Nat} {τ : List Nat} {h : zh} {cur : bsT} {hs : List bsT} {xw : Int32} (hg : hG τ h) (rc : RC h cur hs) (r5 : hsl h 0 5 = some (.inl (some 2))) (ok : (∀ (j : Nat) (i : it4), cur.1.1[j]? = some i → okI i) ∧ (∀ (j : Nat) (i : it4), cur.1.2[j]? = some i → okI i) ∧ (∀ (j : Nat) (i : it4), cur.2.1[j]? = some i → okI i) ∧ ∀ (j : Nat) (i : it4), cur.2.2[j]? = some i → okI i) (len : cur.1.1.length ≤ 5 ∧ cur.1.2.length ≤ 6 ∧ cur.2.1.length ≤ 5 ∧ cur.2.2.length ≤ 6) (jc : JC h cur) (hw : xw.toInt = 0) : qI 21 148 [some (.inl (some 0)), some (zi xw)] h t (fun y h1 => hG τ h1 ∧ y.toInt = rN (run_ cur) ∧ rcC h1 (ltr (letN cur)) (run_ cur) ∧ ci_ h1 44 0 0 ∧ ∀ k j, (k < 42 ∨ 51 < k) → hsl h1 k j = hsl h k j) := by
  refine qI_of ?_
  refine y_same (i := .aload_n 0) (len := 1) (r := (0, 0, 0, 0)) (pc' := 1) (ls' := [some (.inl (some 0)), some (zi xw)]) (st' := [.inl (some 0)]) (by decide +kernel) (fun k q => by cases q) rfl ?_
  refine y_same (i := .iload_n 1) (len := 1) (r := (0, 0, 0, 0)) (pc' := 2) (ls' := [some (.inl (some 0)), some (zi xw)]) (st' := [zi xw, .inl (some 0)]) (by decide +kernel) (fun k q => by cases q) rfl ?_
  refine y_iF (c := .lt) (off := 12) (len := 3) (r := (0, 0, 0, 0)) (by decide +kernel) (acmpF (c := .lt) (by show _ ≤ _; omega)) ?_
  refine y_same (i := .iload_n 1) (len := 1) (r := (0, 0, 0, 0)) (pc' := 6) (ls' := [some (.inl (some 0)), some (zi xw)]) (st' := [zi xw, .inl (some 0)]) (by decide +kernel) (fun k q => by cases q) rfl ?_
  refine y_ic (c := 2) (len := 1) (r := (0, 0, 0, 0)) (by decide +kernel) (by decide) (fun y4425 hy4425 => ?_)
  refine y_cF (c := .gt) (off := 7) (len := 3) (r := (0, 0, 0, 0)) (by decide +kernel) (acmpF (c := .gt) (by show _ ≤ _; omega)) ?_
  refine y_ic (c := 1) (len := 1) (r := (0, 0, 0, 0)) (by decide +kernel) (by decide) (fun y4426 hy4426 => ?_)
  refine y_goto (off := 4) (pc' := 15) (len := 3) (r := (0, 0, 0, 0)) (by decide +kernel) (by decide +kernel) ?_
  refine y_cV (i := .invokevirtual 70) (len := 3) (r := (0, 153, 11, 852)) (nL := 2) (k := 0) (n := 2) (hs := []) (args := [.inl (some 0), zi y4426]) (rest := []) (l0 := [some (.inl (some 0)), some (zi y4426)]) (by decide +kernel) (Or.inr (Or.inl ⟨_, rfl⟩)) rfl rfl rfl rfl (Nat.le_of_ble_eq_true rfl) (zO hg (tv0 hg) aw0 rfl) rfl (qV_le (by decide) (c_fit (d := 0) (by omega))) (fun q4427 hR4427 => ?_)
  obtain rfl := hR4427
  refine y_same (i := .aload_n 0) (len := 1) (r := (0, 0, 0, 0)) (pc' := 19) (ls' := [some (.inl (some 0)), some (zi xw)]) (st' := [.inl (some 0)]) (by decide +kernel) (fun k q => by cases q) rfl ?_
  refine y_get (j := 62) (len := 3) (r := (11, 10, 2, 409)) (by decide +kernel) hg (tv0 hg) aw0 rfl rfl (g_rU (f := 10) (T2 := 42) hg (tv0 hg) aw0 rfl (by decide)) ?_
  refine y_same (i := .aload_n 0) (len := 1) (r := (0, 0, 0, 0)) (pc' := 23) (ls' := [some (.inl (some 0)), some (zi xw)]) (st' := [.inl (some 0), .inl (some 42)]) (by decide +kernel) (fun k q => by cases q) rfl ?_
  refine y_get (j := 29) (len := 3) (r := (11, 5, 2, 404)) (by decide +kernel) hg (tv0 hg) aw0 rfl rfl r5 ?_
  refine y_cV (i := .invokevirtual 205) (len := 3) (r := (0, 116, 10, 1184)) (nL := 4) (k := 0) (n := 2) (hs := []) (args := [.inl (some 42), .inl (some 2)]) (rest := []) (l0 := [some (.inl (some 42)), some (.inl (some 2)), none, none]) (by decide +kernel) (Or.inr (Or.inl ⟨_, rfl⟩)) rfl rfl rfl rfl (Nat.le_of_ble_eq_true rfl) (zO hg (tv42 hg) aw42 rfl) rfl (qV_le (by decide) (e_jdg (d := 0) hg rc ok len jc.1 (bl_c hg) jc.2)) (fun h4428 hR4428 => ?_)
  obtain ⟨hg4428, rq4428, jf4428, v04428, F4428⟩ := hR4428
  obtain ⟨⟨x6, h6, e6⟩, ⟨x7, h7, e7⟩, ⟨x8, h8, e8⟩, ⟨x9, h9, e9⟩, ⟨x10, h10, e10⟩, cp⟩ := id rq4428
  refine y_same (i := .iload_n 1) (len := 1) (r := (0, 0, 0, 0)) (pc' := 30) (ls' := [some (.inl (some 0)), some (zi xw)]) (st' := [zi xw]) (by decide +kernel) (fun k q => by cases q) rfl ?_
  refine y_lsw (dflt := 42) (ps := #[(0, 26), (1, 34)]) (off := 26) (pc' := 56) (len := 26) (r := (0, 0, 0, 0)) (by decide +kernel) (by decide) (by rw [show xw.toInt = 0 by omega]; rfl) (by decide +kernel) ?_
  refine y_same (i := .aload_n 0) (len := 1) (r := (0, 0, 0, 0)) (pc' := 57) (ls' := [some (.inl (some 0)), some (zi xw)]) (st' := [.inl (some 0)]) (by decide +kernel) (fun k q => by cases q) rfl ?_
  refine y_get (j := 62) (len := 3) (r := (11, 10, 2, 409)) (by decide +kernel) hg4428 (tv0 hg4428) aw0 rfl rfl (g_rU (f := 10) (T2 := 42) hg4428 (tv0 hg4428) aw0 rfl (by decide)) ?_
  refine y_get (j := 210) (len := 3) (r := (10, 8, 0, 20371)) (by decide +kernel) hg4428 (tv42 hg4428) aw42 rfl rfl h8 ?_
  refine y_rI (len := 1) (r := (0, 0, 0, 0)) (nL := 2) (k := 1) (n9 := 2) (hs := []) (by decide +kernel) rfl rfl ?_
  exact ⟨hg4428, by omega, rq4428, v04428, fun k j hC => (F4428 k j (by omega))⟩
theorem c_refused1 {t : Nat} {τ : List Nat} {h : zh} {cur : bsT} {hs : List bsT} {xw : Int32} (hg : hG τ h) (rc : RC h cur hs) (r5 : hsl h 0 5 = some (.inl (some 2))) (ok : (∀ (j : Nat) (i : it4), cur.1.1[j]? = some i → okI i) ∧ (∀ (j : Nat) (i : it4), cur.1.2[j]? = some i → okI i) ∧ (∀ (j : Nat) (i : it4), cur.2.1[j]? = some i → okI i) ∧ ∀ (j : Nat) (i : it4), cur.2.2[j]? = some i → okI i) (len : cur.1.1.length ≤ 5 ∧ cur.1.2.length ≤ 6 ∧ cur.2.1.length ≤ 5 ∧ cur.2.2.length ≤ 6) (jc : JC h cur) (hw : xw.toInt = 1) : qI 21 148 [some (.inl (some 0)), some (zi xw)] h t (fun y h1 => hG τ h1 ∧ y.toInt = rCe (run_ cur) ∧ rcC h1 (ltr (letN cur)) (run_ cur) ∧ ci_ h1 44 0 0 ∧ ∀ k j, (k < 42 ∨ 51 < k) → hsl h1 k j = hsl h k j) := by
  refine qI_of ?_
  refine y_same (i := .aload_n 0) (len := 1) (r := (0, 0, 0, 0)) (pc' := 1) (ls' := [some (.inl (some 0)), some (zi xw)]) (st' := [.inl (some 0)]) (by decide +kernel) (fun k q => by cases q) rfl ?_
  refine y_same (i := .iload_n 1) (len := 1) (r := (0, 0, 0, 0)) (pc' := 2) (ls' := [some (.inl (some 0)), some (zi xw)]) (st' := [zi xw, .inl (some 0)]) (by decide +kernel) (fun k q => by cases q) rfl ?_
  refine y_iF (c := .lt) (off := 12) (len := 3) (r := (0, 0, 0, 0)) (by decide +kernel) (acmpF (c := .lt) (by show _ ≤ _; omega)) ?_
  refine y_same (i := .iload_n 1) (len := 1) (r := (0, 0, 0, 0)) (pc' := 6) (ls' := [some (.inl (some 0)), some (zi xw)]) (st' := [zi xw, .inl (some 0)]) (by decide +kernel) (fun k q => by cases q) rfl ?_
  refine y_ic (c := 2) (len := 1) (r := (0, 0, 0, 0)) (by decide +kernel) (by decide) (fun y4429 hy4429 => ?_)
  refine y_cF (c := .gt) (off := 7) (len := 3) (r := (0, 0, 0, 0)) (by decide +kernel) (acmpF (c := .gt) (by show _ ≤ _; omega)) ?_
  refine y_ic (c := 1) (len := 1) (r := (0, 0, 0, 0)) (by decide +kernel) (by decide) (fun y4430 hy4430 => ?_)
  refine y_goto (off := 4) (pc' := 15) (len := 3) (r := (0, 0, 0, 0)) (by decide +kernel) (by decide +kernel) ?_
  refine y_cV (i := .invokevirtual 70) (len := 3) (r := (0, 153, 11, 852)) (nL := 2) (k := 0) (n := 2) (hs := []) (args := [.inl (some 0), zi y4430]) (rest := []) (l0 := [some (.inl (some 0)), some (zi y4430)]) (by decide +kernel) (Or.inr (Or.inl ⟨_, rfl⟩)) rfl rfl rfl rfl (Nat.le_of_ble_eq_true rfl) (zO hg (tv0 hg) aw0 rfl) rfl (qV_le (by decide) (c_fit (d := 0) (by omega))) (fun q4431 hR4431 => ?_)
  obtain rfl := hR4431
  refine y_same (i := .aload_n 0) (len := 1) (r := (0, 0, 0, 0)) (pc' := 19) (ls' := [some (.inl (some 0)), some (zi xw)]) (st' := [.inl (some 0)]) (by decide +kernel) (fun k q => by cases q) rfl ?_
  refine y_get (j := 62) (len := 3) (r := (11, 10, 2, 409)) (by decide +kernel) hg (tv0 hg) aw0 rfl rfl (g_rU (f := 10) (T2 := 42) hg (tv0 hg) aw0 rfl (by decide)) ?_
  refine y_same (i := .aload_n 0) (len := 1) (r := (0, 0, 0, 0)) (pc' := 23) (ls' := [some (.inl (some 0)), some (zi xw)]) (st' := [.inl (some 0), .inl (some 42)]) (by decide +kernel) (fun k q => by cases q) rfl ?_
  refine y_get (j := 29) (len := 3) (r := (11, 5, 2, 404)) (by decide +kernel) hg (tv0 hg) aw0 rfl rfl r5 ?_
  refine y_cV (i := .invokevirtual 205) (len := 3) (r := (0, 116, 10, 1184)) (nL := 4) (k := 0) (n := 2) (hs := []) (args := [.inl (some 42), .inl (some 2)]) (rest := []) (l0 := [some (.inl (some 42)), some (.inl (some 2)), none, none]) (by decide +kernel) (Or.inr (Or.inl ⟨_, rfl⟩)) rfl rfl rfl rfl (Nat.le_of_ble_eq_true rfl) (zO hg (tv42 hg) aw42 rfl) rfl (qV_le (by decide) (e_jdg (d := 0) hg rc ok len jc.1 (bl_c hg) jc.2)) (fun h4432 hR4432 => ?_)
  obtain ⟨hg4432, rq4432, jf4432, v04432, F4432⟩ := hR4432
  obtain ⟨⟨x6, h6, e6⟩, ⟨x7, h7, e7⟩, ⟨x8, h8, e8⟩, ⟨x9, h9, e9⟩, ⟨x10, h10, e10⟩, cp⟩ := id rq4432
  refine y_same (i := .iload_n 1) (len := 1) (r := (0, 0, 0, 0)) (pc' := 30) (ls' := [some (.inl (some 0)), some (zi xw)]) (st' := [zi xw]) (by decide +kernel) (fun k q => by cases q) rfl ?_
  refine y_lsw (dflt := 42) (ps := #[(0, 26), (1, 34)]) (off := 34) (pc' := 64) (len := 26) (r := (0, 0, 0, 0)) (by decide +kernel) (by decide) (by rw [show xw.toInt = 1 by omega]; rfl) (by decide +kernel) ?_
  refine y_same (i := .aload_n 0) (len := 1) (r := (0, 0, 0, 0)) (pc' := 65) (ls' := [some (.inl (some 0)), some (zi xw)]) (st' := [.inl (some 0)]) (by decide +kernel) (fun k q => by cases q) rfl ?_
  refine y_get (j := 62) (len := 3) (r := (11, 10, 2, 409)) (by decide +kernel) hg4432 (tv0 hg4432) aw0 rfl rfl (g_rU (f := 10) (T2 := 42) hg4432 (tv0 hg4432) aw0 rfl (by decide)) ?_
  refine y_get (j := 213) (len := 3) (r := (10, 9, 0, 20373)) (by decide +kernel) hg4432 (tv42 hg4432) aw42 rfl rfl h9 ?_
  refine y_rI (len := 1) (r := (0, 0, 0, 0)) (nL := 2) (k := 1) (n9 := 2) (hs := []) (by decide +kernel) rfl rfl ?_
  exact ⟨hg4432, by omega, rq4432, v04432, fun k j hC => (F4432 k j (by omega))⟩
theorem c_refused2 {t : Nat} {τ : List Nat} {h : zh} {cur : bsT} {hs : List bsT} {xw : Int32} (hg : hG τ h) (rc : RC h cur hs) (r5 : hsl h 0 5 = some (.inl (some 2))) (ok : (∀ (j : Nat) (i : it4), cur.1.1[j]? = some i → okI i) ∧ (∀ (j : Nat) (i : it4), cur.1.2[j]? = some i → okI i) ∧ (∀ (j : Nat) (i : it4), cur.2.1[j]? = some i → okI i) ∧ ∀ (j : Nat) (i : it4), cur.2.2[j]? = some i → okI i) (len : cur.1.1.length ≤ 5 ∧ cur.1.2.length ≤ 6 ∧ cur.2.1.length ≤ 5 ∧ cur.2.2.length ≤ 6) (jc : JC h cur) (hw : xw.toInt = 2) : qI 21 148 [some (.inl (some 0)), some (zi xw)] h t (fun y h1 => hG τ h1 ∧ y.toInt = rPa (run_ cur) ∧ rcC h1 (ltr (letN cur)) (run_ cur) ∧ ci_ h1 44 0 0 ∧ ∀ k j, (k < 42 ∨ 51 < k) → hsl h1 k j = hsl h k j) := by
  refine qI_of ?_
  refine y_same (i := .aload_n 0) (len := 1) (r := (0, 0, 0, 0)) (pc' := 1) (ls' := [some (.inl (some 0)), some (zi xw)]) (st' := [.inl (some 0)]) (by decide +kernel) (fun k q => by cases q) rfl ?_
  refine y_same (i := .iload_n 1) (len := 1) (r := (0, 0, 0, 0)) (pc' := 2) (ls' := [some (.inl (some 0)), some (zi xw)]) (st' := [zi xw, .inl (some 0)]) (by decide +kernel) (fun k q => by cases q) rfl ?_
  refine y_iF (c := .lt) (off := 12) (len := 3) (r := (0, 0, 0, 0)) (by decide +kernel) (acmpF (c := .lt) (by show _ ≤ _; omega)) ?_
  refine y_same (i := .iload_n 1) (len := 1) (r := (0, 0, 0, 0)) (pc' := 6) (ls' := [some (.inl (some 0)), some (zi xw)]) (st' := [zi xw, .inl (some 0)]) (by decide +kernel) (fun k q => by cases q) rfl ?_
  refine y_ic (c := 2) (len := 1) (r := (0, 0, 0, 0)) (by decide +kernel) (by decide) (fun y4433 hy4433 => ?_)
  refine y_cF (c := .gt) (off := 7) (len := 3) (r := (0, 0, 0, 0)) (by decide +kernel) (acmpF (c := .gt) (by show _ ≤ _; omega)) ?_
  refine y_ic (c := 1) (len := 1) (r := (0, 0, 0, 0)) (by decide +kernel) (by decide) (fun y4434 hy4434 => ?_)
  refine y_goto (off := 4) (pc' := 15) (len := 3) (r := (0, 0, 0, 0)) (by decide +kernel) (by decide +kernel) ?_
  refine y_cV (i := .invokevirtual 70) (len := 3) (r := (0, 153, 11, 852)) (nL := 2) (k := 0) (n := 2) (hs := []) (args := [.inl (some 0), zi y4434]) (rest := []) (l0 := [some (.inl (some 0)), some (zi y4434)]) (by decide +kernel) (Or.inr (Or.inl ⟨_, rfl⟩)) rfl rfl rfl rfl (Nat.le_of_ble_eq_true rfl) (zO hg (tv0 hg) aw0 rfl) rfl (qV_le (by decide) (c_fit (d := 0) (by omega))) (fun q4435 hR4435 => ?_)
  obtain rfl := hR4435
  refine y_same (i := .aload_n 0) (len := 1) (r := (0, 0, 0, 0)) (pc' := 19) (ls' := [some (.inl (some 0)), some (zi xw)]) (st' := [.inl (some 0)]) (by decide +kernel) (fun k q => by cases q) rfl ?_
  refine y_get (j := 62) (len := 3) (r := (11, 10, 2, 409)) (by decide +kernel) hg (tv0 hg) aw0 rfl rfl (g_rU (f := 10) (T2 := 42) hg (tv0 hg) aw0 rfl (by decide)) ?_
  refine y_same (i := .aload_n 0) (len := 1) (r := (0, 0, 0, 0)) (pc' := 23) (ls' := [some (.inl (some 0)), some (zi xw)]) (st' := [.inl (some 0), .inl (some 42)]) (by decide +kernel) (fun k q => by cases q) rfl ?_
  refine y_get (j := 29) (len := 3) (r := (11, 5, 2, 404)) (by decide +kernel) hg (tv0 hg) aw0 rfl rfl r5 ?_
  refine y_cV (i := .invokevirtual 205) (len := 3) (r := (0, 116, 10, 1184)) (nL := 4) (k := 0) (n := 2) (hs := []) (args := [.inl (some 42), .inl (some 2)]) (rest := []) (l0 := [some (.inl (some 42)), some (.inl (some 2)), none, none]) (by decide +kernel) (Or.inr (Or.inl ⟨_, rfl⟩)) rfl rfl rfl rfl (Nat.le_of_ble_eq_true rfl) (zO hg (tv42 hg) aw42 rfl) rfl (qV_le (by decide) (e_jdg (d := 0) hg rc ok len jc.1 (bl_c hg) jc.2)) (fun h4436 hR4436 => ?_)
  obtain ⟨hg4436, rq4436, jf4436, v04436, F4436⟩ := hR4436
  obtain ⟨⟨x6, h6, e6⟩, ⟨x7, h7, e7⟩, ⟨x8, h8, e8⟩, ⟨x9, h9, e9⟩, ⟨x10, h10, e10⟩, cp⟩ := id rq4436
  refine y_same (i := .iload_n 1) (len := 1) (r := (0, 0, 0, 0)) (pc' := 30) (ls' := [some (.inl (some 0)), some (zi xw)]) (st' := [zi xw]) (by decide +kernel) (fun k q => by cases q) rfl ?_
  refine y_lsw (dflt := 42) (ps := #[(0, 26), (1, 34)]) (off := 42) (pc' := 72) (len := 26) (r := (0, 0, 0, 0)) (by decide +kernel) (by decide) (by rw [show xw.toInt = 2 by omega]; rfl) (by decide +kernel) ?_
  refine y_same (i := .aload_n 0) (len := 1) (r := (0, 0, 0, 0)) (pc' := 73) (ls' := [some (.inl (some 0)), some (zi xw)]) (st' := [.inl (some 0)]) (by decide +kernel) (fun k q => by cases q) rfl ?_
  refine y_get (j := 62) (len := 3) (r := (11, 10, 2, 409)) (by decide +kernel) hg4436 (tv0 hg4436) aw0 rfl rfl (g_rU (f := 10) (T2 := 42) hg4436 (tv0 hg4436) aw0 rfl (by decide)) ?_
  refine y_get (j := 216) (len := 3) (r := (10, 10, 0, 20375)) (by decide +kernel) hg4436 (tv42 hg4436) aw42 rfl rfl h10 ?_
  refine y_rI (len := 1) (r := (0, 0, 0, 0)) (nL := 2) (k := 1) (n9 := 2) (hs := []) (by decide +kernel) rfl rfl ?_
  exact ⟨hg4436, by omega, rq4436, v04436, fun k j hC => (F4436 k j (by omega))⟩
theorem c_refusedX {t : Nat} {τ : List Nat} {h : zh} {xw : Int32} (hg : hG τ h) (hw : ¬ (0 ≤ xw.toInt ∧ xw.toInt ≤ 2)) : qT 21 148 [some (.inl (some 0)), some (zi xw)] h t 1 (fun h1 => hG τ h1 ∧ ∀ k j, (k ≠ 0 ∨ j ≠ 4) → hsl h1 k j = hsl h k j) := by
  refine qT_of ?_
  refine y_same (i := .aload_n 0) (len := 1) (r := (0, 0, 0, 0)) (pc' := 1) (ls' := [some (.inl (some 0)), some (zi xw)]) (st' := [.inl (some 0)]) (by decide +kernel) (fun k q => by cases q) rfl ?_
  refine y_same (i := .iload_n 1) (len := 1) (r := (0, 0, 0, 0)) (pc' := 2) (ls' := [some (.inl (some 0)), some (zi xw)]) (st' := [zi xw, .inl (some 0)]) (by decide +kernel) (fun k q => by cases q) rfl ?_
  rcases Decidable.em (xw.toInt < 0) with q4437 | q4437
  ·
    refine y_iT (c := .lt) (off := 12) (pc' := 14) (len := 3) (r := (0, 0, 0, 0)) (by decide +kernel) (acmpT (c := .lt) (by show _ < _; omega)) (by decide +kernel) ?_
    refine y_ic (c := 0) (len := 1) (r := (0, 0, 0, 0)) (by decide +kernel) (by decide) (fun y4438 hy4438 => ?_)
    refine y_cX (i := .invokevirtual 70) (len := 3) (r := (0, 153, 11, 852)) (nL := 2) (k := 0) (n := 2) (hs := []) (args := [.inl (some 0), zi y4438]) (rest := []) (l0 := [some (.inl (some 0)), some (zi y4438)]) (by decide +kernel) (Or.inr (Or.inl ⟨_, rfl⟩)) rfl rfl rfl rfl (Nat.le_of_ble_eq_true rfl) (zO hg (tv0 hg) aw0 rfl) rfl rfl (mL := 2) (mk := 1) (m9 := 2) (ms := []) rfl rfl (qT_le (by decide) (c_fitT (d := 0) hg (by omega))) (fun h4439 hR4439 => ?_)
    obtain ⟨hg4439, F4439⟩ := hR4439
    exact ⟨_, rfl, hg4439, fun k j hC => (F4439 k j (by omega))⟩
  ·
    refine y_iF (c := .lt) (off := 12) (len := 3) (r := (0, 0, 0, 0)) (by decide +kernel) (acmpF (c := .lt) (by show _ ≤ _; omega)) ?_
    refine y_same (i := .iload_n 1) (len := 1) (r := (0, 0, 0, 0)) (pc' := 6) (ls' := [some (.inl (some 0)), some (zi xw)]) (st' := [zi xw, .inl (some 0)]) (by decide +kernel) (fun k q => by cases q) rfl ?_
    refine y_ic (c := 2) (len := 1) (r := (0, 0, 0, 0)) (by decide +kernel) (by decide) (fun y4440 hy4440 => ?_)
    rcases Decidable.em (xw.toInt > y4440.toInt) with q4441 | q4441
    ·
      refine y_cT (c := .gt) (off := 7) (pc' := 14) (len := 3) (r := (0, 0, 0, 0)) (by decide +kernel) (acmpT (c := .gt) (by show _ < _; omega)) (by decide +kernel) ?_
      refine y_ic (c := 0) (len := 1) (r := (0, 0, 0, 0)) (by decide +kernel) (by decide) (fun y4442 hy4442 => ?_)
      refine y_cX (i := .invokevirtual 70) (len := 3) (r := (0, 153, 11, 852)) (nL := 2) (k := 0) (n := 2) (hs := []) (args := [.inl (some 0), zi y4442]) (rest := []) (l0 := [some (.inl (some 0)), some (zi y4442)]) (by decide +kernel) (Or.inr (Or.inl ⟨_, rfl⟩)) rfl rfl rfl rfl (Nat.le_of_ble_eq_true rfl) (zO hg (tv0 hg) aw0 rfl) rfl rfl (mL := 2) (mk := 1) (m9 := 2) (ms := []) rfl rfl (qT_le (by decide) (c_fitT (d := 0) hg (by omega))) (fun h4443 hR4443 => ?_)
      obtain ⟨hg4443, F4443⟩ := hR4443
      exact ⟨_, rfl, hg4443, fun k j hC => (F4443 k j (by omega))⟩
    ·
      refine y_cF (c := .gt) (off := 7) (len := 3) (r := (0, 0, 0, 0)) (by decide +kernel) (acmpF (c := .gt) (by show _ ≤ _; omega)) ?_
      refine y_ic (c := 1) (len := 1) (r := (0, 0, 0, 0)) (by decide +kernel) (by decide) (fun y4444 hy4444 => ?_)
      refine y_goto (off := 4) (pc' := 15) (len := 3) (r := (0, 0, 0, 0)) (by decide +kernel) (by decide +kernel) ?_
      exfalso
      omega
theorem c_lrefusedX {t : Nat} {τ : List Nat} {h : zh} {xw : Int32} (hg : hG τ h) (hw : ¬ (0 ≤ xw.toInt ∧ xw.toInt ≤ 2)) : ∃ (y : Int32) (h1 : zh), qE 60 287 [some (.inl (some 0)), some (zi xw), some (.inl (some 388)), none] h t (.inl (some (zi y)), h1, t + 1) ∧ y.toInt = 1 ∧ hG τ h1 ∧ ∀ k j, (k ≠ 0 ∨ j ≠ 4) → hsl h1 k j = hsl h k j := by
  have key : qX 31 287 0 [some (.inl (some 0)), some (zi xw), some (.inl (some 388)), none] [] h t (rI (fun y h1 => y.toInt = 1 ∧ hG τ h1 ∧ ∀ k j, (k ≠ 0 ∨ j ≠ 4) → hsl h1 k j = hsl h k j) (t + 1)) := by
    refine y_same (i := .aload_n 2) (len := 1) (r := (0, 0, 0, 0)) (pc' := 1) (ls' := [some (.inl (some 0)), some (zi xw), some (.inl (some 388)), none]) (st' := [.inl (some 388)]) (by decide +kernel) (fun k q => by cases q) rfl ?_
    refine y_ic (c := 0) (len := 1) (r := (0, 0, 0, 0)) (by decide +kernel) (by decide) (fun y4445 hy4445 => ?_)
    refine y_same (i := .aload_n 0) (len := 1) (r := (0, 0, 0, 0)) (pc' := 3) (ls' := [some (.inl (some 0)), some (zi xw), some (.inl (some 388)), none]) (st' := [.inl (some 0), zi y4445, .inl (some 388)]) (by decide +kernel) (fun k q => by cases q) rfl ?_
    refine y_same (i := .iload_n 1) (len := 1) (r := (0, 0, 0, 0)) (pc' := 4) (ls' := [some (.inl (some 0)), some (zi xw), some (.inl (some 388)), none]) (st' := [zi xw, .inl (some 0), zi y4445, .inl (some 388)]) (by decide +kernel) (fun k q => by cases q) rfl ?_
    refine y_cC (i := .invokevirtual 50) (len := 3) (r := (0, 148, 11, 1305)) (nL := 2) (k := 1) (n := 2) (hs := []) (args := [.inl (some 0), zi xw]) (rest := [zi y4445, .inl (some 388)]) (l0 := [some (.inl (some 0)), some (zi xw)]) (by decide +kernel) (Or.inr (Or.inl ⟨_, rfl⟩)) rfl rfl rfl rfl (Nat.le_of_ble_eq_true rfl) (zO hg (tv0 hg) aw0 rfl) rfl rfl (mL := 4) (mk := 1) (m9 := 3) (ms := [(0, 9, 12, 1)]) rfl rfl (qT_le (by decide) (c_refusedX hg hw)) (fun h4446 hR4446 => ?_)
    obtain ⟨hg4446, F4446⟩ := hR4446
    refine y_same (i := .astore_n 3) (len := 1) (r := (0, 0, 0, 0)) (pc' := 13) (ls' := [some (.inl (some 0)), some (zi xw), some (.inl (some 388)), some (.inl (some 1000001))]) (st' := []) (by decide +kernel) (fun k q => by cases q) rfl ?_
    refine y_ic (c := 1) (len := 1) (r := (0, 0, 0, 0)) (by decide +kernel) (by decide) (fun y4447 hy4447 => ?_)
    refine y_rI (len := 1) (r := (0, 0, 0, 0)) (nL := 4) (k := 1) (n9 := 3) (hs := [(0, 9, 12, 1)]) (by decide +kernel) rfl rfl ?_
    exact ⟨by omega, hg4446, fun k j hC => (F4446 k j (by omega))⟩
  obtain ⟨x, k, y, h1, rfl, hR⟩ := key
  exact ⟨y, h1, qE_le (by decide) (qE_of k), hR⟩
theorem c_lrefused {t : Nat} {v : Int} {τ : List Nat} {h : zh} {xw : Int32} {Q : zh → Prop} (hg : hG τ h) (hin : qI 21 148 [some (.inl (some 0)), some (zi xw)] h t (fun y h1 => hG τ h1 ∧ y.toInt = v ∧ Q h1)) : qI 60 287 [some (.inl (some 0)), some (zi xw), some (.inl (some 388)), none] h t (fun y h2 => hG τ h2 ∧ y.toInt = 0 ∧ (∃ h1, Q h1 ∧ ∀ k j, k ≠ 388 → hsl h2 k j = hsl h1 k j) ∧ ∃ z : Int32, ou_ h2 z ∧ z.toInt = v) := by
  refine qI_le (d := 32) (by decide) (qI_of ?_)
  refine y_same (i := .aload_n 2) (len := 1) (r := (0, 0, 0, 0)) (pc' := 1) (ls' := [some (.inl (some 0)), some (zi xw), some (.inl (some 388)), none]) (st' := [.inl (some 388)]) (by decide +kernel) (fun k q => by cases q) rfl ?_
  refine y_ic (c := 0) (len := 1) (r := (0, 0, 0, 0)) (by decide +kernel) (by decide) (fun y4448 hy4448 => ?_)
  refine y_same (i := .aload_n 0) (len := 1) (r := (0, 0, 0, 0)) (pc' := 3) (ls' := [some (.inl (some 0)), some (zi xw), some (.inl (some 388)), none]) (st' := [.inl (some 0), zi y4448, .inl (some 388)]) (by decide +kernel) (fun k q => by cases q) rfl ?_
  refine y_same (i := .iload_n 1) (len := 1) (r := (0, 0, 0, 0)) (pc' := 4) (ls' := [some (.inl (some 0)), some (zi xw), some (.inl (some 388)), none]) (st' := [zi xw, .inl (some 0), zi y4448, .inl (some 388)]) (by decide +kernel) (fun k q => by cases q) rfl ?_
  refine y_cI (i := .invokevirtual 50) (len := 3) (r := (0, 148, 11, 1305)) (nL := 2) (k := 1) (n := 2) (hs := []) (args := [.inl (some 0), zi xw]) (rest := [zi y4448, .inl (some 388)]) (l0 := [some (.inl (some 0)), some (zi xw)]) (by decide +kernel) (Or.inr (Or.inl ⟨_, rfl⟩)) rfl rfl rfl rfl (Nat.le_of_ble_eq_true rfl) (zO hg (tv0 hg) aw0 rfl) rfl (qI_le (by decide) hin) (fun y4449 h4449 hRy4449 => ?_)
  obtain ⟨hg4449, ey, hQ⟩ := hRy4449
  refine y_i2l2 (len := 1) (r := (0, 0, 0, 0)) (by decide +kernel) ?_
  refine y_las2 (i := 0) (len := 1) (r := (0, 0, 0, 0)) (by decide +kernel) hg4449 (t388 hg4449) aw388 rfl (by omega) (by omega) rfl (fun h4450 hg4450 hw4450 ho4450 => ?_)
  refine y_goto (off := 6) (pc' := 15) (len := 3) (r := (0, 0, 0, 0)) (by decide +kernel) (by decide +kernel) ?_
  refine y_ic (c := 0) (len := 1) (r := (0, 0, 0, 0)) (by decide +kernel) (by decide) (fun y4451 hy4451 => ?_)
  refine y_rI (len := 1) (r := (0, 0, 0, 0)) (nL := 4) (k := 1) (n9 := 3) (hs := [(0, 9, 12, 1)]) (by decide +kernel) rfl rfl ?_
  exact ⟨hg4450, by omega, ⟨_, hQ, fun k j hC => (ho4450 k j (by omega))⟩, _, hw4450, ey⟩
theorem m_refused0 {t : Nat} {τ : List Nat} {h : zh} {cur : bsT} {hs : List bsT} {xw : Int32} (hg : hG τ h) (rm : RM h cur hs) (ok : (∀ (j : Nat) (i : it4), cur.1.1[j]? = some i → okI i) ∧ (∀ (j : Nat) (i : it4), cur.1.2[j]? = some i → okI i) ∧ (∀ (j : Nat) (i : it4), cur.2.1[j]? = some i → okI i) ∧ ∀ (j : Nat) (i : it4), cur.2.2[j]? = some i → okI i) (len : cur.1.1.length ≤ 5 ∧ cur.1.2.length ≤ 6 ∧ cur.2.1.length ≤ 5 ∧ cur.2.2.length ≤ 6) (pz : ∀ i ∈ cur.1.1, pzi i) (cz : cz1 cur) (jm : JM h cur) (hw : xw.toInt = 0) : qI 60 261 [some (.inl (some 52)), some (zi xw)] h t (fun y h1 => hG τ h1 ∧ y.toInt = rN (run_ cur) ∧ rcM h1 (ltr (letN cur)) (run_ cur) ∧ (∀ k j, ((k < 52 ∨ (53 < k ∧ k < 381) ∨ 387 < k ∨ (k = 52 ∧ j ≠ 0 ∧ (j < 39 ∨ 47 < j)))) → hsl h1 k j = hsl h k j) ∧ ∃ z : Int32, hsl h1 52 0 = some (zi z) ∧ z.toInt = 0) := by
  refine qI_le (d := 40) (by decide) (qI_of ?_)
  refine y_same (i := .aload_n 0) (len := 1) (r := (0, 0, 0, 0)) (pc' := 1) (ls' := [some (.inl (some 52)), some (zi xw)]) (st' := [.inl (some 52)]) (by decide +kernel) (fun k q => by cases q) rfl ?_
  refine y_ic (c := 0) (len := 1) (r := (0, 0, 0, 0)) (by decide +kernel) (by decide) (fun y4452 hy4452 => ?_)
  refine y_put (j := 92) (lo := (-2147483648)) (hi := 2147483647) (len := 3) (r := (12, 0, 0, 1328)) (by decide +kernel) hg (t52 hg) at52 rfl rfl (by decide) rfl (qin_full _).1 (qin_full _).2 rfl (fun h4453 hg4453 hl4453 hs4453 ho4453 => ?_)
  have ho4453 : hO 52 0 h h4453 := ho4453
  have hs4453 : hsl h4453 52 0 = some (zi y4452) := hs4453
  refine y_same (i := .aload_n 0) (len := 1) (r := (0, 0, 0, 0)) (pc' := 6) (ls' := [some (.inl (some 52)), some (zi xw)]) (st' := [.inl (some 52)]) (by decide +kernel) (fun k q => by cases q) rfl ?_
  refine y_same (i := .iload_n 1) (len := 1) (r := (0, 0, 0, 0)) (pc' := 7) (ls' := [some (.inl (some 52)), some (zi xw)]) (st' := [zi xw, .inl (some 52)]) (by decide +kernel) (fun k q => by cases q) rfl ?_
  refine y_ic (c := 0) (len := 1) (r := (0, 0, 0, 0)) (by decide +kernel) (by decide) (fun y4454 hy4454 => ?_)
  refine y_ic (c := 2) (len := 1) (r := (0, 0, 0, 0)) (by decide +kernel) (by decide) (fun y4455 hy4455 => ?_)
  refine y_cI (i := .invokestatic 200) (len := 3) (r := (1, 162, 12, 1486)) (nL := 3) (k := 2) (n := 3) (hs := []) (args := [zi xw, zi y4454, zi y4455]) (rest := [.inl (some 52)]) (l0 := [some (zi xw), some (zi y4454), some (zi y4455)]) (by decide +kernel) (Or.inl ⟨_, rfl⟩) rfl rfl rfl rfl (Nat.le_of_ble_eq_true rfl) rfl rfl (qI_le (by decide) (m_in (d := 0) (by omega) (by omega))) (fun y4456 qy4456 hRy4456 => ?_)
  obtain ⟨rfl, hy4456⟩ := hRy4456
  refine y_iT (c := .ne) (off := 7) (pc' := 19) (len := 3) (r := (0, 0, 0, 0)) (by decide +kernel) (acmpT (c := .ne) (by show ¬ (_ = _); omega)) (by decide +kernel) ?_
  refine y_ic (c := 0) (len := 1) (r := (0, 0, 0, 0)) (by decide +kernel) (by decide) (fun y4457 hy4457 => ?_)
  refine y_ic (c := 1) (len := 1) (r := (0, 0, 0, 0)) (by decide +kernel) (by decide) (fun y4458 hy4458 => ?_)
  refine y_ic (c := 1) (len := 1) (r := (0, 0, 0, 0)) (by decide +kernel) (by decide) (fun y4459 hy4459 => ?_)
  refine y_cI (i := .invokevirtual 204) (len := 3) (r := (0, 161, 12, 1489)) (nL := 4) (k := 2) (n := 4) (hs := []) (args := [.inl (some 52), zi y4457, zi y4458, zi y4459]) (rest := []) (l0 := [some (.inl (some 52)), some (zi y4457), some (zi y4458), some (zi y4459)]) (by decide +kernel) (Or.inr (Or.inl ⟨_, rfl⟩)) rfl rfl rfl rfl (Nat.le_of_ble_eq_true rfl) (z52 hg4453) rfl (qI_le (by decide) (m_bad (d := 0) hg4453 (by omega) hs4453 (by omega))) (fun y4460 qy4460 hRy4460 => ?_)
  obtain ⟨rfl, hy4460⟩ := hRy4460
  refine y_iT (c := .eq) (off := 5) (pc' := 30) (len := 3) (r := (0, 0, 0, 0)) (by decide +kernel) (acmpT (c := .eq) (by show _ = _; omega)) (by decide +kernel) ?_
  refine y_same (i := .aload_n 0) (len := 1) (r := (0, 0, 0, 0)) (pc' := 31) (ls' := [some (.inl (some 52)), some (zi xw)]) (st' := [.inl (some 52)]) (by decide +kernel) (fun k q => by cases q) rfl ?_
  refine y_cV (i := .invokevirtual 471) (len := 3) (r := (0, 259, 12, 1798)) (nL := 1) (k := 0) (n := 1) (hs := []) (args := [.inl (some 52)]) (rest := []) (l0 := [some (.inl (some 52))]) (by decide +kernel) (Or.inr (Or.inl ⟨_, rfl⟩)) rfl rfl rfl rfl (Nat.le_of_ble_eq_true rfl) (z52 hg4453) rfl (qV_le (by decide) (m_lay (d := 0) hg4453 (RM_up rm (fun k j h1 => (ho4453 k j (by omega)))) len ok pz cz (bl_m hg4453) (fun q9 => rcM_up (jm (ci_to q9 ((ho4453 52 47 (by omega))).symm)) (fun k j hC => (ho4453 k j (by omega)))))) (fun h4461 hR4461 => ?_)
  obtain ⟨hg4461, rq4461, jf4461, F4461⟩ := hR4461
  obtain ⟨⟨x41, h41, e41⟩, ⟨x42, h42, e42⟩, ⟨x43, h43, e43⟩, cp⟩ := id rq4461
  refine y_same (i := .aload_n 0) (len := 1) (r := (0, 0, 0, 0)) (pc' := 35) (ls' := [some (.inl (some 52)), some (zi xw)]) (st' := [.inl (some 52)]) (by decide +kernel) (fun k q => by cases q) rfl ?_
  refine y_get (j := 450) (len := 3) (r := (12, 43, 0, 1371)) (by decide +kernel) hg4461 (t52 hg4461) at52 rfl rfl h43 ?_
  refine y_ic (c := (-1)) (len := 1) (r := (0, 0, 0, 0)) (by decide +kernel) (by decide) (fun y4462 hy4462 => ?_)
  rcases Decidable.em (x43.toInt ≠ y4462.toInt) with q4463 | q4463
  ·
    refine y_cT (c := .ne) (off := 7) (pc' := 46) (len := 3) (r := (0, 0, 0, 0)) (by decide +kernel) (acmpT (c := .ne) (by show ¬ (_ = _); omega)) (by decide +kernel) ?_
    refine y_same (i := .iload_n 1) (len := 1) (r := (0, 0, 0, 0)) (pc' := 47) (ls' := [some (.inl (some 52)), some (zi xw)]) (st' := [zi xw]) (by decide +kernel) (fun k q => by cases q) rfl ?_
    refine y_iF (c := .ne) (off := 10) (len := 3) (r := (0, 0, 0, 0)) (by decide +kernel) (acmpF (c := .ne) (by show _ = _; omega)) ?_
    refine y_same (i := .aload_n 0) (len := 1) (r := (0, 0, 0, 0)) (pc' := 51) (ls' := [some (.inl (some 52)), some (zi xw)]) (st' := [.inl (some 52)]) (by decide +kernel) (fun k q => by cases q) rfl ?_
    refine y_get (j := 450) (len := 3) (r := (12, 43, 0, 1371)) (by decide +kernel) hg4461 (t52 hg4461) at52 rfl rfl h43 ?_
    refine y_goto (off := 19) (pc' := 73) (len := 3) (r := (0, 0, 0, 0)) (by decide +kernel) (by decide +kernel) ?_
    refine y_rI (len := 1) (r := (0, 0, 0, 0)) (nL := 2) (k := 1) (n9 := 2) (hs := []) (by decide +kernel) rfl rfl ?_
    have hv4464 := (F4461 52 0 (by omega)).trans hs4453
    exact ⟨hg4461, by omega, rcM_up rq4461 (fun k j hC => rfl), fun k j hC => ((F4461 k j (by omega)).trans (ho4453 k j (by omega))), _, hv4464, by omega⟩
  ·
    refine y_cF (c := .ne) (off := 7) (len := 3) (r := (0, 0, 0, 0)) (by decide +kernel) (acmpF (c := .ne) (by show _ = _; omega)) ?_
    refine y_ic (c := (-1)) (len := 1) (r := (0, 0, 0, 0)) (by decide +kernel) (by decide) (fun y4465 hy4465 => ?_)
    refine y_goto (off := 30) (pc' := 73) (len := 3) (r := (0, 0, 0, 0)) (by decide +kernel) (by decide +kernel) ?_
    refine y_rI (len := 1) (r := (0, 0, 0, 0)) (nL := 2) (k := 1) (n9 := 2) (hs := []) (by decide +kernel) rfl rfl ?_
    have hv4466 := (F4461 52 0 (by omega)).trans hs4453
    exact ⟨hg4461, by have := rN_pl (s := run_ cur) (by omega); omega, rcM_up rq4461 (fun k j hC => rfl), fun k j hC => ((F4461 k j (by omega)).trans (ho4453 k j (by omega))), _, hv4466, by omega⟩
theorem m_refused1 {t : Nat} {τ : List Nat} {h : zh} {cur : bsT} {hs : List bsT} {xw : Int32} (hg : hG τ h) (rm : RM h cur hs) (ok : (∀ (j : Nat) (i : it4), cur.1.1[j]? = some i → okI i) ∧ (∀ (j : Nat) (i : it4), cur.1.2[j]? = some i → okI i) ∧ (∀ (j : Nat) (i : it4), cur.2.1[j]? = some i → okI i) ∧ ∀ (j : Nat) (i : it4), cur.2.2[j]? = some i → okI i) (len : cur.1.1.length ≤ 5 ∧ cur.1.2.length ≤ 6 ∧ cur.2.1.length ≤ 5 ∧ cur.2.2.length ≤ 6) (pz : ∀ i ∈ cur.1.1, pzi i) (cz : cz1 cur) (jm : JM h cur) (hw : xw.toInt = 1) : qI 60 261 [some (.inl (some 52)), some (zi xw)] h t (fun y h1 => hG τ h1 ∧ y.toInt = rCe (run_ cur) ∧ rcM h1 (ltr (letN cur)) (run_ cur) ∧ (∀ k j, ((k < 52 ∨ (53 < k ∧ k < 381) ∨ 387 < k ∨ (k = 52 ∧ j ≠ 0 ∧ (j < 39 ∨ 47 < j)))) → hsl h1 k j = hsl h k j) ∧ ∃ z : Int32, hsl h1 52 0 = some (zi z) ∧ z.toInt = 0) := by
  refine qI_le (d := 40) (by decide) (qI_of ?_)
  refine y_same (i := .aload_n 0) (len := 1) (r := (0, 0, 0, 0)) (pc' := 1) (ls' := [some (.inl (some 52)), some (zi xw)]) (st' := [.inl (some 52)]) (by decide +kernel) (fun k q => by cases q) rfl ?_
  refine y_ic (c := 0) (len := 1) (r := (0, 0, 0, 0)) (by decide +kernel) (by decide) (fun y4467 hy4467 => ?_)
  refine y_put (j := 92) (lo := (-2147483648)) (hi := 2147483647) (len := 3) (r := (12, 0, 0, 1328)) (by decide +kernel) hg (t52 hg) at52 rfl rfl (by decide) rfl (qin_full _).1 (qin_full _).2 rfl (fun h4468 hg4468 hl4468 hs4468 ho4468 => ?_)
  have ho4468 : hO 52 0 h h4468 := ho4468
  have hs4468 : hsl h4468 52 0 = some (zi y4467) := hs4468
  refine y_same (i := .aload_n 0) (len := 1) (r := (0, 0, 0, 0)) (pc' := 6) (ls' := [some (.inl (some 52)), some (zi xw)]) (st' := [.inl (some 52)]) (by decide +kernel) (fun k q => by cases q) rfl ?_
  refine y_same (i := .iload_n 1) (len := 1) (r := (0, 0, 0, 0)) (pc' := 7) (ls' := [some (.inl (some 52)), some (zi xw)]) (st' := [zi xw, .inl (some 52)]) (by decide +kernel) (fun k q => by cases q) rfl ?_
  refine y_ic (c := 0) (len := 1) (r := (0, 0, 0, 0)) (by decide +kernel) (by decide) (fun y4469 hy4469 => ?_)
  refine y_ic (c := 2) (len := 1) (r := (0, 0, 0, 0)) (by decide +kernel) (by decide) (fun y4470 hy4470 => ?_)
  refine y_cI (i := .invokestatic 200) (len := 3) (r := (1, 162, 12, 1486)) (nL := 3) (k := 2) (n := 3) (hs := []) (args := [zi xw, zi y4469, zi y4470]) (rest := [.inl (some 52)]) (l0 := [some (zi xw), some (zi y4469), some (zi y4470)]) (by decide +kernel) (Or.inl ⟨_, rfl⟩) rfl rfl rfl rfl (Nat.le_of_ble_eq_true rfl) rfl rfl (qI_le (by decide) (m_in (d := 0) (by omega) (by omega))) (fun y4471 qy4471 hRy4471 => ?_)
  obtain ⟨rfl, hy4471⟩ := hRy4471
  refine y_iT (c := .ne) (off := 7) (pc' := 19) (len := 3) (r := (0, 0, 0, 0)) (by decide +kernel) (acmpT (c := .ne) (by show ¬ (_ = _); omega)) (by decide +kernel) ?_
  refine y_ic (c := 0) (len := 1) (r := (0, 0, 0, 0)) (by decide +kernel) (by decide) (fun y4472 hy4472 => ?_)
  refine y_ic (c := 1) (len := 1) (r := (0, 0, 0, 0)) (by decide +kernel) (by decide) (fun y4473 hy4473 => ?_)
  refine y_ic (c := 1) (len := 1) (r := (0, 0, 0, 0)) (by decide +kernel) (by decide) (fun y4474 hy4474 => ?_)
  refine y_cI (i := .invokevirtual 204) (len := 3) (r := (0, 161, 12, 1489)) (nL := 4) (k := 2) (n := 4) (hs := []) (args := [.inl (some 52), zi y4472, zi y4473, zi y4474]) (rest := []) (l0 := [some (.inl (some 52)), some (zi y4472), some (zi y4473), some (zi y4474)]) (by decide +kernel) (Or.inr (Or.inl ⟨_, rfl⟩)) rfl rfl rfl rfl (Nat.le_of_ble_eq_true rfl) (z52 hg4468) rfl (qI_le (by decide) (m_bad (d := 0) hg4468 (by omega) hs4468 (by omega))) (fun y4475 qy4475 hRy4475 => ?_)
  obtain ⟨rfl, hy4475⟩ := hRy4475
  refine y_iT (c := .eq) (off := 5) (pc' := 30) (len := 3) (r := (0, 0, 0, 0)) (by decide +kernel) (acmpT (c := .eq) (by show _ = _; omega)) (by decide +kernel) ?_
  refine y_same (i := .aload_n 0) (len := 1) (r := (0, 0, 0, 0)) (pc' := 31) (ls' := [some (.inl (some 52)), some (zi xw)]) (st' := [.inl (some 52)]) (by decide +kernel) (fun k q => by cases q) rfl ?_
  refine y_cV (i := .invokevirtual 471) (len := 3) (r := (0, 259, 12, 1798)) (nL := 1) (k := 0) (n := 1) (hs := []) (args := [.inl (some 52)]) (rest := []) (l0 := [some (.inl (some 52))]) (by decide +kernel) (Or.inr (Or.inl ⟨_, rfl⟩)) rfl rfl rfl rfl (Nat.le_of_ble_eq_true rfl) (z52 hg4468) rfl (qV_le (by decide) (m_lay (d := 0) hg4468 (RM_up rm (fun k j h1 => (ho4468 k j (by omega)))) len ok pz cz (bl_m hg4468) (fun q9 => rcM_up (jm (ci_to q9 ((ho4468 52 47 (by omega))).symm)) (fun k j hC => (ho4468 k j (by omega)))))) (fun h4476 hR4476 => ?_)
  obtain ⟨hg4476, rq4476, jf4476, F4476⟩ := hR4476
  obtain ⟨⟨x41, h41, e41⟩, ⟨x42, h42, e42⟩, ⟨x43, h43, e43⟩, cp⟩ := id rq4476
  refine y_same (i := .aload_n 0) (len := 1) (r := (0, 0, 0, 0)) (pc' := 35) (ls' := [some (.inl (some 52)), some (zi xw)]) (st' := [.inl (some 52)]) (by decide +kernel) (fun k q => by cases q) rfl ?_
  refine y_get (j := 450) (len := 3) (r := (12, 43, 0, 1371)) (by decide +kernel) hg4476 (t52 hg4476) at52 rfl rfl h43 ?_
  refine y_ic (c := (-1)) (len := 1) (r := (0, 0, 0, 0)) (by decide +kernel) (by decide) (fun y4477 hy4477 => ?_)
  rcases Decidable.em (x43.toInt ≠ y4477.toInt) with q4478 | q4478
  ·
    refine y_cT (c := .ne) (off := 7) (pc' := 46) (len := 3) (r := (0, 0, 0, 0)) (by decide +kernel) (acmpT (c := .ne) (by show ¬ (_ = _); omega)) (by decide +kernel) ?_
    obtain ⟨⟨x44, h44, e44⟩, ⟨x45, h45, e45⟩, -⟩ := cp (by omega)
    refine y_same (i := .iload_n 1) (len := 1) (r := (0, 0, 0, 0)) (pc' := 47) (ls' := [some (.inl (some 52)), some (zi xw)]) (st' := [zi xw]) (by decide +kernel) (fun k q => by cases q) rfl ?_
    refine y_iT (c := .ne) (off := 10) (pc' := 57) (len := 3) (r := (0, 0, 0, 0)) (by decide +kernel) (acmpT (c := .ne) (by show ¬ (_ = _); omega)) (by decide +kernel) ?_
    refine y_same (i := .iload_n 1) (len := 1) (r := (0, 0, 0, 0)) (pc' := 58) (ls' := [some (.inl (some 52)), some (zi xw)]) (st' := [zi xw]) (by decide +kernel) (fun k q => by cases q) rfl ?_
    refine y_ic (c := 1) (len := 1) (r := (0, 0, 0, 0)) (by decide +kernel) (by decide) (fun y4479 hy4479 => ?_)
    refine y_cF (c := .ne) (off := 10) (len := 3) (r := (0, 0, 0, 0)) (by decide +kernel) (acmpF (c := .ne) (by show _ = _; omega)) ?_
    refine y_same (i := .aload_n 0) (len := 1) (r := (0, 0, 0, 0)) (pc' := 63) (ls' := [some (.inl (some 52)), some (zi xw)]) (st' := [.inl (some 52)]) (by decide +kernel) (fun k q => by cases q) rfl ?_
    refine y_get (j := 456) (len := 3) (r := (12, 44, 0, 1372)) (by decide +kernel) hg4476 (t52 hg4476) at52 rfl rfl h44 ?_
    refine y_goto (off := 7) (pc' := 73) (len := 3) (r := (0, 0, 0, 0)) (by decide +kernel) (by decide +kernel) ?_
    refine y_rI (len := 1) (r := (0, 0, 0, 0)) (nL := 2) (k := 1) (n9 := 2) (hs := []) (by decide +kernel) rfl rfl ?_
    have hv4480 := (F4476 52 0 (by omega)).trans hs4468
    exact ⟨hg4476, by omega, rcM_up rq4476 (fun k j hC => rfl), fun k j hC => ((F4476 k j (by omega)).trans (ho4468 k j (by omega))), _, hv4480, by omega⟩
  ·
    refine y_cF (c := .ne) (off := 7) (len := 3) (r := (0, 0, 0, 0)) (by decide +kernel) (acmpF (c := .ne) (by show _ = _; omega)) ?_
    refine y_ic (c := (-1)) (len := 1) (r := (0, 0, 0, 0)) (by decide +kernel) (by decide) (fun y4481 hy4481 => ?_)
    refine y_goto (off := 30) (pc' := 73) (len := 3) (r := (0, 0, 0, 0)) (by decide +kernel) (by decide +kernel) ?_
    refine y_rI (len := 1) (r := (0, 0, 0, 0)) (nL := 2) (k := 1) (n9 := 2) (hs := []) (by decide +kernel) rfl rfl ?_
    have hv4482 := (F4476 52 0 (by omega)).trans hs4468
    exact ⟨hg4476, by have := rN_pl (s := run_ cur) (by omega); omega, rcM_up rq4476 (fun k j hC => rfl), fun k j hC => ((F4476 k j (by omega)).trans (ho4468 k j (by omega))), _, hv4482, by omega⟩
theorem m_refused2 {t : Nat} {τ : List Nat} {h : zh} {cur : bsT} {hs : List bsT} {xw : Int32} (hg : hG τ h) (rm : RM h cur hs) (ok : (∀ (j : Nat) (i : it4), cur.1.1[j]? = some i → okI i) ∧ (∀ (j : Nat) (i : it4), cur.1.2[j]? = some i → okI i) ∧ (∀ (j : Nat) (i : it4), cur.2.1[j]? = some i → okI i) ∧ ∀ (j : Nat) (i : it4), cur.2.2[j]? = some i → okI i) (len : cur.1.1.length ≤ 5 ∧ cur.1.2.length ≤ 6 ∧ cur.2.1.length ≤ 5 ∧ cur.2.2.length ≤ 6) (pz : ∀ i ∈ cur.1.1, pzi i) (cz : cz1 cur) (jm : JM h cur) (hw : xw.toInt = 2) : qI 60 261 [some (.inl (some 52)), some (zi xw)] h t (fun y h1 => hG τ h1 ∧ y.toInt = rPa (run_ cur) ∧ rcM h1 (ltr (letN cur)) (run_ cur) ∧ (∀ k j, ((k < 52 ∨ (53 < k ∧ k < 381) ∨ 387 < k ∨ (k = 52 ∧ j ≠ 0 ∧ (j < 39 ∨ 47 < j)))) → hsl h1 k j = hsl h k j) ∧ ∃ z : Int32, hsl h1 52 0 = some (zi z) ∧ z.toInt = 0) := by
  refine qI_le (d := 40) (by decide) (qI_of ?_)
  refine y_same (i := .aload_n 0) (len := 1) (r := (0, 0, 0, 0)) (pc' := 1) (ls' := [some (.inl (some 52)), some (zi xw)]) (st' := [.inl (some 52)]) (by decide +kernel) (fun k q => by cases q) rfl ?_
  refine y_ic (c := 0) (len := 1) (r := (0, 0, 0, 0)) (by decide +kernel) (by decide) (fun y4483 hy4483 => ?_)
  refine y_put (j := 92) (lo := (-2147483648)) (hi := 2147483647) (len := 3) (r := (12, 0, 0, 1328)) (by decide +kernel) hg (t52 hg) at52 rfl rfl (by decide) rfl (qin_full _).1 (qin_full _).2 rfl (fun h4484 hg4484 hl4484 hs4484 ho4484 => ?_)
  have ho4484 : hO 52 0 h h4484 := ho4484
  have hs4484 : hsl h4484 52 0 = some (zi y4483) := hs4484
  refine y_same (i := .aload_n 0) (len := 1) (r := (0, 0, 0, 0)) (pc' := 6) (ls' := [some (.inl (some 52)), some (zi xw)]) (st' := [.inl (some 52)]) (by decide +kernel) (fun k q => by cases q) rfl ?_
  refine y_same (i := .iload_n 1) (len := 1) (r := (0, 0, 0, 0)) (pc' := 7) (ls' := [some (.inl (some 52)), some (zi xw)]) (st' := [zi xw, .inl (some 52)]) (by decide +kernel) (fun k q => by cases q) rfl ?_
  refine y_ic (c := 0) (len := 1) (r := (0, 0, 0, 0)) (by decide +kernel) (by decide) (fun y4485 hy4485 => ?_)
  refine y_ic (c := 2) (len := 1) (r := (0, 0, 0, 0)) (by decide +kernel) (by decide) (fun y4486 hy4486 => ?_)
  refine y_cI (i := .invokestatic 200) (len := 3) (r := (1, 162, 12, 1486)) (nL := 3) (k := 2) (n := 3) (hs := []) (args := [zi xw, zi y4485, zi y4486]) (rest := [.inl (some 52)]) (l0 := [some (zi xw), some (zi y4485), some (zi y4486)]) (by decide +kernel) (Or.inl ⟨_, rfl⟩) rfl rfl rfl rfl (Nat.le_of_ble_eq_true rfl) rfl rfl (qI_le (by decide) (m_in (d := 0) (by omega) (by omega))) (fun y4487 qy4487 hRy4487 => ?_)
  obtain ⟨rfl, hy4487⟩ := hRy4487
  refine y_iT (c := .ne) (off := 7) (pc' := 19) (len := 3) (r := (0, 0, 0, 0)) (by decide +kernel) (acmpT (c := .ne) (by show ¬ (_ = _); omega)) (by decide +kernel) ?_
  refine y_ic (c := 0) (len := 1) (r := (0, 0, 0, 0)) (by decide +kernel) (by decide) (fun y4488 hy4488 => ?_)
  refine y_ic (c := 1) (len := 1) (r := (0, 0, 0, 0)) (by decide +kernel) (by decide) (fun y4489 hy4489 => ?_)
  refine y_ic (c := 1) (len := 1) (r := (0, 0, 0, 0)) (by decide +kernel) (by decide) (fun y4490 hy4490 => ?_)
  refine y_cI (i := .invokevirtual 204) (len := 3) (r := (0, 161, 12, 1489)) (nL := 4) (k := 2) (n := 4) (hs := []) (args := [.inl (some 52), zi y4488, zi y4489, zi y4490]) (rest := []) (l0 := [some (.inl (some 52)), some (zi y4488), some (zi y4489), some (zi y4490)]) (by decide +kernel) (Or.inr (Or.inl ⟨_, rfl⟩)) rfl rfl rfl rfl (Nat.le_of_ble_eq_true rfl) (z52 hg4484) rfl (qI_le (by decide) (m_bad (d := 0) hg4484 (by omega) hs4484 (by omega))) (fun y4491 qy4491 hRy4491 => ?_)
  obtain ⟨rfl, hy4491⟩ := hRy4491
  refine y_iT (c := .eq) (off := 5) (pc' := 30) (len := 3) (r := (0, 0, 0, 0)) (by decide +kernel) (acmpT (c := .eq) (by show _ = _; omega)) (by decide +kernel) ?_
  refine y_same (i := .aload_n 0) (len := 1) (r := (0, 0, 0, 0)) (pc' := 31) (ls' := [some (.inl (some 52)), some (zi xw)]) (st' := [.inl (some 52)]) (by decide +kernel) (fun k q => by cases q) rfl ?_
  refine y_cV (i := .invokevirtual 471) (len := 3) (r := (0, 259, 12, 1798)) (nL := 1) (k := 0) (n := 1) (hs := []) (args := [.inl (some 52)]) (rest := []) (l0 := [some (.inl (some 52))]) (by decide +kernel) (Or.inr (Or.inl ⟨_, rfl⟩)) rfl rfl rfl rfl (Nat.le_of_ble_eq_true rfl) (z52 hg4484) rfl (qV_le (by decide) (m_lay (d := 0) hg4484 (RM_up rm (fun k j h1 => (ho4484 k j (by omega)))) len ok pz cz (bl_m hg4484) (fun q9 => rcM_up (jm (ci_to q9 ((ho4484 52 47 (by omega))).symm)) (fun k j hC => (ho4484 k j (by omega)))))) (fun h4492 hR4492 => ?_)
  obtain ⟨hg4492, rq4492, jf4492, F4492⟩ := hR4492
  obtain ⟨⟨x41, h41, e41⟩, ⟨x42, h42, e42⟩, ⟨x43, h43, e43⟩, cp⟩ := id rq4492
  refine y_same (i := .aload_n 0) (len := 1) (r := (0, 0, 0, 0)) (pc' := 35) (ls' := [some (.inl (some 52)), some (zi xw)]) (st' := [.inl (some 52)]) (by decide +kernel) (fun k q => by cases q) rfl ?_
  refine y_get (j := 450) (len := 3) (r := (12, 43, 0, 1371)) (by decide +kernel) hg4492 (t52 hg4492) at52 rfl rfl h43 ?_
  refine y_ic (c := (-1)) (len := 1) (r := (0, 0, 0, 0)) (by decide +kernel) (by decide) (fun y4493 hy4493 => ?_)
  rcases Decidable.em (x43.toInt ≠ y4493.toInt) with q4494 | q4494
  ·
    refine y_cT (c := .ne) (off := 7) (pc' := 46) (len := 3) (r := (0, 0, 0, 0)) (by decide +kernel) (acmpT (c := .ne) (by show ¬ (_ = _); omega)) (by decide +kernel) ?_
    obtain ⟨⟨x44, h44, e44⟩, ⟨x45, h45, e45⟩, -⟩ := cp (by omega)
    refine y_same (i := .iload_n 1) (len := 1) (r := (0, 0, 0, 0)) (pc' := 47) (ls' := [some (.inl (some 52)), some (zi xw)]) (st' := [zi xw]) (by decide +kernel) (fun k q => by cases q) rfl ?_
    refine y_iT (c := .ne) (off := 10) (pc' := 57) (len := 3) (r := (0, 0, 0, 0)) (by decide +kernel) (acmpT (c := .ne) (by show ¬ (_ = _); omega)) (by decide +kernel) ?_
    refine y_same (i := .iload_n 1) (len := 1) (r := (0, 0, 0, 0)) (pc' := 58) (ls' := [some (.inl (some 52)), some (zi xw)]) (st' := [zi xw]) (by decide +kernel) (fun k q => by cases q) rfl ?_
    refine y_ic (c := 1) (len := 1) (r := (0, 0, 0, 0)) (by decide +kernel) (by decide) (fun y4495 hy4495 => ?_)
    refine y_cT (c := .ne) (off := 10) (pc' := 69) (len := 3) (r := (0, 0, 0, 0)) (by decide +kernel) (acmpT (c := .ne) (by show ¬ (_ = _); omega)) (by decide +kernel) ?_
    refine y_same (i := .aload_n 0) (len := 1) (r := (0, 0, 0, 0)) (pc' := 70) (ls' := [some (.inl (some 52)), some (zi xw)]) (st' := [.inl (some 52)]) (by decide +kernel) (fun k q => by cases q) rfl ?_
    refine y_get (j := 459) (len := 3) (r := (12, 45, 0, 1373)) (by decide +kernel) hg4492 (t52 hg4492) at52 rfl rfl h45 ?_
    refine y_rI (len := 1) (r := (0, 0, 0, 0)) (nL := 2) (k := 1) (n9 := 2) (hs := []) (by decide +kernel) rfl rfl ?_
    have hv4496 := (F4492 52 0 (by omega)).trans hs4484
    exact ⟨hg4492, by omega, rcM_up rq4492 (fun k j hC => rfl), fun k j hC => ((F4492 k j (by omega)).trans (ho4484 k j (by omega))), _, hv4496, by omega⟩
  ·
    refine y_cF (c := .ne) (off := 7) (len := 3) (r := (0, 0, 0, 0)) (by decide +kernel) (acmpF (c := .ne) (by show _ = _; omega)) ?_
    refine y_ic (c := (-1)) (len := 1) (r := (0, 0, 0, 0)) (by decide +kernel) (by decide) (fun y4497 hy4497 => ?_)
    refine y_goto (off := 30) (pc' := 73) (len := 3) (r := (0, 0, 0, 0)) (by decide +kernel) (by decide +kernel) ?_
    refine y_rI (len := 1) (r := (0, 0, 0, 0)) (nL := 2) (k := 1) (n9 := 2) (hs := []) (by decide +kernel) rfl rfl ?_
    have hv4498 := (F4492 52 0 (by omega)).trans hs4484
    exact ⟨hg4492, by have := rN_pl (s := run_ cur) (by omega); omega, rcM_up rq4492 (fun k j hC => rfl), fun k j hC => ((F4492 k j (by omega)).trans (ho4484 k j (by omega))), _, hv4498, by omega⟩
theorem m_refusedX {t : Nat} {τ : List Nat} {h : zh} {xw : Int32} (hg : hG τ h) (hw : ¬ (0 ≤ xw.toInt ∧ xw.toInt ≤ 2)) : qI 60 261 [some (.inl (some 52)), some (zi xw)] h t (fun y h1 => hG τ h1 ∧ (∀ k j, (k ≠ 53 ∧ (k ≠ 52 ∨ j ≠ 0)) → hsl h1 k j = hsl h k j) ∧ ∃ z : Int32, hsl h1 52 0 = some (zi z) ∧ z.toInt = 1) := by
  refine qI_le (d := 40) (by decide) (qI_of ?_)
  refine y_same (i := .aload_n 0) (len := 1) (r := (0, 0, 0, 0)) (pc' := 1) (ls' := [some (.inl (some 52)), some (zi xw)]) (st' := [.inl (some 52)]) (by decide +kernel) (fun k q => by cases q) rfl ?_
  refine y_ic (c := 0) (len := 1) (r := (0, 0, 0, 0)) (by decide +kernel) (by decide) (fun y4499 hy4499 => ?_)
  refine y_put (j := 92) (lo := (-2147483648)) (hi := 2147483647) (len := 3) (r := (12, 0, 0, 1328)) (by decide +kernel) hg (t52 hg) at52 rfl rfl (by decide) rfl (qin_full _).1 (qin_full _).2 rfl (fun h4500 hg4500 hl4500 hs4500 ho4500 => ?_)
  have ho4500 : hO 52 0 h h4500 := ho4500
  have hs4500 : hsl h4500 52 0 = some (zi y4499) := hs4500
  refine y_same (i := .aload_n 0) (len := 1) (r := (0, 0, 0, 0)) (pc' := 6) (ls' := [some (.inl (some 52)), some (zi xw)]) (st' := [.inl (some 52)]) (by decide +kernel) (fun k q => by cases q) rfl ?_
  refine y_same (i := .iload_n 1) (len := 1) (r := (0, 0, 0, 0)) (pc' := 7) (ls' := [some (.inl (some 52)), some (zi xw)]) (st' := [zi xw, .inl (some 52)]) (by decide +kernel) (fun k q => by cases q) rfl ?_
  refine y_ic (c := 0) (len := 1) (r := (0, 0, 0, 0)) (by decide +kernel) (by decide) (fun y4501 hy4501 => ?_)
  refine y_ic (c := 2) (len := 1) (r := (0, 0, 0, 0)) (by decide +kernel) (by decide) (fun y4502 hy4502 => ?_)
  refine y_cI (i := .invokestatic 200) (len := 3) (r := (1, 162, 12, 1486)) (nL := 3) (k := 2) (n := 3) (hs := []) (args := [zi xw, zi y4501, zi y4502]) (rest := [.inl (some 52)]) (l0 := [some (zi xw), some (zi y4501), some (zi y4502)]) (by decide +kernel) (Or.inl ⟨_, rfl⟩) rfl rfl rfl rfl (Nat.le_of_ble_eq_true rfl) rfl rfl (qI_le (by decide) (m_in0 (d := 0) (by omega))) (fun y4503 qy4503 hRy4503 => ?_)
  obtain ⟨rfl, hy4503⟩ := hRy4503
  refine y_iF (c := .ne) (off := 7) (len := 3) (r := (0, 0, 0, 0)) (by decide +kernel) (acmpF (c := .ne) (by show _ = _; omega)) ?_
  refine y_ic (c := 1) (len := 1) (r := (0, 0, 0, 0)) (by decide +kernel) (by decide) (fun y4504 hy4504 => ?_)
  refine y_goto (off := 4) (pc' := 20) (len := 3) (r := (0, 0, 0, 0)) (by decide +kernel) (by decide +kernel) ?_
  refine y_ic (c := 1) (len := 1) (r := (0, 0, 0, 0)) (by decide +kernel) (by decide) (fun y4505 hy4505 => ?_)
  refine y_ic (c := 1) (len := 1) (r := (0, 0, 0, 0)) (by decide +kernel) (by decide) (fun y4506 hy4506 => ?_)
  refine y_cI (i := .invokevirtual 204) (len := 3) (r := (0, 161, 12, 1489)) (nL := 4) (k := 2) (n := 4) (hs := []) (args := [.inl (some 52), zi y4504, zi y4505, zi y4506]) (rest := []) (l0 := [some (.inl (some 52)), some (zi y4504), some (zi y4505), some (zi y4506)]) (by decide +kernel) (Or.inr (Or.inl ⟨_, rfl⟩)) rfl rfl rfl rfl (Nat.le_of_ble_eq_true rfl) (z52 hg4500) rfl (qI_le (by decide) (m_bad1 (d := 0) (e := 1) hg4500 (by omega) (by omega) (by omega) (by omega) hs4500 (by omega))) (fun y4507 h4507 hRy4507 => ?_)
  obtain ⟨hg4507, hy4507, ⟨z4507, hz4507, ez4507⟩, F4507⟩ := hRy4507
  refine y_iF (c := .eq) (off := 5) (len := 3) (r := (0, 0, 0, 0)) (by decide +kernel) (acmpF (c := .eq) (by show ¬ (_ = _); omega)) ?_
  refine y_ic (c := 0) (len := 1) (r := (0, 0, 0, 0)) (by decide +kernel) (by decide) (fun y4508 hy4508 => ?_)
  refine y_rI (len := 1) (r := (0, 0, 0, 0)) (nL := 2) (k := 1) (n9 := 2) (hs := []) (by decide +kernel) rfl rfl ?_
  exact ⟨hg4507, fun k j hC => ((F4507 k j (by omega)).trans (ho4500 k j (by omega))), _, hz4507, by omega⟩
theorem c_place_ {v : Nat} {t : Nat} {τ : List Nat} {h : zh} {cur : bsT} {hs : List bsT} {xw : Int32} (hg : hG τ h) (rc : RC h cur hs) (r5 : hsl h 0 5 = some (.inl (some 2))) (ok : (∀ (j : Nat) (i : it4), cur.1.1[j]? = some i → okI i) ∧ (∀ (j : Nat) (i : it4), cur.1.2[j]? = some i → okI i) ∧ (∀ (j : Nat) (i : it4), cur.2.1[j]? = some i → okI i) ∧ ∀ (j : Nat) (i : it4), cur.2.2[j]? = some i → okI i) (len : cur.1.1.length ≤ 5 ∧ cur.1.2.length ≤ 6 ∧ cur.2.1.length ≤ 5 ∧ cur.2.2.length ≤ 6) (jc : JC h cur) (hw : xw.toInt = (v : Int)) (hv1 : 1 ≤ v) (hv5 : v ≤ 5) : qI 21 149 [some (.inl (some 0)), some (zi xw)] h t (fun y h1 => hG τ h1 ∧ y.toInt = rPl (ltr (letN cur)) (run_ cur) v ∧ rcC h1 (ltr (letN cur)) (run_ cur) ∧ ci_ h1 44 0 0 ∧ ∀ k j, (k < 42 ∨ 51 < k) → hsl h1 k j = hsl h k j) := by
  refine qI_of ?_
  refine y_same (i := .aload_n 0) (len := 1) (r := (0, 0, 0, 0)) (pc' := 1) (ls' := [some (.inl (some 0)), some (zi xw)]) (st' := [.inl (some 0)]) (by decide +kernel) (fun k q => by cases q) rfl ?_
  refine y_same (i := .iload_n 1) (len := 1) (r := (0, 0, 0, 0)) (pc' := 2) (ls' := [some (.inl (some 0)), some (zi xw)]) (st' := [zi xw, .inl (some 0)]) (by decide +kernel) (fun k q => by cases q) rfl ?_
  refine y_ic (c := 1) (len := 1) (r := (0, 0, 0, 0)) (by decide +kernel) (by decide) (fun y4509 hy4509 => ?_)
  refine y_cF (c := .lt) (off := 12) (len := 3) (r := (0, 0, 0, 0)) (by decide +kernel) (acmpF (c := .lt) (by show _ ≤ _; omega)) ?_
  refine y_same (i := .iload_n 1) (len := 1) (r := (0, 0, 0, 0)) (pc' := 7) (ls' := [some (.inl (some 0)), some (zi xw)]) (st' := [zi xw, .inl (some 0)]) (by decide +kernel) (fun k q => by cases q) rfl ?_
  refine y_ic (c := 5) (len := 1) (r := (0, 0, 0, 0)) (by decide +kernel) (by decide) (fun y4510 hy4510 => ?_)
  refine y_cF (c := .gt) (off := 7) (len := 3) (r := (0, 0, 0, 0)) (by decide +kernel) (acmpF (c := .gt) (by show _ ≤ _; omega)) ?_
  refine y_ic (c := 1) (len := 1) (r := (0, 0, 0, 0)) (by decide +kernel) (by decide) (fun y4511 hy4511 => ?_)
  refine y_goto (off := 4) (pc' := 16) (len := 3) (r := (0, 0, 0, 0)) (by decide +kernel) (by decide +kernel) ?_
  refine y_cV (i := .invokevirtual 120) (len := 3) (r := (0, 152, 11, 1079)) (nL := 2) (k := 0) (n := 2) (hs := []) (args := [.inl (some 0), zi y4511]) (rest := []) (l0 := [some (.inl (some 0)), some (zi y4511)]) (by decide +kernel) (Or.inr (Or.inl ⟨_, rfl⟩)) rfl rfl rfl rfl (Nat.le_of_ble_eq_true rfl) (zO hg (tv0 hg) aw0 rfl) rfl (qV_le (by decide) (c_there (d := 0) (by omega))) (fun q4512 hR4512 => ?_)
  obtain rfl := hR4512
  refine y_same (i := .aload_n 0) (len := 1) (r := (0, 0, 0, 0)) (pc' := 20) (ls' := [some (.inl (some 0)), some (zi xw)]) (st' := [.inl (some 0)]) (by decide +kernel) (fun k q => by cases q) rfl ?_
  refine y_get (j := 62) (len := 3) (r := (11, 10, 2, 409)) (by decide +kernel) hg (tv0 hg) aw0 rfl rfl (g_rU (f := 10) (T2 := 42) hg (tv0 hg) aw0 rfl (by decide)) ?_
  refine y_same (i := .aload_n 0) (len := 1) (r := (0, 0, 0, 0)) (pc' := 24) (ls' := [some (.inl (some 0)), some (zi xw)]) (st' := [.inl (some 0), .inl (some 42)]) (by decide +kernel) (fun k q => by cases q) rfl ?_
  refine y_get (j := 29) (len := 3) (r := (11, 5, 2, 404)) (by decide +kernel) hg (tv0 hg) aw0 rfl rfl r5 ?_
  refine y_cV (i := .invokevirtual 205) (len := 3) (r := (0, 116, 10, 1184)) (nL := 4) (k := 0) (n := 2) (hs := []) (args := [.inl (some 42), .inl (some 2)]) (rest := []) (l0 := [some (.inl (some 42)), some (.inl (some 2)), none, none]) (by decide +kernel) (Or.inr (Or.inl ⟨_, rfl⟩)) rfl rfl rfl rfl (Nat.le_of_ble_eq_true rfl) (zO hg (tv42 hg) aw42 rfl) rfl (qV_le (by decide) (e_jdg (d := 0) hg rc ok len jc.1 (bl_c hg) jc.2)) (fun h4513 hR4513 => ?_)
  obtain ⟨hg4513, rq4513, jf4513, v04513, F4513⟩ := hR4513
  obtain ⟨⟨x6, h6, e6⟩, ⟨x7, h7, e7⟩, ⟨x8, h8, e8⟩, ⟨x9, h9, e9⟩, ⟨x10, h10, e10⟩, cp⟩ := id rq4513
  refine y_same (i := .aload_n 0) (len := 1) (r := (0, 0, 0, 0)) (pc' := 31) (ls' := [some (.inl (some 0)), some (zi xw)]) (st' := [.inl (some 0)]) (by decide +kernel) (fun k q => by cases q) rfl ?_
  refine y_get (j := 62) (len := 3) (r := (11, 10, 2, 409)) (by decide +kernel) hg4513 (tv0 hg4513) aw0 rfl rfl (g_rU (f := 10) (T2 := 42) hg4513 (tv0 hg4513) aw0 rfl (by decide)) ?_
  refine y_same (i := .iload_n 1) (len := 1) (r := (0, 0, 0, 0)) (pc' := 35) (ls' := [some (.inl (some 0)), some (zi xw)]) (st' := [zi xw, .inl (some 42)]) (by decide +kernel) (fun k q => by cases q) rfl ?_
  refine y_cI (i := .invokevirtual 219) (len := 3) (r := (0, 115, 10, 1316)) (nL := 2) (k := 1) (n := 2) (hs := []) (args := [.inl (some 42), zi xw]) (rest := []) (l0 := [some (.inl (some 42)), some (zi xw)]) (by decide +kernel) (Or.inr (Or.inl ⟨_, rfl⟩)) rfl rfl rfl rfl (Nat.le_of_ble_eq_true rfl) (zO hg4513 (tv42 hg4513) aw42 rfl) rfl (qI_le (by decide) (c_pl (d := 0) hg4513 (cp v (by omega) (by omega)) (by omega) (by omega) (by omega))) (fun y4514 qy4514 hRy4514 => ?_)
  obtain ⟨rfl, ey4514⟩ := hRy4514
  refine y_rI (len := 1) (r := (0, 0, 0, 0)) (nL := 2) (k := 1) (n9 := 2) (hs := []) (by decide +kernel) rfl rfl ?_
  exact ⟨hg4513, ey4514, rq4513, v04513, fun k j hC => (F4513 k j (by omega))⟩
theorem c_placeX {t : Nat} {τ : List Nat} {h : zh} {xw : Int32} (hg : hG τ h) (hw : ¬ (1 ≤ xw.toInt ∧ xw.toInt ≤ 5)) : qT 21 149 [some (.inl (some 0)), some (zi xw)] h t 0 (fun h1 => hG τ h1 ∧ ∀ k j, (k ≠ 0 ∨ j ≠ 3) → hsl h1 k j = hsl h k j) := by
  refine qT_of ?_
  refine y_same (i := .aload_n 0) (len := 1) (r := (0, 0, 0, 0)) (pc' := 1) (ls' := [some (.inl (some 0)), some (zi xw)]) (st' := [.inl (some 0)]) (by decide +kernel) (fun k q => by cases q) rfl ?_
  refine y_same (i := .iload_n 1) (len := 1) (r := (0, 0, 0, 0)) (pc' := 2) (ls' := [some (.inl (some 0)), some (zi xw)]) (st' := [zi xw, .inl (some 0)]) (by decide +kernel) (fun k q => by cases q) rfl ?_
  refine y_ic (c := 1) (len := 1) (r := (0, 0, 0, 0)) (by decide +kernel) (by decide) (fun y4515 hy4515 => ?_)
  rcases Decidable.em (xw.toInt < y4515.toInt) with q4516 | q4516
  ·
    refine y_cT (c := .lt) (off := 12) (pc' := 15) (len := 3) (r := (0, 0, 0, 0)) (by decide +kernel) (acmpT (c := .lt) (by show _ < _; omega)) (by decide +kernel) ?_
    refine y_ic (c := 0) (len := 1) (r := (0, 0, 0, 0)) (by decide +kernel) (by decide) (fun y4517 hy4517 => ?_)
    refine y_cX (i := .invokevirtual 120) (len := 3) (r := (0, 152, 11, 1079)) (nL := 2) (k := 0) (n := 2) (hs := []) (args := [.inl (some 0), zi y4517]) (rest := []) (l0 := [some (.inl (some 0)), some (zi y4517)]) (by decide +kernel) (Or.inr (Or.inl ⟨_, rfl⟩)) rfl rfl rfl rfl (Nat.le_of_ble_eq_true rfl) (zO hg (tv0 hg) aw0 rfl) rfl rfl (mL := 2) (mk := 1) (m9 := 2) (ms := []) rfl rfl (qT_le (by decide) (c_thereT (d := 0) hg (by omega))) (fun h4518 hR4518 => ?_)
    obtain ⟨hg4518, F4518⟩ := hR4518
    exact ⟨_, rfl, hg4518, fun k j hC => (F4518 k j (by omega))⟩
  ·
    refine y_cF (c := .lt) (off := 12) (len := 3) (r := (0, 0, 0, 0)) (by decide +kernel) (acmpF (c := .lt) (by show _ ≤ _; omega)) ?_
    refine y_same (i := .iload_n 1) (len := 1) (r := (0, 0, 0, 0)) (pc' := 7) (ls' := [some (.inl (some 0)), some (zi xw)]) (st' := [zi xw, .inl (some 0)]) (by decide +kernel) (fun k q => by cases q) rfl ?_
    refine y_ic (c := 5) (len := 1) (r := (0, 0, 0, 0)) (by decide +kernel) (by decide) (fun y4519 hy4519 => ?_)
    rcases Decidable.em (xw.toInt > y4519.toInt) with q4520 | q4520
    ·
      refine y_cT (c := .gt) (off := 7) (pc' := 15) (len := 3) (r := (0, 0, 0, 0)) (by decide +kernel) (acmpT (c := .gt) (by show _ < _; omega)) (by decide +kernel) ?_
      refine y_ic (c := 0) (len := 1) (r := (0, 0, 0, 0)) (by decide +kernel) (by decide) (fun y4521 hy4521 => ?_)
      refine y_cX (i := .invokevirtual 120) (len := 3) (r := (0, 152, 11, 1079)) (nL := 2) (k := 0) (n := 2) (hs := []) (args := [.inl (some 0), zi y4521]) (rest := []) (l0 := [some (.inl (some 0)), some (zi y4521)]) (by decide +kernel) (Or.inr (Or.inl ⟨_, rfl⟩)) rfl rfl rfl rfl (Nat.le_of_ble_eq_true rfl) (zO hg (tv0 hg) aw0 rfl) rfl rfl (mL := 2) (mk := 1) (m9 := 2) (ms := []) rfl rfl (qT_le (by decide) (c_thereT (d := 0) hg (by omega))) (fun h4522 hR4522 => ?_)
      obtain ⟨hg4522, F4522⟩ := hR4522
      exact ⟨_, rfl, hg4522, fun k j hC => (F4522 k j (by omega))⟩
    ·
      refine y_cF (c := .gt) (off := 7) (len := 3) (r := (0, 0, 0, 0)) (by decide +kernel) (acmpF (c := .gt) (by show _ ≤ _; omega)) ?_
      refine y_ic (c := 1) (len := 1) (r := (0, 0, 0, 0)) (by decide +kernel) (by decide) (fun y4523 hy4523 => ?_)
      refine y_goto (off := 4) (pc' := 16) (len := 3) (r := (0, 0, 0, 0)) (by decide +kernel) (by decide +kernel) ?_
      exfalso
      omega
theorem c_lplaceX {t : Nat} {τ : List Nat} {h : zh} {xw : Int32} (hg : hG τ h) (hw : ¬ (1 ≤ xw.toInt ∧ xw.toInt ≤ 5)) : ∃ (y : Int32) (h1 : zh), qE 60 288 [some (.inl (some 0)), some (zi xw), some (.inl (some 388)), none] h t (.inl (some (zi y)), h1, t + 1) ∧ y.toInt = 1 ∧ hG τ h1 ∧ ∀ k j, (k ≠ 0 ∨ j ≠ 3) → hsl h1 k j = hsl h k j := by
  have key : qX 31 288 0 [some (.inl (some 0)), some (zi xw), some (.inl (some 388)), none] [] h t (rI (fun y h1 => y.toInt = 1 ∧ hG τ h1 ∧ ∀ k j, (k ≠ 0 ∨ j ≠ 3) → hsl h1 k j = hsl h k j) (t + 1)) := by
    refine y_same (i := .aload_n 2) (len := 1) (r := (0, 0, 0, 0)) (pc' := 1) (ls' := [some (.inl (some 0)), some (zi xw), some (.inl (some 388)), none]) (st' := [.inl (some 388)]) (by decide +kernel) (fun k q => by cases q) rfl ?_
    refine y_ic (c := 0) (len := 1) (r := (0, 0, 0, 0)) (by decide +kernel) (by decide) (fun y4524 hy4524 => ?_)
    refine y_same (i := .aload_n 0) (len := 1) (r := (0, 0, 0, 0)) (pc' := 3) (ls' := [some (.inl (some 0)), some (zi xw), some (.inl (some 388)), none]) (st' := [.inl (some 0), zi y4524, .inl (some 388)]) (by decide +kernel) (fun k q => by cases q) rfl ?_
    refine y_same (i := .iload_n 1) (len := 1) (r := (0, 0, 0, 0)) (pc' := 4) (ls' := [some (.inl (some 0)), some (zi xw), some (.inl (some 388)), none]) (st' := [zi xw, .inl (some 0), zi y4524, .inl (some 388)]) (by decide +kernel) (fun k q => by cases q) rfl ?_
    refine y_cC (i := .invokevirtual 53) (len := 3) (r := (0, 149, 11, 1312)) (nL := 2) (k := 1) (n := 2) (hs := []) (args := [.inl (some 0), zi xw]) (rest := [zi y4524, .inl (some 388)]) (l0 := [some (.inl (some 0)), some (zi xw)]) (by decide +kernel) (Or.inr (Or.inl ⟨_, rfl⟩)) rfl rfl rfl rfl (Nat.le_of_ble_eq_true rfl) (zO hg (tv0 hg) aw0 rfl) rfl rfl (mL := 4) (mk := 1) (m9 := 3) (ms := [(0, 9, 12, 0)]) rfl rfl (qT_le (by decide) (c_placeX hg hw)) (fun h4525 hR4525 => ?_)
    obtain ⟨hg4525, F4525⟩ := hR4525
    refine y_same (i := .astore_n 3) (len := 1) (r := (0, 0, 0, 0)) (pc' := 13) (ls' := [some (.inl (some 0)), some (zi xw), some (.inl (some 388)), some (.inl (some 1000001))]) (st' := []) (by decide +kernel) (fun k q => by cases q) rfl ?_
    refine y_ic (c := 1) (len := 1) (r := (0, 0, 0, 0)) (by decide +kernel) (by decide) (fun y4526 hy4526 => ?_)
    refine y_rI (len := 1) (r := (0, 0, 0, 0)) (nL := 4) (k := 1) (n9 := 3) (hs := [(0, 9, 12, 0)]) (by decide +kernel) rfl rfl ?_
    exact ⟨by omega, hg4525, fun k j hC => (F4525 k j (by omega))⟩
  obtain ⟨x, k, y, h1, rfl, hR⟩ := key
  exact ⟨y, h1, qE_le (by decide) (qE_of k), hR⟩
theorem c_lplace {t : Nat} {v : Int} {τ : List Nat} {h : zh} {xw : Int32} {Q : zh → Prop} (hg : hG τ h) (hin : qI 21 149 [some (.inl (some 0)), some (zi xw)] h t (fun y h1 => hG τ h1 ∧ y.toInt = v ∧ Q h1)) : qI 60 288 [some (.inl (some 0)), some (zi xw), some (.inl (some 388)), none] h t (fun y h2 => hG τ h2 ∧ y.toInt = 0 ∧ (∃ h1, Q h1 ∧ ∀ k j, k ≠ 388 → hsl h2 k j = hsl h1 k j) ∧ ∃ z : Int32, ou_ h2 z ∧ z.toInt = v) := by
  refine qI_le (d := 32) (by decide) (qI_of ?_)
  refine y_same (i := .aload_n 2) (len := 1) (r := (0, 0, 0, 0)) (pc' := 1) (ls' := [some (.inl (some 0)), some (zi xw), some (.inl (some 388)), none]) (st' := [.inl (some 388)]) (by decide +kernel) (fun k q => by cases q) rfl ?_
  refine y_ic (c := 0) (len := 1) (r := (0, 0, 0, 0)) (by decide +kernel) (by decide) (fun y4527 hy4527 => ?_)
  refine y_same (i := .aload_n 0) (len := 1) (r := (0, 0, 0, 0)) (pc' := 3) (ls' := [some (.inl (some 0)), some (zi xw), some (.inl (some 388)), none]) (st' := [.inl (some 0), zi y4527, .inl (some 388)]) (by decide +kernel) (fun k q => by cases q) rfl ?_
  refine y_same (i := .iload_n 1) (len := 1) (r := (0, 0, 0, 0)) (pc' := 4) (ls' := [some (.inl (some 0)), some (zi xw), some (.inl (some 388)), none]) (st' := [zi xw, .inl (some 0), zi y4527, .inl (some 388)]) (by decide +kernel) (fun k q => by cases q) rfl ?_
  refine y_cI (i := .invokevirtual 53) (len := 3) (r := (0, 149, 11, 1312)) (nL := 2) (k := 1) (n := 2) (hs := []) (args := [.inl (some 0), zi xw]) (rest := [zi y4527, .inl (some 388)]) (l0 := [some (.inl (some 0)), some (zi xw)]) (by decide +kernel) (Or.inr (Or.inl ⟨_, rfl⟩)) rfl rfl rfl rfl (Nat.le_of_ble_eq_true rfl) (zO hg (tv0 hg) aw0 rfl) rfl (qI_le (by decide) hin) (fun y4528 h4528 hRy4528 => ?_)
  obtain ⟨hg4528, ey, hQ⟩ := hRy4528
  refine y_i2l2 (len := 1) (r := (0, 0, 0, 0)) (by decide +kernel) ?_
  refine y_las2 (i := 0) (len := 1) (r := (0, 0, 0, 0)) (by decide +kernel) hg4528 (t388 hg4528) aw388 rfl (by omega) (by omega) rfl (fun h4529 hg4529 hw4529 ho4529 => ?_)
  refine y_goto (off := 6) (pc' := 15) (len := 3) (r := (0, 0, 0, 0)) (by decide +kernel) (by decide +kernel) ?_
  refine y_ic (c := 0) (len := 1) (r := (0, 0, 0, 0)) (by decide +kernel) (by decide) (fun y4530 hy4530 => ?_)
  refine y_rI (len := 1) (r := (0, 0, 0, 0)) (nL := 4) (k := 1) (n9 := 3) (hs := [(0, 9, 12, 0)]) (by decide +kernel) rfl rfl ?_
  exact ⟨hg4529, by omega, ⟨_, hQ, fun k j hC => (ho4529 k j (by omega))⟩, _, hw4529, ey⟩
theorem m_place_ {v : Nat} {t : Nat} {τ : List Nat} {h : zh} {cur : bsT} {hs : List bsT} {xw : Int32} (hg : hG τ h) (rm : RM h cur hs) (ok : (∀ (j : Nat) (i : it4), cur.1.1[j]? = some i → okI i) ∧ (∀ (j : Nat) (i : it4), cur.1.2[j]? = some i → okI i) ∧ (∀ (j : Nat) (i : it4), cur.2.1[j]? = some i → okI i) ∧ ∀ (j : Nat) (i : it4), cur.2.2[j]? = some i → okI i) (len : cur.1.1.length ≤ 5 ∧ cur.1.2.length ≤ 6 ∧ cur.2.1.length ≤ 5 ∧ cur.2.2.length ≤ 6) (pz : ∀ i ∈ cur.1.1, pzi i) (cz : cz1 cur) (jm : JM h cur) (hw : xw.toInt = (v : Int)) (hv1 : 1 ≤ v) (hv5 : v ≤ 5) : qI 60 262 [some (.inl (some 52)), some (zi xw)] h t (fun y h1 => hG τ h1 ∧ y.toInt = rPl (ltr (letN cur)) (run_ cur) v ∧ rcM h1 (ltr (letN cur)) (run_ cur) ∧ (∀ k j, ((k < 52 ∨ (53 < k ∧ k < 381) ∨ 387 < k ∨ (k = 52 ∧ j ≠ 0 ∧ (j < 39 ∨ 47 < j)))) → hsl h1 k j = hsl h k j) ∧ ∃ z : Int32, hsl h1 52 0 = some (zi z) ∧ z.toInt = 0) := by
  refine qI_le (d := 40) (by decide) (qI_of ?_)
  refine y_same (i := .aload_n 0) (len := 1) (r := (0, 0, 0, 0)) (pc' := 1) (ls' := [some (.inl (some 52)), some (zi xw)]) (st' := [.inl (some 52)]) (by decide +kernel) (fun k q => by cases q) rfl ?_
  refine y_ic (c := 0) (len := 1) (r := (0, 0, 0, 0)) (by decide +kernel) (by decide) (fun y4531 hy4531 => ?_)
  refine y_put (j := 92) (lo := (-2147483648)) (hi := 2147483647) (len := 3) (r := (12, 0, 0, 1328)) (by decide +kernel) hg (t52 hg) at52 rfl rfl (by decide) rfl (qin_full _).1 (qin_full _).2 rfl (fun h4532 hg4532 hl4532 hs4532 ho4532 => ?_)
  have ho4532 : hO 52 0 h h4532 := ho4532
  have hs4532 : hsl h4532 52 0 = some (zi y4531) := hs4532
  refine y_same (i := .aload_n 0) (len := 1) (r := (0, 0, 0, 0)) (pc' := 6) (ls' := [some (.inl (some 52)), some (zi xw)]) (st' := [.inl (some 52)]) (by decide +kernel) (fun k q => by cases q) rfl ?_
  refine y_same (i := .iload_n 1) (len := 1) (r := (0, 0, 0, 0)) (pc' := 7) (ls' := [some (.inl (some 52)), some (zi xw)]) (st' := [zi xw, .inl (some 52)]) (by decide +kernel) (fun k q => by cases q) rfl ?_
  refine y_ic (c := 1) (len := 1) (r := (0, 0, 0, 0)) (by decide +kernel) (by decide) (fun y4533 hy4533 => ?_)
  refine y_ic (c := 5) (len := 1) (r := (0, 0, 0, 0)) (by decide +kernel) (by decide) (fun y4534 hy4534 => ?_)
  refine y_cI (i := .invokestatic 200) (len := 3) (r := (1, 162, 12, 1486)) (nL := 3) (k := 2) (n := 3) (hs := []) (args := [zi xw, zi y4533, zi y4534]) (rest := [.inl (some 52)]) (l0 := [some (zi xw), some (zi y4533), some (zi y4534)]) (by decide +kernel) (Or.inl ⟨_, rfl⟩) rfl rfl rfl rfl (Nat.le_of_ble_eq_true rfl) rfl rfl (qI_le (by decide) (m_in (d := 0) (by omega) (by omega))) (fun y4535 qy4535 hRy4535 => ?_)
  obtain ⟨rfl, hy4535⟩ := hRy4535
  refine y_iT (c := .ne) (off := 7) (pc' := 19) (len := 3) (r := (0, 0, 0, 0)) (by decide +kernel) (acmpT (c := .ne) (by show ¬ (_ = _); omega)) (by decide +kernel) ?_
  refine y_ic (c := 0) (len := 1) (r := (0, 0, 0, 0)) (by decide +kernel) (by decide) (fun y4536 hy4536 => ?_)
  refine y_ic (c := 1) (len := 1) (r := (0, 0, 0, 0)) (by decide +kernel) (by decide) (fun y4537 hy4537 => ?_)
  refine y_ic (c := 0) (len := 1) (r := (0, 0, 0, 0)) (by decide +kernel) (by decide) (fun y4538 hy4538 => ?_)
  refine y_cI (i := .invokevirtual 204) (len := 3) (r := (0, 161, 12, 1489)) (nL := 4) (k := 2) (n := 4) (hs := []) (args := [.inl (some 52), zi y4536, zi y4537, zi y4538]) (rest := []) (l0 := [some (.inl (some 52)), some (zi y4536), some (zi y4537), some (zi y4538)]) (by decide +kernel) (Or.inr (Or.inl ⟨_, rfl⟩)) rfl rfl rfl rfl (Nat.le_of_ble_eq_true rfl) (z52 hg4532) rfl (qI_le (by decide) (m_bad (d := 0) hg4532 (by omega) hs4532 (by omega))) (fun y4539 qy4539 hRy4539 => ?_)
  obtain ⟨rfl, hy4539⟩ := hRy4539
  refine y_iT (c := .eq) (off := 5) (pc' := 30) (len := 3) (r := (0, 0, 0, 0)) (by decide +kernel) (acmpT (c := .eq) (by show _ = _; omega)) (by decide +kernel) ?_
  refine y_same (i := .aload_n 0) (len := 1) (r := (0, 0, 0, 0)) (pc' := 31) (ls' := [some (.inl (some 52)), some (zi xw)]) (st' := [.inl (some 52)]) (by decide +kernel) (fun k q => by cases q) rfl ?_
  refine y_cV (i := .invokevirtual 471) (len := 3) (r := (0, 259, 12, 1798)) (nL := 1) (k := 0) (n := 1) (hs := []) (args := [.inl (some 52)]) (rest := []) (l0 := [some (.inl (some 52))]) (by decide +kernel) (Or.inr (Or.inl ⟨_, rfl⟩)) rfl rfl rfl rfl (Nat.le_of_ble_eq_true rfl) (z52 hg4532) rfl (qV_le (by decide) (m_lay (d := 0) hg4532 (RM_up rm (fun k j h1 => (ho4532 k j (by omega)))) len ok pz cz (bl_m hg4532) (fun q9 => rcM_up (jm (ci_to q9 ((ho4532 52 47 (by omega))).symm)) (fun k j hC => (ho4532 k j (by omega)))))) (fun h4540 hR4540 => ?_)
  obtain ⟨hg4540, rq4540, jf4540, F4540⟩ := hR4540
  obtain ⟨⟨x41, h41, e41⟩, ⟨x42, h42, e42⟩, ⟨x43, h43, e43⟩, cp⟩ := id rq4540
  refine y_same (i := .aload_n 0) (len := 1) (r := (0, 0, 0, 0)) (pc' := 35) (ls' := [some (.inl (some 52)), some (zi xw)]) (st' := [.inl (some 52)]) (by decide +kernel) (fun k q => by cases q) rfl ?_
  refine y_get (j := 450) (len := 3) (r := (12, 43, 0, 1371)) (by decide +kernel) hg4540 (t52 hg4540) at52 rfl rfl h43 ?_
  refine y_ic (c := (-1)) (len := 1) (r := (0, 0, 0, 0)) (by decide +kernel) (by decide) (fun y4541 hy4541 => ?_)
  rcases Decidable.em (x43.toInt ≠ y4541.toInt) with q4542 | q4542
  ·
    refine y_cT (c := .ne) (off := 7) (pc' := 46) (len := 3) (r := (0, 0, 0, 0)) (by decide +kernel) (acmpT (c := .ne) (by show ¬ (_ = _); omega)) (by decide +kernel) ?_
    obtain ⟨xq, hq, eq9⟩ := (cp (by omega)).2.2 v (by omega) (by omega)
    refine y_same (i := .aload_n 0) (len := 1) (r := (0, 0, 0, 0)) (pc' := 47) (ls' := [some (.inl (some 52)), some (zi xw)]) (st' := [.inl (some 52)]) (by decide +kernel) (fun k q => by cases q) rfl ?_
    refine y_get (j := 89) (len := 3) (r := (12, 46, 2, 1374)) (by decide +kernel) hg4540 (t52 hg4540) at52 rfl rfl (g_r52 (f := 46) (T2 := 387) hg4540 rfl (by decide)).1 ?_
    refine y_same (i := .iload_n 1) (len := 1) (r := (0, 0, 0, 0)) (pc' := 51) (ls' := [some (.inl (some 52)), some (zi xw)]) (st' := [zi xw, .inl (some 387)]) (by decide +kernel) (fun k q => by cases q) rfl ?_
    refine y_ial (i := v) (len := 1) (r := (0, 0, 0, 0)) (by decide +kernel) hg4540 (tu387 hg4540) at387 (by omega) hq ?_
    refine y_rI (len := 1) (r := (0, 0, 0, 0)) (nL := 2) (k := 1) (n9 := 2) (hs := []) (by decide +kernel) rfl rfl ?_
    have hv4543 := (F4540 52 0 (by omega)).trans hs4532
    exact ⟨hg4540, by omega, rcM_up rq4540 (fun k j hC => rfl), fun k j hC => ((F4540 k j (by omega)).trans (ho4532 k j (by omega))), _, hv4543, by omega⟩
  ·
    refine y_cF (c := .ne) (off := 7) (len := 3) (r := (0, 0, 0, 0)) (by decide +kernel) (acmpF (c := .ne) (by show _ = _; omega)) ?_
    refine y_ic (c := (-1)) (len := 1) (r := (0, 0, 0, 0)) (by decide +kernel) (by decide) (fun y4544 hy4544 => ?_)
    refine y_goto (off := 9) (pc' := 52) (len := 3) (r := (0, 0, 0, 0)) (by decide +kernel) (by decide +kernel) ?_
    refine y_rI (len := 1) (r := (0, 0, 0, 0)) (nL := 2) (k := 1) (n9 := 2) (hs := []) (by decide +kernel) rfl rfl ?_
    have hv4545 := (F4540 52 0 (by omega)).trans hs4532
    exact ⟨hg4540, by have := rN_pl (s := run_ cur) (by omega); rw [this.2.2]; omega, rcM_up rq4540 (fun k j hC => rfl), fun k j hC => ((F4540 k j (by omega)).trans (ho4532 k j (by omega))), _, hv4545, by omega⟩
theorem m_placeX {t : Nat} {τ : List Nat} {h : zh} {xw : Int32} (hg : hG τ h) (hw : ¬ (1 ≤ xw.toInt ∧ xw.toInt ≤ 5)) : qI 60 262 [some (.inl (some 52)), some (zi xw)] h t (fun y h1 => hG τ h1 ∧ (∀ k j, (k ≠ 53 ∧ (k ≠ 52 ∨ j ≠ 0)) → hsl h1 k j = hsl h k j) ∧ ∃ z : Int32, hsl h1 52 0 = some (zi z) ∧ z.toInt = 1) := by
  refine qI_le (d := 40) (by decide) (qI_of ?_)
  refine y_same (i := .aload_n 0) (len := 1) (r := (0, 0, 0, 0)) (pc' := 1) (ls' := [some (.inl (some 52)), some (zi xw)]) (st' := [.inl (some 52)]) (by decide +kernel) (fun k q => by cases q) rfl ?_
  refine y_ic (c := 0) (len := 1) (r := (0, 0, 0, 0)) (by decide +kernel) (by decide) (fun y4546 hy4546 => ?_)
  refine y_put (j := 92) (lo := (-2147483648)) (hi := 2147483647) (len := 3) (r := (12, 0, 0, 1328)) (by decide +kernel) hg (t52 hg) at52 rfl rfl (by decide) rfl (qin_full _).1 (qin_full _).2 rfl (fun h4547 hg4547 hl4547 hs4547 ho4547 => ?_)
  have ho4547 : hO 52 0 h h4547 := ho4547
  have hs4547 : hsl h4547 52 0 = some (zi y4546) := hs4547
  refine y_same (i := .aload_n 0) (len := 1) (r := (0, 0, 0, 0)) (pc' := 6) (ls' := [some (.inl (some 52)), some (zi xw)]) (st' := [.inl (some 52)]) (by decide +kernel) (fun k q => by cases q) rfl ?_
  refine y_same (i := .iload_n 1) (len := 1) (r := (0, 0, 0, 0)) (pc' := 7) (ls' := [some (.inl (some 52)), some (zi xw)]) (st' := [zi xw, .inl (some 52)]) (by decide +kernel) (fun k q => by cases q) rfl ?_
  refine y_ic (c := 1) (len := 1) (r := (0, 0, 0, 0)) (by decide +kernel) (by decide) (fun y4548 hy4548 => ?_)
  refine y_ic (c := 5) (len := 1) (r := (0, 0, 0, 0)) (by decide +kernel) (by decide) (fun y4549 hy4549 => ?_)
  refine y_cI (i := .invokestatic 200) (len := 3) (r := (1, 162, 12, 1486)) (nL := 3) (k := 2) (n := 3) (hs := []) (args := [zi xw, zi y4548, zi y4549]) (rest := [.inl (some 52)]) (l0 := [some (zi xw), some (zi y4548), some (zi y4549)]) (by decide +kernel) (Or.inl ⟨_, rfl⟩) rfl rfl rfl rfl (Nat.le_of_ble_eq_true rfl) rfl rfl (qI_le (by decide) (m_in0 (d := 0) (by omega))) (fun y4550 qy4550 hRy4550 => ?_)
  obtain ⟨rfl, hy4550⟩ := hRy4550
  refine y_iF (c := .ne) (off := 7) (len := 3) (r := (0, 0, 0, 0)) (by decide +kernel) (acmpF (c := .ne) (by show _ = _; omega)) ?_
  refine y_ic (c := 1) (len := 1) (r := (0, 0, 0, 0)) (by decide +kernel) (by decide) (fun y4551 hy4551 => ?_)
  refine y_goto (off := 4) (pc' := 20) (len := 3) (r := (0, 0, 0, 0)) (by decide +kernel) (by decide +kernel) ?_
  refine y_ic (c := 1) (len := 1) (r := (0, 0, 0, 0)) (by decide +kernel) (by decide) (fun y4552 hy4552 => ?_)
  refine y_ic (c := 0) (len := 1) (r := (0, 0, 0, 0)) (by decide +kernel) (by decide) (fun y4553 hy4553 => ?_)
  refine y_cI (i := .invokevirtual 204) (len := 3) (r := (0, 161, 12, 1489)) (nL := 4) (k := 2) (n := 4) (hs := []) (args := [.inl (some 52), zi y4551, zi y4552, zi y4553]) (rest := []) (l0 := [some (.inl (some 52)), some (zi y4551), some (zi y4552), some (zi y4553)]) (by decide +kernel) (Or.inr (Or.inl ⟨_, rfl⟩)) rfl rfl rfl rfl (Nat.le_of_ble_eq_true rfl) (z52 hg4547) rfl (qI_le (by decide) (m_bad1 (d := 0) (e := 0) hg4547 (by omega) (by omega) (by omega) (by omega) hs4547 (by omega))) (fun y4554 h4554 hRy4554 => ?_)
  obtain ⟨hg4554, hy4554, ⟨z4554, hz4554, ez4554⟩, F4554⟩ := hRy4554
  refine y_iF (c := .eq) (off := 5) (len := 3) (r := (0, 0, 0, 0)) (by decide +kernel) (acmpF (c := .eq) (by show ¬ (_ = _); omega)) ?_
  refine y_ic (c := 0) (len := 1) (r := (0, 0, 0, 0)) (by decide +kernel) (by decide) (fun y4555 hy4555 => ?_)
  refine y_rI (len := 1) (r := (0, 0, 0, 0)) (nL := 2) (k := 1) (n9 := 2) (hs := []) (by decide +kernel) rfl rfl ?_
  exact ⟨hg4554, fun k j hC => ((F4554 k j (by omega)).trans (ho4547 k j (by omega))), _, hz4554, by omega⟩
