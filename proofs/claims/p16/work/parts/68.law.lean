/-! THE LAW'S OWN FRAME, told exactly: the script lies beside -/
def qL (scr : List zv) (d mi pc : Nat) (ls : List (Option zv)) (st : List zv) (h : zh) (t : Nat) (P : zo × zh × Nat → Prop) : Prop := ∃ x, qF (some scr) d mi pc ls st h t x ∧ P x
section YL
variable {scr : List zv} {d mi pc : Nat} {ls : List (Option zv)} {st : List zv} {h : zh} {t : Nat} {P : zo × zh × Nat → Prop} {len : Nat} {r : zr} {τ : List Nat} {A T i : Nat} {st' : List zv} {n v a b : Int32}
theorem l_same {i : Instr} {pc' : Nat} {ls' : List (Option zv)} (hf : zfetch mi pc = some (i, len, r)) (h9 : ∀ k, i = .new k → Nat.beq r.1 99 = false) (hs : stH (some scr) i r pc ls st h = some (pc', ls', st', none)) (k : qL scr d mi pc' ls' st' h t P) : qL scr d mi pc ls st h t P := by
  obtain ⟨x, k, hP⟩ := k
  exact ⟨x, qF_step hf h9 hs k, hP⟩
theorem l_step {i : Instr} {pc' : Nat} {ls' : List (Option zv)} {z : zp} (hf : zfetch mi pc = some (i, len, r)) (h9 : ∀ k, i = .new k → Nat.beq r.1 99 = false) (hs : stH (some scr) i r pc ls st h = some (pc', ls', st', z)) (k : qL scr d mi pc' ls' st' (hap h z) t P) : qL scr d mi pc ls st h t P := by
  obtain ⟨x, k, hP⟩ := k
  exact ⟨x, qF_step hf h9 hs k, hP⟩
theorem l_ic {c : Int} (hf : zfetch mi pc = some (.iconst c, len, r)) (hc : (Int32.ofInt c).toInt = c) (k : ∀ y : Int32, y.toInt = c → qL scr d mi (pc + 1) ls (zi y :: st) h t P) : qL scr d mi pc ls st h t P := by
  obtain ⟨x, k, hP⟩ := k _ hc
  exact ⟨x, x_iconst hf k, hP⟩
theorem l_bi {c : Int} (hf : zfetch mi pc = some (.bipush c, len, r)) (hc : (Int8.ofInt c).toInt32.toInt = c) (k : ∀ y : Int32, y.toInt = c → qL scr d mi (pc + 2) ls (zi y :: st) h t P) : qL scr d mi pc ls st h t P := by
  obtain ⟨x, k, hP⟩ := k _ hc
  exact ⟨x, x_bipush hf k, hP⟩
theorem l_si {c : Int} (hf : zfetch mi pc = some (.sipush c, len, r)) (hc : (Int16.ofInt c).toInt32.toInt = c) (k : ∀ y : Int32, y.toInt = c → qL scr d mi (pc + 3) ls (zi y :: st) h t P) : qL scr d mi pc ls st h t P := by
  refine l_same hf (fun k q => by cases q) ?_ (k _ hc)
  show (match frcI (Int16.ofInt c).toInt32 (fun v => some (pc + 3, ls, zi v :: st)) with
    | some (a, b, c) => some (a, b, c, (none : zp))
    | none => none) = _
  rw [frcI_eq]
theorem l_bop {i : Instr} {f : Int32 → Int32 → Int32} (hf : zfetch mi pc = some (i, len, r)) (hn : anoH i = true) (hi : stA i r pc ls (zi b :: zi a :: st') = (match bop f (zi a) (zi b) with
    | some v => some (pc + 1, ls, v :: st')
    | none => none)) (k : qL scr d mi (pc + 1) ls (zi (f a b) :: st') h t P) : qL scr d mi pc ls (zi b :: zi a :: st') h t P := by
  have h9 : ∀ k, i = .new k → Nat.beq r.1 99 = false := fun k q => by
    subst q
    cases hn
  refine l_same hf h9 (stH_A' hn ?_) k
  rw [hi]
  show (match frcI (f a b) (fun z => some (zi z)) with
    | some v => some (pc + 1, ls, v :: st')
    | none => none) = _
  rw [frcI_eq]
theorem l_bp {i : Instr} {f : Int32 → Int32 → Int32} (hf : zfetch mi pc = some (i, len, r)) (hn : anoH i = true) (hi : stA i r pc ls (zi b :: zi a :: st') = (match bop f (zi a) (zi b) with
    | some v => some (pc + 1, ls, v :: st')
    | none => none)) (k : ∀ y : Int32, y = f a b → qL scr d mi (pc + 1) ls (zi y :: st') h t P) : qL scr d mi pc ls (zi b :: zi a :: st') h t P := l_bop hf hn hi (k _ rfl)
theorem l_add (hf : zfetch mi pc = some (.iadd, len, r)) (h1 : -2147483648 ≤ a.toInt + b.toInt) (h2 : a.toInt + b.toInt ≤ 2147483647) (k : ∀ y : Int32, y.toInt = a.toInt + b.toInt → qL scr d mi (pc + 1) ls (zi y :: st') h t P) : qL scr d mi pc ls (zi b :: zi a :: st') h t P :=
  l_bop (f := fun x y => x + y) hf rfl rfl (k _ (by rw [Int32.toInt_add]; exact z32 h1 h2))
theorem l_sub (hf : zfetch mi pc = some (.isub, len, r)) (h1 : -2147483648 ≤ a.toInt - b.toInt) (h2 : a.toInt - b.toInt ≤ 2147483647) (k : ∀ y : Int32, y.toInt = a.toInt - b.toInt → qL scr d mi (pc + 1) ls (zi y :: st') h t P) : qL scr d mi pc ls (zi b :: zi a :: st') h t P :=
  l_bop (f := fun x y => x - y) hf rfl rfl (k _ (by rw [Int32.toInt_sub]; exact z32 h1 h2))
theorem l_inc {j : Nat} {c : Int} {ls' : zv → List (Option zv)} (hf : zfetch mi pc = some (.iinc j c, len, r)) (hl : zld ls j zisI = some (zi a)) (hs : ∀ v, zsto ls j (zi v) = some (ls' (zi v))) (hc : (Int32.ofInt c).toInt = c) (h1 : -2147483648 ≤ a.toInt + c) (h2 : a.toInt + c ≤ 2147483647) (k : ∀ y : Int32, y.toInt = a.toInt + c → qL scr d mi (pc + 3) (ls' (zi y)) st h t P) : qL scr d mi pc ls st h t P := by
  refine l_same hf (fun k q => by cases q) (stH_A' rfl ?_) (k (a + Int32.ofInt c) (by rw [Int32.toInt_add, hc]; exact z32 h1 h2))
  show (match zld ls j zisI with
    | some a => match bop (fun x y => x + y) a (zi (Int32.ofInt c)) with
      | some v => match zsto ls j v with
        | some ls' => some (pc + 3, ls', st)
        | none => none
      | none => none
    | none => none) = _
  rw [hl]
  simp only
  have hb : bop (fun x y => x + y) (zi a) (zi (Int32.ofInt c)) = some (zi (a + Int32.ofInt c)) := by
    show frcI (a + Int32.ofInt c) (fun z => some (zi z)) = _
    rw [frcI_eq]
  rw [hb]
  simp only [hs]
theorem l_cT {c : ClassFile.Cond} {off : Int} {pc' : Nat} (hf : zfetch mi pc = some (.if_icmp c off, len, r)) (hc : acmp c a.toInt b.toInt = true) (ht : ztg pc off = some pc') (k : qL scr d mi pc' ls st' h t P) : qL scr d mi pc ls (zi b :: zi a :: st') h t P := by
  refine l_same hf (fun k q => by cases q) (stH_A' rfl ?_) k
  show zbr (zcond c (zi a) (zi b)) pc off ls st' = _
  rw [zcond_ex, hc]
  show (match ztg pc off with
    | some t => some (t, ls, st')
    | none => none) = _
  rw [ht]
theorem l_cF {c : ClassFile.Cond} {off : Int} (hf : zfetch mi pc = some (.if_icmp c off, len, r)) (hc : acmp c a.toInt b.toInt = false) (k : qL scr d mi (pc + 3) ls st' h t P) : qL scr d mi pc ls (zi b :: zi a :: st') h t P := by
  refine l_same hf (fun k q => by cases q) (stH_A' rfl ?_) k
  show zbr (zcond c (zi a) (zi b)) pc off ls st' = _
  rw [zcond_ex, hc]
  rfl
theorem l_goto {off : Int} {pc' : Nat} (hf : zfetch mi pc = some (.goto off, len, r)) (ht : ztg pc off = some pc') (k : qL scr d mi pc' ls st h t P) : qL scr d mi pc ls st h t P := by
  refine l_same hf (fun k q => by cases q) (stH_A' rfl ?_) k
  show (match ztg pc off with
    | some t => some (t, ls, st)
    | none => none) = _
  rw [ht]
theorem l_sw {dflt lo hi off : Int} {offs : Array Int} {pc' : Nat} (hf : zfetch mi pc = some (.tableswitch dflt lo hi offs, len, r)) (hs : zsw (a, none) dflt lo hi offs = some off) (ht : ztg pc off = some pc') (k : qL scr d mi pc' ls st' h t P) : qL scr d mi pc ls (zi a :: st') h t P := by
  refine l_same hf (fun k q => by cases q) (stH_A' rfl ?_) k
  show (match zsw (a, none) dflt lo hi offs with
    | some off => zbr (some true) pc off ls st'
    | none => none) = _
  rw [hs]
  show (match ztg pc off with
    | some t => some (t, ls, st')
    | none => none) = _
  rw [ht]
/-- a call that answers a number -/
theorem l_cI {i : Instr} {nL k n : Nat} {hs : List (Nat × Nat × Nat × Nat)} {args rest : List zv} {l0 : List (Option zv)} {R : Int32 → zh → Nat → Prop} (hf : zfetch mi pc = some (i, len, r)) (hi : (∃ k, i = .invokestatic k) ∨ (∃ k, i = .invokevirtual k) ∨ (∃ k, i = .invokespecial k)) (h5 : Nat.beq r.1 5 = false) (h7 : Nat.beq r.1 7 = false) (q1 : zmeth r.2.1 = some (nL, k, n, hs)) (q2 : zpop n [] st = some (args, rest)) (q3 : zcat rest ≤ 8) (q4 : zargs r args h = true) (q5 : zent args nL = some l0) (hE : ∃ (y : Int32) (h1 : zh) (t1 : Nat), qE d r.2.1 l0 h t (.inl (some (zi y)), h1, t1) ∧ R y h1 t1) (kk : ∀ (y : Int32) (h1 : zh) (t1 : Nat), R y h1 t1 → qL scr d mi (pc + 3) ls (zi y :: rest) h1 t1 P) : qL scr d mi pc ls st h t P := by
  obtain ⟨y, h1, t1, hE, hR⟩ := hE
  obtain ⟨x, k9, hP⟩ := kk y h1 t1 hR
  exact ⟨x, qF_call hf hi h5 h7 q1 q2 q3 q4 q5 hE (qB_val k9), hP⟩
theorem l_cV {i : Instr} {nL k n : Nat} {hs : List (Nat × Nat × Nat × Nat)} {args rest : List zv} {l0 : List (Option zv)} {h1 : zh} (hf : zfetch mi pc = some (i, len, r)) (hi : (∃ k, i = .invokestatic k) ∨ (∃ k, i = .invokevirtual k) ∨ (∃ k, i = .invokespecial k)) (h5 : Nat.beq r.1 5 = false) (h7 : Nat.beq r.1 7 = false) (q1 : zmeth r.2.1 = some (nL, k, n, hs)) (q2 : zpop n [] st = some (args, rest)) (q3 : zcat rest ≤ 8) (q4 : zargs r args h = true) (q5 : zent args nL = some l0) (hE : qE d r.2.1 l0 h t (.inl none, h1, t)) (kk : qL scr d mi (pc + 3) ls rest h1 t P) : qL scr d mi pc ls st h t P := by
  obtain ⟨x, k9, hP⟩ := kk
  exact ⟨x, qF_call hf hi h5 h7 q1 q2 q3 q4 q5 hE (qB_void k9), hP⟩
theorem l_cL {i : Instr} {nL k n : Nat} {hs : List (Nat × Nat × Nat × Nat)} {args rest : List zv} {l0 : List (Option zv)} {R : zh → Nat → Prop} (hf : zfetch mi pc = some (i, len, r)) (hi : (∃ k, i = .invokestatic k) ∨ (∃ k, i = .invokevirtual k) ∨ (∃ k, i = .invokespecial k)) (h5 : Nat.beq r.1 5 = false) (h7 : Nat.beq r.1 7 = false) (q1 : zmeth r.2.1 = some (nL, k, n, hs)) (q2 : zpop n [] st = some (args, rest)) (q3 : zcat rest ≤ 8) (q4 : zargs r args h = true) (q5 : zent args nL = some l0) (hE : ∃ (w : Int64) (h1 : zh) (t1 : Nat), qE d r.2.1 l0 h t (.inl (some (.inr (.inr (.inl w)))), h1, t1) ∧ R h1 t1) (kk : ∀ (w : Int64) (h1 : zh) (t1 : Nat), R h1 t1 → qL scr d mi (pc + 3) ls (.inr (.inr (.inl w)) :: rest) h1 t1 P) : qL scr d mi pc ls st h t P := by
  obtain ⟨w, h1, t1, hE, hR⟩ := hE
  obtain ⟨x, k9, hP⟩ := kk w h1 t1 hR
  exact ⟨x, qF_call hf hi h5 h7 q1 q2 q3 q4 q5 hE (qB_val k9), hP⟩
theorem l_rI {nL k n9 : Nat} {hs : List (Nat × Nat × Nat × Nat)} (hf : zfetch mi pc = some (.ireturn, len, r)) (hm : zmeth mi = some (nL, k, n9, hs)) (hr : zret k (zi v) = true) (hP : P (.inl (some (zi v)), h, t)) : qL scr d mi pc ls [zi v] h t P := ⟨_, qF_fin (i := .ireturn) (f := zisI) hf (Or.inl ⟨rfl, rfl⟩) hm hr rfl, hP⟩
/-- the script's own numbers, and how many -/
theorem l_scr {j : Nat} (hf : zfetch mi pc = some (.iaload, len, r)) (hn : n.toInt = (j : Int)) (hv : scr[j]? = some (zi v)) (k : qL scr d mi (pc + 1) ls (zi v :: st') h t P) : qL scr d mi pc ls (zi n :: .inl (some 1000000) :: st') h t P := by
  refine l_same hf (fun k q => by cases q) ?_ k
  show zildH (some scr) pc ls (zi n :: .inl (some 1000000) :: st') h = _
  unfold zildH
  have hz : zisS (.inl (some 1000000)) = true := rfl
  simp only [hz, cond_true]
  rw [zix_ex hn (List.getElem?_eq_some_iff.mp hv).1]
  simp only [nth_eq, hv]
theorem l_len (hf : zfetch mi pc = some (.arraylength, len, r)) (hl : scr.length < 100000) (k : ∀ y : Int32, y.toInt = (scr.length : Int) → qL scr d mi (pc + 1) ls (zi y :: st') h t P) : qL scr d mi pc ls (.inl (some 1000000) :: st') h t P := by
  have e : (Int32.ofNat scr.length).toInt = (scr.length : Int) := Int32.toInt_ofNat_of_lt (by omega)
  refine l_same hf (fun k q => by cases q) ?_ (k _ e)
  show zlenH (some scr) pc ls (.inl (some 1000000) :: st') h = _
  unfold zlenH
  have hz : Nat.beq 1000000 1000000 = true := rfl
  simp only [hz, cond_true, frcI_eq]
end YL
/-! contracts, used by the law -/
def outL (b : Nat) (e : aE) : Bool := match e with
  | (.inl (some (.inl _)), dt, _, _) => Nat.ble dt b
  | _ => false
/-- tape slots stay -/
def tpS (h h1 : zh) : Prop := hsl h1 0 1 = hsl h 0 1 ∧ hsl h1 52 2 = hsl h 52 2
theorem atau_0 : atau[0]? = some 0 ∧ atau[388]? = some 388 := by decide +kernel
theorem t0 {τ : List Nat} {h : zh} (hg : hG τ h) : τ[0]? = some 0 := hg.1.2.2.1 _ _ atau_0.1
theorem t388 {τ : List Nat} {h : zh} (hg : hG τ h) : τ[388]? = some 388 := hg.1.2.2.1 _ _ atau_0.2
theorem tp_of {τ : List Nat} {h h1 : zh} {wl : aW} (hg : hG τ h) (hF : aFr τ h wl h1) (hw : (awc wl 0 1 || awc wl 52 2) = false) : tpS h h1 := by
  simp only [Bool.or_eq_false_iff] at hw
  exact ⟨hF 0 0 1 (t0 hg) hw.1, hF 52 52 2 (t52 hg) hw.2⟩
theorem use_L {τ : List Nat} {h : zh} {mj dd nL rk n t d : Nat} {hs : List (Nat × Nat × Nat × Nat)} {qs : List aq} {wl : aW} {outs : List aE} {vs : List zv} {l0 : List (Option zv)} (b : Nat) (hC : cOK aJ mj (qs, [], dd, wl, outs)) (hm : zmeth mj = some (nL, rk, n, hs)) (hg : hG τ h) (hq : aqsM τ qs vs) (hz : zent vs nL = some l0) (ho : outs.all (outL b) = true) (hd : dd ≤ d) (hw : (awc wl 0 1 || awc wl 52 2) = false) : ∃ (y : Int32) (h1 : zh) (t1 : Nat), qE d mj l0 h t (.inl (some (zi y)), h1, t1) ∧ t1 ≤ t + b ∧ ∃ τ1, hG τ1 h1 ∧ tpS h h1 := by
  obtain ⟨o, h', t', τ', e, he, hE, hu, hh', hJ', hF, ht, hc⟩ := hC τ h t nL rk n hs vs l0 [] hm hg.1 hg.2 hq trivial hz
  have h1 := List.all_eq_true.mp ho e he
  unfold outL at h1
  split at h1
  · rcases o with (_ | v) | z
    · exact hc.1.elim
    · obtain ⟨x, rfl, l1, l2⟩ := hc.1
      have h1 := Nat.le_of_ble_eq_true h1
      simp only at ht
      exact ⟨x, h', t', qE_le hd hE, by omega, τ', ⟨hh', hJ'⟩, tp_of hg hF hw⟩
    · exact hc.1.elim
  · cases h1
def outJ (e : aE) : Bool := match e with
  | (.inl (some (.inr (.inr 2))), 0, _, _) => true
  | _ => false
theorem use_J {τ : List Nat} {h : zh} {mj dd nL rk n t d : Nat} {hs : List (Nat × Nat × Nat × Nat)} {qs : List aq} {wl : aW} {outs : List aE} {vs : List zv} {l0 : List (Option zv)} (hC : cOK aJ mj (qs, [], dd, wl, outs)) (hm : zmeth mj = some (nL, rk, n, hs)) (hg : hG τ h) (hq : aqsM τ qs vs) (hz : zent vs nL = some l0) (ho : outs.all outJ = true) (hd : dd ≤ d) (hw : (awc wl 0 1 || awc wl 52 2) = false) : ∃ (w : Int64) (h1 : zh) (t1 : Nat), qE d mj l0 h t (.inl (some (.inr (.inr (.inl w)))), h1, t1) ∧ t1 = t ∧ ∃ τ1, hG τ1 h1 ∧ tpS h h1 := by
  obtain ⟨o, h', t', τ', e, he, hE, hu, hh', hJ', hF, ht, hc⟩ := hC τ h t nL rk n hs vs l0 [] hm hg.1 hg.2 hq trivial hz
  have h1 := List.all_eq_true.mp ho e he
  unfold outJ at h1
  split at h1
  · rcases o with (_ | v) | z
    · exact hc.1.elim
    · obtain ⟨w, rfl⟩ : ∃ w : Int64, v = .inr (.inr (.inl w)) := by
        rcases hc.1 with ⟨h9, -⟩ | ⟨h9, -⟩ | ⟨-, h9⟩ | ⟨h9, -⟩ | ⟨h9, -⟩
        · cases h9
        · cases h9
        · exact h9
        · omega
        · omega
      exact ⟨w, h', t', qE_le hd hE, ht, τ', ⟨hh', hJ'⟩, tp_of hg hF hw⟩
    · exact hc.1.elim
  · cases h1
/-- an end that tells the tape's bytes -/
def outT (r sl : Nat) (b : Nat) (v1 v2 dd : Int) (e : aE) : Bool := match e with
  | (.inl (some (.inl p)), dt, _, [(r', sl', 1, false, dd', _)]) => Nat.ble dt b && (ile v1 p.1 && (ile p.2 v2 && (Nat.beq r r' && (Nat.beq sl sl' && ieq dd dd'))))
  | _ => false
theorem use_T {τ : List Nat} {h : zh} {mj dp nL rk n t d r sl : Nat} {hs : List (Nat × Nat × Nat × Nat)} {qs : List aq} {wl : aW} {outs : List aE} {vs : List zv} {l0 : List (Option zv)} {T : Int} {xT : Int32} (b : Nat) (v1 v2 dd : Int) (hC : cOK aJ mj (qs, [(r, sl, T, T)], dp, wl, outs)) (hm : zmeth mj = some (nL, rk, n, hs)) (hg : hG τ h) (hq : aqsM τ qs vs) (hz : zent vs nL = some l0) (hr : r < 1000) (hτ : τ[r]? = some r) (hT : hsl h r sl = some (zi xT)) (hxT : xT.toInt = T) (ho : outs.all (outT r sl b v1 v2 dd) = true) (hd : dp ≤ d) : ∃ (y : Int32) (h1 : zh) (t1 : Nat), qE d mj l0 h t (.inl (some (zi y)), h1, t1) ∧ t1 ≤ t + b ∧ v1 ≤ y.toInt ∧ y.toInt ≤ v2 ∧ ∃ τ1, hG τ1 h1 ∧ aFr τ h wl h1 ∧ ∃ x : Int32, hsl h1 r sl = some (zi x) ∧ x.toInt = T + dd := by
  have hcad : ∀ vs : List zv, cad vs r = some r := fun vs => by
    unfold cad
    rw [bltT.mpr hr]
    rfl
  obtain ⟨o, h', t', τ', e, he, hE, hu, hh', hJ', hF, ht, hc⟩ := hC τ h t nL rk n hs vs l0 [T] hm hg.1 hg.2 hq ⟨⟨⟨r, xT, hcad vs, hT, hxT⟩, Int.le_refl _, Int.le_refl _, fun _ => hτ⟩, trivial⟩ hz
  have h1 := List.all_eq_true.mp ho e he
  unfold outT at h1
  split at h1
  · rename_i p dt rf r' sl' dd' lh
    simp only [Bool.and_eq_true] at h1
    obtain ⟨a1, a2, a3, a4, a5, a6⟩ := h1
    have a1 := Nat.le_of_ble_eq_true a1
    have a2 := ile_iff.mp a2
    have a3 := ile_iff.mp a3
    have a4 := Nat.eq_of_beq_eq_true a4
    have a5 := Nat.eq_of_beq_eq_true a5
    have a6 := ieq_iff.mp a6
    subst a4 a5 a6
    rcases o with (_ | v) | z
    · exact hc.1.elim
    · obtain ⟨x, rfl, l1, l2⟩ := hc.1
      obtain ⟨-, q, x2, c1, c2, r9, c3, c4, -⟩ := hc.2.2 _ List.mem_cons_self
      have c1 : cad vs r = some q := c1
      rw [hcad] at c1
      cases c1
      have c3 : some T = some r9 := c3
      cases c3
      have c4 := c4 rfl
      simp only at ht l1 l2 c4
      exact ⟨x, h', t', qE_le hd hE, by omega, by omega, by omega, τ', ⟨hh', hJ'⟩, hF, x2, c2, c4⟩
    · exact hc.1.elim
  · cases h1
