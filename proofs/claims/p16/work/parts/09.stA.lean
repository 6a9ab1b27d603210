/-- how long an instruction is -/
def zlen (i : Instr) (len : Nat) : Bool := match i with
  | .bipush _ => Nat.beq len 2
  | .sipush _ => Nat.beq len 3
  | .iload _ => Nat.beq len 2
  | .aload _ => Nat.beq len 2
  | .istore _ => Nat.beq len 2
  | .astore _ => Nat.beq len 2
  | .iinc _ _ => Nat.beq len 3
  | .goto _ => Nat.beq len 3
  | .ifCond _ _ => Nat.beq len 3
  | .if_icmp _ _ => Nat.beq len 3
  | .ifnull _ => Nat.beq len 3
  | .ifnonnull _ => Nat.beq len 3
  | .tableswitch _ _ _ _ => true
  | .lookupswitch _ _ => true
  | .ldc _ => Nat.beq len 2
  | .ldc_w _ => Nat.beq len 3
  | .ldc2_w _ => Nat.beq len 3
  | .getstatic _ => Nat.beq len 3
  | .getfield _ => Nat.beq len 3
  | .putfield _ => Nat.beq len 3
  | .new _ => Nat.beq len 3
  | .newarray _ => Nat.beq len 2
  | .anewarray _ => Nat.beq len 3
  | .multianewarray _ n => Nat.beq len 4 && Nat.beq n 2
  | .invokestatic _ => Nat.beq len 3
  | .invokevirtual _ => Nat.beq len 3
  | .invokespecial _ => Nat.beq len 3
  | _ => Nat.beq len 1
def zL (X : Nat → Value → Prop) (ws : va_W) (nL : Nat) (ls : List (Option zv)) (la : Array Slot) : Prop := ls.length = nL ∧ la.size = nL ∧ lv_wf la ∧ ∀ (i : Nat) (a : zv), ls[i]? = some (some a) → ∃ v, la[i]? = some (.val v) ∧ zval X ws a v
def zlv1 (j : Nat) (o : Option Slot) : Option (Nat × Value) := match o with
  | some (.val v) => some (j, v)
  | _ => none
def zlv (la : Array Slot) : List (Nat × Value) := (List.range la.size).filterMap (fun j => zlv1 j la[j]?)
theorem zlv_has {la : Array Slot} {nL : Nat} (hn : la.size = nL) (h : lv_wf la) : lv_has la nL (zlv la) := by
  refine ⟨hn, h, fun q hq => ?_⟩
  obtain ⟨j, -, hj⟩ := List.mem_filterMap.mp hq
  cases ho : la[j]? with
  | none => rw [ho] at hj; cases hj
  | some o =>
    rw [ho] at hj
    cases o with
    | val v => cases hj; exact ho
    | _ => cases hj
theorem zlv_mem {la : Array Slot} {i : Nat} {v : Value} (h : la[i]? = some (.val v)) : (i, v) ∈ zlv la := by
  refine List.mem_filterMap.mpr ⟨i, List.mem_range.mpr (Array.getElem?_eq_some_iff.mp h).1, ?_⟩
  rw [h]
  rfl
section ZLoc
variable {X : Nat → Value → Prop} {ws ws' : va_W} {nL : Nat} {ls : List (Option zv)} {la : Array Slot}
theorem zL_mono (hm : ∀ (k : Nat) (q : Nat × va_E), ws[k]? = some q → ∃ q' : Nat × va_E, ws'[k]? = some q' ∧ q'.1 = q.1) (h : zL X ws nL ls la) : zL X ws' nL ls la := ⟨h.1, h.2.1, h.2.2.1, fun i a hi => by
  obtain ⟨v, h1, h2⟩ := h.2.2.2 i a hi
  exact ⟨v, h1, zval_mono hm h2⟩⟩
theorem zprev_ok (hX : ∀ k v, X k v → v = .null ∨ ∃ q, v = .ref q) (hL : zL X ws nL ls la) {i j : Nat} {b : zv} {w : Value} (hp : zprev ls i = true) (hj : ls[j]? = some (some b)) (hw : zval X ws b w) (e : j + 1 = i) : ¬ w.category = 2 := by
  subst e
  have hp : (match ls[j]? with
    | some (some a) => !zisL a
    | _ => true) = true := hp
  rw [hj] at hp
  have h1 : zisL b = false := by simpa using hp
  have := zcat1 hX h1 hw
  omega
theorem zL_set (hX : ∀ k v, X k v → v = .null ∨ ∃ q, v = .ref q) (hL : zL X ws nL ls la) {i : Nat} {a : zv} {v : Value} (hi : i < nL) (hp : zprev ls i = true) (hv : zval X ws a v) {la' : Array Slot} (h : lv_has la' nL ((i, v) :: (zlv la).filter (fun q => !(q.1 == i) && !(q.1 + 1 == i && q.2.category == 2)))) : zL X ws nL (ls.set i (some a)) la' := by
  refine ⟨by rw [List.length_set]; exact hL.1, h.1, h.2.1, fun j b hj => ?_⟩
  by_cases hij : j = i
  · subst hij
    rw [List.getElem?_set_self (by rw [hL.1]; exact hi)] at hj
    cases hj
    exact ⟨v, h.2.2 (j, v) List.mem_cons_self, hv⟩
  · rw [List.getElem?_set_ne (Ne.symm hij)] at hj
    obtain ⟨w, h1, h2⟩ := hL.2.2.2 j b hj
    refine ⟨w, h.2.2 (j, w) (List.mem_cons_of_mem _ (List.mem_filter.mpr ⟨zlv_mem h1, ?_⟩)), h2⟩
    by_cases e : j + 1 = i
    · have := zprev_ok hX hL hp hj h2 e
      simp [hij, this]
    · simp [hij, e]
theorem zL_set2 (hX : ∀ k v, X k v → v = .null ∨ ∃ q, v = .ref q) (hL : zL X ws nL ls la) {i : Nat} {a : zv} {v : Value} (hi : i + 1 < nL) (hp : zprev ls i = true) (hv : zval X ws a v) {la' : Array Slot} (h : lv_has la' nL ((i, v) :: (zlv la).filter (fun q => !(q.1 == i) && (!(q.1 == i + 1) && !(q.1 + 1 == i && q.2.category == 2))))) : zL X ws nL ((ls.set i (some a)).set (i + 1) none) la' := by
  refine ⟨by rw [List.length_set, List.length_set]; exact hL.1, h.1, h.2.1, fun j b hj => ?_⟩
  by_cases hj1 : j = i + 1
  · subst hj1
    rw [List.getElem?_set_self (by rw [List.length_set, hL.1]; exact hi)] at hj
    cases hj
  · rw [List.getElem?_set_ne (Ne.symm hj1)] at hj
    by_cases hij : j = i
    · subst hij
      rw [List.getElem?_set_self (by rw [hL.1]; omega)] at hj
      cases hj
      exact ⟨v, h.2.2 (j, v) List.mem_cons_self, hv⟩
    · rw [List.getElem?_set_ne (Ne.symm hij)] at hj
      obtain ⟨w, h1, h2⟩ := hL.2.2.2 j b hj
      refine ⟨w, h.2.2 (j, w) (List.mem_cons_of_mem _ (List.mem_filter.mpr ⟨zlv_mem h1, ?_⟩)), h2⟩
      by_cases e : j + 1 = i
      · have := zprev_ok hX hL hp hj h2 e
        simp [hij, hj1, this]
      · simp [hij, hj1, e]
end ZLoc
theorem zld_inv {ls : List (Option zv)} {i : Nat} {t : zv → Bool} {a : zv} (h : zld ls i t = some a) : ls[i]? = some (some a) ∧ t a = true := by
  unfold zld at h
  split at h
  · rename_i b hb
    cases ht : t b with
    | true => rw [ht] at h; cases h; exact ⟨hb, ht⟩
    | false => rw [ht] at h; cases h
  · cases h
theorem zsto_inv {ls ls' : List (Option zv)} {i : Nat} {a : zv} (h : zsto ls i a = some ls') : i < ls.length ∧ zprev ls i = true ∧ ls' = ls.set i (some a) := by
  unfold zsto at h
  cases hc : Nat.blt i ls.length && zprev ls i with
  | false => rw [hc] at h; cases h
  | true =>
    rw [hc] at h
    simp only [cond_true, setK_eq] at h
    cases h
    simp only [Bool.and_eq_true] at hc
    exact ⟨by simpa [Nat.blt_eq] using hc.1, hc.2, rfl⟩
theorem zsto2_inv {ls ls' : List (Option zv)} {i : Nat} {a : zv} (h : zsto2 ls i a = some ls') : i + 1 < ls.length ∧ zprev ls i = true ∧ ls' = (ls.set i (some a)).set (i + 1) none := by
  unfold zsto2 at h
  cases hc : Nat.blt (i + 1) ls.length && zprev ls i with
  | false => rw [hc] at h; cases h
  | true =>
    rw [hc] at h
    simp only [cond_true, setK_eq] at h
    cases h
    simp only [Bool.and_eq_true] at hc
    exact ⟨by simpa [Nat.blt_eq] using hc.1, hc.2, rfl⟩
theorem zbin_inv {f : zv → zv → Option zv} {pc pc' : Nat} {ls ls' : List (Option zv)} {st st' : List zv} (h : zbin f pc ls st = some (pc', ls', st')) : ∃ (b a c : zv) (r : List zv), st = b :: a :: r ∧ f a b = some c ∧ pc' = pc + 1 ∧ ls' = ls ∧ st' = c :: r := by
  rcases st with _ | ⟨b, _ | ⟨a, r⟩⟩
  · cases h
  · cases h
  · have h : (match f a b with
      | some v => some (pc + 1, ls, v :: r)
      | none => none) = some (pc', ls', st') := h
    cases hv : f a b with
    | none => simp only [hv] at h; cases h
    | some v => simp only [hv] at h; cases h; exact ⟨b, a, v, r, rfl, hv, rfl, rfl, rfl⟩
theorem zun_inv {f : zv → Option zv} {pc pc' : Nat} {ls ls' : List (Option zv)} {st st' : List zv} (h : zun f pc ls st = some (pc', ls', st')) : ∃ (a c : zv) (r : List zv), st = a :: r ∧ f a = some c ∧ pc' = pc + 1 ∧ ls' = ls ∧ st' = c :: r := by
  rcases st with _ | ⟨a, r⟩
  · cases h
  · have h : (match f a with
      | some v => some (pc + 1, ls, v :: r)
      | none => none) = some (pc', ls', st') := h
    cases hv : f a with
    | none => simp only [hv] at h; cases h
    | some v => simp only [hv] at h; cases h; exact ⟨a, v, r, rfl, hv, rfl, rfl, rfl⟩
theorem ztg_inv {pc t : Nat} {off : Int} (h : ztg pc off = some t) : (pc : Int) + off = (t : Int) := by
  unfold ztg at h
  split at h
  · rename_i n hn
    cases h
    exact hn
  · cases h
theorem zbr_inv {t : Option Bool} {pc pc' : Nat} {off : Int} {ls ls' : List (Option zv)} {st st' : List zv} (h : zbr t pc off ls st = some (pc', ls', st')) : ls' = ls ∧ st' = st ∧ ((t = some true ∧ (pc : Int) + off = (pc' : Int)) ∨ (t = some false ∧ pc' = pc + 3)) := by
  unfold zbr at h
  split at h
  · split at h
    · rename_i t ht
      cases h
      exact ⟨rfl, rfl, Or.inl ⟨rfl, ztg_inv ht⟩⟩
    · cases h
  · cases h
    exact ⟨rfl, rfl, Or.inr ⟨rfl, rfl⟩⟩
  · cases h
theorem zcond_inv {c : ClassFile.Cond} {a b : zv} {t : Bool} (h : zcond c a b = some t) : ∃ x y, a = .inr (.inl x) ∧ b = .inr (.inl y) ∧ zcmp c x y = some t := by
  unfold zcond at h
  split at h
  · exact ⟨_, _, rfl, rfl, h⟩
  · cases h
theorem zsw_in {a : Int32 × Option Int32} {x : Int32} {dflt lo hi off : Int} {offs : Array Int} (h : zsw a dflt lo hi offs = some off) (hx : zin a x) : ((x.toInt < lo ∨ hi < x.toInt) ∧ off = dflt) ∨ (¬ x.toInt < lo ∧ ¬ hi < x.toInt ∧ offs[(x.toInt - lo).toNat]? = some off) := by
  obtain ⟨a1, a2⟩ := zhi_ok hx
  rw [Int32.le_iff_toInt_le] at a1 a2
  unfold zsw at h
  cases h1 : decide ((zhi a).toInt < lo) || decide (hi < a.1.toInt) with
  | true =>
    rw [h1] at h
    cases h
    simp only [Bool.or_eq_true, decide_eq_true_eq] at h1
    exact Or.inl ⟨by omega, rfl⟩
  | false =>
    rw [h1] at h
    simp only [cond_false] at h
    split at h
    · rename_i e1
      unfold zin at hx
      rw [e1] at hx
      have hx : x = a.1 := hx
      subst hx
      cases h2 : decide (a.1.toInt < lo) || decide (hi < a.1.toInt) with
      | true => rw [h2] at h; cases h
      | false =>
        rw [h2] at h
        simp only [Bool.or_eq_false_iff, decide_eq_false_iff_not] at h2
        exact Or.inr ⟨h2.1, h2.2, h⟩
    · cases h
section ZJ
variable {p : Program} {l : Launch} {e : Env} {R : Room} {s : State} {m : MethodId} {args : Array Value} {below : List Frame} {meth : Method} {c : Code} {H : Heap} {locs : List Loc} {cells slots : Nat} {Q : State → Prop}
variable {cc : ByteArray} {pc : Nat} {ls : Array Slot} {rest : List Value}
theorem W_jump0_eq (hexec : p.tables.exec = Jvm.exec) (hb : c.code = cc) {x : Int32} {off : Int} (hdg : decode cc pc = .ok (.ifCond .eq off, 3)) (hP : ¬ (x = 0)) (k : W p l e R s m args below meth c H locs cells slots Q (F0 m (pc + 3) ls rest)) : W p l e R s m args below meth c H locs cells slots Q (F0 m pc ls (.int x :: rest)) := by
  intro T hT X
  obtain ⟨t, a, b⟩ := k T hT X
  refine ⟨t, ?_, b⟩
  jvm_step X.here [X.here.top, hexec, hb, hdg, Op.ifCond.holds, hP]
  exact a
theorem W_jump2_eq (hexec : p.tables.exec = Jvm.exec) (hb : c.code = cc) {x y : Int32} {off : Int} (hdg : decode cc pc = .ok (.if_icmp .eq off, 3)) (hP : ¬ (x = y)) (k : W p l e R s m args below meth c H locs cells slots Q (F0 m (pc + 3) ls rest)) : W p l e R s m args below meth c H locs cells slots Q (F0 m pc ls (.int y :: .int x :: rest)) := by
  intro T hT X
  obtain ⟨t, a, b⟩ := k T hT X
  refine ⟨t, ?_, b⟩
  jvm_step X.here [X.here.top, hexec, hb, hdg, Op.if_icmp.holds, hP]
  exact a
theorem W_jump0_ne (hexec : p.tables.exec = Jvm.exec) (hb : c.code = cc) {x : Int32} {off : Int} (hdg : decode cc pc = .ok (.ifCond .ne off, 3)) (hP : x = 0) (k : W p l e R s m args below meth c H locs cells slots Q (F0 m (pc + 3) ls rest)) : W p l e R s m args below meth c H locs cells slots Q (F0 m pc ls (.int x :: rest)) := by
  intro T hT X
  obtain ⟨t, a, b⟩ := k T hT X
  refine ⟨t, ?_, b⟩
  jvm_step X.here [X.here.top, hexec, hb, hdg, Op.ifCond.holds, hP]
  exact a
theorem W_jump2_ne (hexec : p.tables.exec = Jvm.exec) (hb : c.code = cc) {x y : Int32} {off : Int} (hdg : decode cc pc = .ok (.if_icmp .ne off, 3)) (hP : x = y) (k : W p l e R s m args below meth c H locs cells slots Q (F0 m (pc + 3) ls rest)) : W p l e R s m args below meth c H locs cells slots Q (F0 m pc ls (.int y :: .int x :: rest)) := by
  intro T hT X
  obtain ⟨t, a, b⟩ := k T hT X
  refine ⟨t, ?_, b⟩
  jvm_step X.here [X.here.top, hexec, hb, hdg, Op.if_icmp.holds, hP]
  exact a
theorem W_jump0_lt (hexec : p.tables.exec = Jvm.exec) (hb : c.code = cc) {x : Int32} {off : Int} (hdg : decode cc pc = .ok (.ifCond .lt off, 3)) (hP : ¬ (x < 0)) (k : W p l e R s m args below meth c H locs cells slots Q (F0 m (pc + 3) ls rest)) : W p l e R s m args below meth c H locs cells slots Q (F0 m pc ls (.int x :: rest)) := by
  intro T hT X
  obtain ⟨t, a, b⟩ := k T hT X
  refine ⟨t, ?_, b⟩
  jvm_step X.here [X.here.top, hexec, hb, hdg, Op.ifCond.holds, hP]
  exact a
theorem W_jump2_lt (hexec : p.tables.exec = Jvm.exec) (hb : c.code = cc) {x y : Int32} {off : Int} (hdg : decode cc pc = .ok (.if_icmp .lt off, 3)) (hP : ¬ (x < y)) (k : W p l e R s m args below meth c H locs cells slots Q (F0 m (pc + 3) ls rest)) : W p l e R s m args below meth c H locs cells slots Q (F0 m pc ls (.int y :: .int x :: rest)) := by
  intro T hT X
  obtain ⟨t, a, b⟩ := k T hT X
  refine ⟨t, ?_, b⟩
  jvm_step X.here [X.here.top, hexec, hb, hdg, Op.if_icmp.holds, hP]
  exact a
theorem W_jump0_ge (hexec : p.tables.exec = Jvm.exec) (hb : c.code = cc) {x : Int32} {off : Int} (hdg : decode cc pc = .ok (.ifCond .ge off, 3)) (hP : ¬ (0 ≤ x)) (k : W p l e R s m args below meth c H locs cells slots Q (F0 m (pc + 3) ls rest)) : W p l e R s m args below meth c H locs cells slots Q (F0 m pc ls (.int x :: rest)) := by
  intro T hT X
  obtain ⟨t, a, b⟩ := k T hT X
  refine ⟨t, ?_, b⟩
  jvm_step X.here [X.here.top, hexec, hb, hdg, Op.ifCond.holds, hP]
  exact a
theorem W_jump2_ge (hexec : p.tables.exec = Jvm.exec) (hb : c.code = cc) {x y : Int32} {off : Int} (hdg : decode cc pc = .ok (.if_icmp .ge off, 3)) (hP : ¬ (y ≤ x)) (k : W p l e R s m args below meth c H locs cells slots Q (F0 m (pc + 3) ls rest)) : W p l e R s m args below meth c H locs cells slots Q (F0 m pc ls (.int y :: .int x :: rest)) := by
  intro T hT X
  obtain ⟨t, a, b⟩ := k T hT X
  refine ⟨t, ?_, b⟩
  jvm_step X.here [X.here.top, hexec, hb, hdg, Op.if_icmp.holds, hP]
  exact a
theorem W_jump0_gt (hexec : p.tables.exec = Jvm.exec) (hb : c.code = cc) {x : Int32} {off : Int} (hdg : decode cc pc = .ok (.ifCond .gt off, 3)) (hP : ¬ (0 < x)) (k : W p l e R s m args below meth c H locs cells slots Q (F0 m (pc + 3) ls rest)) : W p l e R s m args below meth c H locs cells slots Q (F0 m pc ls (.int x :: rest)) := by
  intro T hT X
  obtain ⟨t, a, b⟩ := k T hT X
  refine ⟨t, ?_, b⟩
  jvm_step X.here [X.here.top, hexec, hb, hdg, Op.ifCond.holds, hP]
  exact a
theorem W_jump2_gt (hexec : p.tables.exec = Jvm.exec) (hb : c.code = cc) {x y : Int32} {off : Int} (hdg : decode cc pc = .ok (.if_icmp .gt off, 3)) (hP : ¬ (y < x)) (k : W p l e R s m args below meth c H locs cells slots Q (F0 m (pc + 3) ls rest)) : W p l e R s m args below meth c H locs cells slots Q (F0 m pc ls (.int y :: .int x :: rest)) := by
  intro T hT X
  obtain ⟨t, a, b⟩ := k T hT X
  refine ⟨t, ?_, b⟩
  jvm_step X.here [X.here.top, hexec, hb, hdg, Op.if_icmp.holds, hP]
  exact a
theorem W_jump0_le (hexec : p.tables.exec = Jvm.exec) (hb : c.code = cc) {x : Int32} {off : Int} (hdg : decode cc pc = .ok (.ifCond .le off, 3)) (hP : ¬ (x ≤ 0)) (k : W p l e R s m args below meth c H locs cells slots Q (F0 m (pc + 3) ls rest)) : W p l e R s m args below meth c H locs cells slots Q (F0 m pc ls (.int x :: rest)) := by
  intro T hT X
  obtain ⟨t, a, b⟩ := k T hT X
  refine ⟨t, ?_, b⟩
  jvm_step X.here [X.here.top, hexec, hb, hdg, Op.ifCond.holds, hP]
  exact a
theorem W_jump2_le (hexec : p.tables.exec = Jvm.exec) (hb : c.code = cc) {x y : Int32} {off : Int} (hdg : decode cc pc = .ok (.if_icmp .le off, 3)) (hP : ¬ (x ≤ y)) (k : W p l e R s m args below meth c H locs cells slots Q (F0 m (pc + 3) ls rest)) : W p l e R s m args below meth c H locs cells slots Q (F0 m pc ls (.int y :: .int x :: rest)) := by
  intro T hT X
  obtain ⟨t, a, b⟩ := k T hT X
  refine ⟨t, ?_, b⟩
  jvm_step X.here [X.here.top, hexec, hb, hdg, Op.if_icmp.holds, hP]
  exact a
end ZJ
section ZA
variable {p : Program} {l : Launch} {e : Env} {R : Room} {s : State} {m : MethodId} {args : Array Value} {below : List Frame} {meth : Method} {c : Code} {H : Heap} {locs : List Loc} {cells slots : Nat} {Q : State → Prop}
variable {cc : ByteArray} {X : Nat → Value → Prop} {ws : va_W}
set_option maxHeartbeats 4000000 in
set_option maxRecDepth 100000 in
theorem stA_ok (hX : ∀ k v, X k v → v = .null ∨ ∃ q, v = .ref q) (hx : p.tables.exec = Jvm.exec) (hb : c.code = cc) {i : Instr} {len : Nat} {r : zr} {pc pc' nL : Nat} {ls ls' : List (Option zv)} {st st' : List zv} {la : Array Slot} {vs : List Value} (hd : decode cc pc = .ok (i, len)) (hl : zlen i len = true) (h : stA i r pc ls st = some (pc', ls', st')) (hL : zL X ws nL ls la) (hS : zS X ws st vs)
    (k : ∀ (la' : Array Slot) (vs' : List Value), zL X ws nL ls' la' → zS X ws st' vs' → W p l e R s m args below meth c H locs cells slots Q (F0 m pc' la' vs')) : W p l e R s m args below meth c H locs cells slots Q (F0 m pc la vs) := by
  cases i
  case aconst_null =>
    have hl : len = 1 := Nat.eq_of_beq_eq_true hl
    subst hl
    cases h
    exact lv_null hx hb hd (k _ _ hL ⟨rfl, hS⟩)
  case iconst n =>
    have hl : len = 1 := Nat.eq_of_beq_eq_true hl
    subst hl
    have h : frcI (Int32.ofInt n) (fun v => some (pc + 1, ls, zi v :: st)) = some (pc', ls', st') := h
    rw [frcI_eq] at h
    cases h
    exact lv_iconst hx hb hd rfl (k _ _ hL ⟨rfl, hS⟩)
  case bipush n =>
    have hl : len = 2 := Nat.eq_of_beq_eq_true hl
    subst hl
    have h : frcI ((Int8.ofInt n).toInt32) (fun v => some (pc + 2, ls, zi v :: st)) = some (pc', ls', st') := h
    rw [frcI_eq] at h
    cases h
    exact lv_bipush hx hb hd rfl (k _ _ hL ⟨rfl, hS⟩)
  case sipush n =>
    have hl : len = 3 := Nat.eq_of_beq_eq_true hl
    subst hl
    have h : frcI ((Int16.ofInt n).toInt32) (fun v => some (pc + 3, ls, zi v :: st)) = some (pc', ls', st') := h
    rw [frcI_eq] at h
    cases h
    exact lv_sipush hx hb hd rfl (k _ _ hL ⟨rfl, hS⟩)
  case lconst n =>
    have hl : len = 1 := Nat.eq_of_beq_eq_true hl
    subst hl
    have h : frcL (Int64.ofNat (n : Nat)) (fun v => some (pc + 1, ls, (.inr (.inr (.inl v)) : zv) :: st)) = some (pc', ls', st') := h
    rw [frcL_eq] at h
    cases h
    exact lv_lconst hx hb hd rfl (k _ _ hL ⟨rfl, hS⟩)
  case iload_n k0 =>
    have hl : len = 1 := Nat.eq_of_beq_eq_true hl
    subst hl
    have h : (match zld ls k0 zisI with | some a => some (pc + 1, ls, a :: st) | none => none) = some (pc', ls', st') := h
    split at h
    · rename_i a ha
      cases h
      obtain ⟨h1, h2⟩ := zld_inv ha
      obtain ⟨v, h3, h4⟩ := hL.2.2.2 _ _ h1
      obtain ⟨x, rfl⟩ := zint h2 h4
      exact lv_iload_n hx hb hd rfl h3 (k _ _ hL ⟨h4, hS⟩)
    · cases h
  case iload k0 =>
    have hl : len = 2 := Nat.eq_of_beq_eq_true hl
    subst hl
    have h : (match zld ls k0 zisI with | some a => some (pc + 2, ls, a :: st) | none => none) = some (pc', ls', st') := h
    split at h
    · rename_i a ha
      cases h
      obtain ⟨h1, h2⟩ := zld_inv ha
      obtain ⟨v, h3, h4⟩ := hL.2.2.2 _ _ h1
      obtain ⟨x, rfl⟩ := zint h2 h4
      exact lv_iload hx hb hd h3 (k _ _ hL ⟨h4, hS⟩)
    · cases h
  case aload_n k0 =>
    have hl : len = 1 := Nat.eq_of_beq_eq_true hl
    subst hl
    have h : (match zld ls k0 zisA with | some a => some (pc + 1, ls, a :: st) | none => none) = some (pc', ls', st') := h
    split at h
    · rename_i a ha
      cases h
      obtain ⟨h1, h2⟩ := zld_inv ha
      obtain ⟨v, h3, h4⟩ := hL.2.2.2 _ _ h1
      rcases zref hX h2 h4 with rfl | ⟨q, rfl⟩
      · exact lv_aload_nN hx hb hd rfl h3 (k _ _ hL ⟨h4, hS⟩)
      · exact lv_aload_n hx hb hd rfl h3 (k _ _ hL ⟨h4, hS⟩)
    · cases h
  case aload k0 =>
    have hl : len = 2 := Nat.eq_of_beq_eq_true hl
    subst hl
    have h : (match zld ls k0 zisA with | some a => some (pc + 2, ls, a :: st) | none => none) = some (pc', ls', st') := h
    split at h
    · rename_i a ha
      cases h
      obtain ⟨h1, h2⟩ := zld_inv ha
      obtain ⟨v, h3, h4⟩ := hL.2.2.2 _ _ h1
      rcases zref hX h2 h4 with rfl | ⟨q, rfl⟩
      · exact lv_aloadN hx hb hd h3 (k _ _ hL ⟨h4, hS⟩)
      · exact lv_aload hx hb hd h3 (k _ _ hL ⟨h4, hS⟩)
    · cases h
  case lload_n k0 =>
    have hl : len = 1 := Nat.eq_of_beq_eq_true hl
    subst hl
    have h : (match zld ls k0 zisL with | some a => some (pc + 1, ls, a :: st) | none => none) = some (pc', ls', st') := h
    split at h
    · rename_i a ha
      cases h
      obtain ⟨h1, h2⟩ := zld_inv ha
      obtain ⟨v, h3, h4⟩ := hL.2.2.2 _ _ h1
      obtain ⟨x, -, rfl⟩ := zlong h2 h4
      exact lv_lload_n hx hb hd rfl h3 (k _ _ hL ⟨h4, hS⟩)
    · cases h
  case istore_n k0 =>
    have hl : len = 1 := Nat.eq_of_beq_eq_true hl
    subst hl
    have h : (match st with
      | a :: st1 => bif zisI a then (match zsto ls k0 a with
        | some l1 => some (pc + 1, l1, st1)
        | none => none) else none
      | [] => none) = some (pc', ls', st') := by
      cases st <;> exact h
    cases st with
    | nil => cases h
    | cons a st1 =>
      cases ht : zisI a with
      | false => simp only [ht, cond_false] at h; cases h
      | true =>
        simp only [ht, cond_true] at h
        cases hs : zsto ls k0 a with
        | none => simp only [hs] at h; cases h
        | some l1 =>
          simp only [hs] at h
          cases h
          obtain ⟨g1, g2, rfl⟩ := zsto_inv hs
          obtain ⟨v, t, rfl, hv, hS1⟩ := zS_cons hS
          have hi : (k0 : Nat) < nL := by rw [← hL.1]; exact g1
          have hh := zlv_has hL.2.1 hL.2.2.1
          obtain ⟨x, rfl⟩ := zint ht hv
          exact lv_istore_n hx hb hd rfl hh hi rfl (fun l1 h1 => k _ _ (zL_set hX hL hi g2 hv h1) hS1)
  case istore k0 =>
    have hl : len = 2 := Nat.eq_of_beq_eq_true hl
    subst hl
    have h : (match st with
      | a :: st1 => bif zisI a then (match zsto ls k0 a with
        | some l1 => some (pc + 2, l1, st1)
        | none => none) else none
      | [] => none) = some (pc', ls', st') := by
      cases st <;> exact h
    cases st with
    | nil => cases h
    | cons a st1 =>
      cases ht : zisI a with
      | false => simp only [ht, cond_false] at h; cases h
      | true =>
        simp only [ht, cond_true] at h
        cases hs : zsto ls k0 a with
        | none => simp only [hs] at h; cases h
        | some l1 =>
          simp only [hs] at h
          cases h
          obtain ⟨g1, g2, rfl⟩ := zsto_inv hs
          obtain ⟨v, t, rfl, hv, hS1⟩ := zS_cons hS
          have hi : (k0 : Nat) < nL := by rw [← hL.1]; exact g1
          have hh := zlv_has hL.2.1 hL.2.2.1
          obtain ⟨x, rfl⟩ := zint ht hv
          exact lv_istore hx hb hd hh hi rfl (fun l1 h1 => k _ _ (zL_set hX hL hi g2 hv h1) hS1)
  case astore_n k0 =>
    have hl : len = 1 := Nat.eq_of_beq_eq_true hl
    subst hl
    have h : (match st with
      | a :: st1 => bif zisA a then (match zsto ls k0 a with
        | some l1 => some (pc + 1, l1, st1)
        | none => none) else none
      | [] => none) = some (pc', ls', st') := by
      cases st <;> exact h
    cases st with
    | nil => cases h
    | cons a st1 =>
      cases ht : zisA a with
      | false => simp only [ht, cond_false] at h; cases h
      | true =>
        simp only [ht, cond_true] at h
        cases hs : zsto ls k0 a with
        | none => simp only [hs] at h; cases h
        | some l1 =>
          simp only [hs] at h
          cases h
          obtain ⟨g1, g2, rfl⟩ := zsto_inv hs
          obtain ⟨v, t, rfl, hv, hS1⟩ := zS_cons hS
          have hi : (k0 : Nat) < nL := by rw [← hL.1]; exact g1
          have hh := zlv_has hL.2.1 hL.2.2.1
          rcases zref hX ht hv with rfl | ⟨q, rfl⟩
          · exact lv_astore_nN hx hb hd rfl hh hi rfl (fun l1 h1 => k _ _ (zL_set hX hL hi g2 hv h1) hS1)
          · exact lv_astore_n hx hb hd rfl hh hi rfl (fun l1 h1 => k _ _ (zL_set hX hL hi g2 hv h1) hS1)
  case astore k0 =>
    have hl : len = 2 := Nat.eq_of_beq_eq_true hl
    subst hl
    have h : (match st with
      | a :: st1 => bif zisA a then (match zsto ls k0 a with
        | some l1 => some (pc + 2, l1, st1)
        | none => none) else none
      | [] => none) = some (pc', ls', st') := by
      cases st <;> exact h
    cases st with
    | nil => cases h
    | cons a st1 =>
      cases ht : zisA a with
      | false => simp only [ht, cond_false] at h; cases h
      | true =>
        simp only [ht, cond_true] at h
        cases hs : zsto ls k0 a with
        | none => simp only [hs] at h; cases h
        | some l1 =>
          simp only [hs] at h
          cases h
          obtain ⟨g1, g2, rfl⟩ := zsto_inv hs
          obtain ⟨v, t, rfl, hv, hS1⟩ := zS_cons hS
          have hi : (k0 : Nat) < nL := by rw [← hL.1]; exact g1
          have hh := zlv_has hL.2.1 hL.2.2.1
          rcases zref hX ht hv with rfl | ⟨q, rfl⟩
          · exact lv_astoreN hx hb hd hh hi rfl (fun l1 h1 => k _ _ (zL_set hX hL hi g2 hv h1) hS1)
          · exact lv_astore hx hb hd hh hi rfl (fun l1 h1 => k _ _ (zL_set hX hL hi g2 hv h1) hS1)
  case lstore_n k0 =>
    have hl : len = 1 := Nat.eq_of_beq_eq_true hl
    subst hl
    have h : (match st with
      | a :: st1 => bif zisL a then (match zsto2 ls k0 a with
        | some l1 => some (pc + 1, l1, st1)
        | none => none) else none
      | [] => none) = some (pc', ls', st') := by
      cases st <;> exact h
    cases st with
    | nil => cases h
    | cons a st1 =>
      cases ht : zisL a with
      | false => simp only [ht, cond_false] at h; cases h
      | true =>
        simp only [ht, cond_true] at h
        cases hs : zsto2 ls k0 a with
        | none => simp only [hs] at h; cases h
        | some l1 =>
          simp only [hs] at h
          cases h
          obtain ⟨g1, g2, rfl⟩ := zsto2_inv hs
          obtain ⟨v, t, rfl, hv, hS1⟩ := zS_cons hS
          have hi : (k0 : Nat) + 1 < nL := by rw [← hL.1]; exact g1
          have hh := zlv_has hL.2.1 hL.2.2.1
          obtain ⟨x, -, rfl⟩ := zlong ht hv
          exact lv_lstore_n hx hb hd rfl hh hi rfl (fun l1 h1 => k _ _ (zL_set2 hX hL hi g2 hv h1) hS1)
  case iinc k0 n =>
    have hl : len = 3 := Nat.eq_of_beq_eq_true hl
    subst hl
    have h : (match zld ls k0 zisI with
      | some a => match bop (fun x y => x + y) a (zi (Int32.ofInt n)) with
        | some v => match zsto ls k0 v with
          | some l1 => some (pc + 3, l1, st)
          | none => none
        | none => none
      | none => none) = some (pc', ls', st') := h
    cases ha : zld ls k0 zisI with
    | none => simp only [ha] at h; cases h
    | some a =>
      simp only [ha] at h
      cases hv : bop (fun x y => x + y) a (zi (Int32.ofInt n)) with
      | none => simp only [hv] at h; cases h
      | some w =>
        simp only [hv] at h
        cases hs : zsto ls k0 w with
        | none => simp only [hs] at h; cases h
        | some l1 =>
          simp only [hs] at h
          cases h
          obtain ⟨h1, h2⟩ := zld_inv ha
          obtain ⟨v, h3, h4⟩ := hL.2.2.2 _ _ h1
          obtain ⟨x, y, rfl, e2, h5⟩ := bop_ok hv h4 (zval_zi (X := X) (ws := ws) (x := Int32.ofInt n))
          cases e2
          obtain ⟨g1, g2, rfl⟩ := zsto_inv hs
          have hi : k0 < nL := by rw [← hL.1]; exact g1
          obtain ⟨j, hj⟩ := List.getElem?_of_mem (zlv_mem h3)
          exact lv_iinc hx hb hd (zlv_has hL.2.1 hL.2.2.1) hj rfl hi rfl (fun l1 h1 => k _ _ (zL_set hX hL hi g2 h5 h1) hS)
  case iadd =>
    have hl : len = 1 := Nat.eq_of_beq_eq_true hl
    subst hl
    obtain ⟨b, a, d, r1, rfl, hf, rfl, rfl, rfl⟩ := zbin_inv h
    obtain ⟨w, t1, rfl, hw, hS1⟩ := zS_cons hS
    obtain ⟨v, t2, rfl, hv, hS2⟩ := zS_cons hS1
    obtain ⟨x, y, rfl, rfl, hz⟩ := bop_ok hf hv hw
    exact lv_iadd hx hb hd (k _ _ hL ⟨hz, hS2⟩)
  case isub =>
    have hl : len = 1 := Nat.eq_of_beq_eq_true hl
    subst hl
    obtain ⟨b, a, d, r1, rfl, hf, rfl, rfl, rfl⟩ := zbin_inv h
    obtain ⟨w, t1, rfl, hw, hS1⟩ := zS_cons hS
    obtain ⟨v, t2, rfl, hv, hS2⟩ := zS_cons hS1
    obtain ⟨x, y, rfl, rfl, hz⟩ := bop_ok hf hv hw
    exact lv_isub hx hb hd (k _ _ hL ⟨hz, hS2⟩)
  case imul =>
    have hl : len = 1 := Nat.eq_of_beq_eq_true hl
    subst hl
    obtain ⟨b, a, d, r1, rfl, hf, rfl, rfl, rfl⟩ := zbin_inv h
    obtain ⟨w, t1, rfl, hw, hS1⟩ := zS_cons hS
    obtain ⟨v, t2, rfl, hv, hS2⟩ := zS_cons hS1
    obtain ⟨x, y, rfl, rfl, hz⟩ := bop_ok hf hv hw
    exact lv_imul hx hb hd (k _ _ hL ⟨hz, hS2⟩)
  case ior =>
    have hl : len = 1 := Nat.eq_of_beq_eq_true hl
    subst hl
    obtain ⟨b, a, d, r1, rfl, hf, rfl, rfl, rfl⟩ := zbin_inv h
    obtain ⟨w, t1, rfl, hw, hS1⟩ := zS_cons hS
    obtain ⟨v, t2, rfl, hv, hS2⟩ := zS_cons hS1
    obtain ⟨x, y, rfl, rfl, hz⟩ := bop_ok hf hv hw
    exact lv_ior hx hb hd (k _ _ hL ⟨hz, hS2⟩)
  case ixor =>
    have hl : len = 1 := Nat.eq_of_beq_eq_true hl
    subst hl
    obtain ⟨b, a, d, r1, rfl, hf, rfl, rfl, rfl⟩ := zbin_inv h
    obtain ⟨w, t1, rfl, hw, hS1⟩ := zS_cons hS
    obtain ⟨v, t2, rfl, hv, hS2⟩ := zS_cons hS1
    obtain ⟨x, y, rfl, rfl, hz⟩ := bop_ok hf hv hw
    exact lv_ixor hx hb hd (k _ _ hL ⟨hz, hS2⟩)
  case ishl =>
    have hl : len = 1 := Nat.eq_of_beq_eq_true hl
    subst hl
    obtain ⟨b, a, d, r1, rfl, hf, rfl, rfl, rfl⟩ := zbin_inv h
    obtain ⟨w, t1, rfl, hw, hS1⟩ := zS_cons hS
    obtain ⟨v, t2, rfl, hv, hS2⟩ := zS_cons hS1
    obtain ⟨x, y, rfl, rfl, hz⟩ := bop_ok hf hv hw
    exact lv_ishl hx hb hd (k _ _ hL ⟨hz, hS2⟩)
  case ishr =>
    have hl : len = 1 := Nat.eq_of_beq_eq_true hl
    subst hl
    obtain ⟨b, a, d, r1, rfl, hf, rfl, rfl, rfl⟩ := zbin_inv h
    obtain ⟨w, t1, rfl, hw, hS1⟩ := zS_cons hS
    obtain ⟨v, t2, rfl, hv, hS2⟩ := zS_cons hS1
    obtain ⟨x, y, rfl, rfl, hz⟩ := bop_ok hf hv hw
    exact lv_ishr hx hb hd (k _ _ hL ⟨hz, hS2⟩)
  case iand =>
    have hl : len = 1 := Nat.eq_of_beq_eq_true hl
    subst hl
    obtain ⟨b, a, d, r1, rfl, hf, rfl, rfl, rfl⟩ := zbin_inv h
    obtain ⟨w, t1, rfl, hw, hS1⟩ := zS_cons hS
    obtain ⟨v, t2, rfl, hv, hS2⟩ := zS_cons hS1
    obtain ⟨x, y, rfl, rfl, hz⟩ := zand_ok hf hv hw
    exact lv_iand hx hb hd (k _ _ hL ⟨hz, hS2⟩)
  case iushr =>
    have hl : len = 1 := Nat.eq_of_beq_eq_true hl
    subst hl
    obtain ⟨b, a, d, r1, rfl, hf, rfl, rfl, rfl⟩ := zbin_inv h
    obtain ⟨w, t1, rfl, hw, hS1⟩ := zS_cons hS
    obtain ⟨v, t2, rfl, hv, hS2⟩ := zS_cons hS1
    obtain ⟨x, y, rfl, rfl, hz⟩ := bop_ok hf hv hw
    exact lv_iushr hx hb hd rfl (k _ _ hL ⟨hz, hS2⟩)
  case ladd =>
    have hl : len = 1 := Nat.eq_of_beq_eq_true hl
    subst hl
    obtain ⟨b, a, d, r1, rfl, hf, rfl, rfl, rfl⟩ := zbin_inv h
    obtain ⟨w, t1, rfl, hw, hS1⟩ := zS_cons hS
    obtain ⟨v, t2, rfl, hv, hS2⟩ := zS_cons hS1
    obtain ⟨x, y, rfl, rfl, hz⟩ := lop_ok hf hv hw
    exact lv_ladd hx hb hd (k _ _ hL ⟨hz, hS2⟩)
  case lmul =>
    have hl : len = 1 := Nat.eq_of_beq_eq_true hl
    subst hl
    obtain ⟨b, a, d, r1, rfl, hf, rfl, rfl, rfl⟩ := zbin_inv h
    obtain ⟨w, t1, rfl, hw, hS1⟩ := zS_cons hS
    obtain ⟨v, t2, rfl, hv, hS2⟩ := zS_cons hS1
    obtain ⟨x, y, rfl, rfl, hz⟩ := lop_ok hf hv hw
    exact lv_lmul hx hb hd (k _ _ hL ⟨hz, hS2⟩)
  case irem =>
    have hl : len = 1 := Nat.eq_of_beq_eq_true hl
    subst hl
    obtain ⟨b, a, d, r1, rfl, hf, rfl, rfl, rfl⟩ := zbin_inv h
    obtain ⟨w, t1, rfl, hw, hS1⟩ := zS_cons hS
    obtain ⟨v, t2, rfl, hv, hS2⟩ := zS_cons hS1
    unfold zrem at hf
    split at hf
    · rename_i y
      cases hy : decide (y = 0) with
      | true => rw [hy] at hf; cases hf
      | false =>
        rw [hy] at hf
        obtain ⟨x1, y1, rfl, e2, hz⟩ := bop_ok hf hv hw
        have hw : w = .int y := hw
        rw [hw] at e2
        cases e2
        subst hw
        exact lv_irem hx hb hd (of_decide_eq_false hy) (k _ _ hL ⟨hz, hS2⟩)
    · cases hf
  case lcmp =>
    have hl : len = 1 := Nat.eq_of_beq_eq_true hl
    subst hl
    obtain ⟨b, a, d, r1, rfl, hf, rfl, rfl, rfl⟩ := zbin_inv h
    obtain ⟨w, t1, rfl, hw, hS1⟩ := zS_cons hS
    obtain ⟨v, t2, rfl, hv, hS2⟩ := zS_cons hS1
    unfold zlcmp at hf
    split at hf
    · rename_i x y
      rw [frcI_eq] at hf
      cases hf
      have hv : v = .long x := hv
      have hw : w = .long y := hw
      subst hv
      subst hw
      exact W.lcmp hx hb hd (k _ _ hL ⟨rfl, hS2⟩)
    · cases hf
  case i2c =>
    have hl : len = 1 := Nat.eq_of_beq_eq_true hl
    subst hl
    obtain ⟨a, d, r1, rfl, hf, rfl, rfl, rfl⟩ := zun_inv h
    obtain ⟨v, t2, rfl, hv, hS1⟩ := zS_cons hS
    unfold zi2c at hf
    split at hf
    · rename_i x
      rw [frcI_eq] at hf
      cases hf
      have hv : v = .int x := hv
      subst hv
      exact lv_i2c hx hb hd rfl (k _ _ hL ⟨rfl, hS1⟩)
    · cases hf
  case i2l =>
    have hl : len = 1 := Nat.eq_of_beq_eq_true hl
    subst hl
    obtain ⟨a, d, r1, rfl, hf, rfl, rfl, rfl⟩ := zun_inv h
    obtain ⟨v, t2, rfl, hv, hS1⟩ := zS_cons hS
    unfold zi2l at hf
    split at hf
    · rename_i x
      rw [frcL_eq] at hf
      cases hf
      have hv : v = .int x := hv
      subst hv
      exact lv_i2l hx hb hd rfl (k _ _ hL ⟨rfl, hS1⟩)
    · cases hf
  case dup =>
    have hl : len = 1 := Nat.eq_of_beq_eq_true hl
    subst hl
    cases st with
    | nil => cases h
    | cons a st1 =>
      have h : (bif zisL a then none else some (pc + 1, ls, a :: a :: st1)) = some (pc', ls', st') := h
      cases ha : zisL a with
      | true => rw [ha] at h; cases h
      | false =>
        rw [ha] at h
        cases h
        obtain ⟨v, t1, rfl, hv, hS1⟩ := zS_cons hS
        exact lv_dup hx hb hd (zcat1 hX ha hv) (k _ _ hL ⟨hv, hv, hS1⟩)
  case pop =>
    have hl : len = 1 := Nat.eq_of_beq_eq_true hl
    subst hl
    cases st with
    | nil => cases h
    | cons a st1 =>
      have h : (bif zisL a then none else some (pc + 1, ls, st1)) = some (pc', ls', st') := h
      cases ha : zisL a with
      | true => rw [ha] at h; cases h
      | false =>
        rw [ha] at h
        cases h
        obtain ⟨v, t1, rfl, hv, hS1⟩ := zS_cons hS
        exact lv_pop hx hb hd (zcat1 hX ha hv) (k _ _ hL hS1)
  case pop2 =>
    have hl : len = 1 := Nat.eq_of_beq_eq_true hl
    subst hl
    cases st with
    | nil => cases h
    | cons a st1 =>
      have h : (bif zisL a then some (pc + 1, ls, st1) else none) = some (pc', ls', st') := h
      cases ha : zisL a with
      | false => rw [ha] at h; cases h
      | true =>
        rw [ha] at h
        cases h
        obtain ⟨v, t1, rfl, hv, hS1⟩ := zS_cons hS
        obtain ⟨w, -, rfl⟩ := zlong ha hv
        exact lv_pop2_2 hx hb hd rfl (k _ _ hL hS1)
  case dup2 =>
    have hl : len = 1 := Nat.eq_of_beq_eq_true hl
    subst hl
    rcases st with _ | ⟨a, _ | ⟨b, st1⟩⟩
    · cases h
    · cases h
    · have h : (bif zisL a || zisL b then none else some (pc + 1, ls, a :: b :: a :: b :: st1)) = some (pc', ls', st') := h
      cases ha : zisL a || zisL b with
      | true => rw [ha] at h; cases h
      | false =>
        rw [ha] at h
        cases h
        simp only [Bool.or_eq_false_iff] at ha
        obtain ⟨v, t1, rfl, hv, hS1⟩ := zS_cons hS
        obtain ⟨w, t2, rfl, hw, hS2⟩ := zS_cons hS1
        exact lv_dup2_11 hx hb hd (zcat1 hX ha.1 hv) (zcat1 hX ha.2 hw) (k _ _ hL ⟨hv, hw, hv, hw, hS2⟩)
  case goto off =>
    have hl : len = 3 := Nat.eq_of_beq_eq_true hl
    subst hl
    have h : zbr (some true) pc off ls st = some (pc', ls', st') := h
    obtain ⟨rfl, rfl, ⟨-, ht⟩ | ⟨ht, -⟩⟩ := zbr_inv h
    · exact lv_goto hx hb hd ht (k _ _ hL hS)
    · cases ht
  case ifCond co off =>
    have hl : len = 3 := Nat.eq_of_beq_eq_true hl
    subst hl
    cases st with
    | nil => cases h
    | cons a st1 =>
      obtain ⟨rfl, rfl, hbr⟩ := zbr_inv (h : zbr (zcond co a (zi 0)) pc off ls st1 = some (pc', ls', st'))
      obtain ⟨t, ht⟩ : ∃ t, zcond co a (zi 0) = some t := by rcases hbr with ⟨h1, -⟩ | ⟨h1, -⟩ <;> exact ⟨_, h1⟩
      obtain ⟨x0, y0, rfl, e2, hc⟩ := zcond_inv ht
      have e2 : ((0 : Int32), (none : Option Int32)) = y0 := by cases e2; rfl
      subst e2
      obtain ⟨v, t1, rfl, hv, hS1⟩ := zS_cons hS
      obtain ⟨x, rfl, hvx⟩ := zval_int.mp hv
      have hwy : zin ((0 : Int32), (none : Option Int32)) 0 := rfl
      rw [ht] at hbr
      cases co
      case eq =>
        have hq := zeqb_ok hc hvx hwy
        have hy : t = true → x = 0 := fun e => by
          subst e
          exact hq.1 rfl
        have hn : t = false → ¬ x = 0 := fun e => by
          subst e
          exact hq.2 rfl
        rcases hbr with ⟨e1, htg⟩ | ⟨e1, rfl⟩
        · cases e1
          exact lv_if_eq hx hb hd htg (fun _ => k _ _ hL hS1) (fun q => absurd (hy rfl) q)
        · cases e1
          exact W_jump0_eq hx hb hd (hn rfl) (k _ _ hL hS1)
      case ne =>
        have hq := zeqb_ok (zmap_not hc) hvx hwy
        have hy : t = true → ¬ x = 0 := fun e => by
          subst e
          exact hq.2 rfl
        have hn : t = false → ¬ ¬ x = 0 := fun e => by
          subst e
          exact fun q => q (hq.1 rfl)
        rcases hbr with ⟨e1, htg⟩ | ⟨e1, rfl⟩
        · cases e1
          exact lv_if_ne hx hb hd htg (fun _ => k _ _ hL hS1) (fun q => absurd q (hy rfl))
        · cases e1
          exact W_jump0_ne hx hb hd (Decidable.not_not.mp (hn rfl)) (k _ _ hL hS1)
      case lt =>
        have hq := zltb_ok hc hvx hwy
        have hy : t = true → x < 0 := fun e => by
          subst e
          exact hq.1 rfl
        have hn : t = false → ¬ x < 0 := fun e => by
          subst e
          exact hq.2 rfl
        rcases hbr with ⟨e1, htg⟩ | ⟨e1, rfl⟩
        · cases e1
          exact lv_if_lt hx hb hd htg (fun _ => k _ _ hL hS1) (fun q => absurd (hy rfl) q)
        · cases e1
          exact W_jump0_lt hx hb hd (hn rfl) (k _ _ hL hS1)
      case ge =>
        have hq := zltb_ok (zmap_not hc) hvx hwy
        have hy : t = true → 0 ≤ x := fun e => by
          subst e
          have := hq.2 rfl
          rw [Int32.lt_iff_toInt_lt] at this
          rw [Int32.le_iff_toInt_le]
          omega
        have hn : t = false → ¬ 0 ≤ x := fun e => by
          subst e
          have := hq.1 rfl
          rw [Int32.lt_iff_toInt_lt] at this
          rw [Int32.le_iff_toInt_le]
          omega
        rcases hbr with ⟨e1, htg⟩ | ⟨e1, rfl⟩
        · cases e1
          exact lv_if_ge hx hb hd htg (fun _ => k _ _ hL hS1) (fun q => absurd (hy rfl) q)
        · cases e1
          exact W_jump0_ge hx hb hd (hn rfl) (k _ _ hL hS1)
      case gt =>
        have hq := zltb_ok hc hwy hvx
        have hy : t = true → 0 < x := fun e => by
          subst e
          exact hq.1 rfl
        have hn : t = false → ¬ 0 < x := fun e => by
          subst e
          exact hq.2 rfl
        rcases hbr with ⟨e1, htg⟩ | ⟨e1, rfl⟩
        · cases e1
          exact lv_if_gt hx hb hd htg (fun _ => k _ _ hL hS1) (fun q => absurd (hy rfl) q)
        · cases e1
          exact W_jump0_gt hx hb hd (hn rfl) (k _ _ hL hS1)
      case le =>
        have hq := zltb_ok (zmap_not hc) hwy hvx
        have hy : t = true → x ≤ 0 := fun e => by
          subst e
          have := hq.2 rfl
          rw [Int32.lt_iff_toInt_lt] at this
          rw [Int32.le_iff_toInt_le]
          omega
        have hn : t = false → ¬ x ≤ 0 := fun e => by
          subst e
          have := hq.1 rfl
          rw [Int32.lt_iff_toInt_lt] at this
          rw [Int32.le_iff_toInt_le]
          omega
        rcases hbr with ⟨e1, htg⟩ | ⟨e1, rfl⟩
        · cases e1
          exact lv_if_le hx hb hd htg (fun _ => k _ _ hL hS1) (fun q => absurd (hy rfl) q)
        · cases e1
          exact W_jump0_le hx hb hd (hn rfl) (k _ _ hL hS1)
  case if_icmp co off =>
    have hl : len = 3 := Nat.eq_of_beq_eq_true hl
    subst hl
    rcases st with _ | ⟨b, _ | ⟨a, st1⟩⟩
    · cases h
    · cases h
    · obtain ⟨rfl, rfl, hbr⟩ := zbr_inv (h : zbr (zcond co a b) pc off ls st1 = some (pc', ls', st'))
      obtain ⟨t, ht⟩ : ∃ t, zcond co a b = some t := by rcases hbr with ⟨h1, -⟩ | ⟨h1, -⟩ <;> exact ⟨_, h1⟩
      obtain ⟨x0, y0, rfl, rfl, hc⟩ := zcond_inv ht
      obtain ⟨w, t0, rfl, hw, hS1⟩ := zS_cons hS
      obtain ⟨v, t1, rfl, hv, hS2⟩ := zS_cons hS1
      obtain ⟨x, rfl, hvx⟩ := zval_int.mp hv
      obtain ⟨y, rfl, hwy⟩ := zval_int.mp hw
      rw [ht] at hbr
      cases co
      case eq =>
        have hq := zeqb_ok hc hvx hwy
        have hy : t = true → x = y := fun e => by
          subst e
          exact hq.1 rfl
        have hn : t = false → ¬ x = y := fun e => by
          subst e
          exact hq.2 rfl
        rcases hbr with ⟨e1, htg⟩ | ⟨e1, rfl⟩
        · cases e1
          exact lv_icmp_eq hx hb hd htg (fun _ => k _ _ hL hS2) (fun q => absurd (hy rfl) q)
        · cases e1
          exact W_jump2_eq hx hb hd (hn rfl) (k _ _ hL hS2)
      case ne =>
        have hq := zeqb_ok (zmap_not hc) hvx hwy
        have hy : t = true → ¬ x = y := fun e => by
          subst e
          exact hq.2 rfl
        have hn : t = false → ¬ ¬ x = y := fun e => by
          subst e
          exact fun q => q (hq.1 rfl)
        rcases hbr with ⟨e1, htg⟩ | ⟨e1, rfl⟩
        · cases e1
          exact lv_icmp_ne hx hb hd htg (fun _ => k _ _ hL hS2) (fun q => absurd q (hy rfl))
        · cases e1
          exact W_jump2_ne hx hb hd (Decidable.not_not.mp (hn rfl)) (k _ _ hL hS2)
      case lt =>
        have hq := zltb_ok hc hvx hwy
        have hy : t = true → x < y := fun e => by
          subst e
          exact hq.1 rfl
        have hn : t = false → ¬ x < y := fun e => by
          subst e
          exact hq.2 rfl
        rcases hbr with ⟨e1, htg⟩ | ⟨e1, rfl⟩
        · cases e1
          exact lv_icmp_lt hx hb hd htg (fun _ => k _ _ hL hS2) (fun q => absurd (hy rfl) q)
        · cases e1
          exact W_jump2_lt hx hb hd (hn rfl) (k _ _ hL hS2)
      case ge =>
        have hq := zltb_ok (zmap_not hc) hvx hwy
        have hy : t = true → y ≤ x := fun e => by
          subst e
          have := hq.2 rfl
          rw [Int32.lt_iff_toInt_lt] at this
          rw [Int32.le_iff_toInt_le]
          omega
        have hn : t = false → ¬ y ≤ x := fun e => by
          subst e
          have := hq.1 rfl
          rw [Int32.lt_iff_toInt_lt] at this
          rw [Int32.le_iff_toInt_le]
          omega
        rcases hbr with ⟨e1, htg⟩ | ⟨e1, rfl⟩
        · cases e1
          exact lv_icmp_ge hx hb hd htg (fun _ => k _ _ hL hS2) (fun q => absurd (hy rfl) q)
        · cases e1
          exact W_jump2_ge hx hb hd (hn rfl) (k _ _ hL hS2)
      case gt =>
        have hq := zltb_ok hc hwy hvx
        have hy : t = true → y < x := fun e => by
          subst e
          exact hq.1 rfl
        have hn : t = false → ¬ y < x := fun e => by
          subst e
          exact hq.2 rfl
        rcases hbr with ⟨e1, htg⟩ | ⟨e1, rfl⟩
        · cases e1
          exact lv_icmp_gt hx hb hd htg (fun _ => k _ _ hL hS2) (fun q => absurd (hy rfl) q)
        · cases e1
          exact W_jump2_gt hx hb hd (hn rfl) (k _ _ hL hS2)
      case le =>
        have hq := zltb_ok (zmap_not hc) hwy hvx
        have hy : t = true → x ≤ y := fun e => by
          subst e
          have := hq.2 rfl
          rw [Int32.lt_iff_toInt_lt] at this
          rw [Int32.le_iff_toInt_le]
          omega
        have hn : t = false → ¬ x ≤ y := fun e => by
          subst e
          have := hq.1 rfl
          rw [Int32.lt_iff_toInt_lt] at this
          rw [Int32.le_iff_toInt_le]
          omega
        rcases hbr with ⟨e1, htg⟩ | ⟨e1, rfl⟩
        · cases e1
          exact lv_icmp_le hx hb hd htg (fun _ => k _ _ hL hS2) (fun q => absurd (hy rfl) q)
        · cases e1
          exact W_jump2_le hx hb hd (hn rfl) (k _ _ hL hS2)
  case ifnull off =>
    have hl : len = 3 := Nat.eq_of_beq_eq_true hl
    subst hl
    rcases st with _ | ⟨(_ | q) | _, st1⟩
    · cases h
    · have h : zbr (some true) pc off ls st1 = some (pc', ls', st') := h
      obtain ⟨v, t1, rfl, hv, hS1⟩ := zS_cons hS
      have hv : v = .null := hv
      subst hv
      obtain ⟨rfl, rfl, ⟨-, ht⟩ | ⟨ht, -⟩⟩ := zbr_inv h
      · exact lv_ifnullN hx hb hd ht (k _ _ hL hS1)
      · cases ht
    · have h : (bif Nat.blt q 1000000 then zbr (some false) pc off ls st1 else none) = some (pc', ls', st') := h
      cases hq : Nat.blt q 1000000 with
      | false => rw [hq] at h; cases h
      | true =>
        rw [hq] at h
        have h : zbr (some false) pc off ls st1 = some (pc', ls', st') := h
        have hq : q < 1000000 := by simpa [Nat.blt_eq] using hq
        obtain ⟨v, t1, rfl, hv, hS1⟩ := zS_cons hS
        obtain ⟨a, rfl⟩ : ∃ a, v = .ref a := by
          rcases hv with ⟨-, z, -, h2⟩ | ⟨h2, -⟩
          · exact ⟨_, h2⟩
          · omega
        obtain ⟨rfl, rfl, ⟨ht, -⟩ | ⟨-, rfl⟩⟩ := zbr_inv h
        · cases ht
        · exact lv_ifnull hx hb hd (k _ _ hL hS1)
    · cases h
  case ifnonnull off =>
    have hl : len = 3 := Nat.eq_of_beq_eq_true hl
    subst hl
    rcases st with _ | ⟨(_ | q) | _, st1⟩
    · cases h
    · have h : zbr (some false) pc off ls st1 = some (pc', ls', st') := h
      obtain ⟨v, t1, rfl, hv, hS1⟩ := zS_cons hS
      have hv : v = .null := hv
      subst hv
      obtain ⟨rfl, rfl, ⟨ht, -⟩ | ⟨-, rfl⟩⟩ := zbr_inv h
      · cases ht
      · exact lv_ifnonnullN hx hb hd (k _ _ hL hS1)
    · have h : (bif Nat.blt q 1000000 then zbr (some true) pc off ls st1 else none) = some (pc', ls', st') := h
      cases hq : Nat.blt q 1000000 with
      | false => rw [hq] at h; cases h
      | true =>
        rw [hq] at h
        have h : zbr (some true) pc off ls st1 = some (pc', ls', st') := h
        have hq : q < 1000000 := by simpa [Nat.blt_eq] using hq
        obtain ⟨v, t1, rfl, hv, hS1⟩ := zS_cons hS
        obtain ⟨a, rfl⟩ : ∃ a, v = .ref a := by
          rcases hv with ⟨-, z, -, h2⟩ | ⟨h2, -⟩
          · exact ⟨_, h2⟩
          · omega
        obtain ⟨rfl, rfl, ⟨-, ht⟩ | ⟨ht, -⟩⟩ := zbr_inv h
        · exact lv_ifnonnull hx hb hd ht (k _ _ hL hS1)
        · cases ht
    · cases h
  case tableswitch dflt lo hi offs =>
    rcases st with _ | ⟨_ | (a | _), st1⟩
    · cases h
    · cases h
    · have h : (match zsw a dflt lo hi offs with
        | some off => zbr (some true) pc off ls st1
        | none => none) = some (pc', ls', st') := h
      cases hs : zsw a dflt lo hi offs with
      | none => simp only [hs] at h; cases h
      | some off =>
        simp only [hs] at h
        obtain ⟨rfl, rfl, ⟨-, ht⟩ | ⟨ht, -⟩⟩ := zbr_inv h
        · obtain ⟨v, t1, rfl, hv, hS1⟩ := zS_cons hS
          obtain ⟨x, rfl, hvx⟩ := zval_int.mp hv
          rcases zsw_in hs hvx with ⟨h1, rfl⟩ | ⟨h1, h2, h3⟩
          · exact lv_tableOut hx hb hd h1 ht (k _ _ hL hS1)
          · exact lv_tableIn hx hb hd h1 h2 h3 ht (k _ _ hL hS1)
        · cases ht
    · cases h
  case lookupswitch dflt ps =>
    rcases st with _ | ⟨_ | (⟨x, _ | z⟩ | _), st1⟩
    · cases h
    · cases h
    · have h : (bif (ps.toList.zip (ps.toList.drop 1)).all (fun (a, next) => a.1 < next.1) then zbr (some true) pc (Op.lookupswitch.offset ps.toList dflt x.toInt) ls st1 else none) = some (pc', ls', st') := h
      cases hp : (ps.toList.zip (ps.toList.drop 1)).all (fun (a, next) => a.1 < next.1) with
      | false => rw [hp] at h; cases h
      | true =>
        rw [hp] at h
        have h : zbr (some true) pc (Op.lookupswitch.offset ps.toList dflt x.toInt) ls st1 = some (pc', ls', st') := h
        obtain ⟨rfl, rfl, ⟨-, ht⟩ | ⟨ht, -⟩⟩ := zbr_inv h
        · obtain ⟨v, t1, rfl, hv, hS1⟩ := zS_cons hS
          have hv : v = .int x := hv
          subst hv
          exact lv_lookup hx hb hd hp rfl ht (k _ _ hL hS1)
        · cases ht
    · cases h
    · cases h
  all_goals exact absurd h (by intro q; cases q)
end ZA
