theorem zcov {a b t c pc : Nat} : covers ⟨a, b, t, c⟩ pc = (Nat.ble a pc && Nat.blt pc b) := by
  show (decide (a ≤ pc) && decide (pc < b)) = _
  rw [Bool.eq_iff_iff]
  simp [Nat.blt_eq, Nat.ble_eq]
/-- the row that takes it, and those ahead of it -/
theorem zhand_some {own : String} {pc ee kk : Nat} : ∀ {hh hs : List (Nat × Nat × Nat × Nat)}, zhok own hh hs = true → zhand hs pc ee = some kk → ∃ (pre : List ExceptionTableEntry) (x : ExceptionTableEntry) (suf : List ExceptionTableEntry), tableOf hh = pre ++ x :: suf ∧ covers x pc = true ∧ x.catchType ≠ 0 ∧ x.handlerPc = kk ∧ Cond.classLink own x.catchType (zEn ee) ∈ zGd ∧ ∀ z ∈ pre, covers z pc = false ∨ (z.catchType ≠ 0 ∧ ∃ e2, e2 ≠ ee ∧ e2 ≤ 1 ∧ Cond.classLink own z.catchType (zEn e2) ∈ zGd)
  | [], [], _, h => by cases h
  | (a, b, t, c) :: r, (a', b', t', e) :: r', hk, h => by
    have hk : ((Nat.beq a a' && (Nat.beq b b' && Nat.beq t t')) && (decide (Cond.classLink own c (zEn e) ∈ zGd) && (!Nat.beq c 0 && (Nat.ble e 1 && zhok own r r')))) = true := hk
    simp only [Bool.and_eq_true, decide_eq_true_eq] at hk
    obtain ⟨⟨k1, k2, k3⟩, k4, k5, k6, k7⟩ := hk
    have k1 := Nat.eq_of_beq_eq_true k1
    have k2 := Nat.eq_of_beq_eq_true k2
    have k3 := Nat.eq_of_beq_eq_true k3
    subst k1
    subst k2
    subst k3
    have hc0 : c ≠ 0 := by
      intro q
      subst q
      cases k5
    have h : (bif Nat.ble a pc && Nat.blt pc b && Nat.beq e ee then some t else zhand r' pc ee) = some kk := h
    cases hb : Nat.ble a pc && Nat.blt pc b && Nat.beq e ee with
    | true =>
      rw [hb] at h
      cases h
      simp only [Bool.and_eq_true] at hb
      have he := Nat.eq_of_beq_eq_true hb.2
      subst he
      exact ⟨[], ⟨a, b, _, c⟩, tableOf r, rfl, by rw [zcov]; simp [hb.1.1, hb.1.2], hc0, rfl, k4, fun z hz => (by cases hz)⟩
    | false =>
      rw [hb] at h
      obtain ⟨pre, x, suf, q1, q2, q3, q4, q5, q6⟩ := zhand_some k7 h
      refine ⟨⟨a, b, t, c⟩ :: pre, x, suf, by show _ :: tableOf r = _; rw [q1]; rfl, q2, q3, q4, q5, fun z hz => ?_⟩
      rcases List.mem_cons.mp hz with rfl | hz
      · cases hcv : covers ⟨a, b, t, c⟩ pc with
        | false => exact Or.inl rfl
        | true =>
          rw [zcov] at hcv
          refine Or.inr ⟨hc0, e, fun q => ?_, Nat.le_of_ble_eq_true k6, k4⟩
          subst q
          rw [hcv] at hb
          simp at hb
      · exact q6 z hz
  | [], _ :: _, hk, _ => by cases hk
  | _ :: _, [], hk, _ => by cases hk
theorem zhand_none {own : String} {pc ee : Nat} : ∀ {hh hs : List (Nat × Nat × Nat × Nat)}, zhok own hh hs = true → zhand hs pc ee = none → ∀ z ∈ tableOf hh, covers z pc = false ∨ (z.catchType ≠ 0 ∧ ∃ e2, e2 ≠ ee ∧ e2 ≤ 1 ∧ Cond.classLink own z.catchType (zEn e2) ∈ zGd)
  | [], [], _, _ => fun z hz => (by cases hz)
  | (a, b, t, c) :: r, (a', b', t', e) :: r', hk, h => by
    have hk : ((Nat.beq a a' && (Nat.beq b b' && Nat.beq t t')) && (decide (Cond.classLink own c (zEn e) ∈ zGd) && (!Nat.beq c 0 && (Nat.ble e 1 && zhok own r r')))) = true := hk
    simp only [Bool.and_eq_true, decide_eq_true_eq] at hk
    obtain ⟨⟨k1, k2, k3⟩, k4, k5, k6, k7⟩ := hk
    have k1 := Nat.eq_of_beq_eq_true k1
    have k2 := Nat.eq_of_beq_eq_true k2
    have k3 := Nat.eq_of_beq_eq_true k3
    subst k1
    subst k2
    subst k3
    have hc0 : c ≠ 0 := by
      intro q
      subst q
      cases k5
    have h : (bif Nat.ble a pc && Nat.blt pc b && Nat.beq e ee then some t else zhand r' pc ee) = none := h
    cases hb : Nat.ble a pc && Nat.blt pc b && Nat.beq e ee with
    | true => rw [hb] at h; cases h
    | false =>
      rw [hb] at h
      intro z hz
      rcases List.mem_cons.mp hz with rfl | hz
      · cases hcv : covers ⟨a, b, t, c⟩ pc with
        | false => exact Or.inl rfl
        | true =>
          rw [zcov] at hcv
          refine Or.inr ⟨hc0, e, fun q => ?_, Nat.le_of_ble_eq_true k6, k4⟩
          subst q
          rw [hcv] at hb
          simp at hb
      · exact zhand_none k7 h z hz
  | [], _ :: _, hk, _ => by cases hk
  | _ :: _, [], hk, _ => by cases hk
theorem zNcE {g : zg} {scr : Option (List zv)} {D : va_G} {A : Nat → Prop} {s : State} (hE : zE g scr D A s) {ee e2 : Nat} (h1 : ee ≤ 1) (h2 : e2 ≤ 1) (hne : e2 ≠ ee) : va_Nc (zEn ee) (zEn e2) s := by
  rcases (show (ee = 0 ∧ e2 = 1) ∨ (ee = 1 ∧ e2 = 0) by omega) with ⟨rfl, rfl⟩ | ⟨rfl, rfl⟩
  · exact hE.2.2.2.2.2.2.2.1
  · exact hE.2.2.2.2.2.2.2.2
theorem zcastE {s : State} (hB : zB s) {ee : Nat} (h1 : ee ≤ 1) {args : Array Value} : (Cond.castable (zEn ee) (zEn ee)).before args s = true := by
  rcases (show ee = 0 ∨ ee = 1 by omega) with rfl | rfl
  · exact va_Nw.use rfl (hB (.castable "java/util/NoSuchElementException" "java/util/NoSuchElementException") (by simp [zBw]))
  · exact va_Nw.use rfl (hB (.castable "java/lang/IllegalArgumentException" "java/lang/IllegalArgumentException") (by simp [zBw]))
section ZCall2
variable {p : Program} {l : Launch} {e : Env} {R : Room} {s : State} {m : MethodId} {args : Array Value} {below : List Frame} {meth : Method} {c : Code} {Q : State → Prop} {g : zg} {D : va_G} {A : Nat → Prop} {scr : Option (List zv)}
/-- behind the call: the rest of this frame -/
theorem zafter {cc : ByteArray} {vt : Bool} {mi nL pc : Nat} {ih : zF} {ls : List (Option zv)} {rest : List zv} {h h1 : zh} {t t1 : Nat} {o o1 : zo} {h' : zh} {t' : Nat} {cells slots : Nat} {ws : va_W} {la : Array Slot} {v2 : List Value} (IH : zIH p l e R s m args below meth c Q g D A cc mi nL ih) (hb : zback vt ih mi pc ls rest (some (o1, h1, t1)) = some (o, h', t')) (hmo : zMo h t h1 t1) (hL : zL (zX g) ws nL ls la) (hS : zS (zX g) ws rest v2) (hrc : cells + (h'.length + t') ≤ R.cells + (h.length + t)) (hrs : slots + (zsl h' + 6 * t') ≤ R.slots + (zsl h + 6 * t)) (k : zEnd p l e R s m args below meth c Q g D A cc mi nL o h' t' cells slots ws h t) :
    ∀ (H1 : Heap) (locs1 : List Loc) (ws' : va_W) (vv : Option Value), zM ws ws' → zW (zX g) D A s H1 ws' h1 → va_S A s.heap H1 locs1 → zRv g o1 vv ws' → W p l e R s m args below meth c H1 locs1 (cells + ((h1.length + t1) - (h.length + t))) (slots + ((zsl h1 + 6 * t1) - (zsl h + 6 * t))) Q (F0 m (pc + 3) la (vv.toList ++ v2)) := by
  intro H1 locs1 ws' vv hm hW hS0 hR
  obtain ⟨m1, m2⟩ := hmo
  obtain ⟨o9, h9, t9, e9, hx⟩ := zback_inv hb
  cases e9
  have kE := zEnd_step (cells1 := cells + ((h1.length + t1) - (h.length + t))) (slots1 := slots + ((zsl h1 + 6 * t1) - (zsl h + 6 * t))) k hm (h1 := h1) (t1 := t1) (by omega) (by omega)
  rcases hR with ⟨ho, rfl⟩ | ⟨v, x, ho, rfl, hv⟩
  · rcases hx with ⟨-, e2⟩ | ⟨v, h8, -⟩ | ⟨ee, _, _, _, _, h8, -⟩
    · exact IH _ _ _ _ _ _ _ _ e2 H1 locs1 _ _ ws' la v2 hW hS0 (zL_mono hm hL) (zS_mono hm hS) (by omega) (by omega) kE
    · rw [ho] at h8; cases h8
    · rw [ho] at h8; cases h8
  · rcases hx with ⟨h8, -⟩ | ⟨v8, h8, e2⟩ | ⟨ee, _, _, _, _, h8, -⟩
    · rw [ho] at h8; cases h8
    · rw [ho] at h8
      cases h8
      exact IH _ _ _ _ _ _ _ _ e2 H1 locs1 _ _ ws' la (x :: v2) hW hS0 (zL_mono hm hL) ⟨hv, zS_mono hm hS⟩ (by omega) (by omega) kE
    · rw [ho] at h8; cases h8
/-- behind the call: what was thrown -/
theorem zafterX {M : zmrow} {vt : Bool} {mi pc : Nat} {ih : zF} {ls : List (Option zv)} {rest : List zv} {h h1 : zh} {t t1 : Nat} {o o1 : zo} {h' : zh} {t' : Nat} {cells slots : Nat} {ws : va_W} {la : Array Slot} {v2 : List Value} (IH : zIH p l e R s m args below meth c Q g D A M.2.1 mi M.2.2.1 ih) (hF : zFr p s m args meth c M.2.1 M.1.cls M.1.name g scr D A) (hB : zB s) (htab : c.exceptionTable.toList = tableOf M.2.2.2.2.1) (hhk : ∀ (n1 n2 n3 : Nat) (hs : List (Nat × Nat × Nat × Nat)), zmeth mi = some (n1, n2, n3, hs) → zhok M.1.cls M.2.2.2.2.1 hs = true) (hb : zback vt ih mi pc ls rest (some (o1, h1, t1)) = some (o, h', t')) (hmo : zMo h t h1 t1) (hL : zL (zX g) ws M.2.2.1 ls la) (hrc : cells + (h'.length + t') ≤ R.cells + (h.length + t)) (hrs : slots + (zsl h' + 6 * t') ≤ R.slots + (zsl h + 6 * t)) (k : zEnd p l e R s m args below meth c Q g D A M.2.1 mi M.2.2.1 o h' t' cells slots ws h t) :
    ∀ (ee : Nat) (H1 : Heap) (locs1 : List Loc) (ws' : va_W) (q : Addr) (ce : Cell), o1 = .inr ee → ee ≤ 1 → zM ws ws' → zW (zX g) D A s H1 ws' h1 → va_S A s.heap H1 locs1 → H1[q]? = some ce → ce.vm = .none → s.vm.findClass (zEn ee) = some ce.cls → vx_W p l e R s m args below meth c H1 locs1 (cells + ((h1.length + t1) - (h.length + t))) (slots + ((zsl h1 + 6 * t1) - (zsl h + 6 * t))) Q (F0 m pc la v2) q := by
  intro ee H1 locs1 ws' q ce ho hle hm hW hS0 hq hv hcl
  obtain ⟨hx, hb9, hown, hts, hnm, hE, hA⟩ := hF
  obtain ⟨m1, m2⟩ := hmo
  obtain ⟨o9, h9, t9, e9, hx2⟩ := zback_inv hb
  cases e9
  have kE := zEnd_step (cells1 := cells + ((h1.length + t1) - (h.length + t))) (slots1 := slots + ((zsl h1 + 6 * t1) - (zsl h + 6 * t))) k hm (h1 := h1) (t1 := t1) (by omega) (by omega)
  rcases hx2 with ⟨h8, -⟩ | ⟨v, h8, -⟩ | ⟨e8, n1, n2, n3, hs, h8, -, hmt, ⟨kk, hh, e2⟩ | ⟨hh, e2⟩⟩
  · rw [ho] at h8; cases h8
  · rw [ho] at h8; cases h8
  · rw [ho] at h8
    cases h8
    obtain ⟨pre, x, suf, q1, q2, q3, q4, q5, q6⟩ := zhand_some (hhk _ _ _ _ hmt) hh
    refine vx_catch hown pre x suf (htab.trans q1) (fun z hz => ?_) q2 q3 (hts _ q5) (zcastE hB hle) hq hv hcl ?_
    · rcases q6 z hz with h7 | ⟨h7, e7, h6, h5, h4⟩
      · exact Or.inl h7
      · exact Or.inr ⟨h7, zEn e7, hts _ h4, zNcE hE hle h5 h6⟩
    · rw [q4]
      exact IH _ _ _ _ _ _ _ _ e2 H1 locs1 _ _ ws' la [.ref q] hW hS0 (zL_mono hm hL) ⟨Or.inr ⟨by omega, Or.inr (Or.inl ⟨rfl, Or.inr ⟨q, rfl⟩⟩)⟩, trivial⟩ (by omega) (by omega) kE
  · rw [ho] at h8
    cases h8
    cases e2
    exact k.2.2 _ H1 locs1 _ _ ws' la pc v2 q ce n1 n2 n3 hs rfl hle hmt hh hm hW hS0 (by omega) (by omega) hq hv hcl
end ZCall2
