noncomputable def z9w (own : String) (ik ic : Nat) (X : String) (idx : Nat) (bytes : ByteArray) : Bool := ((zown own ic X "java/lang/RuntimeException" ["java/lang/Exception"] idx bytes).filter vx_no).all (fun w => (decide (w ∈ zGd) || decide (w ∈ zBw)) && vx_ot w)
theorem z9w0 : z9w "HeapJudge" 226 230 "java/util/NoSuchElementException" 13 prog_31_method_4_code = true := by decide +kernel
theorem z9w1 : z9w "HeapJudge" 233 237 "java/lang/IllegalArgumentException" 7 Bundle.six = true := by decide +kernel
noncomputable def z9c (mi ik is ic : Nat) : Bool := match zmd mi with
  | some M => (decide (decode M.2.1 14 = .ok (.new ik, 3)) && decide (decode M.2.1 17 = .ok (.dup, 1))) && ((decide (decode M.2.1 18 = .ok (.ldc is, 2)) && decide (decode M.2.1 20 = .ok (.invokespecial ic, 3))) && ((decide (decode M.2.1 23 = .ok (.athrow, 1)) && decide (M.1.cls = "HeapJudge")) && M.2.2.2.2.1.isEmpty))
  | none => false
theorem z9c0 : z9c 152 226 228 230 = true := by decide +kernel
theorem z9c1 : z9c 153 233 235 237 = true := by decide +kernel
theorem z9k0 : Cond.classLink "HeapJudge" 226 "java/util/NoSuchElementException" ∈ zGd ∧ Cond.initialized "java/util/NoSuchElementException" ∈ zGd := by decide +kernel
theorem z9k1 : Cond.classLink "HeapJudge" 233 "java/lang/IllegalArgumentException" ∈ zGd ∧ Cond.initialized "java/lang/IllegalArgumentException" ∈ zGd := by decide +kernel
theorem znse : decode prog_31_method_4_code 0 = .ok (.aload_n 0, 1) ∧ decode prog_31_method_4_code 1 = .ok (.aload_n 1, 1) ∧ decode prog_31_method_4_code 2 = .ok (.invokespecial 13, 3) ∧ decode prog_31_method_4_code 5 = .ok (.return_, 1) := by decide +kernel
theorem ziae : decode Bundle.six 0 = .ok (.aload_n 0, 1) ∧ decode Bundle.six 1 = .ok (.aload_n 1, 1) ∧ decode Bundle.six 2 = .ok (.invokespecial 7, 3) ∧ decode Bundle.six 5 = .ok (.return_, 1) := by decide +kernel
theorem zfits : Bundle.fit "java/util/NoSuchElementException" = true ∧ Bundle.fit "java/lang/IllegalArgumentException" = true ∧ Bundle.fit "java/lang/RuntimeException" = true ∧ Bundle.fit "java/lang/Exception" = true := by decide +kernel
theorem z9w_at {own X : String} {ik ic idx : Nat} {bytes : ByteArray} {s : State} {args : Array Value} (h : z9w own ik ic X idx bytes = true) (hts : ∀ w ∈ zGd, w.before args s = true) (hB : zB s) : (∀ w ∈ (zown own ic X "java/lang/RuntimeException" ["java/lang/Exception"] idx bytes).filter vx_no, w.before args s = true) ∧ ∀ w ∈ (zown own ic X "java/lang/RuntimeException" ["java/lang/Exception"] idx bytes).filter vx_no, vx_ot w = true := by
  have h1 := List.all_eq_true.mp h
  refine ⟨fun w hw => ?_, fun w hw => ?_⟩
  · have h2 := h1 w hw
    simp only [Bool.and_eq_true, Bool.or_eq_true, decide_eq_true_eq] at h2
    rcases h2.1 with h3 | h3
    · exact hts w h3
    · have hn := hB w h3
      have hon : w.onTables = true := by
        unfold zBw at h3
        simp only [List.mem_cons, List.not_mem_nil, or_false] at h3
        rcases h3 with rfl | rfl | rfl | rfl | rfl <;> rfl
      exact va_Nw.use hon hn
  · have h2 := h1 w hw
    simp only [Bool.and_eq_true] at h2
    exact h2.2
theorem zret_inv {k : Nat} {v : zv} (h : zret k v = true) : (k = 1 ∧ ∃ a, v = .inr (.inl a)) ∨ (k = 2 ∧ ∃ x : Int32, v = .inr (.inl (x, none)) ∧ (x = 0 ∨ x = 1)) ∨ (k = 3 ∧ ∃ a, v = .inl a) ∨ (k = 4 ∧ ∃ w, v = .inr (.inr (.inl w))) ∨ ((k = 5 ∨ k = 6) ∧ ∃ x : Int32, v = .inr (.inl (x, none)) ∧ 0 ≤ x ∧ x ≤ 127) := by
  unfold zret at h
  split at h
  · exact Or.inl ⟨rfl, _, rfl⟩
  · simp only [Bool.or_eq_true, decide_eq_true_eq] at h
    exact Or.inr (Or.inl ⟨rfl, _, rfl, h⟩)
  · exact Or.inr (Or.inr (Or.inl ⟨rfl, _, rfl⟩))
  · exact Or.inr (Or.inr (Or.inr (Or.inl ⟨rfl, _, rfl⟩)))
  · simp only [Bool.and_eq_true, decide_eq_true_eq] at h
    exact Or.inr (Or.inr (Or.inr (Or.inr ⟨Or.inl rfl, _, rfl, h.1, h.2⟩)))
  · simp only [Bool.and_eq_true, decide_eq_true_eq] at h
    exact Or.inr (Or.inr (Or.inr (Or.inr ⟨Or.inr rfl, _, rfl, h.1, h.2⟩)))
  · cases h
theorem zrk0 {ret : Option FieldType} (h : zrk 0 ret = true) : ret = none := by
  cases ret with
  | none => rfl
  | some t => cases t <;> cases h
theorem zrk1 {ret : Option FieldType} (h : zrk 1 ret = true) : ret = some .int := by
  cases ret with
  | none => cases h
  | some t => cases t <;> first | rfl | cases h
theorem zrk2 {ret : Option FieldType} (h : zrk 2 ret = true) : ret = some .boolean := by
  cases ret with
  | none => cases h
  | some t => cases t <;> first | rfl | cases h
theorem zrk3 {ret : Option FieldType} (h : zrk 3 ret = true) : ∃ rt, ret = some rt ∧ ((∃ n, rt = .object n) ∨ ∃ t, rt = .array t) := by
  cases ret with
  | none => cases h
  | some t => cases t <;> first | exact ⟨_, rfl, Or.inl ⟨_, rfl⟩⟩ | exact ⟨_, rfl, Or.inr ⟨_, rfl⟩⟩ | cases h
theorem zrk4 {ret : Option FieldType} (h : zrk 4 ret = true) : ret = some .long := by
  cases ret with
  | none => cases h
  | some t => cases t <;> first | rfl | cases h
theorem zrk5 {ret : Option FieldType} (h : zrk 5 ret = true) : ret = some .char := by
  cases ret with
  | none => cases h
  | some t => cases t <;> first | rfl | cases h
theorem zrk6 {ret : Option FieldType} (h : zrk 6 ret = true) : ret = some .byte := by
  cases ret with
  | none => cases h
  | some t => cases t <;> first | rfl | cases h
theorem znar : ∀ j, j ≤ 127 → (nI j).toInt8.toInt32 = nI j ∧ (nI j).toUInt32.toUInt16.toUInt32.toInt32 = nI j := by
  have h : ∀ j, j < 128 → (nI j).toInt8.toInt32 = nI j ∧ (nI j).toUInt32.toUInt16.toUInt32.toInt32 = nI j := by decide +kernel
  exact fun j hj => h j (by omega)
section ZDepth
variable {p : Program} {l : Launch} {e : Env} {R : Room} {s : State} {m : MethodId} {args : Array Value} {below : List Frame} {meth : Method} {c : Code} {H : Heap} {locs : List Loc} {cells slots : Nat} {g : zg} {D : va_G} {A : Nat → Prop}
/-- a walk's end that answers -/
theorem zretE {cc : ByteArray} {ret : Option FieldType} {Qc : Array Value → State → Outcome → State → Prop} {free : Addr → Prop} {mi pc : Nat} {o : zo} {ws' : va_W} {vs : List Value} {la : Array Slot} (hx : p.tables.exec = Jvm.exec) (hb : c.code = cc) (hlocks : meth.locks = false) (hret : meth.sig.returnType = ret) (hrk : ∀ (n1 n2 n3 : Nat) (hs : List (Nat × Nat × Nat × Nat)), zmeth mi = some (n1, n2, n3, hs) → zrk n2 ret = true) (hf : ∀ q ∈ locs, free q.base) (hfin : zFin g cc mi o ws' pc vs) (hq : ∀ vv, zRv g o vv ws' → ∀ t : State, t.heap = H → s.WarmedH t.vm → Qc args s (.returned vv) t) : W p l e R s m args below meth c H locs cells slots (MQ below Qc args s cells slots free) (F0 m pc la vs) := by
  rcases hfin with ⟨ho, rfl, hd, n1, n3, hs, hm⟩ | ⟨v, x, n1, k, n3, hs, ho, rfl, hv, hm, hr, hd⟩
  · exact W.vret hx hb (hret.trans (zrk0 (hrk _ _ _ _ hm))) (hq none (Or.inl ⟨ho, rfl⟩)) hf hd hlocks
  · have hrk := hrk _ _ _ _ hm
    have hq := hq (some x) (Or.inr ⟨v, x, ho, rfl, hv⟩)
    rcases hd with ⟨hd, hz⟩ | ⟨hd, hz⟩ | ⟨hd, hz⟩
    · rcases zret_inv hr with ⟨rfl, a, rfl⟩ | ⟨rfl, x0, rfl, h0⟩ | ⟨rfl, a, rfl⟩ | ⟨rfl, w, rfl⟩ | ⟨hk, x0, rfl, h0, h1⟩
      · obtain ⟨y, rfl, -⟩ := zval_int.mp hv
        exact W.iret hx hb (hret.trans (zrk1 hrk)) hq hf hd hlocks
      · have hv : x = .int x0 := hv
        subst hv
        refine W.zret hx hb (hret.trans (zrk2 hrk)) ?_ hq hf hd hlocks
        rcases h0 with rfl | rfl <;> rfl
      · cases hz
      · cases hz
      · have hv : x = .int x0 := hv
        subst hv
        obtain ⟨j, hj, rfl⟩ := nI_of2 (x := x0) (M := 127) (n := 127) (by decide) (by
          rw [Int32.lt_iff_toInt_lt]
          rw [Int32.le_iff_toInt_le] at h0
          omega) h1
        obtain ⟨q1, q2⟩ := znar j hj
        rcases hk with rfl | rfl
        · exact W.zret hx hb (hret.trans (zrk5 hrk)) (by show Value.int _ = _; rw [q2]) hq hf hd hlocks
        · exact W.zret hx hb (hret.trans (zrk6 hrk)) (by show Value.int _ = _; rw [q1]) hq hf hd hlocks
    · rcases zret_inv hr with ⟨rfl, a, rfl⟩ | ⟨rfl, x0, rfl, h0⟩ | ⟨rfl, a, rfl⟩ | ⟨rfl, w, rfl⟩ | ⟨hk, x0, rfl, h0, h1⟩
      · cases hz
      · cases hz
      · obtain ⟨rt, q1, q2⟩ := zrk3 hrk
        exact W.aret hx hb (hret.trans q1) q2 (zref zX_ref hz hv) hq hf hd hlocks
      · cases hz
      · cases hz
    · rcases zret_inv hr with ⟨rfl, a, rfl⟩ | ⟨rfl, x0, rfl, h0⟩ | ⟨rfl, a, rfl⟩ | ⟨rfl, w, rfl⟩ | ⟨hk, x0, rfl, h0, h1⟩
      · cases hz
      · cases hz
      · cases hz
      · have hv : x = .long w := hv
        subst hv
        exact W.lret hx hb (hret.trans (zrk4 hrk)) hq hf hd hlocks
      · cases hz
theorem zW_ext {H1 : Heap} {ws : va_W} {h : zh} (hW : zW (zX g) D A s H ws h) (hk : ∀ x : Nat, x < H.size → H1[x]? = H[x]?) : zW (zX g) D A s H1 ws h := ⟨fun k q hq => (hW.1 k q hq).kept (hk _ (hW.1 k q hq).lt), hW.2⟩
theorem zS_ext {H0 H1 : Heap} (hS : va_S A H0 H locs) (hz : H.size ≤ H1.size) (hk : ∀ x : Nat, x < H.size → H1[x]? = H[x]?) : va_S A H0 H1 locs := ⟨Nat.le_trans hS.1 hz, fun q h1 h2 => (hk q (Nat.lt_of_lt_of_le h1 hS.1)).trans (hS.2.1 q h1 h2), hS.2.2⟩
/-- a throw of one's own: made, thrown, and out -/
theorem zown9 {cc : ByteArray} {own X text : String} {ik is ic idx sa pc mc ms : Nat} {bytes : ByteArray} {la : Array Slot} {Qc : Array Value → State → Outcome → State → Prop} {XC : String → State → State → Prop} {free : Addr → Prop} (hx : p.tables.exec = Jvm.exec) (hb : c.code = cc) (hown : s.vm.findClass own = some m.cls) (hts : ∀ w ∈ zGd, w.before args s = true) (hB : zB s) (hl : l.stackTraces = false) (hbd : decode bytes 0 = .ok (.aload_n 0, 1) ∧ decode bytes 1 = .ok (.aload_n 1, 1) ∧ decode bytes 2 = .ok (.invokespecial idx, 3) ∧ decode bytes 5 = .ok (.return_, 1)) (hX : Bundle.fit X = true) (hk : Cond.classLink own ik X ∈ zGd ∧ Cond.initialized X ∈ zGd) (hw : z9w own ik ic X idx bytes = true) (hstr : vk_R own is text sa s)
    (hU : vx_Zq Bundle.tN "UNASSIGNED_STACK" Bundle.steD A s s.heap) (hN : vx_Zq Bundle.tN "SUPPRESSED_SENTINEL" Bundle.listD A s s.heap) (hS : va_S A s.heap H locs) (hlocks : meth.locks = false) (hsize : la.size = c.maxLocals) (htab : c.exceptionTable.toList = [])
    (d0 : decode cc pc = .ok (.new ik, 3)) (d3 : decode cc (pc + 3) = .ok (.dup, 1)) (d4 : decode cc (pc + 4) = .ok (.ldc is, 2)) (d6 : decode cc (pc + 6) = .ok (.invokespecial ic, 3)) (d9 : decode cc (pc + 9) = .ok (.athrow, 1)) (hfr : 8 ≤ R.frames) (hlo : 320 ≤ R.locals) (hc : cells + 1 ≤ mc) (hs : slots + 6 ≤ ms) (hRc : mc ≤ R.cells) (hRs : ms ≤ R.slots) (hf : ∀ z ∈ locs, free z.base)
    (hq : ∀ (H1 : Heap), H.size ≤ H1.size → (∀ x : Nat, x < H.size → H1[x]? = H[x]?) → ∀ t : State, t.heap = H1 → s.vm.Alike t.vm → XC X s t) : W p l e R s m args below meth c H locs cells slots (vx_MQ below Qc XC args s mc ms free) (F0 m pc la []) := by
  obtain ⟨w1, w2⟩ := z9w_at hw hts hB
  refine zmakeS (names := ["java/lang/Exception"]) (Yc := "java/lang/RuntimeException") hx hb hl hbd.1 hbd.2.1 hbd.2.2.1 hbd.2.2.2 hown hX zfits.2.2.1 (fun n hn => by rw [List.mem_singleton.mp hn]; exact zfits.2.2.2) (hts _ hk.1) (hts _ hk.2) hstr w1 (fun w hw => ?_) hU hN hS hsize d0 d3 d4 d6 (by show 1 + 4 < _; omega) (by show 0 + (13 * (1 + 2) + 43) ≤ _; omega) (by omega) (by omega) (fun q H1 ce h1 h2 h3 h4 h5 => ?_)
  · rcases List.mem_cons.mp hw with rfl | hw
    · show (_ || goodWord _) = true
      rw [(List.mem_filter.mp hk.1).2, Bool.or_true]
    · rcases List.mem_cons.mp hw with rfl | hw
      · show (_ || goodWord _) = true
        rw [(List.mem_filter.mp hk.2).2, Bool.or_true]
      · exact w2 w hw
  · exact vx_athrow hx hb d9 (vx_outP hown hlocks (fun z hz => by rw [htab] at hz; cases hz) h1 h2 h3 (hq H1 h4 h5) hf (by omega) (by omega))
end ZDepth
