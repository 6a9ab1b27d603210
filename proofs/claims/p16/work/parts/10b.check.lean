abbrev zmrow : Type := MethodName × ByteArray × Nat × Option FieldType × List (Nat × Nat × Nat × Nat) × (Nat × Nat × Nat × Nat)
/-- a method's row: its word of the tables says its code -/
noncomputable def zmdw (pl : Nat × Nat × Nat × Nat) (w : Option Cond) : Option zmrow := match w with
  | some (.code y b mL ret) => some (y, b, mL, ret, [], pl)
  | some (.codeWith y b mL ret hh) => some (y, b, mL, ret, hh, pl)
  | _ => none
noncomputable def zmd (mi : Nat) : Option zmrow := bif Nat.beq mi 289 then some (yL_law, cL_law, 7, some .boolean, [], (0, 0, 0, 110)) else (match zmt[mi / 16]? with
  | some g => match g[mi % 16]? with
    | some r => zmdw r.2.2.2.2.2 (zlw r.2.2.2.2.2.1)
    | none => none
  | none => none)
noncomputable def zEn (e : Nat) : String := bif Nat.beq e 0 then "java/util/NoSuchElementException" else "java/lang/IllegalArgumentException"
noncomputable def zrc (ci : Nat) (cls : String) : Bool := bif Nat.beq ci 50 then decide (cls = "java/lang/String") else (match vwCl[ci]? with
  | some (C, _, _) => decide (C = cls)
  | none => false)
noncomputable def zcwV (own : String) (idx : Nat) (r : zr) (M : zmrow) : Bool := zat r.2.2.2 (.methodLink own idx M.1) && (zat M.2.2.2.2.2.2.1 (.instanceMethod M.1) && (zat M.2.2.2.2.2.2.2.1 (.selects M.1.cls M.1 M.1) && (zrc r.2.2.1 M.1.cls && (M.2.2.2.2.1.isEmpty && plainName M.1.cls))))
noncomputable def zcwS (own : String) (idx : Nat) (r : zr) (M : zmrow) : Bool := zat M.2.2.2.2.2.2.1 (.static M.1) && (bif Nat.beq r.1 1 then zat r.2.2.2 (.methodLink own idx M.1) else (Nat.beq r.1 3 && (zatN r.2.2.2 (.methodLinkNest own idx M.1 "HeapJudge") && M.2.2.2.2.1.isEmpty)))
noncomputable def zcwI (own : String) (idx : Nat) (r : zr) (M : zmrow) : Bool := (decide (M.1.name = "<init>") && (zat M.2.2.2.2.2.2.1 (.instanceMethod M.1) && M.2.2.2.2.1.isEmpty)) && (bif Nat.beq r.1 2 then zat r.2.2.2 (.methodLink own idx M.1) else (Nat.beq r.1 4 && zatN r.2.2.2 (.methodLinkNest own idx M.1 "HeapJudge")))
/-- a call's words -/
noncomputable def zcw (own : String) (i : Instr) (r : zr) : Bool := match i with
  | .invokevirtual idx => Nat.beq r.1 0 && (match zmd r.2.1 with
    | some M => zcwV own idx r M
    | none => false)
  | .invokestatic idx => bif Nat.beq r.1 7 then zat r.2.2.2 (.methodLink own idx arraycopyName) else !Nat.beq r.1 5 && (match zmd r.2.1 with
    | some M => zcwS own idx r M
    | none => false)
  | .invokespecial idx => bif Nat.beq r.1 5 then zat r.2.2.2 (.methodLink own idx objectInit) else !Nat.beq r.1 7 && (match zmd r.2.1 with
    | some M => zcwI own idx r M
    | none => false)
  | _ => true
noncomputable def zrk (k : Nat) (ret : Option FieldType) : Bool := match k, ret with
  | 0, none => true
  | 1, some .int => true
  | 2, some .boolean => true
  | 3, some (.object _) => true
  | 3, some (.array _) => true
  | 4, some .long => true
  | 5, some .char => true
  | 6, some .byte => true
  | _, _ => false
/-- a method's rows of handlers, by what they catch -/
noncomputable def zhok (own : String) : List (Nat × Nat × Nat × Nat) → List (Nat × Nat × Nat × Nat) → Bool
  | [], [] => true
  | (a, b, t, c) :: r, (a', b', t', e) :: r' => (Nat.beq a a' && (Nat.beq b b' && Nat.beq t t')) && (decide (Cond.classLink own c (zEn e) ∈ zGd) && (!Nat.beq c 0 && (Nat.ble e 1 && zhok own r r')))
  | _, _ => false
noncomputable def zmok (mi : Nat) : Bool := match zmd mi, zmeth mi with
  | some (y, b, mL, ret, hh, pl), some (nL, rk, na, hs) => (Nat.beq nL mL && (Nat.ble mL 40 && (plainFor y && (hh.isEmpty || plainName y.cls)))) && ((decide (y.cls ≠ "java/lang/invoke/MethodHandle") && decide (y.cls ≠ "java/lang/invoke/VarHandle")) && ((zhok y.cls hh hs && (zat pl.2.2.2 (.initialized y.cls) && (zrk rk ret && (bif zat pl.2.1 (.static y) then decide ((parseMethodDescriptor y.desc).map (fun d => d.parameters.length) = some na) else (Nat.ble 1 na && decide ((parseMethodDescriptor y.desc).map (fun d => d.parameters.length) = some (na - 1)))))))))
  | _, _ => false
/-- where a throw begins: in which method, at which place, of what -/
noncomputable def z99 (mi pc : Nat) (i : Instr) (r : zr) : Bool := match i with
  | .new k => bif Nat.beq r.1 99 then (Nat.beq mi 152 && (Nat.beq pc 14 && (Nat.beq k 226 && Nat.beq r.2.1 0))) || (Nat.beq mi 153 && (Nat.beq pc 14 && (Nat.beq k 233 && Nat.beq r.2.1 1))) else true
  | _ => true
noncomputable def zckO (mi pc : Nat) (M : zmrow) (o : zop) : Bool := decide (decode M.2.1 pc = .ok (o.1, o.2.1)) && (zlen o.1 o.2.1 && (zwd M.1.cls M.1.name o.1 o.2.2 && (zcw M.1.cls o.1 o.2.2 && z99 mi pc o.1 o.2.2)))
noncomputable def zckC (mi b : Nat) (M : zmrow) (c : List (Option zop)) : Bool := (List.range c.length).all (fun k => match c[k]? with
  | some (some o) => zckO mi (16 * b + k) M o
  | _ => true)
noncomputable def zckT (mi : Nat) (t : List (List (Option zop))) : Bool := match zmd mi with
  | some M => (List.range t.length).all (fun b => match t[b]? with
    | some c => zckC mi b M c
    | none => true)
  | none => false
noncomputable def zckG (G : Nat) : Bool := match zcodes[G]? with
  | some g => (List.range g.length).all (fun a => match g[a]? with
    | some t => zckT (16 * G + a) t
    | none => true)
  | none => true
theorem zall_at {n k : Nat} {f : Nat → Bool} (h : (List.range n).all f = true) (hk : k < n) : f k = true := List.all_eq_true.mp h k (List.mem_range.mpr hk)
/-- one chunk of a method's code -/
noncomputable def zckB (mi b : Nat) (t : List (List (Option zop))) : Bool := match zmd mi with
  | some M => (match t[b]? with
    | some c => zckC mi b M c
    | none => true)
  | none => false
noncomputable def zckQ (mi a n : Nat) (t : List (List (Option zop))) : Bool := (List.range n).all (fun b => zckB mi (a + b) t)
theorem zckQ_at {mi a n b : Nat} {t : List (List (Option zop))} (h : zckQ mi a n t = true) (h1 : a ≤ b) (h2 : b < a + n) : zckB mi b t = true := by
  have h3 := zall_at h (k := b - a) (by omega)
  rw [show a + (b - a) = b by omega] at h3
  exact h3
theorem zckT_of {mi n : Nat} {t : List (List (Option zop))} (hn : t.length = n + 1) (h : ∀ b, b < n + 1 → zckB mi b t = true) : zckT mi t = true := by
  unfold zckT
  cases hM : zmd mi with
  | none =>
    cases t with
    | nil => cases hn
    | cons c r =>
      have := h 0 (by rw [← hn]; simp)
      unfold zckB at this
      rw [hM] at this
      cases this
  | some M =>
    refine List.all_eq_true.mpr (fun b hb => ?_)
    have hb : b < t.length := List.mem_range.mp hb
    have := h b (by omega)
    unfold zckB at this
    rw [hM] at this
    exact this
theorem zck0 : zckG 0 = true := by decide +kernel
theorem zck1 : zckG 1 = true := by decide +kernel
theorem zck2 : zckG 2 = true := by decide +kernel
theorem zck3 : zckG 3 = true := by decide +kernel
theorem zck4 : zckG 4 = true := by decide +kernel
theorem zck5 : zckG 5 = true := by decide +kernel
theorem zck6 : zckG 6 = true := by decide +kernel
theorem zck7 : zckG 7 = true := by decide +kernel
theorem zck8 : zckG 8 = true := by decide +kernel
theorem zck9 : zckG 9 = true := by decide +kernel
theorem zck10 : zckG 10 = true := by decide +kernel
theorem zck11 : zckG 11 = true := by decide +kernel
theorem zck12 : zckG 12 = true := by decide +kernel
theorem zck13 : zckG 13 = true := by decide +kernel
theorem zck15 : zckG 15 = true := by decide +kernel
theorem zck16 : zckG 16 = true := by decide +kernel
theorem zck17 : zckG 17 = true := by decide +kernel
theorem zmo0 : (List.range 8).all (fun k => zmok (0 + k)) = true := by decide +kernel
theorem zmo1 : (List.range 8).all (fun k => zmok (8 + k)) = true := by decide +kernel
theorem zmo2 : (List.range 8).all (fun k => zmok (16 + k)) = true := by decide +kernel
theorem zmo3 : (List.range 8).all (fun k => zmok (24 + k)) = true := by decide +kernel
theorem zmo4 : (List.range 8).all (fun k => zmok (32 + k)) = true := by decide +kernel
theorem zmo5 : (List.range 8).all (fun k => zmok (40 + k)) = true := by decide +kernel
theorem zmo6 : (List.range 8).all (fun k => zmok (48 + k)) = true := by decide +kernel
theorem zmo7 : (List.range 8).all (fun k => zmok (56 + k)) = true := by decide +kernel
theorem zmo8 : (List.range 8).all (fun k => zmok (64 + k)) = true := by decide +kernel
theorem zmo9 : (List.range 8).all (fun k => zmok (72 + k)) = true := by decide +kernel
theorem zmo10 : (List.range 8).all (fun k => zmok (80 + k)) = true := by decide +kernel
theorem zmo11 : (List.range 8).all (fun k => zmok (88 + k)) = true := by decide +kernel
theorem zmo12 : (List.range 8).all (fun k => zmok (96 + k)) = true := by decide +kernel
theorem zmo13 : (List.range 8).all (fun k => zmok (104 + k)) = true := by decide +kernel
theorem zmo14 : (List.range 8).all (fun k => zmok (112 + k)) = true := by decide +kernel
theorem zmo15 : (List.range 8).all (fun k => zmok (120 + k)) = true := by decide +kernel
theorem zmo16 : (List.range 8).all (fun k => zmok (128 + k)) = true := by decide +kernel
theorem zmo17 : (List.range 8).all (fun k => zmok (136 + k)) = true := by decide +kernel
theorem zmo18 : (List.range 8).all (fun k => zmok (144 + k)) = true := by decide +kernel
theorem zmo19 : (List.range 8).all (fun k => zmok (152 + k)) = true := by decide +kernel
theorem zmo20 : (List.range 8).all (fun k => zmok (160 + k)) = true := by decide +kernel
theorem zmo21 : (List.range 8).all (fun k => zmok (168 + k)) = true := by decide +kernel
theorem zmo22 : (List.range 8).all (fun k => zmok (176 + k)) = true := by decide +kernel
theorem zmo23 : (List.range 8).all (fun k => zmok (184 + k)) = true := by decide +kernel
theorem zmo24 : (List.range 8).all (fun k => zmok (192 + k)) = true := by decide +kernel
theorem zmo25 : (List.range 8).all (fun k => zmok (200 + k)) = true := by decide +kernel
theorem zmo26 : (List.range 8).all (fun k => zmok (208 + k)) = true := by decide +kernel
theorem zmo27 : (List.range 8).all (fun k => zmok (216 + k)) = true := by decide +kernel
theorem zmo28 : (List.range 8).all (fun k => zmok (224 + k)) = true := by decide +kernel
theorem zmo29 : (List.range 8).all (fun k => zmok (232 + k)) = true := by decide +kernel
theorem zmo30 : (List.range 8).all (fun k => zmok (240 + k)) = true := by decide +kernel
theorem zmo31 : (List.range 8).all (fun k => zmok (248 + k)) = true := by decide +kernel
theorem zmo32 : (List.range 8).all (fun k => zmok (256 + k)) = true := by decide +kernel
theorem zmo33 : (List.range 8).all (fun k => zmok (264 + k)) = true := by decide +kernel
theorem zmo34 : (List.range 8).all (fun k => zmok (272 + k)) = true := by decide +kernel
theorem zmo35 : (List.range 8).all (fun k => zmok (280 + k)) = true := by decide +kernel
theorem zmo36 : (List.range 1).all (fun k => zmok (288 + k)) = true := by decide +kernel
