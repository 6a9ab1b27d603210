noncomputable def zfetch (mi pc : Nat) : Option zop := match nth zcodes (mi / 16) with
  | some g => match nth g (mi % 16) with
    | some t => match nth t (pc / 16) with
      | some c => match nth c (pc % 16) with
        | some o => o
        | none => none
      | none => none
    | none => none
  | none => none
noncomputable def zmeth (mi : Nat) : Option (Nat × Nat × Nat × List (Nat × Nat × Nat × Nat)) := match nth zet (mi / 16) with
  | some g => nth g (mi % 16)
  | none => none
/-- the top n, the deepest first, and the rest -/
noncomputable def zpop (n : Nat) : List zv → List zv → Option (List zv × List zv) := Nat.rec (motive := fun _ => List zv → List zv → Option (List zv × List zv)) (fun acc st => some (acc, st)) (fun _ ih acc st => match st with
  | a :: st' => ih (a :: acc) st'
  | [] => none) n
def zcat (st : List zv) : Nat := (st.map (fun a => bif zisL a then 2 else 1)).sum
noncomputable def zent (args : List zv) (nL : Nat) : Option (List (Option zv)) := bif args.all (fun a => !zisL a) && Nat.ble args.length nL then appK (List.replicate (nL - args.length) none) (args.map some) (fun l => some l) else none
/-- the receiver: a cell of the class, a text -/
noncomputable def zrcv (ci : Nat) (a : zv) (h : zh) : Bool := match a with
  | .inl (some q) => bif Nat.beq ci 50 then Nat.ble 2000000 q && Nat.blt q 3000000 else (match nth h q with
    | some (.inr (c, _)) => Nat.beq c ci
    | _ => false)
  | _ => false
def zisC (a : zv) : Bool := match a with
  | .inl (some q) => Nat.blt q 1000000
  | _ => false
/-- may it be answered: 1 int, 2 boolean, 3 a reference, 4 long, 5 char, 6 byte -/
def zret (t : Nat) (a : zv) : Bool := match t, a with
  | 1, .inr (.inl _) => true
  | 2, .inr (.inl (x, none)) => decide (x = 0) || decide (x = 1)
  | 3, .inl _ => true
  | 4, .inr (.inr (.inl _)) => true
  | 5, .inr (.inl (x, none)) => decide (0 ≤ x) && decide (x ≤ 127)
  | 6, .inr (.inl (x, none)) => decide (0 ≤ x) && decide (x ≤ 127)
  | _, _ => false
/-- the row of the table that takes a throw of kind e at pc -/
def zhand (hs : List (Nat × Nat × Nat × Nat)) (pc e : Nat) : Option Nat := match hs with
  | [] => none
  | (a, b, t, k) :: r => bif Nat.ble a pc && Nat.blt pc b && Nat.beq k e then some t else zhand r pc e
abbrev zR : Type := Option (zo × zh × Nat)
/-- a callee: method, locals, heap, how much was thrown so far -/
abbrev zC : Type := Nat → List (Option zv) → zh → Nat → zR
/-- method, place, locals, stack, heap, how much was thrown so far -/
abbrev zF : Type := Nat → Nat → List (Option zv) → List zv → zh → Nat → zR
/-- the first of the arguments is as the call wants it -/
noncomputable def zargs (r : zr) (args : List zv) (h : zh) : Bool := bif Nat.beq r.1 0 then (match args with
    | a :: _ => zrcv r.2.2.1 a h
    | [] => false) else bif Nat.beq r.1 2 || Nat.beq r.1 4 then (match args with
    | a :: _ => zisC a
    | [] => false) else true
/-- behind a call -/
noncomputable def zback (vt : Bool) (ih : zF) (mi pc : Nat) (ls : List (Option zv)) (rest : List zv) (x : zR) : zR := match x with
  | some (.inl none, h', t') => frc (pc + 3) (fun pc' => tick (ih mi pc' ls rest h' t'))
  | some (.inl (some v), h', t') => frc (pc + 3) (fun pc' => tick (ih mi pc' ls (v :: rest) h' t'))
  | some (.inr e, h', t') => bif vt then (match zmeth mi with
    | some (_, _, _, hs) => match zhand hs pc e with
      | some k => frc k (fun k => tick (ih mi k ls [.inl (some 1000001)] h' t'))
      | none => some (.inr e, h', t')
    | none => none) else none
  | none => none
noncomputable def zcallM (call : zC) (ih : zF) (mi pc : Nat) (ls : List (Option zv)) (st : List zv) (h : zh) (t : Nat) (r : zr) : zR := match zmeth r.2.1 with
  | some (nL, _, n, _) => match zpop n [] st with
    | some (args, rest) => bif Nat.ble (zcat rest) 8 && zargs r args h then (match zent args nL with
      | some l0 => zback (Nat.beq r.1 0) ih mi pc ls rest (call r.2.1 l0 h t)
      | none => none) else none
    | none => none
  | none => none
/-- Object's own start -/
noncomputable def zcallO (ih : zF) (mi pc : Nat) (ls : List (Option zv)) (st : List zv) (h : zh) (t : Nat) : zR := match st with
  | a :: st' => bif zisC a && Nat.ble (zcat st') 8 then frc (pc + 3) (fun pc' => tick (ih mi pc' ls st' h t)) else none
  | [] => none
/-- a copy within what both have -/
def zcpl (f0 f1 : List zv) (j k i : Nat) : List zv := f1.take k ++ ((f0.drop j).take i ++ f1.drop (k + i))
noncomputable def zcallC (ih : zF) (mi pc : Nat) (ls : List (Option zv)) (st : List zv) (h : zh) (t : Nat) : zR := match st with
  | n :: dp :: b :: sp :: a :: st' => match zarr h a, zarr h b with
    | some (_, t0, f0), some (q1, t1, f1) => bif Nat.beq t0 0 && (Nat.beq t1 0 && Nat.ble (zcat st') 8) then (match zix n (f0.length + 1), zix sp (f0.length + 1), zix dp (f1.length + 1) with
      | some i, some j, some k => bif Nat.ble (j + i) f0.length && Nat.ble (k + i) f1.length then frc (pc + 3) (fun pc' => tick (ih mi pc' ls st' (h.set q1 (.inl (0, zcpl f0 f1 j k i))) t)) else none
      | _, _, _ => none) else none
    | _, _ => none
  | _ => none
noncomputable def zcall (call : zC) (ih : zF) (mi pc : Nat) (ls : List (Option zv)) (st : List zv) (h : zh) (t : Nat) (r : zr) : zR := bif Nat.beq r.1 5 then zcallO ih mi pc ls st h t else bif Nat.beq r.1 7 then zcallC ih mi pc ls st h t else zcallM call ih mi pc ls st h t r
noncomputable def zstep (scr : Option (List zv)) (ih : zF) (mi pc : Nat) (ls : List (Option zv)) (st : List zv) (h : zh) (t : Nat) (i : Instr) (r : zr) : zR := match stH scr i r pc ls st h with
  | some (pc', ls', st', p) => hapK h p (fun h' => frc pc' (fun pc'' => tick (ih mi pc'' ls' st' h' t)))
  | none => none
noncomputable def zfin (mi : Nat) (st : List zv) (h : zh) (t : Nat) (f : zv → Bool) : zR := match zmeth mi, st with
  | some (_, k, _, _), [v] => bif zret k v && f v then some (.inl (some v), h, t) else none
  | _, _ => none
noncomputable def zvoid (mi : Nat) (st : List zv) (h : zh) (t : Nat) : zR := match zmeth mi, st with
  | some (_, k, _, _), [] => bif Nat.beq k 0 then some (.inl none, h, t) else none
  | _, _ => none
/-- a throw of one's own -/
noncomputable def zthr (st : List zv) (r : zr) (h : zh) (t : Nat) : zR := match st with
  | [] => some (.inr r.2.1, h, t + 1)
  | _ => none
noncomputable def zgo (scr : Option (List zv)) (call : zC) (ih : zF) : zF := fun mi pc ls st h t => match zfetch mi pc with
  | none => none
  | some (i, _, r) => match i with
    | .return_ => zvoid mi st h t
    | .ireturn => zfin mi st h t zisI
    | .areturn => zfin mi st h t zisA
    | .lreturn => zfin mi st h t zisL
    | .invokestatic _ => zcall call ih mi pc ls st h t r
    | .invokevirtual _ => zcall call ih mi pc ls st h t r
    | .invokespecial _ => zcall call ih mi pc ls st h t r
    | .new k => bif Nat.beq r.1 99 then zthr st r h t else zstep scr ih mi pc ls st h t (.new k) r
    | i => zstep scr ih mi pc ls st h t i r
noncomputable def zloop (scr : Option (List zv)) (call : zC) (n : Nat) : zF := Nat.rec (motive := fun _ => zF) (fun _ _ _ _ _ _ => none) (fun _ ih => zgo scr call ih) n
/-- callees of a depth, with so much fuel in each frame -/
noncomputable def zrun (nn d : Nat) : zC := Nat.rec (motive := fun _ => zC) (fun _ _ _ _ => none) (fun _ ih => fun mi l0 h t => zloop none ih nn mi 0 l0 [] h t) d
