noncomputable def zfetch (mi pc : Nat) : Option zop := match nth zcodes (mi / 16) with
  | some g => match nth g (mi % 16) with
    | some t => match nth t (pc / 16) with
      | some c => match nth c (pc % 16) with
        | some o => o
        | none => none
      | none => none
    | none => none
  | none => none
noncomputable def zmeth (mi : Nat) : Option (Nat × Nat × Nat × List (Nat × Nat × Nat × Nat)) := match nth zet (mi / 16) with
  | some g => nth g (mi % 16)
  | none => none
/-- the top n, the deepest first, and the rest -/
noncomputable def zpop (n : Nat) : List zv → List zv → Option (List zv × List zv) := Nat.rec (motive := fun _ => List zv → List zv → Option (List zv × List zv)) (fun acc st => some (acc, st)) (fun _ ih acc st => match st with
  | a :: st' => ih (a :: acc) st'
  | [] => none) n
def zcat (st : List zv) : Nat := (st.map (fun a => bif zisL a then 2 else 1)).sum
noncomputable def zent (args : List zv) (nL : Nat) : Option (List (Option zv)) := bif args.all (fun a => !zisL a) && Nat.ble args.length nL then appK (List.replicate (nL - args.length) none) (args.map some) (fun l => some l) else none
/-- the receiver: a cell of the class, a text -/
noncomputable def zrcv (ci : Nat) (a : zv) (h : zh) : Bool := match a with
  | .inl (some q) => bif Nat.beq ci 50 then Nat.ble 2000000 q && Nat.blt q 3000000 else (match nth h q with
    | some (.inr (c, _)) => Nat.beq c ci
    | _ => false)
  | _ => false
def zisC (a : zv) : Bool := match a with
  | .inl (some q) => Nat.blt q 1000000
  | _ => false
/-- may it be answered: 1 int, 2 boolean, 3 a reference, 4 long, 5 char, 6 byte -/
def zret (t : Nat) (a : zv) : Bool := match t, a with
  | 1, .inr (.inl _) => true
  | 2, .inr (.inl (x, none)) => decide (x = 0) || decide (x = 1)
  | 3, .inl (some q) => Nat.blt q 1000000
  | 3, .inl none => true
  | 4, .inr (.inr (.inl _)) => true
  | 5, .inr (.inl (x, none)) => decide (0 ≤ x) && decide (x ≤ 127)
  | 6, .inr (.inl (x, none)) => decide (0 ≤ x) && decide (x ≤ 127)
  | _, _ => false
/-- the row of the table that takes a throw of kind e at pc -/
def zhand (hs : List (Nat × Nat × Nat × Nat)) (pc e : Nat) : Option Nat := match hs with
  | [] => none
  | (a, b, t, k) :: r => bif Nat.ble a pc && Nat.blt pc b && Nat.beq k e then some t else zhand r pc e
abbrev zR : Type := Option (zo × zh)
abbrev zF : Type := Nat → Nat → Nat → List (Option zv) → List zv → zh → zR
noncomputable def zcall (ih : zF) (d mi pc : Nat) (ls : List (Option zv)) (st : List zv) (h : zh) (r : zr) : zR := bif Nat.beq r.1 5 then (match st with
    | a :: st' => bif zisC a && Nat.ble (zcat st') 8 then tick (ih d mi (pc + 3) ls st' h) else none
    | [] => none) else bif Nat.beq r.1 7 then (match st with
    | n :: dp :: b :: sp :: a :: st' => match zarr h a, zarr h b with
      | some (_, t0, f0), some (_, t1, f1) => bif Nat.beq t0 0 && (Nat.beq t1 0 && Nat.ble (zcat st') 8) then (match zix n 1, zix sp (f0.length + 1), zix dp (f1.length + 1) with
        | some _, some _, some _ => tick (ih d mi (pc + 3) ls st' h)
        | _, _, _ => none) else none
      | _, _ => none
    | _ => none) else match zmeth r.2.1, d with
  | some (nL, _, n, _), d' + 1 => match zpop n [] st with
    | some (args, rest) => bif Nat.ble (zcat rest) 8 && (bif Nat.beq r.1 0 || Nat.beq r.1 6 then (match args with
        | a :: _ => zrcv r.2.2.1 a h
        | [] => false) else bif Nat.beq r.1 2 || Nat.beq r.1 4 then (match args with
        | a :: _ => zisC a
        | [] => false) else true) then (match zent args nL with
      | some l0 => match ih d' r.2.1 0 l0 [] h with
        | some (.inl none, h') => frc (pc + 3) (fun pc' => tick (ih d mi pc' ls rest h'))
        | some (.inl (some v), h') => frc (pc + 3) (fun pc' => tick (ih d mi pc' ls (v :: rest) h'))
        | some (.inr e, h') => match zmeth mi with
          | some (_, _, _, hs) => match zhand hs pc e with
            | some t => frc t (fun t => tick (ih d mi t ls [.inl (some 1000001)] h'))
            | none => some (.inr e, h')
          | none => none
        | none => none
      | none => none) else none
    | none => none
  | _, _ => none
noncomputable def zgo (scr : List zv) (ih : zF) : zF := fun d mi pc ls st h => match zfetch mi pc with
  | none => none
  | some (i, _, r) => match i with
    | .return_ => match zmeth mi, st with
      | some (_, 0, _, _), [] => some (.inl none, h)
      | _, _ => none
    | .ireturn => match zmeth mi, st with
      | some (_, t, _, _), [v] => bif zret t v && zisI v then some (.inl (some v), h) else none
      | _, _ => none
    | .areturn => match zmeth mi, st with
      | some (_, t, _, _), [v] => bif zret t v && zisA v then some (.inl (some v), h) else none
      | _, _ => none
    | .lreturn => match zmeth mi, st with
      | some (_, t, _, _), [v] => bif zret t v && zisL v then some (.inl (some v), h) else none
      | _, _ => none
    | .invokestatic _ => zcall ih d mi pc ls st h r
    | .invokevirtual _ => zcall ih d mi pc ls st h r
    | .invokespecial _ => zcall ih d mi pc ls st h r
    | .new _ => bif Nat.beq r.1 99 then some (.inr r.2.1, h) else match stH scr i r pc ls st h with
      | some (pc', ls', st', p) => hapK h p (fun h' => frc pc' (fun pc'' => tick (ih d mi pc'' ls' st' h')))
      | none => none
    | i => match stH scr i r pc ls st h with
      | some (pc', ls', st', p) => hapK h p (fun h' => frc pc' (fun pc'' => tick (ih d mi pc'' ls' st' h')))
      | none => none
noncomputable def zrun (scr : List zv) (n : Nat) : zF := Nat.rec (motive := fun _ => zF) (fun _ _ _ _ _ _ => none) (fun _ ih => zgo scr ih) n
/-- the law over this script: it ends, answers 1, and keeps its room -/
noncomputable def zchk (n d : Nat) (scr : List zv) : Bool := match zrun scr n d 289 0 (some (.inl (some 1000000)) :: List.replicate 6 none) [] [] with
  | some (.inl (some (.inr (.inl (x, none)))), h) => decide (x = 1) && (Nat.ble h.length 600000 && Nat.ble (zsl h) 7000000)
  | _ => false
