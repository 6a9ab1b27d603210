def zld (ls : List (Option zv)) (i : Nat) (t : zv → Bool) : Option zv := match ls[i]? with
  | some (some a) => bif t a then some a else none
  | _ => none
noncomputable def zsto (ls : List (Option zv)) (i : Nat) (v : zv) : Option (List (Option zv)) := bif Nat.blt i ls.length && zprev ls i then setK (some v) ls i (fun l => some l) else none
noncomputable def zsto2 (ls : List (Option zv)) (i : Nat) (v : zv) : Option (List (Option zv)) := bif Nat.blt (i + 1) ls.length && zprev ls i then setK (some v) ls i (fun l => setK none l (i + 1) (fun l' => some l')) else none
abbrev zq : Type := Nat × List (Option zv) × List zv
noncomputable def zbin (f : zv → zv → Option zv) (pc : Nat) (ls : List (Option zv)) (st : List zv) : Option zq := match st with
  | b :: a :: r => match f a b with
    | some v => some (pc + 1, ls, v :: r)
    | none => none
  | _ => none
noncomputable def zun (f : zv → Option zv) (pc : Nat) (ls : List (Option zv)) (st : List zv) : Option zq := match st with
  | a :: r => match f a with
    | some v => some (pc + 1, ls, v :: r)
    | none => none
  | _ => none
noncomputable def zrem (a b : zv) : Option zv := match b with
  | .inr (.inl (y, none)) => bif decide (y = 0) then none else bop (fun x y => x - x / y * y) a b
  | _ => none
noncomputable def zi2c (a : zv) : Option zv := match a with
  | .inr (.inl (x, none)) => frcI (x.toUInt32 % 65536).toInt32 (fun z => some (zi z))
  | _ => none
noncomputable def zi2l (a : zv) : Option zv := match a with
  | .inr (.inl (x, none)) => frcL x.toInt64 (fun z => some (.inr (.inr (.inl z))))
  | _ => none
noncomputable def zlcmp (a b : zv) : Option zv := match a, b with
  | .inr (.inr (.inl x)), .inr (.inr (.inl y)) => frcI (lg_cmp x y) (fun z => some (zi z))
  | _, _ => none
def zcond (c : ClassFile.Cond) (a b : zv) : Option Bool := match a, b with
  | .inr (.inl x), .inr (.inl y) => zcmp c x y
  | _, _ => none
/-- a jump: where to, if it is taken; else the next one -/
def zbr (t : Option Bool) (pc : Nat) (off : Int) (ls : List (Option zv)) (st : List zv) : Option zq := match t with
  | some true => match ztg pc off with
    | some t => some (t, ls, st)
    | none => none
  | some false => some (pc + 3, ls, st)
  | none => none
def zsw (a : Int32 × Option Int32) (dflt lo hi : Int) (offs : Array Int) : Option Int := bif decide ((zhi a).toInt < lo) || decide (hi < a.1.toInt) then some dflt else match a.2 with
  | none => bif decide (a.1.toInt < lo) || decide (hi < a.1.toInt) then none else offs[(a.1.toInt - lo).toNat]?
  | some _ => none
/-- an instruction that leaves the heap alone -/
noncomputable def stA (i : Instr) (r : zr) (pc : Nat) (ls : List (Option zv)) (st : List zv) : Option zq := match i with
  | .aconst_null => some (pc + 1, ls, .inl none :: st)
  | .iconst n => frcI (Int32.ofInt n) (fun v => some (pc + 1, ls, zi v :: st))
  | .bipush n => frcI (Int8.ofInt n).toInt32 (fun v => some (pc + 2, ls, zi v :: st))
  | .sipush n => frcI (Int16.ofInt n).toInt32 (fun v => some (pc + 3, ls, zi v :: st))
  | .lconst n => frcL (Int64.ofNat (n : Nat)) (fun v => some (pc + 1, ls, .inr (.inr (.inl v)) :: st))
  | .iload_n k => match zld ls k zisI with
    | some a => some (pc + 1, ls, a :: st)
    | none => none
  | .iload k => match zld ls k zisI with
    | some a => some (pc + 2, ls, a :: st)
    | none => none
  | .aload_n k => match zld ls k zisA with
    | some a => some (pc + 1, ls, a :: st)
    | none => none
  | .aload k => match zld ls k zisA with
    | some a => some (pc + 2, ls, a :: st)
    | none => none
  | .lload_n k => match zld ls k zisL with
    | some a => some (pc + 1, ls, a :: st)
    | none => none
  | .istore_n k => match st with
    | a :: st' => bif zisI a then (match zsto ls k a with
      | some ls' => some (pc + 1, ls', st')
      | none => none) else none
    | _ => none
  | .istore k => match st with
    | a :: st' => bif zisI a then (match zsto ls k a with
      | some ls' => some (pc + 2, ls', st')
      | none => none) else none
    | _ => none
  | .astore_n k => match st with
    | a :: st' => bif zisA a then (match zsto ls k a with
      | some ls' => some (pc + 1, ls', st')
      | none => none) else none
    | _ => none
  | .astore k => match st with
    | a :: st' => bif zisA a then (match zsto ls k a with
      | some ls' => some (pc + 2, ls', st')
      | none => none) else none
    | _ => none
  | .lstore_n k => match st with
    | a :: st' => bif zisL a then (match zsto2 ls k a with
      | some ls' => some (pc + 1, ls', st')
      | none => none) else none
    | _ => none
  | .iinc k n => match zld ls k zisI with
    | some a => match bop (fun x y => x + y) a (zi (Int32.ofInt n)) with
      | some v => match zsto ls k v with
        | some ls' => some (pc + 3, ls', st)
        | none => none
      | none => none
    | none => none
  | .iadd => zbin (bop (fun x y => x + y)) pc ls st
  | .isub => zbin (bop (fun x y => x - y)) pc ls st
  | .imul => zbin (bop (fun x y => x * y)) pc ls st
  | .iand => zbin zand pc ls st
  | .ior => zbin (bop (fun x y => x ||| y)) pc ls st
  | .ixor => zbin (bop (fun x y => x ^^^ y)) pc ls st
  | .ishl => zbin (bop (fun x y => x <<< (y &&& 31))) pc ls st
  | .ishr => zbin (bop (fun x y => x >>> (y &&& 31))) pc ls st
  | .iushr => zbin (bop (fun x y => (x.toUInt32 >>> (y.toUInt32 &&& Int32.toUInt32 31)).toInt32)) pc ls st
  | .irem => zbin zrem pc ls st
  | .ladd => zbin (lop (fun x y => x + y)) pc ls st
  | .lmul => zbin (lop (fun x y => x * y)) pc ls st
  | .lcmp => zbin zlcmp pc ls st
  | .i2c => zun zi2c pc ls st
  | .i2l => zun zi2l pc ls st
  | .dup => match st with
    | a :: st' => bif zisL a then none else some (pc + 1, ls, a :: a :: st')
    | _ => none
  | .dup2 => match st with
    | a :: b :: st' => bif zisL a || zisL b then none else some (pc + 1, ls, a :: b :: a :: b :: st')
    | _ => none
  | .pop => match st with
    | a :: st' => bif zisL a then none else some (pc + 1, ls, st')
    | _ => none
  | .pop2 => match st with
    | a :: st' => bif zisL a then some (pc + 1, ls, st') else none
    | _ => none
  | .goto off => zbr (some true) pc off ls st
  | .ifCond c off => match st with
    | a :: st' => zbr (zcond c a (zi 0)) pc off ls st'
    | _ => none
  | .if_icmp c off => match st with
    | b :: a :: st' => zbr (zcond c a b) pc off ls st'
    | _ => none
  | .ifnull off => match st with
    | .inl none :: st' => zbr (some true) pc off ls st'
    | .inl (some q) :: st' => bif Nat.blt q 1000000 then zbr (some false) pc off ls st' else none
    | _ => none
  | .ifnonnull off => match st with
    | .inl none :: st' => zbr (some false) pc off ls st'
    | .inl (some q) :: st' => bif Nat.blt q 1000000 then zbr (some true) pc off ls st' else none
    | _ => none
  | .tableswitch dflt lo hi offs => match st with
    | .inr (.inl a) :: st' => match zsw a dflt lo hi offs with
      | some off => zbr (some true) pc off ls st'
      | none => none
    | _ => none
  | .lookupswitch dflt ps => match st with
    | .inr (.inl (x, none)) :: st' => bif (ps.toList.zip (ps.toList.drop 1)).all (fun (a, next) => a.1 < next.1) then zbr (some true) pc (Op.lookupswitch.offset ps.toList dflt x.toInt) ls st' else none
    | _ => none
  | _ => none
/-- a number that is known, and lies among n -/
noncomputable def zix (a : zv) (n : Nat) : Option Nat := match a with
  | .inr (.inl (x, none)) => bif decide (x < 0) then none else frc x.toNatClampNeg (fun i => bif Nat.blt i n then some i else none)
  | _ => none
noncomputable def zsize (a : zv) : Option Nat := match a with
  | .inr (.inl (x, none)) => bif decide (x < 0) then none else frc x.toNatClampNeg (fun i => bif Nat.ble i 1000 then some i else none)
  | _ => none
/-- may it be stored as this kind: 0 int, 1 boolean, 2 a reference, 3 long -/
def zfit (t : Nat) (a : zv) : Bool := match t, a with
  | 0, .inr (.inl _) => true
  | 1, .inr (.inl (x, none)) => decide (x = 0) || decide (x = 1)
  | 2, .inl _ => true
  | 3, .inr (.inr (.inl _)) => true
  | _, _ => false
def zdef (t : Nat) : zv := match t with
  | 0 => zi 0
  | 1 => zi 0
  | 3 => .inr (.inr (.inl 0))
  | _ => .inl none
/-- the field kinds of the classes -/
def zkinds : List (List Nat) := [[2], [2, 2, 2, 2, 2, 0, 0], [2, 0, 0], [2, 2], [1, 2, 2, 2, 2, 1, 0, 0, 0, 0, 0, 0], [2, 2, 0, 0, 0, 0], [2, 0], [2, 2, 2, 2, 0, 0, 0, 0, 0, 0], [2, 2], [2, 2], [2, 2, 2, 2, 0, 1, 0, 0, 0, 0, 0], [2, 0, 0, 0, 0, 2, 2, 2, 2, 2, 2], [0, 2, 0, 0, 0, 0, 0, 0, 2, 2, 2, 2, 0, 2, 2, 2, 2, 2, 2, 2, 2, 2, 2, 2, 2, 2, 0, 0, 0, 0, 0, 1, 1, 2, 2, 2, 2, 2, 2, 0, 0, 0, 0, 0, 0, 0, 2, 1]]
noncomputable def zarr (h : zh) (a : zv) : Option (Nat × Nat × List zv) := match a with
  | .inl (some q) => match nth h q with
    | some (.inl (t, fs)) => some (q, t, fs)
    | _ => none
  | _ => none
noncomputable def zald (t : Nat → Bool) (pc : Nat) (ls : List (Option zv)) (st : List zv) (h : zh) : Option zst := match st with
  | ix :: a :: st' => match zarr h a with
    | some (_, tg, fs) => bif t tg then (match zix ix fs.length with
      | some i => match nth fs i with
        | some v => some (pc + 1, ls, v :: st', none)
        | none => none
      | none => none) else none
    | none => none
  | _ => none
noncomputable def zast (t : Nat → Bool) (f : Nat → zv → Bool) (pc : Nat) (ls : List (Option zv)) (st : List zv) (h : zh) : Option zst := match st with
  | v :: ix :: a :: st' => match zarr h a with
    | some (q, tg, fs) => bif t tg && f tg v then (match zix ix fs.length with
      | some i => some (pc + 1, ls, st', some (.inl (q, i, v)))
      | none => none) else none
    | none => none
  | _ => none
/-- which class of cells an array of this kind holds -/
def zelc (tg : Nat) : Nat := bif Nat.beq tg 3 then 9 else 7
noncomputable def zaok (h : zh) (tg : Nat) (v : zv) : Bool := match v with
  | .inl none => Nat.beq tg 3 || Nat.beq tg 4
  | .inl (some q) => match nth h q with
    | some (.inr (c, _)) => (Nat.beq tg 3 || Nat.beq tg 4) && Nat.beq c (zelc tg)
    | _ => false
  | _ => false
/-- the texts: their lengths, their bytes -/
def zslen : List Nat := [3, 2, 1, 1, 1, 4, 2, 1, 2, 1, 2, 3, 2, 1, 1, 1, 4, 2, 1, 2, 1, 2]
def zsbyt : List (List Int32) := [[101, 109, 112], [108, 115], [40], [44], [41], [116, 114, 101, 101], [45, 62], [61], [33, 61], [42], [124, 45], [101, 109, 112], [108, 115], [40], [44], [41], [116, 114, 101, 101], [45, 62], [61], [33, 61], [42], [124, 45]]
def zisS (a : zv) : Bool := match a with
  | .inl (some q) => Nat.beq q 1000000
  | _ => false
noncomputable def zlk {α : Type} (t : List (Nat × α)) (q : Nat) : Option α := List.rec (motive := fun _ => Option α) none (fun a _ ih => bif Nat.beq a.1 q then some a.2 else ih) t
theorem zlk_mem {α : Type} {q : Nat} {x : α} : ∀ {t : List (Nat × α)}, zlk t q = some x → (q, x) ∈ t
  | [], h => by cases h
  | a :: t, h => by
    have h : (bif Nat.beq a.1 q then some a.2 else zlk t q) = some x := h
    cases ha : Nat.beq a.1 q with
    | true =>
      rw [ha] at h
      cases h
      have := Nat.eq_of_beq_eq_true ha
      subst this
      exact List.mem_cons_self
    | false =>
      rw [ha] at h
      exact List.mem_cons_of_mem _ (zlk_mem h)
/-- the texts' bytes, by the place of their rows -/
def ztab : List (Nat × List Int32) := [(3000000, [101, 109, 112]), (3000001, [108, 115]), (3000002, [40]), (3000003, [44]), (3000004, [41]), (3000005, [116, 114, 101, 101]), (3000006, [45, 62]), (3000007, [61]), (3000008, [33, 61]), (3000009, [42]), (3000010, [124, 45]), (3000011, [101, 109, 112]), (3000012, [108, 115]), (3000013, [40]), (3000014, [44]), (3000015, [41]), (3000016, [116, 114, 101, 101]), (3000017, [45, 62]), (3000018, [61]), (3000019, [33, 61]), (3000020, [42]), (3000021, [124, 45])]
noncomputable def zlenH (scr : Option (List zv)) (pc : Nat) (ls : List (Option zv)) (st : List zv) (h : zh) : Option zst := match st with
  | .inl (some q) :: st' => bif Nat.beq q 1000000 then (match scr with
    | some l => frcI (Int32.ofNat l.length) (fun x => some (pc + 1, ls, zi x :: st', none))
    | none => none) else (match zlk ztab q with
    | some bs => frcI (Int32.ofNat bs.length) (fun x => some (pc + 1, ls, zi x :: st', none))
    | none => match zarr h (.inl (some q)) with
      | some (_, _, fs) => frcI (Int32.ofNat fs.length) (fun x => some (pc + 1, ls, zi x :: st', none))
      | none => none)
  | _ => none
noncomputable def zildH (scr : Option (List zv)) (pc : Nat) (ls : List (Option zv)) (st : List zv) (h : zh) : Option zst := match st with
  | ix :: a :: st' => bif zisS a then (match scr with
    | some l => match zix ix l.length with
      | some i => match nth l i with
        | some v => some (pc + 1, ls, v :: st', none)
        | none => none
      | none => none
    | none => none) else zald (fun t => Nat.beq t 0) pc ls st h
  | _ => none
noncomputable def zbldH (pc : Nat) (ls : List (Option zv)) (st : List zv) (h : zh) : Option zst := match st with
  | ix :: .inl (some q) :: st' => match zlk ztab q with
    | some bs => match zix ix bs.length with
      | some i => match nth bs i with
        | some b => frcI b (fun b => some (pc + 1, ls, zi b :: st', none))
        | none => none
      | none => none
    | none => zald (fun t => Nat.beq t 1) pc ls st h
  | _ => none
/-- an instruction that reads or writes the heap -/
noncomputable def stH (scr : Option (List zv)) (i : Instr) (r : zr) (pc : Nat) (ls : List (Option zv)) (st : List zv) (h : zh) : Option zst := match i with
  | .getfield _ => match st with
    | .inl (some q) :: st' => bif Nat.beq r.1 50 then (bif Nat.ble 2000000 q && Nat.blt q 3000000 then some (pc + 3, ls, (bif Nat.beq r.2.1 0 then .inl (some (q + 1000000)) else zi 0) :: st', none) else none) else (match nth h q with
      | some (.inr (c, fs)) => bif Nat.beq c r.1 then (match nth fs r.2.1 with
        | some v => some (pc + 3, ls, v :: st', none)
        | none => none) else none
      | _ => none)
    | _ => none
  | .putfield _ => match st with
    | v :: .inl (some q) :: st' => match nth h q with
      | some (.inr (c, fs)) => bif Nat.beq c r.1 && (Nat.blt r.2.1 fs.length && zfit r.2.2.1 v) then some (pc + 3, ls, st', some (.inl (q, r.2.1, v))) else none
      | _ => none
    | _ => none
  | .new _ => match nth zkinds r.1 with
    | some ks => frc h.length (fun n => bif Nat.blt n 900000 then some (pc + 3, ls, .inl (some n) :: st, some (.inr [.inr (r.1, ks.map zdef)])) else none)
    | none => none
  | .newarray _ => match st with
    | n :: st' => match zsize n with
      | some N => frc h.length (fun n => bif Nat.blt n 900000 then some (pc + 2, ls, .inl (some n) :: st', some (.inr [.inl (r.1, List.replicate N (zdef (bif Nat.beq r.1 2 then 3 else 0)))])) else none)
      | none => none
    | _ => none
  | .anewarray _ => match st with
    | n :: st' => match zsize n with
      | some N => frc h.length (fun n => bif Nat.blt n 900000 then some (pc + 3, ls, .inl (some n) :: st', some (.inr [.inl (r.1, List.replicate N (.inl none))])) else none)
      | none => none
    | _ => none
  | .multianewarray _ _ => match st with
    | k :: n :: st' => match zsize n, zsize k with
      | some N, some K => frc h.length (fun n => bif Nat.blt n 900000 then some (pc + 4, ls, .inl (some n) :: st', some (.inr (.inl (5, (List.range N).map (fun i => .inl (some (n + 1 + i)))) :: List.replicate N (.inl (0, List.replicate K (zi 0)))))) else none)
      | _, _ => none
    | _ => none
  | .iaload => zildH scr pc ls st h
  | .baload => zbldH pc ls st h
  | .laload => zald (fun t => Nat.beq t 2) pc ls st h
  | .aaload => zald (fun t => Nat.ble 3 t && Nat.ble t 5) pc ls st h
  | .iastore => zast (fun t => Nat.beq t 0) (fun _ v => zfit 0 v) pc ls st h
  | .bastore => zast (fun t => Nat.beq t 1) (fun _ v => zfit 1 v) pc ls st h
  | .lastore => zast (fun t => Nat.beq t 2) (fun _ v => zfit 3 v) pc ls st h
  | .aastore => zast (fun t => Nat.ble 3 t && Nat.ble t 4) (fun tg v => zaok h tg v) pc ls st h
  | .arraylength => zlenH scr pc ls st h
  | .ldc _ => bif Nat.beq r.1 0 then frcI (Int32.ofNat r.2.1) (fun v => some (pc + 2, ls, zi v :: st, none)) else some (pc + 2, ls, .inl (some (2000000 + r.2.1)) :: st, none)
  | .ldc_w _ => frcI (Int32.ofNat r.2.1) (fun v => some (pc + 3, ls, zi v :: st, none))
  | .ldc2_w _ => frcL (Int64.ofNat r.2.1) (fun v => some (pc + 3, ls, .inr (.inr (.inl v)) :: st, none))
  | .getstatic _ => some (pc + 3, ls, (bif Nat.beq r.1 0 then zi 1 else .inl (some 1000001)) :: st, none)
  | i => match stA i r pc ls st with
    | some (pc', ls', st') => some (pc', ls', st', none)
    | none => none
