/-! an instruction, for many states at once -/
noncomputable def acst {β : Type} (x : Int32) (k : av → Option β) : Option β := frcZ x.toInt (fun z => k (.inl (0, z)))
noncomputable def alod {β : Type} (f : av → Bool) (sy : aI) (ls : List (Option av)) (j : Nat) (k : av → Option β) : Option β := match nth ls j with
  | some (some a) => bif f a then k (anrm sy a) else none
  | _ => none
noncomputable def aprv (ls : List (Option av)) (j : Nat) : Bool := match j with
  | 0 => true
  | i + 1 => match nth ls i with
    | some (some a) => !aisL a
    | some none => true
    | none => false
noncomputable def asto {β : Type} (ls : List (Option av)) (j : Nat) (a : av) (k : List (Option av) → Option β) : Option β := bif Nat.blt j ls.length && aprv ls j then setK (some a) ls j k else none
noncomputable def asto2 {β : Type} (ls : List (Option av)) (j : Nat) (a : av) (k : List (Option av) → Option β) : Option β := bif Nat.blt (j + 1) ls.length && aprv ls j then setK (some a) ls j (fun l => setK none l (j + 1) k) else none
def apop {β : Type} (f : av → Bool) (st : List av) (k : av → List av → Option β) : Option β := match st with
  | a :: st' => bif f a then k a st' else none
  | [] => none
noncomputable def abin {β : Type} (o pc : Nat) (ls : List (Option av)) (st : List av) (S : aS) (k : Nat → List (Option av) → List av → aS → Option (List β)) : Option (List β) := match st with
  | .inl b :: .inl a :: st' => abop o S a b (fun v S' => k (pc + 1) ls (.inl v :: st') S')
  | _ => none
/-- a divisor that is above 0 -/
noncomputable def arem {β : Type} (pc : Nat) (ls : List (Option av)) (st : List av) (S : aS) (k : Nat → List (Option av) → List av → aS → Option (List β)) : Option (List β) := match st with
  | .inl b :: _ => (match aiv S.1 b with
    | some p => bif ile 1 p.1 then abin 9 pc ls st S k else none
    | none => none)
  | _ => none
def alng {β : Type} (pc : Nat) (ls : List (Option av)) (st : List av) (S : aS) (k : Nat → List (Option av) → List av → aS → Option (List β)) : Option (List β) := match st with
  | a :: b :: st' => bif aisL a && aisL b then k (pc + 1) ls (.inr (.inr 2) :: st') S else none
  | _ => none
noncomputable def acnd {β : Type} (c : ClassFile.Cond) (a b : Nat × Int) (S : aS) (k : aS → Option (List β)) : Option (List β) := match c with
  | .eq => arfE a b S k
  | .ne => arfN a b S k
  | .lt => arfL 1 a b S k
  | .ge => arfL 0 b a S k
  | .gt => arfL 1 b a S k
  | .le => arfL 0 a b S k
def aneg (c : ClassFile.Cond) : ClassFile.Cond := match c with
  | .eq => .ne
  | .ne => .eq
  | .lt => .ge
  | .ge => .lt
  | .gt => .le
  | .le => .gt
noncomputable def abrn {β : Type} (c : ClassFile.Cond) (a b : Nat × Int) (pc : Nat) (off : Int) (ls : List (Option av)) (st : List av) (S : aS) (k : Nat → List (Option av) → List av → aS → Option (List β)) : Option (List β) := match ztg pc off with
  | some t => acat (acnd c a b S (fun S' => k t ls st S')) (acnd (aneg c) a b S (fun S' => k (pc + 3) ls st S'))
  | none => none
def ajmp {β : Type} (pc : Nat) (off : Int) (ls : List (Option av)) (st : List av) (S : aS) (k : Nat → List (Option av) → List av → aS → Option (List β)) : Option (List β) := match ztg pc off with
  | some t => k t ls st S
  | none => none
/-- null, or a cell -/
def anul {β : Type} (n : Bool) (pc : Nat) (off : Int) (ls : List (Option av)) (st : List av) (S : aS) (k : Nat → List (Option av) → List av → aS → Option (List β)) : Option (List β) := match st with
  | .inr (.inr 0) :: st' => bif n then ajmp pc off ls st' S k else k (pc + 3) ls st' S
  | .inr (.inl _) :: st' => bif n then k (pc + 3) ls st' S else ajmp pc off ls st' S k
  | _ => none
noncomputable def atsw {β : Type} (v : Nat × Int) (pc : Nat) (ls : List (Option av)) (st : List av) (S : aS) (k : Nat → List (Option av) → List av → aS → Option (List β)) (offs : List Int) : Int → Option (List β) := List.rec (motive := fun _ => Int → Option (List β)) (fun _ => some []) (fun off _ ih lo => frcZ lo (fun lo => acat (arfE v (0, lo) S (fun S' => ajmp pc off ls st S' k)) (ih (lo + 1)))) offs
noncomputable def alsw {β : Type} (v : Nat × Int) (pc : Nat) (dflt : Int) (ls : List (Option av)) (st : List av) (k : Nat → List (Option av) → List av → aS → Option (List β)) (ps : List (Int × Int)) : aS → Option (List β) := List.rec (motive := fun _ => aS → Option (List β)) (fun S => ajmp pc dflt ls st S k) (fun p _ ih S => acat (arfE v (0, p.1) S (fun S' => ajmp pc p.2 ls st S' k)) (arfN v (0, p.1) S ih)) ps
/-- the cell on the stack: name, type -/
noncomputable def acel {β : Type} (S : aS) (a : av) (k : Nat → Nat → qt → Option β) : Option β := match a with
  | .inr (.inl n) => (match anty S.2.1 n with
    | some T => (match atyp T with
      | some t => k n T t
      | none => none)
    | none => none)
  | _ => none
/-- may it be put into a slot of this kind -/
noncomputable def afit (sy : aI) (t : Nat) (a : av) : Bool := match t, a with
  | 0, .inl _ => true
  | 1, .inl w => (match aiv sy w with
    | some p => ile 0 p.1 && ile p.2 1
    | none => false)
  | 2, a => aisA a
  | 3, a => aisL a
  | _, _ => false
noncomputable def aaL {β : Type} (f : Nat → Bool) (pc : Nat) (ls : List (Option av)) (st : List av) (S : aS) (k : Nat → List (Option av) → List av → aS → Option (List β)) : Option (List β) := match st with
  | .inl ix :: a :: st' => acel S a (fun n T t => match t with
    | .inl (tg, _, _) => bif f tg then ald S n ix T t (fun v S' => k (pc + 1) ls (v :: st') S') else none
    | .inr _ => none)
  | _ => none
noncomputable def aaS {β : Type} (g fk pc : Nat) (ls : List (Option av)) (st : List av) (S : aS) (k : Nat → List (Option av) → List av → aS → Option (List β)) : Option (List β) := match st with
  | v :: .inl ix :: a :: st' => acel S a (fun n T t => match t with
    | .inl (tg, _, _) => bif Nat.beq tg g && afit S.1 fk v then ast S n ix T t v (fun S' => k (pc + 1) ls st' S') else none
    | .inr _ => none)
  | _ => none
noncomputable def agetf {β : Type} (r : zr) (pc : Nat) (ls : List (Option av)) (st : List av) (S : aS) (k : Nat → List (Option av) → List av → aS → Option (List β)) : Option (List β) := match st with
  | .inr (.inr q) :: st' => bif Nat.beq r.1 50 && (Nat.ble 10 q && Nat.blt q 40) then (bif Nat.beq r.2.1 0 then frc (q + 30) (fun q' => k (pc + 3) ls (.inr (.inr q') :: st') S) else acst 0 (fun a => k (pc + 3) ls (a :: st') S)) else none
  | a :: st' => bif Nat.beq r.1 50 then none else acel S a (fun n T t => match t with
    | .inr (ci, _) => bif Nat.beq ci r.1 then ald S n (0, Int.ofNat r.2.1) T t (fun v S' => k (pc + 3) ls (v :: st') S') else none
    | .inl _ => none)
  | [] => none
noncomputable def aputf {β : Type} (r : zr) (pc : Nat) (ls : List (Option av)) (st : List av) (S : aS) (k : Nat → List (Option av) → List av → aS → Option (List β)) : Option (List β) := match st with
  | v :: a :: st' => acel S a (fun n T t => match t with
    | .inr (ci, _) => bif Nat.beq ci r.1 && afit S.1 r.2.2.1 v then ast S n (0, Int.ofNat r.2.1) T t v (fun S' => k (pc + 3) ls st' S') else none
    | .inl _ => none)
  | _ => none
noncomputable def abyt {β : Type} (pc : Nat) (ls : List (Option av)) (st : List av) (S : aS) (k : Nat → List (Option av) → List av → aS → Option (List β)) : Option (List β) := match st with
  | .inl ix :: .inr (.inr q) :: st' => bif Nat.ble 40 q && Nat.blt q 70 then (match zlk ztab (3000000 + (q - 40)) with
    | some bs => aixK S.1 S.2.2.2.1 ix (fun _ _ lo hi => bif Nat.beq lo hi && Nat.blt lo bs.length then (match nth bs lo with
      | some b => acst b (fun a => k (pc + 1) ls (a :: st') S)
      | none => none) else none)
    | none => none) else none
  | _ => aaL (fun t => Nat.beq t 1) pc ls st S k
noncomputable def alen {β : Type} (pc : Nat) (ls : List (Option av)) (st : List av) (S : aS) (k : Nat → List (Option av) → List av → aS → Option (List β)) : Option (List β) := match st with
  | .inr (.inr q) :: st' => bif Nat.ble 40 q && Nat.blt q 70 then (match zlk ztab (3000000 + (q - 40)) with
    | some bs => acst (Int32.ofNat bs.length) (fun a => k (pc + 1) ls (a :: st') S)
    | none => none) else none
  | a :: st' => acel S a (fun _ _ t => match t with
    | .inl (_, L, _) => acst (Int32.ofNat L) (fun a => k (pc + 1) ls (a :: st') S)
    | .inr _ => none)
  | [] => none
noncomputable def ai2c {β : Type} (pc : Nat) (ls : List (Option av)) (st : List av) (S : aS) (k : Nat → List (Option av) → List av → aS → Option (List β)) : Option (List β) := match st with
  | .inl w :: st' => (match aiv S.1 w with
    | some p => bif ieq p.1 p.2 then acst ((Int32.ofInt p.1).toUInt32 % 65536).toInt32 (fun a => k (pc + 1) ls (a :: st') S) else none
    | none => none)
  | _ => none
noncomputable def aif1 {β : Type} (c : ClassFile.Cond) (pc : Nat) (off : Int) (ls : List (Option av)) (st : List av) (S : aS) (k : Nat → List (Option av) → List av → aS → Option (List β)) : Option (List β) := match st with
  | .inl a :: st' => abrn c a (0, 0) pc off ls st' S k
  | _ => none
noncomputable def aif2 {β : Type} (c : ClassFile.Cond) (pc : Nat) (off : Int) (ls : List (Option av)) (st : List av) (S : aS) (k : Nat → List (Option av) → List av → aS → Option (List β)) : Option (List β) := match st with
  | .inl b :: .inl a :: st' => abrn c a b pc off ls st' S k
  | _ => none
noncomputable def atbl {β : Type} (dflt lo hi : Int) (offs : List Int) (pc : Nat) (ls : List (Option av)) (st : List av) (S : aS) (k : Nat → List (Option av) → List av → aS → Option (List β)) : Option (List β) := match st with
  | .inl a :: st' => bif ieq (lo + Int.ofNat offs.length) (hi + 1) then acat (arfL 1 a (0, lo) S (fun S' => ajmp pc dflt ls st' S' k)) (acat (arfL 1 (0, hi) a S (fun S' => ajmp pc dflt ls st' S' k)) (atsw a pc ls st' S k offs lo)) else none
  | _ => none
noncomputable def albl {β : Type} (dflt : Int) (ps : List (Int × Int)) (pc : Nat) (ls : List (Option av)) (st : List av) (S : aS) (k : Nat → List (Option av) → List av → aS → Option (List β)) : Option (List β) := match st with
  | .inl a :: st' => bif (ps.zip (ps.drop 1)).all (fun (a, next) => a.1 < next.1) then alsw a pc dflt ls st' k ps S else none
  | _ => none
noncomputable def atr {β : Type} (i : Instr) (r : zr) (pc : Nat) (ls : List (Option av)) (st : List av) (S : aS) (k : Nat → List (Option av) → List av → aS → Option (List β)) : Option (List β) := match i with
  | .aconst_null => k (pc + 1) ls (.inr (.inr 0) :: st) S
  | .iconst n => acst (Int32.ofInt n) (fun a => k (pc + 1) ls (a :: st) S)
  | .bipush n => acst (Int8.ofInt n).toInt32 (fun a => k (pc + 2) ls (a :: st) S)
  | .sipush n => acst (Int16.ofInt n).toInt32 (fun a => k (pc + 3) ls (a :: st) S)
  | .lconst _ => k (pc + 1) ls (.inr (.inr 2) :: st) S
  | .iload_n j => alod aisI S.1 ls j (fun a => k (pc + 1) ls (a :: st) S)
  | .iload j => alod aisI S.1 ls j (fun a => k (pc + 2) ls (a :: st) S)
  | .aload_n j => alod aisA S.1 ls j (fun a => k (pc + 1) ls (a :: st) S)
  | .aload j => alod aisA S.1 ls j (fun a => k (pc + 2) ls (a :: st) S)
  | .lload_n j => alod aisL S.1 ls j (fun a => k (pc + 1) ls (a :: st) S)
  | .istore_n j => apop aisI st (fun a st' => asto ls j a (fun ls' => k (pc + 1) ls' st' S))
  | .istore j => apop aisI st (fun a st' => asto ls j a (fun ls' => k (pc + 2) ls' st' S))
  | .astore_n j => apop aisA st (fun a st' => asto ls j a (fun ls' => k (pc + 1) ls' st' S))
  | .astore j => apop aisA st (fun a st' => asto ls j a (fun ls' => k (pc + 2) ls' st' S))
  | .lstore_n j => apop aisL st (fun a st' => asto2 ls j a (fun ls' => k (pc + 1) ls' st' S))
  | .iinc j n => alod aisI S.1 ls j (fun a => match a with
    | .inl w => acst (Int32.ofInt n) (fun b => match b with
      | .inl u => abop 0 S w u (fun v S' => asto ls j (.inl v) (fun ls' => k (pc + 3) ls' st S'))
      | _ => none)
    | _ => none)
  | .iadd => abin 0 pc ls st S k
  | .isub => abin 1 pc ls st S k
  | .imul => abin 2 pc ls st S k
  | .iand => abin 3 pc ls st S k
  | .ior => abin 4 pc ls st S k
  | .ixor => abin 5 pc ls st S k
  | .ishl => abin 6 pc ls st S k
  | .ishr => abin 7 pc ls st S k
  | .iushr => abin 8 pc ls st S k
  | .irem => arem pc ls st S k
  | .ladd => alng pc ls st S k
  | .lmul => alng pc ls st S k
  | .i2c => ai2c pc ls st S k
  | .i2l => apop aisI st (fun _ st' => k (pc + 1) ls (.inr (.inr 2) :: st') S)
  | .dup => apop (fun a => !aisL a) st (fun a st' => k (pc + 1) ls (a :: a :: st') S)
  | .dup2 => apop (fun a => !aisL a) st (fun a st' => apop (fun a => !aisL a) st' (fun b st2 => k (pc + 1) ls (a :: b :: a :: b :: st2) S))
  | .pop => apop (fun a => !aisL a) st (fun _ st' => k (pc + 1) ls st' S)
  | .pop2 => apop aisL st (fun _ st' => k (pc + 1) ls st' S)
  | .goto off => ajmp pc off ls st S k
  | .ifCond c off => aif1 c pc off ls st S k
  | .if_icmp c off => aif2 c pc off ls st S k
  | .ifnull off => anul true pc off ls st S k
  | .ifnonnull off => anul false pc off ls st S k
  | .tableswitch dflt lo hi offs => atbl dflt lo hi offs.toList pc ls st S k
  | .lookupswitch dflt ps => albl dflt ps.toList pc ls st S k
  | .getfield _ => agetf r pc ls st S k
  | .putfield _ => aputf r pc ls st S k
  | .iaload => aaL (fun t => Nat.beq t 0) pc ls st S k
  | .baload => abyt pc ls st S k
  | .aaload => aaL (fun t => Nat.ble 3 t && Nat.ble t 5) pc ls st S k
  | .iastore => aaS 0 0 pc ls st S k
  | .bastore => aaS 1 1 pc ls st S k
  | .lastore => aaS 2 3 pc ls st S k
  | .arraylength => alen pc ls st S k
  | .ldc _ => bif Nat.beq r.1 0 then acst (Int32.ofNat r.2.1) (fun a => k (pc + 2) ls (a :: st) S) else bif Nat.blt r.2.1 30 then frc (10 + r.2.1) (fun q => k (pc + 2) ls (.inr (.inr q) :: st) S) else none
  | .ldc_w _ => acst (Int32.ofNat r.2.1) (fun a => k (pc + 3) ls (a :: st) S)
  | .ldc2_w _ => k (pc + 3) ls (.inr (.inr 2) :: st) S
  | .getstatic _ => bif Nat.beq r.1 0 then acst 1 (fun a => k (pc + 3) ls (a :: st) S) else k (pc + 3) ls (.inr (.inr 1) :: st) S
  | _ => none
/-- it goes on as one of the roads says -/
def aOk {β : Type} (J : zh → Prop) (τ0 : List Nat) (h0 : zh) (t0 : Nat) (ρ : List Int) (ν τ : List Nat) (i : Instr) (r : zr) (pc : Nat) (cs : List (Option zv)) (vs : List zv) (h : zh) (t : Nat) (y : List β) (k : Nat → List (Option av) → List av → aS → Option (List β)) : Prop := ∃ (pc' : Nat) (ls' : List (Option av)) (st' : List av) (S' : aS) (y' : List β) (cs' : List (Option zv)) (vs' : List zv) (z : zp) (ρ' : List Int) (ν' : List Nat), k pc' ls' st' S' = some y' ∧ (∀ w ∈ y', w ∈ y) ∧ stH none i r pc cs vs h = some (pc', cs', vs', z) ∧ aup ρ ρ' ∧ aup ν ν' ∧ aM J τ0 h0 t0 S' ρ' ν' τ (hap h z) t ∧ alM ρ' ν' ls' cs' ∧ asM ρ' ν' st' vs'
def anoH (i : Instr) : Bool := match i with
  | .getfield _ => false
  | .putfield _ => false
  | .new _ => false
  | .newarray _ => false
  | .anewarray _ => false
  | .multianewarray _ _ => false
  | .iaload => false
  | .baload => false
  | .laload => false
  | .aaload => false
  | .iastore => false
  | .bastore => false
  | .lastore => false
  | .aastore => false
  | .arraylength => false
  | .ldc _ => false
  | .ldc_w _ => false
  | .ldc2_w _ => false
  | .getstatic _ => false
  | _ => true
theorem stH_A {i : Instr} {r : zr} {pc pc' : Nat} {cs cs' : List (Option zv)} {vs vs' : List zv} {h : zh} (hn : anoH i = true) (e : stA i r pc cs vs = some (pc', cs', vs')) : stH none i r pc cs vs h = some (pc', cs', vs', none) := by
  have e9 : stH none i r pc cs vs h = (match stA i r pc cs vs with
    | some (a, b, c) => some (a, b, c, none)
    | none => none) := by
    cases i <;> first | rfl | cases hn
  rw [e9, e]
section TR
variable {J : zh → Prop} {τ0 : List Nat} {h0 : zh} {t0 : Nat} {ρ : List Int} {ν τ : List Nat} {h : zh} {t pc : Nat} {β : Type} {y : List β} {k : Nat → List (Option av) → List av → aS → Option (List β)} {ls : List (Option av)} {st : List av} {S : aS} {cs : List (Option zv)} {vs : List zv} {r : zr}
theorem acst_ok {β : Type} {x : Int32} {k : av → Option β} {y : β} (e : acst x k = some y) : k (.inl (0, x.toInt)) = some y := by
  unfold acst at e
  rwa [frcZ_eq] at e
theorem avM_cst {x : Int32} (hs : ρ[0]? = some 0) : avM ρ ν (.inl (0, x.toInt)) (zi x) := ⟨x, 0, rfl, hs, by omega⟩
theorem aOk_same {i : Instr} {pc' : Nat} {ls' : List (Option av)} {st' : List av} {cs' : List (Option zv)} {vs' : List zv} (e : k pc' ls' st' S = some y) (hn : anoH i = true) (e2 : stA i r pc cs vs = some (pc', cs', vs')) (hM : aM J τ0 h0 t0 S ρ ν τ h t) (hl : alM ρ ν ls' cs') (hs : asM ρ ν st' vs') : aOk J τ0 h0 t0 ρ ν τ i r pc cs vs h t y k := ⟨pc', ls', st', S, y, cs', vs', none, ρ, ν, e, fun _ hw => hw, stH_A hn e2, aup_refl _, aup_refl _, hM, hl, hs⟩
theorem aOk_sameH {i : Instr} {pc' : Nat} {ls' : List (Option av)} {st' : List av} {cs' : List (Option zv)} {vs' : List zv} (e : k pc' ls' st' S = some y) (e2 : stH none i r pc cs vs h = some (pc', cs', vs', none)) (hM : aM J τ0 h0 t0 S ρ ν τ h t) (hl : alM ρ ν ls' cs') (hs : asM ρ ν st' vs') : aOk J τ0 h0 t0 ρ ν τ i r pc cs vs h t y k := ⟨pc', ls', st', S, y, cs', vs', none, ρ, ν, e, fun _ hw => hw, e2, aup_refl _, aup_refl _, hM, hl, hs⟩
theorem alod_ok {β : Type} {f : av → Bool} {g : zv → Bool} {sy : aI} {j : Nat} {k : av → Option β} {y : β} (hg : ∀ (a : av) (v : zv), f a = true → avM ρ ν a v → g v = true) (e : alod f sy ls j k = some y) (hs : asy ρ sy) (hl : alM ρ ν ls cs) : ∃ (v : zv) (a : av), zld cs j g = some v ∧ f a = true ∧ k (anrm sy a) = some y ∧ avM ρ ν (anrm sy a) v ∧ avM ρ ν a v := by
  unfold alod at e
  rw [nth_eq] at e
  cases h1 : ls[j]? with
  | none => rw [h1] at e; cases e
  | some o =>
    cases o with
    | none => rw [h1] at e; cases e
    | some a =>
      rw [h1] at e
      simp only at e
      cases h2 : f a with
      | false => rw [h2] at e; cases e
      | true =>
        rw [h2] at e
        obtain ⟨v, e1, e2⟩ := hl.2.1 j a h1
        refine ⟨v, a, ?_, h2, e, anrm_ok hs e2, e2⟩
        unfold zld
        rw [e1]
        simp only
        rw [hg a v h2 e2]
        rfl
theorem aprv_ok {j : Nat} (e : aprv ls j = true) (hl : alM ρ ν ls cs) : zprev cs j = true := by
  cases j with
  | zero => rfl
  | succ i =>
    unfold aprv at e
    simp only [nth_eq] at e
    unfold zprev
    simp only
    cases h1 : cs[i]? with
    | none => rfl
    | some o => cases o with
      | none => rfl
      | some v =>
        simp only
        cases h2 : ls[i]? with
        | none => rw [h2] at e; cases e
        | some p => cases p with
          | none => rw [hl.2.2 i v h1 h2]; rfl
          | some a =>
            rw [h2] at e
            simp only at e
            obtain ⟨v', e1, e2⟩ := hl.2.1 i a h2
            rw [h1] at e1
            cases e1
            rw [aisL_no (by simpa using e) e2]
            rfl
theorem alM_set {j : Nat} {a : av} {v : zv} (hl : alM ρ ν ls cs) (hv : avM ρ ν a v) (hj : j < ls.length) : alM ρ ν (ls.set j (some a)) (cs.set j (some v)) := by
  refine ⟨by simp [hl.1], fun i b hb => ?_, fun i w hw hn => ?_⟩
  · rw [List.getElem?_set] at hb
    rw [List.getElem?_set]
    split at hb
    · rename_i hij
      subst hij
      cases hb
      rw [if_pos rfl, if_pos (by rw [hl.1]; exact hj)]
      exact ⟨v, rfl, hv⟩
    · rename_i hij
      rw [if_neg hij]
      exact hl.2.1 i b hb
  · rw [List.getElem?_set] at hn hw
    split at hn
    · cases hn
    · rename_i hij
      rw [if_neg hij] at hw
      exact hl.2.2 i w hw hn
theorem alM_none {j : Nat} (hl : alM ρ ν ls cs) : alM ρ ν (ls.set j none) (cs.set j none) := by
  refine ⟨by simp [hl.1], fun i b hb => ?_, fun i w hw hn => ?_⟩
  · rw [List.getElem?_set] at hb
    rw [List.getElem?_set]
    split at hb
    · split at hb <;> cases hb
    · rename_i hij
      rw [if_neg hij]
      exact hl.2.1 i b hb
  · rw [List.getElem?_set] at hw
    split at hw
    · split at hw <;> cases hw
    · rename_i hij
      rw [List.getElem?_set, if_neg hij] at hn
      exact hl.2.2 i w hw hn
theorem asto_ok {β : Type} {j : Nat} {a : av} {v : zv} {k : List (Option av) → Option β} {y : β} (e : asto ls j a k = some y) (hl : alM ρ ν ls cs) (hv : avM ρ ν a v) : zsto cs j v = some (cs.set j (some v)) ∧ k (ls.set j (some a)) = some y ∧ alM ρ ν (ls.set j (some a)) (cs.set j (some v)) := by
  unfold asto at e
  cases hb : Nat.blt j ls.length && aprv ls j with
  | false => rw [hb] at e; cases e
  | true =>
    rw [hb] at e
    simp only [cond_true, setK_eq] at e
    simp only [Bool.and_eq_true] at hb
    refine ⟨?_, e, alM_set hl hv (bltT.mp hb.1)⟩
    unfold zsto
    rw [hl.1, hb.1, aprv_ok hb.2 hl]
    simp only [Bool.and_self, cond_true, setK_eq]
theorem asto2_ok {β : Type} {j : Nat} {a : av} {v : zv} {k : List (Option av) → Option β} {y : β} (e : asto2 ls j a k = some y) (hl : alM ρ ν ls cs) (hv : avM ρ ν a v) : ∃ (ls' : List (Option av)) (cs' : List (Option zv)), zsto2 cs j v = some cs' ∧ k ls' = some y ∧ alM ρ ν ls' cs' := by
  unfold asto2 at e
  cases hb : Nat.blt (j + 1) ls.length && aprv ls j with
  | false => rw [hb] at e; cases e
  | true =>
    rw [hb] at e
    simp only [cond_true, setK_eq] at e
    simp only [Bool.and_eq_true] at hb
    have := bltT.mp hb.1
    refine ⟨_, (cs.set j (some v)).set (j + 1) none, ?_, e, alM_none (alM_set hl hv (by omega))⟩
    unfold zsto2
    rw [hl.1, hb.1, aprv_ok hb.2 hl]
    simp only [Bool.and_self, cond_true, setK_eq]
theorem apop_ok {β : Type} {f : av → Bool} {k : av → List av → Option β} {y : β} (e : apop f st k = some y) (hs : asM ρ ν st vs) : ∃ (a : av) (st' : List av) (v : zv) (vs' : List zv), vs = v :: vs' ∧ f a = true ∧ k a st' = some y ∧ avM ρ ν a v ∧ asM ρ ν st' vs' := by
  cases st with
  | nil => cases e
  | cons a st' =>
    obtain ⟨v, vs', rfl, h1, h2⟩ := asM_cons hs
    unfold apop at e
    simp only at e
    cases hf : f a with
    | false => rw [hf] at e; cases e
    | true =>
      rw [hf] at e
      exact ⟨a, st', v, vs', rfl, hf, e, h1, h2⟩
theorem bop_ex (f : Int32 → Int32 → Int32) (x z : Int32) : bop f (zi x) (zi z) = some (zi (f x z)) := by
  show frcI (f x z) (fun z => some (zi z)) = _
  rw [frcI_eq]
theorem abin_ok {o : Nat} {i : Instr} (e : abin o pc ls st S k = some y) (hn : anoH i = true) (he : ∀ (x z : Int32) (vs' : List zv), vs = zi z :: zi x :: vs' → stA i r pc cs vs = some (pc + 1, cs, zi (afun o x z) :: vs')) (hM : aM J τ0 h0 t0 S ρ ν τ h t) (hl : alM ρ ν ls cs) (hs : asM ρ ν st vs) : aOk J τ0 h0 t0 ρ ν τ i r pc cs vs h t y k := by
  unfold abin at e
  split at e
  · rename_i b a st'
    obtain ⟨v1, vs1, rfl, h1, h2⟩ := asM_cons hs
    obtain ⟨v2, vs2, rfl, h3, h4⟩ := asM_cons h2
    obtain ⟨z, rb, rfl, hb, hz⟩ := h1
    obtain ⟨x, ra, rfl, ha, hx⟩ := h3
    obtain ⟨v, S', ρ', r', e1, e2, e3, e4, e5⟩ := abop_ok e hM ha hb hx hz
    exact ⟨_, _, _, S', y, cs, _, none, ρ', ν, e1, fun _ hw => hw, stH_A hn (he x z vs2 rfl), e2, aup_refl _, e3, alM_up e2 (aup_refl _) hl, ⟨_, r', rfl, e4, e5⟩, asM_up e2 (aup_refl _) h4⟩
  · cases e
end TR
