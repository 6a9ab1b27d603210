/-! THE READER OF MANY STATES: frames, loops, calls, contracts. -/
/-- how it ends: it answers, throws, or stops at a place -/
abbrev ao : Type := (Option av ⊕ Nat) ⊕ (Nat × List (Option av) × List av)
abbrev aL : Type := List (ao × aS)
/-- a loop: locals that change (place, between), locals that are forgotten, slots that change (name, place, between), slots that are forgotten, slots that are written, the measure (which of those that change; does it go up) -/
abbrev aN : Type := List (Nat × Int × Int) × List Nat × List (Nat × Nat × Int × Int) × aW × aW × Nat × Bool
/-- at a place: a loop, or numbers told apart (local, from, how many) -/
abbrev aA : Type := List (Nat × (aN ⊕ List (Nat × Int × Nat)))
/-- a loop that is open: place, locals and state at its head, how many signs there were, the facts kept, the loop -/
abbrev aO : Type := Nat × List (Option av) × aS × Nat × aF × aN
abbrev aq : Type := (Int × Int) ⊕ (Nat ⊕ Nat)
/-- an end of a contract: answer, throws, arguments that lie between two, slots (name, place, which of the slots told ahead, from 1 on, and a difference; else between two) -/
abbrev aE : Type := (Option aq ⊕ Nat) × Nat × List (Nat × Int × Int) × List (Nat × Nat × Nat × Bool × Int × Int × Int)
/-- a contract: arguments, slots told ahead, depth, slots written, ends -/
abbrev aK : Type := List aq × List (Nat × Nat × Int × Int) × Nat × aW × List aE
abbrev aG : Type := List aO → Nat → List (Option av) → List av → aS → Option aL
abbrev aC : Type := Nat → List (Option av) → aS → Option aL
noncomputable def alk {α : Type} (l : List (Nat × α)) (pc : Nat) : Option α := List.rec (motive := fun _ => Option α) none (fun f _ ih => bif Nat.beq f.1 pc then some f.2 else ih) l
theorem alk_mem {α : Type} {pc : Nat} {a : α} : ∀ {l : List (Nat × α)}, alk l pc = some a → (pc, a) ∈ l
  | [], h => by cases h
  | f :: t, h => by
    have h : (bif Nat.beq f.1 pc then some f.2 else alk t pc) = some a := h
    cases hb : Nat.beq f.1 pc with
    | true =>
      rw [hb] at h
      cases h
      have := Nat.eq_of_beq_eq_true hb
      subst this
      exact List.mem_cons_self
    | false =>
      rw [hb] at h
      exact List.mem_cons_of_mem _ (alk_mem h)
/-! equality -/
def aveq (a b : av) : Bool := match a, b with
  | .inl (s, c), .inl (s', c') => Nat.beq s s' && ieq c c'
  | .inr (.inl n), .inr (.inl n') => Nat.beq n n'
  | .inr (.inr n), .inr (.inr n') => Nat.beq n n'
  | _, _ => false
theorem aveq_ok {a b : av} (h : aveq a b = true) : a = b := by
  rcases a with ⟨s, c⟩ | n | n <;> rcases b with ⟨s', c'⟩ | n' | n' <;> first | (cases h; done) | skip
  · simp only [aveq, Bool.and_eq_true] at h
    rw [Nat.eq_of_beq_eq_true h.1, ieq_iff.mp h.2]
  · have : n = n' := Nat.eq_of_beq_eq_true h
    rw [this]
  · have : n = n' := Nat.eq_of_beq_eq_true h
    rw [this]
def aleq (a b : List (Option av)) : Bool := match a, b with
  | [], [] => true
  | some x :: r, some y :: r' => aveq x y && aleq r r'
  | none :: r, none :: r' => aleq r r'
  | _, _ => false
theorem aleq_ok : ∀ {a b : List (Option av)}, aleq a b = true → a = b
  | [], [], _ => rfl
  | some x :: r, some y :: r', h => by
    simp only [aleq, Bool.and_eq_true] at h
    rw [aveq_ok h.1, aleq_ok h.2]
  | none :: r, none :: r', h => by
    simp only [aleq] at h
    rw [aleq_ok h]
  | [], _ :: _, h => by cases h
  | some _ :: _, [], h => by cases h
  | none :: _, [], h => by cases h
  | some _ :: _, none :: _, h => by cases h
  | none :: _, some _ :: _, h => by cases h
/-! loops -/
/-- the numbers that change, each between its two -/
noncomputable def awsL (sy : aI) (ls : List (Option av)) (hv : List (Nat × Int × Int)) : Option (List (Nat × Int)) := List.rec (motive := fun _ => Option (List (Nat × Int))) (some []) (fun f _ ih => match nth ls f.1 with
  | some (some (.inl w)) => (match aiv sy w with
    | some p => bif asub p f.2 then (match ih with
      | some l => some (w :: l)
      | none => none) else none
    | none => none)
  | _ => none) hv
noncomputable def awsF (sy : aI) (fa : aF) (hs : List (Nat × Nat × Int × Int)) : Option (List (Nat × Int)) := List.rec (motive := fun _ => Option (List (Nat × Int))) (some []) (fun f _ ih => match afnd fa f.1 0 (Int.ofNat f.2.1) with
  | some (.inl w) => (match aiv sy w with
    | some p => bif asub p f.2.2 then (match ih with
      | some l => some (w :: l)
      | none => none) else none
    | none => none)
  | _ => none) hs
/-- locals at the head -/
noncomputable def ahvL (nb : Nat) (hv : List (Nat × Int × Int)) : List (Option av) → List (Option av) := List.rec (motive := fun _ => Nat → List (Option av) → List (Option av)) (fun _ ls => ls) (fun f _ ih nb ls => ih (nb + 1) (setK (some (.inl (nb, 0))) ls f.1 (fun l => l))) hv nb
noncomputable def afgL (fg : List Nat) : List (Option av) → List (Option av) := List.rec (motive := fun _ => List (Option av) → List (Option av)) (fun ls => ls) (fun j _ ih ls => ih (setK none ls j (fun l => l))) fg
/-- none of them is a long -/
noncomputable def anoL (ls : List (Option av)) (fg : List Nat) : Bool := fg.all (fun j => match nth ls j with
  | some (some a) => !aisL a
  | _ => true)
/-- facts about slots that may be written go -/
noncomputable def adrp (nm : List Nat) (dr : aW) (f : (Nat × Nat × Int) × av) : Bool := match anty nm f.1.1 with
  | some T => !dr.any (fun w => Nat.beq w.1 T && (!Nat.beq f.1.2.1 0 || (ile (Int.ofNat w.2.1) f.1.2.2 && ile f.1.2.2 (Int.ofNat w.2.2))))
  | none => false
noncomputable def ahsF (hs : List (Nat × Nat × Int × Int)) (fa : aF) : Nat → aF := List.rec (motive := fun _ => Nat → aF) (fun _ => fa) (fun f _ ih nb => ((f.1, 0, Int.ofNat f.2.1), .inl (nb, 0)) :: ih (nb + 1)) hs
/-- slots that change are read first -/
noncomputable def aens {β : Type} (hs : List (Nat × Nat × Int × Int)) : aS → (aS → Option (List β)) → Option (List β) := List.rec (motive := fun _ => aS → (aS → Option (List β)) → Option (List β)) (fun S k => k S) (fun f _ ih S k => acel S (.inr (.inl f.1)) (fun n T t => ald S n (0, Int.ofNat f.2.1) T t (fun _ S' => ih S' k))) hs
def awsb (wr wr' : aW) : Bool := wr.all (fun w => wr'.any (fun u => Nat.beq u.1 w.1 && (Nat.ble u.2.1 w.2.1 && Nat.ble w.2.2 u.2.2)))
def awad (wr wl : aW) : aW := wl.foldl awr wr
/-- what the measure tells at the head -/
def amrl (m : Nat) (up : Bool) (w : Nat × Int) : Nat × Nat × Int := bif up then (w.1, m, -w.2) else (m, w.1, w.2)
noncomputable def ahead {β : Type} (an : aN) (pc : Nat) (ls : List (Option av)) (S : aS) (k : aO → List (Option av) → aS → Option (List β)) : Option (List β) := match an with
  | (hv, fg, hs, dr, wl, mx, up) => aens hs S (fun S => match S with
    | (sy, nm, fa, rl, wr, tc) => match awsL sy ls hv, awsF sy fa hs with
      | some w1, some w2 => (match nth (w1 ++ w2) mx with
        | some w => bif anoL ls fg && hs.all (fun f => (anty nm f.1).isSome) then frc sy.length (fun nb => frc (nb + hv.length) (fun nb2 => frc (nb + mx) (fun m => filK (adrp nm dr) fa (fun fb => appK (hv.map (fun f => f.2) ++ hs.map (fun f => f.2.2)) sy (fun sy' =>
          k (pc, afgL fg (ahvL nb hv ls), (sy', nm, ahsF hs fb nb2, amrl m up w :: rl, awad wr wl, tc), nb, fb, an) (afgL fg (ahvL nb hv ls)) (sy', nm, ahsF hs fb nb2, amrl m up w :: rl, awad wr wl, tc)))))) else none
        | none => none)
      | _, _ => none)
/-- it goes on -/
noncomputable def amsr (S : aS) (m : Nat) (up : Bool) (w : Nat × Int) : Bool := match aiv S.1 w, nth S.1 m with
  | some p, some q => bif up then (ile (q.2 + 1) p.1 || (bif Nat.beq w.1 m then ile 1 w.2 else (match arel S.2.2.2.1 m w.1 with
    | some c => ile (c + 1) w.2
    | none => false))) else (ile (p.2 + 1) q.1 || (bif Nat.beq w.1 m then ile w.2 (-1) else (match arel S.2.2.2.1 w.1 m with
    | some c => ile (c + w.2) (-1)
    | none => false)))
  | _, _ => false
/-- back at the head of an open loop -/
noncomputable def aarr (o : List (Option av) × aS × Nat × aF × aN) (ls : List (Option av)) (st : List av) (S : aS) : Bool := match o, st with
  | (lsH, (_, _, _, _, wrH, tcH), nb, fb, (hv, fg, hs, _, _, mx, up)), [] => (match awsL S.1 ls hv, awsF S.1 S.2.2.1 hs with
    | some w1, some w2 => (match nth (w1 ++ w2) mx with
      | some w => amsr S (nb + mx) up w && (anoL ls fg && (aleq (afgL fg (ahvL nb hv ls)) lsH && (fb.all (fun f => match afnd S.2.2.1 f.1.1 f.1.2.1 f.1.2.2 with
        | some a => aveq a f.2
        | none => false) && (awsb S.2.2.2.2.1 wrH && Nat.beq S.2.2.2.2.2 tcH))))
      | none => false)
    | _, _ => false)
  | _, _ => false
/-- numbers told apart -/
noncomputable def avs {β : Type} (w : Nat × Int) (S : aS) (k : aS → Option (List β)) (n : Nat) : Int → Option (List β) := Nat.rec (motive := fun _ => Int → Option (List β)) (fun _ => some []) (fun _ ih lo => frcZ lo (fun lo => acat (arfE w (0, lo) S k) (ih (lo + 1)))) n
noncomputable def aspl {β : Type} (ls : List (Option av)) (k : aS → Option (List β)) (sp : List (Nat × Int × Nat)) : aS → Option (List β) := List.rec (motive := fun _ => aS → Option (List β)) k (fun f _ ih S => match nth ls f.1 with
  | some (some (.inl w)) => acat (arfL 1 w (0, f.2.1) S ih) (acat (arfL 0 (0, f.2.1 + Int.ofNat f.2.2) w S ih) (avs w S ih f.2.2 f.2.1))
  | _ => none) sp
/-! calls -/
noncomputable def apopn (n : Nat) : List av → List av → Option (List av × List av) := Nat.rec (motive := fun _ => List av → List av → Option (List av × List av)) (fun acc st => some (acc, st)) (fun _ ih acc st => match st with
  | a :: st' => ih (a :: acc) st'
  | [] => none) n
def acatn (st : List av) : Nat := (st.map (fun a => bif aisL a then 2 else 1)).sum
noncomputable def aent (args : List av) (nL : Nat) : Option (List (Option av)) := bif args.all (fun a => !aisL a) && Nat.ble args.length nL then appK (List.replicate (nL - args.length) none) (args.map some) (fun l => some l) else none
noncomputable def aargs (S : aS) (r : zr) (args : List av) : Bool := bif Nat.beq r.1 0 then (match args with
    | .inr (.inr q) :: _ => Nat.beq r.2.2.1 50 && (Nat.ble 10 q && Nat.blt q 40)
    | a :: _ => !Nat.beq r.2.2.1 50 && (match acel S a (fun _ _ t => match t with
      | .inr (ci, _) => bif Nat.beq ci r.2.2.1 then some () else none
      | .inl _ => none) with
      | some _ => true
      | none => false)
    | [] => false) else bif Nat.beq r.1 2 || Nat.beq r.1 4 then (match args with
    | .inr (.inl _) :: _ => true
    | _ => false) else true
/-- arguments as a contract wants them -/
noncomputable def aqok (S : aS) (qs : List aq) (args : List av) : Bool := match qs, args with
  | [], [] => true
  | .inl p :: qs, .inl w :: r => (match aivr S.1 S.2.2.2.1 w with
    | some q => asub q p && aqok S qs r
    | none => false)
  | .inr (.inl T) :: qs, .inr (.inl n) :: r => (match acel S (.inr (.inl n)) (fun _ T' _ => bif Nat.beq T T' then some () else none) with
    | some _ => aqok S qs r
    | none => false)
  | .inr (.inr k) :: qs, .inr (.inr k') :: r => Nat.beq k k' && aqok S qs r
  | _, _ => false
/-- the cell that a contract names -/
noncomputable def acnm (args : List av) (n : Nat) : Option Nat := bif Nat.blt n 1000 then some n else (match nth args (n - 1000) with
  | some (.inr (.inl m)) => some m
  | _ => none)
/-- slots told ahead -/
noncomputable def apre {β : Type} (args : List av) (pf : List (Nat × Nat × Int × Int)) : aS → (List (Nat × Int) → aS → Option (List β)) → Option (List β) := List.rec (motive := fun _ => aS → (List (Nat × Int) → aS → Option (List β)) → Option (List β)) (fun S k => k [] S) (fun f _ ih S k => match acnm args f.1 with
  | some m => acel S (.inr (.inl m)) (fun n T t => ald S n (0, Int.ofNat f.2.1) T t (fun a S' => match a with
    | .inl w => (match aivr S'.1 S'.2.2.2.1 w with
      | some q => bif asub q f.2.2 then ih S' (fun ws S2 => k (w :: ws) S2) else none
      | none => none)
    | _ => none))
  | none => none) pf
/-- arguments that lie between two -/
noncomputable def arfA {β : Type} (args : List av) (rf : List (Nat × Int × Int)) : aI → (aI → Option (List β)) → Option (List β) := List.rec (motive := fun _ => aI → (aI → Option (List β)) → Option (List β)) (fun sy k => k sy) (fun f _ ih sy k => match nth args f.1 with
  | some (.inl w) => acut sy w.1 (f.2.1 - w.2) (f.2.2 - w.2) (fun sy' => ih sy' k)
  | _ => none) rf
/-- slots behind a call -/
noncomputable def apst {β : Type} (args : List av) (ws : List (Nat × Int)) (pf : List (Nat × Nat × Nat × Bool × Int × Int × Int)) : aI → aF → aR → (aI → aF → aR → Option (List β)) → Option (List β) := List.rec (motive := fun _ => aI → aF → aR → (aI → aF → aR → Option (List β)) → Option (List β)) (fun sy fa rl k => k sy fa rl) (fun f _ ih sy fa rl k => match acnm args f.1 with
  | none => none
  | some n => match f.2.2.1 with
    | 0 => afr f.2.2.2.2.2 sy (fun v sy' => ih sy' (((n, 0, Int.ofNat f.2.1), .inl v) :: fa) rl k)
    | j + 1 => match nth ws j with
      | none => none
      | some w => bif f.2.2.2.1 then afr f.2.2.2.2.2 sy (fun v sy' => bif ieq v.2 0 then (frcZ (f.2.2.2.2.1 - w.2) (fun c => filK (fun g => Nat.beq g.2.1 w.1) rl (fun old => ih sy' (((n, 0, Int.ofNat f.2.1), .inl v) :: fa) ((w.1, v.1, c) :: (old.map (fun g => (g.1, v.1, g.2.2 + c)) ++ rl)) k))) else ih sy' (((n, 0, Int.ofNat f.2.1), .inl v) :: fa) rl k) else frcZ (w.2 + f.2.2.2.2.1) (fun c => ih sy (((n, 0, Int.ofNat f.2.1), .inl (w.1, c)) :: fa) rl k)) pf
/-- an end of a contract -/
noncomputable def aend {β : Type} (args : List av) (ws : List (Nat × Int)) (wl : aW) (S : aS) (e : aE) (k : (Option av ⊕ Nat) → aS → Option (List β)) : Option (List β) := match S, e with
  | (sy, nm, fa, rl, wr, tc), (ret, dt, rf, pf) => filK (adrp nm wl) fa (fun fb => arfA args rf sy (fun sy1 => apst args ws pf sy1 fb rl (fun sy2 fc rl2 => frc (tc + dt) (fun tc' => match ret with
    | .inr x => k (.inr x) (sy2, nm, fc, rl2, awad wr wl, tc')
    | .inl none => k (.inl none) (sy2, nm, fc, rl2, awad wr wl, tc')
    | .inl (some (.inl p)) => afr p sy2 (fun v sy3 => k (.inl (some (.inl v))) (sy3, nm, fc, rl2, awad wr wl, tc'))
    | .inl (some (.inr (.inl T))) => anw T nm (fun n nm' => k (.inl (some (.inr (.inl n)))) (sy2, nm', fc, rl2, awad wr wl, tc'))
    | .inl (some (.inr (.inr q))) => k (.inl (some (.inr (.inr q)))) (sy2, nm, fc, rl2, awad wr wl, tc')))))
noncomputable def aends {β : Type} (args : List av) (ws : List (Nat × Int)) (wl : aW) (S : aS) (k : (Option av ⊕ Nat) → aS → Option (List β)) (es : List aE) : Option (List β) := List.rec (motive := fun _ => Option (List β)) (some []) (fun e _ ih => acat (aend args ws wl S e k) ih) es
/-- behind a call -/
noncomputable def abck (vt : Bool) (ih : aG) (mi pc : Nat) (act : List aO) (ls : List (Option av)) (rest : List av) (o : Option av ⊕ Nat) (S : aS) : Option aL := match o with
  | .inl none => frc (pc + 3) (fun pc' => tick (ih act pc' ls rest S))
  | .inl (some v) => frc (pc + 3) (fun pc' => tick (ih act pc' ls (anrm S.1 v :: rest) S))
  | .inr e => bif vt then (match zmeth mi with
    | some (_, _, _, hs) => match zhand hs pc e with
      | some k => frc k (fun k => tick (ih act k ls [.inr (.inr 1)] S))
      | none => some [(.inl (.inr e), S)]
    | none => none) else none
noncomputable def abcks (vt : Bool) (ih : aG) (mi pc : Nat) (act : List aO) (ls : List (Option av)) (rest : List av) (L : aL) : Option aL := List.rec (motive := fun _ => Option aL) (some []) (fun x _ r => match x.1 with
  | .inl o => acat (abck vt ih mi pc act ls rest o x.2) r
  | .inr _ => none) L
/-- the first contract that fits -/
noncomputable def apick (S : aS) (d : Nat) (args : List av) (cs : List aK) : Option aK := List.rec (motive := fun _ => Option aK) none (fun c _ ih => bif Nat.ble c.2.2.1 d && aqok S c.1 args then some c else ih) cs
noncomputable def acal (ctb : Nat → List aK) (d : Nat) (call : aC) (ih : aG) (mi pc : Nat) (act : List aO) (ls : List (Option av)) (st : List av) (S : aS) (r : zr) : Option aL := match zmeth r.2.1 with
  | some (nL, _, n, _) => match apopn n [] st with
    | some (args, rest) => bif Nat.ble (acatn rest) 8 && aargs S r args then (match aent args nL with
      | some l0 => (match ctb r.2.1 with
        | [] => (match call r.2.1 l0 S with
          | some L => abcks (Nat.beq r.1 0) ih mi pc act ls rest L
          | none => none)
        | cs => (match apick S d args cs with
          | some c => apre args c.2.1 S (fun ws S' => aends args ws c.2.2.2.1 S' (fun o S2 => abck (Nat.beq r.1 0) ih mi pc act ls rest o S2) c.2.2.2.2)
          | none => none))
      | none => none) else none
    | none => none
  | none => none
/-- a copy from the first place to the first place -/
noncomputable def acpy (ih : aG) (pc : Nat) (act : List aO) (ls : List (Option av)) (st : List av) (S : aS) : Option aL := match st with
  | .inl n :: .inl dp :: b :: .inl sp :: a :: st' => acel S a (fun _ _ ta => acel S b (fun _ T tb => match ta, tb with
    | .inl (0, La, [(_, .inl pa)]), .inl (0, Lb, [(_, .inl pb)]) => (match aiv S.1 n, aiv S.1 dp, aiv S.1 sp, S with
      | some pn, some pd, some ps, (sy, nm, fa, rl, wr, tc) => bif asub pa pb && (asub pn (0, Int.ofNat La) && (asub pn (0, Int.ofNat Lb) && (asub pd (0, 0) && (asub ps (0, 0) && (!aprot T && Nat.ble (acatn st') 8))))) then filK (adrp nm [(T, 0, Lb)]) fa (fun fb => frc (pc + 3) (fun pc' => tick (ih act pc' ls st' (sy, nm, fb, rl, awr wr (T, 0, Lb), tc)))) else none
      | _, _, _, _ => none)
    | _, _ => none))
  | _ => none
noncomputable def aret (sy : aI) (k : Nat) (v : av) : Bool := match k, v with
  | 1, .inl _ => true
  | 2, .inl w => (match aiv sy w with
    | some p => asub p (0, 1)
    | none => false)
  | 3, a => aisA a
  | 4, a => aisL a
  | 5, .inl w => (match aiv sy w with
    | some p => asub p (0, 127)
    | none => false)
  | 6, .inl w => (match aiv sy w with
    | some p => asub p (0, 127)
    | none => false)
  | _, _ => false
noncomputable def afin (mi : Nat) (st : List av) (S : aS) (f : av → Bool) : Option aL := match zmeth mi, st with
  | some (_, k, _, _), [v] => bif aret S.1 k v && f v then some [(.inl (.inl (some v)), S)] else none
  | _, _ => none
noncomputable def avoi (mi : Nat) (st : List av) (S : aS) : Option aL := match zmeth mi, st with
  | some (_, k, _, _), [] => bif Nat.beq k 0 then some [(.inl (.inl none), S)] else none
  | _, _ => none
noncomputable def athr (st : List av) (r : zr) (S : aS) : Option aL := match st, S with
  | [], (sy, nm, fa, rl, wr, tc) => frc (tc + 1) (fun tc' => some [(.inl (.inr r.2.1), (sy, nm, fa, rl, wr, tc'))])
  | _, _ => none
/-- an instruction -/
noncomputable def ains (ctb : Nat → List aK) (d : Nat) (call : aC) (mi : Nat) (ih : aG) (act : List aO) (pc : Nat) (ls : List (Option av)) (st : List av) (S : aS) : Option aL := match zfetch mi pc with
  | none => none
  | some (i, _, r) => match i with
    | .return_ => avoi mi st S
    | .ireturn => afin mi st S aisI
    | .areturn => afin mi st S aisA
    | .lreturn => afin mi st S aisL
    | .invokestatic _ => bif Nat.beq r.1 5 then none else bif Nat.beq r.1 7 then acpy ih pc act ls st S else acal ctb d call ih mi pc act ls st S r
    | .invokevirtual _ => bif Nat.beq r.1 5 then none else bif Nat.beq r.1 7 then acpy ih pc act ls st S else acal ctb d call ih mi pc act ls st S r
    | .invokespecial _ => bif Nat.beq r.1 5 then none else bif Nat.beq r.1 7 then acpy ih pc act ls st S else acal ctb d call ih mi pc act ls st S r
    | .new _ => bif Nat.beq r.1 99 then athr st r S else none
    | i => atr i r pc ls st S (fun pc' ls' st' S' => frc pc' (fun pc'' => tick (ih act pc'' ls' st' S')))
noncomputable def ago (ctb : Nat → List aK) (ann : aA) (stops : List Nat) (d : Nat) (call : aC) (mi : Nat) (ih : aG) : aG := fun act pc ls st S => bif stops.any (fun q => Nat.beq q pc) then some [(.inr (pc, ls, st), S)] else (match alk act pc with
  | some o => bif aarr o ls st S then some [] else none
  | none => match alk ann pc with
    | none => ains ctb d call mi ih act pc ls st S
    | some (.inr sp) => aspl ls (fun S' => ains ctb d call mi ih act pc ls st S') sp S
    | some (.inl an) => (match st with
      | [] => ahead an pc ls S (fun o lsH SH => ains ctb d call mi ih (o :: act) pc lsH [] SH)
      | _ => none))
noncomputable def alp (ctb : Nat → List aK) (ann : aA) (stops : List Nat) (d : Nat) (call : aC) (mi n : Nat) : aG := Nat.rec (motive := fun _ => aG) (fun _ _ _ _ _ => none) (fun _ ih => ago ctb ann stops d call mi ih) n
/-- callees that have no contract -/
noncomputable def arn (ctb : Nat → List aK) (nn d : Nat) : aC := Nat.rec (motive := fun _ => aC) (fun _ _ _ => none) (fun d ih => fun mi l0 S => alp ctb [] [] d ih mi nn [] 0 l0 [] S) d
