section TR3
variable {J : zh → Prop} {τ0 : List Nat} {h0 : zh} {t0 : Nat} {ρ : List Int} {ν τ : List Nat} {h : zh} {t pc : Nat} {β : Type} {y : List β} {k : Nat → List (Option av) → List av → aS → Option (List β)} {ls : List (Option av)} {st : List av} {S : aS} {cs : List (Option zv)} {vs : List zv} {r : zr} {i : Instr}
theorem gI (a : av) (v : zv) (h1 : aisI a = true) (h2 : avM ρ ν a v) : zisI v = true := by
  obtain ⟨s, c, x, rr, rfl, rfl, -⟩ := aisI_ok h1 h2
  rfl
theorem gA (a : av) (v : zv) (h1 : aisA a = true) (h2 : avM ρ ν a v) : zisA v = true := by
  obtain ⟨o, rfl⟩ := aisA_ok h1 h2
  rfl
theorem gL (a : av) (v : zv) (h1 : aisL a = true) (h2 : avM ρ ν a v) : zisL v = true := by
  obtain ⟨-, w, rfl⟩ := aisL_ok h1 h2
  rfl
theorem avM_L {w : Int64} : avM ρ ν (.inr (.inr 2)) (.inr (.inr (.inl w))) := Or.inr (Or.inr (Or.inl ⟨rfl, w, rfl⟩))
theorem tr_ld {f : av → Bool} {g : zv → Bool} {j w : Nat} (hn : anoH i = true) (hg : ∀ (a : av) (v : zv), f a = true → avM ρ ν a v → g v = true) (e : alod f S.1 ls j (fun a => k (pc + w) ls (a :: st) S) = some y) (he : ∀ v : zv, zld cs j g = some v → stA i r pc cs vs = some (pc + w, cs, v :: vs)) (hM : aM J τ0 h0 t0 S ρ ν τ h t) (hl : alM ρ ν ls cs) (hs : asM ρ ν st vs) : aOk J τ0 h0 t0 ρ ν τ i r pc cs vs h t y k := by
  obtain ⟨v, a, e1, -, e2, e3, -⟩ := alod_ok hg e hM.1 hl
  exact aOk_same e2 hn (he v e1) hM hl (asM_mk e3 hs)
theorem tr_st {f : av → Bool} {g : zv → Bool} {j w : Nat} (hn : anoH i = true) (hg : ∀ (a : av) (v : zv), f a = true → avM ρ ν a v → g v = true) (e : apop f st (fun a st' => asto ls j a (fun ls' => k (pc + w) ls' st' S)) = some y) (he : ∀ (v : zv) (vs' : List zv) (cs' : List (Option zv)), vs = v :: vs' → g v = true → zsto cs j v = some cs' → stA i r pc cs vs = some (pc + w, cs', vs')) (hM : aM J τ0 h0 t0 S ρ ν τ h t) (hl : alM ρ ν ls cs) (hs : asM ρ ν st vs) : aOk J τ0 h0 t0 ρ ν τ i r pc cs vs h t y k := by
  obtain ⟨a, st', v, vs', rfl, hf, e, e1, e2⟩ := apop_ok e hs
  obtain ⟨s1, s2, s3⟩ := asto_ok e hl e1
  exact aOk_same s2 hn (he v vs' _ rfl (hg a v hf e1) s1) hM s3 e2
theorem zun_b {f : zv → zv → Option zv} {x z : Int32} {vs' : List zv} {w : zv} (e : f (zi x) (zi z) = some w) : zbin f pc cs (zi z :: zi x :: vs') = some (pc + 1, cs, w :: vs') := by
  unfold zbin
  simp only [e]
theorem alng_ok (hn : anoH i = true) (e : alng pc ls st S k = some y) (he : ∀ (a b : Int64) (vs' : List zv), vs = .inr (.inr (.inl a)) :: .inr (.inr (.inl b)) :: vs' → ∃ w : Int64, stA i r pc cs vs = some (pc + 1, cs, .inr (.inr (.inl w)) :: vs')) (hM : aM J τ0 h0 t0 S ρ ν τ h t) (hl : alM ρ ν ls cs) (hs : asM ρ ν st vs) : aOk J τ0 h0 t0 ρ ν τ i r pc cs vs h t y k := by
  unfold alng at e
  split at e
  · rename_i a b st'
    obtain ⟨v1, vs1, rfl, h1, h2⟩ := asM_cons hs
    obtain ⟨v2, vs2, rfl, h3, h4⟩ := asM_cons h2
    cases hb : aisL a && aisL b with
    | false => rw [hb] at e; cases e
    | true =>
      rw [hb] at e
      simp only [Bool.and_eq_true] at hb
      obtain ⟨-, w1, rfl⟩ := aisL_ok hb.1 h1
      obtain ⟨-, w2, rfl⟩ := aisL_ok hb.2 h3
      obtain ⟨w, e9⟩ := he w1 w2 vs2 rfl
      exact aOk_same e hn e9 hM hl (asM_mk avM_L h4)
  · cases e
theorem lop_ex (f : Int64 → Int64 → Int64) (a b : Int64) : lop f (.inr (.inr (.inl a))) (.inr (.inr (.inl b))) = some (.inr (.inr (.inl (f a b)))) := by
  show frcL (f a b) (fun z => some (.inr (.inr (.inl z)) : zv)) = _
  rw [frcL_eq]
theorem atr_ok (hJ : aJok J) (e : atr i r pc ls st S k = some y) (hM : aM J τ0 h0 t0 S ρ ν τ h t) (hl : alM ρ ν ls cs) (hs : asM ρ ν st vs) : aOk J τ0 h0 t0 ρ ν τ i r pc cs vs h t y k := by
  cases i
  case aconst_null =>
    replace e : (k (pc + 1) ls (.inr (.inr 0) :: st) S) = some y := e
    exact aOk_same e rfl rfl hM hl (asM_mk (Or.inl ⟨rfl, rfl⟩) hs)
  case iconst n =>
    replace e : (acst (Int32.ofInt n) (fun a => k (pc + 1) ls (a :: st) S)) = some y := e
    refine aOk_same (acst_ok e) rfl ?_ hM hl (asM_mk (avM_cst hM.1.1) hs)
    show frcI (Int32.ofInt n) (fun v => some (pc + 1, cs, zi v :: vs)) = _
    rw [frcI_eq]
  case bipush n =>
    replace e : (acst (Int8.ofInt n).toInt32 (fun a => k (pc + 2) ls (a :: st) S)) = some y := e
    refine aOk_same (acst_ok e) rfl ?_ hM hl (asM_mk (avM_cst hM.1.1) hs)
    show frcI (Int8.ofInt n).toInt32 (fun v => some (pc + 2, cs, zi v :: vs)) = _
    rw [frcI_eq]
  case sipush n =>
    replace e : (acst (Int16.ofInt n).toInt32 (fun a => k (pc + 3) ls (a :: st) S)) = some y := e
    refine aOk_same (acst_ok e) rfl ?_ hM hl (asM_mk (avM_cst hM.1.1) hs)
    show frcI (Int16.ofInt n).toInt32 (fun v => some (pc + 3, cs, zi v :: vs)) = _
    rw [frcI_eq]
  case lconst n =>
    replace e : (k (pc + 1) ls (.inr (.inr 2) :: st) S) = some y := e
    refine aOk_same e rfl ?_ hM hl (asM_mk (avM_L (w := Int64.ofNat (n : Nat))) hs)
    show frcL (Int64.ofNat (n : Nat)) (fun v => some (pc + 1, cs, (.inr (.inr (.inl v)) : zv) :: vs)) = _
    rw [frcL_eq]
  case iload_n j =>
    replace e : (alod aisI S.1 ls j (fun a => k (pc + 1) ls (a :: st) S)) = some y := e
    refine tr_ld (w := 1) rfl gI e (fun v hv => ?_) hM hl hs
    show (match zld cs j zisI with
      | some a => some (pc + 1, cs, a :: vs)
      | none => none) = _
    rw [hv]
  case iload j =>
    replace e : (alod aisI S.1 ls j (fun a => k (pc + 2) ls (a :: st) S)) = some y := e
    refine tr_ld (w := 2) rfl gI e (fun v hv => ?_) hM hl hs
    show (match zld cs j zisI with
      | some a => some (pc + 2, cs, a :: vs)
      | none => none) = _
    rw [hv]
  case aload_n j =>
    replace e : (alod aisA S.1 ls j (fun a => k (pc + 1) ls (a :: st) S)) = some y := e
    refine tr_ld (w := 1) rfl gA e (fun v hv => ?_) hM hl hs
    show (match zld cs j zisA with
      | some a => some (pc + 1, cs, a :: vs)
      | none => none) = _
    rw [hv]
  case aload j =>
    replace e : (alod aisA S.1 ls j (fun a => k (pc + 2) ls (a :: st) S)) = some y := e
    refine tr_ld (w := 2) rfl gA e (fun v hv => ?_) hM hl hs
    show (match zld cs j zisA with
      | some a => some (pc + 2, cs, a :: vs)
      | none => none) = _
    rw [hv]
  case lload_n j =>
    replace e : (alod aisL S.1 ls j (fun a => k (pc + 1) ls (a :: st) S)) = some y := e
    refine tr_ld (w := 1) rfl gL e (fun v hv => ?_) hM hl hs
    show (match zld cs j zisL with
      | some a => some (pc + 1, cs, a :: vs)
      | none => none) = _
    rw [hv]
  case istore_n j =>
    replace e : (apop aisI st (fun a st' => asto ls j a (fun ls' => k (pc + 1) ls' st' S))) = some y := e
    refine tr_st (w := 1) rfl gI e (fun v vs' cs' hv hg hz => ?_) hM hl hs
    subst hv
    show (bif zisI v then (match zsto cs j v with
      | some ls' => some (pc + 1, ls', vs')
      | none => none) else none) = _
    rw [hg, hz]
    rfl
  case istore j =>
    replace e : (apop aisI st (fun a st' => asto ls j a (fun ls' => k (pc + 2) ls' st' S))) = some y := e
    refine tr_st (w := 2) rfl gI e (fun v vs' cs' hv hg hz => ?_) hM hl hs
    subst hv
    show (bif zisI v then (match zsto cs j v with
      | some ls' => some (pc + 2, ls', vs')
      | none => none) else none) = _
    rw [hg, hz]
    rfl
  case astore_n j =>
    replace e : (apop aisA st (fun a st' => asto ls j a (fun ls' => k (pc + 1) ls' st' S))) = some y := e
    refine tr_st (w := 1) rfl gA e (fun v vs' cs' hv hg hz => ?_) hM hl hs
    subst hv
    show (bif zisA v then (match zsto cs j v with
      | some ls' => some (pc + 1, ls', vs')
      | none => none) else none) = _
    rw [hg, hz]
    rfl
  case astore j =>
    replace e : (apop aisA st (fun a st' => asto ls j a (fun ls' => k (pc + 2) ls' st' S))) = some y := e
    refine tr_st (w := 2) rfl gA e (fun v vs' cs' hv hg hz => ?_) hM hl hs
    subst hv
    show (bif zisA v then (match zsto cs j v with
      | some ls' => some (pc + 2, ls', vs')
      | none => none) else none) = _
    rw [hg, hz]
    rfl
  case lstore_n j =>
    replace e : (apop aisL st (fun a st' => asto2 ls j a (fun ls' => k (pc + 1) ls' st' S))) = some y := e
    obtain ⟨a, st', v, vs', rfl, hf, e, e1, e2⟩ := apop_ok e hs
    obtain ⟨ls', cs', s1, s2, s3⟩ := asto2_ok e hl e1
    refine aOk_same s2 rfl ?_ hM s3 e2
    show (bif zisL v then (match zsto2 cs j v with
      | some ls' => some (pc + 1, ls', vs')
      | none => none) else none) = _
    rw [gL a v hf e1, s1]
    rfl
  case iinc j n =>
    replace e : (alod aisI S.1 ls j (fun a => match a with
        | .inl w => acst (Int32.ofInt n) (fun b => match b with
          | .inl u => abop 0 S w u (fun v S' => asto ls j (.inl v) (fun ls' => k (pc + 3) ls' st S'))
          | _ => none)
        | _ => none)) = some y := e
    obtain ⟨v, a, e1, hI, e2, e3, e39⟩ := alod_ok (g := zisI) gI e hM.1 hl
    obtain ⟨s9, c9, x9, r9, rfl, rfl, -, -⟩ := aisI_ok hI e39
    obtain ⟨w, hw⟩ := anrm_I (sy := S.1) (s := s9) (c := c9)
    rw [hw] at e2 e3
    simp only at e2
    have e4 := acst_ok e2
    simp only at e4
    obtain ⟨x, rr, hx1, hx2, hx3⟩ := e3
    cases hx1
    obtain ⟨u, S', ρ', r', f1, f2, f3, f4, f5⟩ := abop_ok (b := (0, (Int32.ofInt n).toInt)) (z := Int32.ofInt n) e4 hM hx2 hM.1.1 hx3 (by simp only; omega)
    obtain ⟨s1, s2, s3⟩ := asto_ok (v := zi (x9 + Int32.ofInt n)) f1 (alM_up f2 (aup_refl _) hl) ⟨_, r', rfl, f4, f5⟩
    refine ⟨_, _, _, S', y, _, vs, none, ρ', ν, s2, fun _ hw => hw, stH_A rfl ?_, f2, aup_refl _, f3, s3, asM_up f2 (aup_refl _) hs⟩
    show (match zld cs j zisI with
      | some a => match bop (fun x y => x + y) a (zi (Int32.ofInt n)) with
        | some v => match zsto cs j v with
          | some ls' => some (pc + 3, ls', vs)
          | none => none
        | none => none
      | none => none) = _
    rw [e1]
    simp only [bop_ex, s1]
  case iadd =>
    replace e : (abin 0 pc ls st S k) = some y := e
    exact abin_ok e rfl (fun x z vs' hv => by subst hv; exact zun_b (bop_ex _ x z)) hM hl hs
  case isub =>
    replace e : (abin 1 pc ls st S k) = some y := e
    exact abin_ok e rfl (fun x z vs' hv => by subst hv; exact zun_b (bop_ex _ x z)) hM hl hs
  case imul =>
    replace e : (abin 2 pc ls st S k) = some y := e
    exact abin_ok e rfl (fun x z vs' hv => by subst hv; exact zun_b (bop_ex _ x z)) hM hl hs
  case iand =>
    replace e : (abin 3 pc ls st S k) = some y := e
    exact abin_ok e rfl (fun x z vs' hv => by subst hv; exact zun_b (f := zand) (show zand (zi x) (zi z) = some (zi (x &&& z)) from bop_ex (fun x y => x &&& y) x z)) hM hl hs
  case ior =>
    replace e : (abin 4 pc ls st S k) = some y := e
    exact abin_ok e rfl (fun x z vs' hv => by subst hv; exact zun_b (bop_ex _ x z)) hM hl hs
  case ixor =>
    replace e : (abin 5 pc ls st S k) = some y := e
    exact abin_ok e rfl (fun x z vs' hv => by subst hv; exact zun_b (bop_ex _ x z)) hM hl hs
  case ishl =>
    replace e : (abin 6 pc ls st S k) = some y := e
    exact abin_ok e rfl (fun x z vs' hv => by subst hv; exact zun_b (bop_ex _ x z)) hM hl hs
  case ishr =>
    replace e : (abin 7 pc ls st S k) = some y := e
    exact abin_ok e rfl (fun x z vs' hv => by subst hv; exact zun_b (bop_ex _ x z)) hM hl hs
  case iushr =>
    replace e : (abin 8 pc ls st S k) = some y := e
    exact abin_ok e rfl (fun x z vs' hv => by subst hv; exact zun_b (bop_ex _ x z)) hM hl hs
  case irem =>
    replace e : (arem pc ls st S k) = some y := e
    replace e : arem pc ls st S k = some y := e
    unfold arem at e
    split at e
    · rename_i b st'
      cases hp : aiv S.1 b with
      | none => rw [hp] at e; cases e
      | some p =>
        rw [hp] at e
        simp only at e
        cases h1 : ile 1 p.1 with
        | false => rw [h1] at e; cases e
        | true =>
          rw [h1] at e
          simp only [cond_true] at e
          have h1 := ile_iff.mp h1
          obtain ⟨v1, vs1, rfl, g1, g2⟩ := asM_cons hs
          obtain ⟨z9, rb, rfl, hb, hz⟩ := g1
          have := aiv_ok (s := b.1) (c := b.2) hM.1 hp hb
          refine abin_ok (o := 9) e rfl (fun x z vs' hv => ?_) hM hl hs
          cases hv
          refine zun_b (f := zrem) ?_
          show (bif decide (z9 = 0) then none else bop (fun x y => x - x / y * y) (zi x) (zi z9)) = _
          rw [decide_eq_false (fun q => by
            subst q
            have h0 : (0 : Int32).toInt = 0 := by decide
            omega)]
          show bop (fun x y => x - x / y * y) (zi x) (zi z9) = _
          exact bop_ex _ x z9
    · cases e
  case ladd =>
    replace e : (alng pc ls st S k) = some y := e
    exact alng_ok rfl e (fun a b vs' hv => ⟨b + a, by
      subst hv
      show (match lop (fun x y => x + y) (.inr (.inr (.inl b))) (.inr (.inr (.inl a))) with
        | some v => some (pc + 1, cs, v :: vs')
        | none => none) = _
      rw [lop_ex]⟩) hM hl hs
  case lmul =>
    replace e : (alng pc ls st S k) = some y := e
    exact alng_ok rfl e (fun a b vs' hv => ⟨b * a, by
      subst hv
      show (match lop (fun x y => x * y) (.inr (.inr (.inl b))) (.inr (.inr (.inl a))) with
        | some v => some (pc + 1, cs, v :: vs')
        | none => none) = _
      rw [lop_ex]⟩) hM hl hs
  case i2c =>
    replace e : (ai2c pc ls st S k) = some y := e
    exact ai2c_ok e hM hl hs
  case i2l =>
    replace e : (apop aisI st (fun _ st' => k (pc + 1) ls (.inr (.inr 2) :: st') S)) = some y := e
    obtain ⟨a, st', v, vs', rfl, hf, e, e1, e2⟩ := apop_ok e hs
    obtain ⟨s9, c9, x9, r9, rfl, rfl, -, -⟩ := aisI_ok hf e1
    refine aOk_same e rfl ?_ hM hl (asM_mk (avM_L (w := x9.toInt64)) e2)
    show (match frcL x9.toInt64 (fun z => some (.inr (.inr (.inl z)) : zv)) with
      | some v => some (pc + 1, cs, v :: vs')
      | none => none) = _
    rw [frcL_eq]
  case dup =>
    replace e : (apop (fun a => !aisL a) st (fun a st' => k (pc + 1) ls (a :: a :: st') S)) = some y := e
    obtain ⟨a, st', v, vs', rfl, hf, e, e1, e2⟩ := apop_ok e hs
    refine aOk_same e rfl ?_ hM hl (asM_mk e1 (asM_mk e1 e2))
    show (bif zisL v then none else some (pc + 1, cs, v :: v :: vs')) = _
    rw [aisL_no (by simpa using hf) e1]
    rfl
  case dup2 =>
    replace e : (apop (fun a => !aisL a) st (fun a st' => apop (fun a => !aisL a) st' (fun b st2 => k (pc + 1) ls (a :: b :: a :: b :: st2) S))) = some y := e
    obtain ⟨a, st', v, vs', rfl, hf, e, e1, e2⟩ := apop_ok e hs
    obtain ⟨b, st2, w, vs2, rfl, hf2, e, e3, e4⟩ := apop_ok e e2
    refine aOk_same e rfl ?_ hM hl (asM_mk e1 (asM_mk e3 (asM_mk e1 (asM_mk e3 e4))))
    show (bif zisL v || zisL w then none else some (pc + 1, cs, v :: w :: v :: w :: vs2)) = _
    rw [aisL_no (by simpa using hf) e1, aisL_no (by simpa using hf2) e3]
    rfl
  case pop =>
    replace e : (apop (fun a => !aisL a) st (fun _ st' => k (pc + 1) ls st' S)) = some y := e
    obtain ⟨a, st', v, vs', rfl, hf, e, e1, e2⟩ := apop_ok e hs
    refine aOk_same e rfl ?_ hM hl e2
    show (bif zisL v then none else some (pc + 1, cs, vs')) = _
    rw [aisL_no (by simpa using hf) e1]
    rfl
  case pop2 =>
    replace e : (apop aisL st (fun _ st' => k (pc + 1) ls st' S)) = some y := e
    obtain ⟨a, st', v, vs', rfl, hf, e, e1, e2⟩ := apop_ok e hs
    refine aOk_same e rfl ?_ hM hl e2
    show (bif zisL v then some (pc + 1, cs, vs') else none) = _
    rw [gL a v hf e1]
    rfl
  case goto off =>
    replace e : (ajmp pc off ls st S k) = some y := e
    exact ajmp_ok e (fun _ hw => hw) rfl rfl hM hl hs
  case ifCond c off =>
    replace e : aif1 c pc off ls st S k = some y := e
    unfold aif1 at e
    split at e
    · rename_i a st'
      obtain ⟨v1, vs1, rfl, h1, h2⟩ := asM_cons hs
      obtain ⟨x, ra, rfl, ha, hx⟩ := h1
      refine abrn_ok e rfl ?_ hM ha (rb := 0) hM.1.1 hl h2
      show zbr (zcond c (zi x) (zi 0)) pc off cs vs1 = _
      rw [zcond_ex, hx]
      rfl
    · cases e
  case if_icmp c off =>
    replace e : aif2 c pc off ls st S k = some y := e
    unfold aif2 at e
    split at e
    · rename_i b a st'
      obtain ⟨v1, vs1, rfl, h1, h2⟩ := asM_cons hs
      obtain ⟨v2, vs2, rfl, h3, h4⟩ := asM_cons h2
      obtain ⟨z, rb, rfl, hb, hz⟩ := h1
      obtain ⟨x, ra, rfl, ha, hx⟩ := h3
      refine abrn_ok e rfl ?_ hM ha hb hl h4
      show zbr (zcond c (zi x) (zi z)) pc off cs vs2 = _
      rw [zcond_ex, hx, hz]
    · cases e
  case ifnull off =>
    replace e : (anul true pc off ls st S k) = some y := e
    exact anul_ok (b := true) rfl e (fun vs' hv => by subst hv; rfl) (fun q vs' hq hv => by
    subst hv
    show (bif Nat.blt q 1000000 then zbr (some false) pc off cs vs' else none) = _
    rw [bltT.mpr hq]
    rfl) hM hl hs
  case ifnonnull off =>
    replace e : (anul false pc off ls st S k) = some y := e
    exact anul_ok (b := false) rfl e (fun vs' hv => by subst hv; rfl) (fun q vs' hq hv => by
    subst hv
    show (bif Nat.blt q 1000000 then zbr (some true) pc off cs vs' else none) = _
    rw [bltT.mpr hq]
    rfl) hM hl hs
  case tableswitch dflt lo hi offs =>
    replace e : atbl dflt lo hi offs.toList pc ls st S k = some y := e
    unfold atbl at e
    split at e
    · rename_i a st'
      obtain ⟨v1, vs1, rfl, h1, h2⟩ := asM_cons hs
      obtain ⟨x, ra, rfl, ha, hx⟩ := h1
      cases hb : ieq (lo + Int.ofNat offs.toList.length) (hi + 1) with
      | false => rw [hb] at e; cases e
      | true =>
        rw [hb] at e
        simp only [cond_true] at e
        have hlen := ieq_iff.mp hb
        have hlen : lo + (offs.toList.length : Int) = hi + 1 := hlen
        obtain ⟨y1, y2, e1, e2, s1, s2⟩ := acat_ok e
        obtain ⟨y3, y4, e3, e4, s3, s4⟩ := acat_ok e2
        have hA : ∀ off : Int, zsw (x, none) dflt lo hi offs = some off → stA (.tableswitch dflt lo hi offs) r pc cs (zi x :: vs1) = zbr (some true) pc off cs vs1 := by
          intro off ho
          show (match zsw (x, none) dflt lo hi offs with
            | some off => zbr (some true) pc off cs vs1
            | none => none) = _
          rw [ho]
        have hz : zhi ((x, none) : Int32 × Option Int32) = x := rfl
        by_cases c1 : x.toInt < lo
        · obtain ⟨S', e5, hM'⟩ := arfL_ok (d := 1) (b := (0, lo)) e1 hM ha hM.1.1 (by simp only; omega)
          refine ajmp_ok e5 s1 rfl (hA dflt ?_) hM' hl h2
          unfold zsw
          rw [hz, decide_eq_true c1]
          rfl
        · by_cases c2 : hi < x.toInt
          · obtain ⟨S', e5, hM'⟩ := arfL_ok (d := 1) (a := (0, hi)) e3 hM hM.1.1 ha (by simp only; omega)
            refine ajmp_ok e5 (fun w hw => s2 w (s3 w hw)) rfl (hA dflt ?_) hM' hl h2
            unfold zsw
            rw [hz, decide_eq_true c2, Bool.or_true]
            rfl
          · refine atsw_ok rfl hM hl h2 ha offs.toList lo y4 e4 (fun w hw => s2 w (s4 w hw)) (by omega) (by omega) (fun off ho => hA off ?_)
            unfold zsw
            rw [hz, decide_eq_false c1, decide_eq_false c2]
            simp only [Bool.or_self, cond_false]
            rw [← hx, Array.getElem?_toList] at ho
            exact ho
    · cases e
  case lookupswitch dflt ps =>
    replace e : albl dflt ps.toList pc ls st S k = some y := e
    unfold albl at e
    split at e
    · rename_i a st'
      obtain ⟨v1, vs1, rfl, h1, h2⟩ := asM_cons hs
      obtain ⟨x, ra, rfl, ha, hx⟩ := h1
      cases hb : (ps.toList.zip (ps.toList.drop 1)).all (fun (a, next) => a.1 < next.1) with
      | false => rw [hb] at e; cases e
      | true =>
        rw [hb] at e
        simp only [cond_true] at e
        refine alsw_ok rfl hl h2 ha ps.toList S y hM e (fun _ hw => hw) ?_
        show (bif (ps.toList.zip (ps.toList.drop 1)).all (fun (a, next) => a.1 < next.1) then zbr (some true) pc (Op.lookupswitch.offset ps.toList dflt x.toInt) cs vs1 else none) = _
        rw [hb, hx]
        rfl
    · cases e
  case getfield f9 =>
    replace e : (agetf r pc ls st S k) = some y := e
    exact agetf_ok e hM hl hs
  case putfield f9 =>
    replace e : (aputf r pc ls st S k) = some y := e
    exact aputf_ok hJ e hM hl hs
  case iaload =>
    replace e : (aaL (fun t => Nat.beq t 0) pc ls st S k) = some y := e
    refine aaL_ok e (fun ix q vs' hq hv => ?_) hM hl hs
    subst hv
    show (bif Nat.beq q 1000000 then _ else zald (fun t => Nat.beq t 0) pc cs (ix :: .inl (some q) :: vs') h) = _
    have hne : Nat.beq q 1000000 = false := by
      cases h9 : Nat.beq q 1000000 with
      | false => rfl
      | true => have := Nat.eq_of_beq_eq_true h9; omega
    rw [hne]
    rfl
  case baload =>
    replace e : (abyt pc ls st S k) = some y := e
    exact abyt_ok e hM hl hs
  case aaload =>
    replace e : (aaL (fun t => Nat.ble 3 t && Nat.ble t 5) pc ls st S k) = some y := e
    exact aaL_ok e (fun ix q vs' hq hv => rfl) hM hl hs
  case iastore =>
    replace e : (aaS 0 0 pc ls st S k) = some y := e
    exact aaS_ok hJ e (fun v ix q vs' hv => rfl) hM hl hs
  case bastore =>
    replace e : (aaS 1 1 pc ls st S k) = some y := e
    exact aaS_ok hJ e (fun v ix q vs' hv => rfl) hM hl hs
  case lastore =>
    replace e : (aaS 2 3 pc ls st S k) = some y := e
    exact aaS_ok hJ e (fun v ix q vs' hv => rfl) hM hl hs
  case arraylength =>
    replace e : (alen pc ls st S k) = some y := e
    exact alen_ok e hM hl hs
  case ldc f9 =>
    replace e : (bif Nat.beq r.1 0 then acst (Int32.ofNat r.2.1) (fun a => k (pc + 2) ls (a :: st) S) else bif Nat.blt r.2.1 30 then frc (10 + r.2.1) (fun q => k (pc + 2) ls (.inr (.inr q) :: st) S) else none) = some y := e
    replace e : (bif Nat.beq r.1 0 then acst (Int32.ofNat r.2.1) (fun a => k (pc + 2) ls (a :: st) S) else bif Nat.blt r.2.1 30 then frc (10 + r.2.1) (fun q => k (pc + 2) ls (.inr (.inr q) :: st) S) else none) = some y := e
    have hH : stH none (.ldc f9) r pc cs vs h = (bif Nat.beq r.1 0 then frcI (Int32.ofNat r.2.1) (fun v => some (pc + 2, cs, zi v :: vs, none)) else some (pc + 2, cs, .inl (some (2000000 + r.2.1)) :: vs, none)) := rfl
    cases hb : Nat.beq r.1 0 with
    | true =>
      rw [hb] at e hH
      simp only [cond_true, frcI_eq] at e hH
      exact aOk_sameH (acst_ok e) hH hM hl (asM_mk (avM_cst hM.1.1) hs)
    | false =>
      rw [hb] at e hH
      simp only [cond_false] at e hH
      cases hb2 : Nat.blt r.2.1 30 with
      | false => rw [hb2] at e; cases e
      | true =>
        rw [hb2] at e
        simp only [cond_true, frc_eq] at e
        have := bltT.mp hb2
        refine aOk_sameH e hH hM hl (asM_mk (Or.inr (Or.inr (Or.inr (Or.inl ⟨by omega, by omega, ?_⟩)))) hs)
        rw [Nat.add_sub_cancel_left]
  case ldc_w f9 =>
    replace e : (acst (Int32.ofNat r.2.1) (fun a => k (pc + 3) ls (a :: st) S)) = some y := e
    refine aOk_sameH (acst_ok e) ?_ hM hl (asM_mk (avM_cst hM.1.1) hs)
    show frcI (Int32.ofNat r.2.1) (fun v => some (pc + 3, cs, zi v :: vs, none)) = _
    rw [frcI_eq]
  case ldc2_w f9 =>
    replace e : (k (pc + 3) ls (.inr (.inr 2) :: st) S) = some y := e
    refine aOk_sameH e ?_ hM hl (asM_mk (avM_L (w := Int64.ofNat r.2.1)) hs)
    show frcL (Int64.ofNat r.2.1) (fun v => some (pc + 3, cs, (.inr (.inr (.inl v)) : zv) :: vs, none)) = _
    rw [frcL_eq]
  case getstatic f9 =>
    replace e : (bif Nat.beq r.1 0 then acst 1 (fun a => k (pc + 3) ls (a :: st) S) else k (pc + 3) ls (.inr (.inr 1) :: st) S) = some y := e
    replace e : (bif Nat.beq r.1 0 then acst 1 (fun a => k (pc + 3) ls (a :: st) S) else k (pc + 3) ls (.inr (.inr 1) :: st) S) = some y := e
    have hH : stH none (.getstatic f9) r pc cs vs h = some (pc + 3, cs, (bif Nat.beq r.1 0 then zi 1 else .inl (some 1000001)) :: vs, none) := rfl
    cases hb : Nat.beq r.1 0 with
    | true =>
      rw [hb] at e hH
      simp only [cond_true, cond_false] at e hH
      exact aOk_sameH (acst_ok e) hH hM hl (asM_mk (avM_cst hM.1.1) hs)
    | false =>
      rw [hb] at e hH
      simp only [cond_true, cond_false] at e hH
      exact aOk_sameH e hH hM hl (asM_mk (Or.inr (Or.inl ⟨rfl, rfl⟩)) hs)
  all_goals cases e
end TR3
