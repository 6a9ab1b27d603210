/-! numbers: what is reckoned, what a jump tells -/
def afun (o : Nat) : Int32 → Int32 → Int32 := match o with
  | 0 => fun x y => x + y
  | 1 => fun x y => x - y
  | 2 => fun x y => x * y
  | 3 => fun x y => x &&& y
  | 4 => fun x y => x ||| y
  | 5 => fun x y => x ^^^ y
  | 6 => fun x y => x <<< (y &&& 31)
  | 7 => fun x y => x >>> (y &&& 31)
  | 8 => fun x y => (x.toUInt32 >>> (y.toUInt32 &&& Int32.toUInt32 31)).toInt32
  | _ => fun x y => x - x / y * y
def aitv (o : Nat) : Int × Int → Int × Int → Int × Int := match o with
  | 0 => qadd
  | 1 => qsbt
  | 2 => qmul
  | 3 => qand
  | 4 => qor
  | 6 => qshl
  | 7 => qshr
  | _ => qany
theorem aitv_ok (o : Nat) (a b : Int × Int) (x y : Int32) (hx : qin a x) (hy : qin b y) : qin (aitv o a b) (afun o x y) := by
  match o with
  | 0 => exact qadd_ok a b x y hx hy
  | 1 => exact qsbt_ok a b x y hx hy
  | 2 => exact qmul_ok a b x y hx hy
  | 3 => exact qand_ok a b x y hx hy
  | 4 => exact qor_ok a b x y hx hy
  | 5 => exact qin_full _
  | 6 => exact qshl_ok a b x y hx hy
  | 7 => exact qshr_ok a b x y hx hy
  | n + 8 => exact qin_full _
/-- the first that is known of two signs -/
noncomputable def arel (rl : aR) (a b : Nat) : Option Int := List.rec (motive := fun _ => Option Int) none (fun f _ ih => bif Nat.beq f.1 a && Nat.beq f.2.1 b then some f.2.2 else ih) rl
theorem arel_ok {a b : Nat} {c : Int} : ∀ {rl : aR}, arel rl a b = some c → (a, b, c) ∈ rl
  | [], h => by cases h
  | f :: t, h => by
    have h : (bif Nat.beq f.1 a && Nat.beq f.2.1 b then some f.2.2 else arel t a b) = some c := h
    cases hb : Nat.beq f.1 a && Nat.beq f.2.1 b with
    | true =>
      rw [hb] at h
      cases h
      simp only [Bool.and_eq_true] at hb
      have e1 := Nat.eq_of_beq_eq_true hb.1
      have e2 := Nat.eq_of_beq_eq_true hb.2
      have : f = (a, b, f.2.2) := by rw [← e1, ← e2]
      rw [← this]
      exact List.mem_cons_self
    | false =>
      rw [hb] at h
      exact List.mem_cons_of_mem _ (arel_ok h)
/-- a difference: by what is known of the two, too -/
noncomputable def asubI (rl : aR) (a b : Nat × Int) (pa pb : Int × Int) : Int × Int := bif ile qMin (pa.1 - pb.2) && ile (pa.2 - pb.1) qMax then (match arel rl b.1 a.1 with
  | some c => (imax (pa.1 - pb.2) (a.2 - b.2 - c), pa.2 - pb.1)
  | none => (pa.1 - pb.2, pa.2 - pb.1)) else qfull
noncomputable def aint (o : Nat) (rl : aR) (a b : Nat × Int) (pa pb : Int × Int) : Int × Int := match o with
  | 1 => asubI rl a b pa pb
  | o => qbop (afun o) (aitv o) pa pb
theorem asubI_ok {ρ : List Int} {rl : aR} {a b : Nat × Int} {pa pb : Int × Int} {x y : Int32} {ra rb : Int} (hr : ∀ f ∈ rl, arM ρ f) (ha : ρ[a.1]? = some ra) (hb : ρ[b.1]? = some rb) (hx : x.toInt = ra + a.2) (hy : y.toInt = rb + b.2) (px : qin pa x) (py : qin pb y) : qin (asubI rl a b pa pb) (x - y) := by
  unfold asubI
  cases hc : ile qMin (pa.1 - pb.2) && ile (pa.2 - pb.1) qMax with
  | false => exact qin_full _
  | true =>
    simp only [Bool.and_eq_true, ile_iff] at hc
    obtain ⟨x1, x2⟩ := px
    obtain ⟨y1, y2⟩ := py
    have e : (x - y).toInt = x.toInt - y.toInt := by
      rw [Int32.toInt_sub]
      exact z32 (by omega) (by omega)
    cases hl : arel rl b.1 a.1 with
    | none =>
      simp only [cond_true]
      unfold qin
      rw [e]
      simp only
      omega
    | some c =>
      obtain ⟨u, w, e1, e2, e3⟩ := hr _ (arel_ok hl)
      simp only at e1 e2 e3
      rw [hb] at e1
      rw [ha] at e2
      cases e1
      cases e2
      simp only [cond_true]
      unfold qin
      rw [e]
      refine ⟨imax_le.mpr ⟨by omega, by omega⟩, ?_⟩
      simp only
      omega
theorem aint_ok {ρ : List Int} {rl : aR} {a b : Nat × Int} {pa pb : Int × Int} {x y : Int32} {ra rb : Int} (o : Nat) (hr : ∀ f ∈ rl, arM ρ f) (ha : ρ[a.1]? = some ra) (hb : ρ[b.1]? = some rb) (hx : x.toInt = ra + a.2) (hy : y.toInt = rb + b.2) (px : qin pa x) (py : qin pb y) : qin (aint o rl a b pa pb) (afun o x y) := by
  unfold aint
  split
  · exact asubI_ok hr ha hb hx hy px py
  · exact qbop_ok (fun a b x y => aitv_ok _ a b x y) px py
/-- a number and a difference, if it stays a number -/
noncomputable def aofs {β : Type} (sy : aI) (a : Nat × Int) (d : Int) (ok : Nat × Int → Option β) (no : Option β) : Option β := match nth sy a.1 with
  | some p => frcZ (a.2 + d) (fun c => bif ile qMin (p.1 + c) && ile (p.2 + c) qMax then (bif ieq p.1 p.2 then frcZ (p.1 + c) (fun z => ok (0, z)) else ok (a.1, c)) else no)
  | none => none
theorem aofs_ok {β : Type} {ρ : List Int} {sy : aI} {a : Nat × Int} {d ra : Int} {ok : Nat × Int → Option β} {no : Option β} {y : β} (e : aofs sy a d ok no = some y) (hs : asy ρ sy) (ha : ρ[a.1]? = some ra) : no = some y ∨ (qMin ≤ ra + a.2 + d ∧ ra + a.2 + d ≤ qMax ∧ ∃ (v : Nat × Int) (r : Int), ok v = some y ∧ ρ[v.1]? = some r ∧ ra + a.2 + d = r + v.2) := by
  obtain ⟨p, hp, -⟩ := aiv_some (c := 0) hs ha
  obtain ⟨r', q1, q2, q3⟩ := hs.2.2 _ p hp
  rw [ha] at q1
  cases q1
  unfold aofs at e
  simp only [nth_eq, hp, frcZ_eq] at e
  cases hc : ile qMin (p.1 + (a.2 + d)) && ile (p.2 + (a.2 + d)) qMax with
  | false => rw [hc] at e; exact Or.inl e
  | true =>
    rw [hc] at e
    simp only [Bool.and_eq_true, ile_iff] at hc
    simp only [cond_true] at e
    refine Or.inr ⟨by omega, by omega, ?_⟩
    cases hq : ieq p.1 p.2 with
    | true =>
      rw [hq] at e
      have := ieq_iff.mp hq
      exact ⟨_, 0, e, hs.1, by simp only; omega⟩
    | false =>
      rw [hq] at e
      exact ⟨_, ra, e, ha, by simp only; omega⟩
/-- of and: it is at most one that isn't below 0 -/
noncomputable def aandR (o : Nat) (a b : Nat × Int) (pa pb : Int × Int) (v : Nat × Int) (rl : aR) : aR := bif Nat.beq o 3 && !Nat.beq v.1 0 then (bif ile 0 pb.1 && !Nat.beq b.1 0 then (v.1, b.1, b.2) :: rl else bif ile 0 pa.1 && !Nat.beq a.1 0 then (v.1, a.1, a.2) :: rl else rl) else rl
noncomputable def abgen {β : Type} (o : Nat) (S : aS) (a b : Nat × Int) (k : Nat × Int → aS → Option β) : Option β := match S with
  | (sy, nm, fa, rl, wr, tc) => match aiv sy a, aiv sy b with
    | some pa, some pb => frcP (aint o rl a b pa pb) (fun p => afr p sy (fun v sy' => k v (sy', nm, fa, bif ieq v.2 0 then aandR o a b pa pb v rl else rl, wr, tc)))
    | _, _ => none
noncomputable def abop {β : Type} (o : Nat) (S : aS) (a b : Nat × Int) (k : Nat × Int → aS → Option β) : Option β := match o with
  | 0 => bif Nat.beq b.1 0 then aofs S.1 a b.2 (fun v => k v S) (abgen 0 S a b k) else bif Nat.beq a.1 0 then aofs S.1 b a.2 (fun v => k v S) (abgen 0 S a b k) else abgen 0 S a b k
  | 1 => bif Nat.beq b.1 0 then aofs S.1 a (-b.2) (fun v => k v S) (abgen 1 S a b k) else abgen 1 S a b k
  | o => abgen o S a b k
section AB
variable {J : zh → Prop} {τ0 : List Nat} {h0 : zh} {t0 : Nat} {ρ : List Int} {ν τ : List Nat} {h : zh} {t : Nat}
theorem aM_sy {S : aS} {sy' : aI} {ρ' : List Int} (hM : aM J τ0 h0 t0 S ρ ν τ h t) (hu : aup ρ ρ') (hs : asy ρ' sy') : aM J τ0 h0 t0 (sy', S.2) ρ' ν τ h t := by
  obtain ⟨m1, m2, m3, m4, m5⟩ := hM
  exact ⟨hs, m2, fun f hf => afM_up hu (aup_refl _) (m3 f hf), fun f hf => arM_up hu (m4 f hf), m5⟩
theorem aM_rl {S : aS} {rl' : aR} (hM : aM J τ0 h0 t0 S ρ ν τ h t) (hr : ∀ f ∈ rl', arM ρ f) : aM J τ0 h0 t0 (S.1, S.2.1, S.2.2.1, rl', S.2.2.2.2) ρ ν τ h t := by
  obtain ⟨m1, m2, m3, m4, m5⟩ := hM
  exact ⟨m1, m2, m3, hr, m5⟩
theorem qin_iv {sy : aI} {a : Nat × Int} {p : Int × Int} {x : Int32} {r : Int} (hs : asy ρ sy) (e : aiv sy a = some p) (hr : ρ[a.1]? = some r) (hx : x.toInt = r + a.2) : qin p x := by
  have := aiv_ok (s := a.1) (c := a.2) hs e hr
  unfold qin
  omega
theorem aandR_ok {o : Nat} {rl : aR} {a b v : Nat × Int} {pa pb : Int × Int} {x y : Int32} {ra rb rv : Int} (hr : ∀ f ∈ rl, arM ρ f) (ha : ρ[a.1]? = some ra) (hb : ρ[b.1]? = some rb) (hx : x.toInt = ra + a.2) (hy : y.toInt = rb + b.2) (px : qin pa x) (py : qin pb y) (hv : ρ[v.1]? = some rv) (hz : (afun o x y).toInt = rv) : ∀ f ∈ aandR o a b pa pb v rl, arM ρ f := by
  unfold aandR
  cases hc : Nat.beq o 3 && !Nat.beq v.1 0 with
  | false => exact hr
  | true =>
    simp only [Bool.and_eq_true] at hc
    have ho := Nat.eq_of_beq_eq_true hc.1
    subst ho
    have hz : (x &&& y).toInt = rv := hz
    simp only [cond_true]
    cases h1 : ile 0 pb.1 && !Nat.beq b.1 0 with
    | true =>
      simp only [Bool.and_eq_true, ile_iff] at h1
      simp only [cond_true]
      intro f hf
      rcases List.mem_cons.mp hf with rfl | hf
      · have := zand_le (x := x) (y := y) (by have := py.1; omega)
        exact ⟨rv, rb, hv, hb, by simp only; omega⟩
      · exact hr f hf
    | false =>
      simp only [cond_false]
      cases h2 : ile 0 pa.1 && !Nat.beq a.1 0 with
      | true =>
        simp only [Bool.and_eq_true, ile_iff] at h2
        simp only [cond_true]
        intro f hf
        rcases List.mem_cons.mp hf with rfl | hf
        · have := zand_le (x := y) (y := x) (by have := px.1; omega)
          rw [zand_comm] at this
          exact ⟨rv, ra, hv, ha, by simp only; omega⟩
        · exact hr f hf
      | false => exact hr
theorem abgen_ok {β : Type} {o : Nat} {S : aS} {a b : Nat × Int} {k : Nat × Int → aS → Option β} {y : β} {x z : Int32} {ra rb : Int} (e : abgen o S a b k = some y) (hM : aM J τ0 h0 t0 S ρ ν τ h t) (ha : ρ[a.1]? = some ra) (hb : ρ[b.1]? = some rb) (hx : x.toInt = ra + a.2) (hz : z.toInt = rb + b.2) : ∃ (v : Nat × Int) (S' : aS) (ρ' : List Int) (r' : Int), k v S' = some y ∧ aup ρ ρ' ∧ aM J τ0 h0 t0 S' ρ' ν τ h t ∧ ρ'[v.1]? = some r' ∧ (afun o x z).toInt = r' + v.2 := by
  obtain ⟨sy, nm, fa, rl, wr, tc⟩ := S
  unfold abgen at e
  simp only at e
  cases h1 : aiv sy a with
  | none => rw [h1] at e; cases e
  | some pa =>
    cases h2 : aiv sy b with
    | none => rw [h1, h2] at e; cases e
    | some pb =>
      rw [h1, h2] at e
      simp only [frcP_eq] at e
      have px := qin_iv hM.1 h1 ha hx
      have pz := qin_iv hM.1 h2 hb hz
      have hp := aint_ok (rl := rl) (a := a) (b := b) o hM.2.2.2.1 ha hb hx hz px pz
      obtain ⟨v, sy', ρ', r', e1, e2, e3, e4, e5⟩ := afr_ok e hM.1 hp.1 hp.2
      have hM' := aM_sy hM e2 e3
      refine ⟨v, _, ρ', r', e1, e2, ?_, e4, e5⟩
      refine aM_rl hM' ?_
      cases h0 : ieq v.2 0 with
      | false => exact hM'.2.2.2.1
      | true =>
        have hv := ieq_iff.mp h0
        exact aandR_ok hM'.2.2.2.1 (e2 _ _ ha) (e2 _ _ hb) hx hz px pz e4 (by omega)
theorem abop_ok {β : Type} {o : Nat} {S : aS} {a b : Nat × Int} {k : Nat × Int → aS → Option β} {y : β} {x z : Int32} {ra rb : Int} (e : abop o S a b k = some y) (hM : aM J τ0 h0 t0 S ρ ν τ h t) (ha : ρ[a.1]? = some ra) (hb : ρ[b.1]? = some rb) (hx : x.toInt = ra + a.2) (hz : z.toInt = rb + b.2) : ∃ (v : Nat × Int) (S' : aS) (ρ' : List Int) (r' : Int), k v S' = some y ∧ aup ρ ρ' ∧ aM J τ0 h0 t0 S' ρ' ν τ h t ∧ ρ'[v.1]? = some r' ∧ (afun o x z).toInt = r' + v.2 := by
  unfold abop at e
  split at e
  · cases h1 : Nat.beq b.1 0 with
    | true =>
      rw [h1] at e
      simp only [cond_true] at e
      have hb0 := Nat.eq_of_beq_eq_true h1
      rcases aofs_ok e hM.1 ha with e | ⟨q1, q2, v, r, e1, e2, e3⟩
      · exact abgen_ok e hM ha hb hx hz
      · refine ⟨v, S, ρ, r, e1, aup_refl _, hM, e2, ?_⟩
        rw [hb0, hM.1.1] at hb
        cases hb
        show (x + z).toInt = _
        rw [Int32.toInt_add, ← e3, show x.toInt + z.toInt = ra + a.2 + b.2 by omega]
        exact z32 q1 q2
    | false =>
      rw [h1] at e
      cases h2 : Nat.beq a.1 0 with
      | true =>
        rw [h2] at e
        simp only [cond_true, cond_false] at e
        have ha0 := Nat.eq_of_beq_eq_true h2
        rcases aofs_ok e hM.1 hb with e | ⟨q1, q2, v, r, e1, e2, e3⟩
        · exact abgen_ok e hM ha hb hx hz
        · refine ⟨v, S, ρ, r, e1, aup_refl _, hM, e2, ?_⟩
          rw [ha0, hM.1.1] at ha
          cases ha
          show (x + z).toInt = _
          rw [Int32.toInt_add, ← e3, show x.toInt + z.toInt = rb + b.2 + a.2 by omega]
          exact z32 q1 q2
      | false =>
        rw [h2] at e
        exact abgen_ok e hM ha hb hx hz
  · cases h1 : Nat.beq b.1 0 with
    | true =>
      rw [h1] at e
      simp only [cond_true] at e
      have hb0 := Nat.eq_of_beq_eq_true h1
      rcases aofs_ok e hM.1 ha with e | ⟨q1, q2, v, r, e1, e2, e3⟩
      · exact abgen_ok e hM ha hb hx hz
      · refine ⟨v, S, ρ, r, e1, aup_refl _, hM, e2, ?_⟩
        rw [hb0, hM.1.1] at hb
        cases hb
        show (x - z).toInt = _
        rw [Int32.toInt_sub, ← e3, show x.toInt - z.toInt = ra + a.2 + -b.2 by omega]
        exact z32 q1 q2
    | false =>
      rw [h1] at e
      exact abgen_ok e hM ha hb hx hz
  · exact abgen_ok e hM ha hb hx hz
end AB
/-! what a jump tells -/
noncomputable def acutF {β : Type} (sy : aI) (s : Nat) (f : Int × Int → Int × Int) (k : aI → Option (List β)) : Option (List β) := match nth sy s with
  | some p => frcP (f p) (fun q => bif ile q.1 q.2 then setK q sy s k else some [])
  | none => none
theorem acutF_ok {β : Type} {ρ : List Int} {sy : aI} {s : Nat} {f : Int × Int → Int × Int} {r : Int} {k : aI → Option (List β)} {y : List β} (e : acutF sy s f k = some y) (hs : asy ρ sy) (hr : ρ[s]? = some r) (hf : ∀ p : Int × Int, p.1 ≤ r → r ≤ p.2 → (f p).1 ≤ r ∧ r ≤ (f p).2) : ∃ sy' : aI, k sy' = some y ∧ asy ρ sy' := by
  obtain ⟨p, hp, -⟩ := aiv_some (c := 0) hs hr
  obtain ⟨r', q1, q2, q3⟩ := hs.2.2 _ p hp
  rw [hr] at q1
  cases q1
  obtain ⟨a1, a2⟩ := hf p q2 q3
  unfold acutF at e
  simp only [nth_eq, hp, frcP_eq, setK_eq] at e
  rw [ile_iff.mpr (Int.le_trans a1 a2)] at e
  simp only [cond_true] at e
  refine ⟨_, e, hs.1, by rw [List.length_set]; exact hs.2.1, fun u w hw => ?_⟩
  rw [List.getElem?_set] at hw
  split at hw
  · rename_i hu
    subst hu
    split at hw
    · cases hw
      exact ⟨r, hr, a1, a2⟩
    · cases hw
  · exact hs.2.2 u w hw
noncomputable def acut {β : Type} (sy : aI) (s : Nat) (l h : Int) (k : aI → Option (List β)) : Option (List β) := acutF sy s (fun p => (imax p.1 l, imin p.2 h)) k
theorem acut_ok {β : Type} {ρ : List Int} {sy : aI} {s : Nat} {l h r : Int} {k : aI → Option (List β)} {y : List β} (e : acut sy s l h k = some y) (hs : asy ρ sy) (hr : ρ[s]? = some r) (h1 : l ≤ r) (h2 : r ≤ h) : ∃ sy' : aI, k sy' = some y ∧ asy ρ sy' := acutF_ok e hs hr (fun p q2 q3 => ⟨imax_le.mpr ⟨q2, h1⟩, imin_le.mpr ⟨q3, h2⟩⟩)
/-- a + d ≤ b -/
noncomputable def arfL {β : Type} (d : Int) (a b : Nat × Int) (S : aS) (k : aS → Option (List β)) : Option (List β) := match S with
  | (sy, nm, fa, rl, wr, tc) => bif Nat.beq a.1 b.1 then (bif ile (a.2 + d) b.2 then k (sy, nm, fa, rl, wr, tc) else some []) else (match aiv sy a, aiv sy b with
    | some pa, some pb => acutF sy a.1 (fun p => (p.1, imin p.2 (pb.2 - d - a.2))) (fun sy1 => acutF sy1 b.1 (fun p => (imax p.1 (pa.1 + d - b.2), p.2)) (fun sy2 => bif Nat.beq a.1 0 || Nat.beq b.1 0 then k (sy2, nm, fa, rl, wr, tc) else frcZ (b.2 - a.2 - d) (fun c => k (sy2, nm, fa, (a.1, b.1, c) :: rl, wr, tc))))
    | _, _ => none)
noncomputable def arfE {β : Type} (a b : Nat × Int) (S : aS) (k : aS → Option (List β)) : Option (List β) := match S with
  | (sy, nm, fa, rl, wr, tc) => bif Nat.beq a.1 b.1 then (bif ieq a.2 b.2 then k (sy, nm, fa, rl, wr, tc) else some []) else (match aiv sy a, aiv sy b with
    | some pa, some pb => acut sy a.1 (pb.1 - a.2) (pb.2 - a.2) (fun sy1 => acut sy1 b.1 (pa.1 - b.2) (pa.2 - b.2) (fun sy2 => k (sy2, nm, fa, rl, wr, tc)))
    | _, _ => none)
/-- a is not the number v -/
noncomputable def ancut {β : Type} (sy : aI) (a : Nat × Int) (pa pb : Int × Int) (k : aI → Option (List β)) : Option (List β) := bif ieq pb.1 pb.2 then acut sy a.1 (bif ieq pa.1 pb.1 then pa.1 + 1 - a.2 else pa.1 - a.2) (bif ieq pa.2 pb.1 then pa.2 - 1 - a.2 else pa.2 - a.2) k else k sy
noncomputable def arfN {β : Type} (a b : Nat × Int) (S : aS) (k : aS → Option (List β)) : Option (List β) := match S with
  | (sy, nm, fa, rl, wr, tc) => bif Nat.beq a.1 b.1 then (bif ieq a.2 b.2 then some [] else k (sy, nm, fa, rl, wr, tc)) else (match aiv sy a, aiv sy b with
    | some pa, some pb => ancut sy a pa pb (fun sy1 => ancut sy1 b pb pa (fun sy2 => k (sy2, nm, fa, rl, wr, tc)))
    | _, _ => none)
section AC
variable {J : zh → Prop} {τ0 : List Nat} {h0 : zh} {t0 : Nat} {ρ : List Int} {ν τ : List Nat} {h : zh} {t : Nat} {β : Type} {k : aS → Option (List β)} {S : aS} {a b : Nat × Int} {ra rb : Int} {y : List β}
theorem arfL_ok {d : Int} (e : arfL d a b S k = some y) (hM : aM J τ0 h0 t0 S ρ ν τ h t) (ha : ρ[a.1]? = some ra) (hb : ρ[b.1]? = some rb) (hl : ra + a.2 + d ≤ rb + b.2) : ∃ S' : aS, k S' = some y ∧ aM J τ0 h0 t0 S' ρ ν τ h t := by
  obtain ⟨sy, nm, fa, rl, wr, tc⟩ := S
  unfold arfL at e
  simp only at e
  cases h1 : Nat.beq a.1 b.1 with
  | true =>
    rw [h1] at e
    have e1 := Nat.eq_of_beq_eq_true h1
    rw [e1, hb] at ha
    cases ha
    rw [ile_iff.mpr (show a.2 + d ≤ b.2 by omega)] at e
    exact ⟨_, e, hM⟩
  | false =>
    rw [h1] at e
    simp only [cond_false] at e
    obtain ⟨pa, hpa, ia⟩ := aiv_some (s := a.1) (c := a.2) hM.1 ha
    obtain ⟨pb, hpb, ib⟩ := aiv_some (s := b.1) (c := b.2) hM.1 hb
    have ia : aiv sy a = some (pa.1 + a.2, pa.2 + a.2) := ia
    have ib : aiv sy b = some (pb.1 + b.2, pb.2 + b.2) := ib
    rw [ia, ib] at e
    simp only at e
    have ja := aiv_ok hM.1 ia ha
    have jb := aiv_ok hM.1 ib hb
    simp only at ja jb
    obtain ⟨sy1, e1, s1⟩ := acutF_ok e hM.1 ha (fun p q2 q3 => ⟨q2, imin_le.mpr ⟨q3, by omega⟩⟩)
    obtain ⟨sy2, e2, s2⟩ := acutF_ok e1 s1 hb (fun p q2 q3 => ⟨imax_le.mpr ⟨q2, by omega⟩, q3⟩)
    have hM2 := aM_sy hM (aup_refl _) s2
    cases h2 : Nat.beq a.1 0 || Nat.beq b.1 0 with
    | true =>
      rw [h2] at e2
      exact ⟨_, e2, hM2⟩
    | false =>
      rw [h2] at e2
      simp only [cond_false, frcZ_eq] at e2
      refine ⟨_, e2, aM_rl hM2 (fun f hf => ?_)⟩
      rcases List.mem_cons.mp hf with rfl | hf
      · exact ⟨ra, rb, ha, hb, by simp only; omega⟩
      · exact hM2.2.2.2.1 f hf
theorem arfE_ok (e : arfE a b S k = some y) (hM : aM J τ0 h0 t0 S ρ ν τ h t) (ha : ρ[a.1]? = some ra) (hb : ρ[b.1]? = some rb) (hl : ra + a.2 = rb + b.2) : ∃ S' : aS, k S' = some y ∧ aM J τ0 h0 t0 S' ρ ν τ h t := by
  obtain ⟨sy, nm, fa, rl, wr, tc⟩ := S
  unfold arfE at e
  simp only at e
  cases h1 : Nat.beq a.1 b.1 with
  | true =>
    rw [h1] at e
    have e1 := Nat.eq_of_beq_eq_true h1
    rw [e1, hb] at ha
    cases ha
    rw [ieq_iff.mpr (show a.2 = b.2 by omega)] at e
    exact ⟨_, e, hM⟩
  | false =>
    rw [h1] at e
    simp only [cond_false] at e
    obtain ⟨pa, hpa, ia⟩ := aiv_some (s := a.1) (c := a.2) hM.1 ha
    obtain ⟨pb, hpb, ib⟩ := aiv_some (s := b.1) (c := b.2) hM.1 hb
    have ia : aiv sy a = some (pa.1 + a.2, pa.2 + a.2) := ia
    have ib : aiv sy b = some (pb.1 + b.2, pb.2 + b.2) := ib
    rw [ia, ib] at e
    simp only at e
    have ja := aiv_ok hM.1 ia ha
    have jb := aiv_ok hM.1 ib hb
    simp only at ja jb
    obtain ⟨sy1, e1, s1⟩ := acut_ok e hM.1 ha (by omega) (by omega)
    obtain ⟨sy2, e2, s2⟩ := acut_ok e1 s1 hb (by omega) (by omega)
    exact ⟨_, e2, aM_sy hM (aup_refl _) s2⟩
theorem ancut_ok {sy : aI} {pa pb : Int × Int} {kk : aI → Option (List β)} (e : ancut sy a pa pb kk = some y) (hs : asy ρ sy) (ha : ρ[a.1]? = some ra) (ja : pa.1 ≤ ra + a.2 ∧ ra + a.2 ≤ pa.2) (jb : pb.1 ≤ rb + b.2 ∧ rb + b.2 ≤ pb.2) (hl : ra + a.2 ≠ rb + b.2) : ∃ sy' : aI, kk sy' = some y ∧ asy ρ sy' := by
  unfold ancut at e
  cases h1 : ieq pb.1 pb.2 with
  | false => rw [h1] at e; exact ⟨sy, e, hs⟩
  | true =>
    rw [h1] at e
    have e1 := ieq_iff.mp h1
    simp only [cond_true] at e
    refine acut_ok e hs ha ?_ ?_
    · cases h2 : ieq pa.1 pb.1 with
      | true =>
        have e2 := ieq_iff.mp h2
        simp only [cond_true]
        omega
      | false =>
        simp only [cond_false]
        omega
    · cases h2 : ieq pa.2 pb.1 with
      | true =>
        have e2 := ieq_iff.mp h2
        simp only [cond_true]
        omega
      | false =>
        simp only [cond_false]
        omega
theorem arfN_ok (e : arfN a b S k = some y) (hM : aM J τ0 h0 t0 S ρ ν τ h t) (ha : ρ[a.1]? = some ra) (hb : ρ[b.1]? = some rb) (hl : ra + a.2 ≠ rb + b.2) : ∃ S' : aS, k S' = some y ∧ aM J τ0 h0 t0 S' ρ ν τ h t := by
  obtain ⟨sy, nm, fa, rl, wr, tc⟩ := S
  unfold arfN at e
  simp only at e
  cases h1 : Nat.beq a.1 b.1 with
  | true =>
    rw [h1] at e
    have e1 := Nat.eq_of_beq_eq_true h1
    rw [e1, hb] at ha
    cases ha
    have h2 : ieq a.2 b.2 = false := by
      cases h3 : ieq a.2 b.2 with
      | false => rfl
      | true => exact absurd (congrArg (fun z => ra + z) (ieq_iff.mp h3)) hl
    rw [h2] at e
    exact ⟨_, e, hM⟩
  | false =>
    rw [h1] at e
    simp only [cond_false] at e
    obtain ⟨pa, hpa, ia⟩ := aiv_some (s := a.1) (c := a.2) hM.1 ha
    obtain ⟨pb, hpb, ib⟩ := aiv_some (s := b.1) (c := b.2) hM.1 hb
    have ia : aiv sy a = some (pa.1 + a.2, pa.2 + a.2) := ia
    have ib : aiv sy b = some (pb.1 + b.2, pb.2 + b.2) := ib
    rw [ia, ib] at e
    simp only at e
    have ja := aiv_ok hM.1 ia ha
    have jb := aiv_ok hM.1 ib hb
    obtain ⟨sy1, e1, s1⟩ := ancut_ok e hM.1 ha ja jb hl
    obtain ⟨sy2, e2, s2⟩ := ancut_ok e1 s1 hb jb ja (fun q => hl q.symm)
    exact ⟨_, e2, aM_sy hM (aup_refl _) s2⟩
end AC
