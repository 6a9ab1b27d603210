/-! loops -/
def ameas (up : Bool) (p : Int × Int) (v : Int) : Nat := bif up then (p.2 - v).toNat else (v - p.1).toNat
def aord (up : Bool) (a b : Int) : Prop := bif up then a ≤ b else b ≤ a
/-- how it ends, as told -/
def aoM (ρ : List Int) (ν : List Nat) (o : Option av ⊕ Nat) (x : zo) : Prop := match o, x with
  | .inl none, .inl none => True
  | .inl (some a), .inl (some v) => avM ρ ν a v
  | .inr e, .inr e' => e = e'
  | _, _ => False
def aouts (J : zh → Prop) (τ0 : List Nat) (h0 : zh) (t0 : Nat) (ρt : List Int) (νt τt : List Nat) (d mi : Nat) (Out : zo × zh × Nat → Prop) (L : aL) : Prop := ∀ (o : ao) (S' : aS), (o, S') ∈ L → ∀ (ρ' : List Int) (ν' τ' : List Nat) (h' : zh) (t' : Nat), aup ρt ρ' → aup νt ν' → aup τt τ' → aM J τ0 h0 t0 S' ρ' ν' τ' h' t' → (∀ q, o = .inl q → ∀ x : zo, aoM ρ' ν' q x → Out (x, h', t')) ∧ (∀ (pc : Nat) (ls : List (Option av)) (st : List av), o = .inr (pc, ls, st) → ∀ (cs : List (Option zv)) (vs : List zv), alM ρ' ν' ls cs → asM ρ' ν' st vs → ∃ x, qF none d mi pc cs vs h' t' x ∧ Out x)
/-- an open loop: its base, the values at the head now, and what holds behind with less to go -/
def arec (J : zh → Prop) (τ0 : List Nat) (h0 : zh) (t0 d mi : Nat) (Out : zo × zh × Nat → Prop) (o : aO) (ρ : List Int) (ν τ : List Nat) : Prop := ∃ (pc nb mx tc : Nat) (lsH lsB : List (Option av)) (fb : aF) (hv : List (Nat × Int × Int)) (fg : List Nat) (hss : List (Nat × Nat × Int × Int)) (dr wl wrH : aW) (up : Bool) (sy : aI) (nm νb τb : List Nat) (rl : aR) (w : Nat × Int) (rB v0 : Int) (p : Int × Int) (ρb vals : List Int) (hb : zh) (csB : List (Option zv)),
  o = (pc, lsH, (sy ++ (hv.map (fun f => f.2) ++ hss.map (fun f => f.2.2)), nm, ahsF hss fb (nb + hv.length), amrl (nb + mx) up w :: rl, wrH, tc), nb, fb, (hv, fg, hss, dr, wl, mx, up)) ∧
  (asy ρb sy ∧ sy.length = nb ∧ anam νb nm τb ∧ lsH = afgL fg (ahvL nb hv lsB) ∧ alM ρb νb lsB csB ∧ (∀ f ∈ fb, afM ρb νb τb hb f) ∧ (∀ f ∈ rl, arM ρb f) ∧ hss.all (fun f => (anty nm f.1).isSome) = true) ∧
  (aup (ρb ++ vals) ρ ∧ aup νb ν ∧ aup τb τ) ∧ ρb[w.1]? = some rB ∧ (hv.map (fun f => f.2) ++ hss.map (fun f => f.2.2))[mx]? = some p ∧ vals[mx]? = some v0 ∧ aord up (rB + w.2) v0 ∧
  ∀ (vals' : List Int) (v' : Int) (τ' : List Nat) (cs : List (Option zv)) (h : zh) (t : Nat), aup τb τ' → aM J τ0 h0 t0 (sy ++ (hv.map (fun f => f.2) ++ hss.map (fun f => f.2.2)), nm, ahsF hss fb (nb + hv.length), amrl (nb + mx) up w :: rl, wrH, tc) (ρb ++ vals') νb τ' h t → alM (ρb ++ vals') νb lsH cs → vals'[mx]? = some v' → aord up (rB + w.2) v' → ameas up p v' < ameas up p v0 → ∃ x, qF none d mi pc cs [] h t x ∧ Out x
section LP
variable {J : zh → Prop} {τ0 : List Nat} {h0 : zh} {t0 : Nat} {ρ ρ' : List Int} {ν τ ν' τ' : List Nat} {h : zh} {t d mi pc : Nat} {Out : zo × zh × Nat → Prop} {o : aO}
theorem arec_up (hr : arec J τ0 h0 t0 d mi Out o ρ ν τ) (u1 : aup ρ ρ') (u2 : aup ν ν') (u3 : aup τ τ') : arec J τ0 h0 t0 d mi Out o ρ' ν' τ' := by
  obtain ⟨pc, nb, mx, tc, lsH, lsB, fb, hv, fg, hss, dr, wl, wrH, up, sy, nm, νb, τb, rl, w, rB, v0, p, ρb, vals, hb, csB, e1, e2, ⟨e3, e4, e5⟩, e6⟩ := hr
  exact ⟨pc, nb, mx, tc, lsH, lsB, fb, hv, fg, hss, dr, wl, wrH, up, sy, nm, νb, τb, rl, w, rB, v0, p, ρb, vals, hb, csB, e1, e2, ⟨aup_trans e3 u1, aup_trans e4 u2, aup_trans e5 u3⟩, e6⟩
/-- what the measure told holds again -/
theorem amrl_ok {up : Bool} {w : Nat × Int} {m : Nat} {rB v : Int} (hw : ρ[w.1]? = some rB) (hm : ρ[m]? = some v) (ho : aord up (rB + w.2) v) : arM ρ (amrl m up w) := by
  cases up with
  | true =>
    have ho : rB + w.2 ≤ v := ho
    exact ⟨rB, v, hw, hm, by show rB ≤ v + -w.2; omega⟩
  | false =>
    have ho : v ≤ rB + w.2 := ho
    exact ⟨v, rB, hm, hw, by show v ≤ rB + w.2; omega⟩
theorem amsr_ok {S : aS} {m : Nat} {up : Bool} {w : Nat × Int} {r v0 : Int} (e : amsr S m up w = true) (hM : aM J τ0 h0 t0 S ρ ν τ h t) (hm : ρ[m]? = some v0) (hw : ρ[w.1]? = some r) : bif up then v0 < r + w.2 else r + w.2 < v0 := by
  unfold amsr at e
  cases hp : aiv S.1 w with
  | none => rw [hp] at e; cases e
  | some p =>
    cases hq : nth S.1 m with
    | none => rw [hp, hq] at e; cases e
    | some q =>
      rw [hp, hq] at e
      simp only at e
      have h1 := aiv_ok (s := w.1) (c := w.2) hM.1 hp hw
      rw [nth_eq] at hq
      obtain ⟨v1, k1, k2, k3⟩ := hM.1.2.2 m q hq
      rw [hm] at k1
      cases k1
      cases up with
      | true =>
        simp only [cond_true, Bool.or_eq_true, ile_iff] at e ⊢
        rcases e with e | e
        · omega
        · cases hc : Nat.beq w.1 m with
          | true =>
            rw [hc] at e
            have := Nat.eq_of_beq_eq_true hc
            rw [this, hm] at hw
            cases hw
            have := ile_iff.mp e
            omega
          | false =>
            rw [hc] at e
            simp only [cond_false] at e
            cases hr : arel S.2.2.2.1 m w.1 with
            | none => rw [hr] at e; cases e
            | some c =>
              rw [hr] at e
              have e := ile_iff.mp e
              obtain ⟨a, b, f1, f2, f3⟩ := hM.2.2.2.1 _ (arel_ok hr)
              simp only at f1 f2 f3
              rw [hm] at f1
              rw [hw] at f2
              cases f1
              cases f2
              omega
      | false =>
        simp only [cond_false, Bool.or_eq_true, ile_iff] at e ⊢
        rcases e with e | e
        · omega
        · cases hc : Nat.beq w.1 m with
          | true =>
            rw [hc] at e
            have := Nat.eq_of_beq_eq_true hc
            rw [this, hm] at hw
            cases hw
            have := ile_iff.mp e
            omega
          | false =>
            rw [hc] at e
            simp only [cond_false] at e
            cases hr : arel S.2.2.2.1 w.1 m with
            | none => rw [hr] at e; cases e
            | some c =>
              rw [hr] at e
              have e := ile_iff.mp e
              obtain ⟨a, b, f1, f2, f3⟩ := hM.2.2.2.1 _ (arel_ok hr)
              simp only at f1 f2 f3
              rw [hw] at f1
              rw [hm] at f2
              cases f1
              cases f2
              omega
/-- back at the head -/
theorem aarr_ok {ls : List (Option av)} {st : List av} {S : aS} {cs : List (Option zv)} {vs : List zv} (hr : arec J τ0 h0 t0 d mi Out o ρ ν τ) (e : aarr o.2 ls st S = true) (hM : aM J τ0 h0 t0 S ρ ν τ h t) (hl : alM ρ ν ls cs) (hs : asM ρ ν st vs) : ∃ x, qF none d mi o.1 cs vs h t x ∧ Out x := by
  obtain ⟨pc, nb, mx, tc, lsH, lsB, fb, hv, fg, hss, dr, wl, wrH, up, sy, nm, νb, τb, rl, w, rB, v0, p, ρb, vals, hb, csB, rfl, ⟨c1, c2, c3, c4, c5, c6, c7, c8⟩, ⟨e3, e4, e5⟩, e6, e7, e8, e9, IH⟩ := hr
  cases st with
  | cons a st' => cases e
  | nil =>
    have hvs := asM_nil hs
    subst hvs
    unfold aarr at e
    simp only at e
    cases g1 : awsL S.1 ls hv with
    | none => rw [g1] at e; cases e
    | some w1 =>
      cases g2 : awsF S.1 S.2.2.1 hss with
      | none => rw [g1, g2] at e; cases e
      | some w2 =>
        rw [g1, g2] at e
        simp only [nth_eq] at e
        cases g3 : (w1 ++ w2)[mx]? with
        | none => rw [g3] at e; cases e
        | some w' =>
          rw [g3] at e
          simp only [Bool.and_eq_true] at e
          obtain ⟨m1, m2, m3, m4, m5, m6⟩ := e
          have hH := aleq_ok m3
          have hfb : ∀ f ∈ fb, afM ρ ν τ h f := by
            intro f hf
            have h9 := List.all_eq_true.mp m4 f hf
            cases h8 : afnd S.2.2.1 f.1.1 f.1.2.1 f.1.2.2 with
            | none => rw [h8] at h9; cases h9
            | some a =>
              rw [h8] at h9
              have := aveq_ok h9
              have h7 := hM.2.2.1 _ (afnd_mem h8)
              rw [this] at h7
              exact h7
          have hfr : aFr τ0 h0 wrH h := fun k T i hk hw => hM.2.2.2.2.1.2 k T i hk (awsb_ok m5 hw)
          have htc : S.2.2.2.2.2 = tc := Nat.eq_of_beq_eq_true m6
          obtain ⟨vals', k1, k2, k3, k4, k5⟩ := head_of (m9 := amrl (nb + mx) up w) hM hl g1 g2 m2 hH.symm hfb hfr (aup_trans (aup_app _ _) e3) e4 e5 c1 c2 c3 c4 c5 c6 c7 c8
          obtain ⟨r, f1, f2⟩ := k2 mx w' g3
          have hρb : ρb.length = nb := by rw [c1.2.1, c2]
          have hv0 : ρ[nb + mx]? = some v0 := e3 _ _ (by rw [app_at hρb]; exact e8)
          have hlt := amsr_ok m1 hM hv0 f1
          obtain ⟨v9, f3, f4, f5⟩ := k3 mx p e7
          rw [f2] at f3
          cases f3
          have hord : aord up (rB + w.2) (r + w'.2) := by
            cases up with
            | true =>
              have a1 : rB + w.2 ≤ v0 := e9
              have a2 : v0 < r + w'.2 := hlt
              show rB + w.2 ≤ r + w'.2
              omega
            | false =>
              have a1 : v0 ≤ rB + w.2 := e9
              have a2 : r + w'.2 < v0 := hlt
              show r + w'.2 ≤ rB + w.2
              omega
          rw [htc] at k5
          refine IH vals' (r + w'.2) τ cs h t e5 (k5 (amrl_ok (aup_app _ _ _ _ e6) (by rw [app_at hρb]; exact f2) hord)) k4 f2 hord ?_
          cases up with
          | true =>
            have a2 : v0 < r + w'.2 := hlt
            show (p.2 - (r + w'.2)).toNat < (p.2 - v0).toNat
            omega
          | false =>
            have a2 : r + w'.2 < v0 := hlt
            show (r + w'.2 - p.1).toNat < (v0 - p.1).toNat
            omega
theorem acel_nm {β : Type} {y : List β} {S : aS} {n : Nat} {kk : Nat → Nat → qt → Option (List β)} (e : acel S (.inr (.inl n)) kk = some y) (hM : aM J τ0 h0 t0 S ρ ν τ h t) : ∃ (T q : Nat) (tt : qt), anty S.2.1 n = some T ∧ atyp T = some tt ∧ kk n T tt = some y ∧ anm ν n = some q := by
  unfold acel at e
  simp only at e
  cases hT : anty S.2.1 n with
  | none => rw [hT] at e; cases e
  | some T =>
    rw [hT] at e
    simp only at e
    cases ht : atyp T with
    | none => rw [ht] at e; cases e
    | some tt =>
      rw [ht] at e
      have : ∃ q, anm ν n = some q := by
        unfold anty at hT
        unfold anm
        cases hb : Nat.blt n 1000 with
        | true => exact ⟨n, rfl⟩
        | false =>
          rw [hb] at hT
          simp only [cond_false, nth_eq] at hT ⊢
          obtain ⟨q, f1, -⟩ := hM.2.1.2 _ _ hT
          exact ⟨q, f1⟩
      obtain ⟨q, hq⟩ := this
      exact ⟨T, q, tt, rfl, ht, e, hq⟩
theorem aens_ok {β : Type} : ∀ {hss : List (Nat × Nat × Int × Int)} {S : aS} {y : List β} {k : aS → Option (List β)} {ρ : List Int} {ν : List Nat}, aens hss S k = some y → aM J τ0 h0 t0 S ρ ν τ h t → ∃ (S' : aS) (y' : List β) (ρ' : List Int) (ν' : List Nat), k S' = some y' ∧ (∀ w ∈ y', w ∈ y) ∧ aup ρ ρ' ∧ aup ν ν' ∧ aM J τ0 h0 t0 S' ρ' ν' τ h t
  | [], S, y, k, ρ, ν, e, hM => ⟨S, y, ρ, ν, e, fun _ hw => hw, aup_refl _, aup_refl _, hM⟩
  | f :: hss, S, y, k, ρ, ν, e, hM => by
    have e : acel S (.inr (.inl f.1)) (fun n T t => ald S n (0, Int.ofNat f.2.1) T t (fun _ S' => aens hss S' k)) = some y := e
    obtain ⟨T, q, tt, hT, ht, e, hq⟩ := acel_nm e hM
    obtain ⟨i, v, a, S', y', ρ', ν', b1, b2, b3, b4, b5, b6, b7, b8, b9⟩ := ald_ok e hM hq hT ht (r := 0) hM.1.1
    obtain ⟨S2, y2, ρ2, ν2, c1, c2, c3, c4, c5⟩ := aens_ok b4 b8
    exact ⟨S2, y2, ρ2, ν2, c1, fun w hw => b5 w (c2 w hw), aup_trans b6 c3, aup_trans b7 c4, c5⟩
/-- a loop is entered -/
theorem ahead_ok {an : aN} {ls : List (Option av)} {S : aS} {cs : List (Option zv)} {L : aL} {kk : aO → List (Option av) → aS → Option aL} (e : ahead an pc ls S kk = some L) (hM : aM J τ0 h0 t0 S ρ ν τ h t) (hl : alM ρ ν ls cs)
    (hk : ∀ (o : aO) (lsH : List (Option av)) (SH : aS) (L' : aL) (ρ1 : List Int) (ν1 τ1 : List Nat) (cs1 : List (Option zv)) (h1 : zh) (t1 : Nat), kk o lsH SH = some L' → (∀ x ∈ L', x ∈ L) → o.1 = pc → aup ρ ρ1 → aup ν ν1 → aup τ τ1 → aM J τ0 h0 t0 SH ρ1 ν1 τ1 h1 t1 → alM ρ1 ν1 lsH cs1 → arec J τ0 h0 t0 d mi Out o ρ1 ν1 τ1 → ∃ x, qF none d mi pc cs1 [] h1 t1 x ∧ Out x) : ∃ x, qF none d mi pc cs [] h t x ∧ Out x := by
  obtain ⟨hv, fg, hss, dr, wl, mx, up⟩ := an
  unfold ahead at e
  simp only at e
  obtain ⟨⟨sy, nm, fa, rl, wr, tc⟩, L', ρb, νb, e, hsub, u1, u2, hM1⟩ := aens_ok e hM
  have hl1 := alM_up u1 u2 hl
  simp only at e
  cases g1 : awsL sy ls hv with
  | none => rw [g1] at e; cases e
  | some w1 =>
    cases g2 : awsF sy fa hss with
    | none => rw [g1, g2] at e; cases e
    | some w2 =>
      rw [g1, g2] at e
      simp only [nth_eq] at e
      cases g3 : (w1 ++ w2)[mx]? with
      | none => rw [g3] at e; cases e
      | some w =>
        rw [g3] at e
        simp only at e
        cases g4 : anoL ls fg && hss.all (fun f => (anty nm f.1).isSome) with
        | false => rw [g4] at e; cases e
        | true =>
          rw [g4] at e
          simp only [cond_true, frc_eq, filK_eq, appK_eq] at e
          simp only [Bool.and_eq_true] at g4
          have hfb : ∀ f ∈ fa.filter (adrp nm dr), afM ρb νb τ h f := fun f hf => hM1.2.2.1 f (List.mem_filter.mp hf).1
          have hfr : aFr τ0 h0 (awad wr wl) h := fun k T i hk9 hw => hM1.2.2.2.2.1.2 k T i hk9 (awad_ok hw).1
          obtain ⟨vals, k1, k2, k3, k4, k5⟩ := head_of (ρb := ρb) (νb := νb) (τb := τ) (nm := nm) (hb := h) (lsB := ls) (csB := cs) (sy := sy) (rl := rl) (nb := sy.length) (m9 := amrl (sy.length + mx) up w) hM1 hl1 g1 g2 g4.1 rfl hfb hfr (aup_refl _) (aup_refl _) (aup_refl _) hM1.1 rfl hM1.2.1 rfl hl1 hfb hM1.2.2.2.1 g4.2
          obtain ⟨r, f1, f2⟩ := k2 mx w g3
          have hρb : ρb.length = sy.length := hM1.1.2.1
          have hmx : mx < hv.length + hss.length := by
            rw [← k1]
            exact (List.getElem?_eq_some_iff.mp f2).1
          obtain ⟨p, hp⟩ : ∃ p, (hv.map (fun f => f.2) ++ hss.map (fun f => f.2.2))[mx]? = some p := ⟨_, List.getElem?_eq_getElem (by simpa using hmx)⟩
          have hord : aord up (r + w.2) (r + w.2) := by cases up <;> exact Int.le_refl _
          have main : ∀ (n : Nat) (vals' : List Int) (v' : Int) (τ' : List Nat) (cs' : List (Option zv)) (h' : zh) (t' : Nat), aup τ τ' → aM J τ0 h0 t0 (sy ++ (hv.map (fun f => f.2) ++ hss.map (fun f => f.2.2)), nm, ahsF hss (fa.filter (adrp nm dr)) (sy.length + hv.length), amrl (sy.length + mx) up w :: rl, awad wr wl, tc) (ρb ++ vals') νb τ' h' t' → alM (ρb ++ vals') νb (afgL fg (ahvL sy.length hv ls)) cs' → vals'[mx]? = some v' → aord up (r + w.2) v' → ameas up p v' < n → ∃ x, qF none d mi pc cs' [] h' t' x ∧ Out x := by
            intro n
            induction n with
            | zero => intro vals' v' τ' cs' h' t' _ _ _ _ _ hn; omega
            | succ n ih =>
              intro vals' v' τ' cs' h' t' a1 a2 a3 a4 a5 a6
              refine hk _ _ _ L' (ρb ++ vals') νb τ' cs' h' t' e hsub rfl (aup_trans u1 (aup_app _ _)) u2 a1 a2 a3 ?_
              refine ⟨pc, sy.length, mx, tc, _, ls, fa.filter (adrp nm dr), hv, fg, hss, dr, wl, awad wr wl, up, sy, nm, νb, τ, rl, w, r, v', p, ρb, vals', h, cs, rfl, ⟨hM1.1, rfl, hM1.2.1, rfl, hl1, hfb, hM1.2.2.2.1, g4.2⟩, ⟨aup_refl _, aup_refl _, a1⟩, f1, hp, a4, a5, ?_⟩
              intro vals2 v2 τ2 cs2 h2 t2 b1 b2 b3 b4 b5 b6
              exact ih vals2 v2 τ2 cs2 h2 t2 b1 b2 b3 b4 b5 (by omega)
          exact main (ameas up p (r + w.2) + 1) vals (r + w.2) τ cs h t (aup_refl _) (k5 (amrl_ok (aup_app _ _ _ _ f1) (by rw [app_at hρb]; exact f2) hord)) k4 f2 hord (Nat.lt_succ_self _)
end LP
