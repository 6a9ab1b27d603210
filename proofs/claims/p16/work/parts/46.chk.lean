/-! a contract is read off the code -/
noncomputable def aini {β : Type} (qs : List aq) : aI → List Nat → (List av → aI → List Nat → Option β) → Option β := List.rec (motive := fun _ => aI → List Nat → (List av → aI → List Nat → Option β) → Option β) (fun sy nm k => k [] sy nm) (fun q _ ih sy nm k => match q with
  | .inl p => afr p sy (fun v sy' => ih sy' nm (fun as sy2 nm2 => k (.inl v :: as) sy2 nm2))
  | .inr (.inl T) => anw T nm (fun n nm' => ih sy nm' (fun as sy2 nm2 => k (.inr (.inl n) :: as) sy2 nm2))
  | .inr (.inr x) => ih sy nm (fun as sy2 nm2 => k (.inr (.inr x) :: as) sy2 nm2)) qs
noncomputable def apin {β : Type} (args : List av) (pf : List (Nat × Nat × Int × Int)) : aI → aF → (List (Nat × Int) → aI → aF → Option β) → Option β := List.rec (motive := fun _ => aI → aF → (List (Nat × Int) → aI → aF → Option β) → Option β) (fun sy fa k => k [] sy fa) (fun f _ ih sy fa k => match acnm args f.1 with
  | some m => afr f.2.2 sy (fun v sy' => ih sy' (((m, 0, Int.ofNat f.2.1), .inl v) :: fa) (fun ws sy2 fa2 => k (v :: ws) sy2 fa2))
  | none => none) pf
noncomputable def ain2 (S : aS) (w : Nat × Int) (p : Int × Int) : Bool := match aivr S.1 S.2.2.2.1 w with
  | some q => asub q p
  | none => false
/-- u is at most w and a difference -/
noncomputable def arle (S : aS) (u w : Nat × Int) (c : Int) : Bool := (bif Nat.beq u.1 w.1 then ile u.2 (w.2 + c) else false) || ((match arel S.2.2.2.1 u.1 w.1 with
  | some c' => ile (c' + u.2) (w.2 + c)
  | none => false) || (match aiv S.1 u, aiv S.1 w with
  | some p, some q => ile p.2 (q.1 + c)
  | _, _ => false))
noncomputable def acvp (args : List av) (ws : List (Nat × Int)) (S : aS) (f : Nat × Nat × Nat × Bool × Int × Int × Int) : Bool := match acnm args f.1 with
  | none => false
  | some m => match afnd S.2.2.1 m 0 (Int.ofNat f.2.1) with
    | some (.inl w) => (match f.2.2.1 with
      | 0 => ain2 S w f.2.2.2.2.2
      | j + 1 => match nth ws j with
        | none => false
        | some u => bif f.2.2.2.1 then ain2 S w f.2.2.2.2.2 && arle S u w f.2.2.2.2.1 else Nat.beq w.1 u.1 && ieq w.2 (u.2 + f.2.2.2.2.1))
    | _ => false
noncomputable def acvr (S : aS) (ret : Option aq ⊕ Nat) (q : Option av ⊕ Nat) : Bool := match ret, q with
  | .inl none, .inl none => true
  | .inl (some x), .inl (some v) => aqok S [x] [v]
  | .inr x, .inr y => Nat.beq x y
  | _, _ => false
noncomputable def acv1 (args : List av) (ws : List (Nat × Int)) (S : aS) (q : Option av ⊕ Nat) (e : aE) : Bool := Nat.beq S.2.2.2.2.2 e.2.1 && (acvr S e.1 q && (e.2.2.1.all (fun f => match nth args f.1 with
  | some (.inl w) => ain2 S w f.2
  | _ => false) && e.2.2.2.all (fun f => acvp args ws S f)))
noncomputable def acov (args : List av) (ws : List (Nat × Int)) (wl : aW) (outs : List aE) (x : ao × aS) : Bool := match x.1 with
  | .inl q => awsb x.2.2.2.2.2.1 wl && outs.any (fun e => acv1 args ws x.2 q e)
  | .inr _ => false
noncomputable def achk (ctb : Nat → List aK) (nn mj : Nat) (ann : aA) (c : aK) : Option Unit := match c with
  | (qs, pf, d, wl, outs) => match d with
    | 0 => none
    | d' + 1 => match zmeth mj with
      | none => none
      | some (nL, _, _, _) => aini qs [(0, 0)] [] (fun args sy nm => apin args pf sy [] (fun ws sy' fa => match aent args nL with
        | none => none
        | some l0 => match alp ctb ann [] d' (arn ctb nn d') mj nn [] 0 l0 [] (sy', nm, fa, [], [], 0) with
          | none => none
          | some L => bif L.all (fun x => acov args ws wl outs x) then some () else none))
theorem anw_ok2 {β : Type} {T q : Nat} {nm ν τ : List Nat} {k : Nat → List Nat → Option β} {y : β} (e : anw T nm k = some y) (hn : anam ν nm τ) (hq : τ[q]? = some T) (h1 : T < 1000 → q = T) : ∃ (n : Nat) (nm' ν' : List Nat), k n nm' = some y ∧ aup ν ν' ∧ anam ν' nm' τ ∧ anm ν' n = some q ∧ (n < 1000 → n = T) := by
  unfold anw at e
  cases hb : Nat.blt T 1000 with
  | true =>
    rw [hb] at e
    have hT : T < 1000 := Nat.le_of_ble_eq_true hb
    refine ⟨T, nm, ν, e, aup_refl _, hn, ?_, fun _ => rfl⟩
    unfold anm
    rw [hb, h1 hT]
    rfl
  | false =>
    rw [hb] at e
    simp only [cond_false, frc_eq, appK_eq] at e
    refine ⟨1000 + nm.length, nm ++ [T], ν ++ [q], e, aup_app _ _, ⟨by simp [hn.1], fun j U hj => ?_⟩, ?_, fun h9 => (by omega)⟩
    · rcases Nat.lt_or_ge j nm.length with hl | hl
      · rw [List.getElem?_append_left hl] at hj
        obtain ⟨q', e1, e2⟩ := hn.2 j U hj
        exact ⟨q', aup_app _ _ _ _ e1, e2⟩
      · rw [List.getElem?_append_right hl] at hj
        have h0 : j - nm.length = 0 := by
          have := (List.getElem?_eq_some_iff.mp hj).1
          simp at this
          omega
        rw [h0] at hj
        cases hj
        refine ⟨q, ?_, hq⟩
        rw [List.getElem?_append_right (by rw [hn.1]; exact hl), hn.1, h0]
        rfl
    · unfold anm
      have hb2 : Nat.blt (1000 + nm.length) 1000 = false := by
        cases h9 : Nat.blt (1000 + nm.length) 1000 with
        | false => rfl
        | true => have : 1000 + nm.length < 1000 := Nat.le_of_ble_eq_true h9; omega
      rw [hb2]
      show (ν ++ [q])[1000 + nm.length - 1000]? = some q
      rw [Nat.add_sub_cancel_left, List.getElem?_append_right (by rw [hn.1]; exact Nat.le_refl _), hn.1, Nat.sub_self]
      rfl
section CK
variable {J : zh → Prop} {τ0 : List Nat} {h0 : zh} {t0 : Nat} {ρ : List Int} {ν τ : List Nat} {h : zh} {t : Nat} {β : Type} {y : β}
theorem aini_ok (hh : hM τ h) : ∀ {qs : List aq} {sy : aI} {nm : List Nat} {k : List av → aI → List Nat → Option β} {ρ : List Int} {ν : List Nat} {vs : List zv}, aini qs sy nm k = some y → asy ρ sy → anam ν nm τ → aqsM τ qs vs → ∃ (args : List av) (sy' : aI) (nm' : List Nat) (ρ' : List Int) (ν' : List Nat), k args sy' nm' = some y ∧ aup ρ ρ' ∧ aup ν ν' ∧ asy ρ' sy' ∧ anam ν' nm' τ ∧ asM ρ' ν' args vs ∧ ∀ m : Nat, (.inr (.inl m) : av) ∈ args → m < 1000 → τ[m]? = some m
  | [], sy, nm, k, ρ, ν, [], e, h1, h2, _ => ⟨[], sy, nm, ρ, ν, e, aup_refl _, aup_refl _, h1, h2, trivial, fun m hm => (by cases hm)⟩
  | [], sy, nm, k, ρ, ν, _ :: _, e, h1, h2, h3 => h3.elim
  | _ :: _, sy, nm, k, ρ, ν, [], e, h1, h2, h3 => h3.elim
  | .inl p :: qs, sy, nm, k, ρ, ν, v :: vs, e, h1, h2, h3 => by
    obtain ⟨⟨x, rfl, l1, l2⟩, h3⟩ := h3
    have e : afr p sy (fun v sy' => aini qs sy' nm (fun as sy2 nm2 => k (.inl v :: as) sy2 nm2)) = some y := e
    obtain ⟨w, sy1, ρ1, r1, e1, u1, s1, e4, e5⟩ := afr_ok e h1 l1 l2
    obtain ⟨args, sy2, nm2, ρ2, ν2, f1, f2, f3, f4, f5, f6, f7⟩ := aini_ok hh e1 s1 h2 h3
    refine ⟨.inl w :: args, sy2, nm2, ρ2, ν2, f1, aup_trans u1 f2, f3, f4, f5, asM_mk ⟨x, r1, rfl, f2 _ _ e4, e5⟩ f6, fun m hm => ?_⟩
    rcases List.mem_cons.mp hm with hm | hm
    · cases hm
    · exact f7 m hm
  | .inr (.inl T) :: qs, sy, nm, k, ρ, ν, v :: vs, e, h1, h2, h3 => by
    obtain ⟨⟨a, rfl, hta⟩, h3⟩ := h3
    have e : anw T nm (fun n nm' => aini qs sy nm' (fun as sy2 nm2 => k (.inr (.inl n) :: as) sy2 nm2)) = some y := e
    have hT := (hh.2.2.2 a T hta).1
    have e9 := e
    obtain ⟨m, nm1, ν1, e1, e2, e3, e4, e5⟩ := anw_ok2 e h2 hta hT
    obtain ⟨args, sy2, nm2, ρ2, ν2, f1, f2, f3, f4, f5, f6, f7⟩ := aini_ok hh e1 h1 e3 h3
    refine ⟨.inr (.inl m) :: args, sy2, nm2, ρ2, ν2, f1, f2, aup_trans e2 f3, f4, f5, asM_mk ⟨a, anm_up f3 e4, rfl⟩ f6, fun m9 hm => ?_⟩
    rcases List.mem_cons.mp hm with hm | hm
    · intro hlt
      have hm : m9 = m := by injection (Sum.inr.inj hm)
      subst hm
      have h5 := e5 hlt
      subst h5
      unfold anm at e4
      rw [bltT.mpr hlt] at e4
      cases e4
      exact hta
    · exact f7 m9 hm
  | .inr (.inr x) :: qs, sy, nm, k, ρ, ν, v :: vs, e, h1, h2, h3 => by
    have e : aini qs sy nm (fun as sy2 nm2 => k (.inr (.inr x) :: as) sy2 nm2) = some y := e
    obtain ⟨args, sy2, nm2, ρ2, ν2, f1, f2, f3, f4, f5, f6, f7⟩ := aini_ok hh e h1 h2 h3.2
    refine ⟨.inr (.inr x) :: args, sy2, nm2, ρ2, ν2, f1, f2, f3, f4, f5, asM_mk h3.1 f6, fun m hm => ?_⟩
    rcases List.mem_cons.mp hm with hm | hm
    · cases hm
    · exact f7 m hm
theorem apin_ok {args : List av} {vs : List zv} (ha : ∀ m : Nat, (.inr (.inl m) : av) ∈ args → m < 1000 → τ[m]? = some m) : ∀ {pf : List (Nat × Nat × Int × Int)} {pv : List Int} {sy : aI} {fa : aF} {k : List (Nat × Int) → aI → aF → Option β} {ρ : List Int}, apin args pf sy fa k = some y → asM ρ ν args vs → asy ρ sy → (∀ f ∈ fa, afM ρ ν τ h f) → cpre τ h vs pf pv → ∃ (ws : List (Nat × Int)) (sy' : aI) (fa' : aF) (ρ' : List Int), k ws sy' fa' = some y ∧ aup ρ ρ' ∧ asy ρ' sy' ∧ (∀ f ∈ fa', afM ρ' ν τ h f) ∧ ∀ (j : Nat) (w : Nat × Int), ws[j]? = some w → ∃ r : Int, ρ'[w.1]? = some r ∧ pv[j]? = some (r + w.2)
  | [], [], sy, fa, k, ρ, e, hs, h1, h2, _ => ⟨[], sy, fa, ρ, e, aup_refl _, h1, h2, fun j w hj => (by cases hj)⟩
  | [], _ :: _, sy, fa, k, ρ, e, hs, h1, h2, h3 => h3.elim
  | _ :: _, [], sy, fa, k, ρ, e, hs, h1, h2, h3 => h3.elim
  | f :: pf, r0 :: pv, sy, fa, k, ρ, e, hs, h1, h2, h3 => by
    obtain ⟨⟨⟨q, x, c1, c2, c3⟩, c4, c5, c6⟩, h3⟩ := h3
    have e : (match acnm args f.1 with
      | some m => afr f.2.2 sy (fun v sy' => apin args pf sy' (((m, 0, Int.ofNat f.2.1), .inl v) :: fa) (fun ws sy2 fa2 => k (v :: ws) sy2 fa2))
      | none => none) = some y := e
    cases hm : acnm args f.1 with
    | none => rw [hm] at e; cases e
    | some m =>
      rw [hm] at e
      simp only at e
      obtain ⟨hq, -⟩ := acnm_ok hm hs c1
      have hn0 : m < 1000 → τ[m]? = some m := by
        intro hlt
        unfold acnm at hm
        cases hb9 : Nat.blt f.1 1000 with
        | true =>
          rw [hb9] at hm
          cases hm
          exact c6 hlt
        | false =>
          rw [hb9] at hm
          simp only [cond_false, nth_eq] at hm
          split at hm
          · rename_i m' hm'
            cases hm
            exact ha _ (List.mem_of_getElem? hm') hlt
          · cases hm
      obtain ⟨w, sy1, ρ1, r1, e1, u1, s1, e4, e5⟩ := afr_ok e h1 c4 c5
      obtain ⟨ws, sy2, fa2, ρ2, f1, f2, f3, f4, f5⟩ := apin_ok ha e1 (asM_up u1 (aup_refl _) hs) s1 (fun g hg => by
        rcases List.mem_cons.mp hg with rfl | hg
        · exact ⟨hn0, q, f.2.1, 0, zi x, hq, s1.1, by simp, c2, x, r1, rfl, e4, by omega⟩
        · exact afM_up u1 (aup_refl _) (h2 g hg)) h3
      refine ⟨w :: ws, sy2, fa2, ρ2, f1, aup_trans u1 f2, f3, f4, fun j z hz => ?_⟩
      cases j with
      | zero =>
        cases hz
        exact ⟨r1, f2 _ _ e4, by rw [← e5]; rfl⟩
      | succ j => exact f5 j z hz
theorem ain2_ok {S : aS} {w : Nat × Int} {p : Int × Int} {r : Int} (e : ain2 S w p = true) (hM : aM J τ0 h0 t0 S ρ ν τ h t) (hr : ρ[w.1]? = some r) : p.1 ≤ r + w.2 ∧ r + w.2 ≤ p.2 := by
  unfold ain2 at e
  split at e
  · rename_i q hq
    exact aivr_in hM hq e hr
  · cases e
theorem arle_ok {S : aS} {u w : Nat × Int} {c ru rw9 : Int} (e : arle S u w c = true) (hM : aM J τ0 h0 t0 S ρ ν τ h t) (hu : ρ[u.1]? = some ru) (hw : ρ[w.1]? = some rw9) : ru + u.2 ≤ rw9 + w.2 + c := by
  unfold arle at e
  simp only [Bool.or_eq_true] at e
  rcases e with e | e | e
  · cases hb : Nat.beq u.1 w.1 with
    | false => rw [hb] at e; cases e
    | true =>
      rw [hb] at e
      have := Nat.eq_of_beq_eq_true hb
      rw [this, hw] at hu
      cases hu
      have := ile_iff.mp e
      omega
  · split at e
    · rename_i c' hc
      obtain ⟨a, b, f1, f2, f3⟩ := hM.2.2.2.1 _ (arel_ok hc)
      simp only at f1 f2 f3
      rw [hu] at f1
      rw [hw] at f2
      cases f1
      cases f2
      have := ile_iff.mp e
      omega
    · cases e
  · split at e
    · rename_i p q hp hq
      have h1 := aiv_ok (s := u.1) (c := u.2) hM.1 hp hu
      have h2 := aiv_ok (s := w.1) (c := w.2) hM.1 hq hw
      have := ile_iff.mp e
      omega
    · cases e
theorem acvp_ok {S : aS} {args : List av} {vs : List zv} {ws : List (Nat × Int)} {pv : List Int} {f : Nat × Nat × Nat × Bool × Int × Int × Int} (e : acvp args ws S f = true) (hM : aM J τ0 h0 t0 S ρ ν τ h t) (hs : asM ρ ν args vs) (hw : ∀ (j : Nat) (w : Nat × Int), ws[j]? = some w → ∃ r : Int, ρ[w.1]? = some r ∧ pv[j]? = some (r + w.2)) : cpst τ h vs pv f := by
  unfold acvp at e
  cases hm : acnm args f.1 with
  | none => rw [hm] at e; cases e
  | some m =>
    rw [hm] at e
    simp only at e
    split at e
    · rename_i w hfd
      obtain ⟨g0, q, i, r, v, g1, g2, g3, g4, x, rw9, rfl, hr, hx⟩ := hM.2.2.1 _ (afnd_mem hfd)
      simp only at g0 g1 g2 g3
      rw [hM.1.1] at g2
      cases g2
      have hi : i = f.2.1 := by
        have h9 : Int.ofNat f.2.1 = (f.2.1 : Int) := rfl
        omega
      subst hi
      have hcad : cad vs f.1 = some q ∧ (f.1 < 1000 → τ[f.1]? = some f.1) := by
        unfold acnm at hm
        unfold cad
        cases hb9 : Nat.blt f.1 1000 with
        | true =>
          rw [hb9] at hm
          cases hm
          unfold anm at g1
          rw [hb9] at g1
          exact ⟨g1, g0⟩
        | false =>
          rw [hb9] at hm
          simp only [cond_false, nth_eq] at hm ⊢
          have := bltF.mp hb9
          split at hm
          · rename_i m' hm'
            cases hm
            obtain ⟨v, e1, q', e2, rfl⟩ := asM_at hs hm'
            rw [g1] at e2
            cases e2
            rw [e1]
            exact ⟨rfl, fun h9 => by omega⟩
          · cases hm
      refine ⟨hcad.2, q, x, hcad.1, g4, ?_⟩
      cases hk : f.2.2.1 with
      | zero =>
        rw [hk] at e
        simp only at e ⊢
        have := ain2_ok e hM hr
        omega
      | succ j =>
        rw [hk] at e
        simp only [nth_eq] at e ⊢
        cases hj : ws[j]? with
        | none => rw [hj] at e; cases e
        | some u =>
          rw [hj] at e
          simp only at e
          obtain ⟨ru, q1, q2⟩ := hw j u hj
          refine ⟨_, q2, fun hb => ?_, fun hb => ?_⟩
          · rw [hb] at e
            simp only [cond_false, Bool.and_eq_true] at e
            have e1 := Nat.eq_of_beq_eq_true e.1
            have e2 := ieq_iff.mp e.2
            rw [e1, q1] at hr
            cases hr
            omega
          · rw [hb] at e
            simp only [cond_true, Bool.and_eq_true] at e
            have h1 := ain2_ok e.1 hM hr
            have h2 := arle_ok e.2 hM q1 hr
            omega
    · cases e
theorem acv1_ok {S : aS} {args : List av} {vs : List zv} {ws : List (Nat × Int)} {pv : List Int} {q : Option av ⊕ Nat} {en : aE} {o : zo} (e : acv1 args ws S q en = true) (hM : aM J τ0 h0 t0 S ρ ν τ h t) (hs : asM ρ ν args vs) (hw : ∀ (j : Nat) (w : Nat × Int), ws[j]? = some w → ∃ r : Int, ρ[w.1]? = some r ∧ pv[j]? = some (r + w.2)) (ho : aoM ρ ν q o) : t = t0 + en.2.1 ∧ cend τ h vs pv en o := by
  unfold acv1 at e
  simp only [Bool.and_eq_true] at e
  obtain ⟨e1, e2, e3, e4⟩ := e
  refine ⟨by rw [← Nat.eq_of_beq_eq_true e1]; exact hM.2.2.2.2.2.2.2, ?_, fun f hf => ?_, fun f hf => acvp_ok (List.all_eq_true.mp e4 f hf) hM hs hw⟩
  · unfold acvr at e2
    split at e2
    · rename_i h1
      rw [h1]
      rcases o with (_ | v) | z
      · trivial
      · exact ho.elim
      · exact ho.elim
    · rename_i x v h1
      rw [h1]
      rcases o with (_ | v9) | z
      · exact ho.elim
      · exact (aqok_ok (vs := [v9]) hM e2 (asM_mk ho trivial)).1
      · exact ho.elim
    · rename_i x y9 h1
      rw [h1]
      rcases o with (_ | v9) | z
      · exact ho.elim
      · exact ho.elim
      · have h2 : y9 = z := ho
        have h3 := Nat.eq_of_beq_eq_true e2
        show x = z
        rw [h3, h2]
    · cases e2
  · have h9 := List.all_eq_true.mp e3 f hf
    rw [nth_eq] at h9
    split at h9
    · rename_i w hw9
      obtain ⟨v, d1, x, r, rfl, hr, hx⟩ := asM_at hs hw9
      have := ain2_ok h9 hM hr
      exact ⟨x, d1, by omega, by omega⟩
    · cases h9
end CK
/-- what was read off holds -/
theorem achk_ok {J : zh → Prop} {ctb : Nat → List aK} {nn mj : Nat} {ann : aA} {c : aK} (hJ : aJok J) (e : achk ctb nn mj ann c = some ()) (hC : ∀ (mk : Nat) (c' : aK), c' ∈ ctb mk → c'.2.2.1 < c.2.2.1 → cOK J mk c') : cOK J mj c := by
  obtain ⟨qs, pf, d, wl, outs⟩ := c
  unfold achk at e
  simp only at e
  cases d with
  | zero => cases e
  | succ d =>
    simp only at e
    intro τ h t nL rk n hs9 vs l0 pv hm hh hJh hq hp hz
    rw [hm] at e
    simp only at e
    obtain ⟨args, sy1, nm1, ρ1, ν1, e1, a1, a2, a3, a4, a5, a6⟩ := aini_ok (ρ := [0]) (ν := []) hh e ⟨rfl, rfl, fun s p hp9 => by
      cases s with
      | zero => cases hp9; exact ⟨0, rfl, Int.le_refl _, Int.le_refl _⟩
      | succ s => cases hp9⟩ ⟨rfl, fun j T hj => (by cases hj)⟩ hq
    obtain ⟨ws, sy2, fa2, ρ2, e2, b1, b2, b3, b4⟩ := apin_ok (h := h) a6 e1 a5 a3 (fun f hf => (by cases hf)) hp
    cases hE : aent args nL with
    | none => rw [hE] at e2; cases e2
    | some la =>
      rw [hE] at e2
      simp only at e2
      have a5' := asM_up b1 (aup_refl ν1) a5
      obtain ⟨c0, z1, z2⟩ := aent_ok hE a5'
      rw [hz] at z1
      cases z1
      cases hL : alp ctb ann [] d (arn ctb nn d) mj nn [] 0 la [] (sy2, nm1, fa2, [], [], 0) with
      | none => rw [hL] at e2; cases e2
      | some L =>
        rw [hL] at e2
        simp only at e2
        cases hall : L.all (fun x => acov args ws wl outs x) with
        | false => rw [hall] at e2; cases e2
        | true =>
          have hC' : ∀ (mk : Nat) (c' : aK), c' ∈ ctb mk → c'.2.2.1 ≤ d → cOK J mk c' := fun mk c' h1 h2 => hC mk c' h1 (Nat.lt_succ_of_le h2)
          have hM0 : aM J τ h t (sy2, nm1, fa2, [], [], 0) ρ2 ν1 τ h t := ⟨b2, a4, b3, fun f hf => (by cases hf), ⟨aup_refl _, fun k T i _ _ => rfl⟩, hh, hJh, rfl⟩
          obtain ⟨x, k1, q, S', xo, ρ', ν', τ', h', t', g1, rfl, g3, g4, g5, g6, g7⟩ := alp_ok (ann := ann) (stops := []) (τ0 := τ) (h0 := h) (t0 := t) (ρt := ρ2) (νt := ν1) (τt := τ) (d := d) (mi := mj) (Out := fun x => ∃ (q : Option av ⊕ Nat) (S' : aS) (xo : zo) (ρ' : List Int) (ν' τ' : List Nat) (h' : zh) (t' : Nat), (.inl q, S') ∈ L ∧ x = (xo, h', t') ∧ aup ρ2 ρ' ∧ aup ν1 ν' ∧ aup τ τ' ∧ aM J τ h t S' ρ' ν' τ' h' t' ∧ aoM ρ' ν' q xo) hJ hC' (arn_ok hJ d hC') nn [] 0 la [] _ L ρ2 ν1 τ l0 [] h t hL hM0 z2 trivial (fun o S' hm9 ρ' ν' τ' h' t' u1 u2 u3 hM' => ⟨fun q hq9 xo hx => ⟨q, S', xo, ρ', ν', τ', h', t', by rw [← hq9]; exact hm9, rfl, u1, u2, u3, hM', hx⟩, fun pc9 ls9 st9 ho => by
            have h9 := List.all_eq_true.mp hall _ hm9
            unfold acov at h9
            rw [ho] at h9
            cases h9⟩) (fun o ho => (by cases ho)) (aup_refl _) (aup_refl _) (aup_refl _)
          have h9 := List.all_eq_true.mp hall _ g1
          unfold acov at h9
          simp only [Bool.and_eq_true] at h9
          obtain ⟨en, hen, hcv⟩ := List.any_eq_true.mp h9.2
          obtain ⟨j1, j2⟩ := acv1_ok (pv := pv) hcv g6 (asM_up g3 g4 a5') (fun j w hj => by
            obtain ⟨r, q1, q2⟩ := b4 j w hj
            exact ⟨r, g3 _ _ q1, q2⟩) g7
          exact ⟨xo, h', t', τ', en, hen, qE_of k1, g5, g6.2.2.2.2.2.1, g6.2.2.2.2.2.2.1, fun k T i hk hw => g6.2.2.2.2.1.2 k T i hk (awsb_ok h9.1 hw), j1, j2⟩
