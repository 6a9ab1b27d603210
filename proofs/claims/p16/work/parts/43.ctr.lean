/-! contracts -/
def aqM (τ : List Nat) (q : aq) (v : zv) : Prop := match q with
  | .inl p => ∃ x : Int32, v = zi x ∧ p.1 ≤ x.toInt ∧ x.toInt ≤ p.2
  | .inr (.inl T) => ∃ a : Nat, v = .inl (some a) ∧ τ[a]? = some T
  | .inr (.inr k) => aoth k v
def aqsM (τ : List Nat) : List aq → List zv → Prop
  | [], [] => True
  | q :: qs, v :: vs => aqM τ q v ∧ aqsM τ qs vs
  | _, _ => False
def cad (vs : List zv) (n : Nat) : Option Nat := bif Nat.blt n 1000 then some n else (match vs[n - 1000]? with
  | some (.inl (some q)) => some q
  | _ => none)
def cpre (τ : List Nat) (h : zh) (vs : List zv) : List (Nat × Nat × Int × Int) → List Int → Prop
  | [], [] => True
  | f :: pf, r :: pv => ((∃ (q : Nat) (x : Int32), cad vs f.1 = some q ∧ hsl h q f.2.1 = some (zi x) ∧ x.toInt = r) ∧ f.2.2.1 ≤ r ∧ r ≤ f.2.2.2 ∧ (f.1 < 1000 → τ[f.1]? = some f.1)) ∧ cpre τ h vs pf pv
  | _, _ => False
def cpst (τ : List Nat) (h : zh) (vs : List zv) (pv : List Int) (f : Nat × Nat × Nat × Bool × Int × Int × Int) : Prop := (f.1 < 1000 → τ[f.1]? = some f.1) ∧ ∃ (q : Nat) (x : Int32), cad vs f.1 = some q ∧ hsl h q f.2.1 = some (zi x) ∧ (match f.2.2.1 with
  | 0 => f.2.2.2.2.2.1 ≤ x.toInt ∧ x.toInt ≤ f.2.2.2.2.2.2
  | j + 1 => ∃ r : Int, pv[j]? = some r ∧ (f.2.2.2.1 = false → x.toInt = r + f.2.2.2.2.1) ∧ (f.2.2.2.1 = true → f.2.2.2.2.2.1 ≤ x.toInt ∧ x.toInt ≤ f.2.2.2.2.2.2 ∧ r ≤ x.toInt + f.2.2.2.2.1))
def cret (τ : List Nat) (q : Option aq ⊕ Nat) (o : zo) : Prop := match q, o with
  | .inl none, .inl none => True
  | .inl (some q), .inl (some v) => aqM τ q v
  | .inr x, .inr y => x = y
  | _, _ => False
def cend (τ : List Nat) (h : zh) (vs : List zv) (pv : List Int) (e : aE) (o : zo) : Prop := cret τ e.1 o ∧ (∀ f ∈ e.2.2.1, ∃ x : Int32, vs[f.1]? = some (zi x) ∧ f.2.1 ≤ x.toInt ∧ x.toInt ≤ f.2.2) ∧ ∀ f ∈ e.2.2.2, cpst τ h vs pv f
def cOK (J : zh → Prop) (mj : Nat) (c : aK) : Prop := ∀ (τ : List Nat) (h : zh) (t nL rk n : Nat) (hs : List (Nat × Nat × Nat × Nat)) (vs : List zv) (l0 : List (Option zv)) (pv : List Int), zmeth mj = some (nL, rk, n, hs) → hM τ h → J h → aqsM τ c.1 vs → cpre τ h vs c.2.1 pv → zent vs nL = some l0 → ∃ (o : zo) (h' : zh) (t' : Nat) (τ' : List Nat) (e : aE), e ∈ c.2.2.2.2 ∧ qE c.2.2.1 mj l0 h t (o, h', t') ∧ aup τ τ' ∧ hM τ' h' ∧ J h' ∧ aFr τ h c.2.2.2.1 h' ∧ t' = t + e.2.1 ∧ cend τ' h' vs pv e o
section CT
variable {J : zh → Prop} {τ0 : List Nat} {h0 : zh} {t0 : Nat} {ρ : List Int} {ν τ : List Nat} {h : zh} {t : Nat} {β : Type} {y : List β}
theorem asM_at : ∀ {st : List av} {vs : List zv} {i : Nat} {a : av}, asM ρ ν st vs → st[i]? = some a → ∃ v : zv, vs[i]? = some v ∧ avM ρ ν a v
  | [], [], i, a, _, h => by cases h
  | b :: st, v :: vs, 0, a, hs, h => by
    cases h
    exact ⟨v, rfl, hs.1⟩
  | b :: st, v :: vs, i + 1, a, hs, h => asM_at (i := i) hs.2 h
  | [], _ :: _, _, _, h, _ => h.elim
  | _ :: _, [], _, _, h, _ => h.elim
theorem asM_len : ∀ {st : List av} {vs : List zv}, asM ρ ν st vs → vs.length = st.length
  | [], [], _ => rfl
  | _ :: _, _ :: _, h => by simp [asM_len h.2]
  | [], _ :: _, h => h.elim
  | _ :: _, [], h => h.elim
theorem acnm_ok {args : List av} {vs : List zv} {n m q : Nat} (e : acnm args n = some m) (hs : asM ρ ν args vs) (hq : cad vs n = some q) : anm ν m = some q ∧ (m < 1000 → n < 1000 → m = n) := by
  unfold acnm at e
  unfold cad at hq
  cases hb : Nat.blt n 1000 with
  | true =>
    rw [hb] at e hq
    cases e
    cases hq
    exact ⟨by unfold anm; rw [hb]; rfl, fun _ _ => rfl⟩
  | false =>
    rw [hb] at e hq
    simp only [cond_false, nth_eq] at e hq
    have hn := bltF.mp hb
    split at e
    · rename_i m' hm
      cases e
      obtain ⟨v, e1, q', e2, rfl⟩ := asM_at hs hm
      rw [e1] at hq
      simp only at hq
      cases hq
      exact ⟨e2, fun _ h9 => by omega⟩
    · cases e
theorem aivr_in {S : aS} {w : Nat × Int} {q p : Int × Int} {r : Int} (hM : aM J τ0 h0 t0 S ρ ν τ h t) (e : aivr S.1 S.2.2.2.1 w = some q) (hb : asub q p = true) (hr : ρ[w.1]? = some r) : p.1 ≤ r + w.2 ∧ r + w.2 ≤ p.2 := by
  have h1 := aivr_ok hM.1 hM.2.2.2.1 e hr
  have h2 := asub_ok hb
  omega
theorem aqok_ok {S : aS} (hM : aM J τ0 h0 t0 S ρ ν τ h t) : ∀ {qs : List aq} {args : List av} {vs : List zv}, aqok S qs args = true → asM ρ ν args vs → aqsM τ qs vs
  | [], [], [], _, _ => trivial
  | [], [], _ :: _, _, h => h.elim
  | [], _ :: _, _, e, _ => by cases e
  | .inl p :: qs, [], _, e, _ => by cases e
  | .inr (.inl T) :: qs, [], _, e, _ => by cases e
  | .inr (.inr T) :: qs, [], _, e, _ => by cases e
  | .inl p :: qs, .inl w :: r, vs, e, hs => by
    obtain ⟨v, vs', rfl, h1, h2⟩ := asM_cons hs
    unfold aqok at e
    cases hp : aivr S.1 S.2.2.2.1 w with
    | none => rw [hp] at e; cases e
    | some q =>
      rw [hp] at e
      simp only [Bool.and_eq_true] at e
      obtain ⟨x, rr, rfl, hr, hx⟩ := h1
      have := aivr_in hM hp e.1 hr
      exact ⟨⟨x, rfl, by omega, by omega⟩, aqok_ok hM e.2 h2⟩
  | .inl p :: qs, .inr (.inl n) :: r, _, e, _ => by cases e
  | .inl p :: qs, .inr (.inr n) :: r, _, e, _ => by cases e
  | .inr (.inl T) :: qs, .inl w :: r, _, e, _ => by cases e
  | .inr (.inl T) :: qs, .inr (.inr n) :: r, _, e, _ => by cases e
  | .inr (.inr T) :: qs, .inl w :: r, _, e, _ => by cases e
  | .inr (.inr T) :: qs, .inr (.inl n) :: r, _, e, _ => by cases e
  | .inr (.inl T) :: qs, .inr (.inl n) :: r, vs, e, hs => by
    obtain ⟨v, vs', rfl, h1, h2⟩ := asM_cons hs
    unfold aqok at e
    split at e
    · rename_i u hu
      obtain ⟨q, hq, rfl⟩ := h1
      unfold acel at hu
      simp only at hu
      cases hT : anty S.2.1 n with
      | none => rw [hT] at hu; cases hu
      | some T' =>
        rw [hT] at hu
        simp only at hu
        cases ht : atyp T' with
        | none => rw [ht] at hu; cases hu
        | some tt =>
          rw [ht] at hu
          simp only at hu
          cases hb : Nat.beq T T' with
          | false => rw [hb] at hu; cases hu
          | true =>
            have e1 := Nat.eq_of_beq_eq_true hb
            subst e1
            exact ⟨⟨q, rfl, anty_ok hM.2.1 hM.2.2.2.2.2.1 hT ht hq⟩, aqok_ok hM e h2⟩
    · cases e
  | .inr (.inr k) :: qs, .inr (.inr k') :: r, vs, e, hs => by
    obtain ⟨v, vs', rfl, h1, h2⟩ := asM_cons hs
    unfold aqok at e
    simp only [Bool.and_eq_true] at e
    have e1 := Nat.eq_of_beq_eq_true e.1
    subst e1
    exact ⟨h1, aqok_ok hM e.2 h2⟩
theorem aqok_nm {S : aS} (hM : aM J τ0 h0 t0 S ρ ν τ h t) {m : Nat} (hm : m < 1000) : ∀ {qs : List aq} {args : List av}, aqok S qs args = true → (.inr (.inl m) : av) ∈ args → τ[m]? = some m
  | [], [], _, h => by cases h
  | [], _ :: _, e, _ => by cases e
  | .inl p :: qs, [], e, _ => by cases e
  | .inr (.inl T) :: qs, [], e, _ => by cases e
  | .inr (.inr T) :: qs, [], e, _ => by cases e
  | .inl p :: qs, .inl w :: r, e, hm9 => by
    unfold aqok at e
    split at e
    · simp only [Bool.and_eq_true] at e
      rcases List.mem_cons.mp hm9 with h9 | h9
      · cases h9
      · exact aqok_nm hM hm e.2 h9
    · cases e
  | .inl p :: qs, .inr (.inl n) :: r, e, _ => by cases e
  | .inl p :: qs, .inr (.inr n) :: r, e, _ => by cases e
  | .inr (.inl T) :: qs, .inl w :: r, e, _ => by cases e
  | .inr (.inl T) :: qs, .inr (.inr n) :: r, e, _ => by cases e
  | .inr (.inr T) :: qs, .inl w :: r, e, _ => by cases e
  | .inr (.inr T) :: qs, .inr (.inl n) :: r, e, _ => by cases e
  | .inr (.inl T) :: qs, .inr (.inl n) :: r, e, hm9 => by
    unfold aqok at e
    split at e
    · rename_i u hu
      rcases List.mem_cons.mp hm9 with h9 | h9
      · cases h9
        unfold acel at hu
        simp only at hu
        cases hT : anty S.2.1 m with
        | none => rw [hT] at hu; cases hu
        | some T' =>
          rw [hT] at hu
          simp only at hu
          cases ht : atyp T' with
          | none => rw [ht] at hu; cases hu
          | some tt =>
            have h8 : anm ν m = some m := by unfold anm; rw [bltT.mpr hm]; rfl
            have h7 := anty_ok hM.2.1 hM.2.2.2.2.2.1 hT ht h8
            unfold anty at hT
            rw [bltT.mpr hm] at hT
            cases hT
            exact h7
      · exact aqok_nm hM hm e h9
    · cases e
  | .inr (.inr k) :: qs, .inr (.inr k') :: r, e, hm9 => by
    unfold aqok at e
    simp only [Bool.and_eq_true] at e
    rcases List.mem_cons.mp hm9 with h9 | h9
    · cases h9
    · exact aqok_nm hM hm e.2 h9
/-- slots told ahead -/
theorem apre_ok {args : List av} {vs : List zv} : ∀ {pf : List (Nat × Nat × Int × Int)} {S : aS} {y : List β} {k : List (Nat × Int) → aS → Option (List β)} {ρ : List Int} {ν : List Nat}, apre args pf S k = some y → aM J τ0 h0 t0 S ρ ν τ h t → asM ρ ν args vs → ∃ (ws : List (Nat × Int)) (pv : List Int) (S' : aS) (y' : List β) (ρ' : List Int) (ν' : List Nat), k ws S' = some y' ∧ (∀ w ∈ y', w ∈ y) ∧ aup ρ ρ' ∧ aup ν ν' ∧ aM J τ0 h0 t0 S' ρ' ν' τ h t ∧ cpre τ h vs pf pv ∧ (∀ (j : Nat) (w : Nat × Int), ws[j]? = some w → ∃ r : Int, ρ'[w.1]? = some r ∧ pv[j]? = some (r + w.2))
  | [], S, y, k, ρ, ν, e, hM, hs => ⟨[], [], S, y, ρ, ν, e, fun _ hw => hw, aup_refl _, aup_refl _, hM, trivial, fun j w hw => (by cases hw)⟩
  | f :: pf, S, y, k, ρ, ν, e, hM, hs => by
    have e : (match acnm args f.1 with
      | some m => acel S (.inr (.inl m)) (fun n T t => ald S n (0, Int.ofNat f.2.1) T t (fun a S' => match a with
        | .inl w => (match aivr S'.1 S'.2.2.2.1 w with
          | some q => bif asub q f.2.2 then apre args pf S' (fun ws S2 => k (w :: ws) S2) else none
          | none => none)
        | _ => none))
      | none => none) = some y := e
    cases hm : acnm args f.1 with
    | none => rw [hm] at e; cases e
    | some m =>
      rw [hm] at e
      simp only at e
      obtain ⟨T, q, tt, hT, ht, e, hq⟩ := acel_nm e hM
      obtain ⟨i, v, a, S', y', ρ', ν', b1, b2, b3, b4, b5, b6, b7, b8, b9⟩ := ald_ok e hM hq hT ht (r := 0) hM.1.1
      have hi : i = f.2.1 := by
        have h9 : (0 : Int) + Int.ofNat f.2.1 = (i : Int) := b1
        have h8 : Int.ofNat f.2.1 = (f.2.1 : Int) := rfl
        omega
      subst hi
      split at b4
      · rename_i w
        cases hp : aivr S'.1 S'.2.2.2.1 w with
        | none => rw [hp] at b4; cases b4
        | some q9 =>
          rw [hp] at b4
          simp only at b4
          cases hb : asub q9 f.2.2 with
          | false => rw [hb] at b4; cases b4
          | true =>
            rw [hb] at b4
            simp only [cond_true] at b4
            obtain ⟨x, r, rfl, hr, hx⟩ := b9
            have hin := aivr_in b8 hp hb hr
            obtain ⟨ws, pv, S2, y2, ρ2, ν2, c1, c2, c3, c4, c5, c6, c7⟩ := apre_ok b4 b8 (asM_up b6 b7 hs)
            refine ⟨w :: ws, (r + w.2) :: pv, S2, y2, ρ2, ν2, c1, fun z hz => b5 z (c2 z hz), aup_trans b6 c3, aup_trans b7 c4, c5, ⟨⟨⟨q, x, ?_, b3, hx⟩, hin.1, hin.2, ?_⟩, c6⟩, ?_⟩
            · unfold acnm at hm
              unfold cad
              cases hb9 : Nat.blt f.1 1000 with
              | true =>
                rw [hb9] at hm
                cases hm
                unfold anm at hq
                rw [hb9] at hq
                exact hq
              | false =>
                rw [hb9] at hm
                simp only [cond_false, nth_eq] at hm ⊢
                split at hm
                · rename_i m' hm'
                  cases hm
                  obtain ⟨v, e1, q', e2, rfl⟩ := asM_at hs hm'
                  rw [hq] at e2
                  cases e2
                  rw [e1]
                · cases hm
            · intro hn
              unfold acnm at hm
              rw [bltT.mpr hn] at hm
              cases hm
              have h9 := anty_ok hM.2.1 hM.2.2.2.2.2.1 hT ht hq
              unfold anm at hq
              rw [bltT.mpr hn] at hq
              cases hq
              unfold anty at hT
              rw [bltT.mpr hn] at hT
              cases hT
              exact h9
            · intro j z hz
              cases j with
              | zero =>
                cases hz
                exact ⟨r, c3 _ _ hr, rfl⟩
              | succ j => exact c7 j z hz
      · cases b4
/-- arguments that lie between two -/
theorem arfA_ok {args : List av} {vs : List zv} (hs : asM ρ ν args vs) : ∀ {rf : List (Nat × Int × Int)} {sy : aI} {k : aI → Option (List β)}, arfA args rf sy k = some y → asy ρ sy → (∀ f ∈ rf, ∃ x : Int32, vs[f.1]? = some (zi x) ∧ f.2.1 ≤ x.toInt ∧ x.toInt ≤ f.2.2) → ∃ sy' : aI, k sy' = some y ∧ asy ρ sy'
  | [], sy, k, e, h1, _ => ⟨sy, e, h1⟩
  | f :: rf, sy, k, e, h1, h2 => by
    have e : (match nth args f.1 with
      | some (.inl w) => acut sy w.1 (f.2.1 - w.2) (f.2.2 - w.2) (fun sy' => arfA args rf sy' k)
      | _ => none) = some y := e
    rw [nth_eq] at e
    split at e
    · rename_i w hw
      obtain ⟨v, e1, x, r, rfl, hr, hx⟩ := asM_at hs hw
      obtain ⟨x', e2, l1, l2⟩ := h2 f List.mem_cons_self
      rw [e1] at e2
      cases e2
      obtain ⟨sy1, e3, s1⟩ := acut_ok e h1 hr (by omega) (by omega)
      exact arfA_ok hs e3 s1 (fun g hg => h2 g (List.mem_cons_of_mem _ hg))
    · cases e
/-- slots behind a call -/
theorem apst_ok {args : List av} {vs : List zv} {ws : List (Nat × Int)} {pv : List Int} {τ' : List Nat} {h' : zh} (ha : ∀ m : Nat, (.inr (.inl m) : av) ∈ args → m < 1000 → τ'[m]? = some m) : ∀ {pf : List (Nat × Nat × Nat × Bool × Int × Int × Int)} {sy : aI} {fa : aF} {rl : aR} {k : aI → aF → aR → Option (List β)} {ρ : List Int}, apst args ws pf sy fa rl k = some y → asM ρ ν args vs → (∀ (j : Nat) (w : Nat × Int), ws[j]? = some w → ∃ r : Int, ρ[w.1]? = some r ∧ pv[j]? = some (r + w.2)) → asy ρ sy → (∀ f ∈ fa, afM ρ ν τ' h' f) → (∀ f ∈ rl, arM ρ f) → (∀ f ∈ pf, cpst τ' h' vs pv f) → ∃ (sy' : aI) (fa' : aF) (rl' : aR) (ρ' : List Int), k sy' fa' rl' = some y ∧ aup ρ ρ' ∧ asy ρ' sy' ∧ (∀ f ∈ fa', afM ρ' ν τ' h' f) ∧ ∀ f ∈ rl', arM ρ' f
  | [], sy, fa, rl, k, ρ, e, _, _, h1, h2, h3, _ => ⟨sy, fa, rl, ρ, e, aup_refl _, h1, h2, h3⟩
  | f :: pf, sy, fa, rl, k, ρ, e, hs, hw, h1, h2, h3, h4 => by
    have e : (match acnm args f.1 with
      | none => none
      | some n => match f.2.2.1 with
        | 0 => afr f.2.2.2.2.2 sy (fun v sy' => apst args ws pf sy' (((n, 0, Int.ofNat f.2.1), .inl v) :: fa) rl k)
        | j + 1 => match nth ws j with
          | none => none
          | some w => bif f.2.2.2.1 then afr f.2.2.2.2.2 sy (fun v sy' => bif ieq v.2 0 then (frcZ (f.2.2.2.2.1 - w.2) (fun c => filK (fun g => Nat.beq g.2.1 w.1) rl (fun old => apst args ws pf sy' (((n, 0, Int.ofNat f.2.1), .inl v) :: fa) ((w.1, v.1, c) :: (old.map (fun g => (g.1, v.1, g.2.2 + c)) ++ rl)) k))) else apst args ws pf sy' (((n, 0, Int.ofNat f.2.1), .inl v) :: fa) rl k) else frcZ (w.2 + f.2.2.2.2.1) (fun c => apst args ws pf sy (((n, 0, Int.ofNat f.2.1), .inl (w.1, c)) :: fa) rl k)) = some y := e
    cases hm : acnm args f.1 with
    | none => rw [hm] at e; cases e
    | some n =>
      rw [hm] at e
      simp only at e
      obtain ⟨g0, q, x, g1, g2, g3⟩ := h4 f List.mem_cons_self
      obtain ⟨hq, hn⟩ := acnm_ok hm hs g1
      have hn0 : n < 1000 → τ'[n]? = some n := by
        intro hlt
        unfold acnm at hm
        cases hb9 : Nat.blt f.1 1000 with
        | true =>
          rw [hb9] at hm
          cases hm
          exact g0 hlt
        | false =>
          rw [hb9] at hm
          simp only [cond_false, nth_eq] at hm
          split at hm
          · rename_i m' hm'
            cases hm
            exact ha _ (List.mem_of_getElem? hm') hlt
          · cases hm
      have mkf : ∀ (ρ' : List Int) (v : Nat × Int) (r' : Int), asy ρ' sy ∨ ρ'[0]? = some 0 → ρ'[v.1]? = some r' → x.toInt = r' + v.2 → ρ'[0]? = some 0 → afM ρ' ν τ' h' ((n, 0, Int.ofNat f.2.1), .inl v) := fun ρ' v r' _ hv hx h00 => ⟨hn0, q, f.2.1, 0, zi x, hq, h00, by simp, g2, x, r', rfl, hv, hx⟩
      have h4' : ∀ g ∈ pf, cpst τ' h' vs pv g := fun g hg => h4 g (List.mem_cons_of_mem _ hg)
      cases hk : f.2.2.1 with
      | zero =>
        rw [hk] at e g3
        simp only at e g3
        obtain ⟨v, sy', ρ', r', e1, u1, s1, e4, e5⟩ := afr_ok e h1 g3.1 g3.2
        obtain ⟨sy2, fa2, rl2, ρ2, f1, f2, f3, f4, f5⟩ := apst_ok ha e1 (asM_up u1 (aup_refl _) hs) (fun j w hj => by
          obtain ⟨r, q1, q2⟩ := hw j w hj
          exact ⟨r, u1 _ _ q1, q2⟩) s1 (fun g hg => by
          rcases List.mem_cons.mp hg with rfl | hg
          · exact mkf ρ' v r' (Or.inr s1.1) e4 e5 s1.1
          · exact afM_up u1 (aup_refl _) (h2 g hg)) (fun g hg => arM_up u1 (h3 g hg)) h4'
        exact ⟨sy2, fa2, rl2, ρ2, f1, aup_trans u1 f2, f3, f4, f5⟩
      | succ j =>
        rw [hk] at e g3
        simp only [nth_eq] at e g3
        obtain ⟨r, p1, p2, p3⟩ := g3
        cases hj : ws[j]? with
        | none => rw [hj] at e; cases e
        | some w =>
          rw [hj] at e
          simp only at e
          obtain ⟨r9, q1, q2⟩ := hw j w hj
          rw [p1] at q2
          have q2 : r = r9 + w.2 := Option.some.inj q2
          cases hb : f.2.2.2.1 with
          | false =>
            rw [hb] at e
            simp only [cond_false, frcZ_eq] at e
            have hx := p2 hb
            obtain ⟨sy2, fa2, rl2, ρ2, f1, f2, f3, f4, f5⟩ := apst_ok ha e hs hw h1 (fun g hg => by
              rcases List.mem_cons.mp hg with rfl | hg
              · exact mkf ρ _ r9 (Or.inr h1.1) q1 (by simp only; omega) h1.1
              · exact h2 g hg) h3 h4'
            exact ⟨sy2, fa2, rl2, ρ2, f1, f2, f3, f4, f5⟩
          | true =>
            rw [hb] at e
            simp only [cond_true] at e
            obtain ⟨l1, l2, l3⟩ := p3 hb
            obtain ⟨v, sy', ρ', r', e1, u1, s1, e4, e5⟩ := afr_ok e h1 l1 l2
            have hs' := asM_up u1 (aup_refl ν) hs
            have hw' : ∀ (j : Nat) (w : Nat × Int), ws[j]? = some w → ∃ r : Int, ρ'[w.1]? = some r ∧ pv[j]? = some (r + w.2) := fun j w hj => by
              obtain ⟨r, q1, q2⟩ := hw j w hj
              exact ⟨r, u1 _ _ q1, q2⟩
            have hfa : ∀ g ∈ ((n, 0, Int.ofNat f.2.1), (.inl v : av)) :: fa, afM ρ' ν τ' h' g := fun g hg => by
              rcases List.mem_cons.mp hg with rfl | hg
              · exact mkf ρ' v r' (Or.inr s1.1) e4 e5 s1.1
              · exact afM_up u1 (aup_refl _) (h2 g hg)
            cases hv2 : ieq v.2 0 with
            | false =>
              rw [hv2] at e1
              obtain ⟨sy2, fa2, rl2, ρ2, f1, f2, f3, f4, f5⟩ := apst_ok ha e1 hs' hw' s1 hfa (fun g hg => arM_up u1 (h3 g hg)) h4'
              exact ⟨sy2, fa2, rl2, ρ2, f1, aup_trans u1 f2, f3, f4, f5⟩
            | true =>
              rw [hv2] at e1
              simp only [cond_true, frcZ_eq, filK_eq] at e1
              have hv0 := ieq_iff.mp hv2
              have hkey : r9 ≤ r' + (f.2.2.2.2.1 - w.2) := by omega
              obtain ⟨sy2, fa2, rl2, ρ2, f1, f2, f3, f4, f5⟩ := apst_ok ha e1 hs' hw' s1 hfa (fun g hg => by
                rcases List.mem_cons.mp hg with rfl | hg
                · exact ⟨r9, r', u1 _ _ q1, e4, hkey⟩
                · rcases List.mem_append.mp hg with hg | hg
                  · obtain ⟨g', hg', rfl⟩ := List.mem_map.mp hg
                    obtain ⟨m1, m2⟩ := List.mem_filter.mp hg'
                    obtain ⟨a, b, c1, c2, c3⟩ := arM_up u1 (h3 g' m1)
                    rw [Nat.eq_of_beq_eq_true m2, u1 _ _ q1] at c2
                    cases c2
                    exact ⟨a, r', c1, e4, by simp only; omega⟩
                  · exact arM_up u1 (h3 g hg)) h4'
              exact ⟨sy2, fa2, rl2, ρ2, f1, aup_trans u1 f2, f3, f4, f5⟩
/-- facts that a call leaves as they are -/
theorem adrp_ok {nm wl9 : List Nat} {wl : aW} {h' : zh} {τ' : List Nat} {f : (Nat × Nat × Int) × av} (hn : anam ν nm τ) (hh : hM τ h) (hs : ρ[0]? = some 0) (hf : afM ρ ν τ h f) (hk : adrp nm wl f = true) (hfr : aFr τ h wl h') (hu : aup τ τ') : afM ρ ν τ' h' f := by
  obtain ⟨g0, q, i, r, v, g1, g2, g3, g4, g5⟩ := hf
  refine ⟨fun hlt => hu _ _ (g0 hlt), q, i, r, v, g1, g2, g3, ?_, g5⟩
  unfold adrp at hk
  cases hT : anty nm f.1.1 with
  | none => rw [hT] at hk; cases hk
  | some T =>
    rw [hT] at hk
    simp only at hk
    have hτ : τ[q]? = some T := by
      by_cases hlt : f.1.1 < 1000
      · have := g0 hlt
        unfold anm at g1
        rw [bltT.mpr hlt] at g1
        cases g1
        unfold anty at hT
        rw [bltT.mpr hlt] at hT
        cases hT
        exact this
      · refine anty_ty hn hh hT ?_ g1
        rw [bltF.mpr (Nat.le_of_not_lt hlt)]
        rfl
    rw [hfr q T i hτ]
    · exact g4
    · cases hc : awc wl T i with
      | false => rfl
      | true =>
        obtain ⟨w, hw, h1⟩ := List.any_eq_true.mp hc
        simp only [Bool.and_eq_true] at h1
        have h9 : (wl.any (fun w => Nat.beq w.1 T && (!Nat.beq f.1.2.1 0 || (ile (Int.ofNat w.2.1) f.1.2.2 && ile f.1.2.2 (Int.ofNat w.2.2))))) = true := List.any_eq_true.mpr ⟨w, hw, by
          rw [h1.1]
          cases hz : Nat.beq f.1.2.1 0 with
          | false => rfl
          | true =>
            have e0 := Nat.eq_of_beq_eq_true hz
            rw [e0, hs] at g2
            cases g2
            have a1 := Nat.le_of_ble_eq_true h1.2.1
            have a2 := Nat.le_of_ble_eq_true h1.2.2
            have e1 : ile (Int.ofNat w.2.1) f.1.2.2 = true := ile_iff.mpr (by
              have : Int.ofNat w.2.1 = (w.2.1 : Int) := rfl
              omega)
            have e2 : ile f.1.2.2 (Int.ofNat w.2.2) = true := ile_iff.mpr (by
              have : Int.ofNat w.2.2 = (w.2.2 : Int) := rfl
              omega)
            rw [e1, e2]
            rfl⟩
        rw [h9] at hk
        cases hk
/-- an end of a contract -/
theorem aend_ok {args : List av} {vs : List zv} {ws : List (Nat × Int)} {pv : List Int} {τ' : List Nat} {h' : zh} {t' : Nat} {wl : aW} {S : aS} {en : aE} {o : zo} {k : (Option av ⊕ Nat) → aS → Option (List β)} (e : aend args ws wl S en k = some y) (hM9 : aM J τ0 h0 t0 S ρ ν τ h t) (hs : asM ρ ν args vs) (hw : ∀ (j : Nat) (w : Nat × Int), ws[j]? = some w → ∃ r : Int, ρ[w.1]? = some r ∧ pv[j]? = some (r + w.2)) (ha : ∀ m : Nat, (.inr (.inl m) : av) ∈ args → m < 1000 → τ[m]? = some m)
    (u3 : aup τ τ') (hh' : hM τ' h') (hJ' : J h') (hfr : aFr τ h wl h') (ht' : t' = t + en.2.1) (hc : cend τ' h' vs pv en o) : ∃ (q : Option av ⊕ Nat) (S' : aS) (ρ' : List Int) (ν' : List Nat), k q S' = some y ∧ aup ρ ρ' ∧ aup ν ν' ∧ aM J τ0 h0 t0 S' ρ' ν' τ' h' t' ∧ aoM ρ' ν' q o := by
  obtain ⟨sy, nm, fa, rl, wr, tc⟩ := S
  obtain ⟨ret, dt, rf, pf⟩ := en
  obtain ⟨m1, m2, m3, m4, ⟨m5, m6⟩, m7, m8, m9⟩ := hM9
  obtain ⟨c1, c2, c3⟩ := hc
  unfold aend at e
  simp only [filK_eq, frc_eq] at e
  obtain ⟨sy1, e1, s1⟩ := arfA_ok hs e m1 c2
  have hfb : ∀ f ∈ fa.filter (adrp nm wl), afM ρ ν τ' h' f := fun f hf => by
    obtain ⟨k1, k2⟩ := List.mem_filter.mp hf
    exact adrp_ok (wl9 := []) m2 m7 m1.1 (m3 f k1) k2 hfr u3
  obtain ⟨sy2, fc, rl2, ρ2, e2, u1, s2, f4, f5⟩ := apst_ok (fun m h1 h2 => u3 _ _ (ha m h1 h2)) e1 hs hw s1 hfb m4 c3
  have hn' : anam ν nm τ' := ⟨m2.1, fun j T hj => by
    obtain ⟨q, k1, k2⟩ := m2.2 j T hj
    exact ⟨q, k1, u3 _ _ k2⟩⟩
  have hfr' : aFr τ0 h0 (awad wr wl) h' := fun k9 T i hk hw9 => by
    obtain ⟨a1, a2⟩ := awad_ok hw9
    rw [hfr k9 T i (m5 _ _ hk) a2]
    exact m6 k9 T i hk a1
  have hM2 : aM J τ0 h0 t0 (sy2, nm, fc, rl2, awad wr wl, tc + dt) ρ2 ν τ' h' t' := ⟨s2, hn', f4, f5, ⟨aup_trans m5 u3, hfr'⟩, hh', hJ', by
    simp only at m9 ht' ⊢
    omega⟩
  rcases ret with (_ | (p | T | q9)) | x
  · cases o with
    | inl v =>
      cases v with
      | none => exact ⟨.inl none, _, ρ2, ν, e2, u1, aup_refl _, hM2, trivial⟩
      | some v => exact c1.elim
    | inr z => exact c1.elim
  · cases o with
    | inl v =>
      cases v with
      | none => exact c1.elim
      | some v =>
        obtain ⟨x, rfl, l1, l2⟩ := c1
        obtain ⟨w, sy3, ρ3, r3, e3, u4, s3, e4, e5⟩ := afr_ok e2 s2 l1 l2
        exact ⟨_, _, ρ3, ν, e3, aup_trans u1 u4, aup_refl _, aM_sy hM2 u4 s3, x, r3, rfl, e4, e5⟩
    | inr z => exact c1.elim
  · cases o with
    | inl v =>
      cases v with
      | none => exact c1.elim
      | some v =>
        obtain ⟨a, rfl, hta⟩ := c1
        obtain ⟨m, nm', ν', e3, e4, e5, e6⟩ := anw_ok e2 hn' hta (hh'.2.2.2 a T hta).1
        exact ⟨_, _, ρ2, ν', e3, u1, e4, aM_nm hM2 e4 e5, a, e6, rfl⟩
    | inr z => exact c1.elim
  · cases o with
    | inl v =>
      cases v with
      | none => exact c1.elim
      | some v => exact ⟨_, _, ρ2, ν, e2, u1, aup_refl _, hM2, c1⟩
    | inr z => exact c1.elim
  · cases o with
    | inl v => cases v <;> exact c1.elim
    | inr z =>
      have c1 : x = z := c1
      subst c1
      exact ⟨_, _, ρ2, ν, e2, u1, aup_refl _, hM2, rfl⟩
theorem aends_mem {args : List av} {ws : List (Nat × Int)} {wl : aW} {S : aS} {k : (Option av ⊕ Nat) → aS → Option (List β)} {en : aE} : ∀ {es : List aE} {y : List β}, aends args ws wl S k es = some y → en ∈ es → ∃ y' : List β, aend args ws wl S en k = some y' ∧ ∀ w ∈ y', w ∈ y
  | [], y, e, h => by cases h
  | f :: es, y, e, h => by
    have e : acat (aend args ws wl S f k) (aends args ws wl S k es) = some y := e
    obtain ⟨y1, y2, e1, e2, s1, s2⟩ := acat_ok e
    rcases List.mem_cons.mp h with rfl | h
    · exact ⟨y1, e1, s1⟩
    · obtain ⟨y', f1, f2⟩ := aends_mem e2 h
      exact ⟨y', f1, fun w hw => s2 w (f2 w hw)⟩
end CT
