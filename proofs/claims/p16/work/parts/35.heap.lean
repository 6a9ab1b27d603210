/-! slots: what they hold, what is put there -/
def acat {β : Type} (x y : Option (List β)) : Option (List β) := match x, y with
  | some a, some b => some (a ++ b)
  | _, _ => none
theorem acat_ok {β : Type} {x y : Option (List β)} {z : List β} (h : acat x y = some z) : ∃ a b : List β, x = some a ∧ y = some b ∧ (∀ w ∈ a, w ∈ z) ∧ ∀ w ∈ b, w ∈ z := by
  cases x with
  | none => cases h
  | some a => cases y with
    | none => cases h
    | some b =>
      cases h
      exact ⟨a, b, rfl, rfl, fun w hw => List.mem_append_left _ hw, fun w hw => List.mem_append_right _ hw⟩
noncomputable def atgt (sy : aI) (s : Nat) (rl : aR) : Int × Int → Int × Int := List.rec (motive := fun _ => Int × Int → Int × Int) (fun p => p) (fun f _ ih p => bif Nat.beq f.1 s then (match nth sy f.2.1 with
  | some q => ih (p.1, imin p.2 (q.2 + f.2.2))
  | none => ih p) else bif Nat.beq f.2.1 s then (match nth sy f.1 with
  | some q => ih (imax p.1 (q.1 - f.2.2), p.2)
  | none => ih p) else ih p) rl
theorem atgt_ok {ρ : List Int} {sy : aI} {s : Nat} {r : Int} (hs : asy ρ sy) (hr : ρ[s]? = some r) : ∀ (rl : aR) (p : Int × Int), (∀ f ∈ rl, arM ρ f) → p.1 ≤ r → r ≤ p.2 → (atgt sy s rl p).1 ≤ r ∧ r ≤ (atgt sy s rl p).2
  | [], p, _, h1, h2 => ⟨h1, h2⟩
  | f :: rl, p, hf, h1, h2 => by
    have ih := fun q => atgt_ok hs hr rl q (fun g hg => hf g (List.mem_cons_of_mem _ hg))
    show ((bif Nat.beq f.1 s then (match nth sy f.2.1 with
      | some q => atgt sy s rl (p.1, imin p.2 (q.2 + f.2.2))
      | none => atgt sy s rl p) else bif Nat.beq f.2.1 s then (match nth sy f.1 with
      | some q => atgt sy s rl (imax p.1 (q.1 - f.2.2), p.2)
      | none => atgt sy s rl p) else atgt sy s rl p : Int × Int)).1 ≤ r ∧ r ≤ ((bif Nat.beq f.1 s then (match nth sy f.2.1 with
      | some q => atgt sy s rl (p.1, imin p.2 (q.2 + f.2.2))
      | none => atgt sy s rl p) else bif Nat.beq f.2.1 s then (match nth sy f.1 with
      | some q => atgt sy s rl (imax p.1 (q.1 - f.2.2), p.2)
      | none => atgt sy s rl p) else atgt sy s rl p : Int × Int)).2
    obtain ⟨a, b, ea, eb, hl⟩ := hf f List.mem_cons_self
    cases c1 : Nat.beq f.1 s with
    | true =>
      have e1 := Nat.eq_of_beq_eq_true c1
      rw [e1, hr] at ea
      cases ea
      simp only [cond_true, nth_eq]
      cases hq : sy[f.2.1]? with
      | none => exact ih p h1 h2
      | some q =>
        obtain ⟨b', e2, e3, e4⟩ := hs.2.2 _ q hq
        rw [eb] at e2
        cases e2
        exact ih _ h1 (imin_le.mpr ⟨h2, by omega⟩)
    | false =>
      simp only [cond_false]
      cases c2 : Nat.beq f.2.1 s with
      | true =>
        have e1 := Nat.eq_of_beq_eq_true c2
        rw [e1, hr] at eb
        cases eb
        simp only [cond_true, nth_eq]
        cases hq : sy[f.1]? with
        | none => exact ih p h1 h2
        | some q =>
          obtain ⟨a', e2, e3, e4⟩ := hs.2.2 _ q hq
          rw [ea] at e2
          cases e2
          exact ih _ (imax_le.mpr ⟨h1, by omega⟩) h2
      | false => exact ih p h1 h2
noncomputable def aivr (sy : aI) (rl : aR) (v : Nat × Int) : Option (Int × Int) := match nth sy v.1 with
  | some p => some ((atgt sy v.1 rl p).1 + v.2, (atgt sy v.1 rl p).2 + v.2)
  | none => none
theorem aivr_ok {ρ : List Int} {sy : aI} {rl : aR} {v : Nat × Int} {r : Int} {p : Int × Int} (hs : asy ρ sy) (hf : ∀ f ∈ rl, arM ρ f) (e : aivr sy rl v = some p) (hr : ρ[v.1]? = some r) : p.1 ≤ r + v.2 ∧ r + v.2 ≤ p.2 := by
  unfold aivr at e
  simp only [nth_eq] at e
  cases hq : sy[v.1]? with
  | none => rw [hq] at e; cases e
  | some q =>
    rw [hq] at e
    cases e
    obtain ⟨r', e1, e2, e3⟩ := hs.2.2 _ q hq
    rw [hr] at e1
    cases e1
    have := atgt_ok hs hr rl q hf e2 e3
    simp only
    omega
def ahul (rs : List (Nat × qs)) (lo hi : Nat) : Option (Int × Int) := match rs with
  | [] => none
  | (u, .inl p) :: r => bif Nat.blt hi u then some p else bif Nat.blt lo u then (match ahul r lo hi with
    | some p' => some (imin p.1 p'.1, imax p.2 p'.2)
    | none => none) else ahul r lo hi
  | (_, .inr _) :: _ => none
theorem bltT {a b : Nat} : Nat.blt a b = true ↔ a < b := ⟨fun h => Nat.le_of_ble_eq_true h, fun h => Nat.ble_eq_true_of_le h⟩
theorem bltF {a b : Nat} : Nat.blt a b = false ↔ b ≤ a := by
  constructor
  · intro h
    rcases Nat.lt_or_ge a b with q | q
    · rw [bltT.mpr q] at h; cases h
    · exact q
  · intro h
    cases hb : Nat.blt a b with
    | false => rfl
    | true => have := bltT.mp hb; omega
theorem imin_l (a b : Int) : imin a b ≤ a ∧ imin a b ≤ b := imin_le.mp (Int.le_refl _)
theorem imax_l (a b : Int) : a ≤ imax a b ∧ b ≤ imax a b := imax_le.mp (Int.le_refl _)
theorem ahul_ok {lo hi i : Nat} {q : qs} (h1 : lo ≤ i) (h2 : i ≤ hi) : ∀ {rs : List (Nat × qs)} {p : Int × Int}, ahul rs lo hi = some p → srng rs i = some q → ∃ p' : Int × Int, q = .inl p' ∧ p.1 ≤ p'.1 ∧ p'.2 ≤ p.2
  | [], p, e, _ => by cases e
  | (u, .inr w) :: r, p, e, _ => by cases e
  | (u, .inl w) :: r, p, e, hq => by
    unfold ahul at e
    unfold srng at hq
    cases c1 : Nat.blt hi u with
    | true =>
      rw [c1] at e
      cases e
      have := bltT.mp c1
      rw [bltT.mpr (show i < u by omega)] at hq
      cases hq
      exact ⟨_, rfl, Int.le_refl _, Int.le_refl _⟩
    | false =>
      rw [c1] at e
      simp only [cond_false] at e
      cases c2 : Nat.blt lo u with
      | false =>
        rw [c2] at e
        have := bltF.mp c2
        rw [bltF.mpr (show u ≤ i by omega)] at hq
        exact ahul_ok h1 h2 (rs := r) e hq
      | true =>
        rw [c2] at e
        simp only [cond_true] at e
        cases hr : ahul r lo hi with
        | none => rw [hr] at e; cases e
        | some p' =>
          rw [hr] at e
          cases e
          have m1 := imin_l w.1 p'.1
          have m2 := imax_l w.2 p'.2
          cases c3 : Nat.blt i u with
          | true =>
            rw [c3] at hq
            cases hq
            exact ⟨_, rfl, m1.1, m2.1⟩
          | false =>
            rw [c3] at hq
            obtain ⟨p2, e1, e2, e3⟩ := ahul_ok h1 h2 (rs := r) hr hq
            exact ⟨p2, e1, Int.le_trans m1.2 e2, Int.le_trans e3 m2.2⟩
def asub (p q : Int × Int) : Bool := ile q.1 p.1 && ile p.2 q.2
theorem asub_ok {p q : Int × Int} (h : asub p q = true) : q.1 ≤ p.1 ∧ p.2 ≤ q.2 := by
  unfold asub at h
  simp only [Bool.and_eq_true, ile_iff] at h
  exact h
def achw (rs : List (Nat × qs)) (lo hi : Nat) (p : Int × Int) : Bool := match rs with
  | [] => true
  | (u, .inl q) :: r => (bif Nat.blt lo u then asub p q else true) && (bif Nat.blt hi u then true else achw r lo hi p)
  | (_, .inr _) :: _ => false
theorem achw_ok {lo hi i : Nat} {q : qs} {p : Int × Int} (h1 : lo ≤ i) (h2 : i ≤ hi) : ∀ {rs : List (Nat × qs)}, achw rs lo hi p = true → srng rs i = some q → ∃ p' : Int × Int, q = .inl p' ∧ p'.1 ≤ p.1 ∧ p.2 ≤ p'.2
  | [], _, hq => by cases hq
  | (u, .inr w) :: r, e, _ => by cases e
  | (u, .inl w) :: r, e, hq => by
    unfold achw at e
    unfold srng at hq
    simp only [Bool.and_eq_true] at e
    cases c3 : Nat.blt i u with
    | true =>
      rw [c3] at hq
      cases hq
      have := bltT.mp c3
      have e1 := e.1
      rw [bltT.mpr (show lo < u by omega)] at e1
      have := asub_ok e1
      exact ⟨_, rfl, this.1, this.2⟩
    | false =>
      rw [c3] at hq
      have := bltF.mp c3
      have e2 := e.2
      rw [bltF.mpr (show u ≤ hi by omega)] at e2
      exact achw_ok h1 h2 (rs := r) e2 hq
def aLen (t : qt) : Nat := match t with
  | .inl (_, L, _) => L
  | .inr (_, ss) => ss.length
/-- a slot that is no number -/
noncomputable def asl1 (t : qt) (lo hi : Nat) : Option qs := match t with
  | .inl (_, _, [(_, q)]) => some q
  | .inl _ => none
  | .inr (_, ss) => bif Nat.beq lo hi then nth ss lo else none
noncomputable def aslt (t : qt) (lo hi : Nat) : Option qs := match t with
  | .inl (tg, L, rs) => (match ahul rs lo hi with
    | some p => some (.inl p)
    | none => asl1 (.inl (tg, L, rs)) lo hi)
  | .inr ss => asl1 (.inr ss) lo hi
/-- what a slot of a cell of this type may hold -/
def aslq (t : qt) (i : Nat) : Option qs := match t with
  | .inl (_, _, rs) => srng rs i
  | .inr (_, ss) => ss[i]?
theorem asl1_ok {t : qt} {lo hi i : Nat} {q q' : qs} (h1 : lo ≤ i) (h2 : i ≤ hi) (e : asl1 t lo hi = some q) (hq : aslq t i = some q') : q' = q := by
  unfold asl1 at e
  split at e
  · rename_i u w
    cases e
    unfold aslq srng at hq
    simp only at hq
    cases c : Nat.blt i u with
    | true => rw [c] at hq; cases hq; rfl
    | false => rw [c] at hq; cases hq
  · cases e
  · rename_i ss
    cases c : Nat.beq lo hi with
    | false => rw [c] at e; cases e
    | true =>
      rw [c] at e
      have e1 := Nat.eq_of_beq_eq_true c
      have e2 : i = lo := by omega
      subst e2
      simp only [cond_true, nth_eq] at e
      unfold aslq at hq
      simp only at hq
      rw [e] at hq
      cases hq
      rfl
theorem aslt_ok {τ : List Nat} {t : qt} {lo hi i : Nat} {q q' : qs} {v : zv} (h1 : lo ≤ i) (h2 : i ≤ hi) (e : aslt t lo hi = some q) (hq : aslq t i = some q') (hv : tyv τ q' v) : tyv τ q v := by
  unfold aslt at e
  split at e
  · rename_i tg L rs
    split at e
    · rename_i p hp
      cases e
      obtain ⟨p', rfl, e1, e2⟩ := ahul_ok h1 h2 hp hq
      obtain ⟨x, e3, e4, e5⟩ := hv
      exact ⟨x, e3, Int.le_trans e1 e4, Int.le_trans e5 e2⟩
    · rw [← asl1_ok h1 h2 e hq]
      exact hv
  · rw [← asl1_ok h1 h2 e hq]
    exact hv
def cfs (c : zc) : List zv := match c with
  | .inl (_, fs) => fs
  | .inr (_, fs) => fs
def cset (c : zc) (i : Nat) (v : zv) : zc := match c with
  | .inl (tg, fs) => .inl (tg, fs.set i v)
  | .inr (ci, fs) => .inr (ci, fs.set i v)
/-- a cell of a type: its slots -/
theorem tyc_slot {τ : List Nat} {T i : Nat} {t : qt} {c : zc} (ht : atyp T = some t) (hc : tyc τ T c) (hi : i < aLen t) : ∃ (v : zv) (q : qs), (cfs c)[i]? = some v ∧ aslq t i = some q ∧ tyv τ q v := by
  unfold tyc at hc
  rw [ht] at hc
  rcases t with ⟨tg, L, rs⟩ | ⟨ci, ss⟩
  · rcases c with ⟨tg', fs⟩ | ⟨ci', fs⟩
    · obtain ⟨e1, e2, e3⟩ := hc
      have hl : i < fs.length := by rw [e2]; exact hi
      obtain ⟨q, e4, e5⟩ := e3 i _ (List.getElem?_eq_getElem hl)
      exact ⟨_, q, List.getElem?_eq_getElem hl, e4, e5⟩
    · exact hc.elim
  · rcases c with ⟨tg', fs⟩ | ⟨ci', fs⟩
    · exact hc.elim
    · obtain ⟨e1, e2, e3⟩ := hc
      have hl : i < fs.length := by rw [e2]; exact hi
      obtain ⟨q, e4, e5⟩ := e3 i _ (List.getElem?_eq_getElem hl)
      exact ⟨_, q, List.getElem?_eq_getElem hl, e4, e5⟩
/-- an index, between two -/
noncomputable def aixK {β : Type} (sy : aI) (rl : aR) (ix : Nat × Int) (k : Nat → Int → Nat → Nat → Option β) : Option β := match anrm sy (.inl ix) with
  | .inl w => (match aivr sy rl w with
    | some (.ofNat lo, .ofNat hi) => frc lo (fun lo => frc hi (fun hi => k w.1 w.2 lo hi))
    | _ => none)
  | _ => none
theorem aixK_ok {β : Type} {ρ : List Int} {sy : aI} {rl : aR} {ix : Nat × Int} {r : Int} {k : Nat → Int → Nat → Nat → Option β} {y : β} (e : aixK sy rl ix k = some y) (hs : asy ρ sy) (hf : ∀ f ∈ rl, arM ρ f) (hr : ρ[ix.1]? = some r) : ∃ (s : Nat) (c rs : Int) (lo hi i : Nat), k s c lo hi = some y ∧ ρ[s]? = some rs ∧ rs + c = r + ix.2 ∧ r + ix.2 = (i : Int) ∧ lo ≤ i ∧ i ≤ hi := by
  unfold aixK at e
  obtain ⟨w, hw⟩ := anrm_I (sy := sy) (s := ix.1) (c := ix.2)
  have hw : anrm sy (.inl ix) = .inl w := hw
  rw [hw] at e
  simp only at e
  have hm : ∃ rs : Int, ρ[w.1]? = some rs ∧ rs + w.2 = r + ix.2 := by
    obtain ⟨p, hp, -⟩ := aiv_some (c := 0) hs hr
    obtain ⟨r', q1, q2, q3⟩ := hs.2.2 _ p hp
    rw [hr] at q1
    cases q1
    have hw2 := hw
    unfold anrm at hw2
    simp only [nth_eq, hp, frcZ_eq] at hw2
    cases hq : ieq p.1 p.2 with
    | true =>
      rw [hq] at hw2
      have e9 := Sum.inl.inj hw2
      subst e9
      have := ieq_iff.mp hq
      exact ⟨0, hs.1, by simp only; omega⟩
    | false =>
      rw [hq] at hw2
      have e9 := Sum.inl.inj hw2
      subst e9
      exact ⟨r, hr, rfl⟩
  obtain ⟨rs, hr1, hr2⟩ := hm
  split at e
  · rename_i lo hi ho
    simp only [frc_eq] at e
    have := aivr_ok hs hf ho hr1
    simp only at this
    obtain ⟨i, hi9⟩ : ∃ i : Nat, rs + w.2 = (i : Int) := ⟨(rs + w.2).toNat, by
      have : (0 : Int) ≤ rs + w.2 := Int.le_trans (Int.natCast_nonneg lo) this.1
      omega⟩
    refine ⟨w.1, w.2, rs, lo, hi, i, e, hr1, hr2, by omega, ?_, ?_⟩
    · have := this.1
      rw [hi9] at this
      exact Int.ofNat_le.mp this
    · have := this.2
      rw [hi9] at this
      exact Int.ofNat_le.mp this
  · cases e
