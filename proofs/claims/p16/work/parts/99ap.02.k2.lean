/-! ALIKE: told one by one, forth and back -/
abbrev mp2 : Type := (Int → Int) × (Int → Int)
def up1 (f : Int → Int) (x v : Int) : Int → Int := fun z => if z = x then v else f z
theorem up1_at {f : Int → Int} {x v : Int} : up1 f x v x = v := if_pos rfl
theorem up1_ne {f : Int → Int} {x v z : Int} (h : z ≠ x) : up1 f x v z = f z := if_neg h
def tlS (m : mp2) (x y : Int) : mp2 := if m.1 x = -1 ∧ m.2 y = -1 then (up1 m.1 x y, up1 m.2 y x) else m
def tlO (x y : Int) (m : mp2) : Option mp2 := if (tlS m x y).1 x = y ∧ (tlS m x y).2 y = x then some (tlS m x y) else none
def tlI (p q : it4) (m : mp2) : Option mp2 := if p.1 = q.1 then (tlO p.2.1 q.2.1 m).bind (fun m => (tlO p.2.2.1 q.2.2.1 m).bind (tlO p.2.2.2 q.2.2.2)) else none
def tlR : List it4 → List it4 → mp2 → Option mp2
  | [], [], m => some m
  | p :: P, q :: Q, m => (tlI p q m).bind (tlR P Q)
  | [], _ :: _, _ => none
  | _ :: _, [], _ => none
def mp0 : mp2 := (fun z => if z = 0 then 0 else -1, fun z => if z = 0 then 0 else -1)
def akM (s s' : sqT) : Option mp2 := (tlR s.1 s'.1 mp0).bind (fun m => (tlR s.2.1 s'.2.1 m).bind (tlR s.2.2.1 s'.2.2.1))
def akQ (s s' : sqT) : Prop := pD s.2.2.2 = pD s'.2.2.2 ∧ ∃ m, akM s s' = some m ∧ ∀ x y, s.2.2.2 x y → s'.2.2.2 (m.1 x) (m.1 y)
theorem tlO_new {x y : Int} {m : mp2} (h : m.1 x = -1 ∧ m.2 y = -1) : tlO x y m = some (up1 m.1 x y, up1 m.2 y x) := by
  have e : tlS m x y = (up1 m.1 x y, up1 m.2 y x) := if_pos h
  unfold tlO
  rw [e]
  exact if_pos ⟨up1_at, up1_at⟩
theorem tlO_old {x y : Int} {m : mp2} (h : ¬ (m.1 x = -1 ∧ m.2 y = -1)) (a : m.1 x = y) (b : m.2 y = x) : tlO x y m = some m := by
  have e : tlS m x y = m := if_neg h
  unfold tlO
  rw [e]
  exact if_pos ⟨a, b⟩
theorem tlO_no {x y : Int} {m : mp2} (h : ¬ (m.1 x = -1 ∧ m.2 y = -1)) (a : ¬ (m.1 x = y ∧ m.2 y = x)) : tlO x y m = none := by
  have e : tlS m x y = m := if_neg h
  unfold tlO
  rw [e]
  exact if_neg a
theorem drp_c {l : List it4} {i : Nat} {p : it4} (h : l[i]? = some p) : l.drop i = p :: l.drop (i + 1) := by
  obtain ⟨h1, h2⟩ := List.getElem?_eq_some_iff.mp h
  rw [List.drop_eq_getElem_cons h1, h2]
theorem tlI_k {p q : it4} {m : mp2} (h : ¬ p.1 = q.1) : tlI p q m = none := if_neg h
theorem tlI_1 {p q : it4} {m : mp2} (h : p.1 = q.1) (a : tlO p.2.1 q.2.1 m = none) : tlI p q m = none := by
  unfold tlI
  rw [if_pos h, a]
  rfl
theorem tlI_2 {p q : it4} {m m1 : mp2} (h : p.1 = q.1) (a : tlO p.2.1 q.2.1 m = some m1) (b : tlO p.2.2.1 q.2.2.1 m1 = none) : tlI p q m = none := by
  unfold tlI
  rw [if_pos h, a]
  show (tlO p.2.2.1 q.2.2.1 m1).bind (tlO p.2.2.2 q.2.2.2) = none
  rw [b]
  rfl
theorem tlI_3 {p q : it4} {m m1 m2 : mp2} {r : Option mp2} (h : p.1 = q.1) (a : tlO p.2.1 q.2.1 m = some m1) (b : tlO p.2.2.1 q.2.2.1 m1 = some m2) (c : tlO p.2.2.2 q.2.2.2 m2 = r) : tlI p q m = r := by
  unfold tlI
  rw [if_pos h, a]
  show (tlO p.2.2.1 q.2.2.1 m1).bind (tlO p.2.2.2 q.2.2.2) = r
  rw [b]
  exact c
theorem tlR_n {P Q : List it4} {i : Nat} {p q : it4} {m : mp2} (hp : P[i]? = some p) (hq : Q[i]? = some q) (h : tlI p q m = none) : tlR (P.drop i) (Q.drop i) m = none := by
  rw [drp_c hp, drp_c hq]
  show (tlI p q m).bind (tlR (P.drop (i + 1)) (Q.drop (i + 1))) = none
  rw [h]
  rfl
theorem tlR_s {P Q : List it4} {i : Nat} {p q : it4} {m m1 : mp2} (hp : P[i]? = some p) (hq : Q[i]? = some q) (h : tlI p q m = some m1) : tlR (P.drop i) (Q.drop i) m = tlR (P.drop (i + 1)) (Q.drop (i + 1)) m1 := by
  rw [drp_c hp, drp_c hq]
  show (tlI p q m).bind (tlR (P.drop (i + 1)) (Q.drop (i + 1))) = _
  rw [h]
  rfl
theorem tlR_e {P Q : List it4} {i : Nat} {m : mp2} (hp : P.length ≤ i) (hq : Q.length ≤ i) : tlR (P.drop i) (Q.drop i) m = some m := by
  rw [List.drop_eq_nil_of_le hp, List.drop_eq_nil_of_le hq]
  rfl
theorem tlR_ne : ∀ {P Q : List it4} {m : mp2}, P.length ≠ Q.length → tlR P Q m = none
  | [], [], _, h => absurd rfl h
  | [], _ :: _, _, _ => rfl
  | _ :: _, [], _, _ => rfl
  | p :: P, q :: Q, m, h => by
    show (tlI p q m).bind (tlR P Q) = none
    cases tlI p q m with
    | none => rfl
    | some m1 => exact tlR_ne (m := m1) (fun e => h (by simp only [List.length_cons, e]))
theorem tlR_len {P Q : List it4} {m m' : mp2} (h : tlR P Q m = some m') : P.length = Q.length := Decidable.byContradiction (fun n => by
  rw [tlR_ne n] at h
  cases h)
theorem tlR_0 {P Q : List it4} {m : mp2} : tlR P Q m = tlR (P.drop 0) (Q.drop 0) m := rfl
/-- 0 is told by 0 all along -/
def mpZ (m : mp2) : Prop := m.1 0 = 0 ∧ m.2 0 = 0
theorem mpZ_S {m : mp2} {x y : Int} (z : mpZ m) : mpZ (tlS m x y) := by
  unfold tlS
  by_cases h : m.1 x = -1 ∧ m.2 y = -1
  · rw [if_pos h]
    obtain ⟨z1, z2⟩ := z
    refine ⟨?_, ?_⟩
    · show up1 m.1 x y 0 = 0
      by_cases q : (0 : Int) = x
      · subst q
        omega
      · rw [up1_ne q]
        exact z1
    · show up1 m.2 y x 0 = 0
      by_cases q : (0 : Int) = y
      · subst q
        omega
      · rw [up1_ne q]
        exact z2
  · rw [if_neg h]
    exact z
theorem mpZ_O {m m' : mp2} {x y : Int} (z : mpZ m) (h : tlO x y m = some m') : mpZ m' := by
  unfold tlO at h
  split at h
  · cases h
    exact mpZ_S z
  · cases h
theorem tlO_0 {m : mp2} (z : mpZ m) : tlO 0 0 m = some m := tlO_old (fun q => by have := z.1; omega) z.1 z.2
theorem mpZ_I {p q : it4} {m m' : mp2} (z : mpZ m) (h : tlI p q m = some m') : mpZ m' := by
  unfold tlI at h
  split at h
  · cases h1 : tlO p.2.1 q.2.1 m with
    | none => rw [h1] at h; cases h
    | some m1 =>
      rw [h1] at h
      have h : (tlO p.2.2.1 q.2.2.1 m1).bind (tlO p.2.2.2 q.2.2.2) = some m' := h
      cases h2 : tlO p.2.2.1 q.2.2.1 m1 with
      | none => rw [h2] at h; cases h
      | some m2 =>
        rw [h2] at h
        exact mpZ_O (mpZ_O (mpZ_O z h1) h2) h
  · cases h
theorem mpZ_0 : mpZ mp0 := ⟨(if_pos rfl : (if (0 : Int) = 0 then (0 : Int) else -1) = 0), (if_pos rfl : (if (0 : Int) = 0 then (0 : Int) else -1) = 0)⟩
theorem mpZ_R : ∀ {P Q : List it4} {m m' : mp2}, mpZ m → tlR P Q m = some m' → mpZ m'
  | [], [], m, m', z, h => by
    have h : some m = some m' := h
    cases h
    exact z
  | [], _ :: _, _, _, _, h => by cases h
  | _ :: _, [], _, _, _, h => by cases h
  | p :: P, q :: Q, m, m', z, h => by
    have h : (tlI p q m).bind (tlR P Q) = some m' := h
    cases h1 : tlI p q m with
    | none => rw [h1] at h; cases h
    | some m1 =>
      rw [h1] at h
      exact mpZ_R (mpZ_I z h1) h
-- the way to a sequent: who came ahead of it, and whether a cell or pair has gone since
def lst_ (e : enT) : Prop := e.2.1 = 4 ∨ e.2.1 = 5 ∨ (e.2.1 = 3 ∧ (gq_ e).1 ≤ 1)
def cyG (L : List enT) (x : sqT) : Nat → Int → Prop → Prop
  | 0, _, _ => False
  | f + 1, i, g => ∃ e, 0 ≤ i ∧ L[i.toNat]? = some e ∧ (((g ∨ lst_ e) ∧ akQ e.1 x) ∨ cyG L x f e.2.2.2.2.2 (g ∨ lst_ e))
def cyP : cyT := fun L i x => cyG L x 40 i False
theorem cyG_neg {L : List enT} {x : sqT} {g : Prop} : ∀ {f : Nat} {i : Int}, i < 0 → ¬ cyG L x f i g
  | 0, _, _, h => h
  | f + 1, i, h, q => by
    obtain ⟨e, q1, -⟩ := q
    omega
theorem cyG_s {L : List enT} {x : sqT} {f : Nat} {i : Nat} {g : Prop} {e : enT} (ke : L[i]? = some e) : cyG L x (f + 1) (i : Int) g ↔ (((g ∨ lst_ e) ∧ akQ e.1 x) ∨ cyG L x f e.2.2.2.2.2 (g ∨ lst_ e)) := by
  constructor
  · rintro ⟨e', -, q2, q3⟩
    rw [show ((i : Int)).toNat = i by omega, ke] at q2
    cases q2
    exact q3
  · intro q
    exact ⟨e, by omega, by rw [show ((i : Int)).toNat = i by omega]; exact ke, q⟩
theorem cyG_cg {L : List enT} {x : sqT} : ∀ {f : Nat} {i : Int} {g g' : Prop}, (g ↔ g') → (cyG L x f i g ↔ cyG L x f i g')
  | _, _, _, _, h => by rw [propext h]
/-- each comes of one ahead of it, one place less in its row -/
def chI (L : List enT) : Prop := ∀ (k : Nat) (e : enT), L[k]? = some e → (e.2.2.2.2.2 = -1 ∧ e.2.2.2.2.1 = 1) ∨ ∃ (i : Nat) (e' : enT), e.2.2.2.2.2 = (i : Int) ∧ i < k ∧ L[i]? = some e' ∧ e.2.2.2.2.1 = e'.2.2.2.2.1 + 1 ∧ 3 ≤ e'.2.1 ∧ e'.2.1 ≤ 8
theorem chI_app {L : List enT} {E e : enT} {i : Nat} (c : chI L) (ke : L[i]? = some e) (hp : E.2.2.2.2.2 = (i : Int)) (hr : E.2.2.2.2.1 = e.2.2.2.2.1 + 1) (h3 : 3 ≤ e.2.1) (h8 : e.2.1 ≤ 8) : chI (L ++ [E]) := fun k e' hk => by
  rcases sn_cs hk with hk | ⟨rfl, rfl⟩
  · rcases c k e' hk with q | ⟨j, e9, q1, q2, q3, q4⟩
    · exact Or.inl q
    · exact Or.inr ⟨j, e9, q1, q2, sn_old q3, q4⟩
  · exact Or.inr ⟨i, e, hp, (List.getElem?_eq_some_iff.mp ke).1, sn_old ke, hr, h3, h8⟩
theorem chI_1 {E : enT} (h1 : E.2.2.2.2.2 = -1) (h2 : E.2.2.2.2.1 = 1) : chI [E] := fun k e hk => by
  have e9 : E = e := by
    cases k with
    | zero => cases hk; rfl
    | succ k => cases hk
  subst e9
  exact Or.inl ⟨h1, h2⟩
