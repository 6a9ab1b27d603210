/-! a proof's run: what comes, one by one -/
abbrev enT : Type := sqT × Nat × Nat × Nat × Nat × Int
/-- a sequent that comes: what it is READY, its STEP, by which parts, its place in the row, what it comes of -/
def setR (c : sqT → Prop) (lv : Bool) (s : sqT) (i : Int) (row : Nat) (e : enT) : Prop := e.2.2.2.2.1 = row ∧ e.2.2.2.2.2 = i ∧ ((RdY s none ∧ e.2.1 = 0) ∨ ∃ x, RdY s (some x) ∧ e.1 = x ∧ ((c x ∧ e.2.1 = 1) ∨ (¬ c x ∧ dn_ lv x ∧ e.2.1 = 2) ∨ (¬ c x ∧ ¬ dn_ lv x ∧ fnd_ x e.2.1 e.2.2.1 e.2.2.2.1)))
def agE (e e' : enT) : Prop := e.2.1 = e'.2.1 ∧ e.2.2.2.2 = e'.2.2.2.2 ∧ (e.2.1 ≠ 0 → e.1 = e'.1) ∧ (3 ≤ e.2.1 → e.2.1 ≤ 8 → e.2.2.1 = e'.2.2.1) ∧ (3 ≤ e.2.1 → e.2.1 ≤ 7 → e.2.2.2.1 = e'.2.2.2.1)
theorem fnd_b {s : sqT} {st r l : Nat} (h : fnd_ s st r l) : 3 ≤ st ∧ st ≤ 9 := by
  rcases h with ⟨h1, h2, -⟩ | ⟨e, -⟩ | ⟨e, -⟩ <;> omega
theorem set_one {c : sqT → Prop} {lv : Bool} {s : sqT} {i : Int} {row : Nat} {e e' : enT} (ok : okS s) (a : setR c lv s i row e) (b : setR c lv s i row e') : agE e e' := by
  obtain ⟨a1, a2, a3⟩ := a
  obtain ⟨b1, b2, b3⟩ := b
  have rw_ : e.2.2.2.2 = e'.2.2.2.2 := Prod.ext (a1.trans b1.symm) (a2.trans b2.symm)
  rcases a3 with ⟨r, a3⟩ | ⟨x, r, a4, a5⟩
  · rcases b3 with ⟨r', b3⟩ | ⟨x', r', -, -⟩
    · exact ⟨a3.trans b3.symm, rw_, fun q => absurd a3 q, fun q => by omega, fun q => by omega⟩
    · have := RdY_one ok r r'
      cases this
  · rcases b3 with ⟨r', b3⟩ | ⟨x', r', b4, b5⟩
    · have := RdY_one ok r r'
      cases this
    · have e9 := RdY_one ok r r'
      cases e9
      have es : e.1 = e'.1 := a4.trans b4.symm
      rcases a5 with ⟨k1, k2⟩ | ⟨k0, k1, k2⟩ | ⟨k0, k1, k2⟩
      · rcases b5 with ⟨m1, m2⟩ | ⟨m0, m1, m2⟩ | ⟨m0, m1, m2⟩
        · exact ⟨k2.trans m2.symm, rw_, fun _ => es, fun q => by omega, fun q => by omega⟩
        · exact absurd k1 m0
        · exact absurd k1 m0
      · rcases b5 with ⟨m1, m2⟩ | ⟨m0, m1, m2⟩ | ⟨m0, m1, m2⟩
        · exact absurd m1 k0
        · exact ⟨k2.trans m2.symm, rw_, fun _ => es, fun q => by omega, fun q => by omega⟩
        · exact absurd k1 m1
      · rcases b5 with ⟨m1, m2⟩ | ⟨m0, m1, m2⟩ | ⟨m0, m1, m2⟩
        · exact absurd m1 k0
        · exact absurd m1 k1
        · obtain ⟨f1, f2, f3⟩ := fnd_one k2 m2
          exact ⟨f1, rw_, fun _ => es, fun _ => f2, fun _ => f3⟩
abbrev cyT : Type := List enT → Int → sqT → Prop
noncomputable def setF (cy : cyT) (lv : Bool) (L : List enT) (s : sqT) (i : Int) (row : Nat) : enT := Classical.epsilon (setR (cy L i) lv s i row)
theorem setF_ag {cy : cyT} {lv : Bool} {L : List enT} {s : sqT} {i : Int} {row : Nat} {e : enT} (ok : okS s) (a : setR (cy L i) lv s i row e) : setR (cy L i) lv s i row (setF cy lv L s i row) ∧ agE e (setF cy lv L s i row) := by
  have h := Classical.epsilon_spec (p := setR (cy L i) lv s i row) ⟨e, a⟩
  exact ⟨h, set_one ok a h⟩
def gp_ (e : enT) : it4 := (e.1.2.1[e.2.2.1]?).getD (0, 0, 0, 0)
def gq_ (e : enT) : it4 := (e.1.1[e.2.2.2.1]?).getD (0, 0, 0, 0)
/-- one more comes, if it is not TOO MUCH -/
noncomputable def brF (cy : cyT) (lv : Bool) (L : List enT) (i : Nat) (w : Bool) : Option enT :=
  match L[i]? with
  | none => none
  | some e => if 300 ≤ L.length ∨ 40 ≤ e.2.2.2.2.1 then none else match nxF e.1 e.2.1 (gp_ e) (gq_ e) e.2.2.1 e.2.2.2.1 w with
    | none => none
    | some s => if 12 < s.1.length ∨ 12 < s.2.1.length ∨ 12 < s.2.2.1.length then none else some (setF cy lv L s (i : Int) (e.2.2.2.2.1 + 1))
/-- what is still to come, once one has -/
def toF (e : enT) (n : Nat) (T : List (Nat × Bool)) : List (Nat × Bool) := if e.2.1 ≤ 2 then T else (n, false) :: (if e.2.1 = 6 ∨ e.2.1 = 7 then (n, true) :: T else T)
noncomputable def runF (cy : cyT) (lv : Bool) : Nat → List enT → List (Nat × Bool) → List enT × Nat
  | 0, L, _ => (L, 3)
  | _ + 1, L, [] => (L, 1)
  | f + 1, L, (i, w) :: T => match brF cy lv L i w with
    | none => (L, 2)
    | some e => if e.2.1 = 9 then (L ++ [e], 0) else runF cy lv f (L ++ [e]) (toF e L.length T)
/-- from one that has just come -/
noncomputable def conF (cy : cyT) (lv : Bool) (f : Nat) (L : List enT) (e : enT) (T : List (Nat × Bool)) : List enT × Nat := if e.2.1 = 9 then (L ++ [e], 0) else runF cy lv f (L ++ [e]) (toF e L.length T)
theorem run_br {cy : cyT} {lv : Bool} {f : Nat} {L : List enT} {i : Nat} {w : Bool} {T : List (Nat × Bool)} {e : enT} (h : brF cy lv L i w = some e) : runF cy lv (f + 1) L ((i, w) :: T) = conF cy lv f L e T := by
  show (match brF cy lv L i w with
    | none => (L, 2)
    | some e => if e.2.1 = 9 then (L ++ [e], 0) else runF cy lv f (L ++ [e]) (toF e L.length T)) = _
  rw [h]
  rfl
theorem run_no {cy : cyT} {lv : Bool} {f : Nat} {L : List enT} {i : Nat} {w : Bool} {T : List (Nat × Bool)} (h : brF cy lv L i w = none) : runF cy lv (f + 1) L ((i, w) :: T) = (L, 2) := by
  show (match brF cy lv L i w with
    | none => (L, 2)
    | some e => if e.2.1 = 9 then (L ++ [e], 0) else runF cy lv f (L ++ [e]) (toF e L.length T)) = _
  rw [h]
noncomputable def prfF (cy : cyT) (lv : Bool) (b : bsT) : List enT × Nat := conF cy lv 300 [] (setF cy lv [] (bgA b) (-1) 1) []
def dns (L : List enT) : Nat := L.countP (fun e => decide (e.2.1 = 2))
theorem dns_app {L : List enT} {e : enT} : dns (L ++ [e]) = dns L + (if e.2.1 = 2 then 1 else 0) := by
  unfold dns
  rw [List.countP_append]
  by_cases q : e.2.1 = 2
  · rw [if_pos q, List.countP_cons_of_pos (by exact decide_eq_true q)]
    rfl
  · rw [if_neg q, List.countP_cons_of_neg (by rw [decide_eq_true_eq]; exact q)]
    rfl
/-- sizes of what is READY -/
theorem stp_len {s x : sqT} (h : stp1 s x) : x.1.length ≤ s.1.length ∧ x.2.1.length ≤ s.2.1.length ∧ x.2.2.1.length ≤ s.2.2.1.length := by
  rcases h with ⟨k, q, -, -, e⟩ | ⟨a, b, -, e⟩ | ⟨-, k, q, -, -, e⟩ | ⟨-, k, c, -, -, e⟩ | ⟨-, D, -, -, e⟩
  · subst e
    exact ⟨(List.eraseIdx_sublist _ _).length_le, Nat.le_refl _, Nat.le_refl _⟩
  · subst e
    unfold mkQ
    simp only [List.length_map]
    exact ⟨Nat.le_refl _, Nat.le_refl _, Nat.le_refl _⟩
  · subst e
    exact ⟨Nat.le_refl _, (List.eraseIdx_sublist _ _).length_le, Nat.le_refl _⟩
  · subst e
    exact ⟨Nat.le_refl _, Nat.le_refl _, (List.eraseIdx_sublist _ _).length_le⟩
  · subst e
    exact ⟨Nat.le_refl _, Nat.le_refl _, Nat.le_refl _⟩
theorem sts_len : ∀ {l : List sqT} {s x : sqT}, sts s l x → x.1.length ≤ s.1.length ∧ x.2.1.length ≤ s.2.1.length ∧ x.2.2.1.length ≤ s.2.2.1.length
  | [], s, x, h => by
    rw [show s = x from h]
    exact ⟨Nat.le_refl _, Nat.le_refl _, Nat.le_refl _⟩
  | y :: l, s, x, h => by
    have h1 := stp_len h.2.1
    have h2 := sts_len h.2.2
    exact ⟨Nat.le_trans h2.1 h1.1, Nat.le_trans h2.2.1 h1.2.1, Nat.le_trans h2.2.2 h1.2.2⟩
theorem Rd_big {s x : sqT} (h : RdY s (some x)) (nb : ¬ big_ s) : ¬ big_ x := by
  obtain ⟨l, h, -⟩ := h
  have h1 := sts_len h
  rintro (q | q | q)
  · exact nb (Or.inl (by omega))
  · exact nb (Or.inr (Or.inl (by omega)))
  · exact nb (Or.inr (Or.inr (by omega)))
theorem fnd_it {s : sqT} {st r l : Nat} (h : fnd_ s st r l) (h8 : st ≤ 8) : ∃ p, s.2.1[r]? = some p ∧ (st ≤ 7 → ∃ q, s.1[l]? = some q ∧ ftq_ s st p q) := by
  rcases h with ⟨h1, h2, -, ⟨p, q, e1, e2, f⟩, -⟩ | ⟨e, -, ⟨p, e1, -⟩, -⟩ | ⟨e, -⟩
  · exact ⟨p, e1, fun _ => ⟨q, e2, f⟩⟩
  · exact ⟨p, e1, fun q => absurd q (by omega)⟩
  · omega
