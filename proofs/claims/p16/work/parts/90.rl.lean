/-! what both sides tell, and what they told ahead: in the class's cells and in the model's -/
abbrev sdT : Type := List it4 × List it4
abbrev bsT : Type := sdT × sdT
def rfs (h : zh) (a j v : Nat) : Prop := hsl h a j = some (.inl (some v))
def ci_ (h : zh) (a j n : Nat) : Prop := ∃ x : Int32, hsl h a j = some (zi x) ∧ x.toInt = (n : Int)
theorem rfs_up {h h1 : zh} {a j v : Nat} (r : rfs h a j v) (e : hsl h1 a j = hsl h a j) : rfs h1 a j v := e.trans r
theorem ci_up {h h1 : zh} {a j n : Nat} (r : ci_ h a j n) (e : hsl h1 a j = hsl h a j) : ci_ h1 a j n := by
  obtain ⟨x, a, b⟩ := r
  exact ⟨x, e.trans a, b⟩
/-- a side's rows stand behind it -/
def laS (h : zh) (s : Nat) : Prop := rfs h s 0 (s + 1) ∧ rfs h s 1 (s + 3) ∧ rfs h (s + 1) 0 (s + 2) ∧ rfs h (s + 3) 0 (s + 4)
def sdC (h : zh) (s : Nat) (q : sdT) : Prop := rwC h (s + 1) (s + 2) q.1 ∧ rwC h (s + 3) (s + 4) q.2
def bsC (h : zh) (a u v : Nat) (b : bsT) : Prop := rfs h a 0 (a + u) ∧ rfs h a 1 (a + v) ∧ sdC h (a + u) b.1 ∧ sdC h (a + v) b.2
def uv_ (u v : Nat) : Prop := (u = 1 ∧ v = 6) ∨ (u = 6 ∧ v = 1)
def layC (h : zh) (a : Nat) : Prop := laS h (a + 1) ∧ laS h (a + 6)
theorem laS_up {h h1 : zh} {s : Nat} (l : laS h s) (e : ∀ k j, (k = s ∨ ((k = s + 1 ∨ k = s + 3) ∧ j = 0)) → hsl h1 k j = hsl h k j) : laS h1 s :=
  ⟨rfs_up l.1 (e _ _ (by omega)), rfs_up l.2.1 (e _ _ (by omega)), rfs_up l.2.2.1 (e _ _ (by omega)), rfs_up l.2.2.2 (e _ _ (by omega))⟩
theorem sdC_up {h h1 : zh} {s : Nat} {q : sdT} (l : sdC h s q) (e : ∀ k j, s < k → k < s + 5 → hsl h1 k j = hsl h k j) : sdC h1 s q :=
  ⟨rwC_up l.1 (e _ _ (by omega) (by omega)) (fun j => e _ _ (by omega) (by omega)), rwC_up l.2 (e _ _ (by omega) (by omega)) (fun j => e _ _ (by omega) (by omega))⟩
theorem layC_up {h h1 : zh} {a : Nat} (l : layC h a) (e : ∀ k j, a < k → k < a + 11 → hsl h1 k j = hsl h k j) : layC h1 a :=
  ⟨laS_up l.1 (fun k j h1 => e k j (by omega) (by omega)), laS_up l.2 (fun k j h1 => e k j (by omega) (by omega))⟩
theorem bsC_up {h h1 : zh} {a u v : Nat} {b : bsT} (hu : uv_ u v) (l : bsC h a u v b) (e : ∀ k j, a ≤ k → k < a + 11 → hsl h1 k j = hsl h k j) : bsC h1 a u v b := by
  unfold uv_ at hu
  exact ⟨rfs_up l.1 (e _ _ (by omega) (by omega)), rfs_up l.2.1 (e _ _ (by omega) (by omega)), sdC_up l.2.2.1 (fun k j h1 h2 => e k j (by omega) (by omega)), sdC_up l.2.2.2 (fun k j h1 h2 => e k j (by omega) (by omega))⟩
def tyS (τ : List Nat) (s : Nat) : Prop := τ[s]? = some 1001 ∧ τ[s + 1]? = some 1002 ∧ τ[s + 2]? = some 1005 ∧ τ[s + 3]? = some 1003 ∧ τ[s + 4]? = some 1006
theorem rf_ty {τ : List Nat} {h : zh} {A T f T2 v : Nat} {tt : qt} (hg : hG τ h) (hA : τ[A]? = some T) (hT : atyp T = some tt) (hi : f < aLen tt) (hq : aslq tt f = some (.inr (.inl (T2, false)))) (r : rfs h A f v) : τ[v]? = some T2 := by
  obtain ⟨a, e1, e2, -⟩ := g_ref (i := f) hg hA hT hi hq
  have e3 := r.symm.trans e1
  cases e3
  exact e2
theorem tyS_of {τ : List Nat} {h : zh} {s : Nat} (hg : hG τ h) (hs : τ[s]? = some 1001) (l : laS h s) : tyS τ s := by
  have a := rf_ty hg hs aw1001 (by decide) rfl l.1
  have b := rf_ty hg hs aw1001 (by decide) rfl l.2.1
  exact ⟨hs, a, rf_ty hg a aw1002 (by decide) rfl l.2.2.1, b, rf_ty hg b aw1003 (by decide) rfl l.2.2.2⟩
theorem tyB_of {τ : List Nat} {h : zh} {a u v : Nat} (hg : hG τ h) (hu : uv_ u v) (ha : τ[a]? = some 1000) (r0 : rfs h a 0 (a + u)) (r1 : rfs h a 1 (a + v)) (l : layC h a) : tyS τ (a + 1) ∧ tyS τ (a + 6) := by
  have e0 := rf_ty hg ha aw1000 (by decide) rfl r0
  have e1 := rf_ty hg ha aw1000 (by decide) rfl r1
  rcases hu with ⟨rfl, rfl⟩ | ⟨rfl, rfl⟩
  · exact ⟨tyS_of hg e0 l.1, tyS_of hg e1 l.2⟩
  · exact ⟨tyS_of hg e1 l.1, tyS_of hg e0 l.2⟩
/-- two of them lie apart -/
theorem dis_ {τ : List Nat} {a b : Nat} (ha : τ[a]? = some 1000) (a1 : tyS τ (a + 1)) (a6 : tyS τ (a + 6)) (hb : τ[b]? = some 1000) (b1 : tyS τ (b + 1)) (b6 : tyS τ (b + 6)) (ne : a ≠ b) : a + 11 ≤ b ∨ b + 11 ≤ a := by
  have key : ∀ a b : Nat, tyS τ (a + 1) → tyS τ (a + 6) → τ[b]? = some 1000 → a < b → a + 11 ≤ b := by
    intro a b a1 a6 hb hab
    rcases Nat.lt_or_ge b (a + 11) with q | q
    · exfalso
      have d := fun (T : Nat) (e : τ[b]? = some T) (n : T ≠ 1000) => n (by rw [hb] at e; cases e; rfl)
      obtain ⟨c1, c2, c3, c4, c5⟩ := a1
      obtain ⟨d1, d2, d3, d4, d5⟩ := a6
      have hc : b = a + 1 ∨ b = a + 1 + 1 ∨ b = a + 1 + 2 ∨ b = a + 1 + 3 ∨ b = a + 1 + 4 ∨ b = a + 6 ∨ b = a + 6 + 1 ∨ b = a + 6 + 2 ∨ b = a + 6 + 3 ∨ b = a + 6 + 4 := by omega
      rcases hc with e | e | e | e | e | e | e | e | e | e
      · exact d _ (by rw [e]; exact c1) (by decide)
      · exact d _ (by rw [e]; exact c2) (by decide)
      · exact d _ (by rw [e]; exact c3) (by decide)
      · exact d _ (by rw [e]; exact c4) (by decide)
      · exact d _ (by rw [e]; exact c5) (by decide)
      · exact d _ (by rw [e]; exact d1) (by decide)
      · exact d _ (by rw [e]; exact d2) (by decide)
      · exact d _ (by rw [e]; exact d3) (by decide)
      · exact d _ (by rw [e]; exact d4) (by decide)
      · exact d _ (by rw [e]; exact d5) (by decide)
    · exact q
  rcases Nat.lt_or_gt_of_ne ne with q | q
  · exact Or.inl (key a b a1 a6 hb q)
  · exact Or.inr (key b a b1 b6 ha q)
/-- the row of what can be taken back -/
def pO1 (h : zh) (a : Nat) : Prop := 388 < a ∧ layC h a ∧ rfs h a 0 (a + 1) ∧ rfs h a 1 (a + 6)
def pOK (h : zh) : Prop := (∀ k, k < 10 → hsl h 14 k = some (.inl none) ∨ ∃ a, rfs h 14 k a ∧ pO1 h a) ∧ ∀ k k' a, k < 10 → k' < 10 → rfs h 14 k a → rfs h 14 k' a → k = k'
def RC (h : zh) (cur : bsT) (hs : List bsT) : Prop := pOK h ∧ (∃ u v, uv_ u v ∧ layC h 2 ∧ bsC h 2 u v cur) ∧ hs.length ≤ 10 ∧ ∃ s n : Nat, s < 10 ∧ n = (s + hs.length) % 10 ∧ ci_ h 13 1 n ∧ ci_ h 13 2 hs.length ∧ ∀ (j : Nat) (b : bsT), hs[j]? = some b → ∃ a, rfs h 14 ((s + j) % 10) a ∧ bsC h a 1 6 b
/-- the model's -/
def qdM (h : zh) (A p : Nat) (i : it4) : Prop := ∃ x y z w : Int32, (hsl h A p = some (zi x) ∧ hsl h A (p + 1) = some (zi y) ∧ hsl h A (p + 2) = some (zi z) ∧ hsl h A (p + 3) = some (zi w)) ∧ x.toInt = i.1 ∧ y.toInt = i.2.1 ∧ z.toInt = i.2.2.1 ∧ w.toInt = i.2.2.2
def sdM (h : zh) (A o : Nat) (q : sdT) : Prop := ci_ h A o q.1.length ∧ ci_ h A (o + 1) q.2.length ∧ (∀ (j : Nat) (i : it4), q.1[j]? = some i → qdM h A (o + 2 + 4 * j) i) ∧ ∀ (j : Nat) (i : it4), q.2[j]? = some i → qdM h A (o + 22 + 4 * j) i
def bsM (h : zh) (A : Nat) (b : bsT) : Prop := sdM h A 0 b.1 ∧ sdM h A 46 b.2
theorem qdM_up {h h1 : zh} {A A1 p p1 : Nat} {i : it4} (r : qdM h A p i) (e : ∀ j, j < 4 → hsl h1 A1 (p1 + j) = hsl h A (p + j)) : qdM h1 A1 p1 i := by
  obtain ⟨x, y, z, w, ⟨a, b, c, d⟩, f⟩ := r
  exact ⟨x, y, z, w, ⟨(e 0 (by omega)).trans a, (e 1 (by omega)).trans b, (e 2 (by omega)).trans c, (e 3 (by omega)).trans d⟩, f⟩
theorem ci_to {h h1 : zh} {A A1 p p1 n : Nat} (r : ci_ h A p n) (e : hsl h1 A1 p1 = hsl h A p) : ci_ h1 A1 p1 n := by
  obtain ⟨x, a, b⟩ := r
  exact ⟨x, e.trans a, b⟩
theorem sdM_to {h h1 : zh} {A A1 o o1 : Nat} {q : sdT} (r : sdM h A o q) (l1 : q.1.length ≤ 5) (l2 : q.2.length ≤ 6) (e : ∀ j, j < 46 → hsl h1 A1 (o1 + j) = hsl h A (o + j)) : sdM h1 A1 o1 q := by
  obtain ⟨a, b, c, d⟩ := r
  refine ⟨ci_to a (e 0 (by omega)), ci_to b (e 1 (by omega)), fun j i hj => ?_, fun j i hj => ?_⟩
  · have hl := (List.getElem?_eq_some_iff.mp hj).1
    refine qdM_up (c j i hj) (fun w hw => ?_)
    have := e (2 + 4 * j + w) (by omega)
    rw [show o1 + 2 + 4 * j + w = o1 + (2 + 4 * j + w) by omega, show o + 2 + 4 * j + w = o + (2 + 4 * j + w) by omega]
    exact this
  · have hl := (List.getElem?_eq_some_iff.mp hj).1
    refine qdM_up (d j i hj) (fun w hw => ?_)
    have := e (22 + 4 * j + w) (by omega)
    rw [show o1 + 22 + 4 * j + w = o1 + (22 + 4 * j + w) by omega, show o + 22 + 4 * j + w = o + (22 + 4 * j + w) by omega]
    exact this
theorem bsM_to {h h1 : zh} {A A1 : Nat} {b : bsT} (r : bsM h A b) (e : ∀ j, hsl h1 A1 j = hsl h A j) : bsM h1 A1 b := by
  obtain ⟨⟨a, b, c, d⟩, a', b', c', d'⟩ := r
  exact ⟨⟨ci_to a (e _), ci_to b (e _), fun j i hj => qdM_up (c j i hj) (fun w _ => e _), fun j i hj => qdM_up (d j i hj) (fun w _ => e _)⟩, ci_to a' (e _), ci_to b' (e _), fun j i hj => qdM_up (c' j i hj) (fun w _ => e _), fun j i hj => qdM_up (d' j i hj) (fun w _ => e _)⟩
def RM (h : zh) (cur : bsT) (hs : List bsT) : Prop := bsM h 55 cur ∧ (∀ k, k < 10 → rfs h 57 k (58 + k)) ∧ ci_ h 52 12 hs.length ∧ hs.length ≤ 10 ∧ ∀ (j : Nat) (b : bsT), hs[j]? = some b → bsM h (58 + j) b
/-- one more -/
def psh (hs : List bsT) (b : bsT) : List bsT := if hs.length = 10 then hs.tail ++ [b] else hs ++ [b]
theorem psh_len {hs : List bsT} {b : bsT} (h : hs.length ≤ 10) : (psh hs b).length = min (hs.length + 1) 10 := by
  unfold psh
  split
  · rw [List.length_append, List.length_tail]
    simp only [List.length_cons, List.length_nil]
    omega
  · rw [List.length_append]
    simp only [List.length_cons, List.length_nil]
    omega
theorem psh_get {hs : List bsT} {b c : bsT} {j : Nat} (h : hs.length ≤ 10) (e : (psh hs b)[j]? = some c) : (hs.length < 10 ∧ j < hs.length ∧ hs[j]? = some c) ∨ (hs.length < 10 ∧ j = hs.length ∧ c = b) ∨ (hs.length = 10 ∧ j < 9 ∧ hs[j + 1]? = some c) ∨ (hs.length = 10 ∧ j = 9 ∧ c = b) := by
  unfold psh at e
  split at e
  · rename_i q
    have hl : hs.tail.length = 9 := by rw [List.length_tail]; omega
    rcases Nat.lt_or_ge j 9 with hj | hj
    · rw [List.getElem?_append_left (by omega), List.getElem?_tail] at e
      exact Or.inr (Or.inr (Or.inl ⟨q, hj, e⟩))
    · rw [List.getElem?_append_right (by omega), hl] at e
      have h9 : j - 9 < [b].length := (List.getElem?_eq_some_iff.mp e).1
      have h8 : j = 9 := by simp only [List.length_cons, List.length_nil] at h9; omega
      subst h8
      exact Or.inr (Or.inr (Or.inr ⟨q, rfl, (Option.some.inj e).symm⟩))
  · rename_i q
    rcases Nat.lt_or_ge j hs.length with hj | hj
    · rw [List.getElem?_append_left hj] at e
      exact Or.inl ⟨by omega, hj, e⟩
    · rw [List.getElem?_append_right hj] at e
      have h9 : j - hs.length < [b].length := (List.getElem?_eq_some_iff.mp e).1
      have h8 : j = hs.length := by simp only [List.length_cons, List.length_nil] at h9; omega
      subst h8
      rw [Nat.sub_self] at e
      exact Or.inr (Or.inl ⟨by omega, rfl, (Option.some.inj e).symm⟩)
