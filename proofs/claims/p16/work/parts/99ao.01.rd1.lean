/-! READY, by any order: the least map that the left parts ask for -/
abbrev mpT : Type := Int → Int
def mI (r : mpT) (i : it4) : it4 := (i.1, r i.2.1, r i.2.2.1, r i.2.2.2)
/-- a list from x to x, a tree at 0 (its y is 0) -/
def trv (i : it4) : Prop := 2 ≤ i.1 ∧ i.2.1 = i.2.2.1
/-- parts that are left of the first ones: those that are nothing may have gone -/
def Rep (r : mpT) : List it4 → List it4 → Prop
  | [], L => L = []
  | p :: P, L => (∃ L', L = mI r p :: L' ∧ Rep r P L') ∨ (trv (mI r p) ∧ Rep r P L)
theorem Rep_id {L : List it4} : Rep id L L := by
  induction L with
  | nil => rfl
  | cons p L ih => exact Or.inl ⟨L, rfl, ih⟩
theorem Rep_mem {r : mpT} : ∀ {P L : List it4} {p : it4}, Rep r P L → p ∈ P → mI r p ∈ L ∨ trv (mI r p)
  | q :: P, L, p, h, hp => by
    rcases List.mem_cons.mp hp with e | e
    · subst e
      rcases h with ⟨L', e2, -⟩ | ⟨t, -⟩
      · exact Or.inl (by rw [e2]; exact List.mem_cons_self)
      · exact Or.inr t
    · rcases h with ⟨L', e2, h⟩ | ⟨-, h⟩
      · rcases Rep_mem h e with q9 | q9
        · exact Or.inl (by rw [e2]; exact List.mem_cons_of_mem _ q9)
        · exact Or.inr q9
      · exact Rep_mem h e
theorem Rep_of {r : mpT} : ∀ {P L : List it4} {q : it4}, Rep r P L → q ∈ L → ∃ p ∈ P, q = mI r p
  | [], L, q, h, hq => by
    rw [show L = [] from h] at hq
    cases hq
  | p :: P, L, q, h, hq => by
    rcases h with ⟨L', e2, h⟩ | ⟨-, h⟩
    · rw [e2] at hq
      rcases List.mem_cons.mp hq with e | e
      · exact ⟨p, List.mem_cons_self, e⟩
      · obtain ⟨p', m, e⟩ := Rep_of h e
        exact ⟨p', List.mem_cons_of_mem _ m, e⟩
    · obtain ⟨p', m, e⟩ := Rep_of h hq
      exact ⟨p', List.mem_cons_of_mem _ m, e⟩
/-- one that is nothing goes -/
theorem Rep_go {r : mpT} : ∀ {P L : List it4} {k : Nat} {q : it4}, Rep r P L → L[k]? = some q → trv q → Rep r P (L.eraseIdx k)
  | [], L, k, q, h, hk, _ => by
    rw [show L = [] from h] at hk
    cases hk
  | p :: P, L, k, q, h, hk, t => by
    rcases h with ⟨L', e2, h⟩ | ⟨t2, h⟩
    · subst e2
      cases k with
      | zero =>
        cases hk
        exact Or.inr ⟨t, h⟩
      | succ k => exact Or.inl ⟨L'.eraseIdx k, rfl, Rep_go h hk t⟩
    · exact Or.inr ⟨t2, Rep_go h hk t⟩
/-- renamed once more -/
theorem mI_mI {r s : mpT} {i : it4} : mI s (mI r i) = mI (fun v => s (r v)) i := rfl
theorem trv_m {s : mpT} {i : it4} (t : trv i) : trv (mI s i) := ⟨t.1, congrArg s t.2⟩
theorem Rep_ren {r s : mpT} : ∀ {P L : List it4}, Rep r P L → Rep (fun v => s (r v)) P (L.map (mI s))
  | [], L, h => by
    rw [show L = [] from h]
    rfl
  | p :: P, L, h => by
    rcases h with ⟨L', e2, h⟩ | ⟨t, h⟩
    · subst e2
      exact Or.inl ⟨L'.map (mI s), rfl, Rep_ren h⟩
    · exact Or.inr ⟨trv_m (s := s) t, Rep_ren h⟩
/-- nothing idle is left: it is told by the map alone -/
theorem Rep_end {r : mpT} : ∀ {P L : List it4}, Rep r P L → (∀ q ∈ L, ¬ trv q) → L = (P.map (mI r)).filter (fun q => decide (¬ (2 ≤ q.1 ∧ q.2.1 = q.2.2.1)))
  | [], L, h, _ => h
  | p :: P, L, h, n => by
    rcases h with ⟨L', e2, h⟩ | ⟨t, h⟩
    · subst e2
      have e := Rep_end h (fun q hq => n q (List.mem_cons_of_mem _ hq))
      rw [List.map_cons, List.filter_cons_of_pos (by exact decide_eq_true (n _ List.mem_cons_self)), ← e]
    · rw [List.map_cons, List.filter_cons_of_neg (by rw [decide_eq_true_eq]; exact fun q => q t)]
      exact Rep_end h n
/-- trees stand at two places -/
def two_ (L : List it4) (x : Int) : Prop := ∃ (i j : Nat) (p q : it4), i < j ∧ L[i]? = some p ∧ L[j]? = some q ∧ p.1 = 3 ∧ q.1 = 3 ∧ p.2.1 = x ∧ q.2.1 = x
/-- a map that is as the left parts ask -/
def good (P : List it4) (s : mpT) : Prop := s 0 = 0 ∧ (∀ p ∈ P, p.1 = 2 → s p.2.1 = 0 → s p.2.2.1 = 0) ∧ (∀ p ∈ P, p.1 = 2 → ∀ q ∈ P, q.1 ≤ 1 → s q.2.1 = s p.2.1 → s p.2.1 = s p.2.2.1) ∧ ∀ (i j : Nat) (p q : it4), i < j → P[i]? = some p → P[j]? = some q → p.1 = 3 → q.1 = 3 → s p.2.1 = s q.2.1 → s p.2.1 = 0
/-- what a step of the left side asks: a and b are one -/
def asks (L : List it4) (a b : Int) : Prop := (∃ p ∈ L, p.1 = 2 ∧ p.2.1 = 0 ∧ a = p.2.2.1 ∧ b = 0) ∨ (∃ p ∈ L, p.1 = 2 ∧ a = p.2.1 ∧ b = p.2.2.1 ∧ ∃ q ∈ L, q.1 ≤ 1 ∧ q.2.1 = p.2.1) ∨ (two_ L a ∧ b = 0)
theorem Rep_two {r : mpT} : ∀ {P L : List it4} {i j : Nat} {p q : it4}, Rep r P L → i < j → L[i]? = some p → L[j]? = some q → ∃ (i' j' : Nat) (p' q' : it4), i' < j' ∧ P[i']? = some p' ∧ P[j']? = some q' ∧ p = mI r p' ∧ q = mI r q'
  | [], L, i, j, p, q, h, _, hi, _ => by
    rw [show L = [] from h] at hi
    cases hi
  | x :: P, L, i, j, p, q, h, hij, hi, hj => by
    rcases h with ⟨L', e2, h⟩ | ⟨-, h⟩
    · subst e2
      cases j with
      | zero => omega
      | succ j =>
        cases i with
        | zero =>
          cases hi
          obtain ⟨q', m, e⟩ := Rep_of h (List.mem_of_getElem? hj)
          obtain ⟨k, hk⟩ := List.getElem?_of_mem m
          exact ⟨0, k + 1, x, q', by omega, rfl, hk, rfl, e⟩
        | succ i =>
          obtain ⟨i', j', p', q', a, b, c, d⟩ := Rep_two h (by omega) hi hj
          exact ⟨i' + 1, j' + 1, p', q', by omega, b, c, d⟩
    · obtain ⟨i', j', p', q', a, b, c, d⟩ := Rep_two h hij hi hj
      exact ⟨i' + 1, j' + 1, p', q', by omega, b, c, d⟩
/-- what is asked must be so by each good map -/
theorem asks_good {P L : List it4} {r s : mpT} {a b : Int} (g : good P s) (sr : ∀ v, s (r v) = s v) (h : Rep r P L) (k : asks L a b) : s a = s b := by
  obtain ⟨g0, g1, g2, g3⟩ := g
  rcases k with ⟨p, hp, h1, h2, h3, h4⟩ | ⟨p, hp, h1, h2, h3, q, hq, h4, h5⟩ | ⟨⟨i, j, p, q, hij, hi, hj, h1, h2, h3, h4⟩, h5⟩
  · obtain ⟨p', m, e⟩ := Rep_of h hp
    subst e
    have h2 : r p'.2.1 = 0 := h2
    have e2 := g1 p' m h1 (by rw [← sr, h2, g0])
    rw [h3, h4, g0]
    show s (r p'.2.2.1) = 0
    rw [sr, e2]
  · obtain ⟨p', m, e⟩ := Rep_of h hp
    obtain ⟨q', m', e'⟩ := Rep_of h hq
    subst e
    subst e'
    have h5 : r q'.2.1 = r p'.2.1 := h5
    have e2 := g2 p' m h1 q' m' h4 (by rw [← sr q'.2.1, h5, sr])
    rw [h2, h3]
    show s (r p'.2.1) = s (r p'.2.2.1)
    rw [sr, sr, e2]
  · obtain ⟨i', j', p', q', a1, a2, a3, e, e'⟩ := Rep_two h hij hi hj
    subst e
    subst e'
    have h3 : r p'.2.1 = a := h3
    have h4 : r q'.2.1 = a := h4
    have e2 := g3 i' j' p' q' a1 a2 a3 h1 h2 (by rw [← sr p'.2.1, h3, ← h4, sr])
    rw [h5, g0, ← h3, sr, e2]
/-- the greater one becomes the lesser one -/
def rn1 (a b : Int) : mpT := fun v => if v = max a b then min a b else v
theorem rn1_s {s : mpT} {a b : Int} (e : s a = s b) (v : Int) : s (rn1 a b v) = s v := by
  unfold rn1
  split
  · rename_i q
    rcases Int.le_total a b with h | h
    · rw [Int.min_eq_left h, q, Int.max_eq_right h, e]
    · rw [Int.min_eq_right h, q, Int.max_eq_left h, e]
  · rfl
/-- maps to lesser ones that stay -/
def dwn (r : mpT) : Prop := (∀ v, 0 ≤ v → 0 ≤ r v ∧ r v ≤ v) ∧ ∀ v, r (r v) = r v
theorem dwn_id : dwn id := ⟨fun v h => ⟨h, Int.le_refl _⟩, fun _ => rfl⟩
theorem dwn_rn {r : mpT} {a b : Int} (d : dwn r) (ha : r a = a) (hb : r b = b) (h1 : 0 ≤ a) (h2 : 0 ≤ b) : dwn (fun v => rn1 a b (r v)) := by
  have key : ∀ v, r (rn1 a b (r v)) = rn1 a b (r v) := fun v => by
    unfold rn1
    split
    · rcases Int.le_total a b with h | h
      · rw [Int.min_eq_left h, ha]
      · rw [Int.min_eq_right h, hb]
    · exact d.2 v
  refine ⟨fun v hv => ?_, fun v => ?_⟩
  · have := d.1 v hv
    show 0 ≤ rn1 a b (r v) ∧ rn1 a b (r v) ≤ v
    unfold rn1
    split <;> omega
  · show rn1 a b (r (rn1 a b (r v))) = rn1 a b (r v)
    rw [key]
    unfold rn1
    split
    · split <;> omega
    · rfl
theorem two_maps {r s : mpT} (d1 : dwn r) (d2 : dwn s) (e1 : ∀ v, r (s v) = r v) (e2 : ∀ v, s (r v) = s v) (v : Int) (hv : 0 ≤ v) : r v = s v := by
  have a := d2.1 v hv
  have b := d1.1 v hv
  have c := (d1.1 (s v) a.1).2
  have f := (d2.1 (r v) b.1).2
  rw [e1] at c
  rw [e2] at f
  omega
/-- no step of the left side can be done -/
def rest (L : List it4) : Prop := (∀ q ∈ L, ¬ trv q) ∧ (∀ p ∈ L, p.1 = 2 → p.2.1 ≠ 0) ∧ (∀ p ∈ L, p.1 = 2 → ∀ q ∈ L, q.1 ≤ 1 → q.2.1 ≠ p.2.1) ∧ ∀ x, ¬ two_ L x
theorem Rep_pos {r : mpT} : ∀ {P L : List it4} {i j : Nat} {p q : it4}, Rep r P L → i < j → P[i]? = some p → P[j]? = some q → ¬ trv (mI r p) → ¬ trv (mI r q) → ∃ (i' j' : Nat), i' < j' ∧ L[i']? = some (mI r p) ∧ L[j']? = some (mI r q)
  | [], _, i, _, _, _, _, _, hi, _, _, _ => by cases hi
  | x :: P, L, i, j, p, q, h, hij, hi, hj, n1, n2 => by
    cases j with
    | zero => omega
    | succ j =>
      cases i with
      | zero =>
        cases hi
        rcases h with ⟨L', e2, h⟩ | ⟨t, -⟩
        · subst e2
          rcases Rep_mem h (List.mem_of_getElem? hj) with m | m
          · obtain ⟨k, hk⟩ := List.getElem?_of_mem m
            exact ⟨0, k + 1, by omega, rfl, hk⟩
          · exact absurd m n2
        · exact absurd t n1
      | succ i =>
        rcases h with ⟨L', e2, h⟩ | ⟨-, h⟩
        · subst e2
          obtain ⟨i', j', a, b, c⟩ := Rep_pos h (by omega) hi hj n1 n2
          exact ⟨i' + 1, j' + 1, by omega, b, c⟩
        · exact Rep_pos h (by omega) hi hj n1 n2
/-- a tree tells one variable -/
def tz (P : List it4) : Prop := ∀ p ∈ P, p.1 = 3 → p.2.2.1 = 0
theorem rest_good {P L : List it4} {r : mpT} (d : dwn r) (h : Rep r P L) (z : tz P) (e : rest L) : good P r := by
  obtain ⟨e1, e2, e3, e4⟩ := e
  have r0 : r 0 = 0 := by
    have := d.1 0 (Int.le_refl _)
    omega
  refine ⟨r0, fun p hp k hx => ?_, fun p hp k q hq k2 hx => ?_, fun i j p q hij hi hj k1 k2 hx => ?_⟩
  · rcases Rep_mem h hp with m | m
    · exact absurd hx (e2 _ m k)
    · have m2 : r p.2.1 = r p.2.2.1 := m.2
      rw [← m2]
      exact hx
  · rcases Rep_mem h hp with m | m
    · rcases Rep_mem h hq with m' | m'
      · exact absurd hx (e3 _ m k _ m' k2)
      · have m3 : 2 ≤ q.1 := m'.1
        omega
    · exact m.2
  · have t0 : ∀ p' ∈ P, p'.1 = 3 → trv (mI r p') → r p'.2.1 = 0 := fun p' m k t => by
      have t2 : r p'.2.1 = r p'.2.2.1 := t.2
      rw [t2, z p' m k, r0]
    by_cases n1 : trv (mI r p)
    · exact t0 p (List.mem_of_getElem? hi) k1 n1
    · by_cases n2 : trv (mI r q)
      · rw [hx]
        exact t0 q (List.mem_of_getElem? hj) k2 n2
      · obtain ⟨i', j', a, b, c⟩ := Rep_pos h hij hi hj n1 n2
        exact absurd ⟨i', j', _, _, a, b, c, k1, k2, rfl, hx.symm⟩ (e4 (r p.2.1))
/-- pairs that differ, renamed -/
abbrev dfT : Type := Int → Int → Prop
def Dm (r : mpT) (D : dfT) : dfT := fun a b => ∃ a' b', D a' b' ∧ r a' = a ∧ r b' = b
/-- VOID, of a map -/
def vdS (P : List it4) (D : dfT) (s : mpT) : Prop := (∃ a b, D a b ∧ s a = s b) ∨ (∃ p ∈ P, p.1 ≤ 1 ∧ s p.2.1 = 0) ∨ (∃ (i j : Nat) (p q : it4), i < j ∧ P[i]? = some p ∧ P[j]? = some q ∧ p.1 ≤ 1 ∧ q.1 ≤ 1 ∧ s p.2.1 = s q.2.1) ∨ ∃ p ∈ P, p.1 ≤ 1 ∧ ∃ q ∈ P, q.1 = 3 ∧ s q.2.1 = s p.2.1
theorem vd_up {P L : List it4} {D : dfT} {r s : mpT} (s0 : s 0 = 0) (sr : ∀ v, s (r v) = s v) (h : Rep r P L) (v : vdS L (Dm r D) id) : vdS P D s := by
  rcases v with ⟨a, b, ⟨a', b', hd, e1, e2⟩, e⟩ | ⟨p, hp, k, e⟩ | ⟨i, j, p, q, hij, hi, hj, k1, k2, e⟩ | ⟨p, hp, k, q, hq, k2, e⟩
  · have e : a = b := e
    refine Or.inl ⟨a', b', hd, ?_⟩
    rw [← sr a', ← sr b', e1, e2, e]
  · obtain ⟨p', m, e'⟩ := Rep_of h hp
    subst e'
    have e : r p'.2.1 = 0 := e
    exact Or.inr (Or.inl ⟨p', m, k, by rw [← sr, e, s0]⟩)
  · obtain ⟨i', j', p', q', a1, a2, a3, e1, e2⟩ := Rep_two h hij hi hj
    subst e1
    subst e2
    have e : r p'.2.1 = r q'.2.1 := e
    exact Or.inr (Or.inr (Or.inl ⟨i', j', p', q', a1, a2, a3, k1, k2, by rw [← sr p'.2.1, e, sr]⟩))
  · obtain ⟨p', m, e1⟩ := Rep_of h hp
    obtain ⟨q', m', e2⟩ := Rep_of h hq
    subst e1
    subst e2
    have e : r q'.2.1 = r p'.2.1 := e
    exact Or.inr (Or.inr (Or.inr ⟨p', m, k, q', m', k2, by rw [← sr q'.2.1, e, sr]⟩))
theorem vd_dn {P L : List it4} {D : dfT} {r : mpT} (r0 : r 0 = 0) (z : tz P) (h : Rep r P L) (v : vdS P D r) : vdS L (Dm r D) id := by
  have cell : ∀ p ∈ P, p.1 ≤ 1 → mI r p ∈ L := fun p m k => by
    rcases Rep_mem h m with q | q
    · exact q
    · have : 2 ≤ p.1 := q.1
      omega
  rcases v with ⟨a, b, hd, e⟩ | ⟨p, hp, k, e⟩ | ⟨i, j, p, q, hij, hi, hj, k1, k2, e⟩ | ⟨p, hp, k, q, hq, k2, e⟩
  · exact Or.inl ⟨r a, r b, ⟨a, b, hd, rfl, rfl⟩, e⟩
  · exact Or.inr (Or.inl ⟨_, cell p hp k, k, e⟩)
  · obtain ⟨i', j', a, b, c⟩ := Rep_pos h hij hi hj (fun t => by have : 2 ≤ p.1 := t.1; omega) (fun t => by have : 2 ≤ q.1 := t.1; omega)
    exact Or.inr (Or.inr (Or.inl ⟨i', j', _, _, a, b, c, k1, k2, e⟩))
  · rcases Rep_mem h hq with m | m
    · exact Or.inr (Or.inr (Or.inr ⟨_, cell p hp k, k, _, m, k2, e⟩))
    · have t2 : r q.2.1 = r q.2.2.1 := m.2
      rw [z q hq k2, r0] at t2
      exact Or.inr (Or.inl ⟨_, cell p hp k, k, by show r p.2.1 = 0; rw [← e, t2]⟩)
/-- how far a run of the left side has come -/
def LR (P : List it4) (r : mpT) (L : List it4) : Prop := dwn r ∧ (∀ s, good P s → ∀ v, s (r v) = s v) ∧ Rep r P L
theorem LR_0 {P : List it4} : LR P id P := ⟨dwn_id, fun _ _ _ => rfl, Rep_id⟩
theorem LR_go {P L : List it4} {r : mpT} {k : Nat} {q : it4} (h : LR P r L) (hk : L[k]? = some q) (t : trv q) : LR P r (L.eraseIdx k) := ⟨h.1, h.2.1, Rep_go h.2.2 hk t⟩
theorem LR_mk {P L : List it4} {r : mpT} {a b : Int} (h : LR P r L) (k : asks L a b) (ha : r a = a) (hb : r b = b) (h1 : 0 ≤ a) (h2 : 0 ≤ b) : LR P (fun v => rn1 a b (r v)) (L.map (mI (rn1 a b))) :=
  ⟨dwn_rn h.1 ha hb h1 h2, fun s g v => by
    have e := asks_good g (h.2.1 s g) h.2.2 k
    show s (rn1 a b (r v)) = s v
    rw [rn1_s e, h.2.1 s g], Rep_ren h.2.2⟩
/-- two runs to their ends: one map -/
theorem LR_one {P L L' : List it4} {r r' : mpT} (z : tz P) (h : LR P r L) (e : rest L) (h' : LR P r' L') (e' : rest L') (v : Int) (hv : 0 ≤ v) : r v = r' v :=
  two_maps h.1 h'.1 (h'.2.1 r (rest_good h.1 h.2.2 z e)) (h.2.1 r' (rest_good h'.1 h'.2.2 z e')) v hv
/-- one run is VOID somewhere: the other doesn't end otherwise -/
theorem LR_vd {P L L' : List it4} {D : dfT} {r r' : mpT} (z : tz P) (h : LR P r L) (v : vdS L (Dm r D) id) (h' : LR P r' L') (e' : rest L') : vdS L' (Dm r' D) id := by
  have g := rest_good h'.1 h'.2.2 z e'
  exact vd_dn g.1 z h'.2.2 (vd_up g.1 (h.2.1 r' g) h.2.2 v)
