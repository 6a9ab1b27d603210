/-! THE TEXT'S GRAMMAR, PURE: bytes b, the first n of them -/
abbrev it4 : Type := Int × Int × Int × Int
/-- place, parts, claims -/
abbrev pst : Type := Nat × List it4 × List it4
/-- a fault (which, where), or how far it is -/
abbrev prs : Type := (Int × Nat) ⊕ pst
def skp (b : Nat → Int) : Nat → Nat → Nat
  | 0, a => a
  | f + 1, a => if b a = 32 then skp b f (a + 1) else a
/-- behind the blanks -/
def sk (b : Nat → Int) (n a : Nat) : Nat := skp b (n - a) a
theorem sk_hit {b : Nat → Int} {n a : Nat} (h1 : a < n) (h2 : b a = 32) : sk b n a = sk b n (a + 1) := by
  unfold sk
  rw [show n - a = (n - (a + 1)) + 1 by omega]
  show (if b a = 32 then skp b (n - (a + 1)) (a + 1) else a) = _
  rw [if_pos h2]
theorem sk_stop {b : Nat → Int} {n a : Nat} (h : n ≤ a ∨ b a ≠ 32) : sk b n a = a := by
  unfold sk
  cases hf : n - a with
  | zero => rfl
  | succ f =>
    show (if b a = 32 then skp b f (a + 1) else a) = a
    rw [if_neg]
    rcases h with h | h
    · omega
    · exact h
theorem skp_le {b : Nat → Int} : ∀ (f a : Nat), a ≤ skp b f a ∧ skp b f a ≤ a + f
  | 0, a => ⟨Nat.le_refl _, Nat.le_refl _⟩
  | f + 1, a => by
    unfold skp
    split
    · have := skp_le (b := b) f (a + 1)
      omega
    · omega
theorem sk_le {b : Nat → Int} {n a : Nat} (h : a ≤ n) : a ≤ sk b n a ∧ sk b n a ≤ n := by
  have := skp_le (b := b) (n - a) a
  unfold sk
  omega
theorem skp_end {b : Nat → Int} : ∀ (f a : Nat), skp b f a < a + f → b (skp b f a) ≠ 32
  | 0, a, h => by have := skp_le (b := b) 0 a; omega
  | f + 1, a, h => by
    unfold skp at h ⊢
    split
    · rename_i q
      rw [if_pos q] at h
      exact skp_end f (a + 1) (by omega)
    · rename_i q
      exact q
theorem sk_end {b : Nat → Int} {n a : Nat} (ha : a ≤ n) (h : sk b n a < n) : b (sk b n a) ≠ 32 := by
  unfold sk at h ⊢
  exact skp_end _ _ (by omega)
theorem sk_idem {b : Nat → Int} {n a : Nat} (ha : a ≤ n) : sk b n (sk b n a) = sk b n a := by
  rcases Nat.lt_or_ge (sk b n a) n with q | q
  · exact sk_stop (Or.inr (sk_end ha q))
  · exact sk_stop (Or.inl q)
/-- the byte there; none behind the end -/
def bt (b : Nat → Int) (n k : Nat) : Int := if k < n then b k else -1
/-- the signs stand there -/
def mt (b : Nat → Int) (n : Nat) : List Int → Nat → Bool
  | [], _ => true
  | c :: w, a => decide (bt b n a = c) && mt b n w (a + 1)
def sml (c : Int) : Prop := 97 ≤ c ∧ c ≤ 122
theorem sml_dec (c : Int) : sml c ∨ ¬ sml c := by
  unfold sml
  omega
/-- how many small letters stand there -/
def clp (b : Nat → Int) : Nat → Nat → Nat
  | 0, _ => 0
  | f + 1, a => if 97 ≤ b a ∧ b a ≤ 122 then clp b f (a + 1) + 1 else 0
def cl (b : Nat → Int) (n a : Nat) : Nat := clp b (n - a) a
theorem cl_hit {b : Nat → Int} {n a : Nat} (h : sml (bt b n a)) : a < n ∧ cl b n a = cl b n (a + 1) + 1 := by
  have ha : a < n := by
    rcases Nat.lt_or_ge a n with q | q
    · exact q
    · unfold sml bt at h
      rw [if_neg (by omega)] at h
      omega
  refine ⟨ha, ?_⟩
  unfold sml bt at h
  rw [if_pos ha] at h
  unfold cl
  rw [show n - a = (n - (a + 1)) + 1 by omega]
  show (if 97 ≤ b a ∧ b a ≤ 122 then _ else 0) = _
  rw [if_pos h]
theorem cl_no {b : Nat → Int} {n a : Nat} (h : ¬ sml (bt b n a)) : cl b n a = 0 := by
  unfold cl
  cases hf : n - a with
  | zero => rfl
  | succ f =>
    show (if 97 ≤ b a ∧ b a ≤ 122 then _ else 0) = 0
    rw [if_neg]
    unfold sml bt at h
    rw [if_pos (by omega)] at h
    exact h
theorem cl_le {b : Nat → Int} {n a : Nat} : cl b n a ≤ n - a := by
  have key : ∀ f a, clp b f a ≤ f := by
    intro f
    induction f with
    | zero => intro a; exact Nat.le_refl _
    | succ f ih =>
      intro a
      unfold clp
      split
      · have := ih (a + 1)
        omega
      · omega
  exact key _ _
theorem mt_cl {b : Nat → Int} {n : Nat} : ∀ {w : List Int} {a : Nat}, mt b n w a = true → (∀ c ∈ w, sml c) → cl b n a = w.length + cl b n (a + w.length)
  | [], a, _, _ => by simp
  | c :: w, a, h, hs => by
    unfold mt at h
    simp only [Bool.and_eq_true, decide_eq_true_eq] at h
    have h1 : sml (bt b n a) := by
      rw [h.1]
      exact hs c List.mem_cons_self
    have h2 := mt_cl h.2 (fun c' hc' => hs c' (List.mem_cons_of_mem _ hc'))
    rw [(cl_hit h1).2, h2]
    simp only [List.length_cons]
    rw [show a + (w.length + 1) = a + 1 + w.length by omega]
    omega
/-- a word of just these letters: by counting, or by what stands behind -/
theorem word_iff {b : Nat → Int} {n a : Nat} {w : List Int} (hs : ∀ c ∈ w, sml c) (h : mt b n w a = true) : cl b n a = w.length ↔ ¬ sml (bt b n (a + w.length)) := by
  have e := mt_cl h hs
  constructor
  · intro h1 h2
    have := (cl_hit h2).2
    omega
  · intro h1
    rw [e, cl_no h1]
    omega
/-- a sign; a word; what must be there; a variable -/
def sgn (b : Nat → Int) (n : Nat) (w : List Int) (a : Nat) : Option Nat := if mt b n w (sk b n a) = true then some (sk b n a + w.length) else none
def wrd (b : Nat → Int) (n : Nat) (w : List Int) (a : Nat) : Option Nat := if mt b n w (sk b n a) = true ∧ ¬ (97 ≤ bt b n (sk b n a + w.length) ∧ bt b n (sk b n a + w.length) ≤ 122) then some (sk b n a + w.length) else none
def ndd (b : Nat → Int) (n : Nat) (w : List Int) (a : Nat) : (Int × Nat) ⊕ Nat := match sgn b n w a with
  | some a' => .inr a'
  | none => .inl (1, sk b n a)
def pvr (b : Nat → Int) (n a : Nat) : (Int × Nat) ⊕ (Int × Nat) :=
  if bt b n (sk b n a) = 48 then .inr (0, sk b n a + 1)
  else if (97 ≤ bt b n (sk b n a) ∧ bt b n (sk b n a) ≤ 101) ∧ ¬ (97 ≤ bt b n (sk b n a + 1) ∧ bt b n (sk b n a + 1) ≤ 122) then .inr (bt b n (sk b n a) - 96, sk b n a + 1)
  else .inl (1, sk b n a)
/-- a part, a claim comes -/
def tkp (s : pst) (a : Nat) (i : it4) (p : Nat) : prs := if s.2.1.length = 5 then .inl (2, p) else .inr (a, s.2.1 ++ [i], s.2.2)
def tkc (s : pst) (a : Nat) (i : it4) (p : Nat) : prs := if s.2.2.length = 6 then .inl (2, p) else .inr (a, s.2.1, s.2.2 ++ [i])
def wEmp : List Int := [101, 109, 112]
def wLs : List Int := [108, 115]
def wTree : List Int := [116, 114, 101, 101]
def wLst (b : Nat → Int) (n : Nat) (s : pst) (a p : Nat) : prs := match ndd b n [40] a with
  | .inl f => .inl f
  | .inr a1 => match pvr b n a1 with
    | .inl f => .inl f
    | .inr (x, a2) => match ndd b n [44] a2 with
      | .inl f => .inl f
      | .inr a3 => match pvr b n a3 with
        | .inl f => .inl f
        | .inr (y, a4) => match ndd b n [41] a4 with
          | .inl f => .inl f
          | .inr a5 => tkp s a5 (2, x, y, 0) p
def wTre (b : Nat → Int) (n : Nat) (s : pst) (a p : Nat) : prs := match ndd b n [40] a with
  | .inl f => .inl f
  | .inr a1 => match pvr b n a1 with
    | .inl f => .inl f
    | .inr (x, a2) => match ndd b n [41] a2 with
      | .inl f => .inl f
      | .inr a3 => tkp s a3 (3, x, 0, 0) p
def wCel (b : Nat → Int) (n : Nat) (s : pst) (a p : Nat) (x : Int) : prs := match pvr b n a with
  | .inl f => .inl f
  | .inr (y, a1) => match sgn b n [44] a1 with
    | none => tkp s (sk b n a1) (0, x, y, 0) p
    | some a2 => match pvr b n a2 with
      | .inl f => .inl f
      | .inr (z, a3) => tkp s a3 (1, x, y, z) p
def wClm (b : Nat → Int) (n : Nat) (s : pst) (a p : Nat) (k x : Int) : prs := match pvr b n a with
  | .inl f => .inl f
  | .inr (y, a1) => tkc s a1 (k, x, y, 0) p
def wItm (b : Nat → Int) (n : Nat) (s : pst) : prs := match wrd b n wLs s.1 with
  | some a1 => wLst b n s a1 (sk b n s.1)
  | none => match wrd b n wTree s.1 with
    | some a1 => wTre b n s a1 (sk b n s.1)
    | none => match pvr b n s.1 with
      | .inl f => .inl f
      | .inr (x, a1) => match sgn b n [45, 62] a1 with
        | some a2 => wCel b n s a2 (sk b n s.1) x
        | none => match sgn b n [61] a1 with
          | some a2 => wClm b n s a2 (sk b n s.1) 1 x
          | none => match ndd b n [33, 61] a1 with
            | .inl f => .inl f
            | .inr a2 => wClm b n s a2 (sk b n s.1) 0 x
/-- items, with a star between two -/
def wItms (b : Nat → Int) (n : Nat) : Nat → pst → prs
  | 0, s => .inr s
  | f + 1, s => match wItm b n s with
    | .inl q => .inl q
    | .inr s1 => match sgn b n [42] s1.1 with
      | some a => wItms b n f (a, s1.2)
      | none => .inr (sk b n s1.1, s1.2)
def wSid (b : Nat → Int) (n a : Nat) : prs := match wrd b n wEmp a with
  | some a1 => .inr (a1, [], [])
  | none => wItms b n 13 (a, [], [])
def wAll (b : Nat → Int) (n : Nat) : (Int × Nat) ⊕ ((List it4 × List it4) × (List it4 × List it4)) := match wSid b n 0 with
  | .inl f => .inl f
  | .inr (a1, l) => match ndd b n [124, 45] a1 with
    | .inl f => .inl f
    | .inr a2 => match wSid b n a2 with
      | .inl f => .inl f
      | .inr (a3, r) => if sk b n a3 = n then .inr (l, r) else .inl (1, sk b n a3)
/-! places stay within -/
theorem mt_le {b : Nat → Int} {n : Nat} : ∀ {w : List Int} {a : Nat}, mt b n w a = true → a ≤ n → (∀ c ∈ w, c ≠ -1) → a + w.length ≤ n
  | [], a, _, ha, _ => by simpa using ha
  | c :: w, a, h, ha, hc => by
    unfold mt at h
    simp only [Bool.and_eq_true, decide_eq_true_eq] at h
    have h1 : a < n := by
      rcases Nat.lt_or_ge a n with q | q
      · exact q
      · have h9 := h.1
        unfold bt at h9
        rw [if_neg (by omega)] at h9
        exact absurd h9.symm (hc c List.mem_cons_self)
    have h2 := mt_le h.2 (by omega) (fun c' hc' => hc c' (List.mem_cons_of_mem _ hc'))
    simp only [List.length_cons]
    omega
