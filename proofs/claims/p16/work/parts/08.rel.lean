/-- what a picture's value is of -/
def zval (X : Nat → Value → Prop) (ws : va_W) (a : zv) (v : Value) : Prop := match a with
  | .inl none => v = .null
  | .inl (some k) => (k < 1000000 ∧ ∃ q : Nat × va_E, ws[k]? = some q ∧ v = .ref q.1) ∨ (1000000 ≤ k ∧ X k v)
  | .inr (.inl (x, none)) => v = .int x
  | .inr (.inl (x, some y)) => ∃ z : Int32, v = .int z ∧ x ≤ z ∧ z ≤ y
  | .inr (.inr (.inl w)) => v = .long w
  | .inr (.inr (.inr c)) => ∃ z : Int32, v = .int z ∧ z &&& 31 = c
def zS (X : Nat → Value → Prop) (ws : va_W) : List zv → List Value → Prop
  | [], [] => True
  | a :: st, v :: vs => zval X ws a v ∧ zS X ws st vs
  | _, _ => False
def zin (a : Int32 × Option Int32) (x : Int32) : Prop := match a.2 with
  | none => x = a.1
  | some y => a.1 ≤ x ∧ x ≤ y
section ZRel
variable {X : Nat → Value → Prop} {ws ws' : va_W}
theorem zS_nil {vs : List Value} (h : zS X ws [] vs) : vs = [] := by
  cases vs with
  | nil => rfl
  | cons v t => exact h.elim
theorem zS_cons {a : zv} {st : List zv} {vs : List Value} (h : zS X ws (a :: st) vs) : ∃ (v : Value) (t : List Value), vs = v :: t ∧ zval X ws a v ∧ zS X ws st t := by
  cases vs with
  | nil => exact h.elim
  | cons v t => exact ⟨v, t, rfl, h.1, h.2⟩
theorem zS_len : ∀ {st : List zv} {vs : List Value}, zS X ws st vs → vs.length = st.length
  | [], [], _ => rfl
  | a :: st, v :: vs, h => by simp [zS_len h.2]
  | [], _ :: _, h => h.elim
  | _ :: _, [], h => h.elim
theorem zS_get : ∀ {st : List zv} {vs : List Value} {i : Nat} {a : zv}, zS X ws st vs → st[i]? = some a → ∃ v, vs[i]? = some v ∧ zval X ws a v
  | [], [], i, a, _, h => by simp at h
  | b :: st, v :: vs, 0, a, hs, h => by
    simp at h
    subst h
    exact ⟨v, by simp, hs.1⟩
  | b :: st, v :: vs, i + 1, a, hs, h => by
    simp at h
    obtain ⟨w, h1, h2⟩ := zS_get hs.2 h
    exact ⟨w, by simpa using h1, h2⟩
  | [], _ :: _, _, _, h, _ => h.elim
  | _ :: _, [], _, _, h, _ => h.elim
theorem zS_set : ∀ {st : List zv} {vs : List Value} {i : Nat} {a : zv} {v : Value}, zS X ws st vs → zval X ws a v → zS X ws (st.set i a) (vs.set i v)
  | [], [], _, _, _, _, _ => by simp [zS]
  | b :: st, w :: vs, 0, a, v, hs, h => by
    simp only [List.set_cons_zero]
    exact ⟨h, hs.2⟩
  | b :: st, w :: vs, i + 1, a, v, hs, h => by
    simp only [List.set_cons_succ]
    exact ⟨hs.1, zS_set hs.2 h⟩
  | [], _ :: _, _, _, _, h, _ => h.elim
  | _ :: _, [], _, _, _, h, _ => h.elim
theorem zS_app : ∀ {s1 : List zv} {v1 : List Value} {s2 : List zv} {v2 : List Value}, zS X ws s1 v1 → zS X ws s2 v2 → zS X ws (s1 ++ s2) (v1 ++ v2)
  | [], [], _, _, _, h => h
  | _ :: _, _ :: _, _, _, h, h2 => ⟨h.1, zS_app h.2 h2⟩
  | [], _ :: _, _, _, h, _ => h.elim
  | _ :: _, [], _, _, h, _ => h.elim
theorem zval_mono (hm : ∀ (k : Nat) (q : Nat × va_E), ws[k]? = some q → ∃ q' : Nat × va_E, ws'[k]? = some q' ∧ q'.1 = q.1) {a : zv} {v : Value} (h : zval X ws a v) : zval X ws' a v := by
  rcases a with (_ | k) | ((⟨x, _ | y⟩) | (w | c))
  · exact h
  · rcases h with ⟨h0, q, h1, h2⟩ | h
    · obtain ⟨q', h3, h4⟩ := hm k q h1
      exact Or.inl ⟨h0, q', h3, by rw [h4]; exact h2⟩
    · exact Or.inr h
  · exact h
  · exact h
  · exact h
  · exact h
theorem zS_mono (hm : ∀ (k : Nat) (q : Nat × va_E), ws[k]? = some q → ∃ q' : Nat × va_E, ws'[k]? = some q' ∧ q'.1 = q.1) : ∀ {st : List zv} {vs : List Value}, zS X ws st vs → zS X ws' st vs
  | [], [], h => h
  | _ :: _, _ :: _, h => ⟨zval_mono hm h.1, zS_mono hm h.2⟩
  | [], _ :: _, h => h.elim
  | _ :: _, [], h => h.elim
theorem zval_int {a : Int32 × Option Int32} {v : Value} : zval X ws (.inr (.inl a)) v ↔ ∃ x : Int32, v = .int x ∧ zin a x := by
  obtain ⟨x, _ | y⟩ := a
  · constructor
    · intro h
      exact ⟨x, h, rfl⟩
    · rintro ⟨z, h, e⟩
      have e : z = x := e
      subst e
      exact h
  · constructor
    · rintro ⟨z, h1, h2, h3⟩
      exact ⟨z, h1, h2, h3⟩
    · rintro ⟨z, h1, h2, h3⟩
      exact ⟨z, h1, h2, h3⟩
theorem zval_zi {x : Int32} : zval X ws (zi x) (.int x) := rfl
theorem z_lo (z : Int32) : (-2147483648 : Int32) ≤ z := by
  rw [Int32.le_iff_toInt_le]
  have h1 : (-2147483648 : Int32).toInt = -2147483648 := by decide
  have h2 := Int32.le_toInt z
  omega
theorem z_hi (z : Int32) : z ≤ (2147483647 : Int32) := by
  rw [Int32.le_iff_toInt_le]
  have h1 : (2147483647 : Int32).toInt = 2147483647 := by decide
  have h2 := Int32.toInt_lt z
  omega
theorem zval_full (z : Int32) : zval X ws zfull (.int z) := ⟨z, rfl, z_lo z, z_hi z⟩
theorem zint {a : zv} {v : Value} (h : zisI a = true) (hv : zval X ws a v) : ∃ x : Int32, v = .int x := by
  rcases a with (_ | k) | ((⟨x, _ | y⟩) | (w | c))
  · cases h
  · cases h
  · exact ⟨x, hv⟩
  · obtain ⟨z, h1, -⟩ := hv; exact ⟨z, h1⟩
  · cases h
  · obtain ⟨z, h1, -⟩ := hv; exact ⟨z, h1⟩
theorem zref (hX : ∀ k v, X k v → v = .null ∨ ∃ q, v = .ref q) {a : zv} {v : Value} (h : zisA a = true) (hv : zval X ws a v) : v = .null ∨ ∃ q, v = .ref q := by
  rcases a with (_ | k) | ((⟨x, _ | y⟩) | (w | c))
  · exact Or.inl hv
  · rcases hv with ⟨-, q, -, h2⟩ | ⟨-, h2⟩
    · exact Or.inr ⟨_, h2⟩
    · exact hX k v h2
  all_goals cases h
theorem zlong {a : zv} {v : Value} (h : zisL a = true) (hv : zval X ws a v) : ∃ w : Int64, a = .inr (.inr (.inl w)) ∧ v = .long w := by
  rcases a with (_ | k) | ((⟨x, _ | y⟩) | (w | c))
  case inr.inr.inl => exact ⟨w, rfl, hv⟩
  all_goals cases h
theorem zcat1 (hX : ∀ k v, X k v → v = .null ∨ ∃ q, v = .ref q) {a : zv} {v : Value} (h : zisL a = false) (hv : zval X ws a v) : v.category = 1 := by
  cases hI : zisI a with
  | true => obtain ⟨x, rfl⟩ := zint hI hv; rfl
  | false =>
    cases hA : zisA a with
    | true => rcases zref hX hA hv with rfl | ⟨q, rfl⟩ <;> rfl
    | false => rcases a with (_ | k) | (_ | (w | c)) <;> simp [zisI, zisA, zisL] at h hI hA
theorem bop_ok {f : Int32 → Int32 → Int32} {a b c : zv} {v w : Value} (h : bop f a b = some c) (hv : zval X ws a v) (hw : zval X ws b w) : ∃ x y : Int32, v = .int x ∧ w = .int y ∧ zval X ws c (.int (f x y)) := by
  unfold bop at h
  split at h
  · rw [frcI_eq] at h
    cases h
    exact ⟨_, _, hv, hw, rfl⟩
  · cases h
    obtain ⟨x, rfl, -⟩ := zval_int.mp hv
    obtain ⟨y, rfl, -⟩ := zval_int.mp hw
    exact ⟨x, y, rfl, rfl, zval_full _⟩
  · cases h
theorem zand_ok {a b c : zv} {v w : Value} (h : zand a b = some c) (hv : zval X ws a v) (hw : zval X ws b w) : ∃ x y : Int32, v = .int x ∧ w = .int y ∧ zval X ws c (.int (x &&& y)) := by
  unfold zand at h
  split at h
  · rename_i d y
    obtain ⟨x, rfl, hx⟩ := hv
    have hw : w = .int y := hw
    cases hd : decide (y = 31) with
    | false => rw [hd] at h; cases h
    | true =>
      rw [hd] at h
      cases h
      have hy := of_decide_eq_true hd
      subst hy
      exact ⟨x, 31, rfl, hw, by rw [hx]; rfl⟩
  · exact bop_ok h hv hw
theorem lop_ok {f : Int64 → Int64 → Int64} {a b c : zv} {v w : Value} (h : lop f a b = some c) (hv : zval X ws a v) (hw : zval X ws b w) : ∃ x y : Int64, v = .long x ∧ w = .long y ∧ zval X ws c (.long (f x y)) := by
  unfold lop at h
  split at h
  · rw [frcL_eq] at h
    cases h
    exact ⟨_, _, hv, hw, rfl⟩
  · cases h
end ZRel
theorem zhi_ok {a : Int32 × Option Int32} {x : Int32} (h : zin a x) : a.1 ≤ x ∧ x ≤ zhi a := by
  obtain ⟨l, _ | y⟩ := a
  · have h : x = l := h
    subst h
    exact ⟨Int32.le_refl _, Int32.le_refl _⟩
  · exact h
theorem zltb_ok {a b : Int32 × Option Int32} {x y : Int32} {t : Bool} (h : zltb a b = some t) (hx : zin a x) (hy : zin b y) : (t = true → x < y) ∧ (t = false → ¬ x < y) := by
  obtain ⟨a1, a2⟩ := zhi_ok hx
  obtain ⟨b1, b2⟩ := zhi_ok hy
  unfold zltb at h
  cases h1 : decide (zhi a < b.1) with
  | true =>
    rw [h1] at h
    cases h
    have h2 := of_decide_eq_true h1
    refine ⟨fun _ => ?_, fun e => (by cases e)⟩
    rw [Int32.lt_iff_toInt_lt] at *
    rw [Int32.le_iff_toInt_le] at *
    omega
  | false =>
    rw [h1] at h
    cases h3 : decide (zhi b ≤ a.1) with
    | true =>
      rw [h3] at h
      cases h
      have h2 := of_decide_eq_true h3
      refine ⟨fun e => (by cases e), fun _ => ?_⟩
      rw [Int32.lt_iff_toInt_lt]
      rw [Int32.le_iff_toInt_le] at *
      omega
    | false => rw [h3] at h; cases h
theorem zeqb_ok {a b : Int32 × Option Int32} {x y : Int32} {t : Bool} (h : zeqb a b = some t) (hx : zin a x) (hy : zin b y) : (t = true → x = y) ∧ (t = false → ¬ x = y) := by
  obtain ⟨a1, a2⟩ := zhi_ok hx
  obtain ⟨b1, b2⟩ := zhi_ok hy
  unfold zeqb at h
  split at h
  · rename_i e1 e2
    unfold zin at hx hy
    rw [e1] at hx
    rw [e2] at hy
    have hx : x = a.1 := hx
    have hy : y = b.1 := hy
    cases h
    rw [hx, hy]
    exact ⟨fun e => of_decide_eq_true e, fun e => of_decide_eq_false e⟩
  · cases h1 : decide (zhi a < b.1) || decide (zhi b < a.1) with
    | true =>
      rw [h1] at h
      cases h
      refine ⟨fun e => (by cases e), fun _ e => ?_⟩
      subst e
      simp only [Bool.or_eq_true, decide_eq_true_eq] at h1
      rw [Int32.lt_iff_toInt_lt, Int32.lt_iff_toInt_lt] at h1
      rw [Int32.le_iff_toInt_le] at *
      omega
    | false => rw [h1] at h; cases h
theorem zmap_not {o : Option Bool} {t : Bool} (h : o.map (fun t => !t) = some t) : o = some (!t) := by
  cases o with
  | none => cases h
  | some b => cases h; simp
