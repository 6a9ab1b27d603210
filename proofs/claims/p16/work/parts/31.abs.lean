/-! PICTURES OF MANY STATES AT ONCE. A slot: an int between two, a cell of a type (may it be null), a long. A type: an array (kind, length, what its elements are up to which place), an object (class, slots). A value: an int between two, a named cell, else (0 null, 1 some reference, 2 a long, 3 + k the k-th text). Names below 100 are the only cell of that type; the others stand in a row of types. -/
abbrev qs : Type := (Int × Int) ⊕ ((Nat × Bool) ⊕ Unit)
abbrev qt : Type := (Nat × Nat × List (Nat × qs)) ⊕ (Nat × List qs)
abbrev qv : Type := (Int × Int) ⊕ (Nat ⊕ Nat)
/-- where a number on the stack comes from: a local, a slot of a named cell -/
abbrev qo : Type := Option (Nat ⊕ (Nat × Nat))
abbrev qf : Type := List ((Nat × Nat) × (Int × Int))
/-- locals, stack, the types of the names from 100 on, what is known of slots -/
abbrev qS : Type := List (Option qv) × List (qv × qo) × List Nat × qf
noncomputable def frcZ {β : Type} (x : Int) (k : Int → β) : β := match x with
  | .ofNat n => frc n (fun m => k (.ofNat m))
  | .negSucc n => frc n (fun m => k (.negSucc m))
theorem frcZ_eq {β : Type} (x : Int) (k : Int → β) : frcZ x k = k x := by
  cases x with
  | ofNat n => exact frc_eq n (fun m => k (.ofNat m))
  | negSucc n => exact frc_eq n (fun m => k (.negSucc m))
noncomputable def frcP {β : Type} (p : Int × Int) (k : Int × Int → β) : β := frcZ p.1 (fun a => frcZ p.2 (fun b => k (a, b)))
theorem frcP_eq {β : Type} (p : Int × Int) (k : Int × Int → β) : frcP p k = k p := by
  unfold frcP
  rw [frcZ_eq, frcZ_eq]
def qMin : Int := -2147483648
def qMax : Int := 2147483647
def qfull : Int × Int := (-2147483648, 2147483647)
def qin (p : Int × Int) (x : Int32) : Prop := p.1 ≤ x.toInt ∧ x.toInt ≤ p.2
def qex1 (p : Int × Int) : Bool := decide (p.1 = p.2)
def qsub1 (a b : Int × Int) : Bool := decide (b.1 ≤ a.1) && decide (a.2 ≤ b.2)
theorem qsub1_ok {a b : Int × Int} {x : Int32} (h : qsub1 a b = true) (hx : qin a x) : qin b x := by
  unfold qsub1 at h
  simp only [Bool.and_eq_true, decide_eq_true_eq] at h
  exact ⟨Int.le_trans h.1 hx.1, Int.le_trans hx.2 h.2⟩
theorem qin_full (x : Int32) : qin qfull x := ⟨Int32.le_toInt x, by
  have := Int32.toInt_lt x
  show x.toInt ≤ 2147483647
  omega⟩
theorem qin_ex (x : Int32) : qin (x.toInt, x.toInt) x := ⟨Int.le_refl _, Int.le_refl _⟩
theorem qin_of {p : Int × Int} {x : Int32} (he : qex1 p = true) (h : qin p x) : x = Int32.ofInt p.1 := by
  have he : p.1 = p.2 := of_decide_eq_true he
  have h1 : x.toInt = p.1 := by
    obtain ⟨h1, h2⟩ := h
    omega
  rw [← h1]
  exact (Int32.ofInt_toInt x).symm
/-- a row of numbers that is certainly right -/
def qfit (p : Int × Int) : Int × Int := bif decide (qMin ≤ p.1) && decide (p.2 ≤ qMax) then p else qfull
def qadd (a b : Int × Int) : Int × Int := qfit (a.1 + b.1, a.2 + b.2)
def qsbt (a b : Int × Int) : Int × Int := qfit (a.1 - b.2, a.2 - b.1)
def qmul (a b : Int × Int) : Int × Int := bif decide (0 ≤ a.1) && decide (0 ≤ b.1) then qfit (a.1 * b.1, a.2 * b.2) else qfull
def qand (a b : Int × Int) : Int × Int := bif decide (0 ≤ b.1) then (0, b.2) else bif decide (0 ≤ a.1) then (0, a.2) else qfull
def qor (a b : Int × Int) : Int × Int := bif decide (0 ≤ a.1) && (decide (0 ≤ b.1) && (decide (a.2 < 64) && decide (b.2 < 64))) then (0, 63) else bif decide (0 ≤ a.1) && (decide (0 ≤ b.1) && (decide (a.2 < 2097152) && decide (b.2 < 2097152))) then (0, 2097151) else qfull
def qshl (a b : Int × Int) : Int × Int := bif decide (a.1 = 1) && (decide (a.2 = 1) && (decide (0 ≤ b.1) && decide (b.2 ≤ 20))) then (bif decide (b.2 ≤ 5) then (1, 32) else (1, 1048576)) else qfull
def qshr (a b : Int × Int) : Int × Int := bif decide (0 ≤ a.1) then (0, a.2) else qfull
def qany (_ _ : Int × Int) : Int × Int := qfull
/-- two known ones are reckoned, else what is certainly right -/
noncomputable def qbop (f : Int32 → Int32 → Int32) (g : Int × Int → Int × Int → Int × Int) (a b : Int × Int) : Int × Int := bif qex1 a && qex1 b then frcZ (f (Int32.ofInt a.1) (Int32.ofInt b.1)).toInt (fun z => (z, z)) else frcP (g a b) (fun p => p)
theorem qbop_ok {f : Int32 → Int32 → Int32} {g : Int × Int → Int × Int → Int × Int} (hg : ∀ (a b : Int × Int) (x y : Int32), qin a x → qin b y → qin (g a b) (f x y)) {a b : Int × Int} {x y : Int32} (hx : qin a x) (hy : qin b y) : qin (qbop f g a b) (f x y) := by
  unfold qbop
  cases h : qex1 a && qex1 b with
  | false =>
    simp only [cond_false, frcP_eq]
    exact hg a b x y hx hy
  | true =>
    simp only [cond_true, frcZ_eq]
    simp only [Bool.and_eq_true] at h
    rw [qin_of h.1 hx, qin_of h.2 hy]
    exact qin_ex _
theorem qfit_ok {p : Int × Int} {x : Int32} (h : (qMin ≤ p.1 → p.2 ≤ qMax → qin p x)) : qin (qfit p) x := by
  unfold qfit
  cases hb : decide (qMin ≤ p.1) && decide (p.2 ≤ qMax) with
  | false => exact qin_full x
  | true =>
    simp only [Bool.and_eq_true, decide_eq_true_eq] at hb
    exact h hb.1 hb.2
theorem z32 {z : Int} (h1 : qMin ≤ z) (h2 : z ≤ qMax) : z.bmod (2 ^ 32) = z := by
  unfold qMin at h1
  unfold qMax at h2
  apply Int.bmod_eq_of_le <;> omega
theorem qadd_ok (a b : Int × Int) (x y : Int32) (hx : qin a x) (hy : qin b y) : qin (qadd a b) (x + y) := by
  refine qfit_ok (fun h1 h2 => ?_)
  obtain ⟨x1, x2⟩ := hx
  obtain ⟨y1, y2⟩ := hy
  simp only at h1 h2
  have e : (x + y).toInt = x.toInt + y.toInt := by
    rw [Int32.toInt_add]
    exact z32 (by omega) (by omega)
  unfold qin
  rw [e]
  simp only
  omega
theorem qsbt_ok (a b : Int × Int) (x y : Int32) (hx : qin a x) (hy : qin b y) : qin (qsbt a b) (x - y) := by
  refine qfit_ok (fun h1 h2 => ?_)
  obtain ⟨x1, x2⟩ := hx
  obtain ⟨y1, y2⟩ := hy
  simp only at h1 h2
  have e : (x - y).toInt = x.toInt - y.toInt := by
    rw [Int32.toInt_sub]
    exact z32 (by omega) (by omega)
  unfold qin
  rw [e]
  simp only
  omega
theorem qmul_ok (a b : Int × Int) (x y : Int32) (hx : qin a x) (hy : qin b y) : qin (qmul a b) (x * y) := by
  unfold qmul
  cases hb : decide (0 ≤ a.1) && decide (0 ≤ b.1) with
  | false => exact qin_full _
  | true =>
    simp only [Bool.and_eq_true, decide_eq_true_eq] at hb
    simp only [cond_true]
    refine qfit_ok (fun h1 h2 => ?_)
    obtain ⟨x1, x2⟩ := hx
    obtain ⟨y1, y2⟩ := hy
    simp only at h1 h2
    have l1 : a.1 * b.1 ≤ x.toInt * y.toInt := Int.mul_le_mul x1 y1 hb.2 (by omega)
    have l2 : x.toInt * y.toInt ≤ a.2 * b.2 := Int.mul_le_mul x2 y2 (by omega) (by omega)
    have e : (x * y).toInt = x.toInt * y.toInt := by
      rw [Int32.toInt_mul]
      exact z32 (by omega) (by omega)
    unfold qin
    rw [e]
    exact ⟨l1, l2⟩
theorem ztoNat {x : Int32} (h : 0 ≤ x.toInt) : x.toInt = x.toBitVec.toNat := by
  show x.toBitVec.toInt = _
  have h : 0 ≤ x.toBitVec.toInt := h
  rw [BitVec.toInt_eq_toNat_cond] at h ⊢
  split at h
  · rw [if_pos (by assumption)]
  · have := x.toBitVec.isLt
    omega
theorem ztoInt {x : Int32} (h : x.toBitVec.toNat < 2147483648) : x.toInt = x.toBitVec.toNat := by
  show x.toBitVec.toInt = _
  rw [BitVec.toInt_eq_toNat_cond, if_pos (by omega)]
theorem zand_le {x y : Int32} (hy : 0 ≤ y.toInt) : 0 ≤ (x &&& y).toInt ∧ (x &&& y).toInt ≤ y.toInt := by
  have h1 : (x &&& y).toBitVec = x.toBitVec &&& y.toBitVec := Int32.toBitVec_and ..
  have e1 : y.toInt = y.toBitVec.toNat := ztoNat hy
  have hn : (x &&& y).toBitVec.toNat ≤ y.toBitVec.toNat := by
    rw [h1, BitVec.toNat_and]
    exact Nat.and_le_right
  have hlt : y.toBitVec.toNat < 2147483648 := by
    have := Int32.toInt_lt y
    omega
  have e2 : (x &&& y).toInt = (x &&& y).toBitVec.toNat := by
    show (x &&& y).toBitVec.toInt = _
    rw [BitVec.toInt_eq_toNat_cond, if_pos (by omega)]
  rw [e2, e1]
  omega
theorem zand_comm (x y : Int32) : x &&& y = y &&& x := by
  apply Int32.toBitVec_inj.mp
  rw [Int32.toBitVec_and, Int32.toBitVec_and, BitVec.and_comm]
theorem qand_ok (a b : Int × Int) (x y : Int32) (hx : qin a x) (hy : qin b y) : qin (qand a b) (x &&& y) := by
  unfold qand
  cases hb : decide (0 ≤ b.1) with
  | true =>
    simp only [cond_true]
    have hb := of_decide_eq_true hb
    have := zand_le (x := x) (y := y) (by have := hy.1; omega)
    exact ⟨this.1, Int.le_trans this.2 hy.2⟩
  | false =>
    simp only [cond_false]
    cases ha : decide (0 ≤ a.1) with
    | true =>
      simp only [cond_true]
      have ha := of_decide_eq_true ha
      have := zand_le (x := y) (y := x) (by have := hx.1; omega)
      rw [zand_comm] at this
      exact ⟨this.1, Int.le_trans this.2 hx.2⟩
    | false => exact qin_full _
theorem zor_lt {x y : Int32} {k : Nat} (hk : k ≤ 31) (hx : 0 ≤ x.toInt) (hy : 0 ≤ y.toInt) (hx2 : x.toInt < (2 ^ k : Nat)) (hy2 : y.toInt < (2 ^ k : Nat)) : 0 ≤ (x ||| y).toInt ∧ (x ||| y).toInt < (2 ^ k : Nat) := by
  rw [ztoNat hx] at hx2
  rw [ztoNat hy] at hy2
  have h1 : (x ||| y).toBitVec = x.toBitVec ||| y.toBitVec := Int32.toBitVec_or ..
  have hn : (x ||| y).toBitVec.toNat < 2 ^ k := by
    rw [h1, BitVec.toNat_or]
    exact Nat.or_lt_two_pow (by omega) (by omega)
  have hp : 2 ^ k ≤ 2 ^ 31 := Nat.pow_le_pow_right (by decide) hk
  rw [ztoInt (by omega)]
  omega
theorem qor_ok (a b : Int × Int) (x y : Int32) (hx : qin a x) (hy : qin b y) : qin (qor a b) (x ||| y) := by
  unfold qor
  cases h1 : decide (0 ≤ a.1) && (decide (0 ≤ b.1) && (decide (a.2 < 64) && decide (b.2 < 64))) with
  | true =>
    simp only [cond_true]
    simp only [Bool.and_eq_true, decide_eq_true_eq] at h1
    have := zor_lt (x := x) (y := y) (k := 6) (by decide) (by have := hx.1; omega) (by have := hy.1; omega) (by have := hx.2; omega) (by have := hy.2; omega)
    exact ⟨this.1, by have := this.2; show _ ≤ (63 : Int); omega⟩
  | false =>
    simp only [cond_false]
    cases h2 : decide (0 ≤ a.1) && (decide (0 ≤ b.1) && (decide (a.2 < 2097152) && decide (b.2 < 2097152))) with
    | true =>
      simp only [cond_true]
      simp only [Bool.and_eq_true, decide_eq_true_eq] at h2
      have := zor_lt (x := x) (y := y) (k := 21) (by decide) (by have := hx.1; omega) (by have := hy.1; omega) (by have := hx.2; omega) (by have := hy.2; omega)
      exact ⟨this.1, by have := this.2; show _ ≤ (2097151 : Int); omega⟩
    | false => exact qin_full _
theorem zshl_tab : ∀ n, n < 21 → (1 ≤ ((1 : Int32) <<< (nI n &&& 31)).toInt ∧ ((1 : Int32) <<< (nI n &&& 31)).toInt ≤ 1048576) ∧ (n < 6 → ((1 : Int32) <<< (nI n &&& 31)).toInt ≤ 32) := by decide +kernel
theorem qshl_ok (a b : Int × Int) (x y : Int32) (hx : qin a x) (hy : qin b y) : qin (qshl a b) (x <<< (y &&& 31)) := by
  unfold qshl
  cases h1 : decide (a.1 = 1) && (decide (a.2 = 1) && (decide (0 ≤ b.1) && decide (b.2 ≤ 20))) with
  | false => exact qin_full _
  | true =>
    simp only [cond_true]
    simp only [Bool.and_eq_true, decide_eq_true_eq] at h1
    obtain ⟨a1, a2, b1, b2⟩ := h1
    obtain ⟨x1, x2⟩ := hx
    obtain ⟨y1, y2⟩ := hy
    have ex : x = 1 := by
      apply Int32.toInt_inj.mp
      have : (1 : Int32).toInt = 1 := by decide
      omega
    subst ex
    obtain ⟨j, hj, rfl⟩ := nI_of2 (x := y) (M := 20) (n := 20) (by decide) (by
      rw [Int32.lt_iff_toInt_lt]
      have : (0 : Int32).toInt = 0 := by decide
      omega) (by
      rw [Int32.le_iff_toInt_le]
      have : (20 : Int32).toInt = 20 := by decide
      omega)
    obtain ⟨t1, t2⟩ := zshl_tab j (by omega)
    cases h5 : decide (b.2 ≤ 5) with
    | false => exact t1
    | true =>
      have h5 := of_decide_eq_true h5
      refine ⟨t1.1, t2 ?_⟩
      have e : (nI j).toInt = j := by
        have : ∀ n, n < 21 → (nI n).toInt = n := by decide +kernel
        exact this j (by omega)
      omega
theorem zshr_le {x y : Int32} (hx : 0 ≤ x.toInt) : 0 ≤ (x >>> (y &&& 31)).toInt ∧ (x >>> (y &&& 31)).toInt ≤ x.toInt := by
  have h1 : (x >>> (y &&& 31)).toBitVec = x.toBitVec.sshiftRight' ((y &&& 31).toBitVec.smod 32) := Int32.toBitVec_shiftRight ..
  have hm : x.toBitVec.msb = false := by
    rw [BitVec.msb_eq_false_iff_two_mul_lt]
    have h2 := ztoNat hx
    have h3 := Int32.toInt_lt x
    omega
  have hn : (x >>> (y &&& 31)).toBitVec.toNat ≤ x.toBitVec.toNat := by
    rw [h1, BitVec.toNat_sshiftRight'_of_msb_false hm, Nat.shiftRight_eq_div_pow]
    exact Nat.div_le_self _ _
  have h2 := ztoNat hx
  have h3 := Int32.toInt_lt x
  rw [ztoInt (by omega)]
  omega
theorem qshr_ok (a b : Int × Int) (x y : Int32) (hx : qin a x) (_ : qin b y) : qin (qshr a b) (x >>> (y &&& 31)) := by
  unfold qshr
  cases h1 : decide (0 ≤ a.1) with
  | false => exact qin_full _
  | true =>
    have h1 := of_decide_eq_true h1
    have := zshr_le (x := x) (y := y) (by have := hx.1; omega)
    exact ⟨this.1, Int.le_trans this.2 hx.2⟩
