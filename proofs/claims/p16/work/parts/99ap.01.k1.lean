/-! bits counted; pairs counted -/
def ush (k : Nat) (x : Int32) : Int32 := (x.toUInt32 >>> ((nI k).toUInt32 &&& Int32.toUInt32 31)).toInt32
theorem ush_nI {n k : Nat} (hn : n < 2 ^ 32) (hk : k < 32) : ush k (nI n) = nI (n >>> k) := b_ext (fun i hi => by
  unfold ush
  rw [b_ushr k hk, bt_nI hi, Nat.testBit_shiftRight]
  rcases Nat.lt_or_ge (k + i) 32 with q | q
  · rw [bt_nI q]
  · rw [b_big q, Nat.testBit_lt_two_pow (Nat.lt_of_lt_of_le hn (Nat.pow_le_pow_right (by decide) q))])
theorem and_nI {a b : Nat} : nI a &&& nI b = nI (a &&& b) := b_ext (fun i hi => by rw [b_and, bt_nI hi, bt_nI hi, bt_nI hi, Nat.testBit_and])
theorem add_nI {a b : Nat} : nI a + nI b = nI (a + b) := (Int32.ofNat_add a b).symm
theorem sub_nI {a b : Nat} (h : b ≤ a) : nI a - nI b = nI (a - b) := by
  have e : nI a = nI (a - b) + nI b := by rw [add_nI, Nat.sub_add_cancel h]
  rw [e, Int32.add_sub_cancel]
def bc1 (x : Int32) : Int32 := x - (ush 1 x &&& Int32.ofNat 1431655765)
def bc2 (x : Int32) : Int32 := (x &&& Int32.ofNat 858993459) + (ush 2 x &&& Int32.ofNat 858993459)
def bc3 (x : Int32) : Int32 := (x + ush 4 x) &&& Int32.ofNat 252645135
def bc4 (x : Int32) : Int32 := x + ush 8 x
def bc5 (x : Int32) : Int32 := (x + ush 16 x) &&& 63
theorem bcF_e (x : Int32) : bcF x = bc5 (bc4 (bc3 (bc2 (bc1 x)))) := rfl
def qf1 (M n : Nat) : Nat := n - ((n >>> 1) &&& M)
def qf2 (M n : Nat) : Nat := (n &&& M) + ((n >>> 2) &&& M)
def qf3 (M n : Nat) : Nat := (n + (n >>> 4)) &&& M
theorem sr_le {n k : Nat} : n >>> k ≤ n := by
  rw [Nat.shiftRight_eq_div_pow]
  exact Nat.div_le_self _ _
theorem bc1_nI {n : Nat} (h : n < 2 ^ 32) : bc1 (nI n) = nI (qf1 1431655765 n) := by
  unfold bc1 qf1
  rw [ush_nI h (by decide), show Int32.ofNat 1431655765 = nI 1431655765 from rfl, and_nI, sub_nI (Nat.le_trans Nat.and_le_left sr_le)]
theorem bc2_nI {n : Nat} (h : n < 2 ^ 32) : bc2 (nI n) = nI (qf2 858993459 n) := by
  unfold bc2 qf2
  rw [ush_nI h (by decide), show Int32.ofNat 858993459 = nI 858993459 from rfl, and_nI, and_nI, add_nI]
theorem bc3_nI {n : Nat} (h : n < 2 ^ 32) : bc3 (nI n) = nI (qf3 252645135 n) := by
  unfold bc3 qf3
  rw [ush_nI h (by decide), show Int32.ofNat 252645135 = nI 252645135 from rfl, add_nI, and_nI]
theorem and_s {x m M : Nat} (hm : m < 256) : x &&& (m + 256 * M) = ((x % 256) &&& m) + 256 * ((x / 256) &&& M) := by
  have h1 : (x &&& (m + 256 * M)) % 256 = (x % 256) &&& ((m + 256 * M) % 256) := Nat.and_mod_two_pow (n := 8)
  have h2 : (x &&& (m + 256 * M)) / 256 = (x / 256) &&& ((m + 256 * M) / 256) := Nat.and_div_two_pow (n := 8)
  have e1 : (m + 256 * M) % 256 = m := by omega
  have e2 : (m + 256 * M) / 256 = M := by omega
  rw [e1] at h1
  rw [e2] at h2
  have h3 := Nat.mod_add_div (x &&& (m + 256 * M)) 256
  rw [h1, h2] at h3
  exact h3.symm
theorem qtab1 : ∀ u, u < 128 → ∀ b, b < 2 → (u + 128 * b) &&& 85 = u &&& 85 := by decide +kernel
theorem qtab2 : ∀ u, u < 64 → ∀ b, b < 4 → (u + 64 * b) &&& 51 = u &&& 51 := by decide +kernel
theorem qf1_s {a r M : Nat} (ha : a < 256) : qf1 (85 + 256 * M) (a + 256 * r) = (a - ((a / 2) &&& 85)) + 256 * qf1 M r := by
  unfold qf1
  rw [Nat.shiftRight_eq_div_pow, Nat.shiftRight_eq_div_pow, and_s (by decide)]
  have e1 : (a + 256 * r) / 2 ^ 1 % 256 = a / 2 + 128 * (r % 2) := by omega
  have e2 : (a + 256 * r) / 2 ^ 1 / 256 = r / 2 ^ 1 := by omega
  rw [e1, e2, qtab1 _ (by omega) _ (by omega)]
  have l1 : (a / 2) &&& 85 ≤ a := Nat.le_trans Nat.and_le_left (Nat.div_le_self _ _)
  have l2 : (r / 2 ^ 1) &&& M ≤ r := Nat.le_trans Nat.and_le_left (Nat.div_le_self _ _)
  generalize (a / 2) &&& 85 = A at *
  generalize (r / 2 ^ 1) &&& M = B at *
  omega
theorem qf2_s {a r M : Nat} (ha : a < 256) : qf2 (51 + 256 * M) (a + 256 * r) = ((a &&& 51) + ((a / 4) &&& 51)) + 256 * qf2 M r := by
  unfold qf2
  rw [Nat.shiftRight_eq_div_pow, Nat.shiftRight_eq_div_pow, and_s (by decide), and_s (by decide)]
  have e0 : (a + 256 * r) % 256 = a := by omega
  have e9 : (a + 256 * r) / 256 = r := by omega
  have e1 : (a + 256 * r) / 2 ^ 2 % 256 = a / 4 + 64 * (r % 4) := by omega
  have e2 : (a + 256 * r) / 2 ^ 2 / 256 = r / 2 ^ 2 := by omega
  rw [e0, e9, e1, e2, qtab2 _ (by omega) _ (by omega)]
  omega
theorem and15 (x : Nat) : x &&& 15 = x % 16 := Nat.and_two_pow_sub_one_eq_mod x 4
theorem qf3_s {a r M : Nat} (ha : a ≤ 68) (hr : r % 16 ≤ 4) : qf3 (15 + 256 * M) (a + 256 * r) = (a + a / 16) % 16 + 256 * qf3 M r := by
  unfold qf3
  rw [Nat.shiftRight_eq_div_pow, Nat.shiftRight_eq_div_pow, and_s (by decide), and15]
  have e1 : (a + 256 * r + (a + 256 * r) / 2 ^ 4) % 256 % 16 = (a + a / 16) % 16 := by omega
  have e2 : (a + 256 * r + (a + 256 * r) / 2 ^ 4) / 256 = r + r / 2 ^ 4 := by omega
  rw [e1, e2]
def qt1 (x : Nat) : Nat := x - ((x / 2) &&& 85)
def qt2 (y : Nat) : Nat := (y &&& 51) + ((y / 4) &&& 51)
def qt3 (z : Nat) : Nat := (z + z / 16) % 16
/-- the bits of a number -/
def tbs (n : Nat) : Nat → Nat
  | 0 => 0
  | k + 1 => tbs n k + (n.testBit k).toNat
theorem qtab8 : ∀ a, a < 256 → qt1 a < 256 ∧ qt2 (qt1 a) ≤ 68 ∧ qt2 (qt1 a) % 16 ≤ 4 ∧ qt3 (qt2 (qt1 a)) ≤ 8 ∧ qt3 (qt2 (qt1 a)) = tbs a 8 := by decide +kernel
theorem bcF_n {a b c : Nat} (ha : a < 256) (hb : b < 256) (hc : c < 256) : bcF (nI (a + 256 * (b + 256 * c))) = nI (tbs a 8 + tbs b 8 + tbs c 8) := by
  obtain ⟨a1, a2, a3, a4, a5⟩ := qtab8 a ha
  obtain ⟨b1, b2, b3, b4, b5⟩ := qtab8 b hb
  obtain ⟨c1, c2, c3, c4, c5⟩ := qtab8 c hc
  have E1 : qf1 1431655765 (a + 256 * (b + 256 * c)) = qt1 a + 256 * (qt1 b + 256 * qt1 c) := by
    rw [show (1431655765 : Nat) = 85 + 256 * (85 + 256 * (85 + 256 * 85)) from rfl, qf1_s ha, qf1_s hb, show c = c + 256 * 0 from rfl, qf1_s hc]
    rfl
  have E2 : qf2 858993459 (qt1 a + 256 * (qt1 b + 256 * qt1 c)) = qt2 (qt1 a) + 256 * (qt2 (qt1 b) + 256 * qt2 (qt1 c)) := by
    generalize qt1 a = a9 at *
    generalize qt1 b = b9 at *
    generalize qt1 c = c9 at *
    rw [show (858993459 : Nat) = 51 + 256 * (51 + 256 * (51 + 256 * 51)) from rfl, qf2_s a1, qf2_s b1, show c9 = c9 + 256 * 0 from rfl, qf2_s c1]
    rfl
  have E3 : qf3 252645135 (qt2 (qt1 a) + 256 * (qt2 (qt1 b) + 256 * qt2 (qt1 c))) = qt3 (qt2 (qt1 a)) + 256 * (qt3 (qt2 (qt1 b)) + 256 * qt3 (qt2 (qt1 c))) := by
    generalize qt2 (qt1 a) = a9 at *
    generalize qt2 (qt1 b) = b9 at *
    generalize qt2 (qt1 c) = c9 at *
    rw [show (252645135 : Nat) = 15 + 256 * (15 + 256 * (15 + 256 * 15)) from rfl, qf3_s a2 (by omega), qf3_s b2 (by omega), show c9 = c9 + 256 * 0 from rfl, qf3_s c2 (by omega)]
    rfl
  rw [bcF_e, bc1_nI (by omega), E1, bc2_nI (by omega), E2, bc3_nI (by omega), E3, a5, b5, c5]
  rw [a5] at a4
  rw [b5] at b4
  rw [c5] at c4
  generalize tbs a 8 = p at *
  generalize tbs b 8 = q at *
  generalize tbs c 8 = r at *
  unfold bc4
  rw [ush_nI (by omega) (by decide), add_nI, Nat.shiftRight_eq_div_pow, show (p + 256 * (q + 256 * r) + (p + 256 * (q + 256 * r)) / 2 ^ 8 : Nat) = (p + q) + 256 * (q + r) + 65536 * r by omega]
  unfold bc5
  rw [ush_nI (by omega) (by decide), add_nI, show (63 : Int32) = nI 63 from rfl, and_nI, Nat.shiftRight_eq_div_pow, show (p + q + 256 * (q + r) + 65536 * r) / 2 ^ 16 = r by omega, Nat.and_two_pow_sub_one_eq_mod _ 6]
  congr 1
  omega
theorem tbs_8 {n : Nat} : ∀ k, tbs n (8 + k) = tbs (n % 256) 8 + tbs (n / 256) k
  | 0 => by
    show tbs n 8 = tbs (n % 256) 8 + 0
    have e : ∀ i, i < 8 → (n % 256).testBit i = n.testBit i := fun i hi => by
      rw [show (256 : Nat) = 2 ^ 8 from rfl, Nat.testBit_mod_two_pow, decide_eq_true hi, Bool.true_and]
    show ((((((((0 + _) + _) + _) + _) + _) + _) + _) + _) = _
    show _ = ((((((((0 + _) + _) + _) + _) + _) + _) + _) + _) + 0
    rw [e 0 (by decide), e 1 (by decide), e 2 (by decide), e 3 (by decide), e 4 (by decide), e 5 (by decide), e 6 (by decide), e 7 (by decide)]
    exact (Nat.add_zero _).symm
  | k + 1 => by
    show tbs n (8 + k) + (n.testBit (8 + k)).toNat = tbs (n % 256) 8 + (tbs (n / 256) k + ((n / 256).testBit k).toNat)
    rw [tbs_8 k, show (256 : Nat) = 2 ^ 8 from rfl, Nat.testBit_div_two_pow]
    have : 8 + k = k + 8 := Nat.add_comm _ _
    first | omega | (rw [this]; omega)
theorem bcF_t {n : Nat} (h : n < 2 ^ 24) : bcF (nI n) = nI (tbs n 24) := by
  have e : n = n % 256 + 256 * (n / 256 % 256 + 256 * (n / 256 / 256)) := by omega
  have k := bcF_n (a := n % 256) (b := n / 256 % 256) (c := n / 256 / 256) (by omega) (by omega) (by omega)
  rw [← e] at k
  rw [k, tbs_8 (n := n) 16, tbs_8 (n := n / 256) 8, Nat.add_assoc]
theorem tbs_ge {n k : Nat} (h : ∀ i, k ≤ i → n.testBit i = false) : ∀ j, tbs n (k + j) = tbs n k
  | 0 => rfl
  | j + 1 => by
    show tbs n (k + j) + (n.testBit (k + j)).toNat = _
    rw [tbs_ge h j, h (k + j) (Nat.le_add_right _ _)]
    rfl
theorem nI_bv (x : Int32) : nI x.toBitVec.toNat = x := b_ext (fun i hi => by
  rw [bt_nI hi]
  rfl)
-- pairs
noncomputable def dBn (D : dfT) (x y : Nat) : Nat := @ite _ (D (x : Int) (y : Int)) (Classical.propDecidable _) 1 0
theorem dBn_1 {D : dfT} {x y : Nat} (h : D (x : Int) (y : Int)) : dBn D x y = 1 := if_pos h
theorem dBn_0 {D : dfT} {x y : Nat} (h : ¬ D (x : Int) (y : Int)) : dBn D x y = 0 := if_neg h
theorem dBn_le {D : dfT} {x y : Nat} : dBn D x y ≤ 1 := by
  by_cases h : D (x : Int) (y : Int)
  · rw [dBn_1 h]; exact Nat.le_refl _
  · rw [dBn_0 h]; exact Nat.zero_le _
theorem dBn_sym {D : dfT} (s : ∀ a b, D a b → D b a) (x y : Nat) : dBn D x y = dBn D y x := by
  by_cases h : D (x : Int) (y : Int)
  · rw [dBn_1 h, dBn_1 (s _ _ h)]
  · rw [dBn_0 h, dBn_0 (fun q => h (s _ _ q))]
noncomputable def rLo (D : dfT) (x : Nat) : Nat → Nat
  | 0 => 0
  | n + 1 => rLo D x n + dBn D x n
noncomputable def rUp (D : dfT) (x : Nat) : Nat → Nat
  | 0 => 0
  | n + 1 => rUp D x n + (if x ≤ n then dBn D x n else 0)
noncomputable def trA (D : dfT) : Nat → Nat
  | 0 => 0
  | n + 1 => trA D n + rLo D n (n + 1)
noncomputable def trB (D : dfT) (n : Nat) : Nat → Nat
  | 0 => 0
  | m + 1 => trB D n m + rUp D m n
theorem rUp_0 {D : dfT} {x : Nat} : ∀ n, n ≤ x → rUp D x n = 0
  | 0, _ => rfl
  | n + 1, h => by
    show rUp D x n + (if x ≤ n then dBn D x n else 0) = 0
    rw [rUp_0 n (by omega), if_neg (by omega)]
theorem trB_s {D : dfT} (s : ∀ a b, D a b → D b a) {n : Nat} : ∀ m, m ≤ n → trB D (n + 1) m = trB D n m + rLo D n m
  | 0, _ => rfl
  | m + 1, h => by
    have ih := trB_s s (n := n) m (by omega)
    show trB D (n + 1) m + (rUp D m n + (if m ≤ n then dBn D m n else 0)) = (trB D n m + rUp D m n) + (rLo D n m + dBn D n m)
    rw [ih, if_pos (by omega), dBn_sym s m n]
    omega
theorem tr_eq {D : dfT} (s : ∀ a b, D a b → D b a) : ∀ n, trB D n n = trA D n
  | 0 => rfl
  | n + 1 => by
    have ih := tr_eq s n
    show trB D (n + 1) n + (rUp D n n + (if n ≤ n then dBn D n n else 0)) = trA D n + (rLo D n n + dBn D n n)
    rw [trB_s s n (Nat.le_refl _), rUp_0 n (Nat.le_refl _), if_pos (Nat.le_refl _), ih]
    omega
/-- how many pairs -/
noncomputable def pD (D : dfT) : Nat := trA D 21
theorem rLo_le {D : dfT} {x : Nat} : ∀ n, rLo D x n ≤ n
  | 0 => Nat.le_refl _
  | n + 1 => by
    have h1 := rLo_le (D := D) (x := x) n
    have h2 := dBn_le (D := D) (x := x) (y := n)
    show rLo D x n + dBn D x n ≤ n + 1
    omega
theorem trA_le {D : dfT} : ∀ n, n ≤ 21 → trA D n ≤ 21 * n
  | 0, _ => Nat.le_refl _
  | n + 1, h => by
    have h1 := trA_le (D := D) n (by omega)
    have h2 := rLo_le (D := D) (x := n) (n + 1)
    show trA D n + rLo D n (n + 1) ≤ 21 * (n + 1)
    omega
theorem pD_le {D : dfT} : pD D ≤ 441 := trA_le 21 (by decide)
theorem rUp_t {D : dfT} {x m : Nat} (e : ∀ i, x + i < 21 → dBn D x (x + i) = (m.testBit (x + i)).toNat) : ∀ k, x + k ≤ 21 → rUp D x (x + k) = tbs (m >>> x) k
  | 0, _ => rUp_0 x (Nat.le_refl _)
  | k + 1, h => by
    show rUp D x (x + k) + (if x ≤ x + k then dBn D x (x + k) else 0) = tbs (m >>> x) k + ((m >>> x).testBit k).toNat
    rw [rUp_t e k (by omega), if_pos (by omega), e k (by omega), Nat.testBit_shiftRight]
theorem bc_row {D : dfT} (od : okD D) {x : Nat} (hx : x < 21) {v : Int32} (hv : bs_ v (fun y => D (x : Int) (y : Int))) : bcF (v >>> (nI x &&& 31)) = nI (rUp D x 21) := by
  have hb : ∀ i, i < 32 → (v.toBitVec.toNat.testBit i = true ↔ D (x : Int) (i : Int)) := fun i hi => hv i hi
  have hz : ∀ i, 21 ≤ i → v.toBitVec.toNat.testBit i = false := fun i hi => by
    rcases Nat.lt_or_ge i 32 with q | q
    · cases h : v.toBitVec.toNat.testBit i with
      | false => rfl
      | true =>
        have := (od.1 _ _ ((hb i q).mp h)).2
        omega
    · exact b_big (x := v) q
  have hm : v.toBitVec.toNat < 2 ^ 21 := Nat.lt_pow_two_of_testBit _ (fun i hi => hz i hi)
  have key := bcF_t (n := v.toBitVec.toNat >>> x) (Nat.lt_of_le_of_lt sr_le (by omega))
  rw [← nI_bv v, sshr_nI (by omega) (by omega), key]
  have h1 := rUp_t (D := D) (x := x) (m := v.toBitVec.toNat) (fun i hi => by
    by_cases h : D (x : Int) ((x + i : Nat) : Int)
    · rw [dBn_1 h, (hb (x + i) (by omega)).mpr h]
      rfl
    · rw [dBn_0 h]
      cases h9 : v.toBitVec.toNat.testBit (x + i) with
      | false => rfl
      | true => exact absurd ((hb (x + i) (by omega)).mp h9) h) (21 - x) (by omega)
  rw [show x + (21 - x) = 21 by omega] at h1
  have h2 := tbs_ge (n := v.toBitVec.toNat >>> x) (k := 21 - x) (fun i hi => by
    rw [Nat.testBit_shiftRight]
    exact hz _ (by omega)) (24 - (21 - x))
  rw [show 21 - x + (24 - (21 - x)) = 24 by omega] at h2
  rw [h2, h1]
theorem cnt_n {D : dfT} (od : okD D) {f : Nat → Int32} (hf : ∀ x, x < 21 → bs_ (f x) (fun y => D (x : Int) (y : Int))) : ∀ n, n ≤ 21 → cntF f n = nI (trB D 21 n)
  | 0, _ => rfl
  | n + 1, h => by
    show cntF f n + bcF (f n >>> (nI n &&& 31)) = nI (trB D 21 n + rUp D n 21)
    rw [cnt_n od hf n (by omega), bc_row od (by omega) (hf n (by omega)), add_nI]
theorem cnt_pD {D : dfT} (od : okD D) {f : Nat → Int32} (hf : ∀ x, x < 21 → bs_ (f x) (fun y => D (x : Int) (y : Int))) : cntF f 21 = nI (pD D) := by
  rw [cnt_n od hf 21 (Nat.le_refl _), tr_eq od.2]
  rfl
