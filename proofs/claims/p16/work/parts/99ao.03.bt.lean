def btz (x : Int32) (i : Nat) : Bool := x.toBitVec.getLsbD i
theorem b_ext {x y : Int32} (h : ∀ i, i < 32 → btz x i = btz y i) : x = y := Int32.toBitVec_inj.mp (BitVec.eq_of_getLsbD_eq (fun i hi => h i hi))
theorem b_or (x y : Int32) (i : Nat) : btz (x ||| y) i = (btz x i || btz y i) := by unfold btz; rw [Int32.toBitVec_or, BitVec.getLsbD_or]
theorem b_and (x y : Int32) (i : Nat) : btz (x &&& y) i = (btz x i && btz y i) := by unfold btz; rw [Int32.toBitVec_and, BitVec.getLsbD_and]
theorem b_xor (x y : Int32) (i : Nat) : btz (x ^^^ y) i = (btz x i ^^ btz y i) := by unfold btz; rw [Int32.toBitVec_xor, BitVec.getLsbD_xor]
theorem b_big {x : Int32} {i : Nat} (h : 32 ≤ i) : btz x i = false := BitVec.getLsbD_of_ge _ _ h
theorem b_255 (i : Nat) : btz 255 i = decide (i < 8) := by
  rcases Nat.lt_or_ge i 32 with h | h
  · exact (by decide +kernel : ∀ i, i < 32 → btz 255 i = decide (i < 8)) i h
  · rw [b_big h, decide_eq_false (by omega)]
theorem b_65535 (i : Nat) : btz 65535 i = decide (i < 16) := by
  rcases Nat.lt_or_ge i 32 with h | h
  · exact (by decide +kernel : ∀ i, i < 32 → btz 65535 i = decide (i < 16)) i h
  · rw [b_big h, decide_eq_false (by omega)]
theorem b_m1 : ∀ i, i < 32 → btz (-1) i = true := by decide +kernel
theorem b_0 (i : Nat) : btz 0 i = false := BitVec.getLsbD_zero
theorem s_l : ∀ n, n < 32 → ((nI n &&& 31).toBitVec.smod 32).toNat = n := by decide +kernel
theorem s_u : ∀ n, n < 32 → (((nI n).toUInt32 &&& Int32.toUInt32 31).toBitVec % 32).toNat = n := by decide +kernel
theorem b_shl (n : Nat) (hn : n < 32) (x : Int32) {i : Nat} (hi : i < 32) : btz (x <<< (nI n &&& 31)) i = (decide (n ≤ i) && btz x (i - n)) := by
  unfold btz
  rw [Int32.toBitVec_shiftLeft]
  show (x.toBitVec <<< ((nI n &&& 31).toBitVec.smod 32).toNat).getLsbD i = _
  rw [s_l n hn, BitVec.getLsbD_shiftLeft]
  rcases Nat.lt_or_ge i n with h | h
  · simp [h, Nat.not_le.mpr h]
  · simp [hi, h, Nat.not_lt.mpr h]
theorem b_ushr (n : Nat) (hn : n < 32) (x : Int32) (i : Nat) : btz ((x.toUInt32 >>> ((nI n).toUInt32 &&& Int32.toUInt32 31)).toInt32) i = btz x (n + i) := by
  show (x.toUInt32 >>> ((nI n).toUInt32 &&& Int32.toUInt32 31)).toBitVec.getLsbD i = x.toUInt32.toBitVec.getLsbD (n + i)
  rw [UInt32.toBitVec_shiftRight]
  show (x.toUInt32.toBitVec >>> (((nI n).toUInt32 &&& Int32.toUInt32 31).toBitVec % 32).toNat).getLsbD i = _
  rw [s_u n hn, BitVec.getLsbD_ushiftRight]
theorem b_sshr (n : Nat) (hn : n < 32) (x : Int32) {i : Nat} (hi : i < 32) : btz (x >>> (nI n &&& 31)) i = if n + i < 32 then btz x (n + i) else btz x 31 := by
  unfold btz
  rw [Int32.toBitVec_shiftRight]
  show (x.toBitVec.sshiftRight ((nI n &&& 31).toBitVec.smod 32).toNat).getLsbD i = _
  rw [s_l n hn, BitVec.getLsbD_sshiftRight, BitVec.msb_eq_getLsbD_last]
  simp [hi]
/-! bits: rows of ours -/
theorem nI_of_i {x : Int32} {n : Nat} (h : x.toInt = (n : Int)) : x = nI n := by
  have hb : n < 2 ^ 31 := by
    have := Int32.toInt_lt x
    omega
  exact Int32.toInt_inj.mp (by rw [h, nI_toInt hb])
theorem bt_nI {n i : Nat} (hi : i < 32) : btz (nI n) i = n.testBit i := by
  unfold btz nI
  rw [Int32.toBitVec_ofNat', BitVec.getLsbD_ofNat, decide_eq_true hi, Bool.true_and]
theorem sshr_nI {n s : Nat} (hn : n < 2 ^ 31) (hs : s < 32) : nI n >>> (nI s &&& 31) = nI (n >>> s) := b_ext (fun i hi => by
  rw [b_sshr s hs _ hi, bt_nI hi, Nat.testBit_shiftRight]
  split
  · rename_i q
    rw [bt_nI q]
  · rename_i q
    rw [bt_nI (by omega), Nat.testBit_lt_two_pow hn, Nat.testBit_lt_two_pow (Nat.lt_of_lt_of_le hn (Nat.pow_le_pow_right (by decide) (by omega)))])
theorem and31 {a : Nat} : nI a &&& 31 = nI (a % 32) := b_ext (fun i hi => by
  rw [b_and, show (31 : Int32) = nI 31 from rfl, bt_nI hi, bt_nI hi, bt_nI hi, show a % 32 = a % 2 ^ 5 from rfl, Nat.testBit_mod_two_pow, show (31 : Nat) = 2 ^ 5 - 1 from rfl, Nat.testBit_two_pow_sub_one, Bool.and_comm])
/-- one bit, as a test reads it -/
theorem bit1 {v : Int32} {y : Nat} (hy : y < 32) : ((v >>> (nI y &&& 31)) &&& 1).toInt = (if btz v y then 1 else 0 : Int) := by
  have e : (v >>> (nI y &&& 31)) &&& 1 = (if btz v y then 1 else 0 : Int32) := b_ext (fun i hi => by
    rw [b_and, b_sshr y hy _ hi, show (1 : Int32) = nI 1 from rfl, bt_nI hi]
    rcases Nat.eq_zero_or_pos i with q | q
    · subst q
      rw [Nat.add_zero, if_pos hy, show (1 : Nat).testBit 0 = true from rfl, Bool.and_true]
      cases btz v y <;> rfl
    · rw [show (1 : Nat).testBit i = false from by
        rw [show (1 : Nat) = 2 ^ 0 from rfl, Nat.testBit_two_pow, decide_eq_false (by omega)], Bool.and_false]
      cases btz v y
      · exact (b_0 i).symm
      · show false = btz (nI 1) i
        rw [bt_nI hi, show (1 : Nat) = 2 ^ 0 from rfl, Nat.testBit_two_pow, decide_eq_false (by omega)])
  rw [e]
  cases btz v y <;> rfl
theorem shl1 {k : Nat} (hk : k < 31) : (1 : Int32) <<< (nI k &&& 31) = nI (2 ^ k) := b_ext (fun i hi => by
  rw [b_shl k (by omega) _ hi, show (1 : Int32) = nI 1 from rfl, bt_nI hi, bt_nI (by omega), Nat.testBit_two_pow, show (1 : Nat) = 2 ^ 0 from rfl, Nat.testBit_two_pow]
  rcases Nat.lt_trichotomy k i with q | q | q
  · rw [decide_eq_true (by omega : k ≤ i), decide_eq_false (by omega), decide_eq_false (by omega)]
    rfl
  · subst q
    rw [decide_eq_true (Nat.le_refl k), decide_eq_true (by omega), decide_eq_true rfl]
    rfl
  · rw [decide_eq_false (by omega : ¬ k ≤ i), decide_eq_false (by omega : ¬ k = i)]
    rfl)
theorem bt_shl1 {k i : Nat} (hk : k < 31) (hi : i < 32) : btz ((1 : Int32) <<< (nI k &&& 31)) i = decide (k = i) := by
  rw [shl1 hk, bt_nI hi, Nat.testBit_two_pow]
/-! sequents: what a part's number tells -/
def okV (i : it4) : Prop := (0 ≤ i.1 ∧ i.1 ≤ 3) ∧ (0 ≤ i.2.1 ∧ i.2.1 ≤ 20) ∧ (0 ≤ i.2.2.1 ∧ i.2.2.1 ≤ 20) ∧ 0 ≤ i.2.2.2 ∧ i.2.2.2 ≤ 20
theorem pk_n {i : it4} (ok : okV i) : pk i = ((i.1.toNat * 32768 + i.2.1.toNat * 1024 + i.2.2.1.toNat * 32 + i.2.2.2.toNat : Nat) : Int) := by
  unfold okV at ok
  unfold pk
  omega
theorem tell_w {i : it4} {w : Nat} {v c : Int32} (ok : okV i) (hw : w < 4) (ev : v.toInt = pk i) (ec : c.toInt = 15 - 5 * (w : Int)) : ((v >>> (c &&& 31)) &&& 31).toInt = cmp_ i w := by
  have ok2 := ok
  unfold okV at ok2
  rw [pk_n ok] at ev
  rw [nI_of_i ev, nI_of_i (x := c) (n := 15 - 5 * w) (by omega), sshr_nI (by omega) (by omega), and31]
  rcases (show w = 0 ∨ w = 1 ∨ w = 2 ∨ w = 3 by omega) with rfl | rfl | rfl | rfl
  · rw [nI_toInt (by omega), show 15 - 5 * 0 = 15 from rfl, Nat.shiftRight_eq_div_pow]
    show _ = i.1
    omega
  · rw [nI_toInt (by omega), show 15 - 5 * 1 = 10 from rfl, Nat.shiftRight_eq_div_pow]
    show _ = i.2.1
    omega
  · rw [nI_toInt (by omega), show 15 - 5 * 2 = 5 from rfl, Nat.shiftRight_eq_div_pow]
    show _ = i.2.2.1
    omega
  · rw [nI_toInt (by omega), show 15 - 5 * 3 = 0 from rfl, Nat.shiftRight_eq_div_pow]
    show _ = i.2.2.2
    omega
theorem pk_inj {i j : it4} (oi : okV i) (oj : okV j) (e : pk i = pk j) : i = j := by
  obtain ⟨a, b, c, d⟩ := i
  obtain ⟨a', b', c', d'⟩ := j
  unfold okV at oi oj
  unfold pk at e
  simp only at oi oj e
  have h1 : a = a' := by omega
  have h2 : b = b' := by omega
  have h3 : c = c' := by omega
  have h4 : d = d' := by omega
  subst h1
  subst h2
  subst h3
  subst h4
  rfl
def sw1004 : List qs := [.inr (.inl (1007, false)), .inl (0, 14)]
theorem aw1004 : atyp 1004 = some (.inr (6, sw1004)) := rfl
theorem aw1007 : atyp 1007 = some (.inl (0, 14, [(14, .inl ((-2147483648), 2147483647))])) := rfl
def sw1008 : List qs := [.inr (.inl (1009, false)), .inr (.inl (1004, false)), .inr (.inl (1004, false)), .inr (.inl (1004, false)), .inl ((-2147483648), 2147483647), .inl ((-2147483648), 2147483647), .inl ((-2147483648), 2147483647), .inl ((-2147483648), 2147483647), .inl ((-2147483648), 2147483647), .inl ((-2147483648), 2147483647)]
theorem aw1008 : atyp 1008 = some (.inr (7, sw1008)) := rfl
def sw1009 : List qs := [.inr (.inl (1010, false))]
theorem aw1009 : atyp 1009 = some (.inr (0, sw1009)) := rfl
theorem aw1010 : atyp 1010 = some (.inl (0, 21, [(21, .inl ((-2147483648), 2147483647))])) := rfl
theorem e_tlV {d t k w : Nat} {τ : List Nat} {h : zh} {i : it4} {xk xw : Int32} (hg : hG τ h) {RA IA : Nat} {l : List it4} (tRA : τ[RA]? = some 1004) (tIA : τ[IA]? = some 1007) (pA : hsl h RA 0 = some (.inl (some IA))) (r : rwC h RA IA l) (exk : xk.toInt = (k : Int)) (hk : l[k]? = some i) (ok : okV i) (exw : xw.toInt = (w : Int)) (hw : w < 4) : qI (d + 1) 64 [some (.inl (some RA)), some (zi xk), some (zi xw)] h t (fun y h1 => h = h1 ∧ y.toInt = cmp_ i w) := by
  obtain ⟨xl, hl, el⟩ := r.1
  obtain ⟨x9, e9, l9, u9⟩ := g_int (i := 1) (lo := 0) (hi := 14) hg tRA aw1004 (by decide) rfl
  have e8 := hl.symm.trans e9
  cases e8
  obtain ⟨xv, hv, ev⟩ := r.2 k i hk
  have hk9 := (List.getElem?_eq_some_iff.mp hk).1
  refine qI_of ?_
  refine y_same (i := .iload_n 1) (len := 1) (r := (0, 0, 0, 0)) (pc' := 1) (ls' := [some (.inl (some RA)), some (zi xk), some (zi xw)]) (st' := [zi xk]) (by decide +kernel) (fun k q => by cases q) rfl ?_
  refine y_iF (c := .lt) (off := 20) (len := 3) (r := (0, 0, 0, 0)) (by decide +kernel) (acmpF (c := .lt) (by show _ ≤ _; omega)) ?_
  refine y_same (i := .iload_n 1) (len := 1) (r := (0, 0, 0, 0)) (pc' := 5) (ls' := [some (.inl (some RA)), some (zi xk), some (zi xw)]) (st' := [zi xk]) (by decide +kernel) (fun k q => by cases q) rfl ?_
  refine y_same (i := .aload_n 0) (len := 1) (r := (0, 0, 0, 0)) (pc' := 6) (ls' := [some (.inl (some RA)), some (zi xk), some (zi xw)]) (st' := [.inl (some RA), zi xk]) (by decide +kernel) (fun k q => by cases q) rfl ?_
  refine y_get (j := 9) (len := 3) (r := (6, 1, 0, 164)) (by decide +kernel) hg tRA aw1004 rfl rfl hl ?_
  refine y_cF (c := .ge) (off := 12) (len := 3) (r := (0, 0, 0, 0)) (by decide +kernel) (acmpF (c := .ge) (by show _ < _; omega)) ?_
  refine y_same (i := .iload_n 2) (len := 1) (r := (0, 0, 0, 0)) (pc' := 13) (ls' := [some (.inl (some RA)), some (zi xk), some (zi xw)]) (st' := [zi xw]) (by decide +kernel) (fun k q => by cases q) rfl ?_
  refine y_iF (c := .lt) (off := 8) (len := 3) (r := (0, 0, 0, 0)) (by decide +kernel) (acmpF (c := .lt) (by show _ ≤ _; omega)) ?_
  refine y_same (i := .iload_n 2) (len := 1) (r := (0, 0, 0, 0)) (pc' := 17) (ls' := [some (.inl (some RA)), some (zi xk), some (zi xw)]) (st' := [zi xw]) (by decide +kernel) (fun k q => by cases q) rfl ?_
  refine y_ic (c := 3) (len := 1) (r := (0, 0, 0, 0)) (by decide +kernel) (by decide) (fun y1913 hy1913 => ?_)
  refine y_cT (c := .le) (off := 5) (pc' := 23) (len := 3) (r := (0, 0, 0, 0)) (by decide +kernel) (acmpT (c := .le) (by show _ ≤ _; omega)) (by decide +kernel) ?_
  refine y_same (i := .aload_n 0) (len := 1) (r := (0, 0, 0, 0)) (pc' := 24) (ls' := [some (.inl (some RA)), some (zi xk), some (zi xw)]) (st' := [.inl (some RA)]) (by decide +kernel) (fun k q => by cases q) rfl ?_
  refine y_get (j := 15) (len := 3) (r := (6, 0, 2, 163)) (by decide +kernel) hg tRA aw1004 rfl rfl pA ?_
  refine y_same (i := .iload_n 1) (len := 1) (r := (0, 0, 0, 0)) (pc' := 28) (ls' := [some (.inl (some RA)), some (zi xk), some (zi xw)]) (st' := [zi xk, .inl (some IA)]) (by decide +kernel) (fun k q => by cases q) rfl ?_
  refine y_ial (i := k) (len := 1) (r := (0, 0, 0, 0)) (by decide +kernel) hg tIA aw1007 (by omega) hv ?_
  refine y_bi (c := 15) (len := 2) (r := (0, 0, 0, 0)) (by decide +kernel) (by decide) (fun y1914 hy1914 => ?_)
  refine y_ic (c := 5) (len := 1) (r := (0, 0, 0, 0)) (by decide +kernel) (by decide) (fun y1915 hy1915 => ?_)
  refine y_same (i := .iload_n 2) (len := 1) (r := (0, 0, 0, 0)) (pc' := 33) (ls' := [some (.inl (some RA)), some (zi xk), some (zi xw)]) (st' := [zi xw, zi y1915, zi y1914, zi xv]) (by decide +kernel) (fun k q => by cases q) rfl ?_
  refine y_mul (c := 5) (len := 1) (r := (0, 0, 0, 0)) (by decide +kernel) (by omega) (by omega) (by omega) (fun y1916 hy1916 => ?_)
  refine y_sub (len := 1) (r := (0, 0, 0, 0)) (by decide +kernel) (by omega) (by omega) (fun y1917 hy1917 => ?_)
  refine y_bp (i := .ishr) (f := fun x y => x >>> (y &&& 31)) (len := 1) (r := (0, 0, 0, 0)) (by decide +kernel) rfl rfl (fun y1918 hy1918 => ?_)
  have hy1918 : y1918 = xv >>> (y1917 &&& 31) := hy1918
  refine y_bi (c := 31) (len := 2) (r := (0, 0, 0, 0)) (by decide +kernel) (by decide) (fun y1919 hy1919 => ?_)
  refine y_bp (i := .iand) (f := fun x y => x &&& y) (len := 1) (r := (0, 0, 0, 0)) (by decide +kernel) rfl rfl (fun y1920 hy1920 => ?_)
  have hy1920 : y1920 = y1918 &&& y1919 := hy1920
  refine y_rI (len := 1) (r := (0, 0, 0, 0)) (nL := 3) (k := 1) (n9 := 3) (hs := []) (by decide +kernel) rfl rfl ?_
  refine ⟨rfl, ?_⟩
  rw [hy1920, hy1918, ofI (w := 31) hy1919 rfl]
  exact tell_w ok hw ev (by omega)
