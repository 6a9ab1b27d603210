theorem zcut (x a b : Int32) (hab : a.toInt + 1 = b.toInt) : x ≤ a ∨ b ≤ x := by
  rw [Int32.le_iff_toInt_le, Int32.le_iff_toInt_le]
  omega
theorem zvR {X : Nat → Value → Prop} {lo hi x : Int32} (h1 : lo ≤ x) (h2 : x ≤ hi) : zval X [] (.inr (.inl (lo, some hi))) (.int x) := ⟨x, rfl, h1, h2⟩
theorem zvE {X : Nat → Value → Prop} {k x : Int32} (h1 : k ≤ x) (h2 : x ≤ k) : zval X [] (zi k) (.int x) := by
  have h : x = k := by
    apply Int32.toInt_inj.mp
    rw [Int32.le_iff_toInt_le] at h1 h2
    omega
  subst h
  rfl
theorem zvM {X : Nat → Value → Prop} {c x : Int32} (h : x &&& 31 = c) : zval X [] (.inr (.inr (.inr c))) (.int x) := ⟨x, rfl, h⟩
theorem zand31 (x : Int32) : ∃ n : Nat, n < 32 ∧ x &&& 31 = Int32.ofNat n := by
  refine ⟨(x.toBitVec &&& 31#32).toNat, ?_, ?_⟩
  · rw [BitVec.toNat_and]
    exact Nat.lt_of_le_of_lt Nat.and_le_right (by decide)
  · apply Int32.toBitVec_inj.mp
    rw [Int32.toBitVec_and, Int32.toBitVec_ofNat', BitVec.ofNat_toNat, BitVec.setWidth_eq]
    rfl
/-- a script that was read, and all that it stands for -/
def zcv (x0 x1 x2 x3 x4 x5 : Int32) : Prop := ∃ l : List zv, zchk l = true ∧ ∀ X : Nat → Value → Prop, zS X [] l [.int x0, .int x1, .int x2, .int x3, .int x4, .int x5]
theorem zcv0 {x0 x1 x2 x3 x4 x5 : Int32} (e : x0 &&& 31 = 0) : zcv x0 x1 x2 x3 x4 x5 := by
  exact ⟨_, zca0, fun X => ⟨zvM e, zvR (z_lo x1) (z_hi x1), zvR (z_lo x2) (z_hi x2), zvR (z_lo x3) (z_hi x3), zvR (z_lo x4) (z_hi x4), zvR (z_lo x5) (z_hi x5), trivial⟩⟩
theorem zcv1 {x0 x1 x2 x3 x4 x5 : Int32} (e : x0 &&& 31 = 1) : zcv x0 x1 x2 x3 x4 x5 := by
  rcases zcut x1 (-1) (0) (by decide) with h0_0 | h0_0
  · exact ⟨_, zca1, fun X => ⟨zvM e, zvR (z_lo x1) h0_0, zvR (z_lo x2) (z_hi x2), zvR (z_lo x3) (z_hi x3), zvR (z_lo x4) (z_hi x4), zvR (z_lo x5) (z_hi x5), trivial⟩⟩
  · rcases zcut x1 (0) (1) (by decide) with h0_1 | h0_1
    · exact ⟨_, zca2, fun X => ⟨zvM e, zvE h0_0 h0_1, zvR (z_lo x2) (z_hi x2), zvR (z_lo x3) (z_hi x3), zvR (z_lo x4) (z_hi x4), zvR (z_lo x5) (z_hi x5), trivial⟩⟩
    · exact ⟨_, zca3, fun X => ⟨zvM e, zvR h0_1 (z_hi x1), zvR (z_lo x2) (z_hi x2), zvR (z_lo x3) (z_hi x3), zvR (z_lo x4) (z_hi x4), zvR (z_lo x5) (z_hi x5), trivial⟩⟩
theorem zcv2 {x0 x1 x2 x3 x4 x5 : Int32} (e : x0 &&& 31 = 2) : zcv x0 x1 x2 x3 x4 x5 := by
  exact ⟨_, zca4, fun X => ⟨zvM e, zvR (z_lo x1) (z_hi x1), zvR (z_lo x2) (z_hi x2), zvR (z_lo x3) (z_hi x3), zvR (z_lo x4) (z_hi x4), zvR (z_lo x5) (z_hi x5), trivial⟩⟩
theorem zcv3 {x0 x1 x2 x3 x4 x5 : Int32} (e : x0 &&& 31 = 3) : zcv x0 x1 x2 x3 x4 x5 := by
  exact ⟨_, zca5, fun X => ⟨zvM e, zvR (z_lo x1) (z_hi x1), zvR (z_lo x2) (z_hi x2), zvR (z_lo x3) (z_hi x3), zvR (z_lo x4) (z_hi x4), zvR (z_lo x5) (z_hi x5), trivial⟩⟩
theorem zcv4 {x0 x1 x2 x3 x4 x5 : Int32} (e : x0 &&& 31 = 4) : zcv x0 x1 x2 x3 x4 x5 := by
  rcases zcut x1 (-1) (0) (by decide) with h0_0 | h0_0
  · exact ⟨_, zca6, fun X => ⟨zvM e, zvR (z_lo x1) h0_0, zvR (z_lo x2) (z_hi x2), zvR (z_lo x3) (z_hi x3), zvR (z_lo x4) (z_hi x4), zvR (z_lo x5) (z_hi x5), trivial⟩⟩
  · rcases zcut x1 (0) (1) (by decide) with h0_1 | h0_1
    · rcases zcut x2 (-1) (0) (by decide) with h1_0 | h1_0
      · exact ⟨_, zca8, fun X => ⟨zvM e, zvE h0_0 h0_1, zvR (z_lo x2) h1_0, zvR (z_lo x3) (z_hi x3), zvR (z_lo x4) (z_hi x4), zvR (z_lo x5) (z_hi x5), trivial⟩⟩
      · exact ⟨_, zca9, fun X => ⟨zvM e, zvE h0_0 h0_1, zvR h1_0 (z_hi x2), zvR (z_lo x3) (z_hi x3), zvR (z_lo x4) (z_hi x4), zvR (z_lo x5) (z_hi x5), trivial⟩⟩
    · rcases zcut x1 (1) (2) (by decide) with h0_2 | h0_2
      · rcases zcut x2 (-1) (0) (by decide) with h1_0 | h1_0
        · exact ⟨_, zca10, fun X => ⟨zvM e, zvE h0_1 h0_2, zvR (z_lo x2) h1_0, zvR (z_lo x3) (z_hi x3), zvR (z_lo x4) (z_hi x4), zvR (z_lo x5) (z_hi x5), trivial⟩⟩
        · exact ⟨_, zca11, fun X => ⟨zvM e, zvE h0_1 h0_2, zvR h1_0 (z_hi x2), zvR (z_lo x3) (z_hi x3), zvR (z_lo x4) (z_hi x4), zvR (z_lo x5) (z_hi x5), trivial⟩⟩
      · exact ⟨_, zca7, fun X => ⟨zvM e, zvR h0_2 (z_hi x1), zvR (z_lo x2) (z_hi x2), zvR (z_lo x3) (z_hi x3), zvR (z_lo x4) (z_hi x4), zvR (z_lo x5) (z_hi x5), trivial⟩⟩
theorem zcv5 {x0 x1 x2 x3 x4 x5 : Int32} (e : x0 &&& 31 = 5) : zcv x0 x1 x2 x3 x4 x5 := by
  rcases zcut x1 (-1) (0) (by decide) with h0_0 | h0_0
  · exact ⟨_, zca12, fun X => ⟨zvM e, zvR (z_lo x1) h0_0, zvR (z_lo x2) (z_hi x2), zvR (z_lo x3) (z_hi x3), zvR (z_lo x4) (z_hi x4), zvR (z_lo x5) (z_hi x5), trivial⟩⟩
  · rcases zcut x1 (0) (1) (by decide) with h0_1 | h0_1
    · rcases zcut x2 (-1) (0) (by decide) with h1_0 | h1_0
      · exact ⟨_, zca14, fun X => ⟨zvM e, zvE h0_0 h0_1, zvR (z_lo x2) h1_0, zvR (z_lo x3) (z_hi x3), zvR (z_lo x4) (z_hi x4), zvR (z_lo x5) (z_hi x5), trivial⟩⟩
      · exact ⟨_, zca15, fun X => ⟨zvM e, zvE h0_0 h0_1, zvR h1_0 (z_hi x2), zvR (z_lo x3) (z_hi x3), zvR (z_lo x4) (z_hi x4), zvR (z_lo x5) (z_hi x5), trivial⟩⟩
    · rcases zcut x1 (1) (2) (by decide) with h0_2 | h0_2
      · rcases zcut x2 (-1) (0) (by decide) with h1_0 | h1_0
        · exact ⟨_, zca16, fun X => ⟨zvM e, zvE h0_1 h0_2, zvR (z_lo x2) h1_0, zvR (z_lo x3) (z_hi x3), zvR (z_lo x4) (z_hi x4), zvR (z_lo x5) (z_hi x5), trivial⟩⟩
        · exact ⟨_, zca17, fun X => ⟨zvM e, zvE h0_1 h0_2, zvR h1_0 (z_hi x2), zvR (z_lo x3) (z_hi x3), zvR (z_lo x4) (z_hi x4), zvR (z_lo x5) (z_hi x5), trivial⟩⟩
      · exact ⟨_, zca13, fun X => ⟨zvM e, zvR h0_2 (z_hi x1), zvR (z_lo x2) (z_hi x2), zvR (z_lo x3) (z_hi x3), zvR (z_lo x4) (z_hi x4), zvR (z_lo x5) (z_hi x5), trivial⟩⟩
theorem zcv6 {x0 x1 x2 x3 x4 x5 : Int32} (e : x0 &&& 31 = 6) : zcv x0 x1 x2 x3 x4 x5 := by
  exact ⟨_, zca30, fun X => ⟨zvM e, zvR (z_lo x1) (z_hi x1), zvR (z_lo x2) (z_hi x2), zvR (z_lo x3) (z_hi x3), zvR (z_lo x4) (z_hi x4), zvR (z_lo x5) (z_hi x5), trivial⟩⟩
theorem zcv7 {x0 x1 x2 x3 x4 x5 : Int32} (e : x0 &&& 31 = 7) : zcv x0 x1 x2 x3 x4 x5 := by
  rcases zcut x1 (-1) (0) (by decide) with h0_0 | h0_0
  · exact ⟨_, zca31, fun X => ⟨zvM e, zvR (z_lo x1) h0_0, zvR (z_lo x2) (z_hi x2), zvR (z_lo x3) (z_hi x3), zvR (z_lo x4) (z_hi x4), zvR (z_lo x5) (z_hi x5), trivial⟩⟩
  · rcases zcut x1 (0) (1) (by decide) with h0_1 | h0_1
    · exact ⟨_, zca32, fun X => ⟨zvM e, zvE h0_0 h0_1, zvR (z_lo x2) (z_hi x2), zvR (z_lo x3) (z_hi x3), zvR (z_lo x4) (z_hi x4), zvR (z_lo x5) (z_hi x5), trivial⟩⟩
    · rcases zcut x1 (1) (2) (by decide) with h0_2 | h0_2
      · exact ⟨_, zca33, fun X => ⟨zvM e, zvE h0_1 h0_2, zvR (z_lo x2) (z_hi x2), zvR (z_lo x3) (z_hi x3), zvR (z_lo x4) (z_hi x4), zvR (z_lo x5) (z_hi x5), trivial⟩⟩
      · rcases zcut x1 (2) (3) (by decide) with h0_3 | h0_3
        · exact ⟨_, zca34, fun X => ⟨zvM e, zvE h0_2 h0_3, zvR (z_lo x2) (z_hi x2), zvR (z_lo x3) (z_hi x3), zvR (z_lo x4) (z_hi x4), zvR (z_lo x5) (z_hi x5), trivial⟩⟩
        · rcases zcut x1 (3) (4) (by decide) with h0_4 | h0_4
          · exact ⟨_, zca35, fun X => ⟨zvM e, zvE h0_3 h0_4, zvR (z_lo x2) (z_hi x2), zvR (z_lo x3) (z_hi x3), zvR (z_lo x4) (z_hi x4), zvR (z_lo x5) (z_hi x5), trivial⟩⟩
          · rcases zcut x1 (4) (5) (by decide) with h0_5 | h0_5
            · exact ⟨_, zca36, fun X => ⟨zvM e, zvE h0_4 h0_5, zvR (z_lo x2) (z_hi x2), zvR (z_lo x3) (z_hi x3), zvR (z_lo x4) (z_hi x4), zvR (z_lo x5) (z_hi x5), trivial⟩⟩
            · rcases zcut x1 (5) (6) (by decide) with h0_6 | h0_6
              · exact ⟨_, zca37, fun X => ⟨zvM e, zvE h0_5 h0_6, zvR (z_lo x2) (z_hi x2), zvR (z_lo x3) (z_hi x3), zvR (z_lo x4) (z_hi x4), zvR (z_lo x5) (z_hi x5), trivial⟩⟩
              · rcases zcut x1 (6) (7) (by decide) with h0_7 | h0_7
                · exact ⟨_, zca38, fun X => ⟨zvM e, zvE h0_6 h0_7, zvR (z_lo x2) (z_hi x2), zvR (z_lo x3) (z_hi x3), zvR (z_lo x4) (z_hi x4), zvR (z_lo x5) (z_hi x5), trivial⟩⟩
                · exact ⟨_, zca39, fun X => ⟨zvM e, zvR h0_7 (z_hi x1), zvR (z_lo x2) (z_hi x2), zvR (z_lo x3) (z_hi x3), zvR (z_lo x4) (z_hi x4), zvR (z_lo x5) (z_hi x5), trivial⟩⟩
theorem zcv8 {x0 x1 x2 x3 x4 x5 : Int32} (e : x0 &&& 31 = 8) : zcv x0 x1 x2 x3 x4 x5 := by
  rcases zcut x1 (-1) (0) (by decide) with h0_0 | h0_0
  · exact ⟨_, zca18, fun X => ⟨zvM e, zvR (z_lo x1) h0_0, zvR (z_lo x2) (z_hi x2), zvR (z_lo x3) (z_hi x3), zvR (z_lo x4) (z_hi x4), zvR (z_lo x5) (z_hi x5), trivial⟩⟩
  · rcases zcut x1 (0) (1) (by decide) with h0_1 | h0_1
    · rcases zcut x2 (-1) (0) (by decide) with h1_0 | h1_0
      · exact ⟨_, zca20, fun X => ⟨zvM e, zvE h0_0 h0_1, zvR (z_lo x2) h1_0, zvR (z_lo x3) (z_hi x3), zvR (z_lo x4) (z_hi x4), zvR (z_lo x5) (z_hi x5), trivial⟩⟩
      · exact ⟨_, zca21, fun X => ⟨zvM e, zvE h0_0 h0_1, zvR h1_0 (z_hi x2), zvR (z_lo x3) (z_hi x3), zvR (z_lo x4) (z_hi x4), zvR (z_lo x5) (z_hi x5), trivial⟩⟩
    · rcases zcut x1 (1) (2) (by decide) with h0_2 | h0_2
      · rcases zcut x2 (-1) (0) (by decide) with h1_0 | h1_0
        · exact ⟨_, zca22, fun X => ⟨zvM e, zvE h0_1 h0_2, zvR (z_lo x2) h1_0, zvR (z_lo x3) (z_hi x3), zvR (z_lo x4) (z_hi x4), zvR (z_lo x5) (z_hi x5), trivial⟩⟩
        · exact ⟨_, zca23, fun X => ⟨zvM e, zvE h0_1 h0_2, zvR h1_0 (z_hi x2), zvR (z_lo x3) (z_hi x3), zvR (z_lo x4) (z_hi x4), zvR (z_lo x5) (z_hi x5), trivial⟩⟩
      · exact ⟨_, zca19, fun X => ⟨zvM e, zvR h0_2 (z_hi x1), zvR (z_lo x2) (z_hi x2), zvR (z_lo x3) (z_hi x3), zvR (z_lo x4) (z_hi x4), zvR (z_lo x5) (z_hi x5), trivial⟩⟩
theorem zcv9 {x0 x1 x2 x3 x4 x5 : Int32} (e : x0 &&& 31 = 9) : zcv x0 x1 x2 x3 x4 x5 := by
  rcases zcut x1 (-1) (0) (by decide) with h0_0 | h0_0
  · exact ⟨_, zca24, fun X => ⟨zvM e, zvR (z_lo x1) h0_0, zvR (z_lo x2) (z_hi x2), zvR (z_lo x3) (z_hi x3), zvR (z_lo x4) (z_hi x4), zvR (z_lo x5) (z_hi x5), trivial⟩⟩
  · rcases zcut x1 (0) (1) (by decide) with h0_1 | h0_1
    · rcases zcut x2 (-1) (0) (by decide) with h1_0 | h1_0
      · exact ⟨_, zca26, fun X => ⟨zvM e, zvE h0_0 h0_1, zvR (z_lo x2) h1_0, zvR (z_lo x3) (z_hi x3), zvR (z_lo x4) (z_hi x4), zvR (z_lo x5) (z_hi x5), trivial⟩⟩
      · exact ⟨_, zca27, fun X => ⟨zvM e, zvE h0_0 h0_1, zvR h1_0 (z_hi x2), zvR (z_lo x3) (z_hi x3), zvR (z_lo x4) (z_hi x4), zvR (z_lo x5) (z_hi x5), trivial⟩⟩
    · rcases zcut x1 (1) (2) (by decide) with h0_2 | h0_2
      · rcases zcut x2 (-1) (0) (by decide) with h1_0 | h1_0
        · exact ⟨_, zca28, fun X => ⟨zvM e, zvE h0_1 h0_2, zvR (z_lo x2) h1_0, zvR (z_lo x3) (z_hi x3), zvR (z_lo x4) (z_hi x4), zvR (z_lo x5) (z_hi x5), trivial⟩⟩
        · exact ⟨_, zca29, fun X => ⟨zvM e, zvE h0_1 h0_2, zvR h1_0 (z_hi x2), zvR (z_lo x3) (z_hi x3), zvR (z_lo x4) (z_hi x4), zvR (z_lo x5) (z_hi x5), trivial⟩⟩
      · exact ⟨_, zca25, fun X => ⟨zvM e, zvR h0_2 (z_hi x1), zvR (z_lo x2) (z_hi x2), zvR (z_lo x3) (z_hi x3), zvR (z_lo x4) (z_hi x4), zvR (z_lo x5) (z_hi x5), trivial⟩⟩
theorem zcv10 {x0 x1 x2 x3 x4 x5 : Int32} (e : x0 &&& 31 = 10) : zcv x0 x1 x2 x3 x4 x5 := by
  rcases zcut x1 (-1) (0) (by decide) with h0_0 | h0_0
  · exact ⟨_, zca40, fun X => ⟨zvM e, zvR (z_lo x1) h0_0, zvR (z_lo x2) (z_hi x2), zvR (z_lo x3) (z_hi x3), zvR (z_lo x4) (z_hi x4), zvR (z_lo x5) (z_hi x5), trivial⟩⟩
  · rcases zcut x1 (0) (1) (by decide) with h0_1 | h0_1
    · exact ⟨_, zca41, fun X => ⟨zvM e, zvE h0_0 h0_1, zvR (z_lo x2) (z_hi x2), zvR (z_lo x3) (z_hi x3), zvR (z_lo x4) (z_hi x4), zvR (z_lo x5) (z_hi x5), trivial⟩⟩
    · rcases zcut x1 (1) (2) (by decide) with h0_2 | h0_2
      · exact ⟨_, zca42, fun X => ⟨zvM e, zvE h0_1 h0_2, zvR (z_lo x2) (z_hi x2), zvR (z_lo x3) (z_hi x3), zvR (z_lo x4) (z_hi x4), zvR (z_lo x5) (z_hi x5), trivial⟩⟩
      · rcases zcut x1 (2) (3) (by decide) with h0_3 | h0_3
        · exact ⟨_, zca43, fun X => ⟨zvM e, zvE h0_2 h0_3, zvR (z_lo x2) (z_hi x2), zvR (z_lo x3) (z_hi x3), zvR (z_lo x4) (z_hi x4), zvR (z_lo x5) (z_hi x5), trivial⟩⟩
        · rcases zcut x1 (3) (4) (by decide) with h0_4 | h0_4
          · exact ⟨_, zca44, fun X => ⟨zvM e, zvE h0_3 h0_4, zvR (z_lo x2) (z_hi x2), zvR (z_lo x3) (z_hi x3), zvR (z_lo x4) (z_hi x4), zvR (z_lo x5) (z_hi x5), trivial⟩⟩
          · rcases zcut x1 (4) (5) (by decide) with h0_5 | h0_5
            · exact ⟨_, zca45, fun X => ⟨zvM e, zvE h0_4 h0_5, zvR (z_lo x2) (z_hi x2), zvR (z_lo x3) (z_hi x3), zvR (z_lo x4) (z_hi x4), zvR (z_lo x5) (z_hi x5), trivial⟩⟩
            · rcases zcut x1 (9) (10) (by decide) with h0_6 | h0_6
              · exact ⟨_, zca46, fun X => ⟨zvM e, zvR h0_5 h0_6, zvR (z_lo x2) (z_hi x2), zvR (z_lo x3) (z_hi x3), zvR (z_lo x4) (z_hi x4), zvR (z_lo x5) (z_hi x5), trivial⟩⟩
              · rcases zcut x1 (10) (11) (by decide) with h0_7 | h0_7
                · exact ⟨_, zca47, fun X => ⟨zvM e, zvE h0_6 h0_7, zvR (z_lo x2) (z_hi x2), zvR (z_lo x3) (z_hi x3), zvR (z_lo x4) (z_hi x4), zvR (z_lo x5) (z_hi x5), trivial⟩⟩
                · rcases zcut x1 (11) (12) (by decide) with h0_8 | h0_8
                  · exact ⟨_, zca48, fun X => ⟨zvM e, zvE h0_7 h0_8, zvR (z_lo x2) (z_hi x2), zvR (z_lo x3) (z_hi x3), zvR (z_lo x4) (z_hi x4), zvR (z_lo x5) (z_hi x5), trivial⟩⟩
                  · rcases zcut x1 (12) (13) (by decide) with h0_9 | h0_9
                    · exact ⟨_, zca49, fun X => ⟨zvM e, zvE h0_8 h0_9, zvR (z_lo x2) (z_hi x2), zvR (z_lo x3) (z_hi x3), zvR (z_lo x4) (z_hi x4), zvR (z_lo x5) (z_hi x5), trivial⟩⟩
                    · rcases zcut x1 (13) (14) (by decide) with h0_10 | h0_10
                      · exact ⟨_, zca50, fun X => ⟨zvM e, zvE h0_9 h0_10, zvR (z_lo x2) (z_hi x2), zvR (z_lo x3) (z_hi x3), zvR (z_lo x4) (z_hi x4), zvR (z_lo x5) (z_hi x5), trivial⟩⟩
                      · rcases zcut x1 (14) (15) (by decide) with h0_11 | h0_11
                        · exact ⟨_, zca51, fun X => ⟨zvM e, zvE h0_10 h0_11, zvR (z_lo x2) (z_hi x2), zvR (z_lo x3) (z_hi x3), zvR (z_lo x4) (z_hi x4), zvR (z_lo x5) (z_hi x5), trivial⟩⟩
                        · rcases zcut x1 (15) (16) (by decide) with h0_12 | h0_12
                          · exact ⟨_, zca52, fun X => ⟨zvM e, zvE h0_11 h0_12, zvR (z_lo x2) (z_hi x2), zvR (z_lo x3) (z_hi x3), zvR (z_lo x4) (z_hi x4), zvR (z_lo x5) (z_hi x5), trivial⟩⟩
                          · rcases zcut x1 (16) (17) (by decide) with h0_13 | h0_13
                            · exact ⟨_, zca53, fun X => ⟨zvM e, zvE h0_12 h0_13, zvR (z_lo x2) (z_hi x2), zvR (z_lo x3) (z_hi x3), zvR (z_lo x4) (z_hi x4), zvR (z_lo x5) (z_hi x5), trivial⟩⟩
                            · rcases zcut x1 (17) (18) (by decide) with h0_14 | h0_14
                              · exact ⟨_, zca54, fun X => ⟨zvM e, zvE h0_13 h0_14, zvR (z_lo x2) (z_hi x2), zvR (z_lo x3) (z_hi x3), zvR (z_lo x4) (z_hi x4), zvR (z_lo x5) (z_hi x5), trivial⟩⟩
                              · rcases zcut x1 (18) (19) (by decide) with h0_15 | h0_15
                                · exact ⟨_, zca55, fun X => ⟨zvM e, zvE h0_14 h0_15, zvR (z_lo x2) (z_hi x2), zvR (z_lo x3) (z_hi x3), zvR (z_lo x4) (z_hi x4), zvR (z_lo x5) (z_hi x5), trivial⟩⟩
                                · rcases zcut x1 (19) (20) (by decide) with h0_16 | h0_16
                                  · exact ⟨_, zca56, fun X => ⟨zvM e, zvE h0_15 h0_16, zvR (z_lo x2) (z_hi x2), zvR (z_lo x3) (z_hi x3), zvR (z_lo x4) (z_hi x4), zvR (z_lo x5) (z_hi x5), trivial⟩⟩
                                  · exact ⟨_, zca57, fun X => ⟨zvM e, zvR h0_16 (z_hi x1), zvR (z_lo x2) (z_hi x2), zvR (z_lo x3) (z_hi x3), zvR (z_lo x4) (z_hi x4), zvR (z_lo x5) (z_hi x5), trivial⟩⟩
theorem zcv11 {x0 x1 x2 x3 x4 x5 : Int32} (e : x0 &&& 31 = 11) : zcv x0 x1 x2 x3 x4 x5 := by
  rcases zcut x1 (-1) (0) (by decide) with h0_0 | h0_0
  · exact ⟨_, zca58, fun X => ⟨zvM e, zvR (z_lo x1) h0_0, zvR (z_lo x2) (z_hi x2), zvR (z_lo x3) (z_hi x3), zvR (z_lo x4) (z_hi x4), zvR (z_lo x5) (z_hi x5), trivial⟩⟩
  · rcases zcut x1 (0) (1) (by decide) with h0_1 | h0_1
    · rcases zcut x2 (-1) (0) (by decide) with h1_0 | h1_0
      · exact ⟨_, zca60, fun X => ⟨zvM e, zvE h0_0 h0_1, zvR (z_lo x2) h1_0, zvR (z_lo x3) (z_hi x3), zvR (z_lo x4) (z_hi x4), zvR (z_lo x5) (z_hi x5), trivial⟩⟩
      · rcases zcut x2 (0) (1) (by decide) with h1_1 | h1_1
        · exact ⟨_, zca61, fun X => ⟨zvM e, zvE h0_0 h0_1, zvE h1_0 h1_1, zvR (z_lo x3) (z_hi x3), zvR (z_lo x4) (z_hi x4), zvR (z_lo x5) (z_hi x5), trivial⟩⟩
        · rcases zcut x2 (1) (2) (by decide) with h1_2 | h1_2
          · exact ⟨_, zca62, fun X => ⟨zvM e, zvE h0_0 h0_1, zvE h1_1 h1_2, zvR (z_lo x3) (z_hi x3), zvR (z_lo x4) (z_hi x4), zvR (z_lo x5) (z_hi x5), trivial⟩⟩
          · rcases zcut x2 (2) (3) (by decide) with h1_3 | h1_3
            · exact ⟨_, zca63, fun X => ⟨zvM e, zvE h0_0 h0_1, zvE h1_2 h1_3, zvR (z_lo x3) (z_hi x3), zvR (z_lo x4) (z_hi x4), zvR (z_lo x5) (z_hi x5), trivial⟩⟩
            · rcases zcut x2 (3) (4) (by decide) with h1_4 | h1_4
              · exact ⟨_, zca64, fun X => ⟨zvM e, zvE h0_0 h0_1, zvE h1_3 h1_4, zvR (z_lo x3) (z_hi x3), zvR (z_lo x4) (z_hi x4), zvR (z_lo x5) (z_hi x5), trivial⟩⟩
              · rcases zcut x2 (4) (5) (by decide) with h1_5 | h1_5
                · exact ⟨_, zca65, fun X => ⟨zvM e, zvE h0_0 h0_1, zvE h1_4 h1_5, zvR (z_lo x3) (z_hi x3), zvR (z_lo x4) (z_hi x4), zvR (z_lo x5) (z_hi x5), trivial⟩⟩
                · rcases zcut x2 (5) (6) (by decide) with h1_6 | h1_6
                  · exact ⟨_, zca66, fun X => ⟨zvM e, zvE h0_0 h0_1, zvE h1_5 h1_6, zvR (z_lo x3) (z_hi x3), zvR (z_lo x4) (z_hi x4), zvR (z_lo x5) (z_hi x5), trivial⟩⟩
                  · rcases zcut x2 (6) (7) (by decide) with h1_7 | h1_7
                    · exact ⟨_, zca67, fun X => ⟨zvM e, zvE h0_0 h0_1, zvE h1_6 h1_7, zvR (z_lo x3) (z_hi x3), zvR (z_lo x4) (z_hi x4), zvR (z_lo x5) (z_hi x5), trivial⟩⟩
                    · exact ⟨_, zca68, fun X => ⟨zvM e, zvE h0_0 h0_1, zvR h1_7 (z_hi x2), zvR (z_lo x3) (z_hi x3), zvR (z_lo x4) (z_hi x4), zvR (z_lo x5) (z_hi x5), trivial⟩⟩
    · exact ⟨_, zca59, fun X => ⟨zvM e, zvR h0_1 (z_hi x1), zvR (z_lo x2) (z_hi x2), zvR (z_lo x3) (z_hi x3), zvR (z_lo x4) (z_hi x4), zvR (z_lo x5) (z_hi x5), trivial⟩⟩
theorem zcv12 {x0 x1 x2 x3 x4 x5 : Int32} (e : x0 &&& 31 = 12) : zcv x0 x1 x2 x3 x4 x5 := by
  rcases zcut x1 (-1) (0) (by decide) with h0_0 | h0_0
  · exact ⟨_, zca69, fun X => ⟨zvM e, zvR (z_lo x1) h0_0, zvR (z_lo x2) (z_hi x2), zvR (z_lo x3) (z_hi x3), zvR (z_lo x4) (z_hi x4), zvR (z_lo x5) (z_hi x5), trivial⟩⟩
  · rcases zcut x1 (0) (1) (by decide) with h0_1 | h0_1
    · rcases zcut x2 (-1) (0) (by decide) with h1_0 | h1_0
      · exact ⟨_, zca71, fun X => ⟨zvM e, zvE h0_0 h0_1, zvR (z_lo x2) h1_0, zvR (z_lo x3) (z_hi x3), zvR (z_lo x4) (z_hi x4), zvR (z_lo x5) (z_hi x5), trivial⟩⟩
      · rcases zcut x2 (0) (1) (by decide) with h1_1 | h1_1
        · rcases zcut x3 (-1) (0) (by decide) with h2_0 | h2_0
          · exact ⟨_, zca73, fun X => ⟨zvM e, zvE h0_0 h0_1, zvE h1_0 h1_1, zvR (z_lo x3) h2_0, zvR (z_lo x4) (z_hi x4), zvR (z_lo x5) (z_hi x5), trivial⟩⟩
          · exact ⟨_, zca74, fun X => ⟨zvM e, zvE h0_0 h0_1, zvE h1_0 h1_1, zvR h2_0 (z_hi x3), zvR (z_lo x4) (z_hi x4), zvR (z_lo x5) (z_hi x5), trivial⟩⟩
        · rcases zcut x2 (1) (2) (by decide) with h1_2 | h1_2
          · rcases zcut x3 (-1) (0) (by decide) with h2_0 | h2_0
            · exact ⟨_, zca75, fun X => ⟨zvM e, zvE h0_0 h0_1, zvE h1_1 h1_2, zvR (z_lo x3) h2_0, zvR (z_lo x4) (z_hi x4), zvR (z_lo x5) (z_hi x5), trivial⟩⟩
            · exact ⟨_, zca76, fun X => ⟨zvM e, zvE h0_0 h0_1, zvE h1_1 h1_2, zvR h2_0 (z_hi x3), zvR (z_lo x4) (z_hi x4), zvR (z_lo x5) (z_hi x5), trivial⟩⟩
          · exact ⟨_, zca72, fun X => ⟨zvM e, zvE h0_0 h0_1, zvR h1_2 (z_hi x2), zvR (z_lo x3) (z_hi x3), zvR (z_lo x4) (z_hi x4), zvR (z_lo x5) (z_hi x5), trivial⟩⟩
    · exact ⟨_, zca70, fun X => ⟨zvM e, zvR h0_1 (z_hi x1), zvR (z_lo x2) (z_hi x2), zvR (z_lo x3) (z_hi x3), zvR (z_lo x4) (z_hi x4), zvR (z_lo x5) (z_hi x5), trivial⟩⟩
theorem zcv13 {x0 x1 x2 x3 x4 x5 : Int32} (e : x0 &&& 31 = 13) : zcv x0 x1 x2 x3 x4 x5 := by
  exact ⟨_, zca77, fun X => ⟨zvM e, zvR (z_lo x1) (z_hi x1), zvR (z_lo x2) (z_hi x2), zvR (z_lo x3) (z_hi x3), zvR (z_lo x4) (z_hi x4), zvR (z_lo x5) (z_hi x5), trivial⟩⟩
theorem zcv14 {x0 x1 x2 x3 x4 x5 : Int32} (e : x0 &&& 31 = 14) : zcv x0 x1 x2 x3 x4 x5 := by
  rcases zcut x1 (-1) (0) (by decide) with h0_0 | h0_0
  · exact ⟨_, zca78, fun X => ⟨zvM e, zvR (z_lo x1) h0_0, zvR (z_lo x2) (z_hi x2), zvR (z_lo x3) (z_hi x3), zvR (z_lo x4) (z_hi x4), zvR (z_lo x5) (z_hi x5), trivial⟩⟩
  · rcases zcut x1 (0) (1) (by decide) with h0_1 | h0_1
    · rcases zcut x2 (-2) (-1) (by decide) with h1_0 | h1_0
      · exact ⟨_, zca80, fun X => ⟨zvM e, zvE h0_0 h0_1, zvR (z_lo x2) h1_0, zvR (z_lo x3) (z_hi x3), zvR (z_lo x4) (z_hi x4), zvR (z_lo x5) (z_hi x5), trivial⟩⟩
      · rcases zcut x2 (-1) (0) (by decide) with h1_1 | h1_1
        · exact ⟨_, zca81, fun X => ⟨zvM e, zvE h0_0 h0_1, zvE h1_0 h1_1, zvR (z_lo x3) (z_hi x3), zvR (z_lo x4) (z_hi x4), zvR (z_lo x5) (z_hi x5), trivial⟩⟩
        · exact ⟨_, zca82, fun X => ⟨zvM e, zvE h0_0 h0_1, zvR h1_1 (z_hi x2), zvR (z_lo x3) (z_hi x3), zvR (z_lo x4) (z_hi x4), zvR (z_lo x5) (z_hi x5), trivial⟩⟩
    · exact ⟨_, zca79, fun X => ⟨zvM e, zvR h0_1 (z_hi x1), zvR (z_lo x2) (z_hi x2), zvR (z_lo x3) (z_hi x3), zvR (z_lo x4) (z_hi x4), zvR (z_lo x5) (z_hi x5), trivial⟩⟩
theorem zcv15 {x0 x1 x2 x3 x4 x5 : Int32} (e : x0 &&& 31 = 15) : zcv x0 x1 x2 x3 x4 x5 := by
  rcases zcut x1 (-1) (0) (by decide) with h0_0 | h0_0
  · exact ⟨_, zca83, fun X => ⟨zvM e, zvR (z_lo x1) h0_0, zvR (z_lo x2) (z_hi x2), zvR (z_lo x3) (z_hi x3), zvR (z_lo x4) (z_hi x4), zvR (z_lo x5) (z_hi x5), trivial⟩⟩
  · rcases zcut x1 (0) (1) (by decide) with h0_1 | h0_1
    · exact ⟨_, zca84, fun X => ⟨zvM e, zvE h0_0 h0_1, zvR (z_lo x2) (z_hi x2), zvR (z_lo x3) (z_hi x3), zvR (z_lo x4) (z_hi x4), zvR (z_lo x5) (z_hi x5), trivial⟩⟩
    · rcases zcut x1 (1) (2) (by decide) with h0_2 | h0_2
      · exact ⟨_, zca85, fun X => ⟨zvM e, zvE h0_1 h0_2, zvR (z_lo x2) (z_hi x2), zvR (z_lo x3) (z_hi x3), zvR (z_lo x4) (z_hi x4), zvR (z_lo x5) (z_hi x5), trivial⟩⟩
      · exact ⟨_, zca86, fun X => ⟨zvM e, zvR h0_2 (z_hi x1), zvR (z_lo x2) (z_hi x2), zvR (z_lo x3) (z_hi x3), zvR (z_lo x4) (z_hi x4), zvR (z_lo x5) (z_hi x5), trivial⟩⟩
theorem zcv16 {x0 x1 x2 x3 x4 x5 : Int32} (e : x0 &&& 31 = 16) : zcv x0 x1 x2 x3 x4 x5 := by
  rcases zcut x1 (-1) (0) (by decide) with h0_0 | h0_0
  · exact ⟨_, zca87, fun X => ⟨zvM e, zvR (z_lo x1) h0_0, zvR (z_lo x2) (z_hi x2), zvR (z_lo x3) (z_hi x3), zvR (z_lo x4) (z_hi x4), zvR (z_lo x5) (z_hi x5), trivial⟩⟩
  · rcases zcut x1 (0) (1) (by decide) with h0_1 | h0_1
    · exact ⟨_, zca88, fun X => ⟨zvM e, zvE h0_0 h0_1, zvR (z_lo x2) (z_hi x2), zvR (z_lo x3) (z_hi x3), zvR (z_lo x4) (z_hi x4), zvR (z_lo x5) (z_hi x5), trivial⟩⟩
    · rcases zcut x1 (1) (2) (by decide) with h0_2 | h0_2
      · exact ⟨_, zca89, fun X => ⟨zvM e, zvE h0_1 h0_2, zvR (z_lo x2) (z_hi x2), zvR (z_lo x3) (z_hi x3), zvR (z_lo x4) (z_hi x4), zvR (z_lo x5) (z_hi x5), trivial⟩⟩
      · rcases zcut x1 (2) (3) (by decide) with h0_3 | h0_3
        · exact ⟨_, zca90, fun X => ⟨zvM e, zvE h0_2 h0_3, zvR (z_lo x2) (z_hi x2), zvR (z_lo x3) (z_hi x3), zvR (z_lo x4) (z_hi x4), zvR (z_lo x5) (z_hi x5), trivial⟩⟩
        · exact ⟨_, zca91, fun X => ⟨zvM e, zvR h0_3 (z_hi x1), zvR (z_lo x2) (z_hi x2), zvR (z_lo x3) (z_hi x3), zvR (z_lo x4) (z_hi x4), zvR (z_lo x5) (z_hi x5), trivial⟩⟩
theorem zcv17 {x0 x1 x2 x3 x4 x5 : Int32} (e : x0 &&& 31 = 17) : zcv x0 x1 x2 x3 x4 x5 := by
  rcases zcut x1 (0) (1) (by decide) with h0_0 | h0_0
  · exact ⟨_, zca92, fun X => ⟨zvM e, zvR (z_lo x1) h0_0, zvR (z_lo x2) (z_hi x2), zvR (z_lo x3) (z_hi x3), zvR (z_lo x4) (z_hi x4), zvR (z_lo x5) (z_hi x5), trivial⟩⟩
  · rcases zcut x1 (1) (2) (by decide) with h0_1 | h0_1
    · exact ⟨_, zca93, fun X => ⟨zvM e, zvE h0_0 h0_1, zvR (z_lo x2) (z_hi x2), zvR (z_lo x3) (z_hi x3), zvR (z_lo x4) (z_hi x4), zvR (z_lo x5) (z_hi x5), trivial⟩⟩
    · rcases zcut x1 (2) (3) (by decide) with h0_2 | h0_2
      · exact ⟨_, zca94, fun X => ⟨zvM e, zvE h0_1 h0_2, zvR (z_lo x2) (z_hi x2), zvR (z_lo x3) (z_hi x3), zvR (z_lo x4) (z_hi x4), zvR (z_lo x5) (z_hi x5), trivial⟩⟩
      · rcases zcut x1 (3) (4) (by decide) with h0_3 | h0_3
        · exact ⟨_, zca95, fun X => ⟨zvM e, zvE h0_2 h0_3, zvR (z_lo x2) (z_hi x2), zvR (z_lo x3) (z_hi x3), zvR (z_lo x4) (z_hi x4), zvR (z_lo x5) (z_hi x5), trivial⟩⟩
        · rcases zcut x1 (4) (5) (by decide) with h0_4 | h0_4
          · exact ⟨_, zca96, fun X => ⟨zvM e, zvE h0_3 h0_4, zvR (z_lo x2) (z_hi x2), zvR (z_lo x3) (z_hi x3), zvR (z_lo x4) (z_hi x4), zvR (z_lo x5) (z_hi x5), trivial⟩⟩
          · rcases zcut x1 (5) (6) (by decide) with h0_5 | h0_5
            · exact ⟨_, zca97, fun X => ⟨zvM e, zvE h0_4 h0_5, zvR (z_lo x2) (z_hi x2), zvR (z_lo x3) (z_hi x3), zvR (z_lo x4) (z_hi x4), zvR (z_lo x5) (z_hi x5), trivial⟩⟩
            · exact ⟨_, zca98, fun X => ⟨zvM e, zvR h0_5 (z_hi x1), zvR (z_lo x2) (z_hi x2), zvR (z_lo x3) (z_hi x3), zvR (z_lo x4) (z_hi x4), zvR (z_lo x5) (z_hi x5), trivial⟩⟩
theorem zcv18 {x0 x1 x2 x3 x4 x5 : Int32} (e : x0 &&& 31 = 18) : zcv x0 x1 x2 x3 x4 x5 := by
  exact ⟨_, zca99, fun X => ⟨zvM e, zvR (z_lo x1) (z_hi x1), zvR (z_lo x2) (z_hi x2), zvR (z_lo x3) (z_hi x3), zvR (z_lo x4) (z_hi x4), zvR (z_lo x5) (z_hi x5), trivial⟩⟩
theorem zcv19 {x0 x1 x2 x3 x4 x5 : Int32} (e : x0 &&& 31 = 19) : zcv x0 x1 x2 x3 x4 x5 := by
  rcases zcut x1 (-1) (0) (by decide) with h0_0 | h0_0
  · exact ⟨_, zca100, fun X => ⟨zvM e, zvR (z_lo x1) h0_0, zvR (z_lo x2) (z_hi x2), zvR (z_lo x3) (z_hi x3), zvR (z_lo x4) (z_hi x4), zvR (z_lo x5) (z_hi x5), trivial⟩⟩
  · rcases zcut x1 (0) (1) (by decide) with h0_1 | h0_1
    · exact ⟨_, zca101, fun X => ⟨zvM e, zvE h0_0 h0_1, zvR (z_lo x2) (z_hi x2), zvR (z_lo x3) (z_hi x3), zvR (z_lo x4) (z_hi x4), zvR (z_lo x5) (z_hi x5), trivial⟩⟩
    · rcases zcut x1 (1) (2) (by decide) with h0_2 | h0_2
      · exact ⟨_, zca102, fun X => ⟨zvM e, zvE h0_1 h0_2, zvR (z_lo x2) (z_hi x2), zvR (z_lo x3) (z_hi x3), zvR (z_lo x4) (z_hi x4), zvR (z_lo x5) (z_hi x5), trivial⟩⟩
      · exact ⟨_, zca103, fun X => ⟨zvM e, zvR h0_2 (z_hi x1), zvR (z_lo x2) (z_hi x2), zvR (z_lo x3) (z_hi x3), zvR (z_lo x4) (z_hi x4), zvR (z_lo x5) (z_hi x5), trivial⟩⟩
theorem zcv20 {x0 x1 x2 x3 x4 x5 : Int32} (e : x0 &&& 31 = 20) : zcv x0 x1 x2 x3 x4 x5 := by
  exact ⟨_, zca104, fun X => ⟨zvM e, zvR (z_lo x1) (z_hi x1), zvR (z_lo x2) (z_hi x2), zvR (z_lo x3) (z_hi x3), zvR (z_lo x4) (z_hi x4), zvR (z_lo x5) (z_hi x5), trivial⟩⟩
theorem zcv21 {x0 x1 x2 x3 x4 x5 : Int32} (e : x0 &&& 31 = 21) : zcv x0 x1 x2 x3 x4 x5 := by
  exact ⟨_, zca105, fun X => ⟨zvM e, zvR (z_lo x1) (z_hi x1), zvR (z_lo x2) (z_hi x2), zvR (z_lo x3) (z_hi x3), zvR (z_lo x4) (z_hi x4), zvR (z_lo x5) (z_hi x5), trivial⟩⟩
theorem zcv22 {x0 x1 x2 x3 x4 x5 : Int32} (e : x0 &&& 31 = 22) : zcv x0 x1 x2 x3 x4 x5 := by
  exact ⟨_, zca106, fun X => ⟨zvM e, zvR (z_lo x1) (z_hi x1), zvR (z_lo x2) (z_hi x2), zvR (z_lo x3) (z_hi x3), zvR (z_lo x4) (z_hi x4), zvR (z_lo x5) (z_hi x5), trivial⟩⟩
theorem zcv23 {x0 x1 x2 x3 x4 x5 : Int32} (e : x0 &&& 31 = 23) : zcv x0 x1 x2 x3 x4 x5 := by
  exact ⟨_, zca107, fun X => ⟨zvM e, zvR (z_lo x1) (z_hi x1), zvR (z_lo x2) (z_hi x2), zvR (z_lo x3) (z_hi x3), zvR (z_lo x4) (z_hi x4), zvR (z_lo x5) (z_hi x5), trivial⟩⟩
theorem zcv24 {x0 x1 x2 x3 x4 x5 : Int32} (e : x0 &&& 31 = 24) : zcv x0 x1 x2 x3 x4 x5 := by
  exact ⟨_, zca108, fun X => ⟨zvM e, zvR (z_lo x1) (z_hi x1), zvR (z_lo x2) (z_hi x2), zvR (z_lo x3) (z_hi x3), zvR (z_lo x4) (z_hi x4), zvR (z_lo x5) (z_hi x5), trivial⟩⟩
theorem zcv25 {x0 x1 x2 x3 x4 x5 : Int32} (e : x0 &&& 31 = 25) : zcv x0 x1 x2 x3 x4 x5 := by
  exact ⟨_, zca109, fun X => ⟨zvM e, zvR (z_lo x1) (z_hi x1), zvR (z_lo x2) (z_hi x2), zvR (z_lo x3) (z_hi x3), zvR (z_lo x4) (z_hi x4), zvR (z_lo x5) (z_hi x5), trivial⟩⟩
theorem zcv26 {x0 x1 x2 x3 x4 x5 : Int32} (e : x0 &&& 31 = 26) : zcv x0 x1 x2 x3 x4 x5 := by
  exact ⟨_, zca110, fun X => ⟨zvM e, zvR (z_lo x1) (z_hi x1), zvR (z_lo x2) (z_hi x2), zvR (z_lo x3) (z_hi x3), zvR (z_lo x4) (z_hi x4), zvR (z_lo x5) (z_hi x5), trivial⟩⟩
theorem zcv27 {x0 x1 x2 x3 x4 x5 : Int32} (e : x0 &&& 31 = 27) : zcv x0 x1 x2 x3 x4 x5 := by
  exact ⟨_, zca111, fun X => ⟨zvM e, zvR (z_lo x1) (z_hi x1), zvR (z_lo x2) (z_hi x2), zvR (z_lo x3) (z_hi x3), zvR (z_lo x4) (z_hi x4), zvR (z_lo x5) (z_hi x5), trivial⟩⟩
theorem zcv28 {x0 x1 x2 x3 x4 x5 : Int32} (e : x0 &&& 31 = 28) : zcv x0 x1 x2 x3 x4 x5 := by
  exact ⟨_, zca112, fun X => ⟨zvM e, zvR (z_lo x1) (z_hi x1), zvR (z_lo x2) (z_hi x2), zvR (z_lo x3) (z_hi x3), zvR (z_lo x4) (z_hi x4), zvR (z_lo x5) (z_hi x5), trivial⟩⟩
theorem zcv29 {x0 x1 x2 x3 x4 x5 : Int32} (e : x0 &&& 31 = 29) : zcv x0 x1 x2 x3 x4 x5 := by
  exact ⟨_, zca113, fun X => ⟨zvM e, zvR (z_lo x1) (z_hi x1), zvR (z_lo x2) (z_hi x2), zvR (z_lo x3) (z_hi x3), zvR (z_lo x4) (z_hi x4), zvR (z_lo x5) (z_hi x5), trivial⟩⟩
theorem zcv30 {x0 x1 x2 x3 x4 x5 : Int32} (e : x0 &&& 31 = 30) : zcv x0 x1 x2 x3 x4 x5 := by
  exact ⟨_, zca114, fun X => ⟨zvM e, zvR (z_lo x1) (z_hi x1), zvR (z_lo x2) (z_hi x2), zvR (z_lo x3) (z_hi x3), zvR (z_lo x4) (z_hi x4), zvR (z_lo x5) (z_hi x5), trivial⟩⟩
theorem zcv31 {x0 x1 x2 x3 x4 x5 : Int32} (e : x0 &&& 31 = 31) : zcv x0 x1 x2 x3 x4 x5 := by
  exact ⟨_, zca115, fun X => ⟨zvM e, zvR (z_lo x1) (z_hi x1), zvR (z_lo x2) (z_hi x2), zvR (z_lo x3) (z_hi x3), zvR (z_lo x4) (z_hi x4), zvR (z_lo x5) (z_hi x5), trivial⟩⟩
theorem zcv_all (x0 x1 x2 x3 x4 x5 : Int32) : zcv x0 x1 x2 x3 x4 x5 := by
  obtain ⟨n, hn, e⟩ := zand31 x0
  match n, hn, e with
  | 0, _, e => exact zcv0 e
  | 1, _, e => exact zcv1 e
  | 2, _, e => exact zcv2 e
  | 3, _, e => exact zcv3 e
  | 4, _, e => exact zcv4 e
  | 5, _, e => exact zcv5 e
  | 6, _, e => exact zcv6 e
  | 7, _, e => exact zcv7 e
  | 8, _, e => exact zcv8 e
  | 9, _, e => exact zcv9 e
  | 10, _, e => exact zcv10 e
  | 11, _, e => exact zcv11 e
  | 12, _, e => exact zcv12 e
  | 13, _, e => exact zcv13 e
  | 14, _, e => exact zcv14 e
  | 15, _, e => exact zcv15 e
  | 16, _, e => exact zcv16 e
  | 17, _, e => exact zcv17 e
  | 18, _, e => exact zcv18 e
  | 19, _, e => exact zcv19 e
  | 20, _, e => exact zcv20 e
  | 21, _, e => exact zcv21 e
  | 22, _, e => exact zcv22 e
  | 23, _, e => exact zcv23 e
  | 24, _, e => exact zcv24 e
  | 25, _, e => exact zcv25 e
  | 26, _, e => exact zcv26 e
  | 27, _, e => exact zcv27 e
  | 28, _, e => exact zcv28 e
  | 29, _, e => exact zcv29 e
  | 30, _, e => exact zcv30 e
  | 31, _, e => exact zcv31 e
  | n + 32, hn, _ => exact absurd hn (by omega)
theorem zS_fn {X : Nat → Value → Prop} {l : List zv} {L : Nat} {xs : Nat → Int32} (h : zS X [] l ((List.range L).map fun i => .int (xs i))) : l.length = L ∧ ∀ (i : Nat) (a : zv), l[i]? = some a → zval X [] a (.int (xs i)) := by
  have h1 := zS_len h
  rw [List.length_map, List.length_range] at h1
  refine ⟨h1.symm, fun i a hi => ?_⟩
  obtain ⟨v, hv, hz⟩ := zS_get h hi
  have hl : i < L := by
    rw [h1]
    exact (List.getElem?_eq_some_iff.mp hi).1
  rw [List.getElem?_map, List.getElem?_range hl] at hv
  cases hv
  exact hz
/-- every script of at most 6 ints is read -/
theorem zscr (L : Nat) (hL : L ≤ 6) (xs : Nat → Int32) : ∃ l : List zv, zchk l = true ∧ ∀ X : Nat → Value → Prop, l.length = L ∧ ∀ (i : Nat) (a : zv), l[i]? = some a → zval X [] a (.int (xs i)) := by
  match L, hL with
  | 0, _ => exact ⟨_, zcs0, fun X => zS_fn (xs := xs) (show zS X [] [] [] from trivial)⟩
  | 1, _ => exact ⟨_, zcs1, fun X => zS_fn (xs := xs) (show zS X [] [zfull] [.int (xs 0)] from ⟨zval_full _, trivial⟩)⟩
  | 2, _ => exact ⟨_, zcs2, fun X => zS_fn (xs := xs) (show zS X [] [zfull, zfull] [.int (xs 0), .int (xs 1)] from ⟨zval_full _, zval_full _, trivial⟩)⟩
  | 3, _ => exact ⟨_, zcs3, fun X => zS_fn (xs := xs) (show zS X [] [zfull, zfull, zfull] [.int (xs 0), .int (xs 1), .int (xs 2)] from ⟨zval_full _, zval_full _, zval_full _, trivial⟩)⟩
  | 4, _ => exact ⟨_, zcs4, fun X => zS_fn (xs := xs) (show zS X [] [zfull, zfull, zfull, zfull] [.int (xs 0), .int (xs 1), .int (xs 2), .int (xs 3)] from ⟨zval_full _, zval_full _, zval_full _, zval_full _, trivial⟩)⟩
  | 5, _ => exact ⟨_, zcs5, fun X => zS_fn (xs := xs) (show zS X [] [zfull, zfull, zfull, zfull, zfull] [.int (xs 0), .int (xs 1), .int (xs 2), .int (xs 3), .int (xs 4)] from ⟨zval_full _, zval_full _, zval_full _, zval_full _, zval_full _, trivial⟩)⟩
  | 6, _ =>
    obtain ⟨l, h1, h2⟩ := zcv_all (xs 0) (xs 1) (xs 2) (xs 3) (xs 4) (xs 5)
    exact ⟨l, h1, fun X => zS_fn (xs := xs) (L := 6) (h2 X)⟩
  | n + 7, h => exact absurd h (by omega)
