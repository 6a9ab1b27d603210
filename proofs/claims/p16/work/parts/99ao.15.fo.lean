theorem pk_or {A B C E : Nat} (h2 : B < 32) (h3 : C < 32) (h4 : E < 32) : ((nI A <<< ((15 : Int32) &&& 31)) ||| (nI B <<< ((10 : Int32) &&& 31))) ||| (nI C <<< ((5 : Int32) &&& 31)) ||| nI E = nI (2 ^ 15 * A + (2 ^ 10 * B + (2 ^ 5 * C + E))) := b_ext (fun i hi => by
  have c1 : 2 ^ 5 * C + E < 2 ^ 10 := by
    have : 2 ^ 5 = 32 := rfl
    have : 2 ^ 10 = 1024 := rfl
    omega
  have c2 : 2 ^ 10 * B + (2 ^ 5 * C + E) < 2 ^ 15 := by
    have : 2 ^ 5 = 32 := rfl
    have : 2 ^ 10 = 1024 := rfl
    have : 2 ^ 15 = 32768 := rfl
    omega
  have c3 : E < 2 ^ 5 := h4
  rw [b_or, b_or, b_or, show (15 : Int32) = nI 15 from rfl, show (10 : Int32) = nI 10 from rfl, show (5 : Int32) = nI 5 from rfl, b_shl 15 (by omega) _ hi, b_shl 10 (by omega) _ hi, b_shl 5 (by omega) _ hi, bt_nI (by omega), bt_nI (by omega), bt_nI (by omega), bt_nI hi, bt_nI hi, Nat.testBit_two_pow_mul_add _ c2, Nat.testBit_two_pow_mul_add _ c1, Nat.testBit_two_pow_mul_add _ c3]
  rcases Nat.lt_or_ge i 5 with q | q
  · rw [if_pos (by omega), if_pos (by omega), if_pos q, decide_eq_false (by omega : ¬ 15 ≤ i), decide_eq_false (by omega : ¬ 10 ≤ i), decide_eq_false (by omega : ¬ 5 ≤ i)]
    cases E.testBit i <;> rfl
  · have z1 : E.testBit i = false := Nat.testBit_lt_two_pow (Nat.lt_of_lt_of_le h4 (Nat.pow_le_pow_right (n := 2) (by decide) q))
    rcases Nat.lt_or_ge i 10 with q2 | q2
    · rw [if_pos (by omega), if_pos q2, if_neg (by omega), decide_eq_false (by omega : ¬ 15 ≤ i), decide_eq_false (by omega : ¬ 10 ≤ i), decide_eq_true q, z1]
      cases C.testBit (i - 5) <;> rfl
    · have z2 : C.testBit (i - 5) = false := Nat.testBit_lt_two_pow (Nat.lt_of_lt_of_le h3 (Nat.pow_le_pow_right (n := 2) (by decide) (by omega : 5 ≤ i - 5)))
      rcases Nat.lt_or_ge i 15 with q3 | q3
      · rw [if_pos q3, if_neg (by omega), decide_eq_false (by omega : ¬ 15 ≤ i), decide_eq_true q2, z1, z2]
        cases B.testBit (i - 10) <;> cases decide (5 ≤ i) <;> rfl
      · have z3 : B.testBit (i - 10) = false := Nat.testBit_lt_two_pow (Nat.lt_of_lt_of_le h2 (Nat.pow_le_pow_right (n := 2) (by decide) (by omega : 5 ≤ i - 10)))
        rw [if_neg (by omega), decide_eq_true q3, z1, z2, z3]
        cases A.testBit (i - 15) <;> cases decide (10 ≤ i) <;> cases decide (5 ≤ i) <;> rfl)
/-! a sequent of the class: what it goes on with -/
theorem e_pk20 {d t : Nat} {h : zh} {xk xx xy xz : Int32} {A B C E : Int} (hk : xk.toInt = A) (h1 : 0 ≤ A ∧ A ≤ 3) (hx : xx.toInt = B) (h2 : 0 ≤ B ∧ B ≤ 20) (hy : xy.toInt = C) (h3 : 0 ≤ C ∧ C ≤ 20) (hz : xz.toInt = E) (h4 : 0 ≤ E ∧ E ≤ 20) : qI (d + 1) 158 [some (zi xk), some (zi xx), some (zi xy), some (zi xz)] h t (fun y h1 => h = h1 ∧ y.toInt = pk (A, B, C, E)) := by
  refine qI_of ?_
  refine y_same (i := .iload_n 0) (len := 1) (r := (0, 0, 0, 0)) (pc' := 1) (ls' := [some (zi xk), some (zi xx), some (zi xy), some (zi xz)]) (st' := [zi xk]) (by decide +kernel) (fun k q => by cases q) rfl ?_
  refine y_bi (c := 15) (len := 2) (r := (0, 0, 0, 0)) (by decide +kernel) (by decide) (fun y2256 hy2256 => ?_)
  refine y_bp (i := .ishl) (f := fun x y => x <<< (y &&& 31)) (len := 1) (r := (0, 0, 0, 0)) (by decide +kernel) rfl rfl (fun y2257 hy2257 => ?_)
  have hy2257 : y2257 = xk <<< (y2256 &&& 31) := hy2257
  refine y_same (i := .iload_n 1) (len := 1) (r := (0, 0, 0, 0)) (pc' := 5) (ls' := [some (zi xk), some (zi xx), some (zi xy), some (zi xz)]) (st' := [zi xx, zi y2257]) (by decide +kernel) (fun k q => by cases q) rfl ?_
  refine y_bi (c := 10) (len := 2) (r := (0, 0, 0, 0)) (by decide +kernel) (by decide) (fun y2258 hy2258 => ?_)
  refine y_bp (i := .ishl) (f := fun x y => x <<< (y &&& 31)) (len := 1) (r := (0, 0, 0, 0)) (by decide +kernel) rfl rfl (fun y2259 hy2259 => ?_)
  have hy2259 : y2259 = xx <<< (y2258 &&& 31) := hy2259
  refine y_bp (i := .ior) (f := fun x y => x ||| y) (len := 1) (r := (0, 0, 0, 0)) (by decide +kernel) rfl rfl (fun y2260 hy2260 => ?_)
  have hy2260 : y2260 = y2257 ||| y2259 := hy2260
  refine y_same (i := .iload_n 2) (len := 1) (r := (0, 0, 0, 0)) (pc' := 10) (ls' := [some (zi xk), some (zi xx), some (zi xy), some (zi xz)]) (st' := [zi xy, zi y2260]) (by decide +kernel) (fun k q => by cases q) rfl ?_
  refine y_ic (c := 5) (len := 1) (r := (0, 0, 0, 0)) (by decide +kernel) (by decide) (fun y2261 hy2261 => ?_)
  refine y_bp (i := .ishl) (f := fun x y => x <<< (y &&& 31)) (len := 1) (r := (0, 0, 0, 0)) (by decide +kernel) rfl rfl (fun y2262 hy2262 => ?_)
  have hy2262 : y2262 = xy <<< (y2261 &&& 31) := hy2262
  refine y_bp (i := .ior) (f := fun x y => x ||| y) (len := 1) (r := (0, 0, 0, 0)) (by decide +kernel) rfl rfl (fun y2263 hy2263 => ?_)
  have hy2263 : y2263 = y2260 ||| y2262 := hy2263
  refine y_same (i := .iload_n 3) (len := 1) (r := (0, 0, 0, 0)) (pc' := 14) (ls' := [some (zi xk), some (zi xx), some (zi xy), some (zi xz)]) (st' := [zi xz, zi y2263]) (by decide +kernel) (fun k q => by cases q) rfl ?_
  refine y_bp (i := .ior) (f := fun x y => x ||| y) (len := 1) (r := (0, 0, 0, 0)) (by decide +kernel) rfl rfl (fun y2264 hy2264 => ?_)
  have hy2264 : y2264 = y2263 ||| xz := hy2264
  refine y_rI (len := 1) (r := (0, 0, 0, 0)) (nL := 4) (k := 1) (n9 := 4) (hs := []) (by decide +kernel) rfl rfl ?_
  refine ⟨rfl, ?_⟩
  have e9 : y2264 = nI (2 ^ 15 * A.toNat + (2 ^ 10 * B.toNat + (2 ^ 5 * C.toNat + E.toNat))) := by
    rw [hy2264, hy2263, hy2260, hy2257, hy2259, hy2262, nI_of_i (x := xk) (n := A.toNat) (by omega), nI_of_i (x := xx) (n := B.toNat) (by omega), nI_of_i (x := xy) (n := C.toNat) (by omega), nI_of_i (x := xz) (n := E.toNat) (by omega), ofI (w := 15) hy2256 rfl, ofI (w := 10) hy2258 rfl, ofI (w := 5) hy2261 rfl]
    exact pk_or (by omega) (by omega) (by omega)
  have e8 := pk_n (i := (A, B, C, E)) ⟨h1, h2, h3, h4⟩
  rw [e9, nI_toInt (by omega), e8]
  simp only
  omega

theorem okPt_c {x y : Int} (hx : 0 ≤ x ∧ x ≤ 20) (hy : 0 ≤ y ∧ y ≤ 20) : okPt (0, x, y, 0) := ⟨⟨⟨(by decide : (0 : Int) ≤ 0), (by decide : (0 : Int) ≤ 3)⟩, hx, hy, (by decide : (0 : Int) ≤ 0), (by decide : (0 : Int) ≤ 20)⟩, fun _ => rfl, fun q => by cases q⟩
theorem okPt_p {x y z : Int} (hx : 0 ≤ x ∧ x ≤ 20) (hy : 0 ≤ y ∧ y ≤ 20) (hz : 0 ≤ z ∧ z ≤ 20) : okPt (1, x, y, z) := ⟨⟨⟨(by decide : (0 : Int) ≤ 1), (by decide : (1 : Int) ≤ 3)⟩, hx, hy, hz.1, hz.2⟩, fun q => absurd rfl q, fun q => by cases q⟩
theorem okPt_l {x y : Int} (hx : 0 ≤ x ∧ x ≤ 20) (hy : 0 ≤ y ∧ y ≤ 20) : okPt (2, x, y, 0) := ⟨⟨⟨(by decide : (0 : Int) ≤ 2), (by decide : (2 : Int) ≤ 3)⟩, hx, hy, (by decide : (0 : Int) ≤ 0), (by decide : (0 : Int) ≤ 20)⟩, fun _ => rfl, fun q => by cases q⟩
theorem okPt_t {x : Int} (hx : 0 ≤ x ∧ x ≤ 20) : okPt (3, x, 0, 0) := ⟨⟨⟨(by decide : (0 : Int) ≤ 3), (by decide : (3 : Int) ≤ 3)⟩, hx, ⟨(by decide : (0 : Int) ≤ 0), (by decide : (0 : Int) ≤ 20)⟩, (by decide : (0 : Int) ≤ 0), (by decide : (0 : Int) ≤ 20)⟩, fun _ => rfl, fun _ => rfl⟩
theorem okCl_s {x y : Int} (hx : 0 ≤ x ∧ x ≤ 20) (hy : 0 ≤ y ∧ y ≤ 20) : okCl (1, x, y, 0) := ⟨⟨⟨(by decide : (0 : Int) ≤ 1), (by decide : (1 : Int) ≤ 3)⟩, hx, hy, (by decide : (0 : Int) ≤ 0), (by decide : (0 : Int) ≤ 20)⟩, (by decide : (1 : Int) ≤ 1), rfl⟩
theorem q_daddI {d t a : Nat} {τ : List Nat} {h : zh} {s : sqT} {x y : Int} {xx xy : Int32} (exx : xx.toInt = x) (hx : 0 ≤ x ∧ x ≤ 20) (exy : xy.toInt = y) (hy : 0 ≤ y ∧ y ≤ 20) (Q : QC τ h a s) : qV (d + 2) 4 [some (.inl (some (a + 1))), some (zi xx), some (zi xy)] h t (fun h1 => QC τ h1 a (s.1, s.2.1, s.2.2.1, dAdd s.2.2.2 x y) ∧ FQ a h h1) := by
  obtain ⟨m, rfl⟩ := Int.eq_ofNat_of_zero_le hx.1
  obtain ⟨n, rfl⟩ := Int.eq_ofNat_of_zero_le hy.1
  exact q_dadd Q exx (by omega) exy (by omega)
/-- laid, whatever it holds -/
def LQ (τ : List Nat) (h : zh) (a : Nat) : Prop := hG τ h ∧ tyQ τ a ∧ laQ h a
theorem LQ_of {τ : List Nat} {h : zh} {a : Nat} {s : sqT} (Q : QC τ h a s) : LQ τ h a := ⟨Q.1, Q.2.1, Q.2.2.1⟩
theorem q_cp {d t a b : Nat} {τ : List Nat} {h : zh} {s : sqT} (L : LQ τ h a) (Q : QC τ h b s) (ne : a + 9 ≤ b ∨ b + 9 ≤ a) : qV (d + 3) 79 [some (.inl (some a)), some (.inl (some b))] h t (fun h1 => QC τ h1 a s ∧ FQ a h h1) := by
  refine qV_of ?_
  refine y_same (i := .aload_n 0) (len := 1) (r := (0, 0, 0, 0)) (pc' := 1) (ls' := [some (.inl (some a)), some (.inl (some b))]) (st' := [.inl (some a)]) (by decide +kernel) (fun k q => by cases q) rfl ?_
  refine y_get (j := 12) (len := 3) (r := (7, 0, 2, 530)) (by decide +kernel) Q.1 L.2.1.1 aw1008 rfl rfl L.2.2.1 ?_
  refine y_same (i := .aload_n 1) (len := 1) (r := (0, 0, 0, 0)) (pc' := 5) (ls' := [some (.inl (some a)), some (.inl (some b))]) (st' := [.inl (some b), .inl (some ((a + 1)))]) (by decide +kernel) (fun k q => by cases q) rfl ?_
  refine y_get (j := 12) (len := 3) (r := (7, 0, 2, 530)) (by decide +kernel) Q.1 Q.2.1.1 aw1008 rfl rfl Q.2.2.1.1 ?_
  refine y_cV (i := .invokevirtual 91) (len := 3) (r := (0, 2, 0, 787)) (nL := 2) (k := 0) (n := 2) (hs := []) (args := [.inl (some ((a + 1))), .inl (some ((b + 1)))]) (rest := []) (l0 := [some (.inl (some ((a + 1)))), some (.inl (some ((b + 1))))]) (by decide +kernel) (Or.inr (Or.inl ⟨_, rfl⟩)) rfl rfl rfl rfl (Nat.le_of_ble_eq_true rfl) (zO Q.1 L.2.1.2.1 aw1009 rfl) rfl (qV_le (by omega) (e_dcp (d := 0) (DA := a + 1) (OA := a + 2) (DB := b + 1) (OB := b + 2) Q.1 L.2.1.2.1 L.2.1.2.2.1 Q.2.1.2.1 Q.2.1.2.2.1 L.2.2.2.2.2.2.1 Q.2.2.1.2.2.2.2.1 Q.2.2.2.1.2.2.2)) (fun h2265 hR2265 => ?_)
  obtain ⟨hg2265, r2265, F2265⟩ := hR2265
  have Q2265 := QC_up Q hg2265 (fun k j _ _ _ => F2265 k j (by omega))
  refine y_same (i := .aload_n 0) (len := 1) (r := (0, 0, 0, 0)) (pc' := 12) (ls' := [some (.inl (some a)), some (.inl (some b))]) (st' := [.inl (some a)]) (by decide +kernel) (fun k q => by cases q) rfl ?_
  have hv2266 := (F2265 a 1 (by omega)).trans L.2.2.2.1
  refine y_get (j := 23) (len := 3) (r := (7, 1, 2, 533)) (by decide +kernel) hg2265 L.2.1.1 aw1008 rfl rfl hv2266 ?_
  refine y_same (i := .aload_n 1) (len := 1) (r := (0, 0, 0, 0)) (pc' := 16) (ls' := [some (.inl (some a)), some (.inl (some b))]) (st' := [.inl (some b), .inl (some ((a + 3)))]) (by decide +kernel) (fun k q => by cases q) rfl ?_
  refine y_get (j := 23) (len := 3) (r := (7, 1, 2, 533)) (by decide +kernel) hg2265 Q2265.2.1.1 aw1008 rfl rfl Q2265.2.2.1.2.1 ?_
  have hv2268 := (F2265 (a + 3) 0 (by omega)).trans L.2.2.2.2.2.2.2.1
  refine y_cV (i := .invokevirtual 57) (len := 3) (r := (0, 71, 6, 580)) (nL := 3) (k := 0) (n := 2) (hs := []) (args := [.inl (some ((a + 3))), .inl (some ((b + 3)))]) (rest := []) (l0 := [some (.inl (some ((a + 3)))), some (.inl (some ((b + 3)))), none]) (by decide +kernel) (Or.inr (Or.inl ⟨_, rfl⟩)) rfl rfl rfl rfl (Nat.le_of_ble_eq_true rfl) (zO hg2265 L.2.1.2.2.2.1 aw1004 rfl) rfl (qV_le (by omega) (e_cpr14c (d := 0) (RA := a + 3) (IA := a + 4) (RB := b + 3) (IB := b + 4) hg2265 L.2.1.2.2.2.1 L.2.1.2.2.2.2.1 Q2265.2.1.2.2.2.1 Q2265.2.1.2.2.2.2.1 (by omega) (by omega) (by omega) (by omega) (by omega) hv2268 Q2265.2.2.1.2.2.2.2.2.1 Q2265.2.2.2.1.1)) (fun h2267 hR2267 => ?_)
  obtain ⟨hg2267, r2267, F2267⟩ := hR2267
  have Q2267 := QC_up Q2265 hg2267 (fun k j _ _ _ => F2267 k j (by omega))
  refine y_same (i := .aload_n 0) (len := 1) (r := (0, 0, 0, 0)) (pc' := 23) (ls' := [some (.inl (some a)), some (.inl (some b))]) (st' := [.inl (some a)]) (by decide +kernel) (fun k q => by cases q) rfl ?_
  have hv2269 := (F2265 a 2 (by omega)).trans L.2.2.2.2.1
  have hv2270 := (F2267 a 2 (by omega)).trans hv2269
  refine y_get (j := 27) (len := 3) (r := (7, 2, 2, 536)) (by decide +kernel) hg2267 L.2.1.1 aw1008 rfl rfl hv2270 ?_
  refine y_same (i := .aload_n 1) (len := 1) (r := (0, 0, 0, 0)) (pc' := 27) (ls' := [some (.inl (some a)), some (.inl (some b))]) (st' := [.inl (some b), .inl (some ((a + 5)))]) (by decide +kernel) (fun k q => by cases q) rfl ?_
  refine y_get (j := 27) (len := 3) (r := (7, 2, 2, 536)) (by decide +kernel) hg2267 Q2267.2.1.1 aw1008 rfl rfl Q2267.2.2.1.2.2.1 ?_
  have hv2272 := (F2265 (a + 5) 0 (by omega)).trans L.2.2.2.2.2.2.2.2.1
  have hv2273 := (F2267 (a + 5) 0 (by omega)).trans hv2272
  refine y_cV (i := .invokevirtual 57) (len := 3) (r := (0, 71, 6, 580)) (nL := 3) (k := 0) (n := 2) (hs := []) (args := [.inl (some ((a + 5))), .inl (some ((b + 5)))]) (rest := []) (l0 := [some (.inl (some ((a + 5)))), some (.inl (some ((b + 5)))), none]) (by decide +kernel) (Or.inr (Or.inl ⟨_, rfl⟩)) rfl rfl rfl rfl (Nat.le_of_ble_eq_true rfl) (zO hg2267 L.2.1.2.2.2.2.2.1 aw1004 rfl) rfl (qV_le (by omega) (e_cpr14c (d := 0) (RA := a + 5) (IA := a + 6) (RB := b + 5) (IB := b + 6) hg2267 L.2.1.2.2.2.2.2.1 L.2.1.2.2.2.2.2.2.1 Q2267.2.1.2.2.2.2.2.1 Q2267.2.1.2.2.2.2.2.2.1 (by omega) (by omega) (by omega) (by omega) (by omega) hv2273 Q2267.2.2.1.2.2.2.2.2.2.1 Q2267.2.2.2.1.2.1)) (fun h2271 hR2271 => ?_)
  obtain ⟨hg2271, r2271, F2271⟩ := hR2271
  have Q2271 := QC_up Q2267 hg2271 (fun k j _ _ _ => F2271 k j (by omega))
  refine y_same (i := .aload_n 0) (len := 1) (r := (0, 0, 0, 0)) (pc' := 34) (ls' := [some (.inl (some a)), some (.inl (some b))]) (st' := [.inl (some a)]) (by decide +kernel) (fun k q => by cases q) rfl ?_
  have hv2274 := (F2265 a 3 (by omega)).trans L.2.2.2.2.2.1
  have hv2275 := (F2267 a 3 (by omega)).trans hv2274
  have hv2276 := (F2271 a 3 (by omega)).trans hv2275
  refine y_get (j := 30) (len := 3) (r := (7, 3, 2, 539)) (by decide +kernel) hg2271 L.2.1.1 aw1008 rfl rfl hv2276 ?_
  refine y_same (i := .aload_n 1) (len := 1) (r := (0, 0, 0, 0)) (pc' := 38) (ls' := [some (.inl (some a)), some (.inl (some b))]) (st' := [.inl (some b), .inl (some ((a + 7)))]) (by decide +kernel) (fun k q => by cases q) rfl ?_
  refine y_get (j := 30) (len := 3) (r := (7, 3, 2, 539)) (by decide +kernel) hg2271 Q2271.2.1.1 aw1008 rfl rfl Q2271.2.2.1.2.2.2.1 ?_
  have hv2278 := (F2265 (a + 7) 0 (by omega)).trans L.2.2.2.2.2.2.2.2.2
  have hv2279 := (F2267 (a + 7) 0 (by omega)).trans hv2278
  have hv2280 := (F2271 (a + 7) 0 (by omega)).trans hv2279
  refine y_cV (i := .invokevirtual 57) (len := 3) (r := (0, 71, 6, 580)) (nL := 3) (k := 0) (n := 2) (hs := []) (args := [.inl (some ((a + 7))), .inl (some ((b + 7)))]) (rest := []) (l0 := [some (.inl (some ((a + 7)))), some (.inl (some ((b + 7)))), none]) (by decide +kernel) (Or.inr (Or.inl ⟨_, rfl⟩)) rfl rfl rfl rfl (Nat.le_of_ble_eq_true rfl) (zO hg2271 L.2.1.2.2.2.2.2.2.2.1 aw1004 rfl) rfl (qV_le (by omega) (e_cpr14c (d := 0) (RA := a + 7) (IA := a + 8) (RB := b + 7) (IB := b + 8) hg2271 L.2.1.2.2.2.2.2.2.2.1 L.2.1.2.2.2.2.2.2.2.2 Q2271.2.1.2.2.2.2.2.2.2.1 Q2271.2.1.2.2.2.2.2.2.2.2 (by omega) (by omega) (by omega) (by omega) (by omega) hv2280 Q2271.2.2.1.2.2.2.2.2.2.2 Q2271.2.2.2.1.2.2.1)) (fun h2277 hR2277 => ?_)
  obtain ⟨hg2277, r2277, F2277⟩ := hR2277
  have Q2277 := QC_up Q2271 hg2277 (fun k j _ _ _ => F2277 k j (by omega))
  refine y_rV (len := 1) (r := (0, 0, 0, 0)) (nL := 2) (n9 := 2) (hs := []) (by decide +kernel) rfl ?_
  have FF : FQ a h h2277 := fun k j hC => ((F2277 k j (by omega)).trans ((F2271 k j (by omega)).trans ((F2267 k j (by omega)).trans (F2265 k j (by omega)))))
  obtain ⟨l1, l2, l3, l4, l5, l6, l7, l8⟩ := L.2.2
  exact ⟨⟨hg2277, L.2.1, ⟨rfs_up l1 (((F2277 a 0 (by omega)).trans ((F2271 a 0 (by omega)).trans ((F2267 a 0 (by omega)).trans (F2265 a 0 (by omega)))))), rfs_up l2 (((F2277 a 1 (by omega)).trans ((F2271 a 1 (by omega)).trans ((F2267 a 1 (by omega)).trans (F2265 a 1 (by omega)))))), rfs_up l3 (((F2277 a 2 (by omega)).trans ((F2271 a 2 (by omega)).trans ((F2267 a 2 (by omega)).trans (F2265 a 2 (by omega)))))), rfs_up l4 (((F2277 a 3 (by omega)).trans ((F2271 a 3 (by omega)).trans ((F2267 a 3 (by omega)).trans (F2265 a 3 (by omega)))))), rfs_up l5 (((F2277 (a + 1) 0 (by omega)).trans ((F2271 (a + 1) 0 (by omega)).trans ((F2267 (a + 1) 0 (by omega)).trans (F2265 (a + 1) 0 (by omega)))))), rfs_up l6 (((F2277 (a + 3) 0 (by omega)).trans ((F2271 (a + 3) 0 (by omega)).trans ((F2267 (a + 3) 0 (by omega)).trans (F2265 (a + 3) 0 (by omega)))))), rfs_up l7 (((F2277 (a + 5) 0 (by omega)).trans ((F2271 (a + 5) 0 (by omega)).trans ((F2267 (a + 5) 0 (by omega)).trans (F2265 (a + 5) 0 (by omega)))))), rfs_up l8 (((F2277 (a + 7) 0 (by omega)).trans ((F2271 (a + 7) 0 (by omega)).trans ((F2267 (a + 7) 0 (by omega)).trans (F2265 (a + 7) 0 (by omega))))))⟩, ⟨rwC_up r2267 (((F2277 (a + 3) 1 (by omega)).trans (F2271 (a + 3) 1 (by omega)))) (fun j => ((F2277 (a + 4) j (by omega)).trans (F2271 (a + 4) j (by omega)))), rwC_up r2271 ((F2277 (a + 5) 1 (by omega))) (fun j => (F2277 (a + 6) j (by omega))), rwC_up r2277 (rfl) (fun j => rfl), dC_up r2265 (fun j => ((F2277 (a + 2) j (by omega)).trans ((F2271 (a + 2) j (by omega)).trans (F2267 (a + 2) j (by omega)))))⟩, Q.2.2.2.2⟩, FF⟩
/-- the least of 6 and on that is not there -/
def frs (S : Int → Prop) (u : Nat) : Prop := 6 ≤ u ∧ u ≤ 21 ∧ (∀ v : Nat, 6 ≤ v → v < u → S (v : Int)) ∧ (u < 21 → ¬ S (u : Int))
theorem frs_one {S : Int → Prop} {u v : Nat} (a : frs S u) (b : frs S v) : u = v := by
  obtain ⟨a1, a2, a3, a4⟩ := a
  obtain ⟨b1, b2, b3, b4⟩ := b
  rcases Nat.lt_trichotomy u v with q | q | q
  · exact absurd (b3 u a1 q) (a4 (by omega))
  · exact q
  · exact absurd (a3 v b1 q) (b4 (by omega))
noncomputable def frF (S : Int → Prop) : Nat := Classical.epsilon (frs S)
theorem frF_eq {S : Int → Prop} {u : Nat} (h : frs S u) : frF S = u := frs_one (Classical.epsilon_spec (p := frs S) ⟨u, h⟩) h
theorem lf_l {d t : Nat} {h : zh} {xm : Int32} {S : Int → Prop} (bm : bs_ xm (fun v => S (v : Int))) : ∀ (n : Nat) (u : Nat) (xu : Int32), (xu.toInt = (u : Int)) → (6 ≤ u) → (u ≤ 21) → (∀ v : Nat, 6 ≤ v → v < u → S (v : Int)) → (21 < u + n) → qX d 103 3 [some (zi xm), some (zi xu)] [] h t (rI (fun y h1 => h = h1 ∧ ∃ u : Nat, y.toInt = (u : Int) ∧ frs S u) t) := by
  intro n
  induction n with
  | zero =>
    intro u xu hxu h6 h21 c1 hn
    exfalso
    omega
  | succ n ih =>
    intro u xu hxu h6 h21 c1 hn
    skip
    refine y_same (i := .iload_n 1) (len := 1) (r := (0, 0, 0, 0)) (pc' := 4) (ls' := [some (zi xm), some (zi xu)]) (st' := [zi xu]) (by decide +kernel) (fun k q => by cases q) rfl ?_
    refine y_bi (c := 21) (len := 2) (r := (0, 0, 0, 0)) (by decide +kernel) (by decide) (fun y2281 hy2281 => ?_)
    rcases Decidable.em (xu.toInt ≥ y2281.toInt) with q2282 | q2282
    ·
      refine y_cT (c := .ge) (off := 18) (pc' := 24) (len := 3) (r := (0, 0, 0, 0)) (by decide +kernel) (acmpT (c := .ge) (by show _ ≤ _; omega)) (by decide +kernel) ?_
      refine y_same (i := .iload_n 1) (len := 1) (r := (0, 0, 0, 0)) (pc' := 25) (ls' := [some (zi xm), some (zi xu)]) (st' := [zi xu]) (by decide +kernel) (fun k q => by cases q) rfl ?_
      refine y_rI (len := 1) (r := (0, 0, 0, 0)) (nL := 2) (k := 1) (n9 := 1) (hs := []) (by decide +kernel) rfl rfl ?_
      exact ⟨rfl, u, hxu, h6, by omega, c1, fun q9 => absurd q9 (by omega)⟩
    ·
      refine y_cF (c := .ge) (off := 18) (len := 3) (r := (0, 0, 0, 0)) (by decide +kernel) (acmpF (c := .ge) (by show _ < _; omega)) ?_
      refine y_same (i := .iload_n 0) (len := 1) (r := (0, 0, 0, 0)) (pc' := 10) (ls' := [some (zi xm), some (zi xu)]) (st' := [zi xm]) (by decide +kernel) (fun k q => by cases q) rfl ?_
      refine y_same (i := .iload_n 1) (len := 1) (r := (0, 0, 0, 0)) (pc' := 11) (ls' := [some (zi xm), some (zi xu)]) (st' := [zi xu, zi xm]) (by decide +kernel) (fun k q => by cases q) rfl ?_
      refine y_bp (i := .ishr) (f := fun x y => x >>> (y &&& 31)) (len := 1) (r := (0, 0, 0, 0)) (by decide +kernel) rfl rfl (fun y2283 hy2283 => ?_)
      have hy2283 : y2283 = xm >>> (xu &&& 31) := hy2283
      refine y_ic (c := 1) (len := 1) (r := (0, 0, 0, 0)) (by decide +kernel) (by decide) (fun y2284 hy2284 => ?_)
      refine y_bp (i := .iand) (f := fun x y => x &&& y) (len := 1) (r := (0, 0, 0, 0)) (by decide +kernel) rfl rfl (fun y2285 hy2285 => ?_)
      have hy2285 : y2285 = y2283 &&& y2284 := hy2285
      have t9 := bs_t (k := u) bm hxu (by omega) hy2283 hy2284 hy2285
      refine y_ic (c := 1) (len := 1) (r := (0, 0, 0, 0)) (by decide +kernel) (by decide) (fun y2286 hy2286 => ?_)
      rcases Decidable.em (y2285.toInt ≠ y2286.toInt) with q2287 | q2287
      ·
        refine y_cT (c := .ne) (off := 9) (pc' := 24) (len := 3) (r := (0, 0, 0, 0)) (by decide +kernel) (acmpT (c := .ne) (by show ¬ (_ = _); omega)) (by decide +kernel) ?_
        refine y_same (i := .iload_n 1) (len := 1) (r := (0, 0, 0, 0)) (pc' := 25) (ls' := [some (zi xm), some (zi xu)]) (st' := [zi xu]) (by decide +kernel) (fun k q => by cases q) rfl ?_
        refine y_rI (len := 1) (r := (0, 0, 0, 0)) (nL := 2) (k := 1) (n9 := 1) (hs := []) (by decide +kernel) rfl rfl ?_
        refine ⟨rfl, u, hxu, h6, by omega, c1, fun _ q9 => ?_⟩
        rcases t9 with ⟨q8, -⟩ | ⟨-, q8⟩
        · omega
        · exact q8 q9
      ·
        refine y_cF (c := .ne) (off := 9) (len := 3) (r := (0, 0, 0, 0)) (by decide +kernel) (acmpF (c := .ne) (by show _ = _; omega)) ?_
        refine y_inc (j := 1) (a := xu) (c := 1) (ls' := fun v => [some (zi xm), some v]) (len := 3) (r := (0, 0, 0, 0)) (by decide +kernel) rfl (fun _ => rfl) (by decide) (by omega) (by omega) (fun y2288 hy2288 => ?_)
        show qX d 103 21 [some (zi xm), some (zi y2288)] [] h t _
        refine y_goto (off := (-18)) (pc' := 3) (len := 3) (r := (0, 0, 0, 0)) (by decide +kernel) (by decide +kernel) ?_
        refine ih (u + 1) y2288 (by omega) (by omega) (by omega) (fun v h1 h2 => ?_) (by omega)
        rcases Nat.lt_or_ge v u with q9 | q9
        · exact c1 v h1 q9
        · obtain rfl : v = u := by omega
          rcases t9 with ⟨-, q8⟩ | ⟨q8, -⟩
          · exact q8
          · omega
theorem e_lf {d t : Nat} {h : zh} {xm : Int32} {S : Int → Prop} (bm : bs_ xm (fun v => S (v : Int))) : qI (d + 1) 103 [some (zi xm), none] h t (fun y h1 => h = h1 ∧ ∃ u : Nat, y.toInt = (u : Int) ∧ frs S u) := by
  refine qI_of ?_
  refine y_bi (c := 6) (len := 2) (r := (0, 0, 0, 0)) (by decide +kernel) (by decide) (fun y2289 hy2289 => ?_)
  refine y_same (i := .istore_n 1) (len := 1) (r := (0, 0, 0, 0)) (pc' := 3) (ls' := [some (zi xm), some (zi y2289)]) (st' := []) (by decide +kernel) (fun k q => by cases q) rfl ?_
  exact lf_l bm 16 6 y2289 (by omega) (by omega) (by omega) (fun v h1 h2 => absurd h2 (by omega)) (by omega)
theorem c_isv0 {d t : Nat} {h : zh} {x : Int32} (h0 : 20 < x.toInt) : qI (d + 1) 157 [some (zi x)] h t (fun y h1 => h = h1 ∧ y.toInt = 0) := by
  refine qI_of ?_
  refine y_same (i := .iload_n 0) (len := 1) (r := (0, 0, 0, 0)) (pc' := 1) (ls' := [some (zi x)]) (st' := [zi x]) (by decide +kernel) (fun k q => by cases q) rfl ?_
  refine y_iF (c := .lt) (off := 13) (len := 3) (r := (0, 0, 0, 0)) (by decide +kernel) (acmpF (c := .lt) (by show _ ≤ _; omega)) ?_
  refine y_same (i := .iload_n 0) (len := 1) (r := (0, 0, 0, 0)) (pc' := 5) (ls' := [some (zi x)]) (st' := [zi x]) (by decide +kernel) (fun k q => by cases q) rfl ?_
  refine y_bi (c := 21) (len := 2) (r := (0, 0, 0, 0)) (by decide +kernel) (by decide) (fun y2290 hy2290 => ?_)
  refine y_cT (c := .ge) (off := 7) (pc' := 14) (len := 3) (r := (0, 0, 0, 0)) (by decide +kernel) (acmpT (c := .ge) (by show _ ≤ _; omega)) (by decide +kernel) ?_
  refine y_ic (c := 0) (len := 1) (r := (0, 0, 0, 0)) (by decide +kernel) (by decide) (fun y2291 hy2291 => ?_)
  refine y_rI (len := 1) (r := (0, 0, 0, 0)) (nL := 1) (k := 2) (n9 := 1) (hs := []) (by decide +kernel) rfl (zfit_b (by omega) (by omega)).2 ?_
  exact ⟨rfl, by omega⟩
theorem c_isv2 {d t u : Nat} {h : zh} {x : Int32} (hx : x.toInt = (u : Int)) : qI (d + 1) 157 [some (zi x)] h t (fun y h1 => h = h1 ∧ ((y.toInt = 1 ∧ u ≤ 20) ∨ (y.toInt = 0 ∧ 20 < u))) := by
  by_cases q : u ≤ 20
  · exact qI_mono (c_isv (by omega) (by omega)) (fun y h1 ⟨a, b⟩ => ⟨a, Or.inl ⟨b, q⟩⟩)
  · exact qI_mono (c_isv0 (by omega)) (fun y h1 ⟨a, b⟩ => ⟨a, Or.inr ⟨b, by omega⟩⟩)
def mnA (s : sqT) (v : Int) : Prop := mnP s v ∨ ∃ a, s.2.2.2 a v
/-- what a sequent goes on with, by a part to the right and one to the left -/
noncomputable def nxF (s : sqT) (st : Nat) (p q : it4) (r l : Nat) (w : Bool) : Option sqT :=
  match st with
  | 3 => some (s.1.eraseIdx l, s.2.1.eraseIdx r, s.2.2.1, s.2.2.2)
  | 4 => some (s.1.eraseIdx l, s.2.1.eraseIdx r, if q.1 = 1 then (s.2.2.1 ++ [(1, q.2.2.1, p.2.2.1, 0)]) ++ [(1, q.2.2.2, p.2.2.2, 0)] else s.2.2.1 ++ [(1, q.2.2.1, p.2.2.1, 0)], s.2.2.2)
  | 5 => some (s.1.eraseIdx l, if p.1 = 2 then s.2.1.set r (2, q.2.2.1, p.2.2.1, 0) else ins_ (s.2.1.set r (3, q.2.2.1, 0, 0)) (r + 1) (3, q.2.2.2, 0, 0), s.2.2.1, s.2.2.2)
  | 6 => if w = true then some (s.1, s.2.1, s.2.2.1, dAdd s.2.2.2 p.2.1 p.2.2.1) else some (mkQ p.2.1 p.2.2.1 s)
  | 7 => if w = true then
      (if frF (mnA s) = 21 then none else if q.1 = 2 then some (ins_ (s.1.set l (0, q.2.1, (frF (mnA s) : Int), 0)) (l + 1) (2, (frF (mnA s) : Int), q.2.2.1, 0), s.2.1, s.2.2.1, dAdd s.2.2.2 q.2.1 q.2.2.1)
        else if frF (fun v => mnA s v ∨ v = (frF (mnA s) : Int)) = 21 then none else some (ins_ (ins_ (s.1.set l (1, q.2.1, (frF (mnA s) : Int), (frF (fun v => mnA s v ∨ v = (frF (mnA s) : Int)) : Int))) (l + 1) (3, (frF (mnA s) : Int), 0, 0)) (l + 2) (3, (frF (fun v => mnA s v ∨ v = (frF (mnA s) : Int)) : Int), 0, 0), s.2.1, s.2.2.1, s.2.2.2))
      else some (mkQ q.2.1 q.2.2.1 s)
  | _ => some (s.1, s.2.1.eraseIdx r, s.2.2.1 ++ [(1, p.2.1, p.2.2.1, 0)], s.2.2.2)
theorem q_meet {d t a : Nat} {τ : List Nat} {h : zh} {s : sqT} (Q : QC τ h a s) (nb : ¬ big_ s) {r : Nat} {ip : it4} {xr : Int32} (exr : xr.toInt = (r : Int)) (kip : s.2.1[r]? = some ip) {l : Nat} {iq : it4} {xl : Int32} (exl : xl.toInt = (l : Int)) (kiq : s.1[l]? = some iq) : qV (d + 3) 99 [some (.inl (some a)), some (zi xr), some (zi xl)] h t (fun h1 => QC τ h1 a (s.1.eraseIdx l, s.2.1.eraseIdx r, if iq.1 = 1 then (s.2.2.1 ++ [(1, iq.2.2.1, ip.2.2.1, 0)]) ++ [(1, iq.2.2.2, ip.2.2.2, 0)] else s.2.2.1 ++ [(1, iq.2.2.1, ip.2.2.1, 0)], s.2.2.2) ∧ FQ a h h1) := by
  have hr9 := (List.getElem?_eq_some_iff.mp kip).1
  have oip := okQ_R Q.2.2.2.2 kip
  have pip := oip.1
  unfold okV at pip
  have hl9 := (List.getElem?_eq_some_iff.mp kiq).1
  have oiq := okQ_L Q.2.2.2.2 kiq
  have piq := oiq.1
  unfold okV at piq
  have b1 : ¬ 12 < s.1.length := fun q => nb (Or.inl q)
  have b2 : ¬ 12 < s.2.1.length := fun q => nb (Or.inr (Or.inl q))
  have b3 : ¬ 12 < s.2.2.1.length := fun q => nb (Or.inr (Or.inr q))
  refine qV_of ?_
  refine y_same (i := .aload_n 0) (len := 1) (r := (0, 0, 0, 0)) (pc' := 1) (ls' := [some (.inl (some a)), some (zi xr), some (zi xl)]) (st' := [.inl (some a)]) (by decide +kernel) (fun k q => by cases q) rfl ?_
  refine y_get (j := 30) (len := 3) (r := (7, 3, 2, 539)) (by decide +kernel) Q.1 Q.2.1.1 aw1008 rfl rfl Q.2.2.1.2.2.2.1 ?_
  refine y_ic (c := 1) (len := 1) (r := (0, 0, 0, 0)) (by decide +kernel) (by decide) (fun y2292 hy2292 => ?_)
  refine y_same (i := .aload_n 0) (len := 1) (r := (0, 0, 0, 0)) (pc' := 6) (ls' := [some (.inl (some a)), some (zi xr), some (zi xl)]) (st' := [.inl (some a), zi y2292, .inl (some ((a + 7)))]) (by decide +kernel) (fun k q => by cases q) rfl ?_
  refine y_get (j := 23) (len := 3) (r := (7, 1, 2, 533)) (by decide +kernel) Q.1 Q.2.1.1 aw1008 rfl rfl Q.2.2.1.2.1 ?_
  refine y_same (i := .iload_n 2) (len := 1) (r := (0, 0, 0, 0)) (pc' := 10) (ls' := [some (.inl (some a)), some (zi xr), some (zi xl)]) (st' := [zi xl, .inl (some ((a + 3))), zi y2292, .inl (some ((a + 7)))]) (by decide +kernel) (fun k q => by cases q) rfl ?_
  refine y_ic (c := 2) (len := 1) (r := (0, 0, 0, 0)) (by decide +kernel) (by decide) (fun y2293 hy2293 => ?_)
  refine y_cI (i := .invokevirtual 68) (len := 3) (r := (0, 64, 6, 586)) (nL := 3) (k := 1) (n := 3) (hs := []) (args := [.inl (some ((a + 3))), zi xl, zi y2293]) (rest := [zi y2292, .inl (some ((a + 7)))]) (l0 := [some (.inl (some ((a + 3)))), some (zi xl), some (zi y2293)]) (by decide +kernel) (Or.inr (Or.inl ⟨_, rfl⟩)) rfl rfl rfl rfl (Nat.le_of_ble_eq_true rfl) (zO Q.1 Q.2.1.2.2.2.1 aw1004 rfl) rfl (qI_le (by omega) (q_tlL (d := 0) (k := l) (w := 2) Q (by omega) kiq (by omega) (by omega))) (fun y2294 qy2294 hRy2294 => ?_)
  obtain ⟨rfl, ey2294⟩ := hRy2294
  have ey2294 : y2294.toInt = iq.2.2.1 := ey2294
  refine y_same (i := .aload_n 0) (len := 1) (r := (0, 0, 0, 0)) (pc' := 15) (ls' := [some (.inl (some a)), some (zi xr), some (zi xl)]) (st' := [.inl (some a), zi y2294, zi y2292, .inl (some ((a + 7)))]) (by decide +kernel) (fun k q => by cases q) rfl ?_
  refine y_get (j := 27) (len := 3) (r := (7, 2, 2, 536)) (by decide +kernel) Q.1 Q.2.1.1 aw1008 rfl rfl Q.2.2.1.2.2.1 ?_
  refine y_same (i := .iload_n 1) (len := 1) (r := (0, 0, 0, 0)) (pc' := 19) (ls' := [some (.inl (some a)), some (zi xr), some (zi xl)]) (st' := [zi xr, .inl (some ((a + 5))), zi y2294, zi y2292, .inl (some ((a + 7)))]) (by decide +kernel) (fun k q => by cases q) rfl ?_
  refine y_ic (c := 2) (len := 1) (r := (0, 0, 0, 0)) (by decide +kernel) (by decide) (fun y2295 hy2295 => ?_)
  refine y_cI (i := .invokevirtual 68) (len := 3) (r := (0, 64, 6, 586)) (nL := 3) (k := 1) (n := 3) (hs := []) (args := [.inl (some ((a + 5))), zi xr, zi y2295]) (rest := [zi y2294, zi y2292, .inl (some ((a + 7)))]) (l0 := [some (.inl (some ((a + 5)))), some (zi xr), some (zi y2295)]) (by decide +kernel) (Or.inr (Or.inl ⟨_, rfl⟩)) rfl rfl rfl rfl (Nat.le_of_ble_eq_true rfl) (zO Q.1 Q.2.1.2.2.2.2.2.1 aw1004 rfl) rfl (qI_le (by omega) (q_tlR (d := 0) (k := r) (w := 2) Q (by omega) kip (by omega) (by omega))) (fun y2296 qy2296 hRy2296 => ?_)
  obtain ⟨rfl, ey2296⟩ := hRy2296
  have ey2296 : y2296.toInt = ip.2.2.1 := ey2296
  refine y_ic (c := 0) (len := 1) (r := (0, 0, 0, 0)) (by decide +kernel) (by decide) (fun y2297 hy2297 => ?_)
  refine y_cI (i := .invokestatic 176) (len := 3) (r := (3, 158, 11, 798)) (nL := 4) (k := 1) (n := 4) (hs := []) (args := [zi y2292, zi y2294, zi y2296, zi y2297]) (rest := [.inl (some ((a + 7)))]) (l0 := [some (zi y2292), some (zi y2294), some (zi y2296), some (zi y2297)]) (by decide +kernel) (Or.inl ⟨_, rfl⟩) rfl rfl rfl rfl (Nat.le_of_ble_eq_true rfl) rfl rfl (qI_le (by omega) (e_pk20 (d := 0) (A := 1) (B := iq.2.2.1) (C := ip.2.2.1) (E := 0) (by omega) (by omega) (by omega) (by omega) (by omega) (by omega) (by omega) (by omega))) (fun y2298 qy2298 hRy2298 => ?_)
  obtain ⟨rfl, ey2298⟩ := hRy2298
  obtain ⟨z2300, hz2300, ez2300, mz2300⟩ := q_szC Q
  have ez2300 : z2300.toInt = ((s.2.2.1.length : Nat) : Int) := ez2300
  have mz2300 : s.2.2.1.length ≤ 14 := mz2300
  refine y_cV (i := .invokevirtual 80) (len := 3) (r := (0, 67, 6, 601)) (nL := 2) (k := 0) (n := 2) (hs := []) (args := [.inl (some ((a + 7))), zi y2298]) (rest := []) (l0 := [some (.inl (some ((a + 7)))), some (zi y2298)]) (by decide +kernel) (Or.inr (Or.inl ⟨_, rfl⟩)) rfl rfl rfl rfl (Nat.le_of_ble_eq_true rfl) (zO Q.1 Q.2.1.2.2.2.2.2.2.2.1 aw1004 rfl) rfl (qV_le (by omega) (q_adC (d := 0) (p := (1, iq.2.2.1, ip.2.2.1, 0)) Q (show s.2.2.1.length < 14 by omega) ey2298 (okCl_s (by omega) (by omega)))) (fun h2299 hR2299 => ?_)
  obtain ⟨Q2299, F2299⟩ := hR2299
  have g2299 : (s.2.2.1 ++ [(1, iq.2.2.1, ip.2.2.1, 0)]).length = s.2.2.1.length + 1 := List.length_append
  refine y_same (i := .aload_n 0) (len := 1) (r := (0, 0, 0, 0)) (pc' := 31) (ls' := [some (.inl (some a)), some (zi xr), some (zi xl)]) (st' := [.inl (some a)]) (by decide +kernel) (fun k q => by cases q) rfl ?_
  refine y_get (j := 23) (len := 3) (r := (7, 1, 2, 533)) (by decide +kernel) Q2299.1 Q2299.2.1.1 aw1008 rfl rfl Q2299.2.2.1.2.1 ?_
  refine y_same (i := .iload_n 2) (len := 1) (r := (0, 0, 0, 0)) (pc' := 35) (ls' := [some (.inl (some a)), some (zi xr), some (zi xl)]) (st' := [zi xl, .inl (some ((a + 3)))]) (by decide +kernel) (fun k q => by cases q) rfl ?_
  refine y_ic (c := 0) (len := 1) (r := (0, 0, 0, 0)) (by decide +kernel) (by decide) (fun y2301 hy2301 => ?_)
  refine y_cI (i := .invokevirtual 68) (len := 3) (r := (0, 64, 6, 586)) (nL := 3) (k := 1) (n := 3) (hs := []) (args := [.inl (some ((a + 3))), zi xl, zi y2301]) (rest := []) (l0 := [some (.inl (some ((a + 3)))), some (zi xl), some (zi y2301)]) (by decide +kernel) (Or.inr (Or.inl ⟨_, rfl⟩)) rfl rfl rfl rfl (Nat.le_of_ble_eq_true rfl) (zO Q2299.1 Q2299.2.1.2.2.2.1 aw1004 rfl) rfl (qI_le (by omega) (q_tlL (d := 0) (k := l) (w := 0) Q2299 (by omega) kiq (by omega) (by omega))) (fun y2302 qy2302 hRy2302 => ?_)
  obtain ⟨rfl, ey2302⟩ := hRy2302
  have ey2302 : y2302.toInt = iq.1 := ey2302
  refine y_ic (c := 1) (len := 1) (r := (0, 0, 0, 0)) (by decide +kernel) (by decide) (fun y2303 hy2303 => ?_)
  rcases Decidable.em (y2302.toInt ≠ y2303.toInt) with q2304 | q2304
  ·
    refine y_cT (c := .ne) (off := 33) (pc' := 73) (len := 3) (r := (0, 0, 0, 0)) (by decide +kernel) (acmpT (c := .ne) (by show ¬ (_ = _); omega)) (by decide +kernel) ?_
    refine y_same (i := .aload_n 0) (len := 1) (r := (0, 0, 0, 0)) (pc' := 74) (ls' := [some (.inl (some a)), some (zi xr), some (zi xl)]) (st' := [.inl (some a)]) (by decide +kernel) (fun k q => by cases q) rfl ?_
    refine y_get (j := 27) (len := 3) (r := (7, 2, 2, 536)) (by decide +kernel) Q2299.1 Q2299.2.1.1 aw1008 rfl rfl Q2299.2.2.1.2.2.1 ?_
    refine y_same (i := .iload_n 1) (len := 1) (r := (0, 0, 0, 0)) (pc' := 78) (ls' := [some (.inl (some a)), some (zi xr), some (zi xl)]) (st' := [zi xr, .inl (some ((a + 5)))]) (by decide +kernel) (fun k q => by cases q) rfl ?_
    obtain ⟨z2306, hz2306, ez2306, mz2306⟩ := q_szR Q2299
    have ez2306 : z2306.toInt = ((s.2.1.length : Nat) : Int) := ez2306
    have mz2306 : s.2.1.length ≤ 14 := mz2306
    refine y_cV (i := .invokevirtual 85) (len := 3) (r := (0, 70, 6, 613)) (nL := 3) (k := 0) (n := 2) (hs := []) (args := [.inl (some ((a + 5))), zi xr]) (rest := []) (l0 := [some (.inl (some ((a + 5)))), some (zi xr), none]) (by decide +kernel) (Or.inr (Or.inl ⟨_, rfl⟩)) rfl rfl rfl rfl (Nat.le_of_ble_eq_true rfl) (zO Q2299.1 Q2299.2.1.2.2.2.2.2.1 aw1004 rfl) rfl (qV_le (by omega) (q_rmR (d := 0) (k := r) Q2299 (by omega) (show r < s.2.1.length by omega))) (fun h2305 hR2305 => ?_)
    obtain ⟨Q2305, F2305⟩ := hR2305
    refine y_same (i := .aload_n 0) (len := 1) (r := (0, 0, 0, 0)) (pc' := 82) (ls' := [some (.inl (some a)), some (zi xr), some (zi xl)]) (st' := [.inl (some a)]) (by decide +kernel) (fun k q => by cases q) rfl ?_
    refine y_get (j := 23) (len := 3) (r := (7, 1, 2, 533)) (by decide +kernel) Q2305.1 Q2305.2.1.1 aw1008 rfl rfl Q2305.2.2.1.2.1 ?_
    refine y_same (i := .iload_n 2) (len := 1) (r := (0, 0, 0, 0)) (pc' := 86) (ls' := [some (.inl (some a)), some (zi xr), some (zi xl)]) (st' := [zi xl, .inl (some ((a + 3)))]) (by decide +kernel) (fun k q => by cases q) rfl ?_
    obtain ⟨z2308, hz2308, ez2308, mz2308⟩ := q_szL Q2305
    have ez2308 : z2308.toInt = ((s.1.length : Nat) : Int) := ez2308
    have mz2308 : s.1.length ≤ 14 := mz2308
    refine y_cV (i := .invokevirtual 85) (len := 3) (r := (0, 70, 6, 613)) (nL := 3) (k := 0) (n := 2) (hs := []) (args := [.inl (some ((a + 3))), zi xl]) (rest := []) (l0 := [some (.inl (some ((a + 3)))), some (zi xl), none]) (by decide +kernel) (Or.inr (Or.inl ⟨_, rfl⟩)) rfl rfl rfl rfl (Nat.le_of_ble_eq_true rfl) (zO Q2305.1 Q2305.2.1.2.2.2.1 aw1004 rfl) rfl (qV_le (by omega) (q_rmL (d := 0) (k := l) Q2305 (by omega) (show l < s.1.length by omega))) (fun h2307 hR2307 => ?_)
    obtain ⟨Q2307, F2307⟩ := hR2307
    refine y_rV (len := 1) (r := (0, 0, 0, 0)) (nL := 3) (n9 := 3) (hs := []) (by decide +kernel) rfl ?_
    rw [if_neg (by omega)]
    exact ⟨Q2307, fun k j hC => ((F2307 k j (by omega)).trans ((F2305 k j (by omega)).trans (F2299 k j (by omega))))⟩
  ·
    refine y_cF (c := .ne) (off := 33) (len := 3) (r := (0, 0, 0, 0)) (by decide +kernel) (acmpF (c := .ne) (by show _ = _; omega)) ?_
    refine y_same (i := .aload_n 0) (len := 1) (r := (0, 0, 0, 0)) (pc' := 44) (ls' := [some (.inl (some a)), some (zi xr), some (zi xl)]) (st' := [.inl (some a)]) (by decide +kernel) (fun k q => by cases q) rfl ?_
    refine y_get (j := 30) (len := 3) (r := (7, 3, 2, 539)) (by decide +kernel) Q2299.1 Q2299.2.1.1 aw1008 rfl rfl Q2299.2.2.1.2.2.2.1 ?_
    refine y_ic (c := 1) (len := 1) (r := (0, 0, 0, 0)) (by decide +kernel) (by decide) (fun y2309 hy2309 => ?_)
    refine y_same (i := .aload_n 0) (len := 1) (r := (0, 0, 0, 0)) (pc' := 49) (ls' := [some (.inl (some a)), some (zi xr), some (zi xl)]) (st' := [.inl (some a), zi y2309, .inl (some ((a + 7)))]) (by decide +kernel) (fun k q => by cases q) rfl ?_
    refine y_get (j := 23) (len := 3) (r := (7, 1, 2, 533)) (by decide +kernel) Q2299.1 Q2299.2.1.1 aw1008 rfl rfl Q2299.2.2.1.2.1 ?_
    refine y_same (i := .iload_n 2) (len := 1) (r := (0, 0, 0, 0)) (pc' := 53) (ls' := [some (.inl (some a)), some (zi xr), some (zi xl)]) (st' := [zi xl, .inl (some ((a + 3))), zi y2309, .inl (some ((a + 7)))]) (by decide +kernel) (fun k q => by cases q) rfl ?_
    refine y_ic (c := 3) (len := 1) (r := (0, 0, 0, 0)) (by decide +kernel) (by decide) (fun y2310 hy2310 => ?_)
    refine y_cI (i := .invokevirtual 68) (len := 3) (r := (0, 64, 6, 586)) (nL := 3) (k := 1) (n := 3) (hs := []) (args := [.inl (some ((a + 3))), zi xl, zi y2310]) (rest := [zi y2309, .inl (some ((a + 7)))]) (l0 := [some (.inl (some ((a + 3)))), some (zi xl), some (zi y2310)]) (by decide +kernel) (Or.inr (Or.inl ⟨_, rfl⟩)) rfl rfl rfl rfl (Nat.le_of_ble_eq_true rfl) (zO Q2299.1 Q2299.2.1.2.2.2.1 aw1004 rfl) rfl (qI_le (by omega) (q_tlL (d := 0) (k := l) (w := 3) Q2299 (by omega) kiq (by omega) (by omega))) (fun y2311 qy2311 hRy2311 => ?_)
    obtain ⟨rfl, ey2311⟩ := hRy2311
    have ey2311 : y2311.toInt = iq.2.2.2 := ey2311
    refine y_same (i := .aload_n 0) (len := 1) (r := (0, 0, 0, 0)) (pc' := 58) (ls' := [some (.inl (some a)), some (zi xr), some (zi xl)]) (st' := [.inl (some a), zi y2311, zi y2309, .inl (some ((a + 7)))]) (by decide +kernel) (fun k q => by cases q) rfl ?_
    refine y_get (j := 27) (len := 3) (r := (7, 2, 2, 536)) (by decide +kernel) Q2299.1 Q2299.2.1.1 aw1008 rfl rfl Q2299.2.2.1.2.2.1 ?_
    refine y_same (i := .iload_n 1) (len := 1) (r := (0, 0, 0, 0)) (pc' := 62) (ls' := [some (.inl (some a)), some (zi xr), some (zi xl)]) (st' := [zi xr, .inl (some ((a + 5))), zi y2311, zi y2309, .inl (some ((a + 7)))]) (by decide +kernel) (fun k q => by cases q) rfl ?_
    refine y_ic (c := 3) (len := 1) (r := (0, 0, 0, 0)) (by decide +kernel) (by decide) (fun y2312 hy2312 => ?_)
    refine y_cI (i := .invokevirtual 68) (len := 3) (r := (0, 64, 6, 586)) (nL := 3) (k := 1) (n := 3) (hs := []) (args := [.inl (some ((a + 5))), zi xr, zi y2312]) (rest := [zi y2311, zi y2309, .inl (some ((a + 7)))]) (l0 := [some (.inl (some ((a + 5)))), some (zi xr), some (zi y2312)]) (by decide +kernel) (Or.inr (Or.inl ⟨_, rfl⟩)) rfl rfl rfl rfl (Nat.le_of_ble_eq_true rfl) (zO Q2299.1 Q2299.2.1.2.2.2.2.2.1 aw1004 rfl) rfl (qI_le (by omega) (q_tlR (d := 0) (k := r) (w := 3) Q2299 (by omega) kip (by omega) (by omega))) (fun y2313 qy2313 hRy2313 => ?_)
    obtain ⟨rfl, ey2313⟩ := hRy2313
    have ey2313 : y2313.toInt = ip.2.2.2 := ey2313
    refine y_ic (c := 0) (len := 1) (r := (0, 0, 0, 0)) (by decide +kernel) (by decide) (fun y2314 hy2314 => ?_)
    refine y_cI (i := .invokestatic 176) (len := 3) (r := (3, 158, 11, 798)) (nL := 4) (k := 1) (n := 4) (hs := []) (args := [zi y2309, zi y2311, zi y2313, zi y2314]) (rest := [.inl (some ((a + 7)))]) (l0 := [some (zi y2309), some (zi y2311), some (zi y2313), some (zi y2314)]) (by decide +kernel) (Or.inl ⟨_, rfl⟩) rfl rfl rfl rfl (Nat.le_of_ble_eq_true rfl) rfl rfl (qI_le (by omega) (e_pk20 (d := 0) (A := 1) (B := iq.2.2.2) (C := ip.2.2.2) (E := 0) (by omega) (by omega) (by omega) (by omega) (by omega) (by omega) (by omega) (by omega))) (fun y2315 qy2315 hRy2315 => ?_)
    obtain ⟨rfl, ey2315⟩ := hRy2315
    obtain ⟨z2317, hz2317, ez2317, mz2317⟩ := q_szC Q2299
    have ez2317 : z2317.toInt = (((s.2.2.1 ++ [(1, iq.2.2.1, ip.2.2.1, 0)]).length : Nat) : Int) := ez2317
    have mz2317 : (s.2.2.1 ++ [(1, iq.2.2.1, ip.2.2.1, 0)]).length ≤ 14 := mz2317
    refine y_cV (i := .invokevirtual 80) (len := 3) (r := (0, 67, 6, 601)) (nL := 2) (k := 0) (n := 2) (hs := []) (args := [.inl (some ((a + 7))), zi y2315]) (rest := []) (l0 := [some (.inl (some ((a + 7)))), some (zi y2315)]) (by decide +kernel) (Or.inr (Or.inl ⟨_, rfl⟩)) rfl rfl rfl rfl (Nat.le_of_ble_eq_true rfl) (zO Q2299.1 Q2299.2.1.2.2.2.2.2.2.2.1 aw1004 rfl) rfl (qV_le (by omega) (q_adC (d := 0) (p := (1, iq.2.2.2, ip.2.2.2, 0)) Q2299 (show (s.2.2.1 ++ [(1, iq.2.2.1, ip.2.2.1, 0)]).length < 14 by omega) ey2315 (okCl_s (by omega) (by omega)))) (fun h2316 hR2316 => ?_)
    obtain ⟨Q2316, F2316⟩ := hR2316
    have g2316 : ((s.2.2.1 ++ [(1, iq.2.2.1, ip.2.2.1, 0)]) ++ [(1, iq.2.2.2, ip.2.2.2, 0)]).length = (s.2.2.1 ++ [(1, iq.2.2.1, ip.2.2.1, 0)]).length + 1 := List.length_append
    refine y_same (i := .aload_n 0) (len := 1) (r := (0, 0, 0, 0)) (pc' := 74) (ls' := [some (.inl (some a)), some (zi xr), some (zi xl)]) (st' := [.inl (some a)]) (by decide +kernel) (fun k q => by cases q) rfl ?_
    refine y_get (j := 27) (len := 3) (r := (7, 2, 2, 536)) (by decide +kernel) Q2316.1 Q2316.2.1.1 aw1008 rfl rfl Q2316.2.2.1.2.2.1 ?_
    refine y_same (i := .iload_n 1) (len := 1) (r := (0, 0, 0, 0)) (pc' := 78) (ls' := [some (.inl (some a)), some (zi xr), some (zi xl)]) (st' := [zi xr, .inl (some ((a + 5)))]) (by decide +kernel) (fun k q => by cases q) rfl ?_
    obtain ⟨z2319, hz2319, ez2319, mz2319⟩ := q_szR Q2316
    have ez2319 : z2319.toInt = ((s.2.1.length : Nat) : Int) := ez2319
    have mz2319 : s.2.1.length ≤ 14 := mz2319
    refine y_cV (i := .invokevirtual 85) (len := 3) (r := (0, 70, 6, 613)) (nL := 3) (k := 0) (n := 2) (hs := []) (args := [.inl (some ((a + 5))), zi xr]) (rest := []) (l0 := [some (.inl (some ((a + 5)))), some (zi xr), none]) (by decide +kernel) (Or.inr (Or.inl ⟨_, rfl⟩)) rfl rfl rfl rfl (Nat.le_of_ble_eq_true rfl) (zO Q2316.1 Q2316.2.1.2.2.2.2.2.1 aw1004 rfl) rfl (qV_le (by omega) (q_rmR (d := 0) (k := r) Q2316 (by omega) (show r < s.2.1.length by omega))) (fun h2318 hR2318 => ?_)
    obtain ⟨Q2318, F2318⟩ := hR2318
    refine y_same (i := .aload_n 0) (len := 1) (r := (0, 0, 0, 0)) (pc' := 82) (ls' := [some (.inl (some a)), some (zi xr), some (zi xl)]) (st' := [.inl (some a)]) (by decide +kernel) (fun k q => by cases q) rfl ?_
    refine y_get (j := 23) (len := 3) (r := (7, 1, 2, 533)) (by decide +kernel) Q2318.1 Q2318.2.1.1 aw1008 rfl rfl Q2318.2.2.1.2.1 ?_
    refine y_same (i := .iload_n 2) (len := 1) (r := (0, 0, 0, 0)) (pc' := 86) (ls' := [some (.inl (some a)), some (zi xr), some (zi xl)]) (st' := [zi xl, .inl (some ((a + 3)))]) (by decide +kernel) (fun k q => by cases q) rfl ?_
    obtain ⟨z2321, hz2321, ez2321, mz2321⟩ := q_szL Q2318
    have ez2321 : z2321.toInt = ((s.1.length : Nat) : Int) := ez2321
    have mz2321 : s.1.length ≤ 14 := mz2321
    refine y_cV (i := .invokevirtual 85) (len := 3) (r := (0, 70, 6, 613)) (nL := 3) (k := 0) (n := 2) (hs := []) (args := [.inl (some ((a + 3))), zi xl]) (rest := []) (l0 := [some (.inl (some ((a + 3)))), some (zi xl), none]) (by decide +kernel) (Or.inr (Or.inl ⟨_, rfl⟩)) rfl rfl rfl rfl (Nat.le_of_ble_eq_true rfl) (zO Q2318.1 Q2318.2.1.2.2.2.1 aw1004 rfl) rfl (qV_le (by omega) (q_rmL (d := 0) (k := l) Q2318 (by omega) (show l < s.1.length by omega))) (fun h2320 hR2320 => ?_)
    obtain ⟨Q2320, F2320⟩ := hR2320
    refine y_rV (len := 1) (r := (0, 0, 0, 0)) (nL := 3) (n9 := 3) (hs := []) (by decide +kernel) rfl ?_
    rw [if_pos (by omega)]
    exact ⟨Q2320, fun k j hC => ((F2320 k j (by omega)).trans ((F2318 k j (by omega)).trans ((F2316 k j (by omega)).trans (F2299 k j (by omega)))))⟩
theorem q_fold {d t a : Nat} {τ : List Nat} {h : zh} {s : sqT} (Q : QC τ h a s) (nb : ¬ big_ s) {r : Nat} {ip : it4} {xr : Int32} (exr : xr.toInt = (r : Int)) (kip : s.2.1[r]? = some ip) {l : Nat} {iq : it4} {xl : Int32} (exl : xl.toInt = (l : Int)) (kiq : s.1[l]? = some iq) : qV (d + 3) 100 [some (.inl (some a)), some (zi xr), some (zi xl)] h t (fun h1 => QC τ h1 a (s.1.eraseIdx l, if ip.1 = 2 then s.2.1.set r (2, iq.2.2.1, ip.2.2.1, 0) else ins_ (s.2.1.set r (3, iq.2.2.1, 0, 0)) (r + 1) (3, iq.2.2.2, 0, 0), s.2.2.1, s.2.2.2) ∧ FQ a h h1) := by
  have hr9 := (List.getElem?_eq_some_iff.mp kip).1
  have oip := okQ_R Q.2.2.2.2 kip
  have pip := oip.1
  unfold okV at pip
  have hl9 := (List.getElem?_eq_some_iff.mp kiq).1
  have oiq := okQ_L Q.2.2.2.2 kiq
  have piq := oiq.1
  unfold okV at piq
  have b1 : ¬ 12 < s.1.length := fun q => nb (Or.inl q)
  have b2 : ¬ 12 < s.2.1.length := fun q => nb (Or.inr (Or.inl q))
  have b3 : ¬ 12 < s.2.2.1.length := fun q => nb (Or.inr (Or.inr q))
  refine qV_of ?_
  refine y_same (i := .aload_n 0) (len := 1) (r := (0, 0, 0, 0)) (pc' := 1) (ls' := [some (.inl (some a)), some (zi xr), some (zi xl)]) (st' := [.inl (some a)]) (by decide +kernel) (fun k q => by cases q) rfl ?_
  refine y_get (j := 27) (len := 3) (r := (7, 2, 2, 536)) (by decide +kernel) Q.1 Q.2.1.1 aw1008 rfl rfl Q.2.2.1.2.2.1 ?_
  refine y_same (i := .iload_n 1) (len := 1) (r := (0, 0, 0, 0)) (pc' := 5) (ls' := [some (.inl (some a)), some (zi xr), some (zi xl)]) (st' := [zi xr, .inl (some ((a + 5)))]) (by decide +kernel) (fun k q => by cases q) rfl ?_
  refine y_ic (c := 0) (len := 1) (r := (0, 0, 0, 0)) (by decide +kernel) (by decide) (fun y2322 hy2322 => ?_)
  refine y_cI (i := .invokevirtual 68) (len := 3) (r := (0, 64, 6, 586)) (nL := 3) (k := 1) (n := 3) (hs := []) (args := [.inl (some ((a + 5))), zi xr, zi y2322]) (rest := []) (l0 := [some (.inl (some ((a + 5)))), some (zi xr), some (zi y2322)]) (by decide +kernel) (Or.inr (Or.inl ⟨_, rfl⟩)) rfl rfl rfl rfl (Nat.le_of_ble_eq_true rfl) (zO Q.1 Q.2.1.2.2.2.2.2.1 aw1004 rfl) rfl (qI_le (by omega) (q_tlR (d := 0) (k := r) (w := 0) Q (by omega) kip (by omega) (by omega))) (fun y2323 qy2323 hRy2323 => ?_)
  obtain ⟨rfl, ey2323⟩ := hRy2323
  have ey2323 : y2323.toInt = ip.1 := ey2323
  refine y_ic (c := 2) (len := 1) (r := (0, 0, 0, 0)) (by decide +kernel) (by decide) (fun y2324 hy2324 => ?_)
  rcases Decidable.em (y2323.toInt ≠ y2324.toInt) with q2325 | q2325
  ·
    refine y_cT (c := .ne) (off := 37) (pc' := 47) (len := 3) (r := (0, 0, 0, 0)) (by decide +kernel) (acmpT (c := .ne) (by show ¬ (_ = _); omega)) (by decide +kernel) ?_
    refine y_same (i := .aload_n 0) (len := 1) (r := (0, 0, 0, 0)) (pc' := 48) (ls' := [some (.inl (some a)), some (zi xr), some (zi xl)]) (st' := [.inl (some a)]) (by decide +kernel) (fun k q => by cases q) rfl ?_
    refine y_get (j := 27) (len := 3) (r := (7, 2, 2, 536)) (by decide +kernel) Q.1 Q.2.1.1 aw1008 rfl rfl Q.2.2.1.2.2.1 ?_
    refine y_same (i := .iload_n 1) (len := 1) (r := (0, 0, 0, 0)) (pc' := 52) (ls' := [some (.inl (some a)), some (zi xr), some (zi xl)]) (st' := [zi xr, .inl (some ((a + 5)))]) (by decide +kernel) (fun k q => by cases q) rfl ?_
    refine y_ic (c := 3) (len := 1) (r := (0, 0, 0, 0)) (by decide +kernel) (by decide) (fun y2326 hy2326 => ?_)
    refine y_same (i := .aload_n 0) (len := 1) (r := (0, 0, 0, 0)) (pc' := 54) (ls' := [some (.inl (some a)), some (zi xr), some (zi xl)]) (st' := [.inl (some a), zi y2326, zi xr, .inl (some ((a + 5)))]) (by decide +kernel) (fun k q => by cases q) rfl ?_
    refine y_get (j := 23) (len := 3) (r := (7, 1, 2, 533)) (by decide +kernel) Q.1 Q.2.1.1 aw1008 rfl rfl Q.2.2.1.2.1 ?_
    refine y_same (i := .iload_n 2) (len := 1) (r := (0, 0, 0, 0)) (pc' := 58) (ls' := [some (.inl (some a)), some (zi xr), some (zi xl)]) (st' := [zi xl, .inl (some ((a + 3))), zi y2326, zi xr, .inl (some ((a + 5)))]) (by decide +kernel) (fun k q => by cases q) rfl ?_
    refine y_ic (c := 2) (len := 1) (r := (0, 0, 0, 0)) (by decide +kernel) (by decide) (fun y2327 hy2327 => ?_)
    refine y_cI (i := .invokevirtual 68) (len := 3) (r := (0, 64, 6, 586)) (nL := 3) (k := 1) (n := 3) (hs := []) (args := [.inl (some ((a + 3))), zi xl, zi y2327]) (rest := [zi y2326, zi xr, .inl (some ((a + 5)))]) (l0 := [some (.inl (some ((a + 3)))), some (zi xl), some (zi y2327)]) (by decide +kernel) (Or.inr (Or.inl ⟨_, rfl⟩)) rfl rfl rfl rfl (Nat.le_of_ble_eq_true rfl) (zO Q.1 Q.2.1.2.2.2.1 aw1004 rfl) rfl (qI_le (by omega) (q_tlL (d := 0) (k := l) (w := 2) Q (by omega) kiq (by omega) (by omega))) (fun y2328 qy2328 hRy2328 => ?_)
    obtain ⟨rfl, ey2328⟩ := hRy2328
    have ey2328 : y2328.toInt = iq.2.2.1 := ey2328
    refine y_ic (c := 0) (len := 1) (r := (0, 0, 0, 0)) (by decide +kernel) (by decide) (fun y2329 hy2329 => ?_)
    refine y_ic (c := 0) (len := 1) (r := (0, 0, 0, 0)) (by decide +kernel) (by decide) (fun y2330 hy2330 => ?_)
    refine y_cI (i := .invokestatic 176) (len := 3) (r := (3, 158, 11, 798)) (nL := 4) (k := 1) (n := 4) (hs := []) (args := [zi y2326, zi y2328, zi y2329, zi y2330]) (rest := [zi xr, .inl (some ((a + 5)))]) (l0 := [some (zi y2326), some (zi y2328), some (zi y2329), some (zi y2330)]) (by decide +kernel) (Or.inl ⟨_, rfl⟩) rfl rfl rfl rfl (Nat.le_of_ble_eq_true rfl) rfl rfl (qI_le (by omega) (e_pk20 (d := 0) (A := 3) (B := iq.2.2.1) (C := 0) (E := 0) (by omega) (by omega) (by omega) (by omega) (by omega) (by omega) (by omega) (by omega))) (fun y2331 qy2331 hRy2331 => ?_)
    obtain ⟨rfl, ey2331⟩ := hRy2331
    obtain ⟨z2333, hz2333, ez2333, mz2333⟩ := q_szR Q
    have ez2333 : z2333.toInt = ((s.2.1.length : Nat) : Int) := ez2333
    have mz2333 : s.2.1.length ≤ 14 := mz2333
    refine y_cV (i := .invokevirtual 180) (len := 3) (r := (0, 69, 6, 805)) (nL := 3) (k := 0) (n := 3) (hs := []) (args := [.inl (some ((a + 5))), zi xr, zi y2331]) (rest := []) (l0 := [some (.inl (some ((a + 5)))), some (zi xr), some (zi y2331)]) (by decide +kernel) (Or.inr (Or.inl ⟨_, rfl⟩)) rfl rfl rfl rfl (Nat.le_of_ble_eq_true rfl) (zO Q.1 Q.2.1.2.2.2.2.2.1 aw1004 rfl) rfl (qV_le (by omega) (q_stR (d := 0) (k := r) (p := (3, iq.2.2.1, 0, 0)) Q (by omega) (show r < s.2.1.length by omega) ey2331 (okPt_t (by omega)))) (fun h2332 hR2332 => ?_)
    obtain ⟨Q2332, F2332⟩ := hR2332
    have g2332 : (s.2.1.set r (3, iq.2.2.1, 0, 0)).length = s.2.1.length := List.length_set
    refine y_same (i := .aload_n 0) (len := 1) (r := (0, 0, 0, 0)) (pc' := 71) (ls' := [some (.inl (some a)), some (zi xr), some (zi xl)]) (st' := [.inl (some a)]) (by decide +kernel) (fun k q => by cases q) rfl ?_
    refine y_get (j := 27) (len := 3) (r := (7, 2, 2, 536)) (by decide +kernel) Q2332.1 Q2332.2.1.1 aw1008 rfl rfl Q2332.2.2.1.2.2.1 ?_
    refine y_same (i := .iload_n 1) (len := 1) (r := (0, 0, 0, 0)) (pc' := 75) (ls' := [some (.inl (some a)), some (zi xr), some (zi xl)]) (st' := [zi xr, .inl (some ((a + 5)))]) (by decide +kernel) (fun k q => by cases q) rfl ?_
    refine y_ic (c := 1) (len := 1) (r := (0, 0, 0, 0)) (by decide +kernel) (by decide) (fun y2334 hy2334 => ?_)
    refine y_add (len := 1) (r := (0, 0, 0, 0)) (by decide +kernel) (by omega) (by omega) (fun y2335 hy2335 => ?_)
    refine y_ic (c := 3) (len := 1) (r := (0, 0, 0, 0)) (by decide +kernel) (by decide) (fun y2336 hy2336 => ?_)
    refine y_same (i := .aload_n 0) (len := 1) (r := (0, 0, 0, 0)) (pc' := 79) (ls' := [some (.inl (some a)), some (zi xr), some (zi xl)]) (st' := [.inl (some a), zi y2336, zi y2335, .inl (some ((a + 5)))]) (by decide +kernel) (fun k q => by cases q) rfl ?_
    refine y_get (j := 23) (len := 3) (r := (7, 1, 2, 533)) (by decide +kernel) Q2332.1 Q2332.2.1.1 aw1008 rfl rfl Q2332.2.2.1.2.1 ?_
    refine y_same (i := .iload_n 2) (len := 1) (r := (0, 0, 0, 0)) (pc' := 83) (ls' := [some (.inl (some a)), some (zi xr), some (zi xl)]) (st' := [zi xl, .inl (some ((a + 3))), zi y2336, zi y2335, .inl (some ((a + 5)))]) (by decide +kernel) (fun k q => by cases q) rfl ?_
    refine y_ic (c := 3) (len := 1) (r := (0, 0, 0, 0)) (by decide +kernel) (by decide) (fun y2337 hy2337 => ?_)
    refine y_cI (i := .invokevirtual 68) (len := 3) (r := (0, 64, 6, 586)) (nL := 3) (k := 1) (n := 3) (hs := []) (args := [.inl (some ((a + 3))), zi xl, zi y2337]) (rest := [zi y2336, zi y2335, .inl (some ((a + 5)))]) (l0 := [some (.inl (some ((a + 3)))), some (zi xl), some (zi y2337)]) (by decide +kernel) (Or.inr (Or.inl ⟨_, rfl⟩)) rfl rfl rfl rfl (Nat.le_of_ble_eq_true rfl) (zO Q2332.1 Q2332.2.1.2.2.2.1 aw1004 rfl) rfl (qI_le (by omega) (q_tlL (d := 0) (k := l) (w := 3) Q2332 (by omega) kiq (by omega) (by omega))) (fun y2338 qy2338 hRy2338 => ?_)
    obtain ⟨rfl, ey2338⟩ := hRy2338
    have ey2338 : y2338.toInt = iq.2.2.2 := ey2338
    refine y_ic (c := 0) (len := 1) (r := (0, 0, 0, 0)) (by decide +kernel) (by decide) (fun y2339 hy2339 => ?_)
    refine y_ic (c := 0) (len := 1) (r := (0, 0, 0, 0)) (by decide +kernel) (by decide) (fun y2340 hy2340 => ?_)
    refine y_cI (i := .invokestatic 176) (len := 3) (r := (3, 158, 11, 798)) (nL := 4) (k := 1) (n := 4) (hs := []) (args := [zi y2336, zi y2338, zi y2339, zi y2340]) (rest := [zi y2335, .inl (some ((a + 5)))]) (l0 := [some (zi y2336), some (zi y2338), some (zi y2339), some (zi y2340)]) (by decide +kernel) (Or.inl ⟨_, rfl⟩) rfl rfl rfl rfl (Nat.le_of_ble_eq_true rfl) rfl rfl (qI_le (by omega) (e_pk20 (d := 0) (A := 3) (B := iq.2.2.2) (C := 0) (E := 0) (by omega) (by omega) (by omega) (by omega) (by omega) (by omega) (by omega) (by omega))) (fun y2341 qy2341 hRy2341 => ?_)
    obtain ⟨rfl, ey2341⟩ := hRy2341
    obtain ⟨z2343, hz2343, ez2343, mz2343⟩ := q_szR Q2332
    have ez2343 : z2343.toInt = (((s.2.1.set r (3, iq.2.2.1, 0, 0)).length : Nat) : Int) := ez2343
    have mz2343 : (s.2.1.set r (3, iq.2.2.1, 0, 0)).length ≤ 14 := mz2343
    refine y_cV (i := .invokevirtual 183) (len := 3) (r := (0, 68, 6, 809)) (nL := 4) (k := 0) (n := 3) (hs := []) (args := [.inl (some ((a + 5))), zi y2335, zi y2341]) (rest := []) (l0 := [some (.inl (some ((a + 5)))), some (zi y2335), some (zi y2341), none]) (by decide +kernel) (Or.inr (Or.inl ⟨_, rfl⟩)) rfl rfl rfl rfl (Nat.le_of_ble_eq_true rfl) (zO Q2332.1 Q2332.2.1.2.2.2.2.2.1 aw1004 rfl) rfl (qV_le (by omega) (q_inR (d := 0) (k := (r + 1)) (p := (3, iq.2.2.2, 0, 0)) Q2332 (by omega) (show (r + 1) ≤ (s.2.1.set r (3, iq.2.2.1, 0, 0)).length by omega) (show (s.2.1.set r (3, iq.2.2.1, 0, 0)).length < 14 by omega) ey2341 (okPt_t (by omega)))) (fun h2342 hR2342 => ?_)
    obtain ⟨Q2342, F2342⟩ := hR2342
    have g2342 : (ins_ (s.2.1.set r (3, iq.2.2.1, 0, 0)) (r + 1) (3, iq.2.2.2, 0, 0)).length = (s.2.1.set r (3, iq.2.2.1, 0, 0)).length + 1 := ins_len (by omega)
    refine y_same (i := .aload_n 0) (len := 1) (r := (0, 0, 0, 0)) (pc' := 96) (ls' := [some (.inl (some a)), some (zi xr), some (zi xl)]) (st' := [.inl (some a)]) (by decide +kernel) (fun k q => by cases q) rfl ?_
    refine y_get (j := 23) (len := 3) (r := (7, 1, 2, 533)) (by decide +kernel) Q2342.1 Q2342.2.1.1 aw1008 rfl rfl Q2342.2.2.1.2.1 ?_
    refine y_same (i := .iload_n 2) (len := 1) (r := (0, 0, 0, 0)) (pc' := 100) (ls' := [some (.inl (some a)), some (zi xr), some (zi xl)]) (st' := [zi xl, .inl (some ((a + 3)))]) (by decide +kernel) (fun k q => by cases q) rfl ?_
    obtain ⟨z2345, hz2345, ez2345, mz2345⟩ := q_szL Q2342
    have ez2345 : z2345.toInt = ((s.1.length : Nat) : Int) := ez2345
    have mz2345 : s.1.length ≤ 14 := mz2345
    refine y_cV (i := .invokevirtual 85) (len := 3) (r := (0, 70, 6, 613)) (nL := 3) (k := 0) (n := 2) (hs := []) (args := [.inl (some ((a + 3))), zi xl]) (rest := []) (l0 := [some (.inl (some ((a + 3)))), some (zi xl), none]) (by decide +kernel) (Or.inr (Or.inl ⟨_, rfl⟩)) rfl rfl rfl rfl (Nat.le_of_ble_eq_true rfl) (zO Q2342.1 Q2342.2.1.2.2.2.1 aw1004 rfl) rfl (qV_le (by omega) (q_rmL (d := 0) (k := l) Q2342 (by omega) (show l < s.1.length by omega))) (fun h2344 hR2344 => ?_)
    obtain ⟨Q2344, F2344⟩ := hR2344
    refine y_rV (len := 1) (r := (0, 0, 0, 0)) (nL := 3) (n9 := 3) (hs := []) (by decide +kernel) rfl ?_
    rw [if_neg (by omega)]
    exact ⟨Q2344, fun k j hC => ((F2344 k j (by omega)).trans ((F2342 k j (by omega)).trans (F2332 k j (by omega))))⟩
  ·
    refine y_cF (c := .ne) (off := 37) (len := 3) (r := (0, 0, 0, 0)) (by decide +kernel) (acmpF (c := .ne) (by show _ = _; omega)) ?_
    refine y_same (i := .aload_n 0) (len := 1) (r := (0, 0, 0, 0)) (pc' := 14) (ls' := [some (.inl (some a)), some (zi xr), some (zi xl)]) (st' := [.inl (some a)]) (by decide +kernel) (fun k q => by cases q) rfl ?_
    refine y_get (j := 27) (len := 3) (r := (7, 2, 2, 536)) (by decide +kernel) Q.1 Q.2.1.1 aw1008 rfl rfl Q.2.2.1.2.2.1 ?_
    refine y_same (i := .iload_n 1) (len := 1) (r := (0, 0, 0, 0)) (pc' := 18) (ls' := [some (.inl (some a)), some (zi xr), some (zi xl)]) (st' := [zi xr, .inl (some ((a + 5)))]) (by decide +kernel) (fun k q => by cases q) rfl ?_
    refine y_ic (c := 2) (len := 1) (r := (0, 0, 0, 0)) (by decide +kernel) (by decide) (fun y2346 hy2346 => ?_)
    refine y_same (i := .aload_n 0) (len := 1) (r := (0, 0, 0, 0)) (pc' := 20) (ls' := [some (.inl (some a)), some (zi xr), some (zi xl)]) (st' := [.inl (some a), zi y2346, zi xr, .inl (some ((a + 5)))]) (by decide +kernel) (fun k q => by cases q) rfl ?_
    refine y_get (j := 23) (len := 3) (r := (7, 1, 2, 533)) (by decide +kernel) Q.1 Q.2.1.1 aw1008 rfl rfl Q.2.2.1.2.1 ?_
    refine y_same (i := .iload_n 2) (len := 1) (r := (0, 0, 0, 0)) (pc' := 24) (ls' := [some (.inl (some a)), some (zi xr), some (zi xl)]) (st' := [zi xl, .inl (some ((a + 3))), zi y2346, zi xr, .inl (some ((a + 5)))]) (by decide +kernel) (fun k q => by cases q) rfl ?_
    refine y_ic (c := 2) (len := 1) (r := (0, 0, 0, 0)) (by decide +kernel) (by decide) (fun y2347 hy2347 => ?_)
    refine y_cI (i := .invokevirtual 68) (len := 3) (r := (0, 64, 6, 586)) (nL := 3) (k := 1) (n := 3) (hs := []) (args := [.inl (some ((a + 3))), zi xl, zi y2347]) (rest := [zi y2346, zi xr, .inl (some ((a + 5)))]) (l0 := [some (.inl (some ((a + 3)))), some (zi xl), some (zi y2347)]) (by decide +kernel) (Or.inr (Or.inl ⟨_, rfl⟩)) rfl rfl rfl rfl (Nat.le_of_ble_eq_true rfl) (zO Q.1 Q.2.1.2.2.2.1 aw1004 rfl) rfl (qI_le (by omega) (q_tlL (d := 0) (k := l) (w := 2) Q (by omega) kiq (by omega) (by omega))) (fun y2348 qy2348 hRy2348 => ?_)
    obtain ⟨rfl, ey2348⟩ := hRy2348
    have ey2348 : y2348.toInt = iq.2.2.1 := ey2348
    refine y_same (i := .aload_n 0) (len := 1) (r := (0, 0, 0, 0)) (pc' := 29) (ls' := [some (.inl (some a)), some (zi xr), some (zi xl)]) (st' := [.inl (some a), zi y2348, zi y2346, zi xr, .inl (some ((a + 5)))]) (by decide +kernel) (fun k q => by cases q) rfl ?_
    refine y_get (j := 27) (len := 3) (r := (7, 2, 2, 536)) (by decide +kernel) Q.1 Q.2.1.1 aw1008 rfl rfl Q.2.2.1.2.2.1 ?_
    refine y_same (i := .iload_n 1) (len := 1) (r := (0, 0, 0, 0)) (pc' := 33) (ls' := [some (.inl (some a)), some (zi xr), some (zi xl)]) (st' := [zi xr, .inl (some ((a + 5))), zi y2348, zi y2346, zi xr, .inl (some ((a + 5)))]) (by decide +kernel) (fun k q => by cases q) rfl ?_
    refine y_ic (c := 2) (len := 1) (r := (0, 0, 0, 0)) (by decide +kernel) (by decide) (fun y2349 hy2349 => ?_)
    refine y_cI (i := .invokevirtual 68) (len := 3) (r := (0, 64, 6, 586)) (nL := 3) (k := 1) (n := 3) (hs := []) (args := [.inl (some ((a + 5))), zi xr, zi y2349]) (rest := [zi y2348, zi y2346, zi xr, .inl (some ((a + 5)))]) (l0 := [some (.inl (some ((a + 5)))), some (zi xr), some (zi y2349)]) (by decide +kernel) (Or.inr (Or.inl ⟨_, rfl⟩)) rfl rfl rfl rfl (Nat.le_of_ble_eq_true rfl) (zO Q.1 Q.2.1.2.2.2.2.2.1 aw1004 rfl) rfl (qI_le (by omega) (q_tlR (d := 0) (k := r) (w := 2) Q (by omega) kip (by omega) (by omega))) (fun y2350 qy2350 hRy2350 => ?_)
    obtain ⟨rfl, ey2350⟩ := hRy2350
    have ey2350 : y2350.toInt = ip.2.2.1 := ey2350
    refine y_ic (c := 0) (len := 1) (r := (0, 0, 0, 0)) (by decide +kernel) (by decide) (fun y2351 hy2351 => ?_)
    refine y_cI (i := .invokestatic 176) (len := 3) (r := (3, 158, 11, 798)) (nL := 4) (k := 1) (n := 4) (hs := []) (args := [zi y2346, zi y2348, zi y2350, zi y2351]) (rest := [zi xr, .inl (some ((a + 5)))]) (l0 := [some (zi y2346), some (zi y2348), some (zi y2350), some (zi y2351)]) (by decide +kernel) (Or.inl ⟨_, rfl⟩) rfl rfl rfl rfl (Nat.le_of_ble_eq_true rfl) rfl rfl (qI_le (by omega) (e_pk20 (d := 0) (A := 2) (B := iq.2.2.1) (C := ip.2.2.1) (E := 0) (by omega) (by omega) (by omega) (by omega) (by omega) (by omega) (by omega) (by omega))) (fun y2352 qy2352 hRy2352 => ?_)
    obtain ⟨rfl, ey2352⟩ := hRy2352
    obtain ⟨z2354, hz2354, ez2354, mz2354⟩ := q_szR Q
    have ez2354 : z2354.toInt = ((s.2.1.length : Nat) : Int) := ez2354
    have mz2354 : s.2.1.length ≤ 14 := mz2354
    refine y_cV (i := .invokevirtual 180) (len := 3) (r := (0, 69, 6, 805)) (nL := 3) (k := 0) (n := 3) (hs := []) (args := [.inl (some ((a + 5))), zi xr, zi y2352]) (rest := []) (l0 := [some (.inl (some ((a + 5)))), some (zi xr), some (zi y2352)]) (by decide +kernel) (Or.inr (Or.inl ⟨_, rfl⟩)) rfl rfl rfl rfl (Nat.le_of_ble_eq_true rfl) (zO Q.1 Q.2.1.2.2.2.2.2.1 aw1004 rfl) rfl (qV_le (by omega) (q_stR (d := 0) (k := r) (p := (2, iq.2.2.1, ip.2.2.1, 0)) Q (by omega) (show r < s.2.1.length by omega) ey2352 (okPt_l (by omega) (by omega)))) (fun h2353 hR2353 => ?_)
    obtain ⟨Q2353, F2353⟩ := hR2353
    have g2353 : (s.2.1.set r (2, iq.2.2.1, ip.2.2.1, 0)).length = s.2.1.length := List.length_set
    refine y_goto (off := 51) (pc' := 95) (len := 3) (r := (0, 0, 0, 0)) (by decide +kernel) (by decide +kernel) ?_
    refine y_same (i := .aload_n 0) (len := 1) (r := (0, 0, 0, 0)) (pc' := 96) (ls' := [some (.inl (some a)), some (zi xr), some (zi xl)]) (st' := [.inl (some a)]) (by decide +kernel) (fun k q => by cases q) rfl ?_
    refine y_get (j := 23) (len := 3) (r := (7, 1, 2, 533)) (by decide +kernel) Q2353.1 Q2353.2.1.1 aw1008 rfl rfl Q2353.2.2.1.2.1 ?_
    refine y_same (i := .iload_n 2) (len := 1) (r := (0, 0, 0, 0)) (pc' := 100) (ls' := [some (.inl (some a)), some (zi xr), some (zi xl)]) (st' := [zi xl, .inl (some ((a + 3)))]) (by decide +kernel) (fun k q => by cases q) rfl ?_
    obtain ⟨z2356, hz2356, ez2356, mz2356⟩ := q_szL Q2353
    have ez2356 : z2356.toInt = ((s.1.length : Nat) : Int) := ez2356
    have mz2356 : s.1.length ≤ 14 := mz2356
    refine y_cV (i := .invokevirtual 85) (len := 3) (r := (0, 70, 6, 613)) (nL := 3) (k := 0) (n := 2) (hs := []) (args := [.inl (some ((a + 3))), zi xl]) (rest := []) (l0 := [some (.inl (some ((a + 3)))), some (zi xl), none]) (by decide +kernel) (Or.inr (Or.inl ⟨_, rfl⟩)) rfl rfl rfl rfl (Nat.le_of_ble_eq_true rfl) (zO Q2353.1 Q2353.2.1.2.2.2.1 aw1004 rfl) rfl (qV_le (by omega) (q_rmL (d := 0) (k := l) Q2353 (by omega) (show l < s.1.length by omega))) (fun h2355 hR2355 => ?_)
    obtain ⟨Q2355, F2355⟩ := hR2355
    refine y_rV (len := 1) (r := (0, 0, 0, 0)) (nL := 3) (n9 := 3) (hs := []) (by decide +kernel) rfl ?_
    rw [if_pos (by omega)]
    exact ⟨Q2355, fun k j hC => ((F2355 k j (by omega)).trans (F2353 k j (by omega)))⟩
theorem q_split {d t a : Nat} {τ : List Nat} {h : zh} {s : sqT} (Q : QC τ h a s) {r : Nat} {ip : it4} {xr : Int32} (exr : xr.toInt = (r : Int)) (kip : s.2.1[r]? = some ip) {xw : Int32} : qV (d + 3) 101 [some (.inl (some a)), some (zi xr), some (zi xw), none, none] h t (fun h1 => QC τ h1 a (if xw.toInt ≠ 0 then (s.1, s.2.1, s.2.2.1, dAdd s.2.2.2 ip.2.1 ip.2.2.1) else mkQ ip.2.1 ip.2.2.1 s) ∧ FQ a h h1) := by
  have hr9 := (List.getElem?_eq_some_iff.mp kip).1
  have oip := okQ_R Q.2.2.2.2 kip
  have pip := oip.1
  unfold okV at pip
  refine qV_of ?_
  refine y_same (i := .aload_n 0) (len := 1) (r := (0, 0, 0, 0)) (pc' := 1) (ls' := [some (.inl (some a)), some (zi xr), some (zi xw), none, none]) (st' := [.inl (some a)]) (by decide +kernel) (fun k q => by cases q) rfl ?_
  refine y_get (j := 27) (len := 3) (r := (7, 2, 2, 536)) (by decide +kernel) Q.1 Q.2.1.1 aw1008 rfl rfl Q.2.2.1.2.2.1 ?_
  refine y_same (i := .iload_n 1) (len := 1) (r := (0, 0, 0, 0)) (pc' := 5) (ls' := [some (.inl (some a)), some (zi xr), some (zi xw), none, none]) (st' := [zi xr, .inl (some ((a + 5)))]) (by decide +kernel) (fun k q => by cases q) rfl ?_
  refine y_ic (c := 1) (len := 1) (r := (0, 0, 0, 0)) (by decide +kernel) (by decide) (fun y2357 hy2357 => ?_)
  refine y_cI (i := .invokevirtual 68) (len := 3) (r := (0, 64, 6, 586)) (nL := 3) (k := 1) (n := 3) (hs := []) (args := [.inl (some ((a + 5))), zi xr, zi y2357]) (rest := []) (l0 := [some (.inl (some ((a + 5)))), some (zi xr), some (zi y2357)]) (by decide +kernel) (Or.inr (Or.inl ⟨_, rfl⟩)) rfl rfl rfl rfl (Nat.le_of_ble_eq_true rfl) (zO Q.1 Q.2.1.2.2.2.2.2.1 aw1004 rfl) rfl (qI_le (by omega) (q_tlR (d := 0) (k := r) (w := 1) Q (by omega) kip (by omega) (by omega))) (fun y2358 qy2358 hRy2358 => ?_)
  obtain ⟨rfl, ey2358⟩ := hRy2358
  have ey2358 : y2358.toInt = ip.2.1 := ey2358
  refine y_same (i := .istore_n 3) (len := 1) (r := (0, 0, 0, 0)) (pc' := 10) (ls' := [some (.inl (some a)), some (zi xr), some (zi xw), some (zi y2358), none]) (st' := []) (by decide +kernel) (fun k q => by cases q) rfl ?_
  refine y_same (i := .aload_n 0) (len := 1) (r := (0, 0, 0, 0)) (pc' := 11) (ls' := [some (.inl (some a)), some (zi xr), some (zi xw), some (zi y2358), none]) (st' := [.inl (some a)]) (by decide +kernel) (fun k q => by cases q) rfl ?_
  refine y_get (j := 27) (len := 3) (r := (7, 2, 2, 536)) (by decide +kernel) Q.1 Q.2.1.1 aw1008 rfl rfl Q.2.2.1.2.2.1 ?_
  refine y_same (i := .iload_n 1) (len := 1) (r := (0, 0, 0, 0)) (pc' := 15) (ls' := [some (.inl (some a)), some (zi xr), some (zi xw), some (zi y2358), none]) (st' := [zi xr, .inl (some ((a + 5)))]) (by decide +kernel) (fun k q => by cases q) rfl ?_
  refine y_ic (c := 2) (len := 1) (r := (0, 0, 0, 0)) (by decide +kernel) (by decide) (fun y2359 hy2359 => ?_)
  refine y_cI (i := .invokevirtual 68) (len := 3) (r := (0, 64, 6, 586)) (nL := 3) (k := 1) (n := 3) (hs := []) (args := [.inl (some ((a + 5))), zi xr, zi y2359]) (rest := []) (l0 := [some (.inl (some ((a + 5)))), some (zi xr), some (zi y2359)]) (by decide +kernel) (Or.inr (Or.inl ⟨_, rfl⟩)) rfl rfl rfl rfl (Nat.le_of_ble_eq_true rfl) (zO Q.1 Q.2.1.2.2.2.2.2.1 aw1004 rfl) rfl (qI_le (by omega) (q_tlR (d := 0) (k := r) (w := 2) Q (by omega) kip (by omega) (by omega))) (fun y2360 qy2360 hRy2360 => ?_)
  obtain ⟨rfl, ey2360⟩ := hRy2360
  have ey2360 : y2360.toInt = ip.2.2.1 := ey2360
  refine y_same (i := .istore 4) (len := 2) (r := (0, 0, 0, 0)) (pc' := 21) (ls' := [some (.inl (some a)), some (zi xr), some (zi xw), some (zi y2358), some (zi y2360)]) (st' := []) (by decide +kernel) (fun k q => by cases q) rfl ?_
  refine y_same (i := .iload_n 2) (len := 1) (r := (0, 0, 0, 0)) (pc' := 22) (ls' := [some (.inl (some a)), some (zi xr), some (zi xw), some (zi y2358), some (zi y2360)]) (st' := [zi xw]) (by decide +kernel) (fun k q => by cases q) rfl ?_
  rcases Decidable.em (xw.toInt = 0) with q2361 | q2361
  ·
    refine y_iT (c := .eq) (off := 16) (pc' := 38) (len := 3) (r := (0, 0, 0, 0)) (by decide +kernel) (acmpT (c := .eq) (by show _ = _; omega)) (by decide +kernel) ?_
    refine y_same (i := .aload_n 0) (len := 1) (r := (0, 0, 0, 0)) (pc' := 39) (ls' := [some (.inl (some a)), some (zi xr), some (zi xw), some (zi y2358), some (zi y2360)]) (st' := [.inl (some a)]) (by decide +kernel) (fun k q => by cases q) rfl ?_
    refine y_same (i := .iload_n 3) (len := 1) (r := (0, 0, 0, 0)) (pc' := 40) (ls' := [some (.inl (some a)), some (zi xr), some (zi xw), some (zi y2358), some (zi y2360)]) (st' := [zi y2358, .inl (some a)]) (by decide +kernel) (fun k q => by cases q) rfl ?_
    refine y_same (i := .iload 4) (len := 2) (r := (0, 0, 0, 0)) (pc' := 42) (ls' := [some (.inl (some a)), some (zi xr), some (zi xw), some (zi y2358), some (zi y2360)]) (st' := [zi y2360, zi y2358, .inl (some a)]) (by decide +kernel) (fun k q => by cases q) rfl ?_
    refine y_cV (i := .invokevirtual 88) (len := 3) (r := (0, 80, 7, 617)) (nL := 5) (k := 0) (n := 3) (hs := []) (args := [.inl (some a), zi y2358, zi y2360]) (rest := []) (l0 := [some (.inl (some a)), some (zi y2358), some (zi y2360), none, none]) (by decide +kernel) (Or.inr (Or.inl ⟨_, rfl⟩)) rfl rfl rfl rfl (Nat.le_of_ble_eq_true rfl) (zO Q.1 Q.2.1.1 aw1008 rfl) rfl (qV_le (by omega) (q_mk (d := 0) (x := ip.2.1) (y := ip.2.2.1) Q (by omega) (by omega) (by omega) (by omega))) (fun h2362 hR2362 => ?_)
    obtain ⟨Q2362, F2362⟩ := hR2362
    refine y_rV (len := 1) (r := (0, 0, 0, 0)) (nL := 5) (n9 := 3) (hs := []) (by decide +kernel) rfl ?_
    rw [if_neg (by omega)]
    exact ⟨Q2362, fun k j hC => (F2362 k j (by omega))⟩
  ·
    refine y_iF (c := .eq) (off := 16) (len := 3) (r := (0, 0, 0, 0)) (by decide +kernel) (acmpF (c := .eq) (by show ¬ (_ = _); omega)) ?_
    refine y_same (i := .aload_n 0) (len := 1) (r := (0, 0, 0, 0)) (pc' := 26) (ls' := [some (.inl (some a)), some (zi xr), some (zi xw), some (zi y2358), some (zi y2360)]) (st' := [.inl (some a)]) (by decide +kernel) (fun k q => by cases q) rfl ?_
    refine y_get (j := 12) (len := 3) (r := (7, 0, 2, 530)) (by decide +kernel) Q.1 Q.2.1.1 aw1008 rfl rfl Q.2.2.1.1 ?_
    refine y_same (i := .iload_n 3) (len := 1) (r := (0, 0, 0, 0)) (pc' := 30) (ls' := [some (.inl (some a)), some (zi xr), some (zi xw), some (zi y2358), some (zi y2360)]) (st' := [zi y2358, .inl (some ((a + 1)))]) (by decide +kernel) (fun k q => by cases q) rfl ?_
    refine y_same (i := .iload 4) (len := 2) (r := (0, 0, 0, 0)) (pc' := 32) (ls' := [some (.inl (some a)), some (zi xr), some (zi xw), some (zi y2358), some (zi y2360)]) (st' := [zi y2360, zi y2358, .inl (some ((a + 1)))]) (by decide +kernel) (fun k q => by cases q) rfl ?_
    refine y_cV (i := .invokevirtual 72) (len := 3) (r := (0, 4, 0, 590)) (nL := 3) (k := 0) (n := 3) (hs := []) (args := [.inl (some ((a + 1))), zi y2358, zi y2360]) (rest := []) (l0 := [some (.inl (some ((a + 1)))), some (zi y2358), some (zi y2360)]) (by decide +kernel) (Or.inr (Or.inl ⟨_, rfl⟩)) rfl rfl rfl rfl (Nat.le_of_ble_eq_true rfl) (zO Q.1 Q.2.1.2.1 aw1009 rfl) rfl (qV_le (by omega) (q_daddI (d := 0) (x := ip.2.1) (y := ip.2.2.1) (by omega) (by omega) (by omega) (by omega) Q)) (fun h2363 hR2363 => ?_)
    obtain ⟨Q2363, F2363⟩ := hR2363
    refine y_goto (off := 10) (pc' := 45) (len := 3) (r := (0, 0, 0, 0)) (by decide +kernel) (by decide +kernel) ?_
    refine y_rV (len := 1) (r := (0, 0, 0, 0)) (nL := 5) (n9 := 3) (hs := []) (by decide +kernel) rfl ?_
    rw [if_pos (by omega)]
    exact ⟨Q2363, fun k j hC => (F2363 k j (by omega))⟩
theorem nx7_t {s : sqT} {ip iq : it4} {r l : Nat} : nxF s 7 ip iq r l true = (if frF (mnA s) = 21 then none else if iq.1 = 2 then some (ins_ (s.1.set l (0, iq.2.1, (frF (mnA s) : Int), 0)) (l + 1) (2, (frF (mnA s) : Int), iq.2.2.1, 0), s.2.1, s.2.2.1, dAdd s.2.2.2 iq.2.1 iq.2.2.1) else if frF (fun v => mnA s v ∨ v = (frF (mnA s) : Int)) = 21 then none else some (ins_ (ins_ (s.1.set l (1, iq.2.1, (frF (mnA s) : Int), (frF (fun v => mnA s v ∨ v = (frF (mnA s) : Int)) : Int))) (l + 1) (3, (frF (mnA s) : Int), 0, 0)) (l + 2) (3, (frF (fun v => mnA s v ∨ v = (frF (mnA s) : Int)) : Int), 0, 0), s.2.1, s.2.2.1, s.2.2.2) : Option sqT) := by
  show (if true = true then (if frF (mnA s) = 21 then none else if iq.1 = 2 then some (ins_ (s.1.set l (0, iq.2.1, (frF (mnA s) : Int), 0)) (l + 1) (2, (frF (mnA s) : Int), iq.2.2.1, 0), s.2.1, s.2.2.1, dAdd s.2.2.2 iq.2.1 iq.2.2.1) else if frF (fun v => mnA s v ∨ v = (frF (mnA s) : Int)) = 21 then none else some (ins_ (ins_ (s.1.set l (1, iq.2.1, (frF (mnA s) : Int), (frF (fun v => mnA s v ∨ v = (frF (mnA s) : Int)) : Int))) (l + 1) (3, (frF (mnA s) : Int), 0, 0)) (l + 2) (3, (frF (fun v => mnA s v ∨ v = (frF (mnA s) : Int)) : Int), 0, 0), s.2.1, s.2.2.1, s.2.2.2) : Option sqT) else some (mkQ iq.2.1 iq.2.2.1 s)) = (if frF (mnA s) = 21 then none else if iq.1 = 2 then some (ins_ (s.1.set l (0, iq.2.1, (frF (mnA s) : Int), 0)) (l + 1) (2, (frF (mnA s) : Int), iq.2.2.1, 0), s.2.1, s.2.2.1, dAdd s.2.2.2 iq.2.1 iq.2.2.1) else if frF (fun v => mnA s v ∨ v = (frF (mnA s) : Int)) = 21 then none else some (ins_ (ins_ (s.1.set l (1, iq.2.1, (frF (mnA s) : Int), (frF (fun v => mnA s v ∨ v = (frF (mnA s) : Int)) : Int))) (l + 1) (3, (frF (mnA s) : Int), 0, 0)) (l + 2) (3, (frF (fun v => mnA s v ∨ v = (frF (mnA s) : Int)) : Int), 0, 0), s.2.1, s.2.2.1, s.2.2.2) : Option sqT)
  exact if_pos rfl
theorem nx7_f {s : sqT} {ip iq : it4} {r l : Nat} : nxF s 7 ip iq r l false = some (mkQ iq.2.1 iq.2.2.1 s) := by
  show (if false = true then (if frF (mnA s) = 21 then none else if iq.1 = 2 then some (ins_ (s.1.set l (0, iq.2.1, (frF (mnA s) : Int), 0)) (l + 1) (2, (frF (mnA s) : Int), iq.2.2.1, 0), s.2.1, s.2.2.1, dAdd s.2.2.2 iq.2.1 iq.2.2.1) else if frF (fun v => mnA s v ∨ v = (frF (mnA s) : Int)) = 21 then none else some (ins_ (ins_ (s.1.set l (1, iq.2.1, (frF (mnA s) : Int), (frF (fun v => mnA s v ∨ v = (frF (mnA s) : Int)) : Int))) (l + 1) (3, (frF (mnA s) : Int), 0, 0)) (l + 2) (3, (frF (fun v => mnA s v ∨ v = (frF (mnA s) : Int)) : Int), 0, 0), s.2.1, s.2.2.1, s.2.2.2) : Option sqT) else some (mkQ iq.2.1 iq.2.2.1 s)) = _
  exact if_neg (by decide)
theorem q_unf {d t a : Nat} {τ : List Nat} {h : zh} {s : sqT} (Q : QC τ h a s) (nb : ¬ big_ s) {l : Nat} {iq : it4} {xl : Int32} (exl : xl.toInt = (l : Int)) (kiq : s.1[l]? = some iq) (h2 : 2 ≤ iq.1) : qI (d + 5) 102 [some (.inl (some a)), some (zi xl), none, none, none, none] h t (fun y h1 => (y.toInt = 1 ∧ ∃ s', (if frF (mnA s) = 21 then none else if iq.1 = 2 then some (ins_ (s.1.set l (0, iq.2.1, (frF (mnA s) : Int), 0)) (l + 1) (2, (frF (mnA s) : Int), iq.2.2.1, 0), s.2.1, s.2.2.1, dAdd s.2.2.2 iq.2.1 iq.2.2.1) else if frF (fun v => mnA s v ∨ v = (frF (mnA s) : Int)) = 21 then none else some (ins_ (ins_ (s.1.set l (1, iq.2.1, (frF (mnA s) : Int), (frF (fun v => mnA s v ∨ v = (frF (mnA s) : Int)) : Int))) (l + 1) (3, (frF (mnA s) : Int), 0, 0)) (l + 2) (3, (frF (fun v => mnA s v ∨ v = (frF (mnA s) : Int)) : Int), 0, 0), s.2.1, s.2.2.1, s.2.2.2) : Option sqT) = some s' ∧ QC τ h1 a s' ∧ FQ a h h1) ∨ (y.toInt = 0 ∧ (if frF (mnA s) = 21 then none else if iq.1 = 2 then some (ins_ (s.1.set l (0, iq.2.1, (frF (mnA s) : Int), 0)) (l + 1) (2, (frF (mnA s) : Int), iq.2.2.1, 0), s.2.1, s.2.2.1, dAdd s.2.2.2 iq.2.1 iq.2.2.1) else if frF (fun v => mnA s v ∨ v = (frF (mnA s) : Int)) = 21 then none else some (ins_ (ins_ (s.1.set l (1, iq.2.1, (frF (mnA s) : Int), (frF (fun v => mnA s v ∨ v = (frF (mnA s) : Int)) : Int))) (l + 1) (3, (frF (mnA s) : Int), 0, 0)) (l + 2) (3, (frF (fun v => mnA s v ∨ v = (frF (mnA s) : Int)) : Int), 0, 0), s.2.1, s.2.2.1, s.2.2.2) : Option sqT) = none ∧ ∃ s', QC τ h1 a s' ∧ FQ a h h1)) := by
  have hl9 := (List.getElem?_eq_some_iff.mp kiq).1
  have oiq := okQ_L Q.2.2.2.2 kiq
  have piq := oiq.1
  unfold okV at piq
  have b1 : ¬ 12 < s.1.length := fun q => nb (Or.inl q)
  have b2 : ¬ 12 < s.2.1.length := fun q => nb (Or.inr (Or.inl q))
  have b3 : ¬ 12 < s.2.2.1.length := fun q => nb (Or.inr (Or.inr q))
  refine qI_of ?_
  refine y_same (i := .aload_n 0) (len := 1) (r := (0, 0, 0, 0)) (pc' := 1) (ls' := [some (.inl (some a)), some (zi xl), none, none, none, none]) (st' := [.inl (some a)]) (by decide +kernel) (fun k q => by cases q) rfl ?_
  refine y_get (j := 23) (len := 3) (r := (7, 1, 2, 533)) (by decide +kernel) Q.1 Q.2.1.1 aw1008 rfl rfl Q.2.2.1.2.1 ?_
  refine y_same (i := .iload_n 1) (len := 1) (r := (0, 0, 0, 0)) (pc' := 5) (ls' := [some (.inl (some a)), some (zi xl), none, none, none, none]) (st' := [zi xl, .inl (some ((a + 3)))]) (by decide +kernel) (fun k q => by cases q) rfl ?_
  refine y_ic (c := 1) (len := 1) (r := (0, 0, 0, 0)) (by decide +kernel) (by decide) (fun y2364 hy2364 => ?_)
  refine y_cI (i := .invokevirtual 68) (len := 3) (r := (0, 64, 6, 586)) (nL := 3) (k := 1) (n := 3) (hs := []) (args := [.inl (some ((a + 3))), zi xl, zi y2364]) (rest := []) (l0 := [some (.inl (some ((a + 3)))), some (zi xl), some (zi y2364)]) (by decide +kernel) (Or.inr (Or.inl ⟨_, rfl⟩)) rfl rfl rfl rfl (Nat.le_of_ble_eq_true rfl) (zO Q.1 Q.2.1.2.2.2.1 aw1004 rfl) rfl (qI_le (by omega) (q_tlL (d := 0) (k := l) (w := 1) Q (by omega) kiq (by omega) (by omega))) (fun y2365 qy2365 hRy2365 => ?_)
  obtain ⟨rfl, ey2365⟩ := hRy2365
  have ey2365 : y2365.toInt = iq.2.1 := ey2365
  refine y_same (i := .istore_n 2) (len := 1) (r := (0, 0, 0, 0)) (pc' := 10) (ls' := [some (.inl (some a)), some (zi xl), some (zi y2365), none, none, none]) (st' := []) (by decide +kernel) (fun k q => by cases q) rfl ?_
  refine y_same (i := .aload_n 0) (len := 1) (r := (0, 0, 0, 0)) (pc' := 11) (ls' := [some (.inl (some a)), some (zi xl), some (zi y2365), none, none, none]) (st' := [.inl (some a)]) (by decide +kernel) (fun k q => by cases q) rfl ?_
  refine y_get (j := 23) (len := 3) (r := (7, 1, 2, 533)) (by decide +kernel) Q.1 Q.2.1.1 aw1008 rfl rfl Q.2.2.1.2.1 ?_
  refine y_same (i := .iload_n 1) (len := 1) (r := (0, 0, 0, 0)) (pc' := 15) (ls' := [some (.inl (some a)), some (zi xl), some (zi y2365), none, none, none]) (st' := [zi xl, .inl (some ((a + 3)))]) (by decide +kernel) (fun k q => by cases q) rfl ?_
  refine y_ic (c := 2) (len := 1) (r := (0, 0, 0, 0)) (by decide +kernel) (by decide) (fun y2366 hy2366 => ?_)
  refine y_cI (i := .invokevirtual 68) (len := 3) (r := (0, 64, 6, 586)) (nL := 3) (k := 1) (n := 3) (hs := []) (args := [.inl (some ((a + 3))), zi xl, zi y2366]) (rest := []) (l0 := [some (.inl (some ((a + 3)))), some (zi xl), some (zi y2366)]) (by decide +kernel) (Or.inr (Or.inl ⟨_, rfl⟩)) rfl rfl rfl rfl (Nat.le_of_ble_eq_true rfl) (zO Q.1 Q.2.1.2.2.2.1 aw1004 rfl) rfl (qI_le (by omega) (q_tlL (d := 0) (k := l) (w := 2) Q (by omega) kiq (by omega) (by omega))) (fun y2367 qy2367 hRy2367 => ?_)
  obtain ⟨rfl, ey2367⟩ := hRy2367
  have ey2367 : y2367.toInt = iq.2.2.1 := ey2367
  refine y_same (i := .istore_n 3) (len := 1) (r := (0, 0, 0, 0)) (pc' := 20) (ls' := [some (.inl (some a)), some (zi xl), some (zi y2365), some (zi y2367), none, none]) (st' := []) (by decide +kernel) (fun k q => by cases q) rfl ?_
  refine y_same (i := .aload_n 0) (len := 1) (r := (0, 0, 0, 0)) (pc' := 21) (ls' := [some (.inl (some a)), some (zi xl), some (zi y2365), some (zi y2367), none, none]) (st' := [.inl (some a)]) (by decide +kernel) (fun k q => by cases q) rfl ?_
  refine y_cI (i := .invokevirtual 186) (len := 3) (r := (0, 82, 7, 818)) (nL := 1) (k := 1) (n := 1) (hs := []) (args := [.inl (some a)]) (rest := []) (l0 := [some (.inl (some a))]) (by decide +kernel) (Or.inr (Or.inl ⟨_, rfl⟩)) rfl rfl rfl rfl (Nat.le_of_ble_eq_true rfl) (zO Q.1 Q.2.1.1 aw1008 rfl) rfl (qI_le (by omega) (q_mns (d := 0) Q)) (fun y2368 qy2368 hRy2368 => ?_)
  obtain ⟨rfl, ty2368⟩ := hRy2368
  refine y_cI (i := .invokestatic 187) (len := 3) (r := (1, 103, 7, 819)) (nL := 2) (k := 1) (n := 1) (hs := []) (args := [zi y2368]) (rest := []) (l0 := [some (zi y2368), none]) (by decide +kernel) (Or.inl ⟨_, rfl⟩) rfl rfl rfl rfl (Nat.le_of_ble_eq_true rfl) rfl rfl (qI_le (by omega) (e_lf (d := 0) (S := mnA s) ty2368)) (fun y2369 qy2369 hRy2369 => ?_)
  obtain ⟨rfl, u2369, ey2369, fy2369⟩ := hRy2369
  have gy2369 := fy2369.1
  have iy2369 := fy2369.2.1
  refine y_same (i := .istore 4) (len := 2) (r := (0, 0, 0, 0)) (pc' := 29) (ls' := [some (.inl (some a)), some (zi xl), some (zi y2365), some (zi y2367), some (zi y2369), none]) (st' := []) (by decide +kernel) (fun k q => by cases q) rfl ?_
  refine y_same (i := .iload 4) (len := 2) (r := (0, 0, 0, 0)) (pc' := 31) (ls' := [some (.inl (some a)), some (zi xl), some (zi y2365), some (zi y2367), some (zi y2369), none]) (st' := [zi y2369]) (by decide +kernel) (fun k q => by cases q) rfl ?_
  refine y_cI (i := .invokestatic 190) (len := 3) (r := (3, 157, 11, 822)) (nL := 1) (k := 2) (n := 1) (hs := []) (args := [zi y2369]) (rest := []) (l0 := [some (zi y2369)]) (by decide +kernel) (Or.inl ⟨_, rfl⟩) rfl rfl rfl rfl (Nat.le_of_ble_eq_true rfl) rfl rfl (qI_le (by omega) (c_isv2 (d := 0) (u := u2369) ey2369)) (fun y2370 qy2370 hRy2370 => ?_)
  obtain ⟨rfl, hDy2370⟩ := hRy2370
  rcases hDy2370 with ⟨vy2370, ty2370⟩ | ⟨vy2370, ty2370⟩
  ·
    refine y_iT (c := .ne) (off := 5) (pc' := 39) (len := 3) (r := (0, 0, 0, 0)) (by decide +kernel) (acmpT (c := .ne) (by show ¬ (_ = _); omega)) (by decide +kernel) ?_
    refine y_same (i := .aload_n 0) (len := 1) (r := (0, 0, 0, 0)) (pc' := 40) (ls' := [some (.inl (some a)), some (zi xl), some (zi y2365), some (zi y2367), some (zi y2369), none]) (st' := [.inl (some a)]) (by decide +kernel) (fun k q => by cases q) rfl ?_
    refine y_get (j := 23) (len := 3) (r := (7, 1, 2, 533)) (by decide +kernel) Q.1 Q.2.1.1 aw1008 rfl rfl Q.2.2.1.2.1 ?_
    refine y_same (i := .iload_n 1) (len := 1) (r := (0, 0, 0, 0)) (pc' := 44) (ls' := [some (.inl (some a)), some (zi xl), some (zi y2365), some (zi y2367), some (zi y2369), none]) (st' := [zi xl, .inl (some ((a + 3)))]) (by decide +kernel) (fun k q => by cases q) rfl ?_
    refine y_ic (c := 0) (len := 1) (r := (0, 0, 0, 0)) (by decide +kernel) (by decide) (fun y2371 hy2371 => ?_)
    refine y_cI (i := .invokevirtual 68) (len := 3) (r := (0, 64, 6, 586)) (nL := 3) (k := 1) (n := 3) (hs := []) (args := [.inl (some ((a + 3))), zi xl, zi y2371]) (rest := []) (l0 := [some (.inl (some ((a + 3)))), some (zi xl), some (zi y2371)]) (by decide +kernel) (Or.inr (Or.inl ⟨_, rfl⟩)) rfl rfl rfl rfl (Nat.le_of_ble_eq_true rfl) (zO Q.1 Q.2.1.2.2.2.1 aw1004 rfl) rfl (qI_le (by omega) (q_tlL (d := 0) (k := l) (w := 0) Q (by omega) kiq (by omega) (by omega))) (fun y2372 qy2372 hRy2372 => ?_)
    obtain ⟨rfl, ey2372⟩ := hRy2372
    have ey2372 : y2372.toInt = iq.1 := ey2372
    refine y_ic (c := 2) (len := 1) (r := (0, 0, 0, 0)) (by decide +kernel) (by decide) (fun y2373 hy2373 => ?_)
    rcases Decidable.em (y2372.toInt ≠ y2373.toInt) with q2374 | q2374
    ·
      refine y_cT (c := .ne) (off := 48) (pc' := 97) (len := 3) (r := (0, 0, 0, 0)) (by decide +kernel) (acmpT (c := .ne) (by show ¬ (_ = _); omega)) (by decide +kernel) ?_
      refine y_same (i := .aload_n 0) (len := 1) (r := (0, 0, 0, 0)) (pc' := 98) (ls' := [some (.inl (some a)), some (zi xl), some (zi y2365), some (zi y2367), some (zi y2369), none]) (st' := [.inl (some a)]) (by decide +kernel) (fun k q => by cases q) rfl ?_
      refine y_cI (i := .invokevirtual 186) (len := 3) (r := (0, 82, 7, 818)) (nL := 1) (k := 1) (n := 1) (hs := []) (args := [.inl (some a)]) (rest := []) (l0 := [some (.inl (some a))]) (by decide +kernel) (Or.inr (Or.inl ⟨_, rfl⟩)) rfl rfl rfl rfl (Nat.le_of_ble_eq_true rfl) (zO Q.1 Q.2.1.1 aw1008 rfl) rfl (qI_le (by omega) (q_mns (d := 0) Q)) (fun y2375 qy2375 hRy2375 => ?_)
      obtain ⟨rfl, ty2375⟩ := hRy2375
      refine y_ic (c := 1) (len := 1) (r := (0, 0, 0, 0)) (by decide +kernel) (by decide) (fun y2376 hy2376 => ?_)
      refine y_same (i := .iload 4) (len := 2) (r := (0, 0, 0, 0)) (pc' := 104) (ls' := [some (.inl (some a)), some (zi xl), some (zi y2365), some (zi y2367), some (zi y2369), none]) (st' := [zi y2369, zi y2376, zi y2375]) (by decide +kernel) (fun k q => by cases q) rfl ?_
      refine y_bp (i := .ishl) (f := fun x y => x <<< (y &&& 31)) (len := 1) (r := (0, 0, 0, 0)) (by decide +kernel) rfl rfl (fun y2377 hy2377 => ?_)
      have hy2377 : y2377 = y2376 <<< (y2369 &&& 31) := hy2377
      refine y_bp (i := .ior) (f := fun x y => x ||| y) (len := 1) (r := (0, 0, 0, 0)) (by decide +kernel) rfl rfl (fun y2378 hy2378 => ?_)
      have hy2378 : y2378 = y2375 ||| y2377 := hy2378
      have b8 := bs_1 (c := y2376) (y := y2369) (k := (u2369 : Int)) (by omega) ey2369 (by omega) (by omega)
      rw [← hy2377] at b8
      have b9 := bs_or ty2375 b8
      rw [← hy2378] at b9
      have b7 := bs_cg (S' := fun v => mnA s (v : Int) ∨ (v : Int) = (u2369 : Int)) b9 (fun v _ => ⟨fun q => q.elim Or.inl (fun e => Or.inr e.symm), fun q => q.elim Or.inl (fun e => Or.inr e.symm)⟩)
      refine y_cI (i := .invokestatic 187) (len := 3) (r := (1, 103, 7, 819)) (nL := 2) (k := 1) (n := 1) (hs := []) (args := [zi y2378]) (rest := []) (l0 := [some (zi y2378), none]) (by decide +kernel) (Or.inl ⟨_, rfl⟩) rfl rfl rfl rfl (Nat.le_of_ble_eq_true rfl) rfl rfl (qI_le (by omega) (e_lf (d := 0) (S := fun v => mnA s v ∨ v = (u2369 : Int)) b7)) (fun y2379 qy2379 hRy2379 => ?_)
      obtain ⟨rfl, u2379, ey2379, fy2379⟩ := hRy2379
      have gy2379 := fy2379.1
      have iy2379 := fy2379.2.1
      refine y_same (i := .istore 5) (len := 2) (r := (0, 0, 0, 0)) (pc' := 111) (ls' := [some (.inl (some a)), some (zi xl), some (zi y2365), some (zi y2367), some (zi y2369), some (zi y2379)]) (st' := []) (by decide +kernel) (fun k q => by cases q) rfl ?_
      refine y_same (i := .iload 5) (len := 2) (r := (0, 0, 0, 0)) (pc' := 113) (ls' := [some (.inl (some a)), some (zi xl), some (zi y2365), some (zi y2367), some (zi y2369), some (zi y2379)]) (st' := [zi y2379]) (by decide +kernel) (fun k q => by cases q) rfl ?_
      refine y_cI (i := .invokestatic 190) (len := 3) (r := (3, 157, 11, 822)) (nL := 1) (k := 2) (n := 1) (hs := []) (args := [zi y2379]) (rest := []) (l0 := [some (zi y2379)]) (by decide +kernel) (Or.inl ⟨_, rfl⟩) rfl rfl rfl rfl (Nat.le_of_ble_eq_true rfl) rfl rfl (qI_le (by omega) (c_isv2 (d := 0) (u := u2379) ey2379)) (fun y2380 qy2380 hRy2380 => ?_)
      obtain ⟨rfl, hDy2380⟩ := hRy2380
      rcases hDy2380 with ⟨vy2380, ty2380⟩ | ⟨vy2380, ty2380⟩
      ·
        refine y_iT (c := .ne) (off := 5) (pc' := 121) (len := 3) (r := (0, 0, 0, 0)) (by decide +kernel) (acmpT (c := .ne) (by show ¬ (_ = _); omega)) (by decide +kernel) ?_
        refine y_same (i := .aload_n 0) (len := 1) (r := (0, 0, 0, 0)) (pc' := 122) (ls' := [some (.inl (some a)), some (zi xl), some (zi y2365), some (zi y2367), some (zi y2369), some (zi y2379)]) (st' := [.inl (some a)]) (by decide +kernel) (fun k q => by cases q) rfl ?_
        refine y_get (j := 23) (len := 3) (r := (7, 1, 2, 533)) (by decide +kernel) Q.1 Q.2.1.1 aw1008 rfl rfl Q.2.2.1.2.1 ?_
        refine y_same (i := .iload_n 1) (len := 1) (r := (0, 0, 0, 0)) (pc' := 126) (ls' := [some (.inl (some a)), some (zi xl), some (zi y2365), some (zi y2367), some (zi y2369), some (zi y2379)]) (st' := [zi xl, .inl (some ((a + 3)))]) (by decide +kernel) (fun k q => by cases q) rfl ?_
        refine y_ic (c := 1) (len := 1) (r := (0, 0, 0, 0)) (by decide +kernel) (by decide) (fun y2381 hy2381 => ?_)
        refine y_same (i := .iload_n 2) (len := 1) (r := (0, 0, 0, 0)) (pc' := 128) (ls' := [some (.inl (some a)), some (zi xl), some (zi y2365), some (zi y2367), some (zi y2369), some (zi y2379)]) (st' := [zi y2365, zi y2381, zi xl, .inl (some ((a + 3)))]) (by decide +kernel) (fun k q => by cases q) rfl ?_
        refine y_same (i := .iload 4) (len := 2) (r := (0, 0, 0, 0)) (pc' := 130) (ls' := [some (.inl (some a)), some (zi xl), some (zi y2365), some (zi y2367), some (zi y2369), some (zi y2379)]) (st' := [zi y2369, zi y2365, zi y2381, zi xl, .inl (some ((a + 3)))]) (by decide +kernel) (fun k q => by cases q) rfl ?_
        refine y_same (i := .iload 5) (len := 2) (r := (0, 0, 0, 0)) (pc' := 132) (ls' := [some (.inl (some a)), some (zi xl), some (zi y2365), some (zi y2367), some (zi y2369), some (zi y2379)]) (st' := [zi y2379, zi y2369, zi y2365, zi y2381, zi xl, .inl (some ((a + 3)))]) (by decide +kernel) (fun k q => by cases q) rfl ?_
        refine y_cI (i := .invokestatic 176) (len := 3) (r := (3, 158, 11, 798)) (nL := 4) (k := 1) (n := 4) (hs := []) (args := [zi y2381, zi y2365, zi y2369, zi y2379]) (rest := [zi xl, .inl (some ((a + 3)))]) (l0 := [some (zi y2381), some (zi y2365), some (zi y2369), some (zi y2379)]) (by decide +kernel) (Or.inl ⟨_, rfl⟩) rfl rfl rfl rfl (Nat.le_of_ble_eq_true rfl) rfl rfl (qI_le (by omega) (e_pk20 (d := 0) (A := 1) (B := iq.2.1) (C := (u2369 : Int)) (E := (u2379 : Int)) (by omega) (by omega) (by omega) (by omega) (by omega) (by omega) (by omega) (by omega))) (fun y2382 qy2382 hRy2382 => ?_)
        obtain ⟨rfl, ey2382⟩ := hRy2382
        obtain ⟨z2384, hz2384, ez2384, mz2384⟩ := q_szL Q
        have ez2384 : z2384.toInt = ((s.1.length : Nat) : Int) := ez2384
        have mz2384 : s.1.length ≤ 14 := mz2384
        refine y_cV (i := .invokevirtual 180) (len := 3) (r := (0, 69, 6, 805)) (nL := 3) (k := 0) (n := 3) (hs := []) (args := [.inl (some ((a + 3))), zi xl, zi y2382]) (rest := []) (l0 := [some (.inl (some ((a + 3)))), some (zi xl), some (zi y2382)]) (by decide +kernel) (Or.inr (Or.inl ⟨_, rfl⟩)) rfl rfl rfl rfl (Nat.le_of_ble_eq_true rfl) (zO Q.1 Q.2.1.2.2.2.1 aw1004 rfl) rfl (qV_le (by omega) (q_stL (d := 0) (k := l) (p := (1, iq.2.1, (u2369 : Int), (u2379 : Int))) Q (by omega) (show l < s.1.length by omega) ey2382 (okPt_p (by omega) (by omega) (by omega)))) (fun h2383 hR2383 => ?_)
        obtain ⟨Q2383, F2383⟩ := hR2383
        have g2383 : (s.1.set l (1, iq.2.1, (u2369 : Int), (u2379 : Int))).length = s.1.length := List.length_set
        refine y_same (i := .aload_n 0) (len := 1) (r := (0, 0, 0, 0)) (pc' := 139) (ls' := [some (.inl (some a)), some (zi xl), some (zi y2365), some (zi y2367), some (zi y2369), some (zi y2379)]) (st' := [.inl (some a)]) (by decide +kernel) (fun k q => by cases q) rfl ?_
        refine y_get (j := 23) (len := 3) (r := (7, 1, 2, 533)) (by decide +kernel) Q2383.1 Q2383.2.1.1 aw1008 rfl rfl Q2383.2.2.1.2.1 ?_
        refine y_same (i := .iload_n 1) (len := 1) (r := (0, 0, 0, 0)) (pc' := 143) (ls' := [some (.inl (some a)), some (zi xl), some (zi y2365), some (zi y2367), some (zi y2369), some (zi y2379)]) (st' := [zi xl, .inl (some ((a + 3)))]) (by decide +kernel) (fun k q => by cases q) rfl ?_
        refine y_ic (c := 1) (len := 1) (r := (0, 0, 0, 0)) (by decide +kernel) (by decide) (fun y2385 hy2385 => ?_)
        refine y_add (len := 1) (r := (0, 0, 0, 0)) (by decide +kernel) (by omega) (by omega) (fun y2386 hy2386 => ?_)
        refine y_ic (c := 3) (len := 1) (r := (0, 0, 0, 0)) (by decide +kernel) (by decide) (fun y2387 hy2387 => ?_)
        refine y_same (i := .iload 4) (len := 2) (r := (0, 0, 0, 0)) (pc' := 148) (ls' := [some (.inl (some a)), some (zi xl), some (zi y2365), some (zi y2367), some (zi y2369), some (zi y2379)]) (st' := [zi y2369, zi y2387, zi y2386, .inl (some ((a + 3)))]) (by decide +kernel) (fun k q => by cases q) rfl ?_
        refine y_ic (c := 0) (len := 1) (r := (0, 0, 0, 0)) (by decide +kernel) (by decide) (fun y2388 hy2388 => ?_)
        refine y_ic (c := 0) (len := 1) (r := (0, 0, 0, 0)) (by decide +kernel) (by decide) (fun y2389 hy2389 => ?_)
        refine y_cI (i := .invokestatic 176) (len := 3) (r := (3, 158, 11, 798)) (nL := 4) (k := 1) (n := 4) (hs := []) (args := [zi y2387, zi y2369, zi y2388, zi y2389]) (rest := [zi y2386, .inl (some ((a + 3)))]) (l0 := [some (zi y2387), some (zi y2369), some (zi y2388), some (zi y2389)]) (by decide +kernel) (Or.inl ⟨_, rfl⟩) rfl rfl rfl rfl (Nat.le_of_ble_eq_true rfl) rfl rfl (qI_le (by omega) (e_pk20 (d := 0) (A := 3) (B := (u2369 : Int)) (C := 0) (E := 0) (by omega) (by omega) (by omega) (by omega) (by omega) (by omega) (by omega) (by omega))) (fun y2390 qy2390 hRy2390 => ?_)
        obtain ⟨rfl, ey2390⟩ := hRy2390
        obtain ⟨z2392, hz2392, ez2392, mz2392⟩ := q_szL Q2383
        have ez2392 : z2392.toInt = (((s.1.set l (1, iq.2.1, (u2369 : Int), (u2379 : Int))).length : Nat) : Int) := ez2392
        have mz2392 : (s.1.set l (1, iq.2.1, (u2369 : Int), (u2379 : Int))).length ≤ 14 := mz2392
        refine y_cV (i := .invokevirtual 183) (len := 3) (r := (0, 68, 6, 809)) (nL := 4) (k := 0) (n := 3) (hs := []) (args := [.inl (some ((a + 3))), zi y2386, zi y2390]) (rest := []) (l0 := [some (.inl (some ((a + 3)))), some (zi y2386), some (zi y2390), none]) (by decide +kernel) (Or.inr (Or.inl ⟨_, rfl⟩)) rfl rfl rfl rfl (Nat.le_of_ble_eq_true rfl) (zO Q2383.1 Q2383.2.1.2.2.2.1 aw1004 rfl) rfl (qV_le (by omega) (q_inL (d := 0) (k := (l + 1)) (p := (3, (u2369 : Int), 0, 0)) Q2383 (by omega) (show (l + 1) ≤ (s.1.set l (1, iq.2.1, (u2369 : Int), (u2379 : Int))).length by omega) (show (s.1.set l (1, iq.2.1, (u2369 : Int), (u2379 : Int))).length < 14 by omega) ey2390 (okPt_t (by omega)))) (fun h2391 hR2391 => ?_)
        obtain ⟨Q2391, F2391⟩ := hR2391
        have g2391 : (ins_ (s.1.set l (1, iq.2.1, (u2369 : Int), (u2379 : Int))) (l + 1) (3, (u2369 : Int), 0, 0)).length = (s.1.set l (1, iq.2.1, (u2369 : Int), (u2379 : Int))).length + 1 := ins_len (by omega)
        refine y_same (i := .aload_n 0) (len := 1) (r := (0, 0, 0, 0)) (pc' := 157) (ls' := [some (.inl (some a)), some (zi xl), some (zi y2365), some (zi y2367), some (zi y2369), some (zi y2379)]) (st' := [.inl (some a)]) (by decide +kernel) (fun k q => by cases q) rfl ?_
        refine y_get (j := 23) (len := 3) (r := (7, 1, 2, 533)) (by decide +kernel) Q2391.1 Q2391.2.1.1 aw1008 rfl rfl Q2391.2.2.1.2.1 ?_
        refine y_same (i := .iload_n 1) (len := 1) (r := (0, 0, 0, 0)) (pc' := 161) (ls' := [some (.inl (some a)), some (zi xl), some (zi y2365), some (zi y2367), some (zi y2369), some (zi y2379)]) (st' := [zi xl, .inl (some ((a + 3)))]) (by decide +kernel) (fun k q => by cases q) rfl ?_
        refine y_ic (c := 2) (len := 1) (r := (0, 0, 0, 0)) (by decide +kernel) (by decide) (fun y2393 hy2393 => ?_)
        refine y_add (len := 1) (r := (0, 0, 0, 0)) (by decide +kernel) (by omega) (by omega) (fun y2394 hy2394 => ?_)
        refine y_ic (c := 3) (len := 1) (r := (0, 0, 0, 0)) (by decide +kernel) (by decide) (fun y2395 hy2395 => ?_)
        refine y_same (i := .iload 5) (len := 2) (r := (0, 0, 0, 0)) (pc' := 166) (ls' := [some (.inl (some a)), some (zi xl), some (zi y2365), some (zi y2367), some (zi y2369), some (zi y2379)]) (st' := [zi y2379, zi y2395, zi y2394, .inl (some ((a + 3)))]) (by decide +kernel) (fun k q => by cases q) rfl ?_
        refine y_ic (c := 0) (len := 1) (r := (0, 0, 0, 0)) (by decide +kernel) (by decide) (fun y2396 hy2396 => ?_)
        refine y_ic (c := 0) (len := 1) (r := (0, 0, 0, 0)) (by decide +kernel) (by decide) (fun y2397 hy2397 => ?_)
        refine y_cI (i := .invokestatic 176) (len := 3) (r := (3, 158, 11, 798)) (nL := 4) (k := 1) (n := 4) (hs := []) (args := [zi y2395, zi y2379, zi y2396, zi y2397]) (rest := [zi y2394, .inl (some ((a + 3)))]) (l0 := [some (zi y2395), some (zi y2379), some (zi y2396), some (zi y2397)]) (by decide +kernel) (Or.inl ⟨_, rfl⟩) rfl rfl rfl rfl (Nat.le_of_ble_eq_true rfl) rfl rfl (qI_le (by omega) (e_pk20 (d := 0) (A := 3) (B := (u2379 : Int)) (C := 0) (E := 0) (by omega) (by omega) (by omega) (by omega) (by omega) (by omega) (by omega) (by omega))) (fun y2398 qy2398 hRy2398 => ?_)
        obtain ⟨rfl, ey2398⟩ := hRy2398
        obtain ⟨z2400, hz2400, ez2400, mz2400⟩ := q_szL Q2391
        have ez2400 : z2400.toInt = (((ins_ (s.1.set l (1, iq.2.1, (u2369 : Int), (u2379 : Int))) (l + 1) (3, (u2369 : Int), 0, 0)).length : Nat) : Int) := ez2400
        have mz2400 : (ins_ (s.1.set l (1, iq.2.1, (u2369 : Int), (u2379 : Int))) (l + 1) (3, (u2369 : Int), 0, 0)).length ≤ 14 := mz2400
        refine y_cV (i := .invokevirtual 183) (len := 3) (r := (0, 68, 6, 809)) (nL := 4) (k := 0) (n := 3) (hs := []) (args := [.inl (some ((a + 3))), zi y2394, zi y2398]) (rest := []) (l0 := [some (.inl (some ((a + 3)))), some (zi y2394), some (zi y2398), none]) (by decide +kernel) (Or.inr (Or.inl ⟨_, rfl⟩)) rfl rfl rfl rfl (Nat.le_of_ble_eq_true rfl) (zO Q2391.1 Q2391.2.1.2.2.2.1 aw1004 rfl) rfl (qV_le (by omega) (q_inL (d := 0) (k := (l + 2)) (p := (3, (u2379 : Int), 0, 0)) Q2391 (by omega) (show (l + 2) ≤ (ins_ (s.1.set l (1, iq.2.1, (u2369 : Int), (u2379 : Int))) (l + 1) (3, (u2369 : Int), 0, 0)).length by omega) (show (ins_ (s.1.set l (1, iq.2.1, (u2369 : Int), (u2379 : Int))) (l + 1) (3, (u2369 : Int), 0, 0)).length < 14 by omega) ey2398 (okPt_t (by omega)))) (fun h2399 hR2399 => ?_)
        obtain ⟨Q2399, F2399⟩ := hR2399
        have g2399 : (ins_ (ins_ (s.1.set l (1, iq.2.1, (u2369 : Int), (u2379 : Int))) (l + 1) (3, (u2369 : Int), 0, 0)) (l + 2) (3, (u2379 : Int), 0, 0)).length = (ins_ (s.1.set l (1, iq.2.1, (u2369 : Int), (u2379 : Int))) (l + 1) (3, (u2369 : Int), 0, 0)).length + 1 := ins_len (by omega)
        refine y_ic (c := 1) (len := 1) (r := (0, 0, 0, 0)) (by decide +kernel) (by decide) (fun y2401 hy2401 => ?_)
        refine y_rI (len := 1) (r := (0, 0, 0, 0)) (nL := 6) (k := 2) (n9 := 2) (hs := []) (by decide +kernel) rfl (zfit_b (by omega) (by omega)).2 ?_
        have E1 := frF_eq fy2369
        have E2 := frF_eq fy2379
        refine Or.inl ⟨by omega, _, ?_, Q2399, fun k j hC => ((F2399 k j (by omega)).trans ((F2391 k j (by omega)).trans (F2383 k j (by omega))))⟩
        rw [E1, if_neg (by omega), if_neg (by omega), E2, if_neg (by omega)]
      ·
        refine y_iF (c := .ne) (off := 5) (len := 3) (r := (0, 0, 0, 0)) (by decide +kernel) (acmpF (c := .ne) (by show _ = _; omega)) ?_
        refine y_ic (c := 0) (len := 1) (r := (0, 0, 0, 0)) (by decide +kernel) (by decide) (fun y2402 hy2402 => ?_)
        refine y_rI (len := 1) (r := (0, 0, 0, 0)) (nL := 6) (k := 2) (n9 := 2) (hs := []) (by decide +kernel) rfl (zfit_b (by omega) (by omega)).2 ?_
        have E1 := frF_eq fy2369
        have E2 := frF_eq fy2379
        obtain rfl : u2379 = 21 := by omega
        exact Or.inr ⟨by omega, by rw [E1, if_neg (by omega), if_neg (by omega), E2, if_pos rfl], s, Q, fun k j _ => rfl⟩
    ·
      refine y_cF (c := .ne) (off := 48) (len := 3) (r := (0, 0, 0, 0)) (by decide +kernel) (acmpF (c := .ne) (by show _ = _; omega)) ?_
      refine y_same (i := .aload_n 0) (len := 1) (r := (0, 0, 0, 0)) (pc' := 53) (ls' := [some (.inl (some a)), some (zi xl), some (zi y2365), some (zi y2367), some (zi y2369), none]) (st' := [.inl (some a)]) (by decide +kernel) (fun k q => by cases q) rfl ?_
      refine y_get (j := 12) (len := 3) (r := (7, 0, 2, 530)) (by decide +kernel) Q.1 Q.2.1.1 aw1008 rfl rfl Q.2.2.1.1 ?_
      refine y_same (i := .iload_n 2) (len := 1) (r := (0, 0, 0, 0)) (pc' := 57) (ls' := [some (.inl (some a)), some (zi xl), some (zi y2365), some (zi y2367), some (zi y2369), none]) (st' := [zi y2365, .inl (some ((a + 1)))]) (by decide +kernel) (fun k q => by cases q) rfl ?_
      refine y_same (i := .iload_n 3) (len := 1) (r := (0, 0, 0, 0)) (pc' := 58) (ls' := [some (.inl (some a)), some (zi xl), some (zi y2365), some (zi y2367), some (zi y2369), none]) (st' := [zi y2367, zi y2365, .inl (some ((a + 1)))]) (by decide +kernel) (fun k q => by cases q) rfl ?_
      refine y_cV (i := .invokevirtual 72) (len := 3) (r := (0, 4, 0, 590)) (nL := 3) (k := 0) (n := 3) (hs := []) (args := [.inl (some ((a + 1))), zi y2365, zi y2367]) (rest := []) (l0 := [some (.inl (some ((a + 1)))), some (zi y2365), some (zi y2367)]) (by decide +kernel) (Or.inr (Or.inl ⟨_, rfl⟩)) rfl rfl rfl rfl (Nat.le_of_ble_eq_true rfl) (zO Q.1 Q.2.1.2.1 aw1009 rfl) rfl (qV_le (by omega) (q_daddI (d := 0) (x := iq.2.1) (y := iq.2.2.1) (by omega) (by omega) (by omega) (by omega) Q)) (fun h2403 hR2403 => ?_)
      obtain ⟨Q2403, F2403⟩ := hR2403
      refine y_same (i := .aload_n 0) (len := 1) (r := (0, 0, 0, 0)) (pc' := 62) (ls' := [some (.inl (some a)), some (zi xl), some (zi y2365), some (zi y2367), some (zi y2369), none]) (st' := [.inl (some a)]) (by decide +kernel) (fun k q => by cases q) rfl ?_
      refine y_get (j := 23) (len := 3) (r := (7, 1, 2, 533)) (by decide +kernel) Q2403.1 Q2403.2.1.1 aw1008 rfl rfl Q2403.2.2.1.2.1 ?_
      refine y_same (i := .iload_n 1) (len := 1) (r := (0, 0, 0, 0)) (pc' := 66) (ls' := [some (.inl (some a)), some (zi xl), some (zi y2365), some (zi y2367), some (zi y2369), none]) (st' := [zi xl, .inl (some ((a + 3)))]) (by decide +kernel) (fun k q => by cases q) rfl ?_
      refine y_ic (c := 0) (len := 1) (r := (0, 0, 0, 0)) (by decide +kernel) (by decide) (fun y2404 hy2404 => ?_)
      refine y_same (i := .iload_n 2) (len := 1) (r := (0, 0, 0, 0)) (pc' := 68) (ls' := [some (.inl (some a)), some (zi xl), some (zi y2365), some (zi y2367), some (zi y2369), none]) (st' := [zi y2365, zi y2404, zi xl, .inl (some ((a + 3)))]) (by decide +kernel) (fun k q => by cases q) rfl ?_
      refine y_same (i := .iload 4) (len := 2) (r := (0, 0, 0, 0)) (pc' := 70) (ls' := [some (.inl (some a)), some (zi xl), some (zi y2365), some (zi y2367), some (zi y2369), none]) (st' := [zi y2369, zi y2365, zi y2404, zi xl, .inl (some ((a + 3)))]) (by decide +kernel) (fun k q => by cases q) rfl ?_
      refine y_ic (c := 0) (len := 1) (r := (0, 0, 0, 0)) (by decide +kernel) (by decide) (fun y2405 hy2405 => ?_)
      refine y_cI (i := .invokestatic 176) (len := 3) (r := (3, 158, 11, 798)) (nL := 4) (k := 1) (n := 4) (hs := []) (args := [zi y2404, zi y2365, zi y2369, zi y2405]) (rest := [zi xl, .inl (some ((a + 3)))]) (l0 := [some (zi y2404), some (zi y2365), some (zi y2369), some (zi y2405)]) (by decide +kernel) (Or.inl ⟨_, rfl⟩) rfl rfl rfl rfl (Nat.le_of_ble_eq_true rfl) rfl rfl (qI_le (by omega) (e_pk20 (d := 0) (A := 0) (B := iq.2.1) (C := (u2369 : Int)) (E := 0) (by omega) (by omega) (by omega) (by omega) (by omega) (by omega) (by omega) (by omega))) (fun y2406 qy2406 hRy2406 => ?_)
      obtain ⟨rfl, ey2406⟩ := hRy2406
      obtain ⟨z2408, hz2408, ez2408, mz2408⟩ := q_szL Q2403
      have ez2408 : z2408.toInt = ((s.1.length : Nat) : Int) := ez2408
      have mz2408 : s.1.length ≤ 14 := mz2408
      refine y_cV (i := .invokevirtual 180) (len := 3) (r := (0, 69, 6, 805)) (nL := 3) (k := 0) (n := 3) (hs := []) (args := [.inl (some ((a + 3))), zi xl, zi y2406]) (rest := []) (l0 := [some (.inl (some ((a + 3)))), some (zi xl), some (zi y2406)]) (by decide +kernel) (Or.inr (Or.inl ⟨_, rfl⟩)) rfl rfl rfl rfl (Nat.le_of_ble_eq_true rfl) (zO Q2403.1 Q2403.2.1.2.2.2.1 aw1004 rfl) rfl (qV_le (by omega) (q_stL (d := 0) (k := l) (p := (0, iq.2.1, (u2369 : Int), 0)) Q2403 (by omega) (show l < s.1.length by omega) ey2406 (okPt_c (by omega) (by omega)))) (fun h2407 hR2407 => ?_)
      obtain ⟨Q2407, F2407⟩ := hR2407
      have g2407 : (s.1.set l (0, iq.2.1, (u2369 : Int), 0)).length = s.1.length := List.length_set
      refine y_same (i := .aload_n 0) (len := 1) (r := (0, 0, 0, 0)) (pc' := 78) (ls' := [some (.inl (some a)), some (zi xl), some (zi y2365), some (zi y2367), some (zi y2369), none]) (st' := [.inl (some a)]) (by decide +kernel) (fun k q => by cases q) rfl ?_
      refine y_get (j := 23) (len := 3) (r := (7, 1, 2, 533)) (by decide +kernel) Q2407.1 Q2407.2.1.1 aw1008 rfl rfl Q2407.2.2.1.2.1 ?_
      refine y_same (i := .iload_n 1) (len := 1) (r := (0, 0, 0, 0)) (pc' := 82) (ls' := [some (.inl (some a)), some (zi xl), some (zi y2365), some (zi y2367), some (zi y2369), none]) (st' := [zi xl, .inl (some ((a + 3)))]) (by decide +kernel) (fun k q => by cases q) rfl ?_
      refine y_ic (c := 1) (len := 1) (r := (0, 0, 0, 0)) (by decide +kernel) (by decide) (fun y2409 hy2409 => ?_)
      refine y_add (len := 1) (r := (0, 0, 0, 0)) (by decide +kernel) (by omega) (by omega) (fun y2410 hy2410 => ?_)
      refine y_ic (c := 2) (len := 1) (r := (0, 0, 0, 0)) (by decide +kernel) (by decide) (fun y2411 hy2411 => ?_)
      refine y_same (i := .iload 4) (len := 2) (r := (0, 0, 0, 0)) (pc' := 87) (ls' := [some (.inl (some a)), some (zi xl), some (zi y2365), some (zi y2367), some (zi y2369), none]) (st' := [zi y2369, zi y2411, zi y2410, .inl (some ((a + 3)))]) (by decide +kernel) (fun k q => by cases q) rfl ?_
      refine y_same (i := .iload_n 3) (len := 1) (r := (0, 0, 0, 0)) (pc' := 88) (ls' := [some (.inl (some a)), some (zi xl), some (zi y2365), some (zi y2367), some (zi y2369), none]) (st' := [zi y2367, zi y2369, zi y2411, zi y2410, .inl (some ((a + 3)))]) (by decide +kernel) (fun k q => by cases q) rfl ?_
      refine y_ic (c := 0) (len := 1) (r := (0, 0, 0, 0)) (by decide +kernel) (by decide) (fun y2412 hy2412 => ?_)
      refine y_cI (i := .invokestatic 176) (len := 3) (r := (3, 158, 11, 798)) (nL := 4) (k := 1) (n := 4) (hs := []) (args := [zi y2411, zi y2369, zi y2367, zi y2412]) (rest := [zi y2410, .inl (some ((a + 3)))]) (l0 := [some (zi y2411), some (zi y2369), some (zi y2367), some (zi y2412)]) (by decide +kernel) (Or.inl ⟨_, rfl⟩) rfl rfl rfl rfl (Nat.le_of_ble_eq_true rfl) rfl rfl (qI_le (by omega) (e_pk20 (d := 0) (A := 2) (B := (u2369 : Int)) (C := iq.2.2.1) (E := 0) (by omega) (by omega) (by omega) (by omega) (by omega) (by omega) (by omega) (by omega))) (fun y2413 qy2413 hRy2413 => ?_)
      obtain ⟨rfl, ey2413⟩ := hRy2413
      obtain ⟨z2415, hz2415, ez2415, mz2415⟩ := q_szL Q2407
      have ez2415 : z2415.toInt = (((s.1.set l (0, iq.2.1, (u2369 : Int), 0)).length : Nat) : Int) := ez2415
      have mz2415 : (s.1.set l (0, iq.2.1, (u2369 : Int), 0)).length ≤ 14 := mz2415
      refine y_cV (i := .invokevirtual 183) (len := 3) (r := (0, 68, 6, 809)) (nL := 4) (k := 0) (n := 3) (hs := []) (args := [.inl (some ((a + 3))), zi y2410, zi y2413]) (rest := []) (l0 := [some (.inl (some ((a + 3)))), some (zi y2410), some (zi y2413), none]) (by decide +kernel) (Or.inr (Or.inl ⟨_, rfl⟩)) rfl rfl rfl rfl (Nat.le_of_ble_eq_true rfl) (zO Q2407.1 Q2407.2.1.2.2.2.1 aw1004 rfl) rfl (qV_le (by omega) (q_inL (d := 0) (k := (l + 1)) (p := (2, (u2369 : Int), iq.2.2.1, 0)) Q2407 (by omega) (show (l + 1) ≤ (s.1.set l (0, iq.2.1, (u2369 : Int), 0)).length by omega) (show (s.1.set l (0, iq.2.1, (u2369 : Int), 0)).length < 14 by omega) ey2413 (okPt_l (by omega) (by omega)))) (fun h2414 hR2414 => ?_)
      obtain ⟨Q2414, F2414⟩ := hR2414
      have g2414 : (ins_ (s.1.set l (0, iq.2.1, (u2369 : Int), 0)) (l + 1) (2, (u2369 : Int), iq.2.2.1, 0)).length = (s.1.set l (0, iq.2.1, (u2369 : Int), 0)).length + 1 := ins_len (by omega)
      refine y_ic (c := 1) (len := 1) (r := (0, 0, 0, 0)) (by decide +kernel) (by decide) (fun y2416 hy2416 => ?_)
      refine y_rI (len := 1) (r := (0, 0, 0, 0)) (nL := 6) (k := 2) (n9 := 2) (hs := []) (by decide +kernel) rfl (zfit_b (by omega) (by omega)).2 ?_
      have E1 := frF_eq fy2369
      refine Or.inl ⟨by omega, _, ?_, Q2414, fun k j hC => ((F2414 k j (by omega)).trans ((F2407 k j (by omega)).trans (F2403 k j (by omega))))⟩
      rw [E1, if_neg (by omega), if_pos (by omega)]
  ·
    refine y_iF (c := .ne) (off := 5) (len := 3) (r := (0, 0, 0, 0)) (by decide +kernel) (acmpF (c := .ne) (by show _ = _; omega)) ?_
    refine y_ic (c := 0) (len := 1) (r := (0, 0, 0, 0)) (by decide +kernel) (by decide) (fun y2417 hy2417 => ?_)
    refine y_rI (len := 1) (r := (0, 0, 0, 0)) (nL := 6) (k := 2) (n9 := 2) (hs := []) (by decide +kernel) rfl (zfit_b (by omega) (by omega)).2 ?_
    have E1 := frF_eq fy2369
    obtain rfl : u2369 = 21 := by omega
    exact Or.inr ⟨by omega, by rw [E1, if_pos rfl], s, Q, fun k j _ => rfl⟩
theorem q_fol {d t a b st r l : Nat} {τ : List Nat} {h : zh} {s : sqT} {ip iq : it4} {w : Bool} {xw : Int32} (L : LQ τ h a) (Q : QC τ h b s) (ne : a + 9 ≤ b ∨ b + 9 ≤ a) (nb : ¬ big_ s) (cs : ci_ h b 4 st) (cr : ci_ h b 8 r) (cl : st ≤ 7 → ci_ h b 9 l) (hs : 3 ≤ st ∧ st ≤ 8) (kip : s.2.1[r]? = some ip) (kq : st ≤ 7 → s.1[l]? = some iq) (k7 : st = 7 → 2 ≤ iq.1) (ew0 : xw.toInt = if w = true then 1 else 0) : qI (d + 6) 98 [some (.inl (some a)), some (.inl (some b)), some (zi xw), none, none] h t (fun y h1 => (y.toInt = 1 ∧ ∃ s', nxF s st ip iq r l w = some s' ∧ QC τ h1 a s' ∧ FQ a h h1) ∨ (y.toInt = 0 ∧ nxF s st ip iq r l w = none ∧ ∃ s', QC τ h1 a s' ∧ FQ a h h1)) := by
  obtain ⟨xs, hxs, es⟩ := cs
  obtain ⟨xr, hxr, er⟩ := cr
  obtain ⟨xl, hxl, el⟩ : ∃ xl : Int32, hsl h b 9 = some (zi xl) ∧ (st ≤ 7 → xl.toInt = (l : Int)) := by
    by_cases q : st ≤ 7
    · obtain ⟨x, e1, e2⟩ := cl q
      exact ⟨x, e1, fun _ => e2⟩
    · obtain ⟨x, e1, -⟩ := g_int (i := 9) (lo := -2147483648) (hi := 2147483647) Q.1 Q.2.1.1 aw1008 (by decide) rfl
      exact ⟨x, e1, fun q9 => absurd q9 q⟩
  have hr9 := (List.getElem?_eq_some_iff.mp kip).1
  have oip := okQ_R Q.2.2.2.2 kip
  have pip := oip.1
  unfold okV at pip
  have b1 : ¬ 12 < s.1.length := fun q => nb (Or.inl q)
  have b2 : ¬ 12 < s.2.1.length := fun q => nb (Or.inr (Or.inl q))
  have b3 : ¬ 12 < s.2.2.1.length := fun q => nb (Or.inr (Or.inr q))
  refine qI_of ?_
  refine y_same (i := .aload_n 0) (len := 1) (r := (0, 0, 0, 0)) (pc' := 1) (ls' := [some (.inl (some a)), some (.inl (some b)), some (zi xw), none, none]) (st' := [.inl (some a)]) (by decide +kernel) (fun k q => by cases q) rfl ?_
  refine y_same (i := .aload_n 1) (len := 1) (r := (0, 0, 0, 0)) (pc' := 2) (ls' := [some (.inl (some a)), some (.inl (some b)), some (zi xw), none, none]) (st' := [.inl (some b), .inl (some a)]) (by decide +kernel) (fun k q => by cases q) rfl ?_
  refine y_cV (i := .invokevirtual 160) (len := 3) (r := (0, 79, 7, 783)) (nL := 2) (k := 0) (n := 2) (hs := []) (args := [.inl (some a), .inl (some b)]) (rest := []) (l0 := [some (.inl (some a)), some (.inl (some b))]) (by decide +kernel) (Or.inr (Or.inl ⟨_, rfl⟩)) rfl rfl rfl rfl (Nat.le_of_ble_eq_true rfl) (zO Q.1 L.2.1.1 aw1008 rfl) rfl (qV_le (by omega) (q_cp (d := 0) L Q ne)) (fun h2418 hR2418 => ?_)
  obtain ⟨Q2418, F2418⟩ := hR2418
  have QB := QC_fr Q Q2418.1 F2418 (by omega)
  refine y_same (i := .aload_n 1) (len := 1) (r := (0, 0, 0, 0)) (pc' := 6) (ls' := [some (.inl (some a)), some (.inl (some b)), some (zi xw), none, none]) (st' := [.inl (some b)]) (by decide +kernel) (fun k q => by cases q) rfl ?_
  refine y_get (j := 46) (len := 3) (r := (7, 8, 0, 553)) (by decide +kernel) Q2418.1 QB.2.1.1 aw1008 rfl rfl ((F2418 b 8 (by omega)).trans hxr) ?_
  refine y_same (i := .istore_n 3) (len := 1) (r := (0, 0, 0, 0)) (pc' := 10) (ls' := [some (.inl (some a)), some (.inl (some b)), some (zi xw), some (zi xr), none]) (st' := []) (by decide +kernel) (fun k q => by cases q) rfl ?_
  refine y_same (i := .aload_n 1) (len := 1) (r := (0, 0, 0, 0)) (pc' := 11) (ls' := [some (.inl (some a)), some (.inl (some b)), some (zi xw), some (zi xr), none]) (st' := [.inl (some b)]) (by decide +kernel) (fun k q => by cases q) rfl ?_
  refine y_get (j := 49) (len := 3) (r := (7, 9, 0, 554)) (by decide +kernel) Q2418.1 QB.2.1.1 aw1008 rfl rfl ((F2418 b 9 (by omega)).trans hxl) ?_
  refine y_same (i := .istore 4) (len := 2) (r := (0, 0, 0, 0)) (pc' := 16) (ls' := [some (.inl (some a)), some (.inl (some b)), some (zi xw), some (zi xr), some (zi xl)]) (st' := []) (by decide +kernel) (fun k q => by cases q) rfl ?_
  refine y_same (i := .aload_n 1) (len := 1) (r := (0, 0, 0, 0)) (pc' := 17) (ls' := [some (.inl (some a)), some (.inl (some b)), some (zi xw), some (zi xr), some (zi xl)]) (st' := [.inl (some b)]) (by decide +kernel) (fun k q => by cases q) rfl ?_
  refine y_get (j := 33) (len := 3) (r := (7, 4, 0, 542)) (by decide +kernel) Q2418.1 QB.2.1.1 aw1008 rfl rfl ((F2418 b 4 (by omega)).trans hxs) ?_
  rcases (show xs.toInt = 3 ∨ xs.toInt = 4 ∨ xs.toInt = 5 ∨ xs.toInt = 6 ∨ xs.toInt = 7 ∨ (xs.toInt < 3 ∨ 7 < xs.toInt) by omega) with q2419 | q2419 | q2419 | q2419 | q2419 | q2419
  ·
    refine y_sw (dflt := 118) (lo := 3) (hi := 7) (offs := #[36, 55, 64, 73, 81]) (off := 36) (pc' := 56) (len := 36) (r := (0, 0, 0, 0)) (by decide +kernel) (zswI (k := 0) (by omega) (by omega) (by omega) rfl) (by decide +kernel) ?_
    have kiq := kq (by omega)
    have hl9 := (List.getElem?_eq_some_iff.mp kiq).1
    have oiq := okQ_L Q.2.2.2.2 kiq
    have piq := oiq.1
    unfold okV at piq
    have el9 := el (by omega)
    refine y_same (i := .aload_n 0) (len := 1) (r := (0, 0, 0, 0)) (pc' := 57) (ls' := [some (.inl (some a)), some (.inl (some b)), some (zi xw), some (zi xr), some (zi xl)]) (st' := [.inl (some a)]) (by decide +kernel) (fun k q => by cases q) rfl ?_
    refine y_get (j := 27) (len := 3) (r := (7, 2, 2, 536)) (by decide +kernel) Q2418.1 Q2418.2.1.1 aw1008 rfl rfl Q2418.2.2.1.2.2.1 ?_
    refine y_same (i := .iload_n 3) (len := 1) (r := (0, 0, 0, 0)) (pc' := 61) (ls' := [some (.inl (some a)), some (.inl (some b)), some (zi xw), some (zi xr), some (zi xl)]) (st' := [zi xr, .inl (some ((a + 5)))]) (by decide +kernel) (fun k q => by cases q) rfl ?_
    obtain ⟨z2421, hz2421, ez2421, mz2421⟩ := q_szR Q2418
    have ez2421 : z2421.toInt = ((s.2.1.length : Nat) : Int) := ez2421
    have mz2421 : s.2.1.length ≤ 14 := mz2421
    refine y_cV (i := .invokevirtual 85) (len := 3) (r := (0, 70, 6, 613)) (nL := 3) (k := 0) (n := 2) (hs := []) (args := [.inl (some ((a + 5))), zi xr]) (rest := []) (l0 := [some (.inl (some ((a + 5)))), some (zi xr), none]) (by decide +kernel) (Or.inr (Or.inl ⟨_, rfl⟩)) rfl rfl rfl rfl (Nat.le_of_ble_eq_true rfl) (zO Q2418.1 Q2418.2.1.2.2.2.2.2.1 aw1004 rfl) rfl (qV_le (by omega) (q_rmR (d := 0) (k := r) Q2418 (by omega) (show r < s.2.1.length by omega))) (fun h2420 hR2420 => ?_)
    obtain ⟨Q2420, F2420⟩ := hR2420
    have Q2420_b := QC_fr QB Q2420.1 F2420 (by omega)
    refine y_same (i := .aload_n 0) (len := 1) (r := (0, 0, 0, 0)) (pc' := 65) (ls' := [some (.inl (some a)), some (.inl (some b)), some (zi xw), some (zi xr), some (zi xl)]) (st' := [.inl (some a)]) (by decide +kernel) (fun k q => by cases q) rfl ?_
    refine y_get (j := 23) (len := 3) (r := (7, 1, 2, 533)) (by decide +kernel) Q2420.1 Q2420.2.1.1 aw1008 rfl rfl Q2420.2.2.1.2.1 ?_
    refine y_same (i := .iload 4) (len := 2) (r := (0, 0, 0, 0)) (pc' := 70) (ls' := [some (.inl (some a)), some (.inl (some b)), some (zi xw), some (zi xr), some (zi xl)]) (st' := [zi xl, .inl (some ((a + 3)))]) (by decide +kernel) (fun k q => by cases q) rfl ?_
    obtain ⟨z2423, hz2423, ez2423, mz2423⟩ := q_szL Q2420
    have ez2423 : z2423.toInt = ((s.1.length : Nat) : Int) := ez2423
    have mz2423 : s.1.length ≤ 14 := mz2423
    refine y_cV (i := .invokevirtual 85) (len := 3) (r := (0, 70, 6, 613)) (nL := 3) (k := 0) (n := 2) (hs := []) (args := [.inl (some ((a + 3))), zi xl]) (rest := []) (l0 := [some (.inl (some ((a + 3)))), some (zi xl), none]) (by decide +kernel) (Or.inr (Or.inl ⟨_, rfl⟩)) rfl rfl rfl rfl (Nat.le_of_ble_eq_true rfl) (zO Q2420.1 Q2420.2.1.2.2.2.1 aw1004 rfl) rfl (qV_le (by omega) (q_rmL (d := 0) (k := l) Q2420 (by omega) (show l < s.1.length by omega))) (fun h2422 hR2422 => ?_)
    obtain ⟨Q2422, F2422⟩ := hR2422
    have Q2422_b := QC_fr Q2420_b Q2422.1 F2422 (by omega)
    refine y_ic (c := 1) (len := 1) (r := (0, 0, 0, 0)) (by decide +kernel) (by decide) (fun y2424 hy2424 => ?_)
    refine y_rI (len := 1) (r := (0, 0, 0, 0)) (nL := 5) (k := 2) (n9 := 3) (hs := []) (by decide +kernel) rfl (zfit_b (by omega) (by omega)).2 ?_
    obtain rfl : st = 3 := by omega
    exact Or.inl ⟨by omega, _, rfl, Q2422, fun k j hC => ((F2422 k j (by omega)).trans ((F2420 k j (by omega)).trans (F2418 k j (by omega))))⟩
  ·
    refine y_sw (dflt := 118) (lo := 3) (hi := 7) (offs := #[36, 55, 64, 73, 81]) (off := 55) (pc' := 75) (len := 36) (r := (0, 0, 0, 0)) (by decide +kernel) (zswI (k := 1) (by omega) (by omega) (by omega) rfl) (by decide +kernel) ?_
    have kiq := kq (by omega)
    have hl9 := (List.getElem?_eq_some_iff.mp kiq).1
    have oiq := okQ_L Q.2.2.2.2 kiq
    have piq := oiq.1
    unfold okV at piq
    have el9 := el (by omega)
    refine y_same (i := .aload_n 0) (len := 1) (r := (0, 0, 0, 0)) (pc' := 76) (ls' := [some (.inl (some a)), some (.inl (some b)), some (zi xw), some (zi xr), some (zi xl)]) (st' := [.inl (some a)]) (by decide +kernel) (fun k q => by cases q) rfl ?_
    refine y_same (i := .iload_n 3) (len := 1) (r := (0, 0, 0, 0)) (pc' := 77) (ls' := [some (.inl (some a)), some (.inl (some b)), some (zi xw), some (zi xr), some (zi xl)]) (st' := [zi xr, .inl (some a)]) (by decide +kernel) (fun k q => by cases q) rfl ?_
    refine y_same (i := .iload 4) (len := 2) (r := (0, 0, 0, 0)) (pc' := 79) (ls' := [some (.inl (some a)), some (.inl (some b)), some (zi xw), some (zi xr), some (zi xl)]) (st' := [zi xl, zi xr, .inl (some a)]) (by decide +kernel) (fun k q => by cases q) rfl ?_
    refine y_cV (i := .invokevirtual 163) (len := 3) (r := (0, 99, 7, 794)) (nL := 3) (k := 0) (n := 3) (hs := []) (args := [.inl (some a), zi xr, zi xl]) (rest := []) (l0 := [some (.inl (some a)), some (zi xr), some (zi xl)]) (by decide +kernel) (Or.inr (Or.inl ⟨_, rfl⟩)) rfl rfl rfl rfl (Nat.le_of_ble_eq_true rfl) (zO Q2418.1 Q2418.2.1.1 aw1008 rfl) rfl (qV_le (by omega) (q_meet (d := 0) (r := r) (l := l) Q2418 nb (by omega) kip (by omega) kiq)) (fun h2425 hR2425 => ?_)
    obtain ⟨Q2425, F2425⟩ := hR2425
    have Q2425_b := QC_fr QB Q2425.1 F2425 (by omega)
    refine y_ic (c := 1) (len := 1) (r := (0, 0, 0, 0)) (by decide +kernel) (by decide) (fun y2426 hy2426 => ?_)
    refine y_rI (len := 1) (r := (0, 0, 0, 0)) (nL := 5) (k := 2) (n9 := 3) (hs := []) (by decide +kernel) rfl (zfit_b (by omega) (by omega)).2 ?_
    obtain rfl : st = 4 := by omega
    exact Or.inl ⟨by omega, _, rfl, Q2425, fun k j hC => ((F2425 k j (by omega)).trans (F2418 k j (by omega)))⟩
  ·
    refine y_sw (dflt := 118) (lo := 3) (hi := 7) (offs := #[36, 55, 64, 73, 81]) (off := 64) (pc' := 84) (len := 36) (r := (0, 0, 0, 0)) (by decide +kernel) (zswI (k := 2) (by omega) (by omega) (by omega) rfl) (by decide +kernel) ?_
    have kiq := kq (by omega)
    have hl9 := (List.getElem?_eq_some_iff.mp kiq).1
    have oiq := okQ_L Q.2.2.2.2 kiq
    have piq := oiq.1
    unfold okV at piq
    have el9 := el (by omega)
    refine y_same (i := .aload_n 0) (len := 1) (r := (0, 0, 0, 0)) (pc' := 85) (ls' := [some (.inl (some a)), some (.inl (some b)), some (zi xw), some (zi xr), some (zi xl)]) (st' := [.inl (some a)]) (by decide +kernel) (fun k q => by cases q) rfl ?_
    refine y_same (i := .iload_n 3) (len := 1) (r := (0, 0, 0, 0)) (pc' := 86) (ls' := [some (.inl (some a)), some (.inl (some b)), some (zi xw), some (zi xr), some (zi xl)]) (st' := [zi xr, .inl (some a)]) (by decide +kernel) (fun k q => by cases q) rfl ?_
    refine y_same (i := .iload 4) (len := 2) (r := (0, 0, 0, 0)) (pc' := 88) (ls' := [some (.inl (some a)), some (.inl (some b)), some (zi xw), some (zi xr), some (zi xl)]) (st' := [zi xl, zi xr, .inl (some a)]) (by decide +kernel) (fun k q => by cases q) rfl ?_
    refine y_cV (i := .invokevirtual 166) (len := 3) (r := (0, 100, 7, 801)) (nL := 3) (k := 0) (n := 3) (hs := []) (args := [.inl (some a), zi xr, zi xl]) (rest := []) (l0 := [some (.inl (some a)), some (zi xr), some (zi xl)]) (by decide +kernel) (Or.inr (Or.inl ⟨_, rfl⟩)) rfl rfl rfl rfl (Nat.le_of_ble_eq_true rfl) (zO Q2418.1 Q2418.2.1.1 aw1008 rfl) rfl (qV_le (by omega) (q_fold (d := 0) (r := r) (l := l) Q2418 nb (by omega) kip (by omega) kiq)) (fun h2427 hR2427 => ?_)
    obtain ⟨Q2427, F2427⟩ := hR2427
    have Q2427_b := QC_fr QB Q2427.1 F2427 (by omega)
    refine y_ic (c := 1) (len := 1) (r := (0, 0, 0, 0)) (by decide +kernel) (by decide) (fun y2428 hy2428 => ?_)
    refine y_rI (len := 1) (r := (0, 0, 0, 0)) (nL := 5) (k := 2) (n9 := 3) (hs := []) (by decide +kernel) rfl (zfit_b (by omega) (by omega)).2 ?_
    obtain rfl : st = 5 := by omega
    exact Or.inl ⟨by omega, _, rfl, Q2427, fun k j hC => ((F2427 k j (by omega)).trans (F2418 k j (by omega)))⟩
  ·
    refine y_sw (dflt := 118) (lo := 3) (hi := 7) (offs := #[36, 55, 64, 73, 81]) (off := 73) (pc' := 93) (len := 36) (r := (0, 0, 0, 0)) (by decide +kernel) (zswI (k := 3) (by omega) (by omega) (by omega) rfl) (by decide +kernel) ?_
    have kiq := kq (by omega)
    have hl9 := (List.getElem?_eq_some_iff.mp kiq).1
    have oiq := okQ_L Q.2.2.2.2 kiq
    have piq := oiq.1
    unfold okV at piq
    have el9 := el (by omega)
    refine y_same (i := .aload_n 0) (len := 1) (r := (0, 0, 0, 0)) (pc' := 94) (ls' := [some (.inl (some a)), some (.inl (some b)), some (zi xw), some (zi xr), some (zi xl)]) (st' := [.inl (some a)]) (by decide +kernel) (fun k q => by cases q) rfl ?_
    refine y_same (i := .iload_n 3) (len := 1) (r := (0, 0, 0, 0)) (pc' := 95) (ls' := [some (.inl (some a)), some (.inl (some b)), some (zi xw), some (zi xr), some (zi xl)]) (st' := [zi xr, .inl (some a)]) (by decide +kernel) (fun k q => by cases q) rfl ?_
    refine y_same (i := .iload_n 2) (len := 1) (r := (0, 0, 0, 0)) (pc' := 96) (ls' := [some (.inl (some a)), some (.inl (some b)), some (zi xw), some (zi xr), some (zi xl)]) (st' := [zi xw, zi xr, .inl (some a)]) (by decide +kernel) (fun k q => by cases q) rfl ?_
    refine y_cV (i := .invokevirtual 169) (len := 3) (r := (0, 101, 7, 810)) (nL := 5) (k := 0) (n := 3) (hs := []) (args := [.inl (some a), zi xr, zi xw]) (rest := []) (l0 := [some (.inl (some a)), some (zi xr), some (zi xw), none, none]) (by decide +kernel) (Or.inr (Or.inl ⟨_, rfl⟩)) rfl rfl rfl rfl (Nat.le_of_ble_eq_true rfl) (zO Q2418.1 Q2418.2.1.1 aw1008 rfl) rfl (qV_le (by omega) (q_split (d := 0) (r := r) (xw := xw) Q2418 (by omega) kip)) (fun h2429 hR2429 => ?_)
    obtain ⟨Q2429, F2429⟩ := hR2429
    have Q2429_b := QC_fr QB Q2429.1 F2429 (by omega)
    refine y_ic (c := 1) (len := 1) (r := (0, 0, 0, 0)) (by decide +kernel) (by decide) (fun y2430 hy2430 => ?_)
    refine y_rI (len := 1) (r := (0, 0, 0, 0)) (nL := 5) (k := 2) (n9 := 3) (hs := []) (by decide +kernel) rfl (zfit_b (by omega) (by omega)).2 ?_
    obtain rfl : st = 6 := by omega
    refine Or.inl ⟨by omega, _, ?_, Q2429, fun k j hC => ((F2429 k j (by omega)).trans (F2418 k j (by omega)))⟩
    show (if w = true then _ else _) = _
    cases w with
    | true => rw [if_pos rfl, if_pos (show xw.toInt ≠ 0 by have : xw.toInt = 1 := ew0; omega)]
    | false => rw [if_neg (by decide), if_neg (show ¬ xw.toInt ≠ 0 by have : xw.toInt = 0 := ew0; omega)]
  ·
    refine y_sw (dflt := 118) (lo := 3) (hi := 7) (offs := #[36, 55, 64, 73, 81]) (off := 81) (pc' := 101) (len := 36) (r := (0, 0, 0, 0)) (by decide +kernel) (zswI (k := 4) (by omega) (by omega) (by omega) rfl) (by decide +kernel) ?_
    have kiq := kq (by omega)
    have hl9 := (List.getElem?_eq_some_iff.mp kiq).1
    have oiq := okQ_L Q.2.2.2.2 kiq
    have piq := oiq.1
    unfold okV at piq
    have el9 := el (by omega)
    refine y_same (i := .iload_n 2) (len := 1) (r := (0, 0, 0, 0)) (pc' := 102) (ls' := [some (.inl (some a)), some (.inl (some b)), some (zi xw), some (zi xr), some (zi xl)]) (st' := [zi xw]) (by decide +kernel) (fun k q => by cases q) rfl ?_
    rcases Decidable.em (xw.toInt = 0) with q2431 | q2431
    ·
      refine y_iT (c := .eq) (off := 10) (pc' := 112) (len := 3) (r := (0, 0, 0, 0)) (by decide +kernel) (acmpT (c := .eq) (by show _ = _; omega)) (by decide +kernel) ?_
      refine y_same (i := .aload_n 0) (len := 1) (r := (0, 0, 0, 0)) (pc' := 113) (ls' := [some (.inl (some a)), some (.inl (some b)), some (zi xw), some (zi xr), some (zi xl)]) (st' := [.inl (some a)]) (by decide +kernel) (fun k q => by cases q) rfl ?_
      refine y_same (i := .aload_n 0) (len := 1) (r := (0, 0, 0, 0)) (pc' := 114) (ls' := [some (.inl (some a)), some (.inl (some b)), some (zi xw), some (zi xr), some (zi xl)]) (st' := [.inl (some a), .inl (some a)]) (by decide +kernel) (fun k q => by cases q) rfl ?_
      refine y_get (j := 23) (len := 3) (r := (7, 1, 2, 533)) (by decide +kernel) Q2418.1 Q2418.2.1.1 aw1008 rfl rfl Q2418.2.2.1.2.1 ?_
      refine y_same (i := .iload 4) (len := 2) (r := (0, 0, 0, 0)) (pc' := 119) (ls' := [some (.inl (some a)), some (.inl (some b)), some (zi xw), some (zi xr), some (zi xl)]) (st' := [zi xl, .inl (some ((a + 3))), .inl (some a)]) (by decide +kernel) (fun k q => by cases q) rfl ?_
      refine y_ic (c := 1) (len := 1) (r := (0, 0, 0, 0)) (by decide +kernel) (by decide) (fun y2432 hy2432 => ?_)
      refine y_cI (i := .invokevirtual 68) (len := 3) (r := (0, 64, 6, 586)) (nL := 3) (k := 1) (n := 3) (hs := []) (args := [.inl (some ((a + 3))), zi xl, zi y2432]) (rest := [.inl (some a)]) (l0 := [some (.inl (some ((a + 3)))), some (zi xl), some (zi y2432)]) (by decide +kernel) (Or.inr (Or.inl ⟨_, rfl⟩)) rfl rfl rfl rfl (Nat.le_of_ble_eq_true rfl) (zO Q2418.1 Q2418.2.1.2.2.2.1 aw1004 rfl) rfl (qI_le (by omega) (q_tlL (d := 0) (k := l) (w := 1) Q2418 (by omega) kiq (by omega) (by omega))) (fun y2433 qy2433 hRy2433 => ?_)
      obtain ⟨rfl, ey2433⟩ := hRy2433
      have ey2433 : y2433.toInt = iq.2.1 := ey2433
      refine y_same (i := .aload_n 0) (len := 1) (r := (0, 0, 0, 0)) (pc' := 124) (ls' := [some (.inl (some a)), some (.inl (some b)), some (zi xw), some (zi xr), some (zi xl)]) (st' := [.inl (some a), zi y2433, .inl (some a)]) (by decide +kernel) (fun k q => by cases q) rfl ?_
      refine y_get (j := 23) (len := 3) (r := (7, 1, 2, 533)) (by decide +kernel) Q2418.1 Q2418.2.1.1 aw1008 rfl rfl Q2418.2.2.1.2.1 ?_
      refine y_same (i := .iload 4) (len := 2) (r := (0, 0, 0, 0)) (pc' := 129) (ls' := [some (.inl (some a)), some (.inl (some b)), some (zi xw), some (zi xr), some (zi xl)]) (st' := [zi xl, .inl (some ((a + 3))), zi y2433, .inl (some a)]) (by decide +kernel) (fun k q => by cases q) rfl ?_
      refine y_ic (c := 2) (len := 1) (r := (0, 0, 0, 0)) (by decide +kernel) (by decide) (fun y2434 hy2434 => ?_)
      refine y_cI (i := .invokevirtual 68) (len := 3) (r := (0, 64, 6, 586)) (nL := 3) (k := 1) (n := 3) (hs := []) (args := [.inl (some ((a + 3))), zi xl, zi y2434]) (rest := [zi y2433, .inl (some a)]) (l0 := [some (.inl (some ((a + 3)))), some (zi xl), some (zi y2434)]) (by decide +kernel) (Or.inr (Or.inl ⟨_, rfl⟩)) rfl rfl rfl rfl (Nat.le_of_ble_eq_true rfl) (zO Q2418.1 Q2418.2.1.2.2.2.1 aw1004 rfl) rfl (qI_le (by omega) (q_tlL (d := 0) (k := l) (w := 2) Q2418 (by omega) kiq (by omega) (by omega))) (fun y2435 qy2435 hRy2435 => ?_)
      obtain ⟨rfl, ey2435⟩ := hRy2435
      have ey2435 : y2435.toInt = iq.2.2.1 := ey2435
      refine y_cV (i := .invokevirtual 88) (len := 3) (r := (0, 80, 7, 617)) (nL := 5) (k := 0) (n := 3) (hs := []) (args := [.inl (some a), zi y2433, zi y2435]) (rest := []) (l0 := [some (.inl (some a)), some (zi y2433), some (zi y2435), none, none]) (by decide +kernel) (Or.inr (Or.inl ⟨_, rfl⟩)) rfl rfl rfl rfl (Nat.le_of_ble_eq_true rfl) (zO Q2418.1 Q2418.2.1.1 aw1008 rfl) rfl (qV_le (by omega) (q_mk (d := 0) (x := iq.2.1) (y := iq.2.2.1) Q2418 (by omega) (by omega) (by omega) (by omega))) (fun h2436 hR2436 => ?_)
      obtain ⟨Q2436, F2436⟩ := hR2436
      have Q2436_b := QC_fr QB Q2436.1 F2436 (by omega)
      refine y_ic (c := 1) (len := 1) (r := (0, 0, 0, 0)) (by decide +kernel) (by decide) (fun y2437 hy2437 => ?_)
      refine y_rI (len := 1) (r := (0, 0, 0, 0)) (nL := 5) (k := 2) (n9 := 3) (hs := []) (by decide +kernel) rfl (zfit_b (by omega) (by omega)).2 ?_
      obtain rfl : st = 7 := by omega
      have ew : w = false := by
        cases w with
        | false => rfl
        | true => exact absurd (show xw.toInt = 1 from ew0) (by omega)
      subst ew
      exact Or.inl ⟨by omega, _, nx7_f, Q2436, fun k j hC => ((F2436 k j (by omega)).trans (F2418 k j (by omega)))⟩
    ·
      refine y_iF (c := .eq) (off := 10) (len := 3) (r := (0, 0, 0, 0)) (by decide +kernel) (acmpF (c := .eq) (by show ¬ (_ = _); omega)) ?_
      refine y_same (i := .aload_n 0) (len := 1) (r := (0, 0, 0, 0)) (pc' := 106) (ls' := [some (.inl (some a)), some (.inl (some b)), some (zi xw), some (zi xr), some (zi xl)]) (st' := [.inl (some a)]) (by decide +kernel) (fun k q => by cases q) rfl ?_
      refine y_same (i := .iload 4) (len := 2) (r := (0, 0, 0, 0)) (pc' := 108) (ls' := [some (.inl (some a)), some (.inl (some b)), some (zi xw), some (zi xr), some (zi xl)]) (st' := [zi xl, .inl (some a)]) (by decide +kernel) (fun k q => by cases q) rfl ?_
      refine y_cI (i := .invokevirtual 173) (len := 3) (r := (0, 102, 7, 814)) (nL := 6) (k := 2) (n := 2) (hs := []) (args := [.inl (some a), zi xl]) (rest := []) (l0 := [some (.inl (some a)), some (zi xl), none, none, none, none]) (by decide +kernel) (Or.inr (Or.inl ⟨_, rfl⟩)) rfl rfl rfl rfl (Nat.le_of_ble_eq_true rfl) (zO Q2418.1 Q2418.2.1.1 aw1008 rfl) rfl (qI_le (by omega) (q_unf (d := 0) (l := l) Q2418 nb (by omega) kiq (by omega))) (fun y2438 h2438 hRy2438 => ?_)
      rcases hRy2438 with ⟨v2438, s2438, n2438, Q2438, F2438⟩ | ⟨v2438, n2438, s2438, Q2438, F2438⟩
      ·
        have Q2438_b := QC_fr QB Q2438.1 F2438 (by omega)
        refine y_rI (len := 1) (r := (0, 0, 0, 0)) (nL := 5) (k := 2) (n9 := 3) (hs := []) (by decide +kernel) rfl (zfit_b (by omega) (by omega)).2 ?_
        obtain rfl : st = 7 := by omega
        have ew : w = true := by
          cases w with
          | true => rfl
          | false => exact absurd (show xw.toInt = 0 from ew0) (by omega)
        subst ew
        exact Or.inl ⟨by omega, s2438, nx7_t.trans n2438, Q2438, fun k j hC => ((F2438 k j (by omega)).trans (F2418 k j (by omega)))⟩
      ·
        have Q2438_b := QC_fr QB Q2438.1 F2438 (by omega)
        refine y_rI (len := 1) (r := (0, 0, 0, 0)) (nL := 5) (k := 2) (n9 := 3) (hs := []) (by decide +kernel) rfl (zfit_b (by omega) (by omega)).2 ?_
        obtain rfl : st = 7 := by omega
        have ew : w = true := by
          cases w with
          | true => rfl
          | false => exact absurd (show xw.toInt = 0 from ew0) (by omega)
        subst ew
        exact Or.inr ⟨by omega, nx7_t.trans n2438, s2438, Q2438, fun k j hC => ((F2438 k j (by omega)).trans (F2418 k j (by omega)))⟩
  ·
    refine y_sw (dflt := 118) (lo := 3) (hi := 7) (offs := #[36, 55, 64, 73, 81]) (off := 118) (pc' := 138) (len := 36) (r := (0, 0, 0, 0)) (by decide +kernel) (zswO (by omega)) (by decide +kernel) ?_
    refine y_same (i := .aload_n 0) (len := 1) (r := (0, 0, 0, 0)) (pc' := 139) (ls' := [some (.inl (some a)), some (.inl (some b)), some (zi xw), some (zi xr), some (zi xl)]) (st' := [.inl (some a)]) (by decide +kernel) (fun k q => by cases q) rfl ?_
    refine y_get (j := 30) (len := 3) (r := (7, 3, 2, 539)) (by decide +kernel) Q2418.1 Q2418.2.1.1 aw1008 rfl rfl Q2418.2.2.1.2.2.2.1 ?_
    refine y_ic (c := 1) (len := 1) (r := (0, 0, 0, 0)) (by decide +kernel) (by decide) (fun y2439 hy2439 => ?_)
    refine y_same (i := .aload_n 0) (len := 1) (r := (0, 0, 0, 0)) (pc' := 144) (ls' := [some (.inl (some a)), some (.inl (some b)), some (zi xw), some (zi xr), some (zi xl)]) (st' := [.inl (some a), zi y2439, .inl (some ((a + 7)))]) (by decide +kernel) (fun k q => by cases q) rfl ?_
    refine y_get (j := 27) (len := 3) (r := (7, 2, 2, 536)) (by decide +kernel) Q2418.1 Q2418.2.1.1 aw1008 rfl rfl Q2418.2.2.1.2.2.1 ?_
    refine y_same (i := .iload_n 3) (len := 1) (r := (0, 0, 0, 0)) (pc' := 148) (ls' := [some (.inl (some a)), some (.inl (some b)), some (zi xw), some (zi xr), some (zi xl)]) (st' := [zi xr, .inl (some ((a + 5))), zi y2439, .inl (some ((a + 7)))]) (by decide +kernel) (fun k q => by cases q) rfl ?_
    refine y_ic (c := 1) (len := 1) (r := (0, 0, 0, 0)) (by decide +kernel) (by decide) (fun y2440 hy2440 => ?_)
    refine y_cI (i := .invokevirtual 68) (len := 3) (r := (0, 64, 6, 586)) (nL := 3) (k := 1) (n := 3) (hs := []) (args := [.inl (some ((a + 5))), zi xr, zi y2440]) (rest := [zi y2439, .inl (some ((a + 7)))]) (l0 := [some (.inl (some ((a + 5)))), some (zi xr), some (zi y2440)]) (by decide +kernel) (Or.inr (Or.inl ⟨_, rfl⟩)) rfl rfl rfl rfl (Nat.le_of_ble_eq_true rfl) (zO Q2418.1 Q2418.2.1.2.2.2.2.2.1 aw1004 rfl) rfl (qI_le (by omega) (q_tlR (d := 0) (k := r) (w := 1) Q2418 (by omega) kip (by omega) (by omega))) (fun y2441 qy2441 hRy2441 => ?_)
    obtain ⟨rfl, ey2441⟩ := hRy2441
    have ey2441 : y2441.toInt = ip.2.1 := ey2441
    refine y_same (i := .aload_n 0) (len := 1) (r := (0, 0, 0, 0)) (pc' := 153) (ls' := [some (.inl (some a)), some (.inl (some b)), some (zi xw), some (zi xr), some (zi xl)]) (st' := [.inl (some a), zi y2441, zi y2439, .inl (some ((a + 7)))]) (by decide +kernel) (fun k q => by cases q) rfl ?_
    refine y_get (j := 27) (len := 3) (r := (7, 2, 2, 536)) (by decide +kernel) Q2418.1 Q2418.2.1.1 aw1008 rfl rfl Q2418.2.2.1.2.2.1 ?_
    refine y_same (i := .iload_n 3) (len := 1) (r := (0, 0, 0, 0)) (pc' := 157) (ls' := [some (.inl (some a)), some (.inl (some b)), some (zi xw), some (zi xr), some (zi xl)]) (st' := [zi xr, .inl (some ((a + 5))), zi y2441, zi y2439, .inl (some ((a + 7)))]) (by decide +kernel) (fun k q => by cases q) rfl ?_
    refine y_ic (c := 2) (len := 1) (r := (0, 0, 0, 0)) (by decide +kernel) (by decide) (fun y2442 hy2442 => ?_)
    refine y_cI (i := .invokevirtual 68) (len := 3) (r := (0, 64, 6, 586)) (nL := 3) (k := 1) (n := 3) (hs := []) (args := [.inl (some ((a + 5))), zi xr, zi y2442]) (rest := [zi y2441, zi y2439, .inl (some ((a + 7)))]) (l0 := [some (.inl (some ((a + 5)))), some (zi xr), some (zi y2442)]) (by decide +kernel) (Or.inr (Or.inl ⟨_, rfl⟩)) rfl rfl rfl rfl (Nat.le_of_ble_eq_true rfl) (zO Q2418.1 Q2418.2.1.2.2.2.2.2.1 aw1004 rfl) rfl (qI_le (by omega) (q_tlR (d := 0) (k := r) (w := 2) Q2418 (by omega) kip (by omega) (by omega))) (fun y2443 qy2443 hRy2443 => ?_)
    obtain ⟨rfl, ey2443⟩ := hRy2443
    have ey2443 : y2443.toInt = ip.2.2.1 := ey2443
    refine y_ic (c := 0) (len := 1) (r := (0, 0, 0, 0)) (by decide +kernel) (by decide) (fun y2444 hy2444 => ?_)
    refine y_cI (i := .invokestatic 176) (len := 3) (r := (3, 158, 11, 798)) (nL := 4) (k := 1) (n := 4) (hs := []) (args := [zi y2439, zi y2441, zi y2443, zi y2444]) (rest := [.inl (some ((a + 7)))]) (l0 := [some (zi y2439), some (zi y2441), some (zi y2443), some (zi y2444)]) (by decide +kernel) (Or.inl ⟨_, rfl⟩) rfl rfl rfl rfl (Nat.le_of_ble_eq_true rfl) rfl rfl (qI_le (by omega) (e_pk20 (d := 0) (A := 1) (B := ip.2.1) (C := ip.2.2.1) (E := 0) (by omega) (by omega) (by omega) (by omega) (by omega) (by omega) (by omega) (by omega))) (fun y2445 qy2445 hRy2445 => ?_)
    obtain ⟨rfl, ey2445⟩ := hRy2445
    obtain ⟨z2447, hz2447, ez2447, mz2447⟩ := q_szC Q2418
    have ez2447 : z2447.toInt = ((s.2.2.1.length : Nat) : Int) := ez2447
    have mz2447 : s.2.2.1.length ≤ 14 := mz2447
    refine y_cV (i := .invokevirtual 80) (len := 3) (r := (0, 67, 6, 601)) (nL := 2) (k := 0) (n := 2) (hs := []) (args := [.inl (some ((a + 7))), zi y2445]) (rest := []) (l0 := [some (.inl (some ((a + 7)))), some (zi y2445)]) (by decide +kernel) (Or.inr (Or.inl ⟨_, rfl⟩)) rfl rfl rfl rfl (Nat.le_of_ble_eq_true rfl) (zO Q2418.1 Q2418.2.1.2.2.2.2.2.2.2.1 aw1004 rfl) rfl (qV_le (by omega) (q_adC (d := 0) (p := (1, ip.2.1, ip.2.2.1, 0)) Q2418 (show s.2.2.1.length < 14 by omega) ey2445 (okCl_s (by omega) (by omega)))) (fun h2446 hR2446 => ?_)
    obtain ⟨Q2446, F2446⟩ := hR2446
    have g2446 : (s.2.2.1 ++ [(1, ip.2.1, ip.2.2.1, 0)]).length = s.2.2.1.length + 1 := List.length_append
    have Q2446_b := QC_fr QB Q2446.1 F2446 (by omega)
    refine y_same (i := .aload_n 0) (len := 1) (r := (0, 0, 0, 0)) (pc' := 169) (ls' := [some (.inl (some a)), some (.inl (some b)), some (zi xw), some (zi xr), some (zi xl)]) (st' := [.inl (some a)]) (by decide +kernel) (fun k q => by cases q) rfl ?_
    refine y_get (j := 27) (len := 3) (r := (7, 2, 2, 536)) (by decide +kernel) Q2446.1 Q2446.2.1.1 aw1008 rfl rfl Q2446.2.2.1.2.2.1 ?_
    refine y_same (i := .iload_n 3) (len := 1) (r := (0, 0, 0, 0)) (pc' := 173) (ls' := [some (.inl (some a)), some (.inl (some b)), some (zi xw), some (zi xr), some (zi xl)]) (st' := [zi xr, .inl (some ((a + 5)))]) (by decide +kernel) (fun k q => by cases q) rfl ?_
    obtain ⟨z2449, hz2449, ez2449, mz2449⟩ := q_szR Q2446
    have ez2449 : z2449.toInt = ((s.2.1.length : Nat) : Int) := ez2449
    have mz2449 : s.2.1.length ≤ 14 := mz2449
    refine y_cV (i := .invokevirtual 85) (len := 3) (r := (0, 70, 6, 613)) (nL := 3) (k := 0) (n := 2) (hs := []) (args := [.inl (some ((a + 5))), zi xr]) (rest := []) (l0 := [some (.inl (some ((a + 5)))), some (zi xr), none]) (by decide +kernel) (Or.inr (Or.inl ⟨_, rfl⟩)) rfl rfl rfl rfl (Nat.le_of_ble_eq_true rfl) (zO Q2446.1 Q2446.2.1.2.2.2.2.2.1 aw1004 rfl) rfl (qV_le (by omega) (q_rmR (d := 0) (k := r) Q2446 (by omega) (show r < s.2.1.length by omega))) (fun h2448 hR2448 => ?_)
    obtain ⟨Q2448, F2448⟩ := hR2448
    have Q2448_b := QC_fr Q2446_b Q2448.1 F2448 (by omega)
    refine y_ic (c := 1) (len := 1) (r := (0, 0, 0, 0)) (by decide +kernel) (by decide) (fun y2450 hy2450 => ?_)
    refine y_rI (len := 1) (r := (0, 0, 0, 0)) (nL := 5) (k := 2) (n9 := 3) (hs := []) (by decide +kernel) rfl (zfit_b (by omega) (by omega)).2 ?_
    obtain rfl : st = 8 := by omega
    exact Or.inl ⟨by omega, _, rfl, Q2448, fun k j hC => ((F2448 k j (by omega)).trans ((F2446 k j (by omega)).trans (F2418 k j (by omega))))⟩
