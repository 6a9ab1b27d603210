/-! rows of a sequent: renamed -/
theorem shm {v x c y z : Int32} {n s : Nat} (ev : v.toInt = (n : Int)) (hn : n < 2 ^ 31) (ex : x.toInt = (s : Int)) (hs : s < 32) (hc : c.toInt = 31) (ey : y = v >>> (x &&& 31)) (ez : z = y &&& c) : z.toInt = ((n >>> s % 32 : Nat) : Int) := by
  rw [ez, ey, nI_of_i ev, nI_of_i ex, ofI (w := 31) hc rfl, sshr_nI hn hs, and31, nI_toInt (by omega)]
theorem shm2 {v x c y z : Int32} {A B C s : Nat} (ev : v.toInt = ((2 ^ (s + 5) * A + (2 ^ s * B + C) : Nat) : Int)) (hs : s = 0 ∨ s = 5 ∨ s = 10) (hB : B < 32) (hC : C < 2 ^ s) (ex : x.toInt = (s : Int)) (hc : c.toInt = 31) (ey : y = v >>> (x &&& 31)) (ez : z = y &&& c) : z.toInt = (B : Int) := by
  have hn : 2 ^ (s + 5) * A + (2 ^ s * B + C) < 2 ^ 31 := by
    have := Int32.toInt_lt v
    omega
  rw [shm ev hn ex (by omega) hc ey ez, Nat.shiftRight_eq_div_pow]
  rcases hs with rfl | rfl | rfl
  · simp only [Nat.pow_zero, Nat.div_one] at hC ⊢
    omega
  · have p1 : 2 ^ (5 + 5) = 1024 := rfl
    have p2 : 2 ^ 5 = 32 := rfl
    rw [p2] at hC
    rw [p1, p2]
    omega
  · have p1 : 2 ^ (10 + 5) = 32768 := rfl
    have p2 : 2 ^ 10 = 1024 := rfl
    rw [p2] at hC
    rw [p1, p2]
    omega
def rnV (o y : Int) : mpT := fun v => if v = o then y else v
theorem rnV_rn {a b : Int} : rnV (max a b) (min a b) = rn1 a b := rfl
theorem rep_i {v x c31 c1 a b e f g y : Int32} {A B C s w : Nat} (ev : v.toInt = ((2 ^ (s + 5) * A + (2 ^ s * B + C) : Nat) : Int)) (ex : x.toInt = (s : Int)) (hc : c31.toInt = 31) (h1 : c1.toInt = -1) (hw : y.toInt = (w : Int)) (hB : B < 32) (hC : C < 2 ^ s) (hy : w < 32) (hs : s ≤ 10) (hb : 2 ^ (s + 5) * A + (2 ^ s * w + C) < 2 ^ 31) (ea : a = c31 <<< (x &&& 31)) (eb : b = a ^^^ c1) (ee : e = v &&& b) (ef : f = y <<< (x &&& 31)) (eg : g = e ||| f) : g.toInt = ((2 ^ (s + 5) * A + (2 ^ s * w + C) : Nat) : Int) := by
  rw [eg, ee, ef, eb, ea, nI_of_i ev, nI_of_i ex, ofI (w := 31) hc rfl, ofI (w := -1) h1 rfl, nI_of_i hw, rep_c hB hC hy hs, nI_toInt hb]
theorem rnV_l {d t RA IA : Nat} {τ : List Nat} {h0 : zh} {l : List it4} {oo yo : Int} {xo xy xl : Int32} (tRA : τ[RA]? = some 1004) (tIA : τ[IA]? = some 1007) (n3 : RA ≠ IA) (ok : okL l) (el : xl.toInt = (l.length : Int)) (hl14 : l.length ≤ 14) (exo : xo.toInt = oo) (ho : 0 ≤ oo ∧ oo ≤ 20) (exy : xy.toInt = yo) (hyo : 0 ≤ yo ∧ yo ≤ 20) (ne : oo ≠ yo) : ∀ (n : Nat) (h : zh) (i : Nat) (xi : Int32) (l4 : Option zv), (hG τ h) → (hsl h RA 0 = some (.inl (some IA))) → (hsl h RA 1 = some (zi xl)) → (∀ (j : Nat) (q : it4), j < i → l[j]? = some q → ∃ x : Int32, hsl h IA j = some (zi x) ∧ x.toInt = pk (mI (rnV oo yo) q)) → (∀ (j : Nat) (q : it4), i ≤ j → l[j]? = some q → ∃ x : Int32, hsl h IA j = some (zi x) ∧ x.toInt = pk q) → (∀ k j, k ≠ IA → hsl h k j = hsl h0 k j) → (xi.toInt = (i : Int)) → (i ≤ l.length) → (l.length < i + n) → qX d 72 2 [some (.inl (some RA)), some (zi xo), some (zi xy), some (zi xi), l4] [] h t (rV (fun h1 => hG τ h1 ∧ rwC h1 RA IA (l.map (mI (rnV oo yo))) ∧ ∀ k j, k ≠ IA → hsl h1 k j = hsl h0 k j) t) := by
  intro n
  induction n with
  | zero =>
    intro h i xi l4 hg pA hl c1 c2 F0 hxi hi hn
    exfalso
    omega
  | succ n ih =>
    intro h i xi l4 hg pA hl c1 c2 F0 hxi hi hn
    skip
    refine y_same (i := .iload_n 3) (len := 1) (r := (0, 0, 0, 0)) (pc' := 3) (ls' := [some (.inl (some RA)), some (zi xo), some (zi xy), some (zi xi), l4]) (st' := [zi xi]) (by decide +kernel) (fun k q => by cases q) rfl ?_
    refine y_same (i := .aload_n 0) (len := 1) (r := (0, 0, 0, 0)) (pc' := 4) (ls' := [some (.inl (some RA)), some (zi xo), some (zi xy), some (zi xi), l4]) (st' := [.inl (some RA), zi xi]) (by decide +kernel) (fun k q => by cases q) rfl ?_
    refine y_get (j := 9) (len := 3) (r := (6, 1, 0, 164)) (by decide +kernel) hg tRA aw1004 rfl rfl hl ?_
    rcases Decidable.em (xi.toInt ≥ xl.toInt) with q2240 | q2240
    ·
      refine y_cT (c := .ge) (off := 66) (pc' := 73) (len := 3) (r := (0, 0, 0, 0)) (by decide +kernel) (acmpT (c := .ge) (by show _ ≤ _; omega)) (by decide +kernel) ?_
      refine y_rV (len := 1) (r := (0, 0, 0, 0)) (nL := 5) (n9 := 3) (hs := []) (by decide +kernel) rfl ?_
      exact ⟨hg, ⟨⟨xl, hl, by rw [List.length_map]; exact el⟩, fun j q hq => by
        rw [List.getElem?_map] at hq
        cases h9 : l[j]? with
        | none => rw [h9] at hq; cases hq
        | some q9 =>
          rw [h9] at hq
          cases hq
          exact c1 j q9 (by have := (List.getElem?_eq_some_iff.mp h9).1; omega) h9⟩, F0⟩
    ·
      refine y_cF (c := .ge) (off := 66) (len := 3) (r := (0, 0, 0, 0)) (by decide +kernel) (acmpF (c := .ge) (by show _ < _; omega)) ?_
      obtain ⟨ik, hk⟩ : ∃ ik, l[i]? = some ik := ⟨_, List.getElem?_eq_getElem (by omega)⟩
      have okk := ok i ik hk
      have okk2 := okk
      unfold okV at okk2
      obtain ⟨xv, hv, ev⟩ := c2 i ik (Nat.le_refl _) hk
      rw [pk_n okk] at ev
      refine y_ic (c := 0) (len := 1) (r := (0, 0, 0, 0)) (by decide +kernel) (by decide) (fun y2241 hy2241 => ?_)
      refine y_same (i := .istore 4) (len := 2) (r := (0, 0, 0, 0)) (pc' := 13) (ls' := [some (.inl (some RA)), some (zi xo), some (zi xy), some (zi xi), some (zi y2241)]) (st' := []) (by decide +kernel) (fun k q => by cases q) rfl ?_
      refine y_same (i := .iload 4) (len := 2) (r := (0, 0, 0, 0)) (pc' := 15) (ls' := [some (.inl (some RA)), some (zi xo), some (zi xy), some (zi xi), some (zi y2241)]) (st' := [zi y2241]) (by decide +kernel) (fun k q => by cases q) rfl ?_
      refine y_bi (c := 10) (len := 2) (r := (0, 0, 0, 0)) (by decide +kernel) (by decide) (fun y2242 hy2242 => ?_)
      refine y_cF (c := .gt) (off := 50) (len := 3) (r := (0, 0, 0, 0)) (by decide +kernel) (acmpF (c := .gt) (by show _ ≤ _; omega)) ?_
      refine y_same (i := .aload_n 0) (len := 1) (r := (0, 0, 0, 0)) (pc' := 21) (ls' := [some (.inl (some RA)), some (zi xo), some (zi xy), some (zi xi), some (zi y2241)]) (st' := [.inl (some RA)]) (by decide +kernel) (fun k q => by cases q) rfl ?_
      refine y_get (j := 15) (len := 3) (r := (6, 0, 2, 163)) (by decide +kernel) hg tRA aw1004 rfl rfl pA ?_
      refine y_same (i := .iload_n 3) (len := 1) (r := (0, 0, 0, 0)) (pc' := 25) (ls' := [some (.inl (some RA)), some (zi xo), some (zi xy), some (zi xi), some (zi y2241)]) (st' := [zi xi, .inl (some IA)]) (by decide +kernel) (fun k q => by cases q) rfl ?_
      refine y_ial (i := i) (len := 1) (r := (0, 0, 0, 0)) (by decide +kernel) hg tIA aw1007 (by omega) hv ?_
      refine y_same (i := .iload 4) (len := 2) (r := (0, 0, 0, 0)) (pc' := 28) (ls' := [some (.inl (some RA)), some (zi xo), some (zi xy), some (zi xi), some (zi y2241)]) (st' := [zi y2241, zi xv]) (by decide +kernel) (fun k q => by cases q) rfl ?_
      refine y_bp (i := .ishr) (f := fun x y => x >>> (y &&& 31)) (len := 1) (r := (0, 0, 0, 0)) (by decide +kernel) rfl rfl (fun y2243 hy2243 => ?_)
      have hy2243 : y2243 = xv >>> (y2241 &&& 31) := hy2243
      refine y_bi (c := 31) (len := 2) (r := (0, 0, 0, 0)) (by decide +kernel) (by decide) (fun y2244 hy2244 => ?_)
      refine y_bp (i := .iand) (f := fun x y => x &&& y) (len := 1) (r := (0, 0, 0, 0)) (by decide +kernel) rfl rfl (fun y2245 hy2245 => ?_)
      have hy2245 : y2245 = y2243 &&& y2244 := hy2245
      refine y_same (i := .iload_n 1) (len := 1) (r := (0, 0, 0, 0)) (pc' := 33) (ls' := [some (.inl (some RA)), some (zi xo), some (zi xy), some (zi xi), some (zi y2241)]) (st' := [zi xo, zi y2245]) (by decide +kernel) (fun k q => by cases q) rfl ?_
      have ec0 : y2245.toInt = ik.2.2.2 := by
        have e9 := shm2 (A := (ik.1.toNat * 1024 + ik.2.1.toNat * 32 + ik.2.2.1.toNat)) (B := ik.2.2.2.toNat) (C := 0) (s := 0) (by omega : xv.toInt = _) (by decide) (by omega) (by omega) (by omega : y2241.toInt = _) hy2244 hy2243 hy2245
        omega
      rcases Decidable.em (y2245.toInt ≠ xo.toInt) with q2246 | q2246
      ·
        refine y_cT (c := .ne) (off := 28) (pc' := 61) (len := 3) (r := (0, 0, 0, 0)) (by decide +kernel) (acmpT (c := .ne) (by show ¬ (_ = _); omega)) (by decide +kernel) ?_
        refine y_inc (j := 4) (a := y2241) (c := 5) (ls' := fun v => [some (.inl (some RA)), some (zi xo), some (zi xy), some (zi xi), some v]) (len := 3) (r := (0, 0, 0, 0)) (by decide +kernel) rfl (fun _ => rfl) (by decide) (by omega) (by omega) (fun y2247 hy2247 => ?_)
        show qX d 72 64 [some (.inl (some RA)), some (zi xo), some (zi xy), some (zi xi), some (zi y2247)] [] h t _
        refine y_goto (off := (-51)) (pc' := 13) (len := 3) (r := (0, 0, 0, 0)) (by decide +kernel) (by decide +kernel) ?_
        refine y_same (i := .iload 4) (len := 2) (r := (0, 0, 0, 0)) (pc' := 15) (ls' := [some (.inl (some RA)), some (zi xo), some (zi xy), some (zi xi), some (zi y2247)]) (st' := [zi y2247]) (by decide +kernel) (fun k q => by cases q) rfl ?_
        refine y_bi (c := 10) (len := 2) (r := (0, 0, 0, 0)) (by decide +kernel) (by decide) (fun y2248 hy2248 => ?_)
        refine y_cF (c := .gt) (off := 50) (len := 3) (r := (0, 0, 0, 0)) (by decide +kernel) (acmpF (c := .gt) (by show _ ≤ _; omega)) ?_
        refine y_same (i := .aload_n 0) (len := 1) (r := (0, 0, 0, 0)) (pc' := 21) (ls' := [some (.inl (some RA)), some (zi xo), some (zi xy), some (zi xi), some (zi y2247)]) (st' := [.inl (some RA)]) (by decide +kernel) (fun k q => by cases q) rfl ?_
        refine y_get (j := 15) (len := 3) (r := (6, 0, 2, 163)) (by decide +kernel) hg tRA aw1004 rfl rfl pA ?_
        refine y_same (i := .iload_n 3) (len := 1) (r := (0, 0, 0, 0)) (pc' := 25) (ls' := [some (.inl (some RA)), some (zi xo), some (zi xy), some (zi xi), some (zi y2247)]) (st' := [zi xi, .inl (some IA)]) (by decide +kernel) (fun k q => by cases q) rfl ?_
        refine y_ial (i := i) (len := 1) (r := (0, 0, 0, 0)) (by decide +kernel) hg tIA aw1007 (by omega) hv ?_
        refine y_same (i := .iload 4) (len := 2) (r := (0, 0, 0, 0)) (pc' := 28) (ls' := [some (.inl (some RA)), some (zi xo), some (zi xy), some (zi xi), some (zi y2247)]) (st' := [zi y2247, zi xv]) (by decide +kernel) (fun k q => by cases q) rfl ?_
        refine y_bp (i := .ishr) (f := fun x y => x >>> (y &&& 31)) (len := 1) (r := (0, 0, 0, 0)) (by decide +kernel) rfl rfl (fun y2249 hy2249 => ?_)
        have hy2249 : y2249 = xv >>> (y2247 &&& 31) := hy2249
        refine y_bi (c := 31) (len := 2) (r := (0, 0, 0, 0)) (by decide +kernel) (by decide) (fun y2250 hy2250 => ?_)
        refine y_bp (i := .iand) (f := fun x y => x &&& y) (len := 1) (r := (0, 0, 0, 0)) (by decide +kernel) rfl rfl (fun y2251 hy2251 => ?_)
        have hy2251 : y2251 = y2249 &&& y2250 := hy2251
        refine y_same (i := .iload_n 1) (len := 1) (r := (0, 0, 0, 0)) (pc' := 33) (ls' := [some (.inl (some RA)), some (zi xo), some (zi xy), some (zi xi), some (zi y2247)]) (st' := [zi xo, zi y2251]) (by decide +kernel) (fun k q => by cases q) rfl ?_
        have ec5 : y2251.toInt = ik.2.2.1 := by
          have e9 := shm2 (A := (ik.1.toNat * 32 + ik.2.1.toNat)) (B := ik.2.2.1.toNat) (C := ik.2.2.2.toNat) (s := 5) (by omega : xv.toInt = _) (by decide) (by omega) (by omega) (by omega : y2247.toInt = _) hy2250 hy2249 hy2251
          omega
        rcases Decidable.em (y2251.toInt ≠ xo.toInt) with q2252 | q2252
        ·
          refine y_cT (c := .ne) (off := 28) (pc' := 61) (len := 3) (r := (0, 0, 0, 0)) (by decide +kernel) (acmpT (c := .ne) (by show ¬ (_ = _); omega)) (by decide +kernel) ?_
          refine y_inc (j := 4) (a := y2247) (c := 5) (ls' := fun v => [some (.inl (some RA)), some (zi xo), some (zi xy), some (zi xi), some v]) (len := 3) (r := (0, 0, 0, 0)) (by decide +kernel) rfl (fun _ => rfl) (by decide) (by omega) (by omega) (fun y2253 hy2253 => ?_)
          show qX d 72 64 [some (.inl (some RA)), some (zi xo), some (zi xy), some (zi xi), some (zi y2253)] [] h t _
          refine y_goto (off := (-51)) (pc' := 13) (len := 3) (r := (0, 0, 0, 0)) (by decide +kernel) (by decide +kernel) ?_
          refine y_same (i := .iload 4) (len := 2) (r := (0, 0, 0, 0)) (pc' := 15) (ls' := [some (.inl (some RA)), some (zi xo), some (zi xy), some (zi xi), some (zi y2253)]) (st' := [zi y2253]) (by decide +kernel) (fun k q => by cases q) rfl ?_
          refine y_bi (c := 10) (len := 2) (r := (0, 0, 0, 0)) (by decide +kernel) (by decide) (fun y2254 hy2254 => ?_)
          refine y_cF (c := .gt) (off := 50) (len := 3) (r := (0, 0, 0, 0)) (by decide +kernel) (acmpF (c := .gt) (by show _ ≤ _; omega)) ?_
          refine y_same (i := .aload_n 0) (len := 1) (r := (0, 0, 0, 0)) (pc' := 21) (ls' := [some (.inl (some RA)), some (zi xo), some (zi xy), some (zi xi), some (zi y2253)]) (st' := [.inl (some RA)]) (by decide +kernel) (fun k q => by cases q) rfl ?_
          refine y_get (j := 15) (len := 3) (r := (6, 0, 2, 163)) (by decide +kernel) hg tRA aw1004 rfl rfl pA ?_
          refine y_same (i := .iload_n 3) (len := 1) (r := (0, 0, 0, 0)) (pc' := 25) (ls' := [some (.inl (some RA)), some (zi xo), some (zi xy), some (zi xi), some (zi y2253)]) (st' := [zi xi, .inl (some IA)]) (by decide +kernel) (fun k q => by cases q) rfl ?_
          refine y_ial (i := i) (len := 1) (r := (0, 0, 0, 0)) (by decide +kernel) hg tIA aw1007 (by omega) hv ?_
          refine y_same (i := .iload 4) (len := 2) (r := (0, 0, 0, 0)) (pc' := 28) (ls' := [some (.inl (some RA)), some (zi xo), some (zi xy), some (zi xi), some (zi y2253)]) (st' := [zi y2253, zi xv]) (by decide +kernel) (fun k q => by cases q) rfl ?_
          refine y_bp (i := .ishr) (f := fun x y => x >>> (y &&& 31)) (len := 1) (r := (0, 0, 0, 0)) (by decide +kernel) rfl rfl (fun y2255 hy2255 => ?_)
          have hy2255 : y2255 = xv >>> (y2253 &&& 31) := hy2255
          refine y_bi (c := 31) (len := 2) (r := (0, 0, 0, 0)) (by decide +kernel) (by decide) (fun y2256 hy2256 => ?_)
          refine y_bp (i := .iand) (f := fun x y => x &&& y) (len := 1) (r := (0, 0, 0, 0)) (by decide +kernel) rfl rfl (fun y2257 hy2257 => ?_)
          have hy2257 : y2257 = y2255 &&& y2256 := hy2257
          refine y_same (i := .iload_n 1) (len := 1) (r := (0, 0, 0, 0)) (pc' := 33) (ls' := [some (.inl (some RA)), some (zi xo), some (zi xy), some (zi xi), some (zi y2253)]) (st' := [zi xo, zi y2257]) (by decide +kernel) (fun k q => by cases q) rfl ?_
          have ec10 : y2257.toInt = ik.2.1 := by
            have e9 := shm2 (A := ik.1.toNat) (B := ik.2.1.toNat) (C := (ik.2.2.1.toNat * 32 + ik.2.2.2.toNat)) (s := 10) (by omega : xv.toInt = _) (by decide) (by omega) (by omega) (by omega : y2253.toInt = _) hy2256 hy2255 hy2257
            omega
          rcases Decidable.em (y2257.toInt ≠ xo.toInt) with q2258 | q2258
          ·
            refine y_cT (c := .ne) (off := 28) (pc' := 61) (len := 3) (r := (0, 0, 0, 0)) (by decide +kernel) (acmpT (c := .ne) (by show ¬ (_ = _); omega)) (by decide +kernel) ?_
            refine y_inc (j := 4) (a := y2253) (c := 5) (ls' := fun v => [some (.inl (some RA)), some (zi xo), some (zi xy), some (zi xi), some v]) (len := 3) (r := (0, 0, 0, 0)) (by decide +kernel) rfl (fun _ => rfl) (by decide) (by omega) (by omega) (fun y2259 hy2259 => ?_)
            show qX d 72 64 [some (.inl (some RA)), some (zi xo), some (zi xy), some (zi xi), some (zi y2259)] [] h t _
            refine y_goto (off := (-51)) (pc' := 13) (len := 3) (r := (0, 0, 0, 0)) (by decide +kernel) (by decide +kernel) ?_
            refine y_same (i := .iload 4) (len := 2) (r := (0, 0, 0, 0)) (pc' := 15) (ls' := [some (.inl (some RA)), some (zi xo), some (zi xy), some (zi xi), some (zi y2259)]) (st' := [zi y2259]) (by decide +kernel) (fun k q => by cases q) rfl ?_
            refine y_bi (c := 10) (len := 2) (r := (0, 0, 0, 0)) (by decide +kernel) (by decide) (fun y2260 hy2260 => ?_)
            refine y_cT (c := .gt) (off := 50) (pc' := 67) (len := 3) (r := (0, 0, 0, 0)) (by decide +kernel) (acmpT (c := .gt) (by show _ < _; omega)) (by decide +kernel) ?_
            refine y_inc (j := 3) (a := xi) (c := 1) (ls' := fun v => [some (.inl (some RA)), some (zi xo), some (zi xy), some v, some (zi y2259)]) (len := 3) (r := (0, 0, 0, 0)) (by decide +kernel) rfl (fun _ => rfl) (by decide) (by omega) (by omega) (fun y2261 hy2261 => ?_)
            show qX d 72 70 [some (.inl (some RA)), some (zi xo), some (zi xy), some (zi y2261), some (zi y2259)] [] h t _
            refine y_goto (off := (-68)) (pc' := 2) (len := 3) (r := (0, 0, 0, 0)) (by decide +kernel) (by decide +kernel) ?_
            have en : mI (rnV oo yo) ik = (ik.1, ik.2.1, ik.2.2.1, ik.2.2.2) := by
              unfold mI rnV
              rw [if_neg (by omega)]
              rw [if_neg (by omega)]
              rw [if_neg (by omega)]
            have c9 : ∀ (j : Nat) (q : it4), j < i + 1 → l[j]? = some q → ∃ x : Int32, hsl h IA j = some (zi x) ∧ x.toInt = pk (mI (rnV oo yo) q) := fun j q hj hq => by
              rcases Nat.lt_or_ge j i with q9 | q9
              · obtain ⟨x, e1, e2⟩ := c1 j q q9 hq
                exact ⟨x, (rfl).trans e1, e2⟩
              · obtain rfl : j = i := by omega
                cases hk.symm.trans hq
                refine ⟨_, hv, ?_⟩
                rw [en]
                unfold pk
                simp only
                omega
            exact ih h (i + 1) y2261 _ hg (rfl.trans pA) (rfl.trans hl) c9 (fun j q hj hq => by obtain ⟨x, e1, e2⟩ := c2 j q (by omega) hq; exact ⟨x, (rfl).trans e1, e2⟩) (fun k j hC => (rfl).trans (F0 k j hC)) (by omega) (by omega) (by omega)
          ·
            refine y_cF (c := .ne) (off := 28) (len := 3) (r := (0, 0, 0, 0)) (by decide +kernel) (acmpF (c := .ne) (by show _ = _; omega)) ?_
            refine y_same (i := .aload_n 0) (len := 1) (r := (0, 0, 0, 0)) (pc' := 37) (ls' := [some (.inl (some RA)), some (zi xo), some (zi xy), some (zi xi), some (zi y2253)]) (st' := [.inl (some RA)]) (by decide +kernel) (fun k q => by cases q) rfl ?_
            refine y_get (j := 15) (len := 3) (r := (6, 0, 2, 163)) (by decide +kernel) hg tRA aw1004 rfl rfl pA ?_
            refine y_same (i := .iload_n 3) (len := 1) (r := (0, 0, 0, 0)) (pc' := 41) (ls' := [some (.inl (some RA)), some (zi xo), some (zi xy), some (zi xi), some (zi y2253)]) (st' := [zi xi, .inl (some IA)]) (by decide +kernel) (fun k q => by cases q) rfl ?_
            refine y_same (i := .aload_n 0) (len := 1) (r := (0, 0, 0, 0)) (pc' := 42) (ls' := [some (.inl (some RA)), some (zi xo), some (zi xy), some (zi xi), some (zi y2253)]) (st' := [.inl (some RA), zi xi, .inl (some IA)]) (by decide +kernel) (fun k q => by cases q) rfl ?_
            refine y_get (j := 15) (len := 3) (r := (6, 0, 2, 163)) (by decide +kernel) hg tRA aw1004 rfl rfl pA ?_
            refine y_same (i := .iload_n 3) (len := 1) (r := (0, 0, 0, 0)) (pc' := 46) (ls' := [some (.inl (some RA)), some (zi xo), some (zi xy), some (zi xi), some (zi y2253)]) (st' := [zi xi, .inl (some IA), zi xi, .inl (some IA)]) (by decide +kernel) (fun k q => by cases q) rfl ?_
            refine y_ial (i := i) (len := 1) (r := (0, 0, 0, 0)) (by decide +kernel) hg tIA aw1007 (by omega) hv ?_
            refine y_bi (c := 31) (len := 2) (r := (0, 0, 0, 0)) (by decide +kernel) (by decide) (fun y2262 hy2262 => ?_)
            refine y_same (i := .iload 4) (len := 2) (r := (0, 0, 0, 0)) (pc' := 51) (ls' := [some (.inl (some RA)), some (zi xo), some (zi xy), some (zi xi), some (zi y2253)]) (st' := [zi y2253, zi y2262, zi xv, zi xi, .inl (some IA)]) (by decide +kernel) (fun k q => by cases q) rfl ?_
            refine y_bp (i := .ishl) (f := fun x y => x <<< (y &&& 31)) (len := 1) (r := (0, 0, 0, 0)) (by decide +kernel) rfl rfl (fun y2263 hy2263 => ?_)
            have hy2263 : y2263 = y2262 <<< (y2253 &&& 31) := hy2263
            refine y_ic (c := (-1)) (len := 1) (r := (0, 0, 0, 0)) (by decide +kernel) (by decide) (fun y2264 hy2264 => ?_)
            refine y_bp (i := .ixor) (f := fun x y => x ^^^ y) (len := 1) (r := (0, 0, 0, 0)) (by decide +kernel) rfl rfl (fun y2265 hy2265 => ?_)
            have hy2265 : y2265 = y2263 ^^^ y2264 := hy2265
            refine y_bp (i := .iand) (f := fun x y => x &&& y) (len := 1) (r := (0, 0, 0, 0)) (by decide +kernel) rfl rfl (fun y2266 hy2266 => ?_)
            have hy2266 : y2266 = xv &&& y2265 := hy2266
            refine y_same (i := .iload_n 2) (len := 1) (r := (0, 0, 0, 0)) (pc' := 56) (ls' := [some (.inl (some RA)), some (zi xo), some (zi xy), some (zi xi), some (zi y2253)]) (st' := [zi xy, zi y2266, zi xi, .inl (some IA)]) (by decide +kernel) (fun k q => by cases q) rfl ?_
            refine y_same (i := .iload 4) (len := 2) (r := (0, 0, 0, 0)) (pc' := 58) (ls' := [some (.inl (some RA)), some (zi xo), some (zi xy), some (zi xi), some (zi y2253)]) (st' := [zi y2253, zi xy, zi y2266, zi xi, .inl (some IA)]) (by decide +kernel) (fun k q => by cases q) rfl ?_
            refine y_bp (i := .ishl) (f := fun x y => x <<< (y &&& 31)) (len := 1) (r := (0, 0, 0, 0)) (by decide +kernel) rfl rfl (fun y2267 hy2267 => ?_)
            have hy2267 : y2267 = xy <<< (y2253 &&& 31) := hy2267
            refine y_bp (i := .ior) (f := fun x y => x ||| y) (len := 1) (r := (0, 0, 0, 0)) (by decide +kernel) rfl rfl (fun y2268 hy2268 => ?_)
            have hy2268 : y2268 = y2266 ||| y2267 := hy2268
            have eg10 : y2268.toInt = ((2 ^ (10 + 5) * ik.1.toNat + (2 ^ 10 * yo.toNat + (ik.2.2.1.toNat * 32 + ik.2.2.2.toNat)) : Nat) : Int) := rep_i (v := xv) (x := y2253) (c31 := y2262) (c1 := y2264) (y := xy) (A := ik.1.toNat) (B := ik.2.1.toNat) (C := (ik.2.2.1.toNat * 32 + ik.2.2.2.toNat)) (s := 10) (w := yo.toNat) (by omega) (by omega) hy2262 hy2264 (by omega) (by omega) (by omega) (by omega) (by omega) (by omega) hy2263 hy2265 hy2266 hy2267 hy2268
            refine y_ias (i := i) (len := 1) (r := (0, 0, 0, 0)) (by decide +kernel) hg tIA aw1007 rfl (by omega) (by omega) (sr1 (by omega)) (qin_full _).1 (qin_full _).2 (fun h2269 hg2269 hl2269 hs2269 ho2269 => ?_)
            refine y_inc (j := 4) (a := y2253) (c := 5) (ls' := fun v => [some (.inl (some RA)), some (zi xo), some (zi xy), some (zi xi), some v]) (len := 3) (r := (0, 0, 0, 0)) (by decide +kernel) rfl (fun _ => rfl) (by decide) (by omega) (by omega) (fun y2270 hy2270 => ?_)
            show qX d 72 64 [some (.inl (some RA)), some (zi xo), some (zi xy), some (zi xi), some (zi y2270)] [] h2269 t _
            refine y_goto (off := (-51)) (pc' := 13) (len := 3) (r := (0, 0, 0, 0)) (by decide +kernel) (by decide +kernel) ?_
            refine y_same (i := .iload 4) (len := 2) (r := (0, 0, 0, 0)) (pc' := 15) (ls' := [some (.inl (some RA)), some (zi xo), some (zi xy), some (zi xi), some (zi y2270)]) (st' := [zi y2270]) (by decide +kernel) (fun k q => by cases q) rfl ?_
            refine y_bi (c := 10) (len := 2) (r := (0, 0, 0, 0)) (by decide +kernel) (by decide) (fun y2271 hy2271 => ?_)
            refine y_cT (c := .gt) (off := 50) (pc' := 67) (len := 3) (r := (0, 0, 0, 0)) (by decide +kernel) (acmpT (c := .gt) (by show _ < _; omega)) (by decide +kernel) ?_
            refine y_inc (j := 3) (a := xi) (c := 1) (ls' := fun v => [some (.inl (some RA)), some (zi xo), some (zi xy), some v, some (zi y2270)]) (len := 3) (r := (0, 0, 0, 0)) (by decide +kernel) rfl (fun _ => rfl) (by decide) (by omega) (by omega) (fun y2272 hy2272 => ?_)
            show qX d 72 70 [some (.inl (some RA)), some (zi xo), some (zi xy), some (zi y2272), some (zi y2270)] [] h2269 t _
            refine y_goto (off := (-68)) (pc' := 2) (len := 3) (r := (0, 0, 0, 0)) (by decide +kernel) (by decide +kernel) ?_
            have en : mI (rnV oo yo) ik = (ik.1, yo, ik.2.2.1, ik.2.2.2) := by
              unfold mI rnV
              rw [if_pos (by omega)]
              rw [if_neg (by omega)]
              rw [if_neg (by omega)]
            have c9 : ∀ (j : Nat) (q : it4), j < i + 1 → l[j]? = some q → ∃ x : Int32, hsl h2269 IA j = some (zi x) ∧ x.toInt = pk (mI (rnV oo yo) q) := fun j q hj hq => by
              rcases Nat.lt_or_ge j i with q9 | q9
              · obtain ⟨x, e1, e2⟩ := c1 j q q9 hq
                exact ⟨x, ((ho2269 IA j (by omega))).trans e1, e2⟩
              · obtain rfl : j = i := by omega
                cases hk.symm.trans hq
                refine ⟨_, hs2269, ?_⟩
                rw [en]
                unfold pk
                simp only
                omega
            exact ih h2269 (i + 1) y2272 _ hg2269 ((ho2269 RA 0 (by omega)).trans pA) ((ho2269 RA 1 (by omega)).trans hl) c9 (fun j q hj hq => by obtain ⟨x, e1, e2⟩ := c2 j q (by omega) hq; exact ⟨x, ((ho2269 IA j (by omega))).trans e1, e2⟩) (fun k j hC => ((ho2269 k j (by omega))).trans (F0 k j hC)) (by omega) (by omega) (by omega)
        ·
          refine y_cF (c := .ne) (off := 28) (len := 3) (r := (0, 0, 0, 0)) (by decide +kernel) (acmpF (c := .ne) (by show _ = _; omega)) ?_
          refine y_same (i := .aload_n 0) (len := 1) (r := (0, 0, 0, 0)) (pc' := 37) (ls' := [some (.inl (some RA)), some (zi xo), some (zi xy), some (zi xi), some (zi y2247)]) (st' := [.inl (some RA)]) (by decide +kernel) (fun k q => by cases q) rfl ?_
          refine y_get (j := 15) (len := 3) (r := (6, 0, 2, 163)) (by decide +kernel) hg tRA aw1004 rfl rfl pA ?_
          refine y_same (i := .iload_n 3) (len := 1) (r := (0, 0, 0, 0)) (pc' := 41) (ls' := [some (.inl (some RA)), some (zi xo), some (zi xy), some (zi xi), some (zi y2247)]) (st' := [zi xi, .inl (some IA)]) (by decide +kernel) (fun k q => by cases q) rfl ?_
          refine y_same (i := .aload_n 0) (len := 1) (r := (0, 0, 0, 0)) (pc' := 42) (ls' := [some (.inl (some RA)), some (zi xo), some (zi xy), some (zi xi), some (zi y2247)]) (st' := [.inl (some RA), zi xi, .inl (some IA)]) (by decide +kernel) (fun k q => by cases q) rfl ?_
          refine y_get (j := 15) (len := 3) (r := (6, 0, 2, 163)) (by decide +kernel) hg tRA aw1004 rfl rfl pA ?_
          refine y_same (i := .iload_n 3) (len := 1) (r := (0, 0, 0, 0)) (pc' := 46) (ls' := [some (.inl (some RA)), some (zi xo), some (zi xy), some (zi xi), some (zi y2247)]) (st' := [zi xi, .inl (some IA), zi xi, .inl (some IA)]) (by decide +kernel) (fun k q => by cases q) rfl ?_
          refine y_ial (i := i) (len := 1) (r := (0, 0, 0, 0)) (by decide +kernel) hg tIA aw1007 (by omega) hv ?_
          refine y_bi (c := 31) (len := 2) (r := (0, 0, 0, 0)) (by decide +kernel) (by decide) (fun y2273 hy2273 => ?_)
          refine y_same (i := .iload 4) (len := 2) (r := (0, 0, 0, 0)) (pc' := 51) (ls' := [some (.inl (some RA)), some (zi xo), some (zi xy), some (zi xi), some (zi y2247)]) (st' := [zi y2247, zi y2273, zi xv, zi xi, .inl (some IA)]) (by decide +kernel) (fun k q => by cases q) rfl ?_
          refine y_bp (i := .ishl) (f := fun x y => x <<< (y &&& 31)) (len := 1) (r := (0, 0, 0, 0)) (by decide +kernel) rfl rfl (fun y2274 hy2274 => ?_)
          have hy2274 : y2274 = y2273 <<< (y2247 &&& 31) := hy2274
          refine y_ic (c := (-1)) (len := 1) (r := (0, 0, 0, 0)) (by decide +kernel) (by decide) (fun y2275 hy2275 => ?_)
          refine y_bp (i := .ixor) (f := fun x y => x ^^^ y) (len := 1) (r := (0, 0, 0, 0)) (by decide +kernel) rfl rfl (fun y2276 hy2276 => ?_)
          have hy2276 : y2276 = y2274 ^^^ y2275 := hy2276
          refine y_bp (i := .iand) (f := fun x y => x &&& y) (len := 1) (r := (0, 0, 0, 0)) (by decide +kernel) rfl rfl (fun y2277 hy2277 => ?_)
          have hy2277 : y2277 = xv &&& y2276 := hy2277
          refine y_same (i := .iload_n 2) (len := 1) (r := (0, 0, 0, 0)) (pc' := 56) (ls' := [some (.inl (some RA)), some (zi xo), some (zi xy), some (zi xi), some (zi y2247)]) (st' := [zi xy, zi y2277, zi xi, .inl (some IA)]) (by decide +kernel) (fun k q => by cases q) rfl ?_
          refine y_same (i := .iload 4) (len := 2) (r := (0, 0, 0, 0)) (pc' := 58) (ls' := [some (.inl (some RA)), some (zi xo), some (zi xy), some (zi xi), some (zi y2247)]) (st' := [zi y2247, zi xy, zi y2277, zi xi, .inl (some IA)]) (by decide +kernel) (fun k q => by cases q) rfl ?_
          refine y_bp (i := .ishl) (f := fun x y => x <<< (y &&& 31)) (len := 1) (r := (0, 0, 0, 0)) (by decide +kernel) rfl rfl (fun y2278 hy2278 => ?_)
          have hy2278 : y2278 = xy <<< (y2247 &&& 31) := hy2278
          refine y_bp (i := .ior) (f := fun x y => x ||| y) (len := 1) (r := (0, 0, 0, 0)) (by decide +kernel) rfl rfl (fun y2279 hy2279 => ?_)
          have hy2279 : y2279 = y2277 ||| y2278 := hy2279
          have eg5 : y2279.toInt = ((2 ^ (5 + 5) * (ik.1.toNat * 32 + ik.2.1.toNat) + (2 ^ 5 * yo.toNat + ik.2.2.2.toNat) : Nat) : Int) := rep_i (v := xv) (x := y2247) (c31 := y2273) (c1 := y2275) (y := xy) (A := (ik.1.toNat * 32 + ik.2.1.toNat)) (B := ik.2.2.1.toNat) (C := ik.2.2.2.toNat) (s := 5) (w := yo.toNat) (by omega) (by omega) hy2273 hy2275 (by omega) (by omega) (by omega) (by omega) (by omega) (by omega) hy2274 hy2276 hy2277 hy2278 hy2279
          refine y_ias (i := i) (len := 1) (r := (0, 0, 0, 0)) (by decide +kernel) hg tIA aw1007 rfl (by omega) (by omega) (sr1 (by omega)) (qin_full _).1 (qin_full _).2 (fun h2280 hg2280 hl2280 hs2280 ho2280 => ?_)
          refine y_inc (j := 4) (a := y2247) (c := 5) (ls' := fun v => [some (.inl (some RA)), some (zi xo), some (zi xy), some (zi xi), some v]) (len := 3) (r := (0, 0, 0, 0)) (by decide +kernel) rfl (fun _ => rfl) (by decide) (by omega) (by omega) (fun y2281 hy2281 => ?_)
          show qX d 72 64 [some (.inl (some RA)), some (zi xo), some (zi xy), some (zi xi), some (zi y2281)] [] h2280 t _
          refine y_goto (off := (-51)) (pc' := 13) (len := 3) (r := (0, 0, 0, 0)) (by decide +kernel) (by decide +kernel) ?_
          refine y_same (i := .iload 4) (len := 2) (r := (0, 0, 0, 0)) (pc' := 15) (ls' := [some (.inl (some RA)), some (zi xo), some (zi xy), some (zi xi), some (zi y2281)]) (st' := [zi y2281]) (by decide +kernel) (fun k q => by cases q) rfl ?_
          refine y_bi (c := 10) (len := 2) (r := (0, 0, 0, 0)) (by decide +kernel) (by decide) (fun y2282 hy2282 => ?_)
          refine y_cF (c := .gt) (off := 50) (len := 3) (r := (0, 0, 0, 0)) (by decide +kernel) (acmpF (c := .gt) (by show _ ≤ _; omega)) ?_
          refine y_same (i := .aload_n 0) (len := 1) (r := (0, 0, 0, 0)) (pc' := 21) (ls' := [some (.inl (some RA)), some (zi xo), some (zi xy), some (zi xi), some (zi y2281)]) (st' := [.inl (some RA)]) (by decide +kernel) (fun k q => by cases q) rfl ?_
          have hv2283 := (ho2280 RA 0 (Or.inl (by omega))).trans pA
          refine y_get (j := 15) (len := 3) (r := (6, 0, 2, 163)) (by decide +kernel) hg2280 tRA aw1004 rfl rfl hv2283 ?_
          refine y_same (i := .iload_n 3) (len := 1) (r := (0, 0, 0, 0)) (pc' := 25) (ls' := [some (.inl (some RA)), some (zi xo), some (zi xy), some (zi xi), some (zi y2281)]) (st' := [zi xi, .inl (some IA)]) (by decide +kernel) (fun k q => by cases q) rfl ?_
          refine y_ial (i := i) (len := 1) (r := (0, 0, 0, 0)) (by decide +kernel) hg2280 tIA aw1007 (by omega) hs2280 ?_
          refine y_same (i := .iload 4) (len := 2) (r := (0, 0, 0, 0)) (pc' := 28) (ls' := [some (.inl (some RA)), some (zi xo), some (zi xy), some (zi xi), some (zi y2281)]) (st' := [zi y2281, zi y2279]) (by decide +kernel) (fun k q => by cases q) rfl ?_
          refine y_bp (i := .ishr) (f := fun x y => x >>> (y &&& 31)) (len := 1) (r := (0, 0, 0, 0)) (by decide +kernel) rfl rfl (fun y2284 hy2284 => ?_)
          have hy2284 : y2284 = y2279 >>> (y2281 &&& 31) := hy2284
          refine y_bi (c := 31) (len := 2) (r := (0, 0, 0, 0)) (by decide +kernel) (by decide) (fun y2285 hy2285 => ?_)
          refine y_bp (i := .iand) (f := fun x y => x &&& y) (len := 1) (r := (0, 0, 0, 0)) (by decide +kernel) rfl rfl (fun y2286 hy2286 => ?_)
          have hy2286 : y2286 = y2284 &&& y2285 := hy2286
          refine y_same (i := .iload_n 1) (len := 1) (r := (0, 0, 0, 0)) (pc' := 33) (ls' := [some (.inl (some RA)), some (zi xo), some (zi xy), some (zi xi), some (zi y2281)]) (st' := [zi xo, zi y2286]) (by decide +kernel) (fun k q => by cases q) rfl ?_
          have ec10 : y2286.toInt = ik.2.1 := by
            have e9 := shm2 (A := ik.1.toNat) (B := ik.2.1.toNat) (C := (yo.toNat * 32 + ik.2.2.2.toNat)) (s := 10) (by omega : y2279.toInt = _) (by decide) (by omega) (by omega) (by omega : y2281.toInt = _) hy2285 hy2284 hy2286
            omega
          rcases Decidable.em (y2286.toInt ≠ xo.toInt) with q2287 | q2287
          ·
            refine y_cT (c := .ne) (off := 28) (pc' := 61) (len := 3) (r := (0, 0, 0, 0)) (by decide +kernel) (acmpT (c := .ne) (by show ¬ (_ = _); omega)) (by decide +kernel) ?_
            refine y_inc (j := 4) (a := y2281) (c := 5) (ls' := fun v => [some (.inl (some RA)), some (zi xo), some (zi xy), some (zi xi), some v]) (len := 3) (r := (0, 0, 0, 0)) (by decide +kernel) rfl (fun _ => rfl) (by decide) (by omega) (by omega) (fun y2288 hy2288 => ?_)
            show qX d 72 64 [some (.inl (some RA)), some (zi xo), some (zi xy), some (zi xi), some (zi y2288)] [] h2280 t _
            refine y_goto (off := (-51)) (pc' := 13) (len := 3) (r := (0, 0, 0, 0)) (by decide +kernel) (by decide +kernel) ?_
            refine y_same (i := .iload 4) (len := 2) (r := (0, 0, 0, 0)) (pc' := 15) (ls' := [some (.inl (some RA)), some (zi xo), some (zi xy), some (zi xi), some (zi y2288)]) (st' := [zi y2288]) (by decide +kernel) (fun k q => by cases q) rfl ?_
            refine y_bi (c := 10) (len := 2) (r := (0, 0, 0, 0)) (by decide +kernel) (by decide) (fun y2289 hy2289 => ?_)
            refine y_cT (c := .gt) (off := 50) (pc' := 67) (len := 3) (r := (0, 0, 0, 0)) (by decide +kernel) (acmpT (c := .gt) (by show _ < _; omega)) (by decide +kernel) ?_
            refine y_inc (j := 3) (a := xi) (c := 1) (ls' := fun v => [some (.inl (some RA)), some (zi xo), some (zi xy), some v, some (zi y2288)]) (len := 3) (r := (0, 0, 0, 0)) (by decide +kernel) rfl (fun _ => rfl) (by decide) (by omega) (by omega) (fun y2290 hy2290 => ?_)
            show qX d 72 70 [some (.inl (some RA)), some (zi xo), some (zi xy), some (zi y2290), some (zi y2288)] [] h2280 t _
            refine y_goto (off := (-68)) (pc' := 2) (len := 3) (r := (0, 0, 0, 0)) (by decide +kernel) (by decide +kernel) ?_
            have en : mI (rnV oo yo) ik = (ik.1, ik.2.1, yo, ik.2.2.2) := by
              unfold mI rnV
              rw [if_neg (by omega)]
              rw [if_pos (by omega)]
              rw [if_neg (by omega)]
            have c9 : ∀ (j : Nat) (q : it4), j < i + 1 → l[j]? = some q → ∃ x : Int32, hsl h2280 IA j = some (zi x) ∧ x.toInt = pk (mI (rnV oo yo) q) := fun j q hj hq => by
              rcases Nat.lt_or_ge j i with q9 | q9
              · obtain ⟨x, e1, e2⟩ := c1 j q q9 hq
                exact ⟨x, ((ho2280 IA j (by omega))).trans e1, e2⟩
              · obtain rfl : j = i := by omega
                cases hk.symm.trans hq
                refine ⟨_, hs2280, ?_⟩
                rw [en]
                unfold pk
                simp only
                omega
            exact ih h2280 (i + 1) y2290 _ hg2280 ((ho2280 RA 0 (by omega)).trans pA) ((ho2280 RA 1 (by omega)).trans hl) c9 (fun j q hj hq => by obtain ⟨x, e1, e2⟩ := c2 j q (by omega) hq; exact ⟨x, ((ho2280 IA j (by omega))).trans e1, e2⟩) (fun k j hC => ((ho2280 k j (by omega))).trans (F0 k j hC)) (by omega) (by omega) (by omega)
          ·
            refine y_cF (c := .ne) (off := 28) (len := 3) (r := (0, 0, 0, 0)) (by decide +kernel) (acmpF (c := .ne) (by show _ = _; omega)) ?_
            refine y_same (i := .aload_n 0) (len := 1) (r := (0, 0, 0, 0)) (pc' := 37) (ls' := [some (.inl (some RA)), some (zi xo), some (zi xy), some (zi xi), some (zi y2281)]) (st' := [.inl (some RA)]) (by decide +kernel) (fun k q => by cases q) rfl ?_
            refine y_get (j := 15) (len := 3) (r := (6, 0, 2, 163)) (by decide +kernel) hg2280 tRA aw1004 rfl rfl hv2283 ?_
            refine y_same (i := .iload_n 3) (len := 1) (r := (0, 0, 0, 0)) (pc' := 41) (ls' := [some (.inl (some RA)), some (zi xo), some (zi xy), some (zi xi), some (zi y2281)]) (st' := [zi xi, .inl (some IA)]) (by decide +kernel) (fun k q => by cases q) rfl ?_
            refine y_same (i := .aload_n 0) (len := 1) (r := (0, 0, 0, 0)) (pc' := 42) (ls' := [some (.inl (some RA)), some (zi xo), some (zi xy), some (zi xi), some (zi y2281)]) (st' := [.inl (some RA), zi xi, .inl (some IA)]) (by decide +kernel) (fun k q => by cases q) rfl ?_
            refine y_get (j := 15) (len := 3) (r := (6, 0, 2, 163)) (by decide +kernel) hg2280 tRA aw1004 rfl rfl hv2283 ?_
            refine y_same (i := .iload_n 3) (len := 1) (r := (0, 0, 0, 0)) (pc' := 46) (ls' := [some (.inl (some RA)), some (zi xo), some (zi xy), some (zi xi), some (zi y2281)]) (st' := [zi xi, .inl (some IA), zi xi, .inl (some IA)]) (by decide +kernel) (fun k q => by cases q) rfl ?_
            refine y_ial (i := i) (len := 1) (r := (0, 0, 0, 0)) (by decide +kernel) hg2280 tIA aw1007 (by omega) hs2280 ?_
            refine y_bi (c := 31) (len := 2) (r := (0, 0, 0, 0)) (by decide +kernel) (by decide) (fun y2291 hy2291 => ?_)
            refine y_same (i := .iload 4) (len := 2) (r := (0, 0, 0, 0)) (pc' := 51) (ls' := [some (.inl (some RA)), some (zi xo), some (zi xy), some (zi xi), some (zi y2281)]) (st' := [zi y2281, zi y2291, zi y2279, zi xi, .inl (some IA)]) (by decide +kernel) (fun k q => by cases q) rfl ?_
            refine y_bp (i := .ishl) (f := fun x y => x <<< (y &&& 31)) (len := 1) (r := (0, 0, 0, 0)) (by decide +kernel) rfl rfl (fun y2292 hy2292 => ?_)
            have hy2292 : y2292 = y2291 <<< (y2281 &&& 31) := hy2292
            refine y_ic (c := (-1)) (len := 1) (r := (0, 0, 0, 0)) (by decide +kernel) (by decide) (fun y2293 hy2293 => ?_)
            refine y_bp (i := .ixor) (f := fun x y => x ^^^ y) (len := 1) (r := (0, 0, 0, 0)) (by decide +kernel) rfl rfl (fun y2294 hy2294 => ?_)
            have hy2294 : y2294 = y2292 ^^^ y2293 := hy2294
            refine y_bp (i := .iand) (f := fun x y => x &&& y) (len := 1) (r := (0, 0, 0, 0)) (by decide +kernel) rfl rfl (fun y2295 hy2295 => ?_)
            have hy2295 : y2295 = y2279 &&& y2294 := hy2295
            refine y_same (i := .iload_n 2) (len := 1) (r := (0, 0, 0, 0)) (pc' := 56) (ls' := [some (.inl (some RA)), some (zi xo), some (zi xy), some (zi xi), some (zi y2281)]) (st' := [zi xy, zi y2295, zi xi, .inl (some IA)]) (by decide +kernel) (fun k q => by cases q) rfl ?_
            refine y_same (i := .iload 4) (len := 2) (r := (0, 0, 0, 0)) (pc' := 58) (ls' := [some (.inl (some RA)), some (zi xo), some (zi xy), some (zi xi), some (zi y2281)]) (st' := [zi y2281, zi xy, zi y2295, zi xi, .inl (some IA)]) (by decide +kernel) (fun k q => by cases q) rfl ?_
            refine y_bp (i := .ishl) (f := fun x y => x <<< (y &&& 31)) (len := 1) (r := (0, 0, 0, 0)) (by decide +kernel) rfl rfl (fun y2296 hy2296 => ?_)
            have hy2296 : y2296 = xy <<< (y2281 &&& 31) := hy2296
            refine y_bp (i := .ior) (f := fun x y => x ||| y) (len := 1) (r := (0, 0, 0, 0)) (by decide +kernel) rfl rfl (fun y2297 hy2297 => ?_)
            have hy2297 : y2297 = y2295 ||| y2296 := hy2297
            have eg10 : y2297.toInt = ((2 ^ (10 + 5) * ik.1.toNat + (2 ^ 10 * yo.toNat + (yo.toNat * 32 + ik.2.2.2.toNat)) : Nat) : Int) := rep_i (v := y2279) (x := y2281) (c31 := y2291) (c1 := y2293) (y := xy) (A := ik.1.toNat) (B := ik.2.1.toNat) (C := (yo.toNat * 32 + ik.2.2.2.toNat)) (s := 10) (w := yo.toNat) (by omega) (by omega) hy2291 hy2293 (by omega) (by omega) (by omega) (by omega) (by omega) (by omega) hy2292 hy2294 hy2295 hy2296 hy2297
            refine y_ias (i := i) (len := 1) (r := (0, 0, 0, 0)) (by decide +kernel) hg2280 tIA aw1007 rfl (by omega) (by omega) (sr1 (by omega)) (qin_full _).1 (qin_full _).2 (fun h2298 hg2298 hl2298 hs2298 ho2298 => ?_)
            refine y_inc (j := 4) (a := y2281) (c := 5) (ls' := fun v => [some (.inl (some RA)), some (zi xo), some (zi xy), some (zi xi), some v]) (len := 3) (r := (0, 0, 0, 0)) (by decide +kernel) rfl (fun _ => rfl) (by decide) (by omega) (by omega) (fun y2299 hy2299 => ?_)
            show qX d 72 64 [some (.inl (some RA)), some (zi xo), some (zi xy), some (zi xi), some (zi y2299)] [] h2298 t _
            refine y_goto (off := (-51)) (pc' := 13) (len := 3) (r := (0, 0, 0, 0)) (by decide +kernel) (by decide +kernel) ?_
            refine y_same (i := .iload 4) (len := 2) (r := (0, 0, 0, 0)) (pc' := 15) (ls' := [some (.inl (some RA)), some (zi xo), some (zi xy), some (zi xi), some (zi y2299)]) (st' := [zi y2299]) (by decide +kernel) (fun k q => by cases q) rfl ?_
            refine y_bi (c := 10) (len := 2) (r := (0, 0, 0, 0)) (by decide +kernel) (by decide) (fun y2300 hy2300 => ?_)
            refine y_cT (c := .gt) (off := 50) (pc' := 67) (len := 3) (r := (0, 0, 0, 0)) (by decide +kernel) (acmpT (c := .gt) (by show _ < _; omega)) (by decide +kernel) ?_
            refine y_inc (j := 3) (a := xi) (c := 1) (ls' := fun v => [some (.inl (some RA)), some (zi xo), some (zi xy), some v, some (zi y2299)]) (len := 3) (r := (0, 0, 0, 0)) (by decide +kernel) rfl (fun _ => rfl) (by decide) (by omega) (by omega) (fun y2301 hy2301 => ?_)
            show qX d 72 70 [some (.inl (some RA)), some (zi xo), some (zi xy), some (zi y2301), some (zi y2299)] [] h2298 t _
            refine y_goto (off := (-68)) (pc' := 2) (len := 3) (r := (0, 0, 0, 0)) (by decide +kernel) (by decide +kernel) ?_
            have en : mI (rnV oo yo) ik = (ik.1, yo, yo, ik.2.2.2) := by
              unfold mI rnV
              rw [if_pos (by omega)]
              rw [if_pos (by omega)]
              rw [if_neg (by omega)]
            have c9 : ∀ (j : Nat) (q : it4), j < i + 1 → l[j]? = some q → ∃ x : Int32, hsl h2298 IA j = some (zi x) ∧ x.toInt = pk (mI (rnV oo yo) q) := fun j q hj hq => by
              rcases Nat.lt_or_ge j i with q9 | q9
              · obtain ⟨x, e1, e2⟩ := c1 j q q9 hq
                exact ⟨x, (((ho2298 IA j (by omega)).trans (ho2280 IA j (by omega)))).trans e1, e2⟩
              · obtain rfl : j = i := by omega
                cases hk.symm.trans hq
                refine ⟨_, hs2298, ?_⟩
                rw [en]
                unfold pk
                simp only
                omega
            exact ih h2298 (i + 1) y2301 _ hg2298 (((ho2298 RA 0 (by omega)).trans (ho2280 RA 0 (by omega))).trans pA) (((ho2298 RA 1 (by omega)).trans (ho2280 RA 1 (by omega))).trans hl) c9 (fun j q hj hq => by obtain ⟨x, e1, e2⟩ := c2 j q (by omega) hq; exact ⟨x, (((ho2298 IA j (by omega)).trans (ho2280 IA j (by omega)))).trans e1, e2⟩) (fun k j hC => (((ho2298 k j (by omega)).trans (ho2280 k j (by omega)))).trans (F0 k j hC)) (by omega) (by omega) (by omega)
      ·
        refine y_cF (c := .ne) (off := 28) (len := 3) (r := (0, 0, 0, 0)) (by decide +kernel) (acmpF (c := .ne) (by show _ = _; omega)) ?_
        refine y_same (i := .aload_n 0) (len := 1) (r := (0, 0, 0, 0)) (pc' := 37) (ls' := [some (.inl (some RA)), some (zi xo), some (zi xy), some (zi xi), some (zi y2241)]) (st' := [.inl (some RA)]) (by decide +kernel) (fun k q => by cases q) rfl ?_
        refine y_get (j := 15) (len := 3) (r := (6, 0, 2, 163)) (by decide +kernel) hg tRA aw1004 rfl rfl pA ?_
        refine y_same (i := .iload_n 3) (len := 1) (r := (0, 0, 0, 0)) (pc' := 41) (ls' := [some (.inl (some RA)), some (zi xo), some (zi xy), some (zi xi), some (zi y2241)]) (st' := [zi xi, .inl (some IA)]) (by decide +kernel) (fun k q => by cases q) rfl ?_
        refine y_same (i := .aload_n 0) (len := 1) (r := (0, 0, 0, 0)) (pc' := 42) (ls' := [some (.inl (some RA)), some (zi xo), some (zi xy), some (zi xi), some (zi y2241)]) (st' := [.inl (some RA), zi xi, .inl (some IA)]) (by decide +kernel) (fun k q => by cases q) rfl ?_
        refine y_get (j := 15) (len := 3) (r := (6, 0, 2, 163)) (by decide +kernel) hg tRA aw1004 rfl rfl pA ?_
        refine y_same (i := .iload_n 3) (len := 1) (r := (0, 0, 0, 0)) (pc' := 46) (ls' := [some (.inl (some RA)), some (zi xo), some (zi xy), some (zi xi), some (zi y2241)]) (st' := [zi xi, .inl (some IA), zi xi, .inl (some IA)]) (by decide +kernel) (fun k q => by cases q) rfl ?_
        refine y_ial (i := i) (len := 1) (r := (0, 0, 0, 0)) (by decide +kernel) hg tIA aw1007 (by omega) hv ?_
        refine y_bi (c := 31) (len := 2) (r := (0, 0, 0, 0)) (by decide +kernel) (by decide) (fun y2302 hy2302 => ?_)
        refine y_same (i := .iload 4) (len := 2) (r := (0, 0, 0, 0)) (pc' := 51) (ls' := [some (.inl (some RA)), some (zi xo), some (zi xy), some (zi xi), some (zi y2241)]) (st' := [zi y2241, zi y2302, zi xv, zi xi, .inl (some IA)]) (by decide +kernel) (fun k q => by cases q) rfl ?_
        refine y_bp (i := .ishl) (f := fun x y => x <<< (y &&& 31)) (len := 1) (r := (0, 0, 0, 0)) (by decide +kernel) rfl rfl (fun y2303 hy2303 => ?_)
        have hy2303 : y2303 = y2302 <<< (y2241 &&& 31) := hy2303
        refine y_ic (c := (-1)) (len := 1) (r := (0, 0, 0, 0)) (by decide +kernel) (by decide) (fun y2304 hy2304 => ?_)
        refine y_bp (i := .ixor) (f := fun x y => x ^^^ y) (len := 1) (r := (0, 0, 0, 0)) (by decide +kernel) rfl rfl (fun y2305 hy2305 => ?_)
        have hy2305 : y2305 = y2303 ^^^ y2304 := hy2305
        refine y_bp (i := .iand) (f := fun x y => x &&& y) (len := 1) (r := (0, 0, 0, 0)) (by decide +kernel) rfl rfl (fun y2306 hy2306 => ?_)
        have hy2306 : y2306 = xv &&& y2305 := hy2306
        refine y_same (i := .iload_n 2) (len := 1) (r := (0, 0, 0, 0)) (pc' := 56) (ls' := [some (.inl (some RA)), some (zi xo), some (zi xy), some (zi xi), some (zi y2241)]) (st' := [zi xy, zi y2306, zi xi, .inl (some IA)]) (by decide +kernel) (fun k q => by cases q) rfl ?_
        refine y_same (i := .iload 4) (len := 2) (r := (0, 0, 0, 0)) (pc' := 58) (ls' := [some (.inl (some RA)), some (zi xo), some (zi xy), some (zi xi), some (zi y2241)]) (st' := [zi y2241, zi xy, zi y2306, zi xi, .inl (some IA)]) (by decide +kernel) (fun k q => by cases q) rfl ?_
        refine y_bp (i := .ishl) (f := fun x y => x <<< (y &&& 31)) (len := 1) (r := (0, 0, 0, 0)) (by decide +kernel) rfl rfl (fun y2307 hy2307 => ?_)
        have hy2307 : y2307 = xy <<< (y2241 &&& 31) := hy2307
        refine y_bp (i := .ior) (f := fun x y => x ||| y) (len := 1) (r := (0, 0, 0, 0)) (by decide +kernel) rfl rfl (fun y2308 hy2308 => ?_)
        have hy2308 : y2308 = y2306 ||| y2307 := hy2308
        have eg0 : y2308.toInt = ((2 ^ (0 + 5) * (ik.1.toNat * 1024 + ik.2.1.toNat * 32 + ik.2.2.1.toNat) + (2 ^ 0 * yo.toNat + 0) : Nat) : Int) := rep_i (v := xv) (x := y2241) (c31 := y2302) (c1 := y2304) (y := xy) (A := (ik.1.toNat * 1024 + ik.2.1.toNat * 32 + ik.2.2.1.toNat)) (B := ik.2.2.2.toNat) (C := 0) (s := 0) (w := yo.toNat) (by omega) (by omega) hy2302 hy2304 (by omega) (by omega) (by omega) (by omega) (by omega) (by omega) hy2303 hy2305 hy2306 hy2307 hy2308
        refine y_ias (i := i) (len := 1) (r := (0, 0, 0, 0)) (by decide +kernel) hg tIA aw1007 rfl (by omega) (by omega) (sr1 (by omega)) (qin_full _).1 (qin_full _).2 (fun h2309 hg2309 hl2309 hs2309 ho2309 => ?_)
        refine y_inc (j := 4) (a := y2241) (c := 5) (ls' := fun v => [some (.inl (some RA)), some (zi xo), some (zi xy), some (zi xi), some v]) (len := 3) (r := (0, 0, 0, 0)) (by decide +kernel) rfl (fun _ => rfl) (by decide) (by omega) (by omega) (fun y2310 hy2310 => ?_)
        show qX d 72 64 [some (.inl (some RA)), some (zi xo), some (zi xy), some (zi xi), some (zi y2310)] [] h2309 t _
        refine y_goto (off := (-51)) (pc' := 13) (len := 3) (r := (0, 0, 0, 0)) (by decide +kernel) (by decide +kernel) ?_
        refine y_same (i := .iload 4) (len := 2) (r := (0, 0, 0, 0)) (pc' := 15) (ls' := [some (.inl (some RA)), some (zi xo), some (zi xy), some (zi xi), some (zi y2310)]) (st' := [zi y2310]) (by decide +kernel) (fun k q => by cases q) rfl ?_
        refine y_bi (c := 10) (len := 2) (r := (0, 0, 0, 0)) (by decide +kernel) (by decide) (fun y2311 hy2311 => ?_)
        refine y_cF (c := .gt) (off := 50) (len := 3) (r := (0, 0, 0, 0)) (by decide +kernel) (acmpF (c := .gt) (by show _ ≤ _; omega)) ?_
        refine y_same (i := .aload_n 0) (len := 1) (r := (0, 0, 0, 0)) (pc' := 21) (ls' := [some (.inl (some RA)), some (zi xo), some (zi xy), some (zi xi), some (zi y2310)]) (st' := [.inl (some RA)]) (by decide +kernel) (fun k q => by cases q) rfl ?_
        have hv2312 := (ho2309 RA 0 (Or.inl (by omega))).trans pA
        refine y_get (j := 15) (len := 3) (r := (6, 0, 2, 163)) (by decide +kernel) hg2309 tRA aw1004 rfl rfl hv2312 ?_
        refine y_same (i := .iload_n 3) (len := 1) (r := (0, 0, 0, 0)) (pc' := 25) (ls' := [some (.inl (some RA)), some (zi xo), some (zi xy), some (zi xi), some (zi y2310)]) (st' := [zi xi, .inl (some IA)]) (by decide +kernel) (fun k q => by cases q) rfl ?_
        refine y_ial (i := i) (len := 1) (r := (0, 0, 0, 0)) (by decide +kernel) hg2309 tIA aw1007 (by omega) hs2309 ?_
        refine y_same (i := .iload 4) (len := 2) (r := (0, 0, 0, 0)) (pc' := 28) (ls' := [some (.inl (some RA)), some (zi xo), some (zi xy), some (zi xi), some (zi y2310)]) (st' := [zi y2310, zi y2308]) (by decide +kernel) (fun k q => by cases q) rfl ?_
        refine y_bp (i := .ishr) (f := fun x y => x >>> (y &&& 31)) (len := 1) (r := (0, 0, 0, 0)) (by decide +kernel) rfl rfl (fun y2313 hy2313 => ?_)
        have hy2313 : y2313 = y2308 >>> (y2310 &&& 31) := hy2313
        refine y_bi (c := 31) (len := 2) (r := (0, 0, 0, 0)) (by decide +kernel) (by decide) (fun y2314 hy2314 => ?_)
        refine y_bp (i := .iand) (f := fun x y => x &&& y) (len := 1) (r := (0, 0, 0, 0)) (by decide +kernel) rfl rfl (fun y2315 hy2315 => ?_)
        have hy2315 : y2315 = y2313 &&& y2314 := hy2315
        refine y_same (i := .iload_n 1) (len := 1) (r := (0, 0, 0, 0)) (pc' := 33) (ls' := [some (.inl (some RA)), some (zi xo), some (zi xy), some (zi xi), some (zi y2310)]) (st' := [zi xo, zi y2315]) (by decide +kernel) (fun k q => by cases q) rfl ?_
        have ec5 : y2315.toInt = ik.2.2.1 := by
          have e9 := shm2 (A := (ik.1.toNat * 32 + ik.2.1.toNat)) (B := ik.2.2.1.toNat) (C := yo.toNat) (s := 5) (by omega : y2308.toInt = _) (by decide) (by omega) (by omega) (by omega : y2310.toInt = _) hy2314 hy2313 hy2315
          omega
        rcases Decidable.em (y2315.toInt ≠ xo.toInt) with q2316 | q2316
        ·
          refine y_cT (c := .ne) (off := 28) (pc' := 61) (len := 3) (r := (0, 0, 0, 0)) (by decide +kernel) (acmpT (c := .ne) (by show ¬ (_ = _); omega)) (by decide +kernel) ?_
          refine y_inc (j := 4) (a := y2310) (c := 5) (ls' := fun v => [some (.inl (some RA)), some (zi xo), some (zi xy), some (zi xi), some v]) (len := 3) (r := (0, 0, 0, 0)) (by decide +kernel) rfl (fun _ => rfl) (by decide) (by omega) (by omega) (fun y2317 hy2317 => ?_)
          show qX d 72 64 [some (.inl (some RA)), some (zi xo), some (zi xy), some (zi xi), some (zi y2317)] [] h2309 t _
          refine y_goto (off := (-51)) (pc' := 13) (len := 3) (r := (0, 0, 0, 0)) (by decide +kernel) (by decide +kernel) ?_
          refine y_same (i := .iload 4) (len := 2) (r := (0, 0, 0, 0)) (pc' := 15) (ls' := [some (.inl (some RA)), some (zi xo), some (zi xy), some (zi xi), some (zi y2317)]) (st' := [zi y2317]) (by decide +kernel) (fun k q => by cases q) rfl ?_
          refine y_bi (c := 10) (len := 2) (r := (0, 0, 0, 0)) (by decide +kernel) (by decide) (fun y2318 hy2318 => ?_)
          refine y_cF (c := .gt) (off := 50) (len := 3) (r := (0, 0, 0, 0)) (by decide +kernel) (acmpF (c := .gt) (by show _ ≤ _; omega)) ?_
          refine y_same (i := .aload_n 0) (len := 1) (r := (0, 0, 0, 0)) (pc' := 21) (ls' := [some (.inl (some RA)), some (zi xo), some (zi xy), some (zi xi), some (zi y2317)]) (st' := [.inl (some RA)]) (by decide +kernel) (fun k q => by cases q) rfl ?_
          refine y_get (j := 15) (len := 3) (r := (6, 0, 2, 163)) (by decide +kernel) hg2309 tRA aw1004 rfl rfl hv2312 ?_
          refine y_same (i := .iload_n 3) (len := 1) (r := (0, 0, 0, 0)) (pc' := 25) (ls' := [some (.inl (some RA)), some (zi xo), some (zi xy), some (zi xi), some (zi y2317)]) (st' := [zi xi, .inl (some IA)]) (by decide +kernel) (fun k q => by cases q) rfl ?_
          refine y_ial (i := i) (len := 1) (r := (0, 0, 0, 0)) (by decide +kernel) hg2309 tIA aw1007 (by omega) hs2309 ?_
          refine y_same (i := .iload 4) (len := 2) (r := (0, 0, 0, 0)) (pc' := 28) (ls' := [some (.inl (some RA)), some (zi xo), some (zi xy), some (zi xi), some (zi y2317)]) (st' := [zi y2317, zi y2308]) (by decide +kernel) (fun k q => by cases q) rfl ?_
          refine y_bp (i := .ishr) (f := fun x y => x >>> (y &&& 31)) (len := 1) (r := (0, 0, 0, 0)) (by decide +kernel) rfl rfl (fun y2319 hy2319 => ?_)
          have hy2319 : y2319 = y2308 >>> (y2317 &&& 31) := hy2319
          refine y_bi (c := 31) (len := 2) (r := (0, 0, 0, 0)) (by decide +kernel) (by decide) (fun y2320 hy2320 => ?_)
          refine y_bp (i := .iand) (f := fun x y => x &&& y) (len := 1) (r := (0, 0, 0, 0)) (by decide +kernel) rfl rfl (fun y2321 hy2321 => ?_)
          have hy2321 : y2321 = y2319 &&& y2320 := hy2321
          refine y_same (i := .iload_n 1) (len := 1) (r := (0, 0, 0, 0)) (pc' := 33) (ls' := [some (.inl (some RA)), some (zi xo), some (zi xy), some (zi xi), some (zi y2317)]) (st' := [zi xo, zi y2321]) (by decide +kernel) (fun k q => by cases q) rfl ?_
          have ec10 : y2321.toInt = ik.2.1 := by
            have e9 := shm2 (A := ik.1.toNat) (B := ik.2.1.toNat) (C := (ik.2.2.1.toNat * 32 + yo.toNat)) (s := 10) (by omega : y2308.toInt = _) (by decide) (by omega) (by omega) (by omega : y2317.toInt = _) hy2320 hy2319 hy2321
            omega
          rcases Decidable.em (y2321.toInt ≠ xo.toInt) with q2322 | q2322
          ·
            refine y_cT (c := .ne) (off := 28) (pc' := 61) (len := 3) (r := (0, 0, 0, 0)) (by decide +kernel) (acmpT (c := .ne) (by show ¬ (_ = _); omega)) (by decide +kernel) ?_
            refine y_inc (j := 4) (a := y2317) (c := 5) (ls' := fun v => [some (.inl (some RA)), some (zi xo), some (zi xy), some (zi xi), some v]) (len := 3) (r := (0, 0, 0, 0)) (by decide +kernel) rfl (fun _ => rfl) (by decide) (by omega) (by omega) (fun y2323 hy2323 => ?_)
            show qX d 72 64 [some (.inl (some RA)), some (zi xo), some (zi xy), some (zi xi), some (zi y2323)] [] h2309 t _
            refine y_goto (off := (-51)) (pc' := 13) (len := 3) (r := (0, 0, 0, 0)) (by decide +kernel) (by decide +kernel) ?_
            refine y_same (i := .iload 4) (len := 2) (r := (0, 0, 0, 0)) (pc' := 15) (ls' := [some (.inl (some RA)), some (zi xo), some (zi xy), some (zi xi), some (zi y2323)]) (st' := [zi y2323]) (by decide +kernel) (fun k q => by cases q) rfl ?_
            refine y_bi (c := 10) (len := 2) (r := (0, 0, 0, 0)) (by decide +kernel) (by decide) (fun y2324 hy2324 => ?_)
            refine y_cT (c := .gt) (off := 50) (pc' := 67) (len := 3) (r := (0, 0, 0, 0)) (by decide +kernel) (acmpT (c := .gt) (by show _ < _; omega)) (by decide +kernel) ?_
            refine y_inc (j := 3) (a := xi) (c := 1) (ls' := fun v => [some (.inl (some RA)), some (zi xo), some (zi xy), some v, some (zi y2323)]) (len := 3) (r := (0, 0, 0, 0)) (by decide +kernel) rfl (fun _ => rfl) (by decide) (by omega) (by omega) (fun y2325 hy2325 => ?_)
            show qX d 72 70 [some (.inl (some RA)), some (zi xo), some (zi xy), some (zi y2325), some (zi y2323)] [] h2309 t _
            refine y_goto (off := (-68)) (pc' := 2) (len := 3) (r := (0, 0, 0, 0)) (by decide +kernel) (by decide +kernel) ?_
            have en : mI (rnV oo yo) ik = (ik.1, ik.2.1, ik.2.2.1, yo) := by
              unfold mI rnV
              rw [if_neg (by omega)]
              rw [if_neg (by omega)]
              rw [if_pos (by omega)]
            have c9 : ∀ (j : Nat) (q : it4), j < i + 1 → l[j]? = some q → ∃ x : Int32, hsl h2309 IA j = some (zi x) ∧ x.toInt = pk (mI (rnV oo yo) q) := fun j q hj hq => by
              rcases Nat.lt_or_ge j i with q9 | q9
              · obtain ⟨x, e1, e2⟩ := c1 j q q9 hq
                exact ⟨x, ((ho2309 IA j (by omega))).trans e1, e2⟩
              · obtain rfl : j = i := by omega
                cases hk.symm.trans hq
                refine ⟨_, hs2309, ?_⟩
                rw [en]
                unfold pk
                simp only
                omega
            exact ih h2309 (i + 1) y2325 _ hg2309 ((ho2309 RA 0 (by omega)).trans pA) ((ho2309 RA 1 (by omega)).trans hl) c9 (fun j q hj hq => by obtain ⟨x, e1, e2⟩ := c2 j q (by omega) hq; exact ⟨x, ((ho2309 IA j (by omega))).trans e1, e2⟩) (fun k j hC => ((ho2309 k j (by omega))).trans (F0 k j hC)) (by omega) (by omega) (by omega)
          ·
            refine y_cF (c := .ne) (off := 28) (len := 3) (r := (0, 0, 0, 0)) (by decide +kernel) (acmpF (c := .ne) (by show _ = _; omega)) ?_
            refine y_same (i := .aload_n 0) (len := 1) (r := (0, 0, 0, 0)) (pc' := 37) (ls' := [some (.inl (some RA)), some (zi xo), some (zi xy), some (zi xi), some (zi y2317)]) (st' := [.inl (some RA)]) (by decide +kernel) (fun k q => by cases q) rfl ?_
            refine y_get (j := 15) (len := 3) (r := (6, 0, 2, 163)) (by decide +kernel) hg2309 tRA aw1004 rfl rfl hv2312 ?_
            refine y_same (i := .iload_n 3) (len := 1) (r := (0, 0, 0, 0)) (pc' := 41) (ls' := [some (.inl (some RA)), some (zi xo), some (zi xy), some (zi xi), some (zi y2317)]) (st' := [zi xi, .inl (some IA)]) (by decide +kernel) (fun k q => by cases q) rfl ?_
            refine y_same (i := .aload_n 0) (len := 1) (r := (0, 0, 0, 0)) (pc' := 42) (ls' := [some (.inl (some RA)), some (zi xo), some (zi xy), some (zi xi), some (zi y2317)]) (st' := [.inl (some RA), zi xi, .inl (some IA)]) (by decide +kernel) (fun k q => by cases q) rfl ?_
            refine y_get (j := 15) (len := 3) (r := (6, 0, 2, 163)) (by decide +kernel) hg2309 tRA aw1004 rfl rfl hv2312 ?_
            refine y_same (i := .iload_n 3) (len := 1) (r := (0, 0, 0, 0)) (pc' := 46) (ls' := [some (.inl (some RA)), some (zi xo), some (zi xy), some (zi xi), some (zi y2317)]) (st' := [zi xi, .inl (some IA), zi xi, .inl (some IA)]) (by decide +kernel) (fun k q => by cases q) rfl ?_
            refine y_ial (i := i) (len := 1) (r := (0, 0, 0, 0)) (by decide +kernel) hg2309 tIA aw1007 (by omega) hs2309 ?_
            refine y_bi (c := 31) (len := 2) (r := (0, 0, 0, 0)) (by decide +kernel) (by decide) (fun y2326 hy2326 => ?_)
            refine y_same (i := .iload 4) (len := 2) (r := (0, 0, 0, 0)) (pc' := 51) (ls' := [some (.inl (some RA)), some (zi xo), some (zi xy), some (zi xi), some (zi y2317)]) (st' := [zi y2317, zi y2326, zi y2308, zi xi, .inl (some IA)]) (by decide +kernel) (fun k q => by cases q) rfl ?_
            refine y_bp (i := .ishl) (f := fun x y => x <<< (y &&& 31)) (len := 1) (r := (0, 0, 0, 0)) (by decide +kernel) rfl rfl (fun y2327 hy2327 => ?_)
            have hy2327 : y2327 = y2326 <<< (y2317 &&& 31) := hy2327
            refine y_ic (c := (-1)) (len := 1) (r := (0, 0, 0, 0)) (by decide +kernel) (by decide) (fun y2328 hy2328 => ?_)
            refine y_bp (i := .ixor) (f := fun x y => x ^^^ y) (len := 1) (r := (0, 0, 0, 0)) (by decide +kernel) rfl rfl (fun y2329 hy2329 => ?_)
            have hy2329 : y2329 = y2327 ^^^ y2328 := hy2329
            refine y_bp (i := .iand) (f := fun x y => x &&& y) (len := 1) (r := (0, 0, 0, 0)) (by decide +kernel) rfl rfl (fun y2330 hy2330 => ?_)
            have hy2330 : y2330 = y2308 &&& y2329 := hy2330
            refine y_same (i := .iload_n 2) (len := 1) (r := (0, 0, 0, 0)) (pc' := 56) (ls' := [some (.inl (some RA)), some (zi xo), some (zi xy), some (zi xi), some (zi y2317)]) (st' := [zi xy, zi y2330, zi xi, .inl (some IA)]) (by decide +kernel) (fun k q => by cases q) rfl ?_
            refine y_same (i := .iload 4) (len := 2) (r := (0, 0, 0, 0)) (pc' := 58) (ls' := [some (.inl (some RA)), some (zi xo), some (zi xy), some (zi xi), some (zi y2317)]) (st' := [zi y2317, zi xy, zi y2330, zi xi, .inl (some IA)]) (by decide +kernel) (fun k q => by cases q) rfl ?_
            refine y_bp (i := .ishl) (f := fun x y => x <<< (y &&& 31)) (len := 1) (r := (0, 0, 0, 0)) (by decide +kernel) rfl rfl (fun y2331 hy2331 => ?_)
            have hy2331 : y2331 = xy <<< (y2317 &&& 31) := hy2331
            refine y_bp (i := .ior) (f := fun x y => x ||| y) (len := 1) (r := (0, 0, 0, 0)) (by decide +kernel) rfl rfl (fun y2332 hy2332 => ?_)
            have hy2332 : y2332 = y2330 ||| y2331 := hy2332
            have eg10 : y2332.toInt = ((2 ^ (10 + 5) * ik.1.toNat + (2 ^ 10 * yo.toNat + (ik.2.2.1.toNat * 32 + yo.toNat)) : Nat) : Int) := rep_i (v := y2308) (x := y2317) (c31 := y2326) (c1 := y2328) (y := xy) (A := ik.1.toNat) (B := ik.2.1.toNat) (C := (ik.2.2.1.toNat * 32 + yo.toNat)) (s := 10) (w := yo.toNat) (by omega) (by omega) hy2326 hy2328 (by omega) (by omega) (by omega) (by omega) (by omega) (by omega) hy2327 hy2329 hy2330 hy2331 hy2332
            refine y_ias (i := i) (len := 1) (r := (0, 0, 0, 0)) (by decide +kernel) hg2309 tIA aw1007 rfl (by omega) (by omega) (sr1 (by omega)) (qin_full _).1 (qin_full _).2 (fun h2333 hg2333 hl2333 hs2333 ho2333 => ?_)
            refine y_inc (j := 4) (a := y2317) (c := 5) (ls' := fun v => [some (.inl (some RA)), some (zi xo), some (zi xy), some (zi xi), some v]) (len := 3) (r := (0, 0, 0, 0)) (by decide +kernel) rfl (fun _ => rfl) (by decide) (by omega) (by omega) (fun y2334 hy2334 => ?_)
            show qX d 72 64 [some (.inl (some RA)), some (zi xo), some (zi xy), some (zi xi), some (zi y2334)] [] h2333 t _
            refine y_goto (off := (-51)) (pc' := 13) (len := 3) (r := (0, 0, 0, 0)) (by decide +kernel) (by decide +kernel) ?_
            refine y_same (i := .iload 4) (len := 2) (r := (0, 0, 0, 0)) (pc' := 15) (ls' := [some (.inl (some RA)), some (zi xo), some (zi xy), some (zi xi), some (zi y2334)]) (st' := [zi y2334]) (by decide +kernel) (fun k q => by cases q) rfl ?_
            refine y_bi (c := 10) (len := 2) (r := (0, 0, 0, 0)) (by decide +kernel) (by decide) (fun y2335 hy2335 => ?_)
            refine y_cT (c := .gt) (off := 50) (pc' := 67) (len := 3) (r := (0, 0, 0, 0)) (by decide +kernel) (acmpT (c := .gt) (by show _ < _; omega)) (by decide +kernel) ?_
            refine y_inc (j := 3) (a := xi) (c := 1) (ls' := fun v => [some (.inl (some RA)), some (zi xo), some (zi xy), some v, some (zi y2334)]) (len := 3) (r := (0, 0, 0, 0)) (by decide +kernel) rfl (fun _ => rfl) (by decide) (by omega) (by omega) (fun y2336 hy2336 => ?_)
            show qX d 72 70 [some (.inl (some RA)), some (zi xo), some (zi xy), some (zi y2336), some (zi y2334)] [] h2333 t _
            refine y_goto (off := (-68)) (pc' := 2) (len := 3) (r := (0, 0, 0, 0)) (by decide +kernel) (by decide +kernel) ?_
            have en : mI (rnV oo yo) ik = (ik.1, yo, ik.2.2.1, yo) := by
              unfold mI rnV
              rw [if_pos (by omega)]
              rw [if_neg (by omega)]
              rw [if_pos (by omega)]
            have c9 : ∀ (j : Nat) (q : it4), j < i + 1 → l[j]? = some q → ∃ x : Int32, hsl h2333 IA j = some (zi x) ∧ x.toInt = pk (mI (rnV oo yo) q) := fun j q hj hq => by
              rcases Nat.lt_or_ge j i with q9 | q9
              · obtain ⟨x, e1, e2⟩ := c1 j q q9 hq
                exact ⟨x, (((ho2333 IA j (by omega)).trans (ho2309 IA j (by omega)))).trans e1, e2⟩
              · obtain rfl : j = i := by omega
                cases hk.symm.trans hq
                refine ⟨_, hs2333, ?_⟩
                rw [en]
                unfold pk
                simp only
                omega
            exact ih h2333 (i + 1) y2336 _ hg2333 (((ho2333 RA 0 (by omega)).trans (ho2309 RA 0 (by omega))).trans pA) (((ho2333 RA 1 (by omega)).trans (ho2309 RA 1 (by omega))).trans hl) c9 (fun j q hj hq => by obtain ⟨x, e1, e2⟩ := c2 j q (by omega) hq; exact ⟨x, (((ho2333 IA j (by omega)).trans (ho2309 IA j (by omega)))).trans e1, e2⟩) (fun k j hC => (((ho2333 k j (by omega)).trans (ho2309 k j (by omega)))).trans (F0 k j hC)) (by omega) (by omega) (by omega)
        ·
          refine y_cF (c := .ne) (off := 28) (len := 3) (r := (0, 0, 0, 0)) (by decide +kernel) (acmpF (c := .ne) (by show _ = _; omega)) ?_
          refine y_same (i := .aload_n 0) (len := 1) (r := (0, 0, 0, 0)) (pc' := 37) (ls' := [some (.inl (some RA)), some (zi xo), some (zi xy), some (zi xi), some (zi y2310)]) (st' := [.inl (some RA)]) (by decide +kernel) (fun k q => by cases q) rfl ?_
          refine y_get (j := 15) (len := 3) (r := (6, 0, 2, 163)) (by decide +kernel) hg2309 tRA aw1004 rfl rfl hv2312 ?_
          refine y_same (i := .iload_n 3) (len := 1) (r := (0, 0, 0, 0)) (pc' := 41) (ls' := [some (.inl (some RA)), some (zi xo), some (zi xy), some (zi xi), some (zi y2310)]) (st' := [zi xi, .inl (some IA)]) (by decide +kernel) (fun k q => by cases q) rfl ?_
          refine y_same (i := .aload_n 0) (len := 1) (r := (0, 0, 0, 0)) (pc' := 42) (ls' := [some (.inl (some RA)), some (zi xo), some (zi xy), some (zi xi), some (zi y2310)]) (st' := [.inl (some RA), zi xi, .inl (some IA)]) (by decide +kernel) (fun k q => by cases q) rfl ?_
          refine y_get (j := 15) (len := 3) (r := (6, 0, 2, 163)) (by decide +kernel) hg2309 tRA aw1004 rfl rfl hv2312 ?_
          refine y_same (i := .iload_n 3) (len := 1) (r := (0, 0, 0, 0)) (pc' := 46) (ls' := [some (.inl (some RA)), some (zi xo), some (zi xy), some (zi xi), some (zi y2310)]) (st' := [zi xi, .inl (some IA), zi xi, .inl (some IA)]) (by decide +kernel) (fun k q => by cases q) rfl ?_
          refine y_ial (i := i) (len := 1) (r := (0, 0, 0, 0)) (by decide +kernel) hg2309 tIA aw1007 (by omega) hs2309 ?_
          refine y_bi (c := 31) (len := 2) (r := (0, 0, 0, 0)) (by decide +kernel) (by decide) (fun y2337 hy2337 => ?_)
          refine y_same (i := .iload 4) (len := 2) (r := (0, 0, 0, 0)) (pc' := 51) (ls' := [some (.inl (some RA)), some (zi xo), some (zi xy), some (zi xi), some (zi y2310)]) (st' := [zi y2310, zi y2337, zi y2308, zi xi, .inl (some IA)]) (by decide +kernel) (fun k q => by cases q) rfl ?_
          refine y_bp (i := .ishl) (f := fun x y => x <<< (y &&& 31)) (len := 1) (r := (0, 0, 0, 0)) (by decide +kernel) rfl rfl (fun y2338 hy2338 => ?_)
          have hy2338 : y2338 = y2337 <<< (y2310 &&& 31) := hy2338
          refine y_ic (c := (-1)) (len := 1) (r := (0, 0, 0, 0)) (by decide +kernel) (by decide) (fun y2339 hy2339 => ?_)
          refine y_bp (i := .ixor) (f := fun x y => x ^^^ y) (len := 1) (r := (0, 0, 0, 0)) (by decide +kernel) rfl rfl (fun y2340 hy2340 => ?_)
          have hy2340 : y2340 = y2338 ^^^ y2339 := hy2340
          refine y_bp (i := .iand) (f := fun x y => x &&& y) (len := 1) (r := (0, 0, 0, 0)) (by decide +kernel) rfl rfl (fun y2341 hy2341 => ?_)
          have hy2341 : y2341 = y2308 &&& y2340 := hy2341
          refine y_same (i := .iload_n 2) (len := 1) (r := (0, 0, 0, 0)) (pc' := 56) (ls' := [some (.inl (some RA)), some (zi xo), some (zi xy), some (zi xi), some (zi y2310)]) (st' := [zi xy, zi y2341, zi xi, .inl (some IA)]) (by decide +kernel) (fun k q => by cases q) rfl ?_
          refine y_same (i := .iload 4) (len := 2) (r := (0, 0, 0, 0)) (pc' := 58) (ls' := [some (.inl (some RA)), some (zi xo), some (zi xy), some (zi xi), some (zi y2310)]) (st' := [zi y2310, zi xy, zi y2341, zi xi, .inl (some IA)]) (by decide +kernel) (fun k q => by cases q) rfl ?_
          refine y_bp (i := .ishl) (f := fun x y => x <<< (y &&& 31)) (len := 1) (r := (0, 0, 0, 0)) (by decide +kernel) rfl rfl (fun y2342 hy2342 => ?_)
          have hy2342 : y2342 = xy <<< (y2310 &&& 31) := hy2342
          refine y_bp (i := .ior) (f := fun x y => x ||| y) (len := 1) (r := (0, 0, 0, 0)) (by decide +kernel) rfl rfl (fun y2343 hy2343 => ?_)
          have hy2343 : y2343 = y2341 ||| y2342 := hy2343
          have eg5 : y2343.toInt = ((2 ^ (5 + 5) * (ik.1.toNat * 32 + ik.2.1.toNat) + (2 ^ 5 * yo.toNat + yo.toNat) : Nat) : Int) := rep_i (v := y2308) (x := y2310) (c31 := y2337) (c1 := y2339) (y := xy) (A := (ik.1.toNat * 32 + ik.2.1.toNat)) (B := ik.2.2.1.toNat) (C := yo.toNat) (s := 5) (w := yo.toNat) (by omega) (by omega) hy2337 hy2339 (by omega) (by omega) (by omega) (by omega) (by omega) (by omega) hy2338 hy2340 hy2341 hy2342 hy2343
          refine y_ias (i := i) (len := 1) (r := (0, 0, 0, 0)) (by decide +kernel) hg2309 tIA aw1007 rfl (by omega) (by omega) (sr1 (by omega)) (qin_full _).1 (qin_full _).2 (fun h2344 hg2344 hl2344 hs2344 ho2344 => ?_)
          refine y_inc (j := 4) (a := y2310) (c := 5) (ls' := fun v => [some (.inl (some RA)), some (zi xo), some (zi xy), some (zi xi), some v]) (len := 3) (r := (0, 0, 0, 0)) (by decide +kernel) rfl (fun _ => rfl) (by decide) (by omega) (by omega) (fun y2345 hy2345 => ?_)
          show qX d 72 64 [some (.inl (some RA)), some (zi xo), some (zi xy), some (zi xi), some (zi y2345)] [] h2344 t _
          refine y_goto (off := (-51)) (pc' := 13) (len := 3) (r := (0, 0, 0, 0)) (by decide +kernel) (by decide +kernel) ?_
          refine y_same (i := .iload 4) (len := 2) (r := (0, 0, 0, 0)) (pc' := 15) (ls' := [some (.inl (some RA)), some (zi xo), some (zi xy), some (zi xi), some (zi y2345)]) (st' := [zi y2345]) (by decide +kernel) (fun k q => by cases q) rfl ?_
          refine y_bi (c := 10) (len := 2) (r := (0, 0, 0, 0)) (by decide +kernel) (by decide) (fun y2346 hy2346 => ?_)
          refine y_cF (c := .gt) (off := 50) (len := 3) (r := (0, 0, 0, 0)) (by decide +kernel) (acmpF (c := .gt) (by show _ ≤ _; omega)) ?_
          refine y_same (i := .aload_n 0) (len := 1) (r := (0, 0, 0, 0)) (pc' := 21) (ls' := [some (.inl (some RA)), some (zi xo), some (zi xy), some (zi xi), some (zi y2345)]) (st' := [.inl (some RA)]) (by decide +kernel) (fun k q => by cases q) rfl ?_
          have hv2347 := (ho2344 RA 0 (Or.inl (by omega))).trans hv2312
          refine y_get (j := 15) (len := 3) (r := (6, 0, 2, 163)) (by decide +kernel) hg2344 tRA aw1004 rfl rfl hv2347 ?_
          refine y_same (i := .iload_n 3) (len := 1) (r := (0, 0, 0, 0)) (pc' := 25) (ls' := [some (.inl (some RA)), some (zi xo), some (zi xy), some (zi xi), some (zi y2345)]) (st' := [zi xi, .inl (some IA)]) (by decide +kernel) (fun k q => by cases q) rfl ?_
          refine y_ial (i := i) (len := 1) (r := (0, 0, 0, 0)) (by decide +kernel) hg2344 tIA aw1007 (by omega) hs2344 ?_
          refine y_same (i := .iload 4) (len := 2) (r := (0, 0, 0, 0)) (pc' := 28) (ls' := [some (.inl (some RA)), some (zi xo), some (zi xy), some (zi xi), some (zi y2345)]) (st' := [zi y2345, zi y2343]) (by decide +kernel) (fun k q => by cases q) rfl ?_
          refine y_bp (i := .ishr) (f := fun x y => x >>> (y &&& 31)) (len := 1) (r := (0, 0, 0, 0)) (by decide +kernel) rfl rfl (fun y2348 hy2348 => ?_)
          have hy2348 : y2348 = y2343 >>> (y2345 &&& 31) := hy2348
          refine y_bi (c := 31) (len := 2) (r := (0, 0, 0, 0)) (by decide +kernel) (by decide) (fun y2349 hy2349 => ?_)
          refine y_bp (i := .iand) (f := fun x y => x &&& y) (len := 1) (r := (0, 0, 0, 0)) (by decide +kernel) rfl rfl (fun y2350 hy2350 => ?_)
          have hy2350 : y2350 = y2348 &&& y2349 := hy2350
          refine y_same (i := .iload_n 1) (len := 1) (r := (0, 0, 0, 0)) (pc' := 33) (ls' := [some (.inl (some RA)), some (zi xo), some (zi xy), some (zi xi), some (zi y2345)]) (st' := [zi xo, zi y2350]) (by decide +kernel) (fun k q => by cases q) rfl ?_
          have ec10 : y2350.toInt = ik.2.1 := by
            have e9 := shm2 (A := ik.1.toNat) (B := ik.2.1.toNat) (C := (yo.toNat * 32 + yo.toNat)) (s := 10) (by omega : y2343.toInt = _) (by decide) (by omega) (by omega) (by omega : y2345.toInt = _) hy2349 hy2348 hy2350
            omega
          rcases Decidable.em (y2350.toInt ≠ xo.toInt) with q2351 | q2351
          ·
            refine y_cT (c := .ne) (off := 28) (pc' := 61) (len := 3) (r := (0, 0, 0, 0)) (by decide +kernel) (acmpT (c := .ne) (by show ¬ (_ = _); omega)) (by decide +kernel) ?_
            refine y_inc (j := 4) (a := y2345) (c := 5) (ls' := fun v => [some (.inl (some RA)), some (zi xo), some (zi xy), some (zi xi), some v]) (len := 3) (r := (0, 0, 0, 0)) (by decide +kernel) rfl (fun _ => rfl) (by decide) (by omega) (by omega) (fun y2352 hy2352 => ?_)
            show qX d 72 64 [some (.inl (some RA)), some (zi xo), some (zi xy), some (zi xi), some (zi y2352)] [] h2344 t _
            refine y_goto (off := (-51)) (pc' := 13) (len := 3) (r := (0, 0, 0, 0)) (by decide +kernel) (by decide +kernel) ?_
            refine y_same (i := .iload 4) (len := 2) (r := (0, 0, 0, 0)) (pc' := 15) (ls' := [some (.inl (some RA)), some (zi xo), some (zi xy), some (zi xi), some (zi y2352)]) (st' := [zi y2352]) (by decide +kernel) (fun k q => by cases q) rfl ?_
            refine y_bi (c := 10) (len := 2) (r := (0, 0, 0, 0)) (by decide +kernel) (by decide) (fun y2353 hy2353 => ?_)
            refine y_cT (c := .gt) (off := 50) (pc' := 67) (len := 3) (r := (0, 0, 0, 0)) (by decide +kernel) (acmpT (c := .gt) (by show _ < _; omega)) (by decide +kernel) ?_
            refine y_inc (j := 3) (a := xi) (c := 1) (ls' := fun v => [some (.inl (some RA)), some (zi xo), some (zi xy), some v, some (zi y2352)]) (len := 3) (r := (0, 0, 0, 0)) (by decide +kernel) rfl (fun _ => rfl) (by decide) (by omega) (by omega) (fun y2354 hy2354 => ?_)
            show qX d 72 70 [some (.inl (some RA)), some (zi xo), some (zi xy), some (zi y2354), some (zi y2352)] [] h2344 t _
            refine y_goto (off := (-68)) (pc' := 2) (len := 3) (r := (0, 0, 0, 0)) (by decide +kernel) (by decide +kernel) ?_
            have en : mI (rnV oo yo) ik = (ik.1, ik.2.1, yo, yo) := by
              unfold mI rnV
              rw [if_neg (by omega)]
              rw [if_pos (by omega)]
              rw [if_pos (by omega)]
            have c9 : ∀ (j : Nat) (q : it4), j < i + 1 → l[j]? = some q → ∃ x : Int32, hsl h2344 IA j = some (zi x) ∧ x.toInt = pk (mI (rnV oo yo) q) := fun j q hj hq => by
              rcases Nat.lt_or_ge j i with q9 | q9
              · obtain ⟨x, e1, e2⟩ := c1 j q q9 hq
                exact ⟨x, (((ho2344 IA j (by omega)).trans (ho2309 IA j (by omega)))).trans e1, e2⟩
              · obtain rfl : j = i := by omega
                cases hk.symm.trans hq
                refine ⟨_, hs2344, ?_⟩
                rw [en]
                unfold pk
                simp only
                omega
            exact ih h2344 (i + 1) y2354 _ hg2344 (((ho2344 RA 0 (by omega)).trans (ho2309 RA 0 (by omega))).trans pA) (((ho2344 RA 1 (by omega)).trans (ho2309 RA 1 (by omega))).trans hl) c9 (fun j q hj hq => by obtain ⟨x, e1, e2⟩ := c2 j q (by omega) hq; exact ⟨x, (((ho2344 IA j (by omega)).trans (ho2309 IA j (by omega)))).trans e1, e2⟩) (fun k j hC => (((ho2344 k j (by omega)).trans (ho2309 k j (by omega)))).trans (F0 k j hC)) (by omega) (by omega) (by omega)
          ·
            refine y_cF (c := .ne) (off := 28) (len := 3) (r := (0, 0, 0, 0)) (by decide +kernel) (acmpF (c := .ne) (by show _ = _; omega)) ?_
            refine y_same (i := .aload_n 0) (len := 1) (r := (0, 0, 0, 0)) (pc' := 37) (ls' := [some (.inl (some RA)), some (zi xo), some (zi xy), some (zi xi), some (zi y2345)]) (st' := [.inl (some RA)]) (by decide +kernel) (fun k q => by cases q) rfl ?_
            refine y_get (j := 15) (len := 3) (r := (6, 0, 2, 163)) (by decide +kernel) hg2344 tRA aw1004 rfl rfl hv2347 ?_
            refine y_same (i := .iload_n 3) (len := 1) (r := (0, 0, 0, 0)) (pc' := 41) (ls' := [some (.inl (some RA)), some (zi xo), some (zi xy), some (zi xi), some (zi y2345)]) (st' := [zi xi, .inl (some IA)]) (by decide +kernel) (fun k q => by cases q) rfl ?_
            refine y_same (i := .aload_n 0) (len := 1) (r := (0, 0, 0, 0)) (pc' := 42) (ls' := [some (.inl (some RA)), some (zi xo), some (zi xy), some (zi xi), some (zi y2345)]) (st' := [.inl (some RA), zi xi, .inl (some IA)]) (by decide +kernel) (fun k q => by cases q) rfl ?_
            refine y_get (j := 15) (len := 3) (r := (6, 0, 2, 163)) (by decide +kernel) hg2344 tRA aw1004 rfl rfl hv2347 ?_
            refine y_same (i := .iload_n 3) (len := 1) (r := (0, 0, 0, 0)) (pc' := 46) (ls' := [some (.inl (some RA)), some (zi xo), some (zi xy), some (zi xi), some (zi y2345)]) (st' := [zi xi, .inl (some IA), zi xi, .inl (some IA)]) (by decide +kernel) (fun k q => by cases q) rfl ?_
            refine y_ial (i := i) (len := 1) (r := (0, 0, 0, 0)) (by decide +kernel) hg2344 tIA aw1007 (by omega) hs2344 ?_
            refine y_bi (c := 31) (len := 2) (r := (0, 0, 0, 0)) (by decide +kernel) (by decide) (fun y2355 hy2355 => ?_)
            refine y_same (i := .iload 4) (len := 2) (r := (0, 0, 0, 0)) (pc' := 51) (ls' := [some (.inl (some RA)), some (zi xo), some (zi xy), some (zi xi), some (zi y2345)]) (st' := [zi y2345, zi y2355, zi y2343, zi xi, .inl (some IA)]) (by decide +kernel) (fun k q => by cases q) rfl ?_
            refine y_bp (i := .ishl) (f := fun x y => x <<< (y &&& 31)) (len := 1) (r := (0, 0, 0, 0)) (by decide +kernel) rfl rfl (fun y2356 hy2356 => ?_)
            have hy2356 : y2356 = y2355 <<< (y2345 &&& 31) := hy2356
            refine y_ic (c := (-1)) (len := 1) (r := (0, 0, 0, 0)) (by decide +kernel) (by decide) (fun y2357 hy2357 => ?_)
            refine y_bp (i := .ixor) (f := fun x y => x ^^^ y) (len := 1) (r := (0, 0, 0, 0)) (by decide +kernel) rfl rfl (fun y2358 hy2358 => ?_)
            have hy2358 : y2358 = y2356 ^^^ y2357 := hy2358
            refine y_bp (i := .iand) (f := fun x y => x &&& y) (len := 1) (r := (0, 0, 0, 0)) (by decide +kernel) rfl rfl (fun y2359 hy2359 => ?_)
            have hy2359 : y2359 = y2343 &&& y2358 := hy2359
            refine y_same (i := .iload_n 2) (len := 1) (r := (0, 0, 0, 0)) (pc' := 56) (ls' := [some (.inl (some RA)), some (zi xo), some (zi xy), some (zi xi), some (zi y2345)]) (st' := [zi xy, zi y2359, zi xi, .inl (some IA)]) (by decide +kernel) (fun k q => by cases q) rfl ?_
            refine y_same (i := .iload 4) (len := 2) (r := (0, 0, 0, 0)) (pc' := 58) (ls' := [some (.inl (some RA)), some (zi xo), some (zi xy), some (zi xi), some (zi y2345)]) (st' := [zi y2345, zi xy, zi y2359, zi xi, .inl (some IA)]) (by decide +kernel) (fun k q => by cases q) rfl ?_
            refine y_bp (i := .ishl) (f := fun x y => x <<< (y &&& 31)) (len := 1) (r := (0, 0, 0, 0)) (by decide +kernel) rfl rfl (fun y2360 hy2360 => ?_)
            have hy2360 : y2360 = xy <<< (y2345 &&& 31) := hy2360
            refine y_bp (i := .ior) (f := fun x y => x ||| y) (len := 1) (r := (0, 0, 0, 0)) (by decide +kernel) rfl rfl (fun y2361 hy2361 => ?_)
            have hy2361 : y2361 = y2359 ||| y2360 := hy2361
            have eg10 : y2361.toInt = ((2 ^ (10 + 5) * ik.1.toNat + (2 ^ 10 * yo.toNat + (yo.toNat * 32 + yo.toNat)) : Nat) : Int) := rep_i (v := y2343) (x := y2345) (c31 := y2355) (c1 := y2357) (y := xy) (A := ik.1.toNat) (B := ik.2.1.toNat) (C := (yo.toNat * 32 + yo.toNat)) (s := 10) (w := yo.toNat) (by omega) (by omega) hy2355 hy2357 (by omega) (by omega) (by omega) (by omega) (by omega) (by omega) hy2356 hy2358 hy2359 hy2360 hy2361
            refine y_ias (i := i) (len := 1) (r := (0, 0, 0, 0)) (by decide +kernel) hg2344 tIA aw1007 rfl (by omega) (by omega) (sr1 (by omega)) (qin_full _).1 (qin_full _).2 (fun h2362 hg2362 hl2362 hs2362 ho2362 => ?_)
            refine y_inc (j := 4) (a := y2345) (c := 5) (ls' := fun v => [some (.inl (some RA)), some (zi xo), some (zi xy), some (zi xi), some v]) (len := 3) (r := (0, 0, 0, 0)) (by decide +kernel) rfl (fun _ => rfl) (by decide) (by omega) (by omega) (fun y2363 hy2363 => ?_)
            show qX d 72 64 [some (.inl (some RA)), some (zi xo), some (zi xy), some (zi xi), some (zi y2363)] [] h2362 t _
            refine y_goto (off := (-51)) (pc' := 13) (len := 3) (r := (0, 0, 0, 0)) (by decide +kernel) (by decide +kernel) ?_
            refine y_same (i := .iload 4) (len := 2) (r := (0, 0, 0, 0)) (pc' := 15) (ls' := [some (.inl (some RA)), some (zi xo), some (zi xy), some (zi xi), some (zi y2363)]) (st' := [zi y2363]) (by decide +kernel) (fun k q => by cases q) rfl ?_
            refine y_bi (c := 10) (len := 2) (r := (0, 0, 0, 0)) (by decide +kernel) (by decide) (fun y2364 hy2364 => ?_)
            refine y_cT (c := .gt) (off := 50) (pc' := 67) (len := 3) (r := (0, 0, 0, 0)) (by decide +kernel) (acmpT (c := .gt) (by show _ < _; omega)) (by decide +kernel) ?_
            refine y_inc (j := 3) (a := xi) (c := 1) (ls' := fun v => [some (.inl (some RA)), some (zi xo), some (zi xy), some v, some (zi y2363)]) (len := 3) (r := (0, 0, 0, 0)) (by decide +kernel) rfl (fun _ => rfl) (by decide) (by omega) (by omega) (fun y2365 hy2365 => ?_)
            show qX d 72 70 [some (.inl (some RA)), some (zi xo), some (zi xy), some (zi y2365), some (zi y2363)] [] h2362 t _
            refine y_goto (off := (-68)) (pc' := 2) (len := 3) (r := (0, 0, 0, 0)) (by decide +kernel) (by decide +kernel) ?_
            have en : mI (rnV oo yo) ik = (ik.1, yo, yo, yo) := by
              unfold mI rnV
              rw [if_pos (by omega)]
              rw [if_pos (by omega)]
              rw [if_pos (by omega)]
            have c9 : ∀ (j : Nat) (q : it4), j < i + 1 → l[j]? = some q → ∃ x : Int32, hsl h2362 IA j = some (zi x) ∧ x.toInt = pk (mI (rnV oo yo) q) := fun j q hj hq => by
              rcases Nat.lt_or_ge j i with q9 | q9
              · obtain ⟨x, e1, e2⟩ := c1 j q q9 hq
                exact ⟨x, (((ho2362 IA j (by omega)).trans ((ho2344 IA j (by omega)).trans (ho2309 IA j (by omega))))).trans e1, e2⟩
              · obtain rfl : j = i := by omega
                cases hk.symm.trans hq
                refine ⟨_, hs2362, ?_⟩
                rw [en]
                unfold pk
                simp only
                omega
            exact ih h2362 (i + 1) y2365 _ hg2362 (((ho2362 RA 0 (by omega)).trans ((ho2344 RA 0 (by omega)).trans (ho2309 RA 0 (by omega)))).trans pA) (((ho2362 RA 1 (by omega)).trans ((ho2344 RA 1 (by omega)).trans (ho2309 RA 1 (by omega)))).trans hl) c9 (fun j q hj hq => by obtain ⟨x, e1, e2⟩ := c2 j q (by omega) hq; exact ⟨x, (((ho2362 IA j (by omega)).trans ((ho2344 IA j (by omega)).trans (ho2309 IA j (by omega))))).trans e1, e2⟩) (fun k j hC => (((ho2362 k j (by omega)).trans ((ho2344 k j (by omega)).trans (ho2309 k j (by omega))))).trans (F0 k j hC)) (by omega) (by omega) (by omega)
