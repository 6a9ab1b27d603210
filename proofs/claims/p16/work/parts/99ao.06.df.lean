/-! pairs that differ, as bits -/
def okD (D : dfT) : Prop := (∀ a b, D a b → (0 ≤ a ∧ a ≤ 20) ∧ 0 ≤ b ∧ b ≤ 20) ∧ ∀ a b, D a b → D b a
def dC (h : zh) (A o : Nat) (D : dfT) : Prop := ∀ x : Nat, x < 21 → ∃ v : Int32, hsl h A (o + x) = some (zi v) ∧ bs_ v (fun y => D (x : Int) (y : Int))
theorem dC_up {h h1 : zh} {A o : Nat} {D : dfT} (c : dC h A o D) (e : ∀ j, hsl h1 A j = hsl h A j) : dC h1 A o D := fun x hx => by
  obtain ⟨v, e1, e2⟩ := c x hx
  exact ⟨v, (e _).trans e1, e2⟩
def dAdd (D : dfT) (a b : Int) : dfT := fun x y => D x y ∨ (x = a ∧ y = b) ∨ (x = b ∧ y = a)
theorem okD_add {D : dfT} {a b : Int} (o : okD D) (h1 : 0 ≤ a ∧ a ≤ 20) (h2 : 0 ≤ b ∧ b ≤ 20) : okD (dAdd D a b) := by
  refine ⟨fun x y h => ?_, fun x y h => ?_⟩
  · rcases h with h | ⟨e1, e2⟩ | ⟨e1, e2⟩
    · exact o.1 x y h
    · rw [e1, e2]
      exact ⟨h1, h2⟩
    · rw [e1, e2]
      exact ⟨h2, h1⟩
  · rcases h with h | ⟨e1, e2⟩ | ⟨e1, e2⟩
    · exact Or.inl (o.2 x y h)
    · exact Or.inr (Or.inr ⟨e2, e1⟩)
    · exact Or.inr (Or.inl ⟨e2, e1⟩)
theorem c_isv {d t : Nat} {h : zh} {x : Int32} (h0 : 0 ≤ x.toInt) (h1 : x.toInt ≤ 20) : qI (d + 1) 157 [some (zi x)] h t (fun y h1 => h = h1 ∧ y.toInt = 1) := by
  refine qI_of ?_
  refine y_same (i := .iload_n 0) (len := 1) (r := (0, 0, 0, 0)) (pc' := 1) (ls' := [some (zi x)]) (st' := [zi x]) (by decide +kernel) (fun k q => by cases q) rfl ?_
  refine y_iF (c := .lt) (off := 13) (len := 3) (r := (0, 0, 0, 0)) (by decide +kernel) (acmpF (c := .lt) (by show _ ≤ _; omega)) ?_
  refine y_same (i := .iload_n 0) (len := 1) (r := (0, 0, 0, 0)) (pc' := 5) (ls' := [some (zi x)]) (st' := [zi x]) (by decide +kernel) (fun k q => by cases q) rfl ?_
  refine y_bi (c := 21) (len := 2) (r := (0, 0, 0, 0)) (by decide +kernel) (by decide) (fun y2240 hy2240 => ?_)
  refine y_cF (c := .ge) (off := 7) (len := 3) (r := (0, 0, 0, 0)) (by decide +kernel) (acmpF (c := .ge) (by show _ < _; omega)) ?_
  refine y_ic (c := 1) (len := 1) (r := (0, 0, 0, 0)) (by decide +kernel) (by decide) (fun y2241 hy2241 => ?_)
  refine y_goto (off := 4) (pc' := 15) (len := 3) (r := (0, 0, 0, 0)) (by decide +kernel) (by decide +kernel) ?_
  refine y_rI (len := 1) (r := (0, 0, 0, 0)) (nL := 1) (k := 2) (n9 := 1) (hs := []) (by decide +kernel) rfl (zfit_b (by omega) (by omega)).2 ?_
  exact ⟨rfl, by omega⟩
theorem e_dhas {d t a b : Nat} {τ : List Nat} {h : zh} {xa xb : Int32} (hg : hG τ h) {DA OA : Nat} {D : dfT} (tDA : τ[DA]? = some 1009) (tOA : τ[OA]? = some 1010) (pO : hsl h DA 0 = some (.inl (some OA))) (dc : dC h OA 0 D) (exa : xa.toInt = (a : Int)) (ha : a ≤ 20) (exb : xb.toInt = (b : Int)) (hb : b ≤ 20) : qI (d + 2) 3 [some (.inl (some DA)), some (zi xa), some (zi xb)] h t (fun y h1 => h = h1 ∧ ((y.toInt = 1 ∧ D a b) ∨ (y.toInt = 0 ∧ ¬ D a b))) := by
  obtain ⟨xv, hv0, bv⟩ := dc a (by omega)
  have hv : hsl h OA a = some (zi xv) := by
    rw [← Nat.zero_add a]
    exact hv0
  refine qI_of ?_
  refine y_same (i := .iload_n 1) (len := 1) (r := (0, 0, 0, 0)) (pc' := 1) (ls' := [some (.inl (some DA)), some (zi xa), some (zi xb)]) (st' := [zi xa]) (by decide +kernel) (fun k q => by cases q) rfl ?_
  refine y_cI (i := .invokestatic 27) (len := 3) (r := (3, 157, 11, 594)) (nL := 1) (k := 2) (n := 1) (hs := []) (args := [zi xa]) (rest := []) (l0 := [some (zi xa)]) (by decide +kernel) (Or.inl ⟨_, rfl⟩) rfl rfl rfl rfl (Nat.le_of_ble_eq_true rfl) rfl rfl (qI_le (by omega) (c_isv (d := 0) (by omega) (by omega))) (fun y2242 qy2242 hRy2242 => ?_)
  obtain ⟨rfl, ey2242⟩ := hRy2242
  refine y_iF (c := .eq) (off := 28) (len := 3) (r := (0, 0, 0, 0)) (by decide +kernel) (acmpF (c := .eq) (by show ¬ (_ = _); omega)) ?_
  refine y_same (i := .iload_n 2) (len := 1) (r := (0, 0, 0, 0)) (pc' := 8) (ls' := [some (.inl (some DA)), some (zi xa), some (zi xb)]) (st' := [zi xb]) (by decide +kernel) (fun k q => by cases q) rfl ?_
  refine y_cI (i := .invokestatic 27) (len := 3) (r := (3, 157, 11, 594)) (nL := 1) (k := 2) (n := 1) (hs := []) (args := [zi xb]) (rest := []) (l0 := [some (zi xb)]) (by decide +kernel) (Or.inl ⟨_, rfl⟩) rfl rfl rfl rfl (Nat.le_of_ble_eq_true rfl) rfl rfl (qI_le (by omega) (c_isv (d := 0) (by omega) (by omega))) (fun y2243 qy2243 hRy2243 => ?_)
  obtain ⟨rfl, ey2243⟩ := hRy2243
  refine y_iF (c := .eq) (off := 21) (len := 3) (r := (0, 0, 0, 0)) (by decide +kernel) (acmpF (c := .eq) (by show ¬ (_ = _); omega)) ?_
  refine y_same (i := .aload_n 0) (len := 1) (r := (0, 0, 0, 0)) (pc' := 15) (ls' := [some (.inl (some DA)), some (zi xa), some (zi xb)]) (st' := [.inl (some DA)]) (by decide +kernel) (fun k q => by cases q) rfl ?_
  refine y_get (j := 9) (len := 3) (r := (0, 0, 2, 524)) (by decide +kernel) hg tDA aw1009 rfl rfl pO ?_
  refine y_same (i := .iload_n 1) (len := 1) (r := (0, 0, 0, 0)) (pc' := 19) (ls' := [some (.inl (some DA)), some (zi xa), some (zi xb)]) (st' := [zi xa, .inl (some OA)]) (by decide +kernel) (fun k q => by cases q) rfl ?_
  refine y_ial (i := a) (len := 1) (r := (0, 0, 0, 0)) (by decide +kernel) hg tOA aw1010 (by omega) hv ?_
  refine y_same (i := .iload_n 2) (len := 1) (r := (0, 0, 0, 0)) (pc' := 21) (ls' := [some (.inl (some DA)), some (zi xa), some (zi xb)]) (st' := [zi xb, zi xv]) (by decide +kernel) (fun k q => by cases q) rfl ?_
  refine y_bp (i := .ishr) (f := fun x y => x >>> (y &&& 31)) (len := 1) (r := (0, 0, 0, 0)) (by decide +kernel) rfl rfl (fun y2244 hy2244 => ?_)
  have hy2244 : y2244 = xv >>> (xb &&& 31) := hy2244
  refine y_ic (c := 1) (len := 1) (r := (0, 0, 0, 0)) (by decide +kernel) (by decide) (fun y2245 hy2245 => ?_)
  refine y_bp (i := .iand) (f := fun x y => x &&& y) (len := 1) (r := (0, 0, 0, 0)) (by decide +kernel) rfl rfl (fun y2246 hy2246 => ?_)
  have hy2246 : y2246 = y2244 &&& y2245 := hy2246
  refine y_ic (c := 1) (len := 1) (r := (0, 0, 0, 0)) (by decide +kernel) (by decide) (fun y2247 hy2247 => ?_)
  have t9 := bs_t (k := b) bv exb (by omega) hy2244 hy2245 hy2246
  rcases Decidable.em (y2246.toInt ≠ y2247.toInt) with q2248 | q2248
  ·
    refine y_cT (c := .ne) (off := 7) (pc' := 32) (len := 3) (r := (0, 0, 0, 0)) (by decide +kernel) (acmpT (c := .ne) (by show ¬ (_ = _); omega)) (by decide +kernel) ?_
    refine y_ic (c := 0) (len := 1) (r := (0, 0, 0, 0)) (by decide +kernel) (by decide) (fun y2249 hy2249 => ?_)
    refine y_rI (len := 1) (r := (0, 0, 0, 0)) (nL := 3) (k := 2) (n9 := 3) (hs := []) (by decide +kernel) rfl (zfit_b (by omega) (by omega)).2 ?_
    rcases t9 with ⟨q1, q2⟩ | ⟨q1, q2⟩
    · exfalso
      omega
    · exact ⟨rfl, Or.inr ⟨by omega, q2⟩⟩
  ·
    refine y_cF (c := .ne) (off := 7) (len := 3) (r := (0, 0, 0, 0)) (by decide +kernel) (acmpF (c := .ne) (by show _ = _; omega)) ?_
    refine y_ic (c := 1) (len := 1) (r := (0, 0, 0, 0)) (by decide +kernel) (by decide) (fun y2250 hy2250 => ?_)
    refine y_goto (off := 4) (pc' := 33) (len := 3) (r := (0, 0, 0, 0)) (by decide +kernel) (by decide +kernel) ?_
    refine y_rI (len := 1) (r := (0, 0, 0, 0)) (nL := 3) (k := 2) (n9 := 3) (hs := []) (by decide +kernel) rfl (zfit_b (by omega) (by omega)).2 ?_
    rcases t9 with ⟨q1, q2⟩ | ⟨q1, q2⟩
    · exact ⟨rfl, Or.inl ⟨by omega, q2⟩⟩
    · exfalso
      omega
theorem e_dadd {d t a b : Nat} {τ : List Nat} {h : zh} {xa xb : Int32} (hg : hG τ h) {DA OA : Nat} {D : dfT} (tDA : τ[DA]? = some 1009) (tOA : τ[OA]? = some 1010) (pO : hsl h DA 0 = some (.inl (some OA))) (dc : dC h OA 0 D) (n4 : DA ≠ OA) (exa : xa.toInt = (a : Int)) (ha : a ≤ 20) (exb : xb.toInt = (b : Int)) (hb : b ≤ 20) : qV (d + 2) 4 [some (.inl (some DA)), some (zi xa), some (zi xb)] h t (fun h1 => hG τ h1 ∧ dC h1 OA 0 (dAdd D a b) ∧ ∀ k j, k ≠ OA → hsl h1 k j = hsl h k j) := by
  obtain ⟨xv, hv0, bv⟩ := dc a (by omega)
  have hv : hsl h OA a = some (zi xv) := by
    rw [← Nat.zero_add a]
    exact hv0
  refine qV_of ?_
  refine y_same (i := .iload_n 1) (len := 1) (r := (0, 0, 0, 0)) (pc' := 1) (ls' := [some (.inl (some DA)), some (zi xa), some (zi xb)]) (st' := [zi xa]) (by decide +kernel) (fun k q => by cases q) rfl ?_
  refine y_cI (i := .invokestatic 27) (len := 3) (r := (3, 157, 11, 594)) (nL := 1) (k := 2) (n := 1) (hs := []) (args := [zi xa]) (rest := []) (l0 := [some (zi xa)]) (by decide +kernel) (Or.inl ⟨_, rfl⟩) rfl rfl rfl rfl (Nat.le_of_ble_eq_true rfl) rfl rfl (qI_le (by omega) (c_isv (d := 0) (by omega) (by omega))) (fun y2251 qy2251 hRy2251 => ?_)
  obtain ⟨rfl, ey2251⟩ := hRy2251
  refine y_iF (c := .eq) (off := 34) (len := 3) (r := (0, 0, 0, 0)) (by decide +kernel) (acmpF (c := .eq) (by show ¬ (_ = _); omega)) ?_
  refine y_same (i := .iload_n 2) (len := 1) (r := (0, 0, 0, 0)) (pc' := 8) (ls' := [some (.inl (some DA)), some (zi xa), some (zi xb)]) (st' := [zi xb]) (by decide +kernel) (fun k q => by cases q) rfl ?_
  refine y_cI (i := .invokestatic 27) (len := 3) (r := (3, 157, 11, 594)) (nL := 1) (k := 2) (n := 1) (hs := []) (args := [zi xb]) (rest := []) (l0 := [some (zi xb)]) (by decide +kernel) (Or.inl ⟨_, rfl⟩) rfl rfl rfl rfl (Nat.le_of_ble_eq_true rfl) rfl rfl (qI_le (by omega) (c_isv (d := 0) (by omega) (by omega))) (fun y2252 qy2252 hRy2252 => ?_)
  obtain ⟨rfl, ey2252⟩ := hRy2252
  refine y_iF (c := .eq) (off := 27) (len := 3) (r := (0, 0, 0, 0)) (by decide +kernel) (acmpF (c := .eq) (by show ¬ (_ = _); omega)) ?_
  refine y_same (i := .aload_n 0) (len := 1) (r := (0, 0, 0, 0)) (pc' := 15) (ls' := [some (.inl (some DA)), some (zi xa), some (zi xb)]) (st' := [.inl (some DA)]) (by decide +kernel) (fun k q => by cases q) rfl ?_
  refine y_get (j := 9) (len := 3) (r := (0, 0, 2, 524)) (by decide +kernel) hg tDA aw1009 rfl rfl pO ?_
  refine y_same (i := .iload_n 1) (len := 1) (r := (0, 0, 0, 0)) (pc' := 19) (ls' := [some (.inl (some DA)), some (zi xa), some (zi xb)]) (st' := [zi xa, .inl (some OA)]) (by decide +kernel) (fun k q => by cases q) rfl ?_
  refine y_same (i := .dup2) (len := 1) (r := (0, 0, 0, 0)) (pc' := 20) (ls' := [some (.inl (some DA)), some (zi xa), some (zi xb)]) (st' := [zi xa, .inl (some OA), zi xa, .inl (some OA)]) (by decide +kernel) (fun k q => by cases q) rfl ?_
  refine y_ial (i := a) (len := 1) (r := (0, 0, 0, 0)) (by decide +kernel) hg tOA aw1010 (by omega) hv ?_
  refine y_ic (c := 1) (len := 1) (r := (0, 0, 0, 0)) (by decide +kernel) (by decide) (fun y2253 hy2253 => ?_)
  refine y_same (i := .iload_n 2) (len := 1) (r := (0, 0, 0, 0)) (pc' := 23) (ls' := [some (.inl (some DA)), some (zi xa), some (zi xb)]) (st' := [zi xb, zi y2253, zi xv, zi xa, .inl (some OA)]) (by decide +kernel) (fun k q => by cases q) rfl ?_
  refine y_bp (i := .ishl) (f := fun x y => x <<< (y &&& 31)) (len := 1) (r := (0, 0, 0, 0)) (by decide +kernel) rfl rfl (fun y2254 hy2254 => ?_)
  have hy2254 : y2254 = y2253 <<< (xb &&& 31) := hy2254
  refine y_bp (i := .ior) (f := fun x y => x ||| y) (len := 1) (r := (0, 0, 0, 0)) (by decide +kernel) rfl rfl (fun y2255 hy2255 => ?_)
  have hy2255 : y2255 = xv ||| y2254 := hy2255
  refine y_ias (i := a) (len := 1) (r := (0, 0, 0, 0)) (by decide +kernel) hg tOA aw1010 rfl (by omega) (by omega) (sr1 (by omega)) (qin_full _).1 (qin_full _).2 (fun h2256 hg2256 hl2256 hs2256 ho2256 => ?_)
  have b1 := bs_or bv (bs_1 (c := y2253) (y := xb) (k := (b : Int)) hy2253 exb (by omega) (by omega))
  rw [← hy2254, ← hy2255] at b1
  have d1 : dC h2256 OA 0 (fun x y => D x y ∨ (x = (a : Int) ∧ y = (b : Int))) := fun x hx => by
    by_cases q9 : x = a
    · subst q9
      refine ⟨_, by rw [Nat.zero_add]; exact hs2256, bs_cg b1 (fun v _ => ⟨fun q8 => q8.elim Or.inl (fun q7 => Or.inr ⟨rfl, q7.symm⟩), fun q8 => q8.elim Or.inl (fun q7 => Or.inr q7.2.symm)⟩)⟩
    · obtain ⟨v, e1, e2⟩ := dc x hx
      exact ⟨v, (ho2256 OA (0 + x) (by omega)).trans e1, bs_cg e2 (fun v _ => ⟨Or.inl, fun q8 => q8.elim id (fun q7 => absurd q7.1 (by omega))⟩)⟩
  have pO2 : hsl h2256 DA 0 = some (.inl (some OA)) := (ho2256 DA 0 (by omega)).trans pO
  obtain ⟨xw, hw0, bw⟩ := d1 b (by omega)
  have hw : hsl h2256 OA b = some (zi xw) := by
    rw [← Nat.zero_add b]
    exact hw0
  refine y_same (i := .aload_n 0) (len := 1) (r := (0, 0, 0, 0)) (pc' := 27) (ls' := [some (.inl (some DA)), some (zi xa), some (zi xb)]) (st' := [.inl (some DA)]) (by decide +kernel) (fun k q => by cases q) rfl ?_
  refine y_get (j := 9) (len := 3) (r := (0, 0, 2, 524)) (by decide +kernel) hg2256 tDA aw1009 rfl rfl pO2 ?_
  refine y_same (i := .iload_n 2) (len := 1) (r := (0, 0, 0, 0)) (pc' := 31) (ls' := [some (.inl (some DA)), some (zi xa), some (zi xb)]) (st' := [zi xb, .inl (some OA)]) (by decide +kernel) (fun k q => by cases q) rfl ?_
  refine y_same (i := .dup2) (len := 1) (r := (0, 0, 0, 0)) (pc' := 32) (ls' := [some (.inl (some DA)), some (zi xa), some (zi xb)]) (st' := [zi xb, .inl (some OA), zi xb, .inl (some OA)]) (by decide +kernel) (fun k q => by cases q) rfl ?_
  refine y_ial (i := b) (len := 1) (r := (0, 0, 0, 0)) (by decide +kernel) hg2256 tOA aw1010 (by omega) hw ?_
  refine y_ic (c := 1) (len := 1) (r := (0, 0, 0, 0)) (by decide +kernel) (by decide) (fun y2257 hy2257 => ?_)
  refine y_same (i := .iload_n 1) (len := 1) (r := (0, 0, 0, 0)) (pc' := 35) (ls' := [some (.inl (some DA)), some (zi xa), some (zi xb)]) (st' := [zi xa, zi y2257, zi xw, zi xb, .inl (some OA)]) (by decide +kernel) (fun k q => by cases q) rfl ?_
  refine y_bp (i := .ishl) (f := fun x y => x <<< (y &&& 31)) (len := 1) (r := (0, 0, 0, 0)) (by decide +kernel) rfl rfl (fun y2258 hy2258 => ?_)
  have hy2258 : y2258 = y2257 <<< (xa &&& 31) := hy2258
  refine y_bp (i := .ior) (f := fun x y => x ||| y) (len := 1) (r := (0, 0, 0, 0)) (by decide +kernel) rfl rfl (fun y2259 hy2259 => ?_)
  have hy2259 : y2259 = xw ||| y2258 := hy2259
  refine y_ias (i := b) (len := 1) (r := (0, 0, 0, 0)) (by decide +kernel) hg2256 tOA aw1010 rfl (by omega) (by omega) (sr1 (by omega)) (qin_full _).1 (qin_full _).2 (fun h2260 hg2260 hl2260 hs2260 ho2260 => ?_)
  refine y_rV (len := 1) (r := (0, 0, 0, 0)) (nL := 3) (n9 := 3) (hs := []) (by decide +kernel) rfl ?_
  have b2 := bs_or bw (bs_1 (c := y2257) (y := xa) (k := (a : Int)) hy2257 exa (by omega) (by omega))
  rw [← hy2258, ← hy2259] at b2
  refine ⟨hg2260, fun x hx => ?_, fun k j hC => (ho2260 k j (by omega)).trans (ho2256 k j (by omega))⟩
  by_cases q9 : x = b
  · subst q9
    refine ⟨_, by rw [Nat.zero_add]; exact hs2260, bs_cg b2 (fun v _ => ⟨?_, ?_⟩)⟩
    · rintro ((q8 | q8) | q8)
      · exact Or.inl q8
      · exact Or.inr (Or.inl q8)
      · exact Or.inr (Or.inr ⟨rfl, q8.symm⟩)
    · rintro (q8 | q8 | q8)
      · exact Or.inl (Or.inl q8)
      · exact Or.inl (Or.inr q8)
      · exact Or.inr q8.2.symm
  · obtain ⟨v, e1, e2⟩ := d1 x hx
    refine ⟨v, (ho2260 OA (0 + x) (by omega)).trans e1, bs_cg e2 (fun v _ => ⟨?_, ?_⟩)⟩
    · rintro (q8 | q8)
      · exact Or.inl q8
      · exact Or.inr (Or.inl q8)
    · rintro (q8 | q8 | q8)
      · exact Or.inl q8
      · exact Or.inr q8
      · exact absurd q8.1 (by omega)
