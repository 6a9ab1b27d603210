/-! the class's reader: items, sides, the whole text -/
theorem wrd_sk {b : Nat → Int} {n a : Nat} {w : List Int} (ha : a ≤ n) : wrd b n w (sk b n a) = wrd b n w a := by
  unfold wrd
  rw [sk_idem ha]
theorem pvr_sk {b : Nat → Int} {n a : Nat} (ha : a ≤ n) : pvr b n (sk b n a) = pvr b n a := by
  unfold pvr
  rw [sk_idem ha]
theorem ndd_sk {b : Nat → Int} {n a : Nat} {w : List Int} (ha : a ≤ n) : ndd b n w (sk b n a) = ndd b n w a := by
  unfold ndd
  rw [sgn_sk ha, sk_idem ha]
/-- an item in one number -/
def pk (i : it4) : Int := i.1 * 32768 + i.2.1 * 1024 + i.2.2.1 * 32 + i.2.2.2
/-- a row's items -/
def rwC (h : zh) (RP IP : Nat) (l : List it4) : Prop := (∃ x : Int32, hsl h RP 1 = some (zi x) ∧ x.toInt = (l.length : Int)) ∧ ∀ (j : Nat) (i : it4), l[j]? = some i → ∃ x : Int32, hsl h IP j = some (zi x) ∧ x.toInt = pk i
theorem rwC_up {h h1 : zh} {RP IP : Nat} {l : List it4} (r : rwC h RP IP l) (e1 : hsl h1 RP 1 = hsl h RP 1) (e2 : ∀ j, hsl h1 IP j = hsl h IP j) : rwC h1 RP IP l := by
  obtain ⟨⟨x, a, b⟩, c⟩ := r
  refine ⟨⟨x, e1.trans a, b⟩, fun j i hi => ?_⟩
  obtain ⟨y, d, e⟩ := c j i hi
  exact ⟨y, (e2 j).trans d, e⟩
theorem rdc_k {h h1 : zh} {n a : Nat} {b : Nat → Int} (rd : rdC h n a b) (e2 : hsl h1 15 2 = hsl h 15 2) (e3 : hsl h1 15 3 = hsl h 15 3) (e4 : ∀ j, hsl h1 27 j = hsl h 27 j) (e5 : hsl h1 15 5 = hsl h 15 5) : rdC h1 n a b := by
  obtain ⟨⟨xn, hn, en⟩, ⟨xa, ha, ea⟩, hb, hn2, w9, v9, u9⟩ := rd
  refine ⟨⟨xn, e2.trans hn, en⟩, ⟨xa, e3.trans ha, ea⟩, fun j hj => ?_, hn2, w9, e5.trans v9, u9⟩
  obtain ⟨x, q1, q2⟩ := hb j hj
  exact ⟨x, (e4 j).trans q1, q2⟩
theorem pk_tab : ∀ k, k < 4 → ∀ x, x < 6 → ∀ y, y < 6 → ∀ z, z < 6 → ((((nI k <<< ((15 : Int32) &&& 31)) ||| (nI x <<< ((10 : Int32) &&& 31))) ||| (nI y <<< ((5 : Int32) &&& 31))) ||| nI z).toInt = (k : Int) * 32768 + (x : Int) * 1024 + (y : Int) * 32 + (z : Int) := by decide +kernel
/-- which cells the reader's rows are -/
def alC (h : zh) : Prop := hsl h 15 0 = some (.inl (some 16)) ∧ hsl h 16 0 = some (.inl (some 17)) ∧ hsl h 16 1 = some (.inl (some 22)) ∧ hsl h 17 0 = some (.inl (some 18)) ∧ hsl h 17 1 = some (.inl (some 20)) ∧ hsl h 22 0 = some (.inl (some 23)) ∧ hsl h 22 1 = some (.inl (some 25)) ∧ hsl h 18 0 = some (.inl (some 19)) ∧ hsl h 20 0 = some (.inl (some 21)) ∧ hsl h 23 0 = some (.inl (some 24)) ∧ hsl h 25 0 = some (.inl (some 26))
theorem e_packed {d t : Nat} {h : zh} {xk xx xy xz : Int32} (h1 : 0 ≤ xk.toInt) (h2 : xk.toInt ≤ 3) (h3 : 0 ≤ xx.toInt) (h4 : xx.toInt ≤ 5) (h5 : 0 ≤ xy.toInt) (h6 : xy.toInt ≤ 5) (h7 : 0 ≤ xz.toInt) (h8 : xz.toInt ≤ 5) : qI (d + 1) 158 [some (zi xk), some (zi xx), some (zi xy), some (zi xz)] h t (fun y h1 => h = h1 ∧ y.toInt = pk (xk.toInt, xx.toInt, xy.toInt, xz.toInt)) := by
  refine qI_of ?_
  refine y_same (i := .iload_n 0) (len := 1) (r := (0, 0, 0, 0)) (pc' := 1) (ls' := [some (zi xk), some (zi xx), some (zi xy), some (zi xz)]) (st' := [zi xk]) (by decide +kernel) (fun k q => by cases q) rfl ?_
  refine y_bi (c := 15) (len := 2) (r := (0, 0, 0, 0)) (by decide +kernel) (by decide) (fun y454 hy454 => ?_)
  refine y_bp (i := .ishl) (f := fun x y => x <<< (y &&& 31)) (len := 1) (r := (0, 0, 0, 0)) (by decide +kernel) rfl rfl (fun y455 hy455 => ?_)
  have hy455 : y455 = xk <<< (y454 &&& 31) := hy455
  refine y_same (i := .iload_n 1) (len := 1) (r := (0, 0, 0, 0)) (pc' := 5) (ls' := [some (zi xk), some (zi xx), some (zi xy), some (zi xz)]) (st' := [zi xx, zi y455]) (by decide +kernel) (fun k q => by cases q) rfl ?_
  refine y_bi (c := 10) (len := 2) (r := (0, 0, 0, 0)) (by decide +kernel) (by decide) (fun y456 hy456 => ?_)
  refine y_bp (i := .ishl) (f := fun x y => x <<< (y &&& 31)) (len := 1) (r := (0, 0, 0, 0)) (by decide +kernel) rfl rfl (fun y457 hy457 => ?_)
  have hy457 : y457 = xx <<< (y456 &&& 31) := hy457
  refine y_bp (i := .ior) (f := fun x y => x ||| y) (len := 1) (r := (0, 0, 0, 0)) (by decide +kernel) rfl rfl (fun y458 hy458 => ?_)
  have hy458 : y458 = y455 ||| y457 := hy458
  refine y_same (i := .iload_n 2) (len := 1) (r := (0, 0, 0, 0)) (pc' := 10) (ls' := [some (zi xk), some (zi xx), some (zi xy), some (zi xz)]) (st' := [zi xy, zi y458]) (by decide +kernel) (fun k q => by cases q) rfl ?_
  refine y_ic (c := 5) (len := 1) (r := (0, 0, 0, 0)) (by decide +kernel) (by decide) (fun y459 hy459 => ?_)
  refine y_bp (i := .ishl) (f := fun x y => x <<< (y &&& 31)) (len := 1) (r := (0, 0, 0, 0)) (by decide +kernel) rfl rfl (fun y460 hy460 => ?_)
  have hy460 : y460 = xy <<< (y459 &&& 31) := hy460
  refine y_bp (i := .ior) (f := fun x y => x ||| y) (len := 1) (r := (0, 0, 0, 0)) (by decide +kernel) rfl rfl (fun y461 hy461 => ?_)
  have hy461 : y461 = y458 ||| y460 := hy461
  refine y_same (i := .iload_n 3) (len := 1) (r := (0, 0, 0, 0)) (pc' := 14) (ls' := [some (zi xk), some (zi xx), some (zi xy), some (zi xz)]) (st' := [zi xz, zi y461]) (by decide +kernel) (fun k q => by cases q) rfl ?_
  refine y_bp (i := .ior) (f := fun x y => x ||| y) (len := 1) (r := (0, 0, 0, 0)) (by decide +kernel) rfl rfl (fun y462 hy462 => ?_)
  have hy462 : y462 = y461 ||| xz := hy462
  refine y_rI (len := 1) (r := (0, 0, 0, 0)) (nL := 4) (k := 1) (n9 := 4) (hs := []) (by decide +kernel) rfl rfl ?_
  refine ⟨rfl, ?_⟩
  have t := pk_tab xk.toInt.toNat (by omega) xx.toInt.toNat (by omega) xy.toInt.toNat (by omega) xz.toInt.toNat (by omega)
  rw [← nI_is (x := xk) (by omega) (by omega), ← nI_is (x := xx) (by omega) (by omega), ← nI_is (x := xy) (by omega) (by omega), ← nI_is (x := xz) (by omega) (by omega)] at t
  rw [hy462, hy461, hy460, hy458, hy457, hy455, ofI (w := 15) hy454 rfl, ofI (w := 10) hy456 rfl, ofI (w := 5) hy459 rfl]
  unfold pk
  simp only
  omega
theorem e_ins18 {d t : Nat} {τ : List Nat} {h : zh} {l : List it4} {i : it4} {xs xi : Int32} (hg : hG τ h) (al : alC h) (r : rwC h 18 19 l) (hl : l.length < 5) (hs : hsl h 18 1 = some (zi xs)) (hx : xi.toInt = pk i) : qV (d + 1) 68 [some (.inl (some 18)), some (zi xs), some (zi xi), none] h t (fun h1 => ∃ τ1, oF (fun k j => k ≠ 19 ∧ (k ≠ 18 ∨ j ≠ 1)) τ h τ1 h1 ∧ rwC h1 18 19 (l ++ [i])) := by
  obtain ⟨⟨x9, a9, b9⟩, hit⟩ := id r
  rw [hs] at a9
  cases a9
  refine qV_of ?_
  refine y_same (i := .iload_n 1) (len := 1) (r := (0, 0, 0, 0)) (pc' := 1) (ls' := [some (.inl (some 18)), some (zi xs), some (zi xi), none]) (st' := [zi xs]) (by decide +kernel) (fun k q => by cases q) rfl ?_
  refine y_iF (c := .lt) (off := 23) (len := 3) (r := (0, 0, 0, 0)) (by decide +kernel) (acmpF (c := .lt) (by show _ ≤ _; omega)) ?_
  refine y_same (i := .iload_n 1) (len := 1) (r := (0, 0, 0, 0)) (pc' := 5) (ls' := [some (.inl (some 18)), some (zi xs), some (zi xi), none]) (st' := [zi xs]) (by decide +kernel) (fun k q => by cases q) rfl ?_
  refine y_same (i := .aload_n 0) (len := 1) (r := (0, 0, 0, 0)) (pc' := 6) (ls' := [some (.inl (some 18)), some (zi xs), some (zi xi), none]) (st' := [.inl (some 18), zi xs]) (by decide +kernel) (fun k q => by cases q) rfl ?_
  refine y_get (j := 9) (len := 3) (r := (6, 1, 0, 164)) (by decide +kernel) hg (tv18 hg) aw1002 rfl rfl hs ?_
  refine y_cF (c := .gt) (off := 15) (len := 3) (r := (0, 0, 0, 0)) (by decide +kernel) (acmpF (c := .gt) (by show _ ≤ _; omega)) ?_
  refine y_same (i := .aload_n 0) (len := 1) (r := (0, 0, 0, 0)) (pc' := 13) (ls' := [some (.inl (some 18)), some (zi xs), some (zi xi), none]) (st' := [.inl (some 18)]) (by decide +kernel) (fun k q => by cases q) rfl ?_
  refine y_get (j := 9) (len := 3) (r := (6, 1, 0, 164)) (by decide +kernel) hg (tv18 hg) aw1002 rfl rfl hs ?_
  refine y_same (i := .aload_n 0) (len := 1) (r := (0, 0, 0, 0)) (pc' := 17) (ls' := [some (.inl (some 18)), some (zi xs), some (zi xi), none]) (st' := [.inl (some 18), zi xs]) (by decide +kernel) (fun k q => by cases q) rfl ?_
  refine y_get (j := 15) (len := 3) (r := (6, 0, 2, 163)) (by decide +kernel) hg (tv18 hg) aw1002 rfl rfl al.2.2.2.2.2.2.2.1 ?_
  refine y_aln (len := 1) (r := (0, 0, 0, 0)) (by decide +kernel) hg (tv19 hg) aw1005 (by decide) (fun y463 hy463 => ?_)
  refine y_cT (c := .lt) (off := 4) (pc' := 25) (len := 3) (r := (0, 0, 0, 0)) (by decide +kernel) (acmpT (c := .lt) (by show _ < _; omega)) (by decide +kernel) ?_
  refine y_same (i := .aload_n 0) (len := 1) (r := (0, 0, 0, 0)) (pc' := 26) (ls' := [some (.inl (some 18)), some (zi xs), some (zi xi), none]) (st' := [.inl (some 18)]) (by decide +kernel) (fun k q => by cases q) rfl ?_
  refine y_get (j := 9) (len := 3) (r := (6, 1, 0, 164)) (by decide +kernel) hg (tv18 hg) aw1002 rfl rfl hs ?_
  refine y_same (i := .istore_n 3) (len := 1) (r := (0, 0, 0, 0)) (pc' := 30) (ls' := [some (.inl (some 18)), some (zi xs), some (zi xi), some (zi xs)]) (st' := []) (by decide +kernel) (fun k q => by cases q) rfl ?_
  refine y_same (i := .iload_n 3) (len := 1) (r := (0, 0, 0, 0)) (pc' := 31) (ls' := [some (.inl (some 18)), some (zi xs), some (zi xi), some (zi xs)]) (st' := [zi xs]) (by decide +kernel) (fun k q => by cases q) rfl ?_
  refine y_same (i := .iload_n 1) (len := 1) (r := (0, 0, 0, 0)) (pc' := 32) (ls' := [some (.inl (some 18)), some (zi xs), some (zi xi), some (zi xs)]) (st' := [zi xs, zi xs]) (by decide +kernel) (fun k q => by cases q) rfl ?_
  refine y_cT (c := .le) (off := 23) (pc' := 55) (len := 3) (r := (0, 0, 0, 0)) (by decide +kernel) (acmpT (c := .le) (by show _ ≤ _; omega)) (by decide +kernel) ?_
  refine y_same (i := .aload_n 0) (len := 1) (r := (0, 0, 0, 0)) (pc' := 56) (ls' := [some (.inl (some 18)), some (zi xs), some (zi xi), some (zi xs)]) (st' := [.inl (some 18)]) (by decide +kernel) (fun k q => by cases q) rfl ?_
  refine y_get (j := 15) (len := 3) (r := (6, 0, 2, 163)) (by decide +kernel) hg (tv18 hg) aw1002 rfl rfl al.2.2.2.2.2.2.2.1 ?_
  refine y_same (i := .iload_n 1) (len := 1) (r := (0, 0, 0, 0)) (pc' := 60) (ls' := [some (.inl (some 18)), some (zi xs), some (zi xi), some (zi xs)]) (st' := [zi xs, .inl (some 19)]) (by decide +kernel) (fun k q => by cases q) rfl ?_
  refine y_same (i := .iload_n 2) (len := 1) (r := (0, 0, 0, 0)) (pc' := 61) (ls' := [some (.inl (some 18)), some (zi xs), some (zi xi), some (zi xs)]) (st' := [zi xi, zi xs, .inl (some 19)]) (by decide +kernel) (fun k q => by cases q) rfl ?_
  refine y_ias (i := l.length) (len := 1) (r := (0, 0, 0, 0)) (by decide +kernel) hg (tv19 hg) aw1005 rfl (by omega) (by omega) (sr1 (by omega)) (qin_full _).1 (qin_full _).2 (fun h464 hg464 hl464 hs464 ho464 => ?_)
  refine y_same (i := .aload_n 0) (len := 1) (r := (0, 0, 0, 0)) (pc' := 63) (ls' := [some (.inl (some 18)), some (zi xs), some (zi xi), some (zi xs)]) (st' := [.inl (some 18)]) (by decide +kernel) (fun k q => by cases q) rfl ?_
  refine y_same (i := .dup) (len := 1) (r := (0, 0, 0, 0)) (pc' := 64) (ls' := [some (.inl (some 18)), some (zi xs), some (zi xi), some (zi xs)]) (st' := [.inl (some 18), .inl (some 18)]) (by decide +kernel) (fun k q => by cases q) rfl ?_
  have hv465 := (ho464 18 1 (Or.inl (by omega))).trans hs
  refine y_get (j := 9) (len := 3) (r := (6, 1, 0, 164)) (by decide +kernel) hg464 (tv18 hg464) aw1002 rfl rfl hv465 ?_
  refine y_ic (c := 1) (len := 1) (r := (0, 0, 0, 0)) (by decide +kernel) (by decide) (fun y466 hy466 => ?_)
  refine y_add (len := 1) (r := (0, 0, 0, 0)) (by decide +kernel) (by omega) (by omega) (fun y467 hy467 => ?_)
  refine y_put (j := 9) (lo := 0) (hi := 5) (len := 3) (r := (6, 1, 0, 164)) (by decide +kernel) hg464 (tv18 hg464) aw1002 rfl rfl (by decide) rfl (by omega) (by omega) rfl (fun h468 hg468 hl468 hs468 ho468 => ?_)
  have ho468 : hO 18 1 h464 h468 := ho468
  have hs468 : hsl h468 18 1 = some (zi y467) := hs468
  refine y_rV (len := 1) (r := (0, 0, 0, 0)) (nL := 4) (n9 := 3) (hs := []) (by decide +kernel) rfl ?_
  have hv469 := (ho468 19 (l.length) (Or.inl (by omega))).trans hs464
  have F : oF (fun k j => k ≠ 19 ∧ (k ≠ 18 ∨ j ≠ 1)) τ h τ h468 := ⟨(aup_refl _), hg468, fun k T j hk (hC : k ≠ 19 ∧ (k ≠ 18 ∨ j ≠ 1)) => ((ho468 k j (by omega)).trans (ho464 k j (by omega)))⟩
  refine ⟨_, F, ⟨_, hs468, ?_⟩, fun j i' hj => ?_⟩
  · rw [List.length_append]
    simp only [List.length_cons, List.length_nil]
    omega
  · rcases Nat.lt_or_ge j l.length with q | q
    · rw [List.getElem?_append_left q] at hj
      obtain ⟨x, e1, e2⟩ := hit j i' hj
      refine ⟨x, ?_, e2⟩
      exact ((ho468 19 j (Or.inl (by omega))).trans (ho464 19 j (Or.inr (by omega)))).trans e1
    · rw [List.getElem?_append_right q] at hj
      have hj0 : j - l.length = 0 := by
        have := (List.getElem?_eq_some_iff.mp hj).1
        simp at this
        omega
      rw [hj0] at hj
      cases hj
      have hjl : j = l.length := by omega
      subst hjl
      exact ⟨xi, hv469, hx⟩
theorem e_add18 {d t : Nat} {τ : List Nat} {h : zh} {l : List it4} {i : it4} {xi : Int32} (hg : hG τ h) (al : alC h) (r : rwC h 18 19 l) (hl : l.length < 5) (hx : xi.toInt = pk i) : qV (d + 2) 67 [some (.inl (some 18)), some (zi xi)] h t (fun h1 => ∃ τ1, oF (fun k j => k ≠ 19 ∧ (k ≠ 18 ∨ j ≠ 1)) τ h τ1 h1 ∧ rwC h1 18 19 (l ++ [i])) := by
  obtain ⟨⟨xs, hs, b9⟩, hit⟩ := id r
  refine qV_of ?_
  refine y_same (i := .aload_n 0) (len := 1) (r := (0, 0, 0, 0)) (pc' := 1) (ls' := [some (.inl (some 18)), some (zi xi)]) (st' := [.inl (some 18)]) (by decide +kernel) (fun k q => by cases q) rfl ?_
  refine y_same (i := .aload_n 0) (len := 1) (r := (0, 0, 0, 0)) (pc' := 2) (ls' := [some (.inl (some 18)), some (zi xi)]) (st' := [.inl (some 18), .inl (some 18)]) (by decide +kernel) (fun k q => by cases q) rfl ?_
  refine y_get (j := 9) (len := 3) (r := (6, 1, 0, 164)) (by decide +kernel) hg (tv18 hg) aw1002 rfl rfl hs ?_
  refine y_same (i := .iload_n 1) (len := 1) (r := (0, 0, 0, 0)) (pc' := 6) (ls' := [some (.inl (some 18)), some (zi xi)]) (st' := [zi xi, zi xs, .inl (some 18)]) (by decide +kernel) (fun k q => by cases q) rfl ?_
  refine y_cV (i := .invokevirtual 19) (len := 3) (r := (0, 68, 6, 605)) (nL := 4) (k := 0) (n := 3) (hs := []) (args := [.inl (some 18), zi xs, zi xi]) (rest := []) (l0 := [some (.inl (some 18)), some (zi xs), some (zi xi), none]) (by decide +kernel) (Or.inr (Or.inl ⟨_, rfl⟩)) rfl rfl rfl rfl (Nat.le_of_ble_eq_true rfl) (zO hg (tv18 hg) aw1002 rfl) rfl (e_ins18 hg al r hl hs hx) (fun h470 hR470 => ?_)
  refine y_rV (len := 1) (r := (0, 0, 0, 0)) (nL := 2) (n9 := 2) (hs := []) (by decide +kernel) rfl ?_
  exact hR470
theorem e_take18 {t q : Nat} {τ : List Nat} {h : zh} {l : List it4} {i : it4} {xm xi xp : Int32} (hg : hG τ h) (al : alC h) (r : rwC h 18 19 l) (hm : xm.toInt = 5) (hx : xi.toInt = pk i) (hp : xp.toInt = (q : Int)) : qI 6 53 [some (.inl (some 15)), some (.inl (some 18)), some (zi xm), some (zi xi), some (zi xp)] h t (fun y h1 => ∃ τ1, oF (fun k j => k ≠ 19 ∧ (k ≠ 18 ∨ j ≠ 1) ∧ (k ≠ 15 ∨ j < 4)) τ h τ1 h1 ∧ ((l.length < 5 ∧ y.toInt = 1 ∧ rwC h1 18 19 (l ++ [i]) ∧ hsl h1 15 5 = hsl h 15 5) ∨ (l.length = 5 ∧ y.toInt = 0 ∧ flt h1 2 q))) := by
  obtain ⟨⟨xs, hs, b9⟩, hit⟩ := id r
  obtain ⟨x9, h9, l9, u9⟩ := g_int (i := 1) (lo := 0) (hi := 5) hg (tv18 hg) aw1002 (by decide) rfl
  rw [hs] at h9
  cases h9
  refine qI_of ?_
  refine y_same (i := .aload_n 1) (len := 1) (r := (0, 0, 0, 0)) (pc' := 1) (ls' := [some (.inl (some 15)), some (.inl (some 18)), some (zi xm), some (zi xi), some (zi xp)]) (st' := [.inl (some 18)]) (by decide +kernel) (fun k q => by cases q) rfl ?_
  refine y_get (j := 142) (len := 3) (r := (6, 1, 0, 20171)) (by decide +kernel) hg (tv18 hg) aw1002 rfl rfl hs ?_
  refine y_same (i := .iload_n 2) (len := 1) (r := (0, 0, 0, 0)) (pc' := 5) (ls' := [some (.inl (some 15)), some (.inl (some 18)), some (zi xm), some (zi xi), some (zi xp)]) (st' := [zi xm, zi xs]) (by decide +kernel) (fun k q => by cases q) rfl ?_
  rcases Decidable.em (xs.toInt < xm.toInt) with q471 | q471
  ·
    refine y_cT (c := .lt) (off := 11) (pc' := 16) (len := 3) (r := (0, 0, 0, 0)) (by decide +kernel) (acmpT (c := .lt) (by show _ < _; omega)) (by decide +kernel) ?_
    refine y_same (i := .aload_n 1) (len := 1) (r := (0, 0, 0, 0)) (pc' := 17) (ls' := [some (.inl (some 15)), some (.inl (some 18)), some (zi xm), some (zi xi), some (zi xp)]) (st' := [.inl (some 18)]) (by decide +kernel) (fun k q => by cases q) rfl ?_
    refine y_same (i := .iload_n 3) (len := 1) (r := (0, 0, 0, 0)) (pc' := 18) (ls' := [some (.inl (some 15)), some (.inl (some 18)), some (zi xm), some (zi xi), some (zi xp)]) (st' := [zi xi, .inl (some 18)]) (by decide +kernel) (fun k q => by cases q) rfl ?_
    refine y_cV (i := .invokevirtual 151) (len := 3) (r := (0, 67, 6, 1036)) (nL := 2) (k := 0) (n := 2) (hs := []) (args := [.inl (some 18), zi xi]) (rest := []) (l0 := [some (.inl (some 18)), some (zi xi)]) (by decide +kernel) (Or.inr (Or.inl ⟨_, rfl⟩)) rfl rfl rfl rfl (Nat.le_of_ble_eq_true rfl) (zO hg (tv18 hg) aw1002 rfl) rfl (qV_le (by decide) (e_add18 (d := 0) hg al r (by omega) hx)) (fun h472 hR472 => ?_)
    obtain ⟨τ472, O472, r472⟩ := hR472
    refine y_ic (c := 1) (len := 1) (r := (0, 0, 0, 0)) (by decide +kernel) (by decide) (fun y473 hy473 => ?_)
    refine y_rI (len := 1) (r := (0, 0, 0, 0)) (nL := 5) (k := 2) (n9 := 5) (hs := []) (by decide +kernel) rfl (zfit_b (by omega) (by omega)).2 ?_
    exact ⟨_, ⟨O472.1, O472.2.1, fun k T j hk (hC : k ≠ 19 ∧ (k ≠ 18 ∨ j ≠ 1) ∧ (k ≠ 15 ∨ j < 4)) => (O472.2.2 k T j hk (show k ≠ 19 ∧ (k ≠ 18 ∨ j ≠ 1) by omega))⟩, Or.inl ⟨by omega, by omega, r472, O472.2.2 15 15 5 (tv15 hg) (show 15 ≠ 19 ∧ (15 ≠ 18 ∨ 5 ≠ 1) by omega)⟩⟩
  ·
    refine y_cF (c := .lt) (off := 11) (len := 3) (r := (0, 0, 0, 0)) (by decide +kernel) (acmpF (c := .lt) (by show _ ≤ _; omega)) ?_
    refine y_same (i := .aload_n 0) (len := 1) (r := (0, 0, 0, 0)) (pc' := 9) (ls' := [some (.inl (some 15)), some (.inl (some 18)), some (zi xm), some (zi xi), some (zi xp)]) (st' := [.inl (some 15)]) (by decide +kernel) (fun k q => by cases q) rfl ?_
    refine y_ic (c := 2) (len := 1) (r := (0, 0, 0, 0)) (by decide +kernel) (by decide) (fun y474 hy474 => ?_)
    refine y_same (i := .iload 4) (len := 2) (r := (0, 0, 0, 0)) (pc' := 12) (ls' := [some (.inl (some 15)), some (.inl (some 18)), some (zi xm), some (zi xi), some (zi xp)]) (st' := [zi xp, zi y474, .inl (some 15)]) (by decide +kernel) (fun k q => by cases q) rfl ?_
    refine y_cI (i := .invokevirtual 147) (len := 3) (r := (0, 61, 5, 1021)) (nL := 3) (k := 2) (n := 3) (hs := []) (args := [.inl (some 15), zi y474, zi xp]) (rest := []) (l0 := [some (.inl (some 15)), some (zi y474), some (zi xp)]) (by decide +kernel) (Or.inr (Or.inl ⟨_, rfl⟩)) rfl rfl rfl rfl (Nat.le_of_ble_eq_true rfl) (zO hg (tv15 hg) aw15 rfl) rfl (qI_le (by decide) (e_refuse (d := 0) (r := 2) (q := q) hg (by omega) (by omega))) (fun y475 h475 hRy475 => ?_)
    obtain ⟨z475, τ475, O475, fl475⟩ := hRy475
    refine y_rI (len := 1) (r := (0, 0, 0, 0)) (nL := 5) (k := 2) (n9 := 5) (hs := []) (by decide +kernel) rfl (zfit_b (by omega) (by omega)).2 ?_
    exact ⟨_, ⟨O475.1, O475.2.1, fun k T j hk (hC : k ≠ 19 ∧ (k ≠ 18 ∨ j ≠ 1) ∧ (k ≠ 15 ∨ j < 4)) => (O475.2.2 k T j hk (show k ≠ 15 ∨ j < 4 by omega))⟩, Or.inr ⟨by omega, by omega, fl475⟩⟩
theorem e_ins20 {d t : Nat} {τ : List Nat} {h : zh} {l : List it4} {i : it4} {xs xi : Int32} (hg : hG τ h) (al : alC h) (r : rwC h 20 21 l) (hl : l.length < 6) (hs : hsl h 20 1 = some (zi xs)) (hx : xi.toInt = pk i) : qV (d + 1) 68 [some (.inl (some 20)), some (zi xs), some (zi xi), none] h t (fun h1 => ∃ τ1, oF (fun k j => k ≠ 21 ∧ (k ≠ 20 ∨ j ≠ 1)) τ h τ1 h1 ∧ rwC h1 20 21 (l ++ [i])) := by
  obtain ⟨⟨x9, a9, b9⟩, hit⟩ := id r
  rw [hs] at a9
  cases a9
  refine qV_of ?_
  refine y_same (i := .iload_n 1) (len := 1) (r := (0, 0, 0, 0)) (pc' := 1) (ls' := [some (.inl (some 20)), some (zi xs), some (zi xi), none]) (st' := [zi xs]) (by decide +kernel) (fun k q => by cases q) rfl ?_
  refine y_iF (c := .lt) (off := 23) (len := 3) (r := (0, 0, 0, 0)) (by decide +kernel) (acmpF (c := .lt) (by show _ ≤ _; omega)) ?_
  refine y_same (i := .iload_n 1) (len := 1) (r := (0, 0, 0, 0)) (pc' := 5) (ls' := [some (.inl (some 20)), some (zi xs), some (zi xi), none]) (st' := [zi xs]) (by decide +kernel) (fun k q => by cases q) rfl ?_
  refine y_same (i := .aload_n 0) (len := 1) (r := (0, 0, 0, 0)) (pc' := 6) (ls' := [some (.inl (some 20)), some (zi xs), some (zi xi), none]) (st' := [.inl (some 20), zi xs]) (by decide +kernel) (fun k q => by cases q) rfl ?_
  refine y_get (j := 9) (len := 3) (r := (6, 1, 0, 164)) (by decide +kernel) hg (tv20 hg) aw1003 rfl rfl hs ?_
  refine y_cF (c := .gt) (off := 15) (len := 3) (r := (0, 0, 0, 0)) (by decide +kernel) (acmpF (c := .gt) (by show _ ≤ _; omega)) ?_
  refine y_same (i := .aload_n 0) (len := 1) (r := (0, 0, 0, 0)) (pc' := 13) (ls' := [some (.inl (some 20)), some (zi xs), some (zi xi), none]) (st' := [.inl (some 20)]) (by decide +kernel) (fun k q => by cases q) rfl ?_
  refine y_get (j := 9) (len := 3) (r := (6, 1, 0, 164)) (by decide +kernel) hg (tv20 hg) aw1003 rfl rfl hs ?_
  refine y_same (i := .aload_n 0) (len := 1) (r := (0, 0, 0, 0)) (pc' := 17) (ls' := [some (.inl (some 20)), some (zi xs), some (zi xi), none]) (st' := [.inl (some 20), zi xs]) (by decide +kernel) (fun k q => by cases q) rfl ?_
  refine y_get (j := 15) (len := 3) (r := (6, 0, 2, 163)) (by decide +kernel) hg (tv20 hg) aw1003 rfl rfl al.2.2.2.2.2.2.2.2.1 ?_
  refine y_aln (len := 1) (r := (0, 0, 0, 0)) (by decide +kernel) hg (tv21 hg) aw1006 (by decide) (fun y476 hy476 => ?_)
  refine y_cT (c := .lt) (off := 4) (pc' := 25) (len := 3) (r := (0, 0, 0, 0)) (by decide +kernel) (acmpT (c := .lt) (by show _ < _; omega)) (by decide +kernel) ?_
  refine y_same (i := .aload_n 0) (len := 1) (r := (0, 0, 0, 0)) (pc' := 26) (ls' := [some (.inl (some 20)), some (zi xs), some (zi xi), none]) (st' := [.inl (some 20)]) (by decide +kernel) (fun k q => by cases q) rfl ?_
  refine y_get (j := 9) (len := 3) (r := (6, 1, 0, 164)) (by decide +kernel) hg (tv20 hg) aw1003 rfl rfl hs ?_
  refine y_same (i := .istore_n 3) (len := 1) (r := (0, 0, 0, 0)) (pc' := 30) (ls' := [some (.inl (some 20)), some (zi xs), some (zi xi), some (zi xs)]) (st' := []) (by decide +kernel) (fun k q => by cases q) rfl ?_
  refine y_same (i := .iload_n 3) (len := 1) (r := (0, 0, 0, 0)) (pc' := 31) (ls' := [some (.inl (some 20)), some (zi xs), some (zi xi), some (zi xs)]) (st' := [zi xs]) (by decide +kernel) (fun k q => by cases q) rfl ?_
  refine y_same (i := .iload_n 1) (len := 1) (r := (0, 0, 0, 0)) (pc' := 32) (ls' := [some (.inl (some 20)), some (zi xs), some (zi xi), some (zi xs)]) (st' := [zi xs, zi xs]) (by decide +kernel) (fun k q => by cases q) rfl ?_
  refine y_cT (c := .le) (off := 23) (pc' := 55) (len := 3) (r := (0, 0, 0, 0)) (by decide +kernel) (acmpT (c := .le) (by show _ ≤ _; omega)) (by decide +kernel) ?_
  refine y_same (i := .aload_n 0) (len := 1) (r := (0, 0, 0, 0)) (pc' := 56) (ls' := [some (.inl (some 20)), some (zi xs), some (zi xi), some (zi xs)]) (st' := [.inl (some 20)]) (by decide +kernel) (fun k q => by cases q) rfl ?_
  refine y_get (j := 15) (len := 3) (r := (6, 0, 2, 163)) (by decide +kernel) hg (tv20 hg) aw1003 rfl rfl al.2.2.2.2.2.2.2.2.1 ?_
  refine y_same (i := .iload_n 1) (len := 1) (r := (0, 0, 0, 0)) (pc' := 60) (ls' := [some (.inl (some 20)), some (zi xs), some (zi xi), some (zi xs)]) (st' := [zi xs, .inl (some 21)]) (by decide +kernel) (fun k q => by cases q) rfl ?_
  refine y_same (i := .iload_n 2) (len := 1) (r := (0, 0, 0, 0)) (pc' := 61) (ls' := [some (.inl (some 20)), some (zi xs), some (zi xi), some (zi xs)]) (st' := [zi xi, zi xs, .inl (some 21)]) (by decide +kernel) (fun k q => by cases q) rfl ?_
  refine y_ias (i := l.length) (len := 1) (r := (0, 0, 0, 0)) (by decide +kernel) hg (tv21 hg) aw1006 rfl (by omega) (by omega) (sr1 (by omega)) (qin_full _).1 (qin_full _).2 (fun h477 hg477 hl477 hs477 ho477 => ?_)
  refine y_same (i := .aload_n 0) (len := 1) (r := (0, 0, 0, 0)) (pc' := 63) (ls' := [some (.inl (some 20)), some (zi xs), some (zi xi), some (zi xs)]) (st' := [.inl (some 20)]) (by decide +kernel) (fun k q => by cases q) rfl ?_
  refine y_same (i := .dup) (len := 1) (r := (0, 0, 0, 0)) (pc' := 64) (ls' := [some (.inl (some 20)), some (zi xs), some (zi xi), some (zi xs)]) (st' := [.inl (some 20), .inl (some 20)]) (by decide +kernel) (fun k q => by cases q) rfl ?_
  have hv478 := (ho477 20 1 (Or.inl (by omega))).trans hs
  refine y_get (j := 9) (len := 3) (r := (6, 1, 0, 164)) (by decide +kernel) hg477 (tv20 hg477) aw1003 rfl rfl hv478 ?_
  refine y_ic (c := 1) (len := 1) (r := (0, 0, 0, 0)) (by decide +kernel) (by decide) (fun y479 hy479 => ?_)
  refine y_add (len := 1) (r := (0, 0, 0, 0)) (by decide +kernel) (by omega) (by omega) (fun y480 hy480 => ?_)
  refine y_put (j := 9) (lo := 0) (hi := 6) (len := 3) (r := (6, 1, 0, 164)) (by decide +kernel) hg477 (tv20 hg477) aw1003 rfl rfl (by decide) rfl (by omega) (by omega) rfl (fun h481 hg481 hl481 hs481 ho481 => ?_)
  have ho481 : hO 20 1 h477 h481 := ho481
  have hs481 : hsl h481 20 1 = some (zi y480) := hs481
  refine y_rV (len := 1) (r := (0, 0, 0, 0)) (nL := 4) (n9 := 3) (hs := []) (by decide +kernel) rfl ?_
  have hv482 := (ho481 21 (l.length) (Or.inl (by omega))).trans hs477
  have F : oF (fun k j => k ≠ 21 ∧ (k ≠ 20 ∨ j ≠ 1)) τ h τ h481 := ⟨(aup_refl _), hg481, fun k T j hk (hC : k ≠ 21 ∧ (k ≠ 20 ∨ j ≠ 1)) => ((ho481 k j (by omega)).trans (ho477 k j (by omega)))⟩
  refine ⟨_, F, ⟨_, hs481, ?_⟩, fun j i' hj => ?_⟩
  · rw [List.length_append]
    simp only [List.length_cons, List.length_nil]
    omega
  · rcases Nat.lt_or_ge j l.length with q | q
    · rw [List.getElem?_append_left q] at hj
      obtain ⟨x, e1, e2⟩ := hit j i' hj
      refine ⟨x, ?_, e2⟩
      exact ((ho481 21 j (Or.inl (by omega))).trans (ho477 21 j (Or.inr (by omega)))).trans e1
    · rw [List.getElem?_append_right q] at hj
      have hj0 : j - l.length = 0 := by
        have := (List.getElem?_eq_some_iff.mp hj).1
        simp at this
        omega
      rw [hj0] at hj
      cases hj
      have hjl : j = l.length := by omega
      subst hjl
      exact ⟨xi, hv482, hx⟩
theorem e_add20 {d t : Nat} {τ : List Nat} {h : zh} {l : List it4} {i : it4} {xi : Int32} (hg : hG τ h) (al : alC h) (r : rwC h 20 21 l) (hl : l.length < 6) (hx : xi.toInt = pk i) : qV (d + 2) 67 [some (.inl (some 20)), some (zi xi)] h t (fun h1 => ∃ τ1, oF (fun k j => k ≠ 21 ∧ (k ≠ 20 ∨ j ≠ 1)) τ h τ1 h1 ∧ rwC h1 20 21 (l ++ [i])) := by
  obtain ⟨⟨xs, hs, b9⟩, hit⟩ := id r
  refine qV_of ?_
  refine y_same (i := .aload_n 0) (len := 1) (r := (0, 0, 0, 0)) (pc' := 1) (ls' := [some (.inl (some 20)), some (zi xi)]) (st' := [.inl (some 20)]) (by decide +kernel) (fun k q => by cases q) rfl ?_
  refine y_same (i := .aload_n 0) (len := 1) (r := (0, 0, 0, 0)) (pc' := 2) (ls' := [some (.inl (some 20)), some (zi xi)]) (st' := [.inl (some 20), .inl (some 20)]) (by decide +kernel) (fun k q => by cases q) rfl ?_
  refine y_get (j := 9) (len := 3) (r := (6, 1, 0, 164)) (by decide +kernel) hg (tv20 hg) aw1003 rfl rfl hs ?_
  refine y_same (i := .iload_n 1) (len := 1) (r := (0, 0, 0, 0)) (pc' := 6) (ls' := [some (.inl (some 20)), some (zi xi)]) (st' := [zi xi, zi xs, .inl (some 20)]) (by decide +kernel) (fun k q => by cases q) rfl ?_
  refine y_cV (i := .invokevirtual 19) (len := 3) (r := (0, 68, 6, 605)) (nL := 4) (k := 0) (n := 3) (hs := []) (args := [.inl (some 20), zi xs, zi xi]) (rest := []) (l0 := [some (.inl (some 20)), some (zi xs), some (zi xi), none]) (by decide +kernel) (Or.inr (Or.inl ⟨_, rfl⟩)) rfl rfl rfl rfl (Nat.le_of_ble_eq_true rfl) (zO hg (tv20 hg) aw1003 rfl) rfl (e_ins20 hg al r hl hs hx) (fun h483 hR483 => ?_)
  refine y_rV (len := 1) (r := (0, 0, 0, 0)) (nL := 2) (n9 := 2) (hs := []) (by decide +kernel) rfl ?_
  exact hR483
theorem e_take20 {t q : Nat} {τ : List Nat} {h : zh} {l : List it4} {i : it4} {xm xi xp : Int32} (hg : hG τ h) (al : alC h) (r : rwC h 20 21 l) (hm : xm.toInt = 6) (hx : xi.toInt = pk i) (hp : xp.toInt = (q : Int)) : qI 6 53 [some (.inl (some 15)), some (.inl (some 20)), some (zi xm), some (zi xi), some (zi xp)] h t (fun y h1 => ∃ τ1, oF (fun k j => k ≠ 21 ∧ (k ≠ 20 ∨ j ≠ 1) ∧ (k ≠ 15 ∨ j < 4)) τ h τ1 h1 ∧ ((l.length < 6 ∧ y.toInt = 1 ∧ rwC h1 20 21 (l ++ [i]) ∧ hsl h1 15 5 = hsl h 15 5) ∨ (l.length = 6 ∧ y.toInt = 0 ∧ flt h1 2 q))) := by
  obtain ⟨⟨xs, hs, b9⟩, hit⟩ := id r
  obtain ⟨x9, h9, l9, u9⟩ := g_int (i := 1) (lo := 0) (hi := 6) hg (tv20 hg) aw1003 (by decide) rfl
  rw [hs] at h9
  cases h9
  refine qI_of ?_
  refine y_same (i := .aload_n 1) (len := 1) (r := (0, 0, 0, 0)) (pc' := 1) (ls' := [some (.inl (some 15)), some (.inl (some 20)), some (zi xm), some (zi xi), some (zi xp)]) (st' := [.inl (some 20)]) (by decide +kernel) (fun k q => by cases q) rfl ?_
  refine y_get (j := 142) (len := 3) (r := (6, 1, 0, 20171)) (by decide +kernel) hg (tv20 hg) aw1003 rfl rfl hs ?_
  refine y_same (i := .iload_n 2) (len := 1) (r := (0, 0, 0, 0)) (pc' := 5) (ls' := [some (.inl (some 15)), some (.inl (some 20)), some (zi xm), some (zi xi), some (zi xp)]) (st' := [zi xm, zi xs]) (by decide +kernel) (fun k q => by cases q) rfl ?_
  rcases Decidable.em (xs.toInt < xm.toInt) with q484 | q484
  ·
    refine y_cT (c := .lt) (off := 11) (pc' := 16) (len := 3) (r := (0, 0, 0, 0)) (by decide +kernel) (acmpT (c := .lt) (by show _ < _; omega)) (by decide +kernel) ?_
    refine y_same (i := .aload_n 1) (len := 1) (r := (0, 0, 0, 0)) (pc' := 17) (ls' := [some (.inl (some 15)), some (.inl (some 20)), some (zi xm), some (zi xi), some (zi xp)]) (st' := [.inl (some 20)]) (by decide +kernel) (fun k q => by cases q) rfl ?_
    refine y_same (i := .iload_n 3) (len := 1) (r := (0, 0, 0, 0)) (pc' := 18) (ls' := [some (.inl (some 15)), some (.inl (some 20)), some (zi xm), some (zi xi), some (zi xp)]) (st' := [zi xi, .inl (some 20)]) (by decide +kernel) (fun k q => by cases q) rfl ?_
    refine y_cV (i := .invokevirtual 151) (len := 3) (r := (0, 67, 6, 1036)) (nL := 2) (k := 0) (n := 2) (hs := []) (args := [.inl (some 20), zi xi]) (rest := []) (l0 := [some (.inl (some 20)), some (zi xi)]) (by decide +kernel) (Or.inr (Or.inl ⟨_, rfl⟩)) rfl rfl rfl rfl (Nat.le_of_ble_eq_true rfl) (zO hg (tv20 hg) aw1003 rfl) rfl (qV_le (by decide) (e_add20 (d := 0) hg al r (by omega) hx)) (fun h485 hR485 => ?_)
    obtain ⟨τ485, O485, r485⟩ := hR485
    refine y_ic (c := 1) (len := 1) (r := (0, 0, 0, 0)) (by decide +kernel) (by decide) (fun y486 hy486 => ?_)
    refine y_rI (len := 1) (r := (0, 0, 0, 0)) (nL := 5) (k := 2) (n9 := 5) (hs := []) (by decide +kernel) rfl (zfit_b (by omega) (by omega)).2 ?_
    exact ⟨_, ⟨O485.1, O485.2.1, fun k T j hk (hC : k ≠ 21 ∧ (k ≠ 20 ∨ j ≠ 1) ∧ (k ≠ 15 ∨ j < 4)) => (O485.2.2 k T j hk (show k ≠ 21 ∧ (k ≠ 20 ∨ j ≠ 1) by omega))⟩, Or.inl ⟨by omega, by omega, r485, O485.2.2 15 15 5 (tv15 hg) (show 15 ≠ 21 ∧ (15 ≠ 20 ∨ 5 ≠ 1) by omega)⟩⟩
  ·
    refine y_cF (c := .lt) (off := 11) (len := 3) (r := (0, 0, 0, 0)) (by decide +kernel) (acmpF (c := .lt) (by show _ ≤ _; omega)) ?_
    refine y_same (i := .aload_n 0) (len := 1) (r := (0, 0, 0, 0)) (pc' := 9) (ls' := [some (.inl (some 15)), some (.inl (some 20)), some (zi xm), some (zi xi), some (zi xp)]) (st' := [.inl (some 15)]) (by decide +kernel) (fun k q => by cases q) rfl ?_
    refine y_ic (c := 2) (len := 1) (r := (0, 0, 0, 0)) (by decide +kernel) (by decide) (fun y487 hy487 => ?_)
    refine y_same (i := .iload 4) (len := 2) (r := (0, 0, 0, 0)) (pc' := 12) (ls' := [some (.inl (some 15)), some (.inl (some 20)), some (zi xm), some (zi xi), some (zi xp)]) (st' := [zi xp, zi y487, .inl (some 15)]) (by decide +kernel) (fun k q => by cases q) rfl ?_
    refine y_cI (i := .invokevirtual 147) (len := 3) (r := (0, 61, 5, 1021)) (nL := 3) (k := 2) (n := 3) (hs := []) (args := [.inl (some 15), zi y487, zi xp]) (rest := []) (l0 := [some (.inl (some 15)), some (zi y487), some (zi xp)]) (by decide +kernel) (Or.inr (Or.inl ⟨_, rfl⟩)) rfl rfl rfl rfl (Nat.le_of_ble_eq_true rfl) (zO hg (tv15 hg) aw15 rfl) rfl (qI_le (by decide) (e_refuse (d := 0) (r := 2) (q := q) hg (by omega) (by omega))) (fun y488 h488 hRy488 => ?_)
    obtain ⟨z488, τ488, O488, fl488⟩ := hRy488
    refine y_rI (len := 1) (r := (0, 0, 0, 0)) (nL := 5) (k := 2) (n9 := 5) (hs := []) (by decide +kernel) rfl (zfit_b (by omega) (by omega)).2 ?_
    exact ⟨_, ⟨O488.1, O488.2.1, fun k T j hk (hC : k ≠ 21 ∧ (k ≠ 20 ∨ j ≠ 1) ∧ (k ≠ 15 ∨ j < 4)) => (O488.2.2 k T j hk (show k ≠ 15 ∨ j < 4 by omega))⟩, Or.inr ⟨by omega, by omega, fl488⟩⟩
theorem e_ins23 {d t : Nat} {τ : List Nat} {h : zh} {l : List it4} {i : it4} {xs xi : Int32} (hg : hG τ h) (al : alC h) (r : rwC h 23 24 l) (hl : l.length < 5) (hs : hsl h 23 1 = some (zi xs)) (hx : xi.toInt = pk i) : qV (d + 1) 68 [some (.inl (some 23)), some (zi xs), some (zi xi), none] h t (fun h1 => ∃ τ1, oF (fun k j => k ≠ 24 ∧ (k ≠ 23 ∨ j ≠ 1)) τ h τ1 h1 ∧ rwC h1 23 24 (l ++ [i])) := by
  obtain ⟨⟨x9, a9, b9⟩, hit⟩ := id r
  rw [hs] at a9
  cases a9
  refine qV_of ?_
  refine y_same (i := .iload_n 1) (len := 1) (r := (0, 0, 0, 0)) (pc' := 1) (ls' := [some (.inl (some 23)), some (zi xs), some (zi xi), none]) (st' := [zi xs]) (by decide +kernel) (fun k q => by cases q) rfl ?_
  refine y_iF (c := .lt) (off := 23) (len := 3) (r := (0, 0, 0, 0)) (by decide +kernel) (acmpF (c := .lt) (by show _ ≤ _; omega)) ?_
  refine y_same (i := .iload_n 1) (len := 1) (r := (0, 0, 0, 0)) (pc' := 5) (ls' := [some (.inl (some 23)), some (zi xs), some (zi xi), none]) (st' := [zi xs]) (by decide +kernel) (fun k q => by cases q) rfl ?_
  refine y_same (i := .aload_n 0) (len := 1) (r := (0, 0, 0, 0)) (pc' := 6) (ls' := [some (.inl (some 23)), some (zi xs), some (zi xi), none]) (st' := [.inl (some 23), zi xs]) (by decide +kernel) (fun k q => by cases q) rfl ?_
  refine y_get (j := 9) (len := 3) (r := (6, 1, 0, 164)) (by decide +kernel) hg (tv23 hg) aw1002 rfl rfl hs ?_
  refine y_cF (c := .gt) (off := 15) (len := 3) (r := (0, 0, 0, 0)) (by decide +kernel) (acmpF (c := .gt) (by show _ ≤ _; omega)) ?_
  refine y_same (i := .aload_n 0) (len := 1) (r := (0, 0, 0, 0)) (pc' := 13) (ls' := [some (.inl (some 23)), some (zi xs), some (zi xi), none]) (st' := [.inl (some 23)]) (by decide +kernel) (fun k q => by cases q) rfl ?_
  refine y_get (j := 9) (len := 3) (r := (6, 1, 0, 164)) (by decide +kernel) hg (tv23 hg) aw1002 rfl rfl hs ?_
  refine y_same (i := .aload_n 0) (len := 1) (r := (0, 0, 0, 0)) (pc' := 17) (ls' := [some (.inl (some 23)), some (zi xs), some (zi xi), none]) (st' := [.inl (some 23), zi xs]) (by decide +kernel) (fun k q => by cases q) rfl ?_
  refine y_get (j := 15) (len := 3) (r := (6, 0, 2, 163)) (by decide +kernel) hg (tv23 hg) aw1002 rfl rfl al.2.2.2.2.2.2.2.2.2.1 ?_
  refine y_aln (len := 1) (r := (0, 0, 0, 0)) (by decide +kernel) hg (tv24 hg) aw1005 (by decide) (fun y489 hy489 => ?_)
  refine y_cT (c := .lt) (off := 4) (pc' := 25) (len := 3) (r := (0, 0, 0, 0)) (by decide +kernel) (acmpT (c := .lt) (by show _ < _; omega)) (by decide +kernel) ?_
  refine y_same (i := .aload_n 0) (len := 1) (r := (0, 0, 0, 0)) (pc' := 26) (ls' := [some (.inl (some 23)), some (zi xs), some (zi xi), none]) (st' := [.inl (some 23)]) (by decide +kernel) (fun k q => by cases q) rfl ?_
  refine y_get (j := 9) (len := 3) (r := (6, 1, 0, 164)) (by decide +kernel) hg (tv23 hg) aw1002 rfl rfl hs ?_
  refine y_same (i := .istore_n 3) (len := 1) (r := (0, 0, 0, 0)) (pc' := 30) (ls' := [some (.inl (some 23)), some (zi xs), some (zi xi), some (zi xs)]) (st' := []) (by decide +kernel) (fun k q => by cases q) rfl ?_
  refine y_same (i := .iload_n 3) (len := 1) (r := (0, 0, 0, 0)) (pc' := 31) (ls' := [some (.inl (some 23)), some (zi xs), some (zi xi), some (zi xs)]) (st' := [zi xs]) (by decide +kernel) (fun k q => by cases q) rfl ?_
  refine y_same (i := .iload_n 1) (len := 1) (r := (0, 0, 0, 0)) (pc' := 32) (ls' := [some (.inl (some 23)), some (zi xs), some (zi xi), some (zi xs)]) (st' := [zi xs, zi xs]) (by decide +kernel) (fun k q => by cases q) rfl ?_
  refine y_cT (c := .le) (off := 23) (pc' := 55) (len := 3) (r := (0, 0, 0, 0)) (by decide +kernel) (acmpT (c := .le) (by show _ ≤ _; omega)) (by decide +kernel) ?_
  refine y_same (i := .aload_n 0) (len := 1) (r := (0, 0, 0, 0)) (pc' := 56) (ls' := [some (.inl (some 23)), some (zi xs), some (zi xi), some (zi xs)]) (st' := [.inl (some 23)]) (by decide +kernel) (fun k q => by cases q) rfl ?_
  refine y_get (j := 15) (len := 3) (r := (6, 0, 2, 163)) (by decide +kernel) hg (tv23 hg) aw1002 rfl rfl al.2.2.2.2.2.2.2.2.2.1 ?_
  refine y_same (i := .iload_n 1) (len := 1) (r := (0, 0, 0, 0)) (pc' := 60) (ls' := [some (.inl (some 23)), some (zi xs), some (zi xi), some (zi xs)]) (st' := [zi xs, .inl (some 24)]) (by decide +kernel) (fun k q => by cases q) rfl ?_
  refine y_same (i := .iload_n 2) (len := 1) (r := (0, 0, 0, 0)) (pc' := 61) (ls' := [some (.inl (some 23)), some (zi xs), some (zi xi), some (zi xs)]) (st' := [zi xi, zi xs, .inl (some 24)]) (by decide +kernel) (fun k q => by cases q) rfl ?_
  refine y_ias (i := l.length) (len := 1) (r := (0, 0, 0, 0)) (by decide +kernel) hg (tv24 hg) aw1005 rfl (by omega) (by omega) (sr1 (by omega)) (qin_full _).1 (qin_full _).2 (fun h490 hg490 hl490 hs490 ho490 => ?_)
  refine y_same (i := .aload_n 0) (len := 1) (r := (0, 0, 0, 0)) (pc' := 63) (ls' := [some (.inl (some 23)), some (zi xs), some (zi xi), some (zi xs)]) (st' := [.inl (some 23)]) (by decide +kernel) (fun k q => by cases q) rfl ?_
  refine y_same (i := .dup) (len := 1) (r := (0, 0, 0, 0)) (pc' := 64) (ls' := [some (.inl (some 23)), some (zi xs), some (zi xi), some (zi xs)]) (st' := [.inl (some 23), .inl (some 23)]) (by decide +kernel) (fun k q => by cases q) rfl ?_
  have hv491 := (ho490 23 1 (Or.inl (by omega))).trans hs
  refine y_get (j := 9) (len := 3) (r := (6, 1, 0, 164)) (by decide +kernel) hg490 (tv23 hg490) aw1002 rfl rfl hv491 ?_
  refine y_ic (c := 1) (len := 1) (r := (0, 0, 0, 0)) (by decide +kernel) (by decide) (fun y492 hy492 => ?_)
  refine y_add (len := 1) (r := (0, 0, 0, 0)) (by decide +kernel) (by omega) (by omega) (fun y493 hy493 => ?_)
  refine y_put (j := 9) (lo := 0) (hi := 5) (len := 3) (r := (6, 1, 0, 164)) (by decide +kernel) hg490 (tv23 hg490) aw1002 rfl rfl (by decide) rfl (by omega) (by omega) rfl (fun h494 hg494 hl494 hs494 ho494 => ?_)
  have ho494 : hO 23 1 h490 h494 := ho494
  have hs494 : hsl h494 23 1 = some (zi y493) := hs494
  refine y_rV (len := 1) (r := (0, 0, 0, 0)) (nL := 4) (n9 := 3) (hs := []) (by decide +kernel) rfl ?_
  have hv495 := (ho494 24 (l.length) (Or.inl (by omega))).trans hs490
  have F : oF (fun k j => k ≠ 24 ∧ (k ≠ 23 ∨ j ≠ 1)) τ h τ h494 := ⟨(aup_refl _), hg494, fun k T j hk (hC : k ≠ 24 ∧ (k ≠ 23 ∨ j ≠ 1)) => ((ho494 k j (by omega)).trans (ho490 k j (by omega)))⟩
  refine ⟨_, F, ⟨_, hs494, ?_⟩, fun j i' hj => ?_⟩
  · rw [List.length_append]
    simp only [List.length_cons, List.length_nil]
    omega
  · rcases Nat.lt_or_ge j l.length with q | q
    · rw [List.getElem?_append_left q] at hj
      obtain ⟨x, e1, e2⟩ := hit j i' hj
      refine ⟨x, ?_, e2⟩
      exact ((ho494 24 j (Or.inl (by omega))).trans (ho490 24 j (Or.inr (by omega)))).trans e1
    · rw [List.getElem?_append_right q] at hj
      have hj0 : j - l.length = 0 := by
        have := (List.getElem?_eq_some_iff.mp hj).1
        simp at this
        omega
      rw [hj0] at hj
      cases hj
      have hjl : j = l.length := by omega
      subst hjl
      exact ⟨xi, hv495, hx⟩
theorem e_add23 {d t : Nat} {τ : List Nat} {h : zh} {l : List it4} {i : it4} {xi : Int32} (hg : hG τ h) (al : alC h) (r : rwC h 23 24 l) (hl : l.length < 5) (hx : xi.toInt = pk i) : qV (d + 2) 67 [some (.inl (some 23)), some (zi xi)] h t (fun h1 => ∃ τ1, oF (fun k j => k ≠ 24 ∧ (k ≠ 23 ∨ j ≠ 1)) τ h τ1 h1 ∧ rwC h1 23 24 (l ++ [i])) := by
  obtain ⟨⟨xs, hs, b9⟩, hit⟩ := id r
  refine qV_of ?_
  refine y_same (i := .aload_n 0) (len := 1) (r := (0, 0, 0, 0)) (pc' := 1) (ls' := [some (.inl (some 23)), some (zi xi)]) (st' := [.inl (some 23)]) (by decide +kernel) (fun k q => by cases q) rfl ?_
  refine y_same (i := .aload_n 0) (len := 1) (r := (0, 0, 0, 0)) (pc' := 2) (ls' := [some (.inl (some 23)), some (zi xi)]) (st' := [.inl (some 23), .inl (some 23)]) (by decide +kernel) (fun k q => by cases q) rfl ?_
  refine y_get (j := 9) (len := 3) (r := (6, 1, 0, 164)) (by decide +kernel) hg (tv23 hg) aw1002 rfl rfl hs ?_
  refine y_same (i := .iload_n 1) (len := 1) (r := (0, 0, 0, 0)) (pc' := 6) (ls' := [some (.inl (some 23)), some (zi xi)]) (st' := [zi xi, zi xs, .inl (some 23)]) (by decide +kernel) (fun k q => by cases q) rfl ?_
  refine y_cV (i := .invokevirtual 19) (len := 3) (r := (0, 68, 6, 605)) (nL := 4) (k := 0) (n := 3) (hs := []) (args := [.inl (some 23), zi xs, zi xi]) (rest := []) (l0 := [some (.inl (some 23)), some (zi xs), some (zi xi), none]) (by decide +kernel) (Or.inr (Or.inl ⟨_, rfl⟩)) rfl rfl rfl rfl (Nat.le_of_ble_eq_true rfl) (zO hg (tv23 hg) aw1002 rfl) rfl (e_ins23 hg al r hl hs hx) (fun h496 hR496 => ?_)
  refine y_rV (len := 1) (r := (0, 0, 0, 0)) (nL := 2) (n9 := 2) (hs := []) (by decide +kernel) rfl ?_
  exact hR496
theorem e_take23 {t q : Nat} {τ : List Nat} {h : zh} {l : List it4} {i : it4} {xm xi xp : Int32} (hg : hG τ h) (al : alC h) (r : rwC h 23 24 l) (hm : xm.toInt = 5) (hx : xi.toInt = pk i) (hp : xp.toInt = (q : Int)) : qI 6 53 [some (.inl (some 15)), some (.inl (some 23)), some (zi xm), some (zi xi), some (zi xp)] h t (fun y h1 => ∃ τ1, oF (fun k j => k ≠ 24 ∧ (k ≠ 23 ∨ j ≠ 1) ∧ (k ≠ 15 ∨ j < 4)) τ h τ1 h1 ∧ ((l.length < 5 ∧ y.toInt = 1 ∧ rwC h1 23 24 (l ++ [i]) ∧ hsl h1 15 5 = hsl h 15 5) ∨ (l.length = 5 ∧ y.toInt = 0 ∧ flt h1 2 q))) := by
  obtain ⟨⟨xs, hs, b9⟩, hit⟩ := id r
  obtain ⟨x9, h9, l9, u9⟩ := g_int (i := 1) (lo := 0) (hi := 5) hg (tv23 hg) aw1002 (by decide) rfl
  rw [hs] at h9
  cases h9
  refine qI_of ?_
  refine y_same (i := .aload_n 1) (len := 1) (r := (0, 0, 0, 0)) (pc' := 1) (ls' := [some (.inl (some 15)), some (.inl (some 23)), some (zi xm), some (zi xi), some (zi xp)]) (st' := [.inl (some 23)]) (by decide +kernel) (fun k q => by cases q) rfl ?_
  refine y_get (j := 142) (len := 3) (r := (6, 1, 0, 20171)) (by decide +kernel) hg (tv23 hg) aw1002 rfl rfl hs ?_
  refine y_same (i := .iload_n 2) (len := 1) (r := (0, 0, 0, 0)) (pc' := 5) (ls' := [some (.inl (some 15)), some (.inl (some 23)), some (zi xm), some (zi xi), some (zi xp)]) (st' := [zi xm, zi xs]) (by decide +kernel) (fun k q => by cases q) rfl ?_
  rcases Decidable.em (xs.toInt < xm.toInt) with q497 | q497
  ·
    refine y_cT (c := .lt) (off := 11) (pc' := 16) (len := 3) (r := (0, 0, 0, 0)) (by decide +kernel) (acmpT (c := .lt) (by show _ < _; omega)) (by decide +kernel) ?_
    refine y_same (i := .aload_n 1) (len := 1) (r := (0, 0, 0, 0)) (pc' := 17) (ls' := [some (.inl (some 15)), some (.inl (some 23)), some (zi xm), some (zi xi), some (zi xp)]) (st' := [.inl (some 23)]) (by decide +kernel) (fun k q => by cases q) rfl ?_
    refine y_same (i := .iload_n 3) (len := 1) (r := (0, 0, 0, 0)) (pc' := 18) (ls' := [some (.inl (some 15)), some (.inl (some 23)), some (zi xm), some (zi xi), some (zi xp)]) (st' := [zi xi, .inl (some 23)]) (by decide +kernel) (fun k q => by cases q) rfl ?_
    refine y_cV (i := .invokevirtual 151) (len := 3) (r := (0, 67, 6, 1036)) (nL := 2) (k := 0) (n := 2) (hs := []) (args := [.inl (some 23), zi xi]) (rest := []) (l0 := [some (.inl (some 23)), some (zi xi)]) (by decide +kernel) (Or.inr (Or.inl ⟨_, rfl⟩)) rfl rfl rfl rfl (Nat.le_of_ble_eq_true rfl) (zO hg (tv23 hg) aw1002 rfl) rfl (qV_le (by decide) (e_add23 (d := 0) hg al r (by omega) hx)) (fun h498 hR498 => ?_)
    obtain ⟨τ498, O498, r498⟩ := hR498
    refine y_ic (c := 1) (len := 1) (r := (0, 0, 0, 0)) (by decide +kernel) (by decide) (fun y499 hy499 => ?_)
    refine y_rI (len := 1) (r := (0, 0, 0, 0)) (nL := 5) (k := 2) (n9 := 5) (hs := []) (by decide +kernel) rfl (zfit_b (by omega) (by omega)).2 ?_
    exact ⟨_, ⟨O498.1, O498.2.1, fun k T j hk (hC : k ≠ 24 ∧ (k ≠ 23 ∨ j ≠ 1) ∧ (k ≠ 15 ∨ j < 4)) => (O498.2.2 k T j hk (show k ≠ 24 ∧ (k ≠ 23 ∨ j ≠ 1) by omega))⟩, Or.inl ⟨by omega, by omega, r498, O498.2.2 15 15 5 (tv15 hg) (show 15 ≠ 24 ∧ (15 ≠ 23 ∨ 5 ≠ 1) by omega)⟩⟩
  ·
    refine y_cF (c := .lt) (off := 11) (len := 3) (r := (0, 0, 0, 0)) (by decide +kernel) (acmpF (c := .lt) (by show _ ≤ _; omega)) ?_
    refine y_same (i := .aload_n 0) (len := 1) (r := (0, 0, 0, 0)) (pc' := 9) (ls' := [some (.inl (some 15)), some (.inl (some 23)), some (zi xm), some (zi xi), some (zi xp)]) (st' := [.inl (some 15)]) (by decide +kernel) (fun k q => by cases q) rfl ?_
    refine y_ic (c := 2) (len := 1) (r := (0, 0, 0, 0)) (by decide +kernel) (by decide) (fun y500 hy500 => ?_)
    refine y_same (i := .iload 4) (len := 2) (r := (0, 0, 0, 0)) (pc' := 12) (ls' := [some (.inl (some 15)), some (.inl (some 23)), some (zi xm), some (zi xi), some (zi xp)]) (st' := [zi xp, zi y500, .inl (some 15)]) (by decide +kernel) (fun k q => by cases q) rfl ?_
    refine y_cI (i := .invokevirtual 147) (len := 3) (r := (0, 61, 5, 1021)) (nL := 3) (k := 2) (n := 3) (hs := []) (args := [.inl (some 15), zi y500, zi xp]) (rest := []) (l0 := [some (.inl (some 15)), some (zi y500), some (zi xp)]) (by decide +kernel) (Or.inr (Or.inl ⟨_, rfl⟩)) rfl rfl rfl rfl (Nat.le_of_ble_eq_true rfl) (zO hg (tv15 hg) aw15 rfl) rfl (qI_le (by decide) (e_refuse (d := 0) (r := 2) (q := q) hg (by omega) (by omega))) (fun y501 h501 hRy501 => ?_)
    obtain ⟨z501, τ501, O501, fl501⟩ := hRy501
    refine y_rI (len := 1) (r := (0, 0, 0, 0)) (nL := 5) (k := 2) (n9 := 5) (hs := []) (by decide +kernel) rfl (zfit_b (by omega) (by omega)).2 ?_
    exact ⟨_, ⟨O501.1, O501.2.1, fun k T j hk (hC : k ≠ 24 ∧ (k ≠ 23 ∨ j ≠ 1) ∧ (k ≠ 15 ∨ j < 4)) => (O501.2.2 k T j hk (show k ≠ 15 ∨ j < 4 by omega))⟩, Or.inr ⟨by omega, by omega, fl501⟩⟩
theorem e_ins25 {d t : Nat} {τ : List Nat} {h : zh} {l : List it4} {i : it4} {xs xi : Int32} (hg : hG τ h) (al : alC h) (r : rwC h 25 26 l) (hl : l.length < 6) (hs : hsl h 25 1 = some (zi xs)) (hx : xi.toInt = pk i) : qV (d + 1) 68 [some (.inl (some 25)), some (zi xs), some (zi xi), none] h t (fun h1 => ∃ τ1, oF (fun k j => k ≠ 26 ∧ (k ≠ 25 ∨ j ≠ 1)) τ h τ1 h1 ∧ rwC h1 25 26 (l ++ [i])) := by
  obtain ⟨⟨x9, a9, b9⟩, hit⟩ := id r
  rw [hs] at a9
  cases a9
  refine qV_of ?_
  refine y_same (i := .iload_n 1) (len := 1) (r := (0, 0, 0, 0)) (pc' := 1) (ls' := [some (.inl (some 25)), some (zi xs), some (zi xi), none]) (st' := [zi xs]) (by decide +kernel) (fun k q => by cases q) rfl ?_
  refine y_iF (c := .lt) (off := 23) (len := 3) (r := (0, 0, 0, 0)) (by decide +kernel) (acmpF (c := .lt) (by show _ ≤ _; omega)) ?_
  refine y_same (i := .iload_n 1) (len := 1) (r := (0, 0, 0, 0)) (pc' := 5) (ls' := [some (.inl (some 25)), some (zi xs), some (zi xi), none]) (st' := [zi xs]) (by decide +kernel) (fun k q => by cases q) rfl ?_
  refine y_same (i := .aload_n 0) (len := 1) (r := (0, 0, 0, 0)) (pc' := 6) (ls' := [some (.inl (some 25)), some (zi xs), some (zi xi), none]) (st' := [.inl (some 25), zi xs]) (by decide +kernel) (fun k q => by cases q) rfl ?_
  refine y_get (j := 9) (len := 3) (r := (6, 1, 0, 164)) (by decide +kernel) hg (tv25 hg) aw1003 rfl rfl hs ?_
  refine y_cF (c := .gt) (off := 15) (len := 3) (r := (0, 0, 0, 0)) (by decide +kernel) (acmpF (c := .gt) (by show _ ≤ _; omega)) ?_
  refine y_same (i := .aload_n 0) (len := 1) (r := (0, 0, 0, 0)) (pc' := 13) (ls' := [some (.inl (some 25)), some (zi xs), some (zi xi), none]) (st' := [.inl (some 25)]) (by decide +kernel) (fun k q => by cases q) rfl ?_
  refine y_get (j := 9) (len := 3) (r := (6, 1, 0, 164)) (by decide +kernel) hg (tv25 hg) aw1003 rfl rfl hs ?_
  refine y_same (i := .aload_n 0) (len := 1) (r := (0, 0, 0, 0)) (pc' := 17) (ls' := [some (.inl (some 25)), some (zi xs), some (zi xi), none]) (st' := [.inl (some 25), zi xs]) (by decide +kernel) (fun k q => by cases q) rfl ?_
  refine y_get (j := 15) (len := 3) (r := (6, 0, 2, 163)) (by decide +kernel) hg (tv25 hg) aw1003 rfl rfl al.2.2.2.2.2.2.2.2.2.2 ?_
  refine y_aln (len := 1) (r := (0, 0, 0, 0)) (by decide +kernel) hg (tv26 hg) aw1006 (by decide) (fun y502 hy502 => ?_)
  refine y_cT (c := .lt) (off := 4) (pc' := 25) (len := 3) (r := (0, 0, 0, 0)) (by decide +kernel) (acmpT (c := .lt) (by show _ < _; omega)) (by decide +kernel) ?_
  refine y_same (i := .aload_n 0) (len := 1) (r := (0, 0, 0, 0)) (pc' := 26) (ls' := [some (.inl (some 25)), some (zi xs), some (zi xi), none]) (st' := [.inl (some 25)]) (by decide +kernel) (fun k q => by cases q) rfl ?_
  refine y_get (j := 9) (len := 3) (r := (6, 1, 0, 164)) (by decide +kernel) hg (tv25 hg) aw1003 rfl rfl hs ?_
  refine y_same (i := .istore_n 3) (len := 1) (r := (0, 0, 0, 0)) (pc' := 30) (ls' := [some (.inl (some 25)), some (zi xs), some (zi xi), some (zi xs)]) (st' := []) (by decide +kernel) (fun k q => by cases q) rfl ?_
  refine y_same (i := .iload_n 3) (len := 1) (r := (0, 0, 0, 0)) (pc' := 31) (ls' := [some (.inl (some 25)), some (zi xs), some (zi xi), some (zi xs)]) (st' := [zi xs]) (by decide +kernel) (fun k q => by cases q) rfl ?_
  refine y_same (i := .iload_n 1) (len := 1) (r := (0, 0, 0, 0)) (pc' := 32) (ls' := [some (.inl (some 25)), some (zi xs), some (zi xi), some (zi xs)]) (st' := [zi xs, zi xs]) (by decide +kernel) (fun k q => by cases q) rfl ?_
  refine y_cT (c := .le) (off := 23) (pc' := 55) (len := 3) (r := (0, 0, 0, 0)) (by decide +kernel) (acmpT (c := .le) (by show _ ≤ _; omega)) (by decide +kernel) ?_
  refine y_same (i := .aload_n 0) (len := 1) (r := (0, 0, 0, 0)) (pc' := 56) (ls' := [some (.inl (some 25)), some (zi xs), some (zi xi), some (zi xs)]) (st' := [.inl (some 25)]) (by decide +kernel) (fun k q => by cases q) rfl ?_
  refine y_get (j := 15) (len := 3) (r := (6, 0, 2, 163)) (by decide +kernel) hg (tv25 hg) aw1003 rfl rfl al.2.2.2.2.2.2.2.2.2.2 ?_
  refine y_same (i := .iload_n 1) (len := 1) (r := (0, 0, 0, 0)) (pc' := 60) (ls' := [some (.inl (some 25)), some (zi xs), some (zi xi), some (zi xs)]) (st' := [zi xs, .inl (some 26)]) (by decide +kernel) (fun k q => by cases q) rfl ?_
  refine y_same (i := .iload_n 2) (len := 1) (r := (0, 0, 0, 0)) (pc' := 61) (ls' := [some (.inl (some 25)), some (zi xs), some (zi xi), some (zi xs)]) (st' := [zi xi, zi xs, .inl (some 26)]) (by decide +kernel) (fun k q => by cases q) rfl ?_
  refine y_ias (i := l.length) (len := 1) (r := (0, 0, 0, 0)) (by decide +kernel) hg (tv26 hg) aw1006 rfl (by omega) (by omega) (sr1 (by omega)) (qin_full _).1 (qin_full _).2 (fun h503 hg503 hl503 hs503 ho503 => ?_)
  refine y_same (i := .aload_n 0) (len := 1) (r := (0, 0, 0, 0)) (pc' := 63) (ls' := [some (.inl (some 25)), some (zi xs), some (zi xi), some (zi xs)]) (st' := [.inl (some 25)]) (by decide +kernel) (fun k q => by cases q) rfl ?_
  refine y_same (i := .dup) (len := 1) (r := (0, 0, 0, 0)) (pc' := 64) (ls' := [some (.inl (some 25)), some (zi xs), some (zi xi), some (zi xs)]) (st' := [.inl (some 25), .inl (some 25)]) (by decide +kernel) (fun k q => by cases q) rfl ?_
  have hv504 := (ho503 25 1 (Or.inl (by omega))).trans hs
  refine y_get (j := 9) (len := 3) (r := (6, 1, 0, 164)) (by decide +kernel) hg503 (tv25 hg503) aw1003 rfl rfl hv504 ?_
  refine y_ic (c := 1) (len := 1) (r := (0, 0, 0, 0)) (by decide +kernel) (by decide) (fun y505 hy505 => ?_)
  refine y_add (len := 1) (r := (0, 0, 0, 0)) (by decide +kernel) (by omega) (by omega) (fun y506 hy506 => ?_)
  refine y_put (j := 9) (lo := 0) (hi := 6) (len := 3) (r := (6, 1, 0, 164)) (by decide +kernel) hg503 (tv25 hg503) aw1003 rfl rfl (by decide) rfl (by omega) (by omega) rfl (fun h507 hg507 hl507 hs507 ho507 => ?_)
  have ho507 : hO 25 1 h503 h507 := ho507
  have hs507 : hsl h507 25 1 = some (zi y506) := hs507
  refine y_rV (len := 1) (r := (0, 0, 0, 0)) (nL := 4) (n9 := 3) (hs := []) (by decide +kernel) rfl ?_
  have hv508 := (ho507 26 (l.length) (Or.inl (by omega))).trans hs503
  have F : oF (fun k j => k ≠ 26 ∧ (k ≠ 25 ∨ j ≠ 1)) τ h τ h507 := ⟨(aup_refl _), hg507, fun k T j hk (hC : k ≠ 26 ∧ (k ≠ 25 ∨ j ≠ 1)) => ((ho507 k j (by omega)).trans (ho503 k j (by omega)))⟩
  refine ⟨_, F, ⟨_, hs507, ?_⟩, fun j i' hj => ?_⟩
  · rw [List.length_append]
    simp only [List.length_cons, List.length_nil]
    omega
  · rcases Nat.lt_or_ge j l.length with q | q
    · rw [List.getElem?_append_left q] at hj
      obtain ⟨x, e1, e2⟩ := hit j i' hj
      refine ⟨x, ?_, e2⟩
      exact ((ho507 26 j (Or.inl (by omega))).trans (ho503 26 j (Or.inr (by omega)))).trans e1
    · rw [List.getElem?_append_right q] at hj
      have hj0 : j - l.length = 0 := by
        have := (List.getElem?_eq_some_iff.mp hj).1
        simp at this
        omega
      rw [hj0] at hj
      cases hj
      have hjl : j = l.length := by omega
      subst hjl
      exact ⟨xi, hv508, hx⟩
theorem e_add25 {d t : Nat} {τ : List Nat} {h : zh} {l : List it4} {i : it4} {xi : Int32} (hg : hG τ h) (al : alC h) (r : rwC h 25 26 l) (hl : l.length < 6) (hx : xi.toInt = pk i) : qV (d + 2) 67 [some (.inl (some 25)), some (zi xi)] h t (fun h1 => ∃ τ1, oF (fun k j => k ≠ 26 ∧ (k ≠ 25 ∨ j ≠ 1)) τ h τ1 h1 ∧ rwC h1 25 26 (l ++ [i])) := by
  obtain ⟨⟨xs, hs, b9⟩, hit⟩ := id r
  refine qV_of ?_
  refine y_same (i := .aload_n 0) (len := 1) (r := (0, 0, 0, 0)) (pc' := 1) (ls' := [some (.inl (some 25)), some (zi xi)]) (st' := [.inl (some 25)]) (by decide +kernel) (fun k q => by cases q) rfl ?_
  refine y_same (i := .aload_n 0) (len := 1) (r := (0, 0, 0, 0)) (pc' := 2) (ls' := [some (.inl (some 25)), some (zi xi)]) (st' := [.inl (some 25), .inl (some 25)]) (by decide +kernel) (fun k q => by cases q) rfl ?_
  refine y_get (j := 9) (len := 3) (r := (6, 1, 0, 164)) (by decide +kernel) hg (tv25 hg) aw1003 rfl rfl hs ?_
  refine y_same (i := .iload_n 1) (len := 1) (r := (0, 0, 0, 0)) (pc' := 6) (ls' := [some (.inl (some 25)), some (zi xi)]) (st' := [zi xi, zi xs, .inl (some 25)]) (by decide +kernel) (fun k q => by cases q) rfl ?_
  refine y_cV (i := .invokevirtual 19) (len := 3) (r := (0, 68, 6, 605)) (nL := 4) (k := 0) (n := 3) (hs := []) (args := [.inl (some 25), zi xs, zi xi]) (rest := []) (l0 := [some (.inl (some 25)), some (zi xs), some (zi xi), none]) (by decide +kernel) (Or.inr (Or.inl ⟨_, rfl⟩)) rfl rfl rfl rfl (Nat.le_of_ble_eq_true rfl) (zO hg (tv25 hg) aw1003 rfl) rfl (e_ins25 hg al r hl hs hx) (fun h509 hR509 => ?_)
  refine y_rV (len := 1) (r := (0, 0, 0, 0)) (nL := 2) (n9 := 2) (hs := []) (by decide +kernel) rfl ?_
  exact hR509
theorem e_take25 {t q : Nat} {τ : List Nat} {h : zh} {l : List it4} {i : it4} {xm xi xp : Int32} (hg : hG τ h) (al : alC h) (r : rwC h 25 26 l) (hm : xm.toInt = 6) (hx : xi.toInt = pk i) (hp : xp.toInt = (q : Int)) : qI 6 53 [some (.inl (some 15)), some (.inl (some 25)), some (zi xm), some (zi xi), some (zi xp)] h t (fun y h1 => ∃ τ1, oF (fun k j => k ≠ 26 ∧ (k ≠ 25 ∨ j ≠ 1) ∧ (k ≠ 15 ∨ j < 4)) τ h τ1 h1 ∧ ((l.length < 6 ∧ y.toInt = 1 ∧ rwC h1 25 26 (l ++ [i]) ∧ hsl h1 15 5 = hsl h 15 5) ∨ (l.length = 6 ∧ y.toInt = 0 ∧ flt h1 2 q))) := by
  obtain ⟨⟨xs, hs, b9⟩, hit⟩ := id r
  obtain ⟨x9, h9, l9, u9⟩ := g_int (i := 1) (lo := 0) (hi := 6) hg (tv25 hg) aw1003 (by decide) rfl
  rw [hs] at h9
  cases h9
  refine qI_of ?_
  refine y_same (i := .aload_n 1) (len := 1) (r := (0, 0, 0, 0)) (pc' := 1) (ls' := [some (.inl (some 15)), some (.inl (some 25)), some (zi xm), some (zi xi), some (zi xp)]) (st' := [.inl (some 25)]) (by decide +kernel) (fun k q => by cases q) rfl ?_
  refine y_get (j := 142) (len := 3) (r := (6, 1, 0, 20171)) (by decide +kernel) hg (tv25 hg) aw1003 rfl rfl hs ?_
  refine y_same (i := .iload_n 2) (len := 1) (r := (0, 0, 0, 0)) (pc' := 5) (ls' := [some (.inl (some 15)), some (.inl (some 25)), some (zi xm), some (zi xi), some (zi xp)]) (st' := [zi xm, zi xs]) (by decide +kernel) (fun k q => by cases q) rfl ?_
  rcases Decidable.em (xs.toInt < xm.toInt) with q510 | q510
  ·
    refine y_cT (c := .lt) (off := 11) (pc' := 16) (len := 3) (r := (0, 0, 0, 0)) (by decide +kernel) (acmpT (c := .lt) (by show _ < _; omega)) (by decide +kernel) ?_
    refine y_same (i := .aload_n 1) (len := 1) (r := (0, 0, 0, 0)) (pc' := 17) (ls' := [some (.inl (some 15)), some (.inl (some 25)), some (zi xm), some (zi xi), some (zi xp)]) (st' := [.inl (some 25)]) (by decide +kernel) (fun k q => by cases q) rfl ?_
    refine y_same (i := .iload_n 3) (len := 1) (r := (0, 0, 0, 0)) (pc' := 18) (ls' := [some (.inl (some 15)), some (.inl (some 25)), some (zi xm), some (zi xi), some (zi xp)]) (st' := [zi xi, .inl (some 25)]) (by decide +kernel) (fun k q => by cases q) rfl ?_
    refine y_cV (i := .invokevirtual 151) (len := 3) (r := (0, 67, 6, 1036)) (nL := 2) (k := 0) (n := 2) (hs := []) (args := [.inl (some 25), zi xi]) (rest := []) (l0 := [some (.inl (some 25)), some (zi xi)]) (by decide +kernel) (Or.inr (Or.inl ⟨_, rfl⟩)) rfl rfl rfl rfl (Nat.le_of_ble_eq_true rfl) (zO hg (tv25 hg) aw1003 rfl) rfl (qV_le (by decide) (e_add25 (d := 0) hg al r (by omega) hx)) (fun h511 hR511 => ?_)
    obtain ⟨τ511, O511, r511⟩ := hR511
    refine y_ic (c := 1) (len := 1) (r := (0, 0, 0, 0)) (by decide +kernel) (by decide) (fun y512 hy512 => ?_)
    refine y_rI (len := 1) (r := (0, 0, 0, 0)) (nL := 5) (k := 2) (n9 := 5) (hs := []) (by decide +kernel) rfl (zfit_b (by omega) (by omega)).2 ?_
    exact ⟨_, ⟨O511.1, O511.2.1, fun k T j hk (hC : k ≠ 26 ∧ (k ≠ 25 ∨ j ≠ 1) ∧ (k ≠ 15 ∨ j < 4)) => (O511.2.2 k T j hk (show k ≠ 26 ∧ (k ≠ 25 ∨ j ≠ 1) by omega))⟩, Or.inl ⟨by omega, by omega, r511, O511.2.2 15 15 5 (tv15 hg) (show 15 ≠ 26 ∧ (15 ≠ 25 ∨ 5 ≠ 1) by omega)⟩⟩
  ·
    refine y_cF (c := .lt) (off := 11) (len := 3) (r := (0, 0, 0, 0)) (by decide +kernel) (acmpF (c := .lt) (by show _ ≤ _; omega)) ?_
    refine y_same (i := .aload_n 0) (len := 1) (r := (0, 0, 0, 0)) (pc' := 9) (ls' := [some (.inl (some 15)), some (.inl (some 25)), some (zi xm), some (zi xi), some (zi xp)]) (st' := [.inl (some 15)]) (by decide +kernel) (fun k q => by cases q) rfl ?_
    refine y_ic (c := 2) (len := 1) (r := (0, 0, 0, 0)) (by decide +kernel) (by decide) (fun y513 hy513 => ?_)
    refine y_same (i := .iload 4) (len := 2) (r := (0, 0, 0, 0)) (pc' := 12) (ls' := [some (.inl (some 15)), some (.inl (some 25)), some (zi xm), some (zi xi), some (zi xp)]) (st' := [zi xp, zi y513, .inl (some 15)]) (by decide +kernel) (fun k q => by cases q) rfl ?_
    refine y_cI (i := .invokevirtual 147) (len := 3) (r := (0, 61, 5, 1021)) (nL := 3) (k := 2) (n := 3) (hs := []) (args := [.inl (some 15), zi y513, zi xp]) (rest := []) (l0 := [some (.inl (some 15)), some (zi y513), some (zi xp)]) (by decide +kernel) (Or.inr (Or.inl ⟨_, rfl⟩)) rfl rfl rfl rfl (Nat.le_of_ble_eq_true rfl) (zO hg (tv15 hg) aw15 rfl) rfl (qI_le (by decide) (e_refuse (d := 0) (r := 2) (q := q) hg (by omega) (by omega))) (fun y514 h514 hRy514 => ?_)
    obtain ⟨z514, τ514, O514, fl514⟩ := hRy514
    refine y_rI (len := 1) (r := (0, 0, 0, 0)) (nL := 5) (k := 2) (n9 := 5) (hs := []) (by decide +kernel) rfl (zfit_b (by omega) (by omega)).2 ?_
    exact ⟨_, ⟨O514.1, O514.2.1, fun k T j hk (hC : k ≠ 26 ∧ (k ≠ 25 ∨ j ≠ 1) ∧ (k ≠ 15 ∨ j < 4)) => (O514.2.2 k T j hk (show k ≠ 15 ∨ j < 4 by omega))⟩, Or.inr ⟨by omega, by omega, fl514⟩⟩
