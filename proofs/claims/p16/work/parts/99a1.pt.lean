/-! part and claim -/
def cmp_ (i : it4) (w : Nat) : Int := if w = 0 then i.1 else if w = 1 then i.2.1 else if w = 2 then i.2.2.1 else i.2.2.2
def okI (i : it4) : Prop := (0 ≤ i.1 ∧ i.1 ≤ 5) ∧ (0 ≤ i.2.1 ∧ i.2.1 ≤ 5) ∧ (0 ≤ i.2.2.1 ∧ i.2.2.1 ≤ 5) ∧ 0 ≤ i.2.2.2 ∧ i.2.2.2 ≤ 5
theorem qd_ok {τ : List Nat} {h : zh} {p : Nat} {i : it4} (hg : hG τ h) (q : qdM h 55 p i) (hp : (2 ≤ p ∧ p + 4 ≤ 46) ∨ (48 ≤ p ∧ p + 4 ≤ 92)) : okI i := by
  obtain ⟨x, y, z, w, ⟨a, b, c, d⟩, e1, e2, e3, e4⟩ := q
  have key : ∀ (j : Nat) (v : Int32), j < 92 → j ≠ 1 → j ≠ 47 → hsl h 55 j = some (zi v) → 0 ≤ v.toInt ∧ v.toInt ≤ 5 := by
    intro j v h1 h2 h3 e
    obtain ⟨u, f1, f2, f3⟩ := g55 (i := j) hg h1 h2 h3
    have := e.symm.trans f1
    cases this
    exact ⟨f2, f3⟩
  have k1 := key _ _ (by omega) (by omega) (by omega) a
  have k2 := key _ _ (by omega) (by omega) (by omega) b
  have k3 := key _ _ (by omega) (by omega) (by omega) c
  have k4 := key _ _ (by omega) (by omega) (by omega) d
  unfold okI
  omega
theorem qd_at {h : zh} {A p w : Nat} {i : it4} (q : qdM h A p i) (hw : w < 4) : ∃ v : Int32, hsl h A (p + w) = some (zi v) ∧ v.toInt = cmp_ i w := by
  obtain ⟨x, y, z, u, ⟨a, b, c, d⟩, e1, e2, e3, e4⟩ := q
  rcases (show w = 0 ∨ w = 1 ∨ w = 2 ∨ w = 3 by omega) with rfl | rfl | rfl | rfl
  · exact ⟨x, a, e1⟩
  · exact ⟨y, b, e2⟩
  · exact ⟨z, c, e3⟩
  · exact ⟨u, d, e4⟩
theorem RM_ok {τ : List Nat} {h : zh} {cur : bsT} {hs : List bsT} (hg : hG τ h) (rm : RM h cur hs) : (∀ (j : Nat) (i : it4), cur.1.1[j]? = some i → okI i) ∧ (∀ (j : Nat) (i : it4), cur.1.2[j]? = some i → okI i) ∧ (∀ (j : Nat) (i : it4), cur.2.1[j]? = some i → okI i) ∧ ∀ (j : Nat) (i : it4), cur.2.2[j]? = some i → okI i := by
  obtain ⟨l1, l2, l3, l4⟩ := len55 hg rm.1
  obtain ⟨⟨-, -, a, b⟩, -, -, c, d⟩ := rm.1
  refine ⟨fun j i hj => ?_, fun j i hj => ?_, fun j i hj => ?_, fun j i hj => ?_⟩
  · have := (List.getElem?_eq_some_iff.mp hj).1
    exact qd_ok hg (a j i hj) (by omega)
  · have := (List.getElem?_eq_some_iff.mp hj).1
    exact qd_ok hg (b j i hj) (by omega)
  · have := (List.getElem?_eq_some_iff.mp hj).1
    exact qd_ok hg (c j i hj) (by omega)
  · have := (List.getElem?_eq_some_iff.mp hj).1
    exact qd_ok hg (d j i hj) (by omega)
theorem F2 {h h1 : zh} (F : ∀ k j, k ≠ 388 → hsl h1 k j = hsl h k j) (k j : Nat) (hk : k ≠ 388) : hsl h1 k j = hsl h k j := F k j hk
theorem tl_0 : ∀ k, k < 6 → ∀ x, x < 6 → ∀ y, y < 6 → ∀ z, z < 6 → ((Int32.ofInt ((k * 32768 + x * 1024 + y * 32 + z : Nat) : Int) >>> (Int32.ofInt 15 &&& 31)) &&& 31).toInt = (k : Int) := by decide +kernel
theorem tl_1 : ∀ k, k < 6 → ∀ x, x < 6 → ∀ y, y < 6 → ∀ z, z < 6 → ((Int32.ofInt ((k * 32768 + x * 1024 + y * 32 + z : Nat) : Int) >>> (Int32.ofInt 10 &&& 31)) &&& 31).toInt = (x : Int) := by decide +kernel
theorem tl_2 : ∀ k, k < 6 → ∀ x, x < 6 → ∀ y, y < 6 → ∀ z, z < 6 → ((Int32.ofInt ((k * 32768 + x * 1024 + y * 32 + z : Nat) : Int) >>> (Int32.ofInt 5 &&& 31)) &&& 31).toInt = (y : Int) := by decide +kernel
theorem tl_3 : ∀ k, k < 6 → ∀ x, x < 6 → ∀ y, y < 6 → ∀ z, z < 6 → ((Int32.ofInt ((k * 32768 + x * 1024 + y * 32 + z : Nat) : Int) >>> (Int32.ofInt 0 &&& 31)) &&& 31).toInt = (z : Int) := by decide +kernel
theorem tell_v {i : it4} {w : Nat} {v c : Int32} (ok : okI i) (hw : w < 4) (ev : v.toInt = pk i) (ec : c.toInt = 15 - 5 * (w : Int)) : ((v >>> (c &&& 31)) &&& 31).toInt = cmp_ i w := by
  obtain ⟨⟨a1, a2⟩, ⟨b1, b2⟩, ⟨c1, c2⟩, d1, d2⟩ := ok
  have e : v = Int32.ofInt ((i.1.toNat * 32768 + i.2.1.toNat * 1024 + i.2.2.1.toNat * 32 + i.2.2.2.toNat : Nat) : Int) := i32_of (by rw [ev]; unfold pk; omega)
  rw [i32_of ec, e]
  rcases (show w = 0 ∨ w = 1 ∨ w = 2 ∨ w = 3 by omega) with rfl | rfl | rfl | rfl
  · exact (tl_0 _ (by omega) _ (by omega) _ (by omega) _ (by omega)).trans (show (_ : Int) = i.1 by omega)
  · exact (tl_1 _ (by omega) _ (by omega) _ (by omega) _ (by omega)).trans (show (_ : Int) = i.2.1 by omega)
  · exact (tl_2 _ (by omega) _ (by omega) _ (by omega) _ (by omega)).trans (show (_ : Int) = i.2.2.1 by omega)
  · exact (tl_3 _ (by omega) _ (by omega) _ (by omega) _ (by omega)).trans (show (_ : Int) = i.2.2.2 by omega)
theorem e_tell5 {d t k w RA IA : Nat} {τ : List Nat} {h : zh} {l : List it4} {i : it4} {xk xw : Int32} (hg : hG τ h) (tRA : τ[RA]? = some 1002) (tIA : τ[IA]? = some 1005) (pA : hsl h RA 0 = some (.inl (some IA))) (r : rwC h RA IA l) (exk : xk.toInt = (k : Int)) (hk : l[k]? = some i) (ok : okI i) (exw : xw.toInt = (w : Int)) (hw : w < 4) : qI (d + 1) 64 [some (.inl (some RA)), some (zi xk), some (zi xw)] h t (fun y h1 => h = h1 ∧ y.toInt = cmp_ i w) := by
  obtain ⟨⟨xl, hl, el⟩, it⟩ := r
  obtain ⟨xv, hv, ev⟩ := it k i hk
  have hk9 := (List.getElem?_eq_some_iff.mp hk).1
  obtain ⟨x9, e9, l9, u9⟩ := g_int (i := 1) (lo := 0) (hi := 5) hg tRA aw1002 (by decide) rfl
  have e8 := hl.symm.trans e9
  cases e8
  refine qI_of ?_
  refine y_same (i := .iload_n 1) (len := 1) (r := (0, 0, 0, 0)) (pc' := 1) (ls' := [some (.inl (some RA)), some (zi xk), some (zi xw)]) (st' := [zi xk]) (by decide +kernel) (fun k q => by cases q) rfl ?_
  refine y_iF (c := .lt) (off := 20) (len := 3) (r := (0, 0, 0, 0)) (by decide +kernel) (acmpF (c := .lt) (by show _ ≤ _; omega)) ?_
  refine y_same (i := .iload_n 1) (len := 1) (r := (0, 0, 0, 0)) (pc' := 5) (ls' := [some (.inl (some RA)), some (zi xk), some (zi xw)]) (st' := [zi xk]) (by decide +kernel) (fun k q => by cases q) rfl ?_
  refine y_same (i := .aload_n 0) (len := 1) (r := (0, 0, 0, 0)) (pc' := 6) (ls' := [some (.inl (some RA)), some (zi xk), some (zi xw)]) (st' := [.inl (some RA), zi xk]) (by decide +kernel) (fun k q => by cases q) rfl ?_
  refine y_get (j := 9) (len := 3) (r := (6, 1, 0, 164)) (by decide +kernel) hg tRA aw1002 rfl rfl hl ?_
  refine y_cF (c := .ge) (off := 12) (len := 3) (r := (0, 0, 0, 0)) (by decide +kernel) (acmpF (c := .ge) (by show _ < _; omega)) ?_
  refine y_same (i := .iload_n 2) (len := 1) (r := (0, 0, 0, 0)) (pc' := 13) (ls' := [some (.inl (some RA)), some (zi xk), some (zi xw)]) (st' := [zi xw]) (by decide +kernel) (fun k q => by cases q) rfl ?_
  refine y_iF (c := .lt) (off := 8) (len := 3) (r := (0, 0, 0, 0)) (by decide +kernel) (acmpF (c := .lt) (by show _ ≤ _; omega)) ?_
  refine y_same (i := .iload_n 2) (len := 1) (r := (0, 0, 0, 0)) (pc' := 17) (ls' := [some (.inl (some RA)), some (zi xk), some (zi xw)]) (st' := [zi xw]) (by decide +kernel) (fun k q => by cases q) rfl ?_
  refine y_ic (c := 3) (len := 1) (r := (0, 0, 0, 0)) (by decide +kernel) (by decide) (fun y2630 hy2630 => ?_)
  refine y_cT (c := .le) (off := 5) (pc' := 23) (len := 3) (r := (0, 0, 0, 0)) (by decide +kernel) (acmpT (c := .le) (by show _ ≤ _; omega)) (by decide +kernel) ?_
  refine y_same (i := .aload_n 0) (len := 1) (r := (0, 0, 0, 0)) (pc' := 24) (ls' := [some (.inl (some RA)), some (zi xk), some (zi xw)]) (st' := [.inl (some RA)]) (by decide +kernel) (fun k q => by cases q) rfl ?_
  refine y_get (j := 15) (len := 3) (r := (6, 0, 2, 163)) (by decide +kernel) hg tRA aw1002 rfl rfl pA ?_
  refine y_same (i := .iload_n 1) (len := 1) (r := (0, 0, 0, 0)) (pc' := 28) (ls' := [some (.inl (some RA)), some (zi xk), some (zi xw)]) (st' := [zi xk, .inl (some IA)]) (by decide +kernel) (fun k q => by cases q) rfl ?_
  refine y_ial (i := k) (len := 1) (r := (0, 0, 0, 0)) (by decide +kernel) hg tIA aw1005 (by omega) hv ?_
  refine y_bi (c := 15) (len := 2) (r := (0, 0, 0, 0)) (by decide +kernel) (by decide) (fun y2631 hy2631 => ?_)
  refine y_ic (c := 5) (len := 1) (r := (0, 0, 0, 0)) (by decide +kernel) (by decide) (fun y2632 hy2632 => ?_)
  refine y_same (i := .iload_n 2) (len := 1) (r := (0, 0, 0, 0)) (pc' := 33) (ls' := [some (.inl (some RA)), some (zi xk), some (zi xw)]) (st' := [zi xw, zi y2632, zi y2631, zi xv]) (by decide +kernel) (fun k q => by cases q) rfl ?_
  refine y_mul (c := 5) (len := 1) (r := (0, 0, 0, 0)) (by decide +kernel) (by omega) (by omega) (by omega) (fun y2633 hy2633 => ?_)
  refine y_sub (len := 1) (r := (0, 0, 0, 0)) (by decide +kernel) (by omega) (by omega) (fun y2634 hy2634 => ?_)
  refine y_bp (i := .ishr) (f := fun x y => x >>> (y &&& 31)) (len := 1) (r := (0, 0, 0, 0)) (by decide +kernel) rfl rfl (fun y2635 hy2635 => ?_)
  have hy2635 : y2635 = xv >>> (y2634 &&& 31) := hy2635
  refine y_bi (c := 31) (len := 2) (r := (0, 0, 0, 0)) (by decide +kernel) (by decide) (fun y2636 hy2636 => ?_)
  refine y_bp (i := .iand) (f := fun x y => x &&& y) (len := 1) (r := (0, 0, 0, 0)) (by decide +kernel) rfl rfl (fun y2637 hy2637 => ?_)
  have hy2637 : y2637 = y2635 &&& y2636 := hy2637
  refine y_rI (len := 1) (r := (0, 0, 0, 0)) (nL := 3) (k := 1) (n9 := 3) (hs := []) (by decide +kernel) rfl rfl ?_
  refine ⟨rfl, ?_⟩
  rw [hy2637, hy2635, ofI (w := 31) hy2636 rfl]
  exact tell_v ok hw ev (by omega)
theorem e_tell6 {d t k w RA IA : Nat} {τ : List Nat} {h : zh} {l : List it4} {i : it4} {xk xw : Int32} (hg : hG τ h) (tRA : τ[RA]? = some 1003) (tIA : τ[IA]? = some 1006) (pA : hsl h RA 0 = some (.inl (some IA))) (r : rwC h RA IA l) (exk : xk.toInt = (k : Int)) (hk : l[k]? = some i) (ok : okI i) (exw : xw.toInt = (w : Int)) (hw : w < 4) : qI (d + 1) 64 [some (.inl (some RA)), some (zi xk), some (zi xw)] h t (fun y h1 => h = h1 ∧ y.toInt = cmp_ i w) := by
  obtain ⟨⟨xl, hl, el⟩, it⟩ := r
  obtain ⟨xv, hv, ev⟩ := it k i hk
  have hk9 := (List.getElem?_eq_some_iff.mp hk).1
  obtain ⟨x9, e9, l9, u9⟩ := g_int (i := 1) (lo := 0) (hi := 6) hg tRA aw1003 (by decide) rfl
  have e8 := hl.symm.trans e9
  cases e8
  refine qI_of ?_
  refine y_same (i := .iload_n 1) (len := 1) (r := (0, 0, 0, 0)) (pc' := 1) (ls' := [some (.inl (some RA)), some (zi xk), some (zi xw)]) (st' := [zi xk]) (by decide +kernel) (fun k q => by cases q) rfl ?_
  refine y_iF (c := .lt) (off := 20) (len := 3) (r := (0, 0, 0, 0)) (by decide +kernel) (acmpF (c := .lt) (by show _ ≤ _; omega)) ?_
  refine y_same (i := .iload_n 1) (len := 1) (r := (0, 0, 0, 0)) (pc' := 5) (ls' := [some (.inl (some RA)), some (zi xk), some (zi xw)]) (st' := [zi xk]) (by decide +kernel) (fun k q => by cases q) rfl ?_
  refine y_same (i := .aload_n 0) (len := 1) (r := (0, 0, 0, 0)) (pc' := 6) (ls' := [some (.inl (some RA)), some (zi xk), some (zi xw)]) (st' := [.inl (some RA), zi xk]) (by decide +kernel) (fun k q => by cases q) rfl ?_
  refine y_get (j := 9) (len := 3) (r := (6, 1, 0, 164)) (by decide +kernel) hg tRA aw1003 rfl rfl hl ?_
  refine y_cF (c := .ge) (off := 12) (len := 3) (r := (0, 0, 0, 0)) (by decide +kernel) (acmpF (c := .ge) (by show _ < _; omega)) ?_
  refine y_same (i := .iload_n 2) (len := 1) (r := (0, 0, 0, 0)) (pc' := 13) (ls' := [some (.inl (some RA)), some (zi xk), some (zi xw)]) (st' := [zi xw]) (by decide +kernel) (fun k q => by cases q) rfl ?_
  refine y_iF (c := .lt) (off := 8) (len := 3) (r := (0, 0, 0, 0)) (by decide +kernel) (acmpF (c := .lt) (by show _ ≤ _; omega)) ?_
  refine y_same (i := .iload_n 2) (len := 1) (r := (0, 0, 0, 0)) (pc' := 17) (ls' := [some (.inl (some RA)), some (zi xk), some (zi xw)]) (st' := [zi xw]) (by decide +kernel) (fun k q => by cases q) rfl ?_
  refine y_ic (c := 3) (len := 1) (r := (0, 0, 0, 0)) (by decide +kernel) (by decide) (fun y2638 hy2638 => ?_)
  refine y_cT (c := .le) (off := 5) (pc' := 23) (len := 3) (r := (0, 0, 0, 0)) (by decide +kernel) (acmpT (c := .le) (by show _ ≤ _; omega)) (by decide +kernel) ?_
  refine y_same (i := .aload_n 0) (len := 1) (r := (0, 0, 0, 0)) (pc' := 24) (ls' := [some (.inl (some RA)), some (zi xk), some (zi xw)]) (st' := [.inl (some RA)]) (by decide +kernel) (fun k q => by cases q) rfl ?_
  refine y_get (j := 15) (len := 3) (r := (6, 0, 2, 163)) (by decide +kernel) hg tRA aw1003 rfl rfl pA ?_
  refine y_same (i := .iload_n 1) (len := 1) (r := (0, 0, 0, 0)) (pc' := 28) (ls' := [some (.inl (some RA)), some (zi xk), some (zi xw)]) (st' := [zi xk, .inl (some IA)]) (by decide +kernel) (fun k q => by cases q) rfl ?_
  refine y_ial (i := k) (len := 1) (r := (0, 0, 0, 0)) (by decide +kernel) hg tIA aw1006 (by omega) hv ?_
  refine y_bi (c := 15) (len := 2) (r := (0, 0, 0, 0)) (by decide +kernel) (by decide) (fun y2639 hy2639 => ?_)
  refine y_ic (c := 5) (len := 1) (r := (0, 0, 0, 0)) (by decide +kernel) (by decide) (fun y2640 hy2640 => ?_)
  refine y_same (i := .iload_n 2) (len := 1) (r := (0, 0, 0, 0)) (pc' := 33) (ls' := [some (.inl (some RA)), some (zi xk), some (zi xw)]) (st' := [zi xw, zi y2640, zi y2639, zi xv]) (by decide +kernel) (fun k q => by cases q) rfl ?_
  refine y_mul (c := 5) (len := 1) (r := (0, 0, 0, 0)) (by decide +kernel) (by omega) (by omega) (by omega) (fun y2641 hy2641 => ?_)
  refine y_sub (len := 1) (r := (0, 0, 0, 0)) (by decide +kernel) (by omega) (by omega) (fun y2642 hy2642 => ?_)
  refine y_bp (i := .ishr) (f := fun x y => x >>> (y &&& 31)) (len := 1) (r := (0, 0, 0, 0)) (by decide +kernel) rfl rfl (fun y2643 hy2643 => ?_)
  have hy2643 : y2643 = xv >>> (y2642 &&& 31) := hy2643
  refine y_bi (c := 31) (len := 2) (r := (0, 0, 0, 0)) (by decide +kernel) (by decide) (fun y2644 hy2644 => ?_)
  refine y_bp (i := .iand) (f := fun x y => x &&& y) (len := 1) (r := (0, 0, 0, 0)) (by decide +kernel) rfl rfl (fun y2645 hy2645 => ?_)
  have hy2645 : y2645 = y2643 &&& y2644 := hy2645
  refine y_rI (len := 1) (r := (0, 0, 0, 0)) (nL := 3) (k := 1) (n9 := 3) (hs := []) (by decide +kernel) rfl rfl ?_
  refine ⟨rfl, ?_⟩
  rw [hy2645, hy2643, ofI (w := 31) hy2644 rfl]
  exact tell_v ok hw ev (by omega)
theorem c_part0 {t k w : Nat} {τ : List Nat} {h : zh} {cur : bsT} {hs : List bsT} {x xk xw : Int32} {i : it4} (hg : hG τ h) (rc : RC h cur hs) (r5 : hsl h 0 5 = some (.inl (some 2))) (hx : x.toInt = 0) (exk : xk.toInt = (k : Int)) (hk : cur.1.1[k]? = some i) (ok : okI i) (exw : xw.toInt = (w : Int)) (hw : w ≤ 3) : qI 21 140 [some (.inl (some 0)), some (zi x), some (zi xk), some (zi xw)] h t (fun y h1 => h = h1 ∧ y.toInt = cmp_ i w) := by
  have hk9 := (List.getElem?_eq_some_iff.mp hk).1
  refine qI_of ?_
  obtain ⟨-, ⟨uz, vz, huz, l2z, b2z⟩, -⟩ := id rc
  have uuz : (uz = 1 ∧ vz = 6) ∨ (uz = 6 ∧ vz = 1) := huz
  have tyz := ty_u (tyB_of hg huz (tv2 hg) b2z.1 b2z.2.1 l2z) huz
  have laz := lay_u l2z huz
  obtain ⟨⟨⟨xp0z, hp0z, ep0z⟩, ip0z⟩, ⟨xc0z, hc0z, ec0z⟩, ic0z⟩ := b2z.2.2.1
  obtain ⟨⟨⟨xp1z, hp1z, ep1z⟩, ip1z⟩, ⟨xc1z, hc1z, ec1z⟩, ic1z⟩ := b2z.2.2.2
  refine y_same (i := .aload_n 0) (len := 1) (r := (0, 0, 0, 0)) (pc' := 1) (ls' := [some (.inl (some 0)), some (zi x), some (zi xk), some (zi xw)]) (st' := [.inl (some 0)]) (by decide +kernel) (fun k q => by cases q) rfl ?_
  refine y_same (i := .iload_n 1) (len := 1) (r := (0, 0, 0, 0)) (pc' := 2) (ls' := [some (.inl (some 0)), some (zi x), some (zi xk), some (zi xw)]) (st' := [zi x, .inl (some 0)]) (by decide +kernel) (fun k q => by cases q) rfl ?_
  refine y_cI (i := .invokestatic 101) (len := 3) (r := (1, 156, 11, 1068)) (nL := 1) (k := 2) (n := 1) (hs := []) (args := [zi x]) (rest := [.inl (some 0)]) (l0 := [some (zi x)]) (by decide +kernel) (Or.inl ⟨_, rfl⟩) rfl rfl rfl rfl (Nat.le_of_ble_eq_true rfl) rfl rfl (qI_le (by decide) (c_isSide (d := 0))) (fun y2646 qy2646 hRy2646 => ?_)
  obtain ⟨rfl, hDy2646⟩ := hRy2646
  have ey2646 : y2646.toInt = 1 := by omega
  refine y_iF (c := .eq) (off := 25) (len := 3) (r := (0, 0, 0, 0)) (by decide +kernel) (acmpF (c := .eq) (by show ¬ (_ = _); omega)) ?_
  refine y_same (i := .aload_n 0) (len := 1) (r := (0, 0, 0, 0)) (pc' := 9) (ls' := [some (.inl (some 0)), some (zi x), some (zi xk), some (zi xw)]) (st' := [.inl (some 0), .inl (some 0)]) (by decide +kernel) (fun k q => by cases q) rfl ?_
  refine y_get (j := 29) (len := 3) (r := (11, 5, 2, 404)) (by decide +kernel) hg (tv0 hg) aw0 rfl rfl r5 ?_
  refine y_same (i := .iload_n 1) (len := 1) (r := (0, 0, 0, 0)) (pc' := 13) (ls' := [some (.inl (some 0)), some (zi x), some (zi xk), some (zi xw)]) (st' := [zi x, .inl (some 2), .inl (some 0)]) (by decide +kernel) (fun k q => by cases q) rfl ?_
  refine y_cA (i := .invokevirtual 105) (len := 3) (r := (0, 108, 9, 1071)) (nL := 2) (k := 3) (n := 2) (hs := []) (args := [.inl (some 2), zi x]) (rest := [.inl (some 0)]) (l0 := [some (.inl (some 2)), some (zi x)]) (by decide +kernel) (Or.inr (Or.inl ⟨_, rfl⟩)) rfl rfl rfl rfl (Nat.le_of_ble_eq_true rfl) (zO hg (tv2 hg) aw1000 rfl) rfl (qA_le (by decide) (c_side0 (d := 0) (u := uz) (v := vz) hg (by omega) b2z.1 b2z.2.1)) (fun q2647 hR2647 => ?_)
  obtain rfl := hR2647
  refine y_get (j := 109) (len := 3) (r := (8, 0, 2, 20182)) (by decide +kernel) hg tyz.1.1 aw1001 rfl rfl laz.1.1 ?_
  refine y_same (i := .iload_n 2) (len := 1) (r := (0, 0, 0, 0)) (pc' := 20) (ls' := [some (.inl (some 0)), some (zi x), some (zi xk), some (zi xw)]) (st' := [zi xk, .inl (some ((2 + uz + 1))), .inl (some 0)]) (by decide +kernel) (fun k q => by cases q) rfl ?_
  refine y_cI (i := .invokevirtual 115) (len := 3) (r := (0, 63, 6, 1075)) (nL := 2) (k := 2) (n := 2) (hs := []) (args := [.inl (some ((2 + uz + 1))), zi xk]) (rest := [.inl (some 0)]) (l0 := [some (.inl (some ((2 + uz + 1)))), some (zi xk)]) (by decide +kernel) (Or.inr (Or.inl ⟨_, rfl⟩)) rfl rfl rfl rfl (Nat.le_of_ble_eq_true rfl) (zO hg tyz.1.2.1 aw1002 rfl) rfl (qI_le (by decide) (c_has5 (d := 0) hg tyz.1.2.1 hp0z)) (fun y2648 qy2648 hRy2648 => ?_)
  obtain ⟨rfl, hDy2648⟩ := hRy2648
  have ey2648 : y2648.toInt = 1 := by omega
  refine y_iF (c := .eq) (off := 7) (len := 3) (r := (0, 0, 0, 0)) (by decide +kernel) (acmpF (c := .eq) (by show ¬ (_ = _); omega)) ?_
  refine y_ic (c := 1) (len := 1) (r := (0, 0, 0, 0)) (by decide +kernel) (by decide) (fun y2649 hy2649 => ?_)
  refine y_goto (off := 4) (pc' := 31) (len := 3) (r := (0, 0, 0, 0)) (by decide +kernel) (by decide +kernel) ?_
  refine y_cV (i := .invokevirtual 120) (len := 3) (r := (0, 152, 11, 1079)) (nL := 2) (k := 0) (n := 2) (hs := []) (args := [.inl (some 0), zi y2649]) (rest := []) (l0 := [some (.inl (some 0)), some (zi y2649)]) (by decide +kernel) (Or.inr (Or.inl ⟨_, rfl⟩)) rfl rfl rfl rfl (Nat.le_of_ble_eq_true rfl) (zO hg (tv0 hg) aw0 rfl) rfl (qV_le (by decide) (c_there (d := 0) (by omega))) (fun q2650 hR2650 => ?_)
  obtain rfl := hR2650
  refine y_same (i := .aload_n 0) (len := 1) (r := (0, 0, 0, 0)) (pc' := 35) (ls' := [some (.inl (some 0)), some (zi x), some (zi xk), some (zi xw)]) (st' := [.inl (some 0)]) (by decide +kernel) (fun k q => by cases q) rfl ?_
  refine y_same (i := .iload_n 3) (len := 1) (r := (0, 0, 0, 0)) (pc' := 36) (ls' := [some (.inl (some 0)), some (zi x), some (zi xk), some (zi xw)]) (st' := [zi xw, .inl (some 0)]) (by decide +kernel) (fun k q => by cases q) rfl ?_
  refine y_iF (c := .lt) (off := 12) (len := 3) (r := (0, 0, 0, 0)) (by decide +kernel) (acmpF (c := .lt) (by show _ ≤ _; omega)) ?_
  refine y_same (i := .iload_n 3) (len := 1) (r := (0, 0, 0, 0)) (pc' := 40) (ls' := [some (.inl (some 0)), some (zi x), some (zi xk), some (zi xw)]) (st' := [zi xw, .inl (some 0)]) (by decide +kernel) (fun k q => by cases q) rfl ?_
  refine y_ic (c := 3) (len := 1) (r := (0, 0, 0, 0)) (by decide +kernel) (by decide) (fun y2651 hy2651 => ?_)
  refine y_cF (c := .gt) (off := 7) (len := 3) (r := (0, 0, 0, 0)) (by decide +kernel) (acmpF (c := .gt) (by show _ ≤ _; omega)) ?_
  refine y_ic (c := 1) (len := 1) (r := (0, 0, 0, 0)) (by decide +kernel) (by decide) (fun y2652 hy2652 => ?_)
  refine y_goto (off := 4) (pc' := 49) (len := 3) (r := (0, 0, 0, 0)) (by decide +kernel) (by decide +kernel) ?_
  refine y_cV (i := .invokevirtual 70) (len := 3) (r := (0, 153, 11, 852)) (nL := 2) (k := 0) (n := 2) (hs := []) (args := [.inl (some 0), zi y2652]) (rest := []) (l0 := [some (.inl (some 0)), some (zi y2652)]) (by decide +kernel) (Or.inr (Or.inl ⟨_, rfl⟩)) rfl rfl rfl rfl (Nat.le_of_ble_eq_true rfl) (zO hg (tv0 hg) aw0 rfl) rfl (qV_le (by decide) (c_fit (d := 0) (by omega))) (fun q2653 hR2653 => ?_)
  obtain rfl := hR2653
  refine y_same (i := .aload_n 0) (len := 1) (r := (0, 0, 0, 0)) (pc' := 53) (ls' := [some (.inl (some 0)), some (zi x), some (zi xk), some (zi xw)]) (st' := [.inl (some 0)]) (by decide +kernel) (fun k q => by cases q) rfl ?_
  refine y_get (j := 29) (len := 3) (r := (11, 5, 2, 404)) (by decide +kernel) hg (tv0 hg) aw0 rfl rfl r5 ?_
  refine y_same (i := .iload_n 1) (len := 1) (r := (0, 0, 0, 0)) (pc' := 57) (ls' := [some (.inl (some 0)), some (zi x), some (zi xk), some (zi xw)]) (st' := [zi x, .inl (some 2)]) (by decide +kernel) (fun k q => by cases q) rfl ?_
  refine y_cA (i := .invokevirtual 105) (len := 3) (r := (0, 108, 9, 1071)) (nL := 2) (k := 3) (n := 2) (hs := []) (args := [.inl (some 2), zi x]) (rest := []) (l0 := [some (.inl (some 2)), some (zi x)]) (by decide +kernel) (Or.inr (Or.inl ⟨_, rfl⟩)) rfl rfl rfl rfl (Nat.le_of_ble_eq_true rfl) (zO hg (tv2 hg) aw1000 rfl) rfl (qA_le (by decide) (c_side0 (d := 0) (u := uz) (v := vz) hg (by omega) b2z.1 b2z.2.1)) (fun q2654 hR2654 => ?_)
  obtain rfl := hR2654
  refine y_get (j := 109) (len := 3) (r := (8, 0, 2, 20182)) (by decide +kernel) hg tyz.1.1 aw1001 rfl rfl laz.1.1 ?_
  refine y_same (i := .iload_n 2) (len := 1) (r := (0, 0, 0, 0)) (pc' := 64) (ls' := [some (.inl (some 0)), some (zi x), some (zi xk), some (zi xw)]) (st' := [zi xk, .inl (some ((2 + uz + 1)))]) (by decide +kernel) (fun k q => by cases q) rfl ?_
  refine y_same (i := .iload_n 3) (len := 1) (r := (0, 0, 0, 0)) (pc' := 65) (ls' := [some (.inl (some 0)), some (zi x), some (zi xk), some (zi xw)]) (st' := [zi xw, zi xk, .inl (some ((2 + uz + 1)))]) (by decide +kernel) (fun k q => by cases q) rfl ?_
  refine y_cI (i := .invokevirtual 149) (len := 3) (r := (0, 64, 6, 1131)) (nL := 3) (k := 1) (n := 3) (hs := []) (args := [.inl (some ((2 + uz + 1))), zi xk, zi xw]) (rest := []) (l0 := [some (.inl (some ((2 + uz + 1)))), some (zi xk), some (zi xw)]) (by decide +kernel) (Or.inr (Or.inl ⟨_, rfl⟩)) rfl rfl rfl rfl (Nat.le_of_ble_eq_true rfl) (zO hg tyz.1.2.1 aw1002 rfl) rfl (qI_le (by decide) (e_tell5 (d := 0) (RA := (2 + uz + 1)) (IA := (2 + uz + 2)) hg tyz.1.2.1 tyz.1.2.2.1 laz.1.2.2.1 b2z.2.2.1.1 exk hk ok exw (by omega))) (fun y2655 qy2655 hRy2655 => ?_)
  obtain ⟨rfl, ey2655⟩ := hRy2655
  refine y_rI (len := 1) (r := (0, 0, 0, 0)) (nL := 4) (k := 1) (n9 := 4) (hs := []) (by decide +kernel) rfl rfl ?_
  exact ⟨rfl, ey2655⟩
theorem c_partT0 {t : Nat} {τ : List Nat} {h : zh} {cur : bsT} {hs : List bsT} {x xk xw : Int32} (hg : hG τ h) (rc : RC h cur hs) (r5 : hsl h 0 5 = some (.inl (some 2))) (hx : x.toInt = 0) (hk : ¬ (0 ≤ xk.toInt ∧ xk.toInt < (cur.1.1.length : Int))) : qT 21 140 [some (.inl (some 0)), some (zi x), some (zi xk), some (zi xw)] h t 0 (fun h1 => hG τ h1 ∧ ∀ k j, (k ≠ 0 ∨ j ≠ 3) → hsl h1 k j = hsl h k j) := by
  refine qT_of ?_
  obtain ⟨-, ⟨uz, vz, huz, l2z, b2z⟩, -⟩ := id rc
  have uuz : (uz = 1 ∧ vz = 6) ∨ (uz = 6 ∧ vz = 1) := huz
  have tyz := ty_u (tyB_of hg huz (tv2 hg) b2z.1 b2z.2.1 l2z) huz
  have laz := lay_u l2z huz
  obtain ⟨⟨⟨xp0z, hp0z, ep0z⟩, ip0z⟩, ⟨xc0z, hc0z, ec0z⟩, ic0z⟩ := b2z.2.2.1
  obtain ⟨⟨⟨xp1z, hp1z, ep1z⟩, ip1z⟩, ⟨xc1z, hc1z, ec1z⟩, ic1z⟩ := b2z.2.2.2
  refine y_same (i := .aload_n 0) (len := 1) (r := (0, 0, 0, 0)) (pc' := 1) (ls' := [some (.inl (some 0)), some (zi x), some (zi xk), some (zi xw)]) (st' := [.inl (some 0)]) (by decide +kernel) (fun k q => by cases q) rfl ?_
  refine y_same (i := .iload_n 1) (len := 1) (r := (0, 0, 0, 0)) (pc' := 2) (ls' := [some (.inl (some 0)), some (zi x), some (zi xk), some (zi xw)]) (st' := [zi x, .inl (some 0)]) (by decide +kernel) (fun k q => by cases q) rfl ?_
  refine y_cI (i := .invokestatic 101) (len := 3) (r := (1, 156, 11, 1068)) (nL := 1) (k := 2) (n := 1) (hs := []) (args := [zi x]) (rest := [.inl (some 0)]) (l0 := [some (zi x)]) (by decide +kernel) (Or.inl ⟨_, rfl⟩) rfl rfl rfl rfl (Nat.le_of_ble_eq_true rfl) rfl rfl (qI_le (by decide) (c_isSide (d := 0))) (fun y2656 qy2656 hRy2656 => ?_)
  obtain ⟨rfl, hDy2656⟩ := hRy2656
  have ey2656 : y2656.toInt = 1 := by omega
  refine y_iF (c := .eq) (off := 25) (len := 3) (r := (0, 0, 0, 0)) (by decide +kernel) (acmpF (c := .eq) (by show ¬ (_ = _); omega)) ?_
  refine y_same (i := .aload_n 0) (len := 1) (r := (0, 0, 0, 0)) (pc' := 9) (ls' := [some (.inl (some 0)), some (zi x), some (zi xk), some (zi xw)]) (st' := [.inl (some 0), .inl (some 0)]) (by decide +kernel) (fun k q => by cases q) rfl ?_
  refine y_get (j := 29) (len := 3) (r := (11, 5, 2, 404)) (by decide +kernel) hg (tv0 hg) aw0 rfl rfl r5 ?_
  refine y_same (i := .iload_n 1) (len := 1) (r := (0, 0, 0, 0)) (pc' := 13) (ls' := [some (.inl (some 0)), some (zi x), some (zi xk), some (zi xw)]) (st' := [zi x, .inl (some 2), .inl (some 0)]) (by decide +kernel) (fun k q => by cases q) rfl ?_
  refine y_cA (i := .invokevirtual 105) (len := 3) (r := (0, 108, 9, 1071)) (nL := 2) (k := 3) (n := 2) (hs := []) (args := [.inl (some 2), zi x]) (rest := [.inl (some 0)]) (l0 := [some (.inl (some 2)), some (zi x)]) (by decide +kernel) (Or.inr (Or.inl ⟨_, rfl⟩)) rfl rfl rfl rfl (Nat.le_of_ble_eq_true rfl) (zO hg (tv2 hg) aw1000 rfl) rfl (qA_le (by decide) (c_side0 (d := 0) (u := uz) (v := vz) hg (by omega) b2z.1 b2z.2.1)) (fun q2657 hR2657 => ?_)
  obtain rfl := hR2657
  refine y_get (j := 109) (len := 3) (r := (8, 0, 2, 20182)) (by decide +kernel) hg tyz.1.1 aw1001 rfl rfl laz.1.1 ?_
  refine y_same (i := .iload_n 2) (len := 1) (r := (0, 0, 0, 0)) (pc' := 20) (ls' := [some (.inl (some 0)), some (zi x), some (zi xk), some (zi xw)]) (st' := [zi xk, .inl (some ((2 + uz + 1))), .inl (some 0)]) (by decide +kernel) (fun k q => by cases q) rfl ?_
  refine y_cI (i := .invokevirtual 115) (len := 3) (r := (0, 63, 6, 1075)) (nL := 2) (k := 2) (n := 2) (hs := []) (args := [.inl (some ((2 + uz + 1))), zi xk]) (rest := [.inl (some 0)]) (l0 := [some (.inl (some ((2 + uz + 1)))), some (zi xk)]) (by decide +kernel) (Or.inr (Or.inl ⟨_, rfl⟩)) rfl rfl rfl rfl (Nat.le_of_ble_eq_true rfl) (zO hg tyz.1.2.1 aw1002 rfl) rfl (qI_le (by decide) (c_has5 (d := 0) hg tyz.1.2.1 hp0z)) (fun y2658 qy2658 hRy2658 => ?_)
  obtain ⟨rfl, hDy2658⟩ := hRy2658
  have ey2658 : y2658.toInt = 0 := by omega
  refine y_iT (c := .eq) (off := 7) (pc' := 30) (len := 3) (r := (0, 0, 0, 0)) (by decide +kernel) (acmpT (c := .eq) (by show _ = _; omega)) (by decide +kernel) ?_
  refine y_ic (c := 0) (len := 1) (r := (0, 0, 0, 0)) (by decide +kernel) (by decide) (fun y2659 hy2659 => ?_)
  refine y_cX (i := .invokevirtual 120) (len := 3) (r := (0, 152, 11, 1079)) (nL := 2) (k := 0) (n := 2) (hs := []) (args := [.inl (some 0), zi y2659]) (rest := []) (l0 := [some (.inl (some 0)), some (zi y2659)]) (by decide +kernel) (Or.inr (Or.inl ⟨_, rfl⟩)) rfl rfl rfl rfl (Nat.le_of_ble_eq_true rfl) (zO hg (tv0 hg) aw0 rfl) rfl rfl (mL := 4) (mk := 1) (m9 := 4) (ms := []) rfl rfl (qT_le (by decide) (c_thereT (d := 0) hg (by omega))) (fun h2660 hR2660 => ?_)
  obtain ⟨hg2660, F2660⟩ := hR2660
  exact ⟨_, rfl, hg2660, fun k j hC => (F2660 k j (by omega))⟩
theorem c_partW0 {t : Nat} {τ : List Nat} {h : zh} {cur : bsT} {hs : List bsT} {x xk xw : Int32} (hg : hG τ h) (rc : RC h cur hs) (r5 : hsl h 0 5 = some (.inl (some 2))) (hx : x.toInt = 0) (hk : 0 ≤ xk.toInt ∧ xk.toInt < (cur.1.1.length : Int)) (hw : ¬ (0 ≤ xw.toInt ∧ xw.toInt ≤ 3)) : qT 21 140 [some (.inl (some 0)), some (zi x), some (zi xk), some (zi xw)] h t 1 (fun h1 => hG τ h1 ∧ ∀ k j, (k ≠ 0 ∨ j ≠ 4) → hsl h1 k j = hsl h k j) := by
  refine qT_of ?_
  obtain ⟨-, ⟨uz, vz, huz, l2z, b2z⟩, -⟩ := id rc
  have uuz : (uz = 1 ∧ vz = 6) ∨ (uz = 6 ∧ vz = 1) := huz
  have tyz := ty_u (tyB_of hg huz (tv2 hg) b2z.1 b2z.2.1 l2z) huz
  have laz := lay_u l2z huz
  obtain ⟨⟨⟨xp0z, hp0z, ep0z⟩, ip0z⟩, ⟨xc0z, hc0z, ec0z⟩, ic0z⟩ := b2z.2.2.1
  obtain ⟨⟨⟨xp1z, hp1z, ep1z⟩, ip1z⟩, ⟨xc1z, hc1z, ec1z⟩, ic1z⟩ := b2z.2.2.2
  refine y_same (i := .aload_n 0) (len := 1) (r := (0, 0, 0, 0)) (pc' := 1) (ls' := [some (.inl (some 0)), some (zi x), some (zi xk), some (zi xw)]) (st' := [.inl (some 0)]) (by decide +kernel) (fun k q => by cases q) rfl ?_
  refine y_same (i := .iload_n 1) (len := 1) (r := (0, 0, 0, 0)) (pc' := 2) (ls' := [some (.inl (some 0)), some (zi x), some (zi xk), some (zi xw)]) (st' := [zi x, .inl (some 0)]) (by decide +kernel) (fun k q => by cases q) rfl ?_
  refine y_cI (i := .invokestatic 101) (len := 3) (r := (1, 156, 11, 1068)) (nL := 1) (k := 2) (n := 1) (hs := []) (args := [zi x]) (rest := [.inl (some 0)]) (l0 := [some (zi x)]) (by decide +kernel) (Or.inl ⟨_, rfl⟩) rfl rfl rfl rfl (Nat.le_of_ble_eq_true rfl) rfl rfl (qI_le (by decide) (c_isSide (d := 0))) (fun y2661 qy2661 hRy2661 => ?_)
  obtain ⟨rfl, hDy2661⟩ := hRy2661
  have ey2661 : y2661.toInt = 1 := by omega
  refine y_iF (c := .eq) (off := 25) (len := 3) (r := (0, 0, 0, 0)) (by decide +kernel) (acmpF (c := .eq) (by show ¬ (_ = _); omega)) ?_
  refine y_same (i := .aload_n 0) (len := 1) (r := (0, 0, 0, 0)) (pc' := 9) (ls' := [some (.inl (some 0)), some (zi x), some (zi xk), some (zi xw)]) (st' := [.inl (some 0), .inl (some 0)]) (by decide +kernel) (fun k q => by cases q) rfl ?_
  refine y_get (j := 29) (len := 3) (r := (11, 5, 2, 404)) (by decide +kernel) hg (tv0 hg) aw0 rfl rfl r5 ?_
  refine y_same (i := .iload_n 1) (len := 1) (r := (0, 0, 0, 0)) (pc' := 13) (ls' := [some (.inl (some 0)), some (zi x), some (zi xk), some (zi xw)]) (st' := [zi x, .inl (some 2), .inl (some 0)]) (by decide +kernel) (fun k q => by cases q) rfl ?_
  refine y_cA (i := .invokevirtual 105) (len := 3) (r := (0, 108, 9, 1071)) (nL := 2) (k := 3) (n := 2) (hs := []) (args := [.inl (some 2), zi x]) (rest := [.inl (some 0)]) (l0 := [some (.inl (some 2)), some (zi x)]) (by decide +kernel) (Or.inr (Or.inl ⟨_, rfl⟩)) rfl rfl rfl rfl (Nat.le_of_ble_eq_true rfl) (zO hg (tv2 hg) aw1000 rfl) rfl (qA_le (by decide) (c_side0 (d := 0) (u := uz) (v := vz) hg (by omega) b2z.1 b2z.2.1)) (fun q2662 hR2662 => ?_)
  obtain rfl := hR2662
  refine y_get (j := 109) (len := 3) (r := (8, 0, 2, 20182)) (by decide +kernel) hg tyz.1.1 aw1001 rfl rfl laz.1.1 ?_
  refine y_same (i := .iload_n 2) (len := 1) (r := (0, 0, 0, 0)) (pc' := 20) (ls' := [some (.inl (some 0)), some (zi x), some (zi xk), some (zi xw)]) (st' := [zi xk, .inl (some ((2 + uz + 1))), .inl (some 0)]) (by decide +kernel) (fun k q => by cases q) rfl ?_
  refine y_cI (i := .invokevirtual 115) (len := 3) (r := (0, 63, 6, 1075)) (nL := 2) (k := 2) (n := 2) (hs := []) (args := [.inl (some ((2 + uz + 1))), zi xk]) (rest := [.inl (some 0)]) (l0 := [some (.inl (some ((2 + uz + 1)))), some (zi xk)]) (by decide +kernel) (Or.inr (Or.inl ⟨_, rfl⟩)) rfl rfl rfl rfl (Nat.le_of_ble_eq_true rfl) (zO hg tyz.1.2.1 aw1002 rfl) rfl (qI_le (by decide) (c_has5 (d := 0) hg tyz.1.2.1 hp0z)) (fun y2663 qy2663 hRy2663 => ?_)
  obtain ⟨rfl, hDy2663⟩ := hRy2663
  have ey2663 : y2663.toInt = 1 := by omega
  refine y_iF (c := .eq) (off := 7) (len := 3) (r := (0, 0, 0, 0)) (by decide +kernel) (acmpF (c := .eq) (by show ¬ (_ = _); omega)) ?_
  refine y_ic (c := 1) (len := 1) (r := (0, 0, 0, 0)) (by decide +kernel) (by decide) (fun y2664 hy2664 => ?_)
  refine y_goto (off := 4) (pc' := 31) (len := 3) (r := (0, 0, 0, 0)) (by decide +kernel) (by decide +kernel) ?_
  refine y_cV (i := .invokevirtual 120) (len := 3) (r := (0, 152, 11, 1079)) (nL := 2) (k := 0) (n := 2) (hs := []) (args := [.inl (some 0), zi y2664]) (rest := []) (l0 := [some (.inl (some 0)), some (zi y2664)]) (by decide +kernel) (Or.inr (Or.inl ⟨_, rfl⟩)) rfl rfl rfl rfl (Nat.le_of_ble_eq_true rfl) (zO hg (tv0 hg) aw0 rfl) rfl (qV_le (by decide) (c_there (d := 0) (by omega))) (fun q2665 hR2665 => ?_)
  obtain rfl := hR2665
  refine y_same (i := .aload_n 0) (len := 1) (r := (0, 0, 0, 0)) (pc' := 35) (ls' := [some (.inl (some 0)), some (zi x), some (zi xk), some (zi xw)]) (st' := [.inl (some 0)]) (by decide +kernel) (fun k q => by cases q) rfl ?_
  refine y_same (i := .iload_n 3) (len := 1) (r := (0, 0, 0, 0)) (pc' := 36) (ls' := [some (.inl (some 0)), some (zi x), some (zi xk), some (zi xw)]) (st' := [zi xw, .inl (some 0)]) (by decide +kernel) (fun k q => by cases q) rfl ?_
  rcases Decidable.em (xw.toInt < 0) with q2666 | q2666
  ·
    refine y_iT (c := .lt) (off := 12) (pc' := 48) (len := 3) (r := (0, 0, 0, 0)) (by decide +kernel) (acmpT (c := .lt) (by show _ < _; omega)) (by decide +kernel) ?_
    refine y_ic (c := 0) (len := 1) (r := (0, 0, 0, 0)) (by decide +kernel) (by decide) (fun y2667 hy2667 => ?_)
    refine y_cX (i := .invokevirtual 70) (len := 3) (r := (0, 153, 11, 852)) (nL := 2) (k := 0) (n := 2) (hs := []) (args := [.inl (some 0), zi y2667]) (rest := []) (l0 := [some (.inl (some 0)), some (zi y2667)]) (by decide +kernel) (Or.inr (Or.inl ⟨_, rfl⟩)) rfl rfl rfl rfl (Nat.le_of_ble_eq_true rfl) (zO hg (tv0 hg) aw0 rfl) rfl rfl (mL := 4) (mk := 1) (m9 := 4) (ms := []) rfl rfl (qT_le (by decide) (c_fitT (d := 0) hg (by omega))) (fun h2668 hR2668 => ?_)
    obtain ⟨hg2668, F2668⟩ := hR2668
    exact ⟨_, rfl, hg2668, fun k j hC => (F2668 k j (by omega))⟩
  ·
    refine y_iF (c := .lt) (off := 12) (len := 3) (r := (0, 0, 0, 0)) (by decide +kernel) (acmpF (c := .lt) (by show _ ≤ _; omega)) ?_
    refine y_same (i := .iload_n 3) (len := 1) (r := (0, 0, 0, 0)) (pc' := 40) (ls' := [some (.inl (some 0)), some (zi x), some (zi xk), some (zi xw)]) (st' := [zi xw, .inl (some 0)]) (by decide +kernel) (fun k q => by cases q) rfl ?_
    refine y_ic (c := 3) (len := 1) (r := (0, 0, 0, 0)) (by decide +kernel) (by decide) (fun y2669 hy2669 => ?_)
    rcases Decidable.em (xw.toInt > y2669.toInt) with q2670 | q2670
    ·
      refine y_cT (c := .gt) (off := 7) (pc' := 48) (len := 3) (r := (0, 0, 0, 0)) (by decide +kernel) (acmpT (c := .gt) (by show _ < _; omega)) (by decide +kernel) ?_
      refine y_ic (c := 0) (len := 1) (r := (0, 0, 0, 0)) (by decide +kernel) (by decide) (fun y2671 hy2671 => ?_)
      refine y_cX (i := .invokevirtual 70) (len := 3) (r := (0, 153, 11, 852)) (nL := 2) (k := 0) (n := 2) (hs := []) (args := [.inl (some 0), zi y2671]) (rest := []) (l0 := [some (.inl (some 0)), some (zi y2671)]) (by decide +kernel) (Or.inr (Or.inl ⟨_, rfl⟩)) rfl rfl rfl rfl (Nat.le_of_ble_eq_true rfl) (zO hg (tv0 hg) aw0 rfl) rfl rfl (mL := 4) (mk := 1) (m9 := 4) (ms := []) rfl rfl (qT_le (by decide) (c_fitT (d := 0) hg (by omega))) (fun h2672 hR2672 => ?_)
      obtain ⟨hg2672, F2672⟩ := hR2672
      exact ⟨_, rfl, hg2672, fun k j hC => (F2672 k j (by omega))⟩
    ·
      refine y_cF (c := .gt) (off := 7) (len := 3) (r := (0, 0, 0, 0)) (by decide +kernel) (acmpF (c := .gt) (by show _ ≤ _; omega)) ?_
      refine y_ic (c := 1) (len := 1) (r := (0, 0, 0, 0)) (by decide +kernel) (by decide) (fun y2673 hy2673 => ?_)
      refine y_goto (off := 4) (pc' := 49) (len := 3) (r := (0, 0, 0, 0)) (by decide +kernel) (by decide +kernel) ?_
      exfalso
      omega
theorem c_part1 {t k w : Nat} {τ : List Nat} {h : zh} {cur : bsT} {hs : List bsT} {x xk xw : Int32} {i : it4} (hg : hG τ h) (rc : RC h cur hs) (r5 : hsl h 0 5 = some (.inl (some 2))) (hx : x.toInt = 1) (exk : xk.toInt = (k : Int)) (hk : cur.2.1[k]? = some i) (ok : okI i) (exw : xw.toInt = (w : Int)) (hw : w ≤ 3) : qI 21 140 [some (.inl (some 0)), some (zi x), some (zi xk), some (zi xw)] h t (fun y h1 => h = h1 ∧ y.toInt = cmp_ i w) := by
  have hk9 := (List.getElem?_eq_some_iff.mp hk).1
  refine qI_of ?_
  obtain ⟨-, ⟨uz, vz, huz, l2z, b2z⟩, -⟩ := id rc
  have uuz : (uz = 1 ∧ vz = 6) ∨ (uz = 6 ∧ vz = 1) := huz
  have tyz := ty_u (tyB_of hg huz (tv2 hg) b2z.1 b2z.2.1 l2z) huz
  have laz := lay_u l2z huz
  obtain ⟨⟨⟨xp0z, hp0z, ep0z⟩, ip0z⟩, ⟨xc0z, hc0z, ec0z⟩, ic0z⟩ := b2z.2.2.1
  obtain ⟨⟨⟨xp1z, hp1z, ep1z⟩, ip1z⟩, ⟨xc1z, hc1z, ec1z⟩, ic1z⟩ := b2z.2.2.2
  refine y_same (i := .aload_n 0) (len := 1) (r := (0, 0, 0, 0)) (pc' := 1) (ls' := [some (.inl (some 0)), some (zi x), some (zi xk), some (zi xw)]) (st' := [.inl (some 0)]) (by decide +kernel) (fun k q => by cases q) rfl ?_
  refine y_same (i := .iload_n 1) (len := 1) (r := (0, 0, 0, 0)) (pc' := 2) (ls' := [some (.inl (some 0)), some (zi x), some (zi xk), some (zi xw)]) (st' := [zi x, .inl (some 0)]) (by decide +kernel) (fun k q => by cases q) rfl ?_
  refine y_cI (i := .invokestatic 101) (len := 3) (r := (1, 156, 11, 1068)) (nL := 1) (k := 2) (n := 1) (hs := []) (args := [zi x]) (rest := [.inl (some 0)]) (l0 := [some (zi x)]) (by decide +kernel) (Or.inl ⟨_, rfl⟩) rfl rfl rfl rfl (Nat.le_of_ble_eq_true rfl) rfl rfl (qI_le (by decide) (c_isSide (d := 0))) (fun y2674 qy2674 hRy2674 => ?_)
  obtain ⟨rfl, hDy2674⟩ := hRy2674
  have ey2674 : y2674.toInt = 1 := by omega
  refine y_iF (c := .eq) (off := 25) (len := 3) (r := (0, 0, 0, 0)) (by decide +kernel) (acmpF (c := .eq) (by show ¬ (_ = _); omega)) ?_
  refine y_same (i := .aload_n 0) (len := 1) (r := (0, 0, 0, 0)) (pc' := 9) (ls' := [some (.inl (some 0)), some (zi x), some (zi xk), some (zi xw)]) (st' := [.inl (some 0), .inl (some 0)]) (by decide +kernel) (fun k q => by cases q) rfl ?_
  refine y_get (j := 29) (len := 3) (r := (11, 5, 2, 404)) (by decide +kernel) hg (tv0 hg) aw0 rfl rfl r5 ?_
  refine y_same (i := .iload_n 1) (len := 1) (r := (0, 0, 0, 0)) (pc' := 13) (ls' := [some (.inl (some 0)), some (zi x), some (zi xk), some (zi xw)]) (st' := [zi x, .inl (some 2), .inl (some 0)]) (by decide +kernel) (fun k q => by cases q) rfl ?_
  refine y_cA (i := .invokevirtual 105) (len := 3) (r := (0, 108, 9, 1071)) (nL := 2) (k := 3) (n := 2) (hs := []) (args := [.inl (some 2), zi x]) (rest := [.inl (some 0)]) (l0 := [some (.inl (some 2)), some (zi x)]) (by decide +kernel) (Or.inr (Or.inl ⟨_, rfl⟩)) rfl rfl rfl rfl (Nat.le_of_ble_eq_true rfl) (zO hg (tv2 hg) aw1000 rfl) rfl (qA_le (by decide) (c_side1 (d := 0) (u := uz) (v := vz) hg (by omega) b2z.1 b2z.2.1)) (fun q2675 hR2675 => ?_)
  obtain rfl := hR2675
  refine y_get (j := 109) (len := 3) (r := (8, 0, 2, 20182)) (by decide +kernel) hg tyz.2.1 aw1001 rfl rfl laz.2.1 ?_
  refine y_same (i := .iload_n 2) (len := 1) (r := (0, 0, 0, 0)) (pc' := 20) (ls' := [some (.inl (some 0)), some (zi x), some (zi xk), some (zi xw)]) (st' := [zi xk, .inl (some ((2 + vz + 1))), .inl (some 0)]) (by decide +kernel) (fun k q => by cases q) rfl ?_
  refine y_cI (i := .invokevirtual 115) (len := 3) (r := (0, 63, 6, 1075)) (nL := 2) (k := 2) (n := 2) (hs := []) (args := [.inl (some ((2 + vz + 1))), zi xk]) (rest := [.inl (some 0)]) (l0 := [some (.inl (some ((2 + vz + 1)))), some (zi xk)]) (by decide +kernel) (Or.inr (Or.inl ⟨_, rfl⟩)) rfl rfl rfl rfl (Nat.le_of_ble_eq_true rfl) (zO hg tyz.2.2.1 aw1002 rfl) rfl (qI_le (by decide) (c_has5 (d := 0) hg tyz.2.2.1 hp1z)) (fun y2676 qy2676 hRy2676 => ?_)
  obtain ⟨rfl, hDy2676⟩ := hRy2676
  have ey2676 : y2676.toInt = 1 := by omega
  refine y_iF (c := .eq) (off := 7) (len := 3) (r := (0, 0, 0, 0)) (by decide +kernel) (acmpF (c := .eq) (by show ¬ (_ = _); omega)) ?_
  refine y_ic (c := 1) (len := 1) (r := (0, 0, 0, 0)) (by decide +kernel) (by decide) (fun y2677 hy2677 => ?_)
  refine y_goto (off := 4) (pc' := 31) (len := 3) (r := (0, 0, 0, 0)) (by decide +kernel) (by decide +kernel) ?_
  refine y_cV (i := .invokevirtual 120) (len := 3) (r := (0, 152, 11, 1079)) (nL := 2) (k := 0) (n := 2) (hs := []) (args := [.inl (some 0), zi y2677]) (rest := []) (l0 := [some (.inl (some 0)), some (zi y2677)]) (by decide +kernel) (Or.inr (Or.inl ⟨_, rfl⟩)) rfl rfl rfl rfl (Nat.le_of_ble_eq_true rfl) (zO hg (tv0 hg) aw0 rfl) rfl (qV_le (by decide) (c_there (d := 0) (by omega))) (fun q2678 hR2678 => ?_)
  obtain rfl := hR2678
  refine y_same (i := .aload_n 0) (len := 1) (r := (0, 0, 0, 0)) (pc' := 35) (ls' := [some (.inl (some 0)), some (zi x), some (zi xk), some (zi xw)]) (st' := [.inl (some 0)]) (by decide +kernel) (fun k q => by cases q) rfl ?_
  refine y_same (i := .iload_n 3) (len := 1) (r := (0, 0, 0, 0)) (pc' := 36) (ls' := [some (.inl (some 0)), some (zi x), some (zi xk), some (zi xw)]) (st' := [zi xw, .inl (some 0)]) (by decide +kernel) (fun k q => by cases q) rfl ?_
  refine y_iF (c := .lt) (off := 12) (len := 3) (r := (0, 0, 0, 0)) (by decide +kernel) (acmpF (c := .lt) (by show _ ≤ _; omega)) ?_
  refine y_same (i := .iload_n 3) (len := 1) (r := (0, 0, 0, 0)) (pc' := 40) (ls' := [some (.inl (some 0)), some (zi x), some (zi xk), some (zi xw)]) (st' := [zi xw, .inl (some 0)]) (by decide +kernel) (fun k q => by cases q) rfl ?_
  refine y_ic (c := 3) (len := 1) (r := (0, 0, 0, 0)) (by decide +kernel) (by decide) (fun y2679 hy2679 => ?_)
  refine y_cF (c := .gt) (off := 7) (len := 3) (r := (0, 0, 0, 0)) (by decide +kernel) (acmpF (c := .gt) (by show _ ≤ _; omega)) ?_
  refine y_ic (c := 1) (len := 1) (r := (0, 0, 0, 0)) (by decide +kernel) (by decide) (fun y2680 hy2680 => ?_)
  refine y_goto (off := 4) (pc' := 49) (len := 3) (r := (0, 0, 0, 0)) (by decide +kernel) (by decide +kernel) ?_
  refine y_cV (i := .invokevirtual 70) (len := 3) (r := (0, 153, 11, 852)) (nL := 2) (k := 0) (n := 2) (hs := []) (args := [.inl (some 0), zi y2680]) (rest := []) (l0 := [some (.inl (some 0)), some (zi y2680)]) (by decide +kernel) (Or.inr (Or.inl ⟨_, rfl⟩)) rfl rfl rfl rfl (Nat.le_of_ble_eq_true rfl) (zO hg (tv0 hg) aw0 rfl) rfl (qV_le (by decide) (c_fit (d := 0) (by omega))) (fun q2681 hR2681 => ?_)
  obtain rfl := hR2681
  refine y_same (i := .aload_n 0) (len := 1) (r := (0, 0, 0, 0)) (pc' := 53) (ls' := [some (.inl (some 0)), some (zi x), some (zi xk), some (zi xw)]) (st' := [.inl (some 0)]) (by decide +kernel) (fun k q => by cases q) rfl ?_
  refine y_get (j := 29) (len := 3) (r := (11, 5, 2, 404)) (by decide +kernel) hg (tv0 hg) aw0 rfl rfl r5 ?_
  refine y_same (i := .iload_n 1) (len := 1) (r := (0, 0, 0, 0)) (pc' := 57) (ls' := [some (.inl (some 0)), some (zi x), some (zi xk), some (zi xw)]) (st' := [zi x, .inl (some 2)]) (by decide +kernel) (fun k q => by cases q) rfl ?_
  refine y_cA (i := .invokevirtual 105) (len := 3) (r := (0, 108, 9, 1071)) (nL := 2) (k := 3) (n := 2) (hs := []) (args := [.inl (some 2), zi x]) (rest := []) (l0 := [some (.inl (some 2)), some (zi x)]) (by decide +kernel) (Or.inr (Or.inl ⟨_, rfl⟩)) rfl rfl rfl rfl (Nat.le_of_ble_eq_true rfl) (zO hg (tv2 hg) aw1000 rfl) rfl (qA_le (by decide) (c_side1 (d := 0) (u := uz) (v := vz) hg (by omega) b2z.1 b2z.2.1)) (fun q2682 hR2682 => ?_)
  obtain rfl := hR2682
  refine y_get (j := 109) (len := 3) (r := (8, 0, 2, 20182)) (by decide +kernel) hg tyz.2.1 aw1001 rfl rfl laz.2.1 ?_
  refine y_same (i := .iload_n 2) (len := 1) (r := (0, 0, 0, 0)) (pc' := 64) (ls' := [some (.inl (some 0)), some (zi x), some (zi xk), some (zi xw)]) (st' := [zi xk, .inl (some ((2 + vz + 1)))]) (by decide +kernel) (fun k q => by cases q) rfl ?_
  refine y_same (i := .iload_n 3) (len := 1) (r := (0, 0, 0, 0)) (pc' := 65) (ls' := [some (.inl (some 0)), some (zi x), some (zi xk), some (zi xw)]) (st' := [zi xw, zi xk, .inl (some ((2 + vz + 1)))]) (by decide +kernel) (fun k q => by cases q) rfl ?_
  refine y_cI (i := .invokevirtual 149) (len := 3) (r := (0, 64, 6, 1131)) (nL := 3) (k := 1) (n := 3) (hs := []) (args := [.inl (some ((2 + vz + 1))), zi xk, zi xw]) (rest := []) (l0 := [some (.inl (some ((2 + vz + 1)))), some (zi xk), some (zi xw)]) (by decide +kernel) (Or.inr (Or.inl ⟨_, rfl⟩)) rfl rfl rfl rfl (Nat.le_of_ble_eq_true rfl) (zO hg tyz.2.2.1 aw1002 rfl) rfl (qI_le (by decide) (e_tell5 (d := 0) (RA := (2 + vz + 1)) (IA := (2 + vz + 2)) hg tyz.2.2.1 tyz.2.2.2.1 laz.2.2.2.1 b2z.2.2.2.1 exk hk ok exw (by omega))) (fun y2683 qy2683 hRy2683 => ?_)
  obtain ⟨rfl, ey2683⟩ := hRy2683
  refine y_rI (len := 1) (r := (0, 0, 0, 0)) (nL := 4) (k := 1) (n9 := 4) (hs := []) (by decide +kernel) rfl rfl ?_
  exact ⟨rfl, ey2683⟩
theorem c_partT1 {t : Nat} {τ : List Nat} {h : zh} {cur : bsT} {hs : List bsT} {x xk xw : Int32} (hg : hG τ h) (rc : RC h cur hs) (r5 : hsl h 0 5 = some (.inl (some 2))) (hx : x.toInt = 1) (hk : ¬ (0 ≤ xk.toInt ∧ xk.toInt < (cur.2.1.length : Int))) : qT 21 140 [some (.inl (some 0)), some (zi x), some (zi xk), some (zi xw)] h t 0 (fun h1 => hG τ h1 ∧ ∀ k j, (k ≠ 0 ∨ j ≠ 3) → hsl h1 k j = hsl h k j) := by
  refine qT_of ?_
  obtain ⟨-, ⟨uz, vz, huz, l2z, b2z⟩, -⟩ := id rc
  have uuz : (uz = 1 ∧ vz = 6) ∨ (uz = 6 ∧ vz = 1) := huz
  have tyz := ty_u (tyB_of hg huz (tv2 hg) b2z.1 b2z.2.1 l2z) huz
  have laz := lay_u l2z huz
  obtain ⟨⟨⟨xp0z, hp0z, ep0z⟩, ip0z⟩, ⟨xc0z, hc0z, ec0z⟩, ic0z⟩ := b2z.2.2.1
  obtain ⟨⟨⟨xp1z, hp1z, ep1z⟩, ip1z⟩, ⟨xc1z, hc1z, ec1z⟩, ic1z⟩ := b2z.2.2.2
  refine y_same (i := .aload_n 0) (len := 1) (r := (0, 0, 0, 0)) (pc' := 1) (ls' := [some (.inl (some 0)), some (zi x), some (zi xk), some (zi xw)]) (st' := [.inl (some 0)]) (by decide +kernel) (fun k q => by cases q) rfl ?_
  refine y_same (i := .iload_n 1) (len := 1) (r := (0, 0, 0, 0)) (pc' := 2) (ls' := [some (.inl (some 0)), some (zi x), some (zi xk), some (zi xw)]) (st' := [zi x, .inl (some 0)]) (by decide +kernel) (fun k q => by cases q) rfl ?_
  refine y_cI (i := .invokestatic 101) (len := 3) (r := (1, 156, 11, 1068)) (nL := 1) (k := 2) (n := 1) (hs := []) (args := [zi x]) (rest := [.inl (some 0)]) (l0 := [some (zi x)]) (by decide +kernel) (Or.inl ⟨_, rfl⟩) rfl rfl rfl rfl (Nat.le_of_ble_eq_true rfl) rfl rfl (qI_le (by decide) (c_isSide (d := 0))) (fun y2684 qy2684 hRy2684 => ?_)
  obtain ⟨rfl, hDy2684⟩ := hRy2684
  have ey2684 : y2684.toInt = 1 := by omega
  refine y_iF (c := .eq) (off := 25) (len := 3) (r := (0, 0, 0, 0)) (by decide +kernel) (acmpF (c := .eq) (by show ¬ (_ = _); omega)) ?_
  refine y_same (i := .aload_n 0) (len := 1) (r := (0, 0, 0, 0)) (pc' := 9) (ls' := [some (.inl (some 0)), some (zi x), some (zi xk), some (zi xw)]) (st' := [.inl (some 0), .inl (some 0)]) (by decide +kernel) (fun k q => by cases q) rfl ?_
  refine y_get (j := 29) (len := 3) (r := (11, 5, 2, 404)) (by decide +kernel) hg (tv0 hg) aw0 rfl rfl r5 ?_
  refine y_same (i := .iload_n 1) (len := 1) (r := (0, 0, 0, 0)) (pc' := 13) (ls' := [some (.inl (some 0)), some (zi x), some (zi xk), some (zi xw)]) (st' := [zi x, .inl (some 2), .inl (some 0)]) (by decide +kernel) (fun k q => by cases q) rfl ?_
  refine y_cA (i := .invokevirtual 105) (len := 3) (r := (0, 108, 9, 1071)) (nL := 2) (k := 3) (n := 2) (hs := []) (args := [.inl (some 2), zi x]) (rest := [.inl (some 0)]) (l0 := [some (.inl (some 2)), some (zi x)]) (by decide +kernel) (Or.inr (Or.inl ⟨_, rfl⟩)) rfl rfl rfl rfl (Nat.le_of_ble_eq_true rfl) (zO hg (tv2 hg) aw1000 rfl) rfl (qA_le (by decide) (c_side1 (d := 0) (u := uz) (v := vz) hg (by omega) b2z.1 b2z.2.1)) (fun q2685 hR2685 => ?_)
  obtain rfl := hR2685
  refine y_get (j := 109) (len := 3) (r := (8, 0, 2, 20182)) (by decide +kernel) hg tyz.2.1 aw1001 rfl rfl laz.2.1 ?_
  refine y_same (i := .iload_n 2) (len := 1) (r := (0, 0, 0, 0)) (pc' := 20) (ls' := [some (.inl (some 0)), some (zi x), some (zi xk), some (zi xw)]) (st' := [zi xk, .inl (some ((2 + vz + 1))), .inl (some 0)]) (by decide +kernel) (fun k q => by cases q) rfl ?_
  refine y_cI (i := .invokevirtual 115) (len := 3) (r := (0, 63, 6, 1075)) (nL := 2) (k := 2) (n := 2) (hs := []) (args := [.inl (some ((2 + vz + 1))), zi xk]) (rest := [.inl (some 0)]) (l0 := [some (.inl (some ((2 + vz + 1)))), some (zi xk)]) (by decide +kernel) (Or.inr (Or.inl ⟨_, rfl⟩)) rfl rfl rfl rfl (Nat.le_of_ble_eq_true rfl) (zO hg tyz.2.2.1 aw1002 rfl) rfl (qI_le (by decide) (c_has5 (d := 0) hg tyz.2.2.1 hp1z)) (fun y2686 qy2686 hRy2686 => ?_)
  obtain ⟨rfl, hDy2686⟩ := hRy2686
  have ey2686 : y2686.toInt = 0 := by omega
  refine y_iT (c := .eq) (off := 7) (pc' := 30) (len := 3) (r := (0, 0, 0, 0)) (by decide +kernel) (acmpT (c := .eq) (by show _ = _; omega)) (by decide +kernel) ?_
  refine y_ic (c := 0) (len := 1) (r := (0, 0, 0, 0)) (by decide +kernel) (by decide) (fun y2687 hy2687 => ?_)
  refine y_cX (i := .invokevirtual 120) (len := 3) (r := (0, 152, 11, 1079)) (nL := 2) (k := 0) (n := 2) (hs := []) (args := [.inl (some 0), zi y2687]) (rest := []) (l0 := [some (.inl (some 0)), some (zi y2687)]) (by decide +kernel) (Or.inr (Or.inl ⟨_, rfl⟩)) rfl rfl rfl rfl (Nat.le_of_ble_eq_true rfl) (zO hg (tv0 hg) aw0 rfl) rfl rfl (mL := 4) (mk := 1) (m9 := 4) (ms := []) rfl rfl (qT_le (by decide) (c_thereT (d := 0) hg (by omega))) (fun h2688 hR2688 => ?_)
  obtain ⟨hg2688, F2688⟩ := hR2688
  exact ⟨_, rfl, hg2688, fun k j hC => (F2688 k j (by omega))⟩
theorem c_partW1 {t : Nat} {τ : List Nat} {h : zh} {cur : bsT} {hs : List bsT} {x xk xw : Int32} (hg : hG τ h) (rc : RC h cur hs) (r5 : hsl h 0 5 = some (.inl (some 2))) (hx : x.toInt = 1) (hk : 0 ≤ xk.toInt ∧ xk.toInt < (cur.2.1.length : Int)) (hw : ¬ (0 ≤ xw.toInt ∧ xw.toInt ≤ 3)) : qT 21 140 [some (.inl (some 0)), some (zi x), some (zi xk), some (zi xw)] h t 1 (fun h1 => hG τ h1 ∧ ∀ k j, (k ≠ 0 ∨ j ≠ 4) → hsl h1 k j = hsl h k j) := by
  refine qT_of ?_
  obtain ⟨-, ⟨uz, vz, huz, l2z, b2z⟩, -⟩ := id rc
  have uuz : (uz = 1 ∧ vz = 6) ∨ (uz = 6 ∧ vz = 1) := huz
  have tyz := ty_u (tyB_of hg huz (tv2 hg) b2z.1 b2z.2.1 l2z) huz
  have laz := lay_u l2z huz
  obtain ⟨⟨⟨xp0z, hp0z, ep0z⟩, ip0z⟩, ⟨xc0z, hc0z, ec0z⟩, ic0z⟩ := b2z.2.2.1
  obtain ⟨⟨⟨xp1z, hp1z, ep1z⟩, ip1z⟩, ⟨xc1z, hc1z, ec1z⟩, ic1z⟩ := b2z.2.2.2
  refine y_same (i := .aload_n 0) (len := 1) (r := (0, 0, 0, 0)) (pc' := 1) (ls' := [some (.inl (some 0)), some (zi x), some (zi xk), some (zi xw)]) (st' := [.inl (some 0)]) (by decide +kernel) (fun k q => by cases q) rfl ?_
  refine y_same (i := .iload_n 1) (len := 1) (r := (0, 0, 0, 0)) (pc' := 2) (ls' := [some (.inl (some 0)), some (zi x), some (zi xk), some (zi xw)]) (st' := [zi x, .inl (some 0)]) (by decide +kernel) (fun k q => by cases q) rfl ?_
  refine y_cI (i := .invokestatic 101) (len := 3) (r := (1, 156, 11, 1068)) (nL := 1) (k := 2) (n := 1) (hs := []) (args := [zi x]) (rest := [.inl (some 0)]) (l0 := [some (zi x)]) (by decide +kernel) (Or.inl ⟨_, rfl⟩) rfl rfl rfl rfl (Nat.le_of_ble_eq_true rfl) rfl rfl (qI_le (by decide) (c_isSide (d := 0))) (fun y2689 qy2689 hRy2689 => ?_)
  obtain ⟨rfl, hDy2689⟩ := hRy2689
  have ey2689 : y2689.toInt = 1 := by omega
  refine y_iF (c := .eq) (off := 25) (len := 3) (r := (0, 0, 0, 0)) (by decide +kernel) (acmpF (c := .eq) (by show ¬ (_ = _); omega)) ?_
  refine y_same (i := .aload_n 0) (len := 1) (r := (0, 0, 0, 0)) (pc' := 9) (ls' := [some (.inl (some 0)), some (zi x), some (zi xk), some (zi xw)]) (st' := [.inl (some 0), .inl (some 0)]) (by decide +kernel) (fun k q => by cases q) rfl ?_
  refine y_get (j := 29) (len := 3) (r := (11, 5, 2, 404)) (by decide +kernel) hg (tv0 hg) aw0 rfl rfl r5 ?_
  refine y_same (i := .iload_n 1) (len := 1) (r := (0, 0, 0, 0)) (pc' := 13) (ls' := [some (.inl (some 0)), some (zi x), some (zi xk), some (zi xw)]) (st' := [zi x, .inl (some 2), .inl (some 0)]) (by decide +kernel) (fun k q => by cases q) rfl ?_
  refine y_cA (i := .invokevirtual 105) (len := 3) (r := (0, 108, 9, 1071)) (nL := 2) (k := 3) (n := 2) (hs := []) (args := [.inl (some 2), zi x]) (rest := [.inl (some 0)]) (l0 := [some (.inl (some 2)), some (zi x)]) (by decide +kernel) (Or.inr (Or.inl ⟨_, rfl⟩)) rfl rfl rfl rfl (Nat.le_of_ble_eq_true rfl) (zO hg (tv2 hg) aw1000 rfl) rfl (qA_le (by decide) (c_side1 (d := 0) (u := uz) (v := vz) hg (by omega) b2z.1 b2z.2.1)) (fun q2690 hR2690 => ?_)
  obtain rfl := hR2690
  refine y_get (j := 109) (len := 3) (r := (8, 0, 2, 20182)) (by decide +kernel) hg tyz.2.1 aw1001 rfl rfl laz.2.1 ?_
  refine y_same (i := .iload_n 2) (len := 1) (r := (0, 0, 0, 0)) (pc' := 20) (ls' := [some (.inl (some 0)), some (zi x), some (zi xk), some (zi xw)]) (st' := [zi xk, .inl (some ((2 + vz + 1))), .inl (some 0)]) (by decide +kernel) (fun k q => by cases q) rfl ?_
  refine y_cI (i := .invokevirtual 115) (len := 3) (r := (0, 63, 6, 1075)) (nL := 2) (k := 2) (n := 2) (hs := []) (args := [.inl (some ((2 + vz + 1))), zi xk]) (rest := [.inl (some 0)]) (l0 := [some (.inl (some ((2 + vz + 1)))), some (zi xk)]) (by decide +kernel) (Or.inr (Or.inl ⟨_, rfl⟩)) rfl rfl rfl rfl (Nat.le_of_ble_eq_true rfl) (zO hg tyz.2.2.1 aw1002 rfl) rfl (qI_le (by decide) (c_has5 (d := 0) hg tyz.2.2.1 hp1z)) (fun y2691 qy2691 hRy2691 => ?_)
  obtain ⟨rfl, hDy2691⟩ := hRy2691
  have ey2691 : y2691.toInt = 1 := by omega
  refine y_iF (c := .eq) (off := 7) (len := 3) (r := (0, 0, 0, 0)) (by decide +kernel) (acmpF (c := .eq) (by show ¬ (_ = _); omega)) ?_
  refine y_ic (c := 1) (len := 1) (r := (0, 0, 0, 0)) (by decide +kernel) (by decide) (fun y2692 hy2692 => ?_)
  refine y_goto (off := 4) (pc' := 31) (len := 3) (r := (0, 0, 0, 0)) (by decide +kernel) (by decide +kernel) ?_
  refine y_cV (i := .invokevirtual 120) (len := 3) (r := (0, 152, 11, 1079)) (nL := 2) (k := 0) (n := 2) (hs := []) (args := [.inl (some 0), zi y2692]) (rest := []) (l0 := [some (.inl (some 0)), some (zi y2692)]) (by decide +kernel) (Or.inr (Or.inl ⟨_, rfl⟩)) rfl rfl rfl rfl (Nat.le_of_ble_eq_true rfl) (zO hg (tv0 hg) aw0 rfl) rfl (qV_le (by decide) (c_there (d := 0) (by omega))) (fun q2693 hR2693 => ?_)
  obtain rfl := hR2693
  refine y_same (i := .aload_n 0) (len := 1) (r := (0, 0, 0, 0)) (pc' := 35) (ls' := [some (.inl (some 0)), some (zi x), some (zi xk), some (zi xw)]) (st' := [.inl (some 0)]) (by decide +kernel) (fun k q => by cases q) rfl ?_
  refine y_same (i := .iload_n 3) (len := 1) (r := (0, 0, 0, 0)) (pc' := 36) (ls' := [some (.inl (some 0)), some (zi x), some (zi xk), some (zi xw)]) (st' := [zi xw, .inl (some 0)]) (by decide +kernel) (fun k q => by cases q) rfl ?_
  rcases Decidable.em (xw.toInt < 0) with q2694 | q2694
  ·
    refine y_iT (c := .lt) (off := 12) (pc' := 48) (len := 3) (r := (0, 0, 0, 0)) (by decide +kernel) (acmpT (c := .lt) (by show _ < _; omega)) (by decide +kernel) ?_
    refine y_ic (c := 0) (len := 1) (r := (0, 0, 0, 0)) (by decide +kernel) (by decide) (fun y2695 hy2695 => ?_)
    refine y_cX (i := .invokevirtual 70) (len := 3) (r := (0, 153, 11, 852)) (nL := 2) (k := 0) (n := 2) (hs := []) (args := [.inl (some 0), zi y2695]) (rest := []) (l0 := [some (.inl (some 0)), some (zi y2695)]) (by decide +kernel) (Or.inr (Or.inl ⟨_, rfl⟩)) rfl rfl rfl rfl (Nat.le_of_ble_eq_true rfl) (zO hg (tv0 hg) aw0 rfl) rfl rfl (mL := 4) (mk := 1) (m9 := 4) (ms := []) rfl rfl (qT_le (by decide) (c_fitT (d := 0) hg (by omega))) (fun h2696 hR2696 => ?_)
    obtain ⟨hg2696, F2696⟩ := hR2696
    exact ⟨_, rfl, hg2696, fun k j hC => (F2696 k j (by omega))⟩
  ·
    refine y_iF (c := .lt) (off := 12) (len := 3) (r := (0, 0, 0, 0)) (by decide +kernel) (acmpF (c := .lt) (by show _ ≤ _; omega)) ?_
    refine y_same (i := .iload_n 3) (len := 1) (r := (0, 0, 0, 0)) (pc' := 40) (ls' := [some (.inl (some 0)), some (zi x), some (zi xk), some (zi xw)]) (st' := [zi xw, .inl (some 0)]) (by decide +kernel) (fun k q => by cases q) rfl ?_
    refine y_ic (c := 3) (len := 1) (r := (0, 0, 0, 0)) (by decide +kernel) (by decide) (fun y2697 hy2697 => ?_)
    rcases Decidable.em (xw.toInt > y2697.toInt) with q2698 | q2698
    ·
      refine y_cT (c := .gt) (off := 7) (pc' := 48) (len := 3) (r := (0, 0, 0, 0)) (by decide +kernel) (acmpT (c := .gt) (by show _ < _; omega)) (by decide +kernel) ?_
      refine y_ic (c := 0) (len := 1) (r := (0, 0, 0, 0)) (by decide +kernel) (by decide) (fun y2699 hy2699 => ?_)
      refine y_cX (i := .invokevirtual 70) (len := 3) (r := (0, 153, 11, 852)) (nL := 2) (k := 0) (n := 2) (hs := []) (args := [.inl (some 0), zi y2699]) (rest := []) (l0 := [some (.inl (some 0)), some (zi y2699)]) (by decide +kernel) (Or.inr (Or.inl ⟨_, rfl⟩)) rfl rfl rfl rfl (Nat.le_of_ble_eq_true rfl) (zO hg (tv0 hg) aw0 rfl) rfl rfl (mL := 4) (mk := 1) (m9 := 4) (ms := []) rfl rfl (qT_le (by decide) (c_fitT (d := 0) hg (by omega))) (fun h2700 hR2700 => ?_)
      obtain ⟨hg2700, F2700⟩ := hR2700
      exact ⟨_, rfl, hg2700, fun k j hC => (F2700 k j (by omega))⟩
    ·
      refine y_cF (c := .gt) (off := 7) (len := 3) (r := (0, 0, 0, 0)) (by decide +kernel) (acmpF (c := .gt) (by show _ ≤ _; omega)) ?_
      refine y_ic (c := 1) (len := 1) (r := (0, 0, 0, 0)) (by decide +kernel) (by decide) (fun y2701 hy2701 => ?_)
      refine y_goto (off := 4) (pc' := 49) (len := 3) (r := (0, 0, 0, 0)) (by decide +kernel) (by decide +kernel) ?_
      exfalso
      omega
theorem c_partT {t : Nat} {τ : List Nat} {h : zh} {x xk xw : Int32} (hg : hG τ h) (hx : ¬ (x.toInt = 0 ∨ x.toInt = 1)) : qT 21 140 [some (.inl (some 0)), some (zi x), some (zi xk), some (zi xw)] h t 0 (fun h1 => hG τ h1 ∧ ∀ k j, (k ≠ 0 ∨ j ≠ 3) → hsl h1 k j = hsl h k j) := by
  refine qT_of ?_
  refine y_same (i := .aload_n 0) (len := 1) (r := (0, 0, 0, 0)) (pc' := 1) (ls' := [some (.inl (some 0)), some (zi x), some (zi xk), some (zi xw)]) (st' := [.inl (some 0)]) (by decide +kernel) (fun k q => by cases q) rfl ?_
  refine y_same (i := .iload_n 1) (len := 1) (r := (0, 0, 0, 0)) (pc' := 2) (ls' := [some (.inl (some 0)), some (zi x), some (zi xk), some (zi xw)]) (st' := [zi x, .inl (some 0)]) (by decide +kernel) (fun k q => by cases q) rfl ?_
  refine y_cI (i := .invokestatic 101) (len := 3) (r := (1, 156, 11, 1068)) (nL := 1) (k := 2) (n := 1) (hs := []) (args := [zi x]) (rest := [.inl (some 0)]) (l0 := [some (zi x)]) (by decide +kernel) (Or.inl ⟨_, rfl⟩) rfl rfl rfl rfl (Nat.le_of_ble_eq_true rfl) rfl rfl (qI_le (by decide) (c_isSide (d := 0))) (fun y2702 qy2702 hRy2702 => ?_)
  obtain ⟨rfl, hDy2702⟩ := hRy2702
  have ey2702 : y2702.toInt = 0 := by omega
  refine y_iT (c := .eq) (off := 25) (pc' := 30) (len := 3) (r := (0, 0, 0, 0)) (by decide +kernel) (acmpT (c := .eq) (by show _ = _; omega)) (by decide +kernel) ?_
  refine y_ic (c := 0) (len := 1) (r := (0, 0, 0, 0)) (by decide +kernel) (by decide) (fun y2703 hy2703 => ?_)
  refine y_cX (i := .invokevirtual 120) (len := 3) (r := (0, 152, 11, 1079)) (nL := 2) (k := 0) (n := 2) (hs := []) (args := [.inl (some 0), zi y2703]) (rest := []) (l0 := [some (.inl (some 0)), some (zi y2703)]) (by decide +kernel) (Or.inr (Or.inl ⟨_, rfl⟩)) rfl rfl rfl rfl (Nat.le_of_ble_eq_true rfl) (zO hg (tv0 hg) aw0 rfl) rfl rfl (mL := 4) (mk := 1) (m9 := 4) (ms := []) rfl rfl (qT_le (by decide) (c_thereT (d := 0) hg (by omega))) (fun h2704 hR2704 => ?_)
  obtain ⟨hg2704, F2704⟩ := hR2704
  exact ⟨_, rfl, hg2704, fun k j hC => (F2704 k j (by omega))⟩
theorem c_partX {t : Nat} {τ : List Nat} {h : zh} {cur : bsT} {hs : List bsT} {x xk xw : Int32} (hg : hG τ h) (rc : RC h cur hs) (r5 : hsl h 0 5 = some (.inl (some 2))) (hb : ¬ ((x.toInt = 0 ∧ 0 ≤ xk.toInt ∧ xk.toInt < (cur.1.1.length : Int)) ∨ (x.toInt = 1 ∧ 0 ≤ xk.toInt ∧ xk.toInt < (cur.2.1.length : Int)))) : qT 21 140 [some (.inl (some 0)), some (zi x), some (zi xk), some (zi xw)] h t 0 (fun h1 => hG τ h1 ∧ ∀ k j, (k ≠ 0 ∨ j ≠ 3) → hsl h1 k j = hsl h k j) := by
  rcases Decidable.em (x.toInt = 0) with q | q
  · exact c_partT0 hg rc r5 q (by omega)
  · rcases Decidable.em (x.toInt = 1) with q1 | q1
    · exact c_partT1 hg rc r5 q1 (by omega)
    · exact c_partT hg (by omega)
theorem c_partW {t : Nat} {τ : List Nat} {h : zh} {cur : bsT} {hs : List bsT} {x xk xw : Int32} (hg : hG τ h) (rc : RC h cur hs) (r5 : hsl h 0 5 = some (.inl (some 2))) (hb : ((x.toInt = 0 ∧ 0 ≤ xk.toInt ∧ xk.toInt < (cur.1.1.length : Int)) ∨ (x.toInt = 1 ∧ 0 ≤ xk.toInt ∧ xk.toInt < (cur.2.1.length : Int)))) (hw : ¬ (0 ≤ xw.toInt ∧ xw.toInt ≤ 3)) : qT 21 140 [some (.inl (some 0)), some (zi x), some (zi xk), some (zi xw)] h t 1 (fun h1 => hG τ h1 ∧ ∀ k j, (k ≠ 0 ∨ j ≠ 4) → hsl h1 k j = hsl h k j) := by
  rcases hb with q | q
  · exact c_partW0 hg rc r5 q.1 q.2 hw
  · exact c_partW1 hg rc r5 q.1 q.2 hw
theorem c_lpartX {t : Nat} {τ : List Nat} {h : zh} {cur : bsT} {hs : List bsT} {x xk xw : Int32} (hg : hG τ h) (rc : RC h cur hs) (r5 : hsl h 0 5 = some (.inl (some 2))) (hb : ¬ ((x.toInt = 0 ∧ 0 ≤ xk.toInt ∧ xk.toInt < (cur.1.1.length : Int)) ∨ (x.toInt = 1 ∧ 0 ≤ xk.toInt ∧ xk.toInt < (cur.2.1.length : Int)))) : ∃ (y : Int32) (h1 : zh), qE 60 280 [some (.inl (some 0)), some (zi x), some (zi xk), some (zi xw), some (.inl (some 388)), none] h t (.inl (some (zi y)), h1, t + 1) ∧ y.toInt = 1 ∧ hG τ h1 ∧ ∀ k j, (k ≠ 0 ∨ j ≠ 3) → hsl h1 k j = hsl h k j := by
  have key : qX 31 280 0 [some (.inl (some 0)), some (zi x), some (zi xk), some (zi xw), some (.inl (some 388)), none] [] h t (rI (fun y h1 => y.toInt = 1 ∧ hG τ h1 ∧ ∀ k j, (k ≠ 0 ∨ j ≠ 3) → hsl h1 k j = hsl h k j) (t + 1)) := by
    refine y_same (i := .aload 4) (len := 2) (r := (0, 0, 0, 0)) (pc' := 2) (ls' := [some (.inl (some 0)), some (zi x), some (zi xk), some (zi xw), some (.inl (some 388)), none]) (st' := [.inl (some 388)]) (by decide +kernel) (fun k q => by cases q) rfl ?_
    refine y_ic (c := 0) (len := 1) (r := (0, 0, 0, 0)) (by decide +kernel) (by decide) (fun y2705 hy2705 => ?_)
    refine y_same (i := .aload_n 0) (len := 1) (r := (0, 0, 0, 0)) (pc' := 4) (ls' := [some (.inl (some 0)), some (zi x), some (zi xk), some (zi xw), some (.inl (some 388)), none]) (st' := [.inl (some 0), zi y2705, .inl (some 388)]) (by decide +kernel) (fun k q => by cases q) rfl ?_
    refine y_same (i := .iload_n 1) (len := 1) (r := (0, 0, 0, 0)) (pc' := 5) (ls' := [some (.inl (some 0)), some (zi x), some (zi xk), some (zi xw), some (.inl (some 388)), none]) (st' := [zi x, .inl (some 0), zi y2705, .inl (some 388)]) (by decide +kernel) (fun k q => by cases q) rfl ?_
    refine y_same (i := .iload_n 2) (len := 1) (r := (0, 0, 0, 0)) (pc' := 6) (ls' := [some (.inl (some 0)), some (zi x), some (zi xk), some (zi xw), some (.inl (some 388)), none]) (st' := [zi xk, zi x, .inl (some 0), zi y2705, .inl (some 388)]) (by decide +kernel) (fun k q => by cases q) rfl ?_
    refine y_same (i := .iload_n 3) (len := 1) (r := (0, 0, 0, 0)) (pc' := 7) (ls' := [some (.inl (some 0)), some (zi x), some (zi xk), some (zi xw), some (.inl (some 388)), none]) (st' := [zi xw, zi xk, zi x, .inl (some 0), zi y2705, .inl (some 388)]) (by decide +kernel) (fun k q => by cases q) rfl ?_
    refine y_cC (i := .invokevirtual 27) (len := 3) (r := (0, 140, 11, 1127)) (nL := 4) (k := 1) (n := 4) (hs := []) (args := [.inl (some 0), zi x, zi xk, zi xw]) (rest := [zi y2705, .inl (some 388)]) (l0 := [some (.inl (some 0)), some (zi x), some (zi xk), some (zi xw)]) (by decide +kernel) (Or.inr (Or.inl ⟨_, rfl⟩)) rfl rfl rfl rfl (Nat.le_of_ble_eq_true rfl) (zO hg (tv0 hg) aw0 rfl) rfl rfl (mL := 6) (mk := 1) (m9 := 5) (ms := [(0, 12, 15, 0), (0, 12, 19, 1)]) rfl rfl (qT_le (by decide) (c_partX hg rc r5 hb)) (fun h2706 hR2706 => ?_)
    obtain ⟨hg2706, F2706⟩ := hR2706
    refine y_same (i := .astore 5) (len := 2) (r := (0, 0, 0, 0)) (pc' := 17) (ls' := [some (.inl (some 0)), some (zi x), some (zi xk), some (zi xw), some (.inl (some 388)), some (.inl (some 1000001))]) (st' := []) (by decide +kernel) (fun k q => by cases q) rfl ?_
    refine y_ic (c := 1) (len := 1) (r := (0, 0, 0, 0)) (by decide +kernel) (by decide) (fun y2707 hy2707 => ?_)
    refine y_rI (len := 1) (r := (0, 0, 0, 0)) (nL := 6) (k := 1) (n9 := 5) (hs := [(0, 12, 15, 0), (0, 12, 19, 1)]) (by decide +kernel) rfl rfl ?_
    exact ⟨by omega, hg2706, fun k j hC => (F2706 k j (by omega))⟩
  obtain ⟨x, k, y, h1, rfl, hR⟩ := key
  exact ⟨y, h1, qE_le (by decide) (qE_of k), hR⟩
theorem c_lpartW {t : Nat} {τ : List Nat} {h : zh} {cur : bsT} {hs : List bsT} {x xk xw : Int32} (hg : hG τ h) (rc : RC h cur hs) (r5 : hsl h 0 5 = some (.inl (some 2))) (hb : ((x.toInt = 0 ∧ 0 ≤ xk.toInt ∧ xk.toInt < (cur.1.1.length : Int)) ∨ (x.toInt = 1 ∧ 0 ≤ xk.toInt ∧ xk.toInt < (cur.2.1.length : Int)))) (hw : ¬ (0 ≤ xw.toInt ∧ xw.toInt ≤ 3)) : ∃ (y : Int32) (h1 : zh), qE 60 280 [some (.inl (some 0)), some (zi x), some (zi xk), some (zi xw), some (.inl (some 388)), none] h t (.inl (some (zi y)), h1, t + 1) ∧ y.toInt = 2 ∧ hG τ h1 ∧ ∀ k j, (k ≠ 0 ∨ j ≠ 4) → hsl h1 k j = hsl h k j := by
  have key : qX 31 280 0 [some (.inl (some 0)), some (zi x), some (zi xk), some (zi xw), some (.inl (some 388)), none] [] h t (rI (fun y h1 => y.toInt = 2 ∧ hG τ h1 ∧ ∀ k j, (k ≠ 0 ∨ j ≠ 4) → hsl h1 k j = hsl h k j) (t + 1)) := by
    refine y_same (i := .aload 4) (len := 2) (r := (0, 0, 0, 0)) (pc' := 2) (ls' := [some (.inl (some 0)), some (zi x), some (zi xk), some (zi xw), some (.inl (some 388)), none]) (st' := [.inl (some 388)]) (by decide +kernel) (fun k q => by cases q) rfl ?_
    refine y_ic (c := 0) (len := 1) (r := (0, 0, 0, 0)) (by decide +kernel) (by decide) (fun y2708 hy2708 => ?_)
    refine y_same (i := .aload_n 0) (len := 1) (r := (0, 0, 0, 0)) (pc' := 4) (ls' := [some (.inl (some 0)), some (zi x), some (zi xk), some (zi xw), some (.inl (some 388)), none]) (st' := [.inl (some 0), zi y2708, .inl (some 388)]) (by decide +kernel) (fun k q => by cases q) rfl ?_
    refine y_same (i := .iload_n 1) (len := 1) (r := (0, 0, 0, 0)) (pc' := 5) (ls' := [some (.inl (some 0)), some (zi x), some (zi xk), some (zi xw), some (.inl (some 388)), none]) (st' := [zi x, .inl (some 0), zi y2708, .inl (some 388)]) (by decide +kernel) (fun k q => by cases q) rfl ?_
    refine y_same (i := .iload_n 2) (len := 1) (r := (0, 0, 0, 0)) (pc' := 6) (ls' := [some (.inl (some 0)), some (zi x), some (zi xk), some (zi xw), some (.inl (some 388)), none]) (st' := [zi xk, zi x, .inl (some 0), zi y2708, .inl (some 388)]) (by decide +kernel) (fun k q => by cases q) rfl ?_
    refine y_same (i := .iload_n 3) (len := 1) (r := (0, 0, 0, 0)) (pc' := 7) (ls' := [some (.inl (some 0)), some (zi x), some (zi xk), some (zi xw), some (.inl (some 388)), none]) (st' := [zi xw, zi xk, zi x, .inl (some 0), zi y2708, .inl (some 388)]) (by decide +kernel) (fun k q => by cases q) rfl ?_
    refine y_cC (i := .invokevirtual 27) (len := 3) (r := (0, 140, 11, 1127)) (nL := 4) (k := 1) (n := 4) (hs := []) (args := [.inl (some 0), zi x, zi xk, zi xw]) (rest := [zi y2708, .inl (some 388)]) (l0 := [some (.inl (some 0)), some (zi x), some (zi xk), some (zi xw)]) (by decide +kernel) (Or.inr (Or.inl ⟨_, rfl⟩)) rfl rfl rfl rfl (Nat.le_of_ble_eq_true rfl) (zO hg (tv0 hg) aw0 rfl) rfl rfl (mL := 6) (mk := 1) (m9 := 5) (ms := [(0, 12, 15, 0), (0, 12, 19, 1)]) rfl rfl (qT_le (by decide) (c_partW hg rc r5 hb hw)) (fun h2709 hR2709 => ?_)
    obtain ⟨hg2709, F2709⟩ := hR2709
    refine y_same (i := .astore 5) (len := 2) (r := (0, 0, 0, 0)) (pc' := 21) (ls' := [some (.inl (some 0)), some (zi x), some (zi xk), some (zi xw), some (.inl (some 388)), some (.inl (some 1000001))]) (st' := []) (by decide +kernel) (fun k q => by cases q) rfl ?_
    refine y_ic (c := 2) (len := 1) (r := (0, 0, 0, 0)) (by decide +kernel) (by decide) (fun y2710 hy2710 => ?_)
    refine y_rI (len := 1) (r := (0, 0, 0, 0)) (nL := 6) (k := 1) (n9 := 5) (hs := [(0, 12, 15, 0), (0, 12, 19, 1)]) (by decide +kernel) rfl rfl ?_
    exact ⟨by omega, hg2709, fun k j hC => (F2709 k j (by omega))⟩
  obtain ⟨x, k, y, h1, rfl, hR⟩ := key
  exact ⟨y, h1, qE_le (by decide) (qE_of k), hR⟩
theorem c_lpart {t : Nat} {v : Int} {τ : List Nat} {h : zh} {x xk xw : Int32} (hg : hG τ h) (hin : qI 21 140 [some (.inl (some 0)), some (zi x), some (zi xk), some (zi xw)] h t (fun y h1 => h = h1 ∧ y.toInt = v)) : qI 60 280 [some (.inl (some 0)), some (zi x), some (zi xk), some (zi xw), some (.inl (some 388)), none] h t (fun y h1 => hG τ h1 ∧ y.toInt = 0 ∧ (∀ k j, k ≠ 388 → hsl h1 k j = hsl h k j) ∧ ∃ z : Int32, ou_ h1 z ∧ z.toInt = v) := by
  refine qI_le (d := 32) (by decide) (qI_of ?_)
  refine y_same (i := .aload 4) (len := 2) (r := (0, 0, 0, 0)) (pc' := 2) (ls' := [some (.inl (some 0)), some (zi x), some (zi xk), some (zi xw), some (.inl (some 388)), none]) (st' := [.inl (some 388)]) (by decide +kernel) (fun k q => by cases q) rfl ?_
  refine y_ic (c := 0) (len := 1) (r := (0, 0, 0, 0)) (by decide +kernel) (by decide) (fun y2711 hy2711 => ?_)
  refine y_same (i := .aload_n 0) (len := 1) (r := (0, 0, 0, 0)) (pc' := 4) (ls' := [some (.inl (some 0)), some (zi x), some (zi xk), some (zi xw), some (.inl (some 388)), none]) (st' := [.inl (some 0), zi y2711, .inl (some 388)]) (by decide +kernel) (fun k q => by cases q) rfl ?_
  refine y_same (i := .iload_n 1) (len := 1) (r := (0, 0, 0, 0)) (pc' := 5) (ls' := [some (.inl (some 0)), some (zi x), some (zi xk), some (zi xw), some (.inl (some 388)), none]) (st' := [zi x, .inl (some 0), zi y2711, .inl (some 388)]) (by decide +kernel) (fun k q => by cases q) rfl ?_
  refine y_same (i := .iload_n 2) (len := 1) (r := (0, 0, 0, 0)) (pc' := 6) (ls' := [some (.inl (some 0)), some (zi x), some (zi xk), some (zi xw), some (.inl (some 388)), none]) (st' := [zi xk, zi x, .inl (some 0), zi y2711, .inl (some 388)]) (by decide +kernel) (fun k q => by cases q) rfl ?_
  refine y_same (i := .iload_n 3) (len := 1) (r := (0, 0, 0, 0)) (pc' := 7) (ls' := [some (.inl (some 0)), some (zi x), some (zi xk), some (zi xw), some (.inl (some 388)), none]) (st' := [zi xw, zi xk, zi x, .inl (some 0), zi y2711, .inl (some 388)]) (by decide +kernel) (fun k q => by cases q) rfl ?_
  refine y_cI (i := .invokevirtual 27) (len := 3) (r := (0, 140, 11, 1127)) (nL := 4) (k := 1) (n := 4) (hs := []) (args := [.inl (some 0), zi x, zi xk, zi xw]) (rest := [zi y2711, .inl (some 388)]) (l0 := [some (.inl (some 0)), some (zi x), some (zi xk), some (zi xw)]) (by decide +kernel) (Or.inr (Or.inl ⟨_, rfl⟩)) rfl rfl rfl rfl (Nat.le_of_ble_eq_true rfl) (zO hg (tv0 hg) aw0 rfl) rfl (qI_le (by decide) hin) (fun y2712 q2712 hRy2712 => ?_)
  obtain ⟨rfl, ey⟩ := hRy2712
  refine y_i2l2 (len := 1) (r := (0, 0, 0, 0)) (by decide +kernel) ?_
  refine y_las2 (i := 0) (len := 1) (r := (0, 0, 0, 0)) (by decide +kernel) hg (t388 hg) aw388 rfl (by omega) (by omega) rfl (fun h2713 hg2713 hw2713 ho2713 => ?_)
  refine y_goto (off := 11) (pc' := 23) (len := 3) (r := (0, 0, 0, 0)) (by decide +kernel) (by decide +kernel) ?_
  refine y_ic (c := 0) (len := 1) (r := (0, 0, 0, 0)) (by decide +kernel) (by decide) (fun y2714 hy2714 => ?_)
  refine y_rI (len := 1) (r := (0, 0, 0, 0)) (nL := 6) (k := 1) (n9 := 5) (hs := [(0, 12, 15, 0), (0, 12, 19, 1)]) (by decide +kernel) rfl rfl ?_
  exact ⟨hg2713, by omega, fun k j hC => (ho2713 k j (by omega)), _, hw2713, ey⟩
theorem m_part0 {t k w : Nat} {τ : List Nat} {h : zh} {cur : bsT} {hs : List bsT} {x xk xw : Int32} {i : it4} (hg : hG τ h) (rm : RM h cur hs) (hx : x.toInt = 0) (exk : xk.toInt = (k : Int)) (hk : cur.1.1[k]? = some i) (exw : xw.toInt = (w : Int)) (hw : w ≤ 3) : qI 60 195 [some (.inl (some 52)), some (zi x), some (zi xk), some (zi xw)] h t (fun y h1 => ∃ τ1, hG τ1 h1 ∧ RM h1 cur hs ∧ frM h h1 ∧ y.toInt = cmp_ i w ∧ ∃ z : Int32, hsl h1 52 0 = some (zi z) ∧ z.toInt = 0) := by
  have hk9 := (List.getElem?_eq_some_iff.mp hk).1
  refine qI_le (d := 21) (by decide) (qI_of ?_)
  have lz := len55 hg rm.1
  obtain ⟨⟨xp0z, hp0z, ep0z⟩, ⟨xc0z, hc0z, ec0z⟩, ip0z, ic0z⟩ := rm.1.1
  obtain ⟨⟨xp1z, hp1z, ep1z⟩, ⟨xc1z, hc1z, ec1z⟩, ip1z, ic1z⟩ := rm.1.2
  obtain ⟨vq, hq, evq⟩ := qd_at (w := w) (ip0z k i hk) (by omega)
  have hq : hsl h 55 ((2 + 4 * k) + w) = some (zi vq) := hq
  refine y_same (i := .aload_n 0) (len := 1) (r := (0, 0, 0, 0)) (pc' := 1) (ls' := [some (.inl (some 52)), some (zi x), some (zi xk), some (zi xw)]) (st' := [.inl (some 52)]) (by decide +kernel) (fun k q => by cases q) rfl ?_
  refine y_ic (c := 0) (len := 1) (r := (0, 0, 0, 0)) (by decide +kernel) (by decide) (fun y2715 hy2715 => ?_)
  refine y_put (j := 92) (lo := (-2147483648)) (hi := 2147483647) (len := 3) (r := (12, 0, 0, 1328)) (by decide +kernel) hg (t52 hg) at52 rfl rfl (by decide) rfl (qin_full _).1 (qin_full _).2 rfl (fun h2716 hg2716 hl2716 hs2716 ho2716 => ?_)
  have ho2716 : hO 52 0 h h2716 := ho2716
  have hs2716 : hsl h2716 52 0 = some (zi y2715) := hs2716
  refine y_same (i := .aload_n 0) (len := 1) (r := (0, 0, 0, 0)) (pc' := 6) (ls' := [some (.inl (some 52)), some (zi x), some (zi xk), some (zi xw)]) (st' := [.inl (some 52)]) (by decide +kernel) (fun k q => by cases q) rfl ?_
  refine y_same (i := .iload_n 1) (len := 1) (r := (0, 0, 0, 0)) (pc' := 7) (ls' := [some (.inl (some 52)), some (zi x), some (zi xk), some (zi xw)]) (st' := [zi x, .inl (some 52)]) (by decide +kernel) (fun k q => by cases q) rfl ?_
  refine y_ic (c := 0) (len := 1) (r := (0, 0, 0, 0)) (by decide +kernel) (by decide) (fun y2717 hy2717 => ?_)
  refine y_ic (c := 1) (len := 1) (r := (0, 0, 0, 0)) (by decide +kernel) (by decide) (fun y2718 hy2718 => ?_)
  refine y_cI (i := .invokestatic 200) (len := 3) (r := (1, 162, 12, 1486)) (nL := 3) (k := 2) (n := 3) (hs := []) (args := [zi x, zi y2717, zi y2718]) (rest := [.inl (some 52)]) (l0 := [some (zi x), some (zi y2717), some (zi y2718)]) (by decide +kernel) (Or.inl ⟨_, rfl⟩) rfl rfl rfl rfl (Nat.le_of_ble_eq_true rfl) rfl rfl (qI_le (by decide) (m_in (d := 0) (by omega) (by omega))) (fun y2719 qy2719 hRy2719 => ?_)
  obtain ⟨rfl, hy2719⟩ := hRy2719
  refine y_iF (c := .eq) (off := 29) (len := 3) (r := (0, 0, 0, 0)) (by decide +kernel) (acmpF (c := .eq) (by show ¬ (_ = _); omega)) ?_
  refine y_same (i := .iload_n 2) (len := 1) (r := (0, 0, 0, 0)) (pc' := 16) (ls' := [some (.inl (some 52)), some (zi x), some (zi xk), some (zi xw)]) (st' := [zi xk, .inl (some 52)]) (by decide +kernel) (fun k q => by cases q) rfl ?_
  refine y_ic (c := 0) (len := 1) (r := (0, 0, 0, 0)) (by decide +kernel) (by decide) (fun y2720 hy2720 => ?_)
  refine y_same (i := .aload_n 0) (len := 1) (r := (0, 0, 0, 0)) (pc' := 18) (ls' := [some (.inl (some 52)), some (zi x), some (zi xk), some (zi xw)]) (st' := [.inl (some 52), zi y2720, zi xk, .inl (some 52)]) (by decide +kernel) (fun k q => by cases q) rfl ?_
  refine y_get (j := 20) (len := 3) (r := (12, 9, 2, 1337)) (by decide +kernel) hg2716 (t52 hg2716) at52 rfl rfl (g_r52 (f := 9) (T2 := 55) hg2716 rfl (by decide)).1 ?_
  refine y_ic (c := 1) (len := 1) (r := (0, 0, 0, 0)) (by decide +kernel) (by decide) (fun y2721 hy2721 => ?_)
  refine y_ic (c := 0) (len := 1) (r := (0, 0, 0, 0)) (by decide +kernel) (by decide) (fun y2722 hy2722 => ?_)
  refine y_same (i := .iload_n 1) (len := 1) (r := (0, 0, 0, 0)) (pc' := 24) (ls' := [some (.inl (some 52)), some (zi x), some (zi xk), some (zi xw)]) (st' := [zi x, zi y2722, zi y2721, .inl (some 55), zi y2720, zi xk, .inl (some 52)]) (by decide +kernel) (fun k q => by cases q) rfl ?_
  refine y_cI (i := .invokestatic 230) (len := 3) (r := (1, 164, 12, 1591)) (nL := 2) (k := 1) (n := 2) (hs := []) (args := [zi y2722, zi x]) (rest := [zi y2721, .inl (some 55), zi y2720, zi xk, .inl (some 52)]) (l0 := [some (zi y2722), some (zi x)]) (by decide +kernel) (Or.inl ⟨_, rfl⟩) rfl rfl rfl rfl (Nat.le_of_ble_eq_true rfl) rfl rfl (qI_le (by decide) (e_more (d := 0))) (fun y2723 qy2723 hRy2723 => ?_)
  obtain ⟨rfl, my2723, ny2723⟩ := hRy2723
  have ey2723 : y2723.toInt = 0 := by omega
  refine y_cI (i := .invokestatic 233) (len := 3) (r := (1, 163, 12, 1594)) (nL := 2) (k := 1) (n := 2) (hs := []) (args := [zi y2721, zi y2723]) (rest := [.inl (some 55), zi y2720, zi xk, .inl (some 52)]) (l0 := [some (zi y2721), some (zi y2723)]) (by decide +kernel) (Or.inl ⟨_, rfl⟩) rfl rfl rfl rfl (Nat.le_of_ble_eq_true rfl) rfl rfl (qI_le (by decide) (e_less (d := 0))) (fun y2724 qy2724 hRy2724 => ?_)
  obtain ⟨rfl, my2724, ny2724⟩ := hRy2724
  have ey2724 : y2724.toInt = 0 := by omega
  have hv2726 := (ho2716 55 0 (Or.inl (by omega))).trans hp0z
  refine y_cI (i := .invokestatic 143) (len := 3) (r := (1, 166, 12, 1543)) (nL := 2) (k := 1) (n := 2) (hs := []) (args := [.inl (some 55), zi y2724]) (rest := [zi y2720, zi xk, .inl (some 52)]) (l0 := [some (.inl (some 55)), some (zi y2724)]) (by decide +kernel) (Or.inl ⟨_, rfl⟩) rfl rfl rfl rfl (Nat.le_of_ble_eq_true rfl) rfl rfl (qI_le (by decide) (m_parts (d := 0) (s := 0) hg2716 (by omega) (by omega) hv2726)) (fun y2725 qy2725 hRy2725 => ?_)
  obtain ⟨rfl, rfl⟩ := hRy2725
  refine y_ic (c := 1) (len := 1) (r := (0, 0, 0, 0)) (by decide +kernel) (by decide) (fun y2727 hy2727 => ?_)
  refine y_sub (len := 1) (r := (0, 0, 0, 0)) (by decide +kernel) (by omega) (by omega) (fun y2728 hy2728 => ?_)
  refine y_cI (i := .invokestatic 200) (len := 3) (r := (1, 162, 12, 1486)) (nL := 3) (k := 2) (n := 3) (hs := []) (args := [zi xk, zi y2720, zi y2728]) (rest := [.inl (some 52)]) (l0 := [some (zi xk), some (zi y2720), some (zi y2728)]) (by decide +kernel) (Or.inl ⟨_, rfl⟩) rfl rfl rfl rfl (Nat.le_of_ble_eq_true rfl) rfl rfl (qI_le (by decide) (m_in (d := 0) (by omega) (by omega))) (fun y2729 qy2729 hRy2729 => ?_)
  obtain ⟨rfl, hy2729⟩ := hRy2729
  refine y_iT (c := .ne) (off := 7) (pc' := 45) (len := 3) (r := (0, 0, 0, 0)) (by decide +kernel) (acmpT (c := .ne) (by show ¬ (_ = _); omega)) (by decide +kernel) ?_
  refine y_ic (c := 0) (len := 1) (r := (0, 0, 0, 0)) (by decide +kernel) (by decide) (fun y2730 hy2730 => ?_)
  refine y_ic (c := 1) (len := 1) (r := (0, 0, 0, 0)) (by decide +kernel) (by decide) (fun y2731 hy2731 => ?_)
  refine y_ic (c := 0) (len := 1) (r := (0, 0, 0, 0)) (by decide +kernel) (by decide) (fun y2732 hy2732 => ?_)
  refine y_cI (i := .invokevirtual 204) (len := 3) (r := (0, 161, 12, 1489)) (nL := 4) (k := 2) (n := 4) (hs := []) (args := [.inl (some 52), zi y2730, zi y2731, zi y2732]) (rest := []) (l0 := [some (.inl (some 52)), some (zi y2730), some (zi y2731), some (zi y2732)]) (by decide +kernel) (Or.inr (Or.inl ⟨_, rfl⟩)) rfl rfl rfl rfl (Nat.le_of_ble_eq_true rfl) (z52 hg2716) rfl (qI_le (by decide) (m_bad (d := 0) hg2716 (by omega) hs2716 (by omega))) (fun y2733 qy2733 hRy2733 => ?_)
  obtain ⟨rfl, hy2733⟩ := hRy2733
  refine y_iF (c := .ne) (off := 26) (len := 3) (r := (0, 0, 0, 0)) (by decide +kernel) (acmpF (c := .ne) (by show _ = _; omega)) ?_
  refine y_same (i := .aload_n 0) (len := 1) (r := (0, 0, 0, 0)) (pc' := 55) (ls' := [some (.inl (some 52)), some (zi x), some (zi xk), some (zi xw)]) (st' := [.inl (some 52)]) (by decide +kernel) (fun k q => by cases q) rfl ?_
  refine y_same (i := .iload_n 3) (len := 1) (r := (0, 0, 0, 0)) (pc' := 56) (ls' := [some (.inl (some 52)), some (zi x), some (zi xk), some (zi xw)]) (st' := [zi xw, .inl (some 52)]) (by decide +kernel) (fun k q => by cases q) rfl ?_
  refine y_ic (c := 0) (len := 1) (r := (0, 0, 0, 0)) (by decide +kernel) (by decide) (fun y2734 hy2734 => ?_)
  refine y_ic (c := 3) (len := 1) (r := (0, 0, 0, 0)) (by decide +kernel) (by decide) (fun y2735 hy2735 => ?_)
  refine y_cI (i := .invokestatic 200) (len := 3) (r := (1, 162, 12, 1486)) (nL := 3) (k := 2) (n := 3) (hs := []) (args := [zi xw, zi y2734, zi y2735]) (rest := [.inl (some 52)]) (l0 := [some (zi xw), some (zi y2734), some (zi y2735)]) (by decide +kernel) (Or.inl ⟨_, rfl⟩) rfl rfl rfl rfl (Nat.le_of_ble_eq_true rfl) rfl rfl (qI_le (by decide) (m_in (d := 0) (by omega) (by omega))) (fun y2736 qy2736 hRy2736 => ?_)
  obtain ⟨rfl, hy2736⟩ := hRy2736
  refine y_iT (c := .ne) (off := 7) (pc' := 68) (len := 3) (r := (0, 0, 0, 0)) (by decide +kernel) (acmpT (c := .ne) (by show ¬ (_ = _); omega)) (by decide +kernel) ?_
  refine y_ic (c := 0) (len := 1) (r := (0, 0, 0, 0)) (by decide +kernel) (by decide) (fun y2737 hy2737 => ?_)
  refine y_ic (c := 2) (len := 1) (r := (0, 0, 0, 0)) (by decide +kernel) (by decide) (fun y2738 hy2738 => ?_)
  refine y_ic (c := 1) (len := 1) (r := (0, 0, 0, 0)) (by decide +kernel) (by decide) (fun y2739 hy2739 => ?_)
  refine y_cI (i := .invokevirtual 204) (len := 3) (r := (0, 161, 12, 1489)) (nL := 4) (k := 2) (n := 4) (hs := []) (args := [.inl (some 52), zi y2737, zi y2738, zi y2739]) (rest := []) (l0 := [some (.inl (some 52)), some (zi y2737), some (zi y2738), some (zi y2739)]) (by decide +kernel) (Or.inr (Or.inl ⟨_, rfl⟩)) rfl rfl rfl rfl (Nat.le_of_ble_eq_true rfl) (z52 hg2716) rfl (qI_le (by decide) (m_bad (d := 0) hg2716 (by omega) hs2716 (by omega))) (fun y2740 qy2740 hRy2740 => ?_)
  obtain ⟨rfl, hy2740⟩ := hRy2740
  refine y_iT (c := .eq) (off := 5) (pc' := 79) (len := 3) (r := (0, 0, 0, 0)) (by decide +kernel) (acmpT (c := .eq) (by show _ = _; omega)) (by decide +kernel) ?_
  refine y_same (i := .aload_n 0) (len := 1) (r := (0, 0, 0, 0)) (pc' := 80) (ls' := [some (.inl (some 52)), some (zi x), some (zi xk), some (zi xw)]) (st' := [.inl (some 52)]) (by decide +kernel) (fun k q => by cases q) rfl ?_
  refine y_get (j := 20) (len := 3) (r := (12, 9, 2, 1337)) (by decide +kernel) hg2716 (t52 hg2716) at52 rfl rfl (g_r52 (f := 9) (T2 := 55) hg2716 rfl (by decide)).1 ?_
  refine y_same (i := .iload_n 1) (len := 1) (r := (0, 0, 0, 0)) (pc' := 84) (ls' := [some (.inl (some 52)), some (zi x), some (zi xk), some (zi xw)]) (st' := [zi x, .inl (some 55)]) (by decide +kernel) (fun k q => by cases q) rfl ?_
  refine y_same (i := .iload_n 2) (len := 1) (r := (0, 0, 0, 0)) (pc' := 85) (ls' := [some (.inl (some 52)), some (zi x), some (zi xk), some (zi xw)]) (st' := [zi xk, zi x, .inl (some 55)]) (by decide +kernel) (fun k q => by cases q) rfl ?_
  refine y_cI (i := .invokestatic 147) (len := 3) (r := (1, 168, 12, 1546)) (nL := 2) (k := 1) (n := 2) (hs := []) (args := [zi x, zi xk]) (rest := [.inl (some 55)]) (l0 := [some (zi x), some (zi xk)]) (by decide +kernel) (Or.inl ⟨_, rfl⟩) rfl rfl rfl rfl (Nat.le_of_ble_eq_true rfl) rfl rfl (qI_le (by decide) (m_partAt (d := 0) (s := 0) (k := k) (by omega) (by omega) exk (by omega))) (fun y2741 qy2741 hRy2741 => ?_)
  obtain ⟨rfl, hy2741⟩ := hRy2741
  refine y_same (i := .iload_n 3) (len := 1) (r := (0, 0, 0, 0)) (pc' := 89) (ls' := [some (.inl (some 52)), some (zi x), some (zi xk), some (zi xw)]) (st' := [zi xw, zi y2741, .inl (some 55)]) (by decide +kernel) (fun k q => by cases q) rfl ?_
  refine y_add (len := 1) (r := (0, 0, 0, 0)) (by decide +kernel) (by omega) (by omega) (fun y2742 hy2742 => ?_)
  have hv2743 := (ho2716 55 ((2 + 4 * k) + w) (Or.inl (by omega))).trans hq
  refine y_ial (i := ((2 + 4 * k) + w)) (len := 1) (r := (0, 0, 0, 0)) (by decide +kernel) hg2716 (tv55 hg2716) av55 (by omega) hv2743 ?_
  refine y_rI (len := 1) (r := (0, 0, 0, 0)) (nL := 4) (k := 1) (n9 := 4) (hs := []) (by decide +kernel) rfl rfl ?_
  exact ⟨_, hg2716, RM_up rm (fun k j hC => (ho2716 k j (by omega))), fun k j hC => (ho2716 k j (by omega)), evq, _, hs2716, by omega⟩
theorem m_part1 {t k w : Nat} {τ : List Nat} {h : zh} {cur : bsT} {hs : List bsT} {x xk xw : Int32} {i : it4} (hg : hG τ h) (rm : RM h cur hs) (hx : x.toInt = 1) (exk : xk.toInt = (k : Int)) (hk : cur.2.1[k]? = some i) (exw : xw.toInt = (w : Int)) (hw : w ≤ 3) : qI 60 195 [some (.inl (some 52)), some (zi x), some (zi xk), some (zi xw)] h t (fun y h1 => ∃ τ1, hG τ1 h1 ∧ RM h1 cur hs ∧ frM h h1 ∧ y.toInt = cmp_ i w ∧ ∃ z : Int32, hsl h1 52 0 = some (zi z) ∧ z.toInt = 0) := by
  have hk9 := (List.getElem?_eq_some_iff.mp hk).1
  refine qI_le (d := 21) (by decide) (qI_of ?_)
  have lz := len55 hg rm.1
  obtain ⟨⟨xp0z, hp0z, ep0z⟩, ⟨xc0z, hc0z, ec0z⟩, ip0z, ic0z⟩ := rm.1.1
  obtain ⟨⟨xp1z, hp1z, ep1z⟩, ⟨xc1z, hc1z, ec1z⟩, ip1z, ic1z⟩ := rm.1.2
  obtain ⟨vq, hq, evq⟩ := qd_at (w := w) (ip1z k i hk) (by omega)
  have hq : hsl h 55 ((48 + 4 * k) + w) = some (zi vq) := hq
  refine y_same (i := .aload_n 0) (len := 1) (r := (0, 0, 0, 0)) (pc' := 1) (ls' := [some (.inl (some 52)), some (zi x), some (zi xk), some (zi xw)]) (st' := [.inl (some 52)]) (by decide +kernel) (fun k q => by cases q) rfl ?_
  refine y_ic (c := 0) (len := 1) (r := (0, 0, 0, 0)) (by decide +kernel) (by decide) (fun y2744 hy2744 => ?_)
  refine y_put (j := 92) (lo := (-2147483648)) (hi := 2147483647) (len := 3) (r := (12, 0, 0, 1328)) (by decide +kernel) hg (t52 hg) at52 rfl rfl (by decide) rfl (qin_full _).1 (qin_full _).2 rfl (fun h2745 hg2745 hl2745 hs2745 ho2745 => ?_)
  have ho2745 : hO 52 0 h h2745 := ho2745
  have hs2745 : hsl h2745 52 0 = some (zi y2744) := hs2745
  refine y_same (i := .aload_n 0) (len := 1) (r := (0, 0, 0, 0)) (pc' := 6) (ls' := [some (.inl (some 52)), some (zi x), some (zi xk), some (zi xw)]) (st' := [.inl (some 52)]) (by decide +kernel) (fun k q => by cases q) rfl ?_
  refine y_same (i := .iload_n 1) (len := 1) (r := (0, 0, 0, 0)) (pc' := 7) (ls' := [some (.inl (some 52)), some (zi x), some (zi xk), some (zi xw)]) (st' := [zi x, .inl (some 52)]) (by decide +kernel) (fun k q => by cases q) rfl ?_
  refine y_ic (c := 0) (len := 1) (r := (0, 0, 0, 0)) (by decide +kernel) (by decide) (fun y2746 hy2746 => ?_)
  refine y_ic (c := 1) (len := 1) (r := (0, 0, 0, 0)) (by decide +kernel) (by decide) (fun y2747 hy2747 => ?_)
  refine y_cI (i := .invokestatic 200) (len := 3) (r := (1, 162, 12, 1486)) (nL := 3) (k := 2) (n := 3) (hs := []) (args := [zi x, zi y2746, zi y2747]) (rest := [.inl (some 52)]) (l0 := [some (zi x), some (zi y2746), some (zi y2747)]) (by decide +kernel) (Or.inl ⟨_, rfl⟩) rfl rfl rfl rfl (Nat.le_of_ble_eq_true rfl) rfl rfl (qI_le (by decide) (m_in (d := 0) (by omega) (by omega))) (fun y2748 qy2748 hRy2748 => ?_)
  obtain ⟨rfl, hy2748⟩ := hRy2748
  refine y_iF (c := .eq) (off := 29) (len := 3) (r := (0, 0, 0, 0)) (by decide +kernel) (acmpF (c := .eq) (by show ¬ (_ = _); omega)) ?_
  refine y_same (i := .iload_n 2) (len := 1) (r := (0, 0, 0, 0)) (pc' := 16) (ls' := [some (.inl (some 52)), some (zi x), some (zi xk), some (zi xw)]) (st' := [zi xk, .inl (some 52)]) (by decide +kernel) (fun k q => by cases q) rfl ?_
  refine y_ic (c := 0) (len := 1) (r := (0, 0, 0, 0)) (by decide +kernel) (by decide) (fun y2749 hy2749 => ?_)
  refine y_same (i := .aload_n 0) (len := 1) (r := (0, 0, 0, 0)) (pc' := 18) (ls' := [some (.inl (some 52)), some (zi x), some (zi xk), some (zi xw)]) (st' := [.inl (some 52), zi y2749, zi xk, .inl (some 52)]) (by decide +kernel) (fun k q => by cases q) rfl ?_
  refine y_get (j := 20) (len := 3) (r := (12, 9, 2, 1337)) (by decide +kernel) hg2745 (t52 hg2745) at52 rfl rfl (g_r52 (f := 9) (T2 := 55) hg2745 rfl (by decide)).1 ?_
  refine y_ic (c := 1) (len := 1) (r := (0, 0, 0, 0)) (by decide +kernel) (by decide) (fun y2750 hy2750 => ?_)
  refine y_ic (c := 0) (len := 1) (r := (0, 0, 0, 0)) (by decide +kernel) (by decide) (fun y2751 hy2751 => ?_)
  refine y_same (i := .iload_n 1) (len := 1) (r := (0, 0, 0, 0)) (pc' := 24) (ls' := [some (.inl (some 52)), some (zi x), some (zi xk), some (zi xw)]) (st' := [zi x, zi y2751, zi y2750, .inl (some 55), zi y2749, zi xk, .inl (some 52)]) (by decide +kernel) (fun k q => by cases q) rfl ?_
  refine y_cI (i := .invokestatic 230) (len := 3) (r := (1, 164, 12, 1591)) (nL := 2) (k := 1) (n := 2) (hs := []) (args := [zi y2751, zi x]) (rest := [zi y2750, .inl (some 55), zi y2749, zi xk, .inl (some 52)]) (l0 := [some (zi y2751), some (zi x)]) (by decide +kernel) (Or.inl ⟨_, rfl⟩) rfl rfl rfl rfl (Nat.le_of_ble_eq_true rfl) rfl rfl (qI_le (by decide) (e_more (d := 0))) (fun y2752 qy2752 hRy2752 => ?_)
  obtain ⟨rfl, my2752, ny2752⟩ := hRy2752
  have ey2752 : y2752.toInt = 1 := by omega
  refine y_cI (i := .invokestatic 233) (len := 3) (r := (1, 163, 12, 1594)) (nL := 2) (k := 1) (n := 2) (hs := []) (args := [zi y2750, zi y2752]) (rest := [.inl (some 55), zi y2749, zi xk, .inl (some 52)]) (l0 := [some (zi y2750), some (zi y2752)]) (by decide +kernel) (Or.inl ⟨_, rfl⟩) rfl rfl rfl rfl (Nat.le_of_ble_eq_true rfl) rfl rfl (qI_le (by decide) (e_less (d := 0))) (fun y2753 qy2753 hRy2753 => ?_)
  obtain ⟨rfl, my2753, ny2753⟩ := hRy2753
  have ey2753 : y2753.toInt = 1 := by omega
  have hv2755 := (ho2745 55 46 (Or.inl (by omega))).trans hp1z
  refine y_cI (i := .invokestatic 143) (len := 3) (r := (1, 166, 12, 1543)) (nL := 2) (k := 1) (n := 2) (hs := []) (args := [.inl (some 55), zi y2753]) (rest := [zi y2749, zi xk, .inl (some 52)]) (l0 := [some (.inl (some 55)), some (zi y2753)]) (by decide +kernel) (Or.inl ⟨_, rfl⟩) rfl rfl rfl rfl (Nat.le_of_ble_eq_true rfl) rfl rfl (qI_le (by decide) (m_parts (d := 0) (s := 1) hg2745 (by omega) (by omega) hv2755)) (fun y2754 qy2754 hRy2754 => ?_)
  obtain ⟨rfl, rfl⟩ := hRy2754
  refine y_ic (c := 1) (len := 1) (r := (0, 0, 0, 0)) (by decide +kernel) (by decide) (fun y2756 hy2756 => ?_)
  refine y_sub (len := 1) (r := (0, 0, 0, 0)) (by decide +kernel) (by omega) (by omega) (fun y2757 hy2757 => ?_)
  refine y_cI (i := .invokestatic 200) (len := 3) (r := (1, 162, 12, 1486)) (nL := 3) (k := 2) (n := 3) (hs := []) (args := [zi xk, zi y2749, zi y2757]) (rest := [.inl (some 52)]) (l0 := [some (zi xk), some (zi y2749), some (zi y2757)]) (by decide +kernel) (Or.inl ⟨_, rfl⟩) rfl rfl rfl rfl (Nat.le_of_ble_eq_true rfl) rfl rfl (qI_le (by decide) (m_in (d := 0) (by omega) (by omega))) (fun y2758 qy2758 hRy2758 => ?_)
  obtain ⟨rfl, hy2758⟩ := hRy2758
  refine y_iT (c := .ne) (off := 7) (pc' := 45) (len := 3) (r := (0, 0, 0, 0)) (by decide +kernel) (acmpT (c := .ne) (by show ¬ (_ = _); omega)) (by decide +kernel) ?_
  refine y_ic (c := 0) (len := 1) (r := (0, 0, 0, 0)) (by decide +kernel) (by decide) (fun y2759 hy2759 => ?_)
  refine y_ic (c := 1) (len := 1) (r := (0, 0, 0, 0)) (by decide +kernel) (by decide) (fun y2760 hy2760 => ?_)
  refine y_ic (c := 0) (len := 1) (r := (0, 0, 0, 0)) (by decide +kernel) (by decide) (fun y2761 hy2761 => ?_)
  refine y_cI (i := .invokevirtual 204) (len := 3) (r := (0, 161, 12, 1489)) (nL := 4) (k := 2) (n := 4) (hs := []) (args := [.inl (some 52), zi y2759, zi y2760, zi y2761]) (rest := []) (l0 := [some (.inl (some 52)), some (zi y2759), some (zi y2760), some (zi y2761)]) (by decide +kernel) (Or.inr (Or.inl ⟨_, rfl⟩)) rfl rfl rfl rfl (Nat.le_of_ble_eq_true rfl) (z52 hg2745) rfl (qI_le (by decide) (m_bad (d := 0) hg2745 (by omega) hs2745 (by omega))) (fun y2762 qy2762 hRy2762 => ?_)
  obtain ⟨rfl, hy2762⟩ := hRy2762
  refine y_iF (c := .ne) (off := 26) (len := 3) (r := (0, 0, 0, 0)) (by decide +kernel) (acmpF (c := .ne) (by show _ = _; omega)) ?_
  refine y_same (i := .aload_n 0) (len := 1) (r := (0, 0, 0, 0)) (pc' := 55) (ls' := [some (.inl (some 52)), some (zi x), some (zi xk), some (zi xw)]) (st' := [.inl (some 52)]) (by decide +kernel) (fun k q => by cases q) rfl ?_
  refine y_same (i := .iload_n 3) (len := 1) (r := (0, 0, 0, 0)) (pc' := 56) (ls' := [some (.inl (some 52)), some (zi x), some (zi xk), some (zi xw)]) (st' := [zi xw, .inl (some 52)]) (by decide +kernel) (fun k q => by cases q) rfl ?_
  refine y_ic (c := 0) (len := 1) (r := (0, 0, 0, 0)) (by decide +kernel) (by decide) (fun y2763 hy2763 => ?_)
  refine y_ic (c := 3) (len := 1) (r := (0, 0, 0, 0)) (by decide +kernel) (by decide) (fun y2764 hy2764 => ?_)
  refine y_cI (i := .invokestatic 200) (len := 3) (r := (1, 162, 12, 1486)) (nL := 3) (k := 2) (n := 3) (hs := []) (args := [zi xw, zi y2763, zi y2764]) (rest := [.inl (some 52)]) (l0 := [some (zi xw), some (zi y2763), some (zi y2764)]) (by decide +kernel) (Or.inl ⟨_, rfl⟩) rfl rfl rfl rfl (Nat.le_of_ble_eq_true rfl) rfl rfl (qI_le (by decide) (m_in (d := 0) (by omega) (by omega))) (fun y2765 qy2765 hRy2765 => ?_)
  obtain ⟨rfl, hy2765⟩ := hRy2765
  refine y_iT (c := .ne) (off := 7) (pc' := 68) (len := 3) (r := (0, 0, 0, 0)) (by decide +kernel) (acmpT (c := .ne) (by show ¬ (_ = _); omega)) (by decide +kernel) ?_
  refine y_ic (c := 0) (len := 1) (r := (0, 0, 0, 0)) (by decide +kernel) (by decide) (fun y2766 hy2766 => ?_)
  refine y_ic (c := 2) (len := 1) (r := (0, 0, 0, 0)) (by decide +kernel) (by decide) (fun y2767 hy2767 => ?_)
  refine y_ic (c := 1) (len := 1) (r := (0, 0, 0, 0)) (by decide +kernel) (by decide) (fun y2768 hy2768 => ?_)
  refine y_cI (i := .invokevirtual 204) (len := 3) (r := (0, 161, 12, 1489)) (nL := 4) (k := 2) (n := 4) (hs := []) (args := [.inl (some 52), zi y2766, zi y2767, zi y2768]) (rest := []) (l0 := [some (.inl (some 52)), some (zi y2766), some (zi y2767), some (zi y2768)]) (by decide +kernel) (Or.inr (Or.inl ⟨_, rfl⟩)) rfl rfl rfl rfl (Nat.le_of_ble_eq_true rfl) (z52 hg2745) rfl (qI_le (by decide) (m_bad (d := 0) hg2745 (by omega) hs2745 (by omega))) (fun y2769 qy2769 hRy2769 => ?_)
  obtain ⟨rfl, hy2769⟩ := hRy2769
  refine y_iT (c := .eq) (off := 5) (pc' := 79) (len := 3) (r := (0, 0, 0, 0)) (by decide +kernel) (acmpT (c := .eq) (by show _ = _; omega)) (by decide +kernel) ?_
  refine y_same (i := .aload_n 0) (len := 1) (r := (0, 0, 0, 0)) (pc' := 80) (ls' := [some (.inl (some 52)), some (zi x), some (zi xk), some (zi xw)]) (st' := [.inl (some 52)]) (by decide +kernel) (fun k q => by cases q) rfl ?_
  refine y_get (j := 20) (len := 3) (r := (12, 9, 2, 1337)) (by decide +kernel) hg2745 (t52 hg2745) at52 rfl rfl (g_r52 (f := 9) (T2 := 55) hg2745 rfl (by decide)).1 ?_
  refine y_same (i := .iload_n 1) (len := 1) (r := (0, 0, 0, 0)) (pc' := 84) (ls' := [some (.inl (some 52)), some (zi x), some (zi xk), some (zi xw)]) (st' := [zi x, .inl (some 55)]) (by decide +kernel) (fun k q => by cases q) rfl ?_
  refine y_same (i := .iload_n 2) (len := 1) (r := (0, 0, 0, 0)) (pc' := 85) (ls' := [some (.inl (some 52)), some (zi x), some (zi xk), some (zi xw)]) (st' := [zi xk, zi x, .inl (some 55)]) (by decide +kernel) (fun k q => by cases q) rfl ?_
  refine y_cI (i := .invokestatic 147) (len := 3) (r := (1, 168, 12, 1546)) (nL := 2) (k := 1) (n := 2) (hs := []) (args := [zi x, zi xk]) (rest := [.inl (some 55)]) (l0 := [some (zi x), some (zi xk)]) (by decide +kernel) (Or.inl ⟨_, rfl⟩) rfl rfl rfl rfl (Nat.le_of_ble_eq_true rfl) rfl rfl (qI_le (by decide) (m_partAt (d := 0) (s := 1) (k := k) (by omega) (by omega) exk (by omega))) (fun y2770 qy2770 hRy2770 => ?_)
  obtain ⟨rfl, hy2770⟩ := hRy2770
  refine y_same (i := .iload_n 3) (len := 1) (r := (0, 0, 0, 0)) (pc' := 89) (ls' := [some (.inl (some 52)), some (zi x), some (zi xk), some (zi xw)]) (st' := [zi xw, zi y2770, .inl (some 55)]) (by decide +kernel) (fun k q => by cases q) rfl ?_
  refine y_add (len := 1) (r := (0, 0, 0, 0)) (by decide +kernel) (by omega) (by omega) (fun y2771 hy2771 => ?_)
  have hv2772 := (ho2745 55 ((48 + 4 * k) + w) (Or.inl (by omega))).trans hq
  refine y_ial (i := ((48 + 4 * k) + w)) (len := 1) (r := (0, 0, 0, 0)) (by decide +kernel) hg2745 (tv55 hg2745) av55 (by omega) hv2772 ?_
  refine y_rI (len := 1) (r := (0, 0, 0, 0)) (nL := 4) (k := 1) (n9 := 4) (hs := []) (by decide +kernel) rfl rfl ?_
  exact ⟨_, hg2745, RM_up rm (fun k j hC => (ho2745 k j (by omega))), fun k j hC => (ho2745 k j (by omega)), evq, _, hs2745, by omega⟩
theorem m_partT0 {t : Nat} {τ : List Nat} {h : zh} {cur : bsT} {hs : List bsT} {x xk xw : Int32} (hg : hG τ h) (rm : RM h cur hs) (hx : x.toInt = 0) (hk : ¬ (0 ≤ xk.toInt ∧ xk.toInt < (cur.1.1.length : Int))) : qI 60 195 [some (.inl (some 52)), some (zi x), some (zi xk), some (zi xw)] h t (fun y h1 => ∃ τ1, hG τ1 h1 ∧ RM h1 cur hs ∧ frM h h1 ∧ ∃ z : Int32, hsl h1 52 0 = some (zi z) ∧ z.toInt = 1) := by
  refine qI_le (d := 21) (by decide) (qI_of ?_)
  have lz := len55 hg rm.1
  obtain ⟨⟨xp0z, hp0z, ep0z⟩, ⟨xc0z, hc0z, ec0z⟩, ip0z, ic0z⟩ := rm.1.1
  obtain ⟨⟨xp1z, hp1z, ep1z⟩, ⟨xc1z, hc1z, ec1z⟩, ip1z, ic1z⟩ := rm.1.2
  refine y_same (i := .aload_n 0) (len := 1) (r := (0, 0, 0, 0)) (pc' := 1) (ls' := [some (.inl (some 52)), some (zi x), some (zi xk), some (zi xw)]) (st' := [.inl (some 52)]) (by decide +kernel) (fun k q => by cases q) rfl ?_
  refine y_ic (c := 0) (len := 1) (r := (0, 0, 0, 0)) (by decide +kernel) (by decide) (fun y2773 hy2773 => ?_)
  refine y_put (j := 92) (lo := (-2147483648)) (hi := 2147483647) (len := 3) (r := (12, 0, 0, 1328)) (by decide +kernel) hg (t52 hg) at52 rfl rfl (by decide) rfl (qin_full _).1 (qin_full _).2 rfl (fun h2774 hg2774 hl2774 hs2774 ho2774 => ?_)
  have ho2774 : hO 52 0 h h2774 := ho2774
  have hs2774 : hsl h2774 52 0 = some (zi y2773) := hs2774
  refine y_same (i := .aload_n 0) (len := 1) (r := (0, 0, 0, 0)) (pc' := 6) (ls' := [some (.inl (some 52)), some (zi x), some (zi xk), some (zi xw)]) (st' := [.inl (some 52)]) (by decide +kernel) (fun k q => by cases q) rfl ?_
  refine y_same (i := .iload_n 1) (len := 1) (r := (0, 0, 0, 0)) (pc' := 7) (ls' := [some (.inl (some 52)), some (zi x), some (zi xk), some (zi xw)]) (st' := [zi x, .inl (some 52)]) (by decide +kernel) (fun k q => by cases q) rfl ?_
  refine y_ic (c := 0) (len := 1) (r := (0, 0, 0, 0)) (by decide +kernel) (by decide) (fun y2775 hy2775 => ?_)
  refine y_ic (c := 1) (len := 1) (r := (0, 0, 0, 0)) (by decide +kernel) (by decide) (fun y2776 hy2776 => ?_)
  refine y_cI (i := .invokestatic 200) (len := 3) (r := (1, 162, 12, 1486)) (nL := 3) (k := 2) (n := 3) (hs := []) (args := [zi x, zi y2775, zi y2776]) (rest := [.inl (some 52)]) (l0 := [some (zi x), some (zi y2775), some (zi y2776)]) (by decide +kernel) (Or.inl ⟨_, rfl⟩) rfl rfl rfl rfl (Nat.le_of_ble_eq_true rfl) rfl rfl (qI_le (by decide) (m_in (d := 0) (by omega) (by omega))) (fun y2777 qy2777 hRy2777 => ?_)
  obtain ⟨rfl, hy2777⟩ := hRy2777
  refine y_iF (c := .eq) (off := 29) (len := 3) (r := (0, 0, 0, 0)) (by decide +kernel) (acmpF (c := .eq) (by show ¬ (_ = _); omega)) ?_
  refine y_same (i := .iload_n 2) (len := 1) (r := (0, 0, 0, 0)) (pc' := 16) (ls' := [some (.inl (some 52)), some (zi x), some (zi xk), some (zi xw)]) (st' := [zi xk, .inl (some 52)]) (by decide +kernel) (fun k q => by cases q) rfl ?_
  refine y_ic (c := 0) (len := 1) (r := (0, 0, 0, 0)) (by decide +kernel) (by decide) (fun y2778 hy2778 => ?_)
  refine y_same (i := .aload_n 0) (len := 1) (r := (0, 0, 0, 0)) (pc' := 18) (ls' := [some (.inl (some 52)), some (zi x), some (zi xk), some (zi xw)]) (st' := [.inl (some 52), zi y2778, zi xk, .inl (some 52)]) (by decide +kernel) (fun k q => by cases q) rfl ?_
  refine y_get (j := 20) (len := 3) (r := (12, 9, 2, 1337)) (by decide +kernel) hg2774 (t52 hg2774) at52 rfl rfl (g_r52 (f := 9) (T2 := 55) hg2774 rfl (by decide)).1 ?_
  refine y_ic (c := 1) (len := 1) (r := (0, 0, 0, 0)) (by decide +kernel) (by decide) (fun y2779 hy2779 => ?_)
  refine y_ic (c := 0) (len := 1) (r := (0, 0, 0, 0)) (by decide +kernel) (by decide) (fun y2780 hy2780 => ?_)
  refine y_same (i := .iload_n 1) (len := 1) (r := (0, 0, 0, 0)) (pc' := 24) (ls' := [some (.inl (some 52)), some (zi x), some (zi xk), some (zi xw)]) (st' := [zi x, zi y2780, zi y2779, .inl (some 55), zi y2778, zi xk, .inl (some 52)]) (by decide +kernel) (fun k q => by cases q) rfl ?_
  refine y_cI (i := .invokestatic 230) (len := 3) (r := (1, 164, 12, 1591)) (nL := 2) (k := 1) (n := 2) (hs := []) (args := [zi y2780, zi x]) (rest := [zi y2779, .inl (some 55), zi y2778, zi xk, .inl (some 52)]) (l0 := [some (zi y2780), some (zi x)]) (by decide +kernel) (Or.inl ⟨_, rfl⟩) rfl rfl rfl rfl (Nat.le_of_ble_eq_true rfl) rfl rfl (qI_le (by decide) (e_more (d := 0))) (fun y2781 qy2781 hRy2781 => ?_)
  obtain ⟨rfl, my2781, ny2781⟩ := hRy2781
  have ey2781 : y2781.toInt = 0 := by omega
  refine y_cI (i := .invokestatic 233) (len := 3) (r := (1, 163, 12, 1594)) (nL := 2) (k := 1) (n := 2) (hs := []) (args := [zi y2779, zi y2781]) (rest := [.inl (some 55), zi y2778, zi xk, .inl (some 52)]) (l0 := [some (zi y2779), some (zi y2781)]) (by decide +kernel) (Or.inl ⟨_, rfl⟩) rfl rfl rfl rfl (Nat.le_of_ble_eq_true rfl) rfl rfl (qI_le (by decide) (e_less (d := 0))) (fun y2782 qy2782 hRy2782 => ?_)
  obtain ⟨rfl, my2782, ny2782⟩ := hRy2782
  have ey2782 : y2782.toInt = 0 := by omega
  have hv2784 := (ho2774 55 0 (Or.inl (by omega))).trans hp0z
  refine y_cI (i := .invokestatic 143) (len := 3) (r := (1, 166, 12, 1543)) (nL := 2) (k := 1) (n := 2) (hs := []) (args := [.inl (some 55), zi y2782]) (rest := [zi y2778, zi xk, .inl (some 52)]) (l0 := [some (.inl (some 55)), some (zi y2782)]) (by decide +kernel) (Or.inl ⟨_, rfl⟩) rfl rfl rfl rfl (Nat.le_of_ble_eq_true rfl) rfl rfl (qI_le (by decide) (m_parts (d := 0) (s := 0) hg2774 (by omega) (by omega) hv2784)) (fun y2783 qy2783 hRy2783 => ?_)
  obtain ⟨rfl, rfl⟩ := hRy2783
  refine y_ic (c := 1) (len := 1) (r := (0, 0, 0, 0)) (by decide +kernel) (by decide) (fun y2785 hy2785 => ?_)
  refine y_sub (len := 1) (r := (0, 0, 0, 0)) (by decide +kernel) (by omega) (by omega) (fun y2786 hy2786 => ?_)
  refine y_cI (i := .invokestatic 200) (len := 3) (r := (1, 162, 12, 1486)) (nL := 3) (k := 2) (n := 3) (hs := []) (args := [zi xk, zi y2778, zi y2786]) (rest := [.inl (some 52)]) (l0 := [some (zi xk), some (zi y2778), some (zi y2786)]) (by decide +kernel) (Or.inl ⟨_, rfl⟩) rfl rfl rfl rfl (Nat.le_of_ble_eq_true rfl) rfl rfl (qI_le (by decide) (m_in0 (d := 0) (by omega))) (fun y2787 qy2787 hRy2787 => ?_)
  obtain ⟨rfl, hy2787⟩ := hRy2787
  refine y_iF (c := .ne) (off := 7) (len := 3) (r := (0, 0, 0, 0)) (by decide +kernel) (acmpF (c := .ne) (by show _ = _; omega)) ?_
  refine y_ic (c := 1) (len := 1) (r := (0, 0, 0, 0)) (by decide +kernel) (by decide) (fun y2788 hy2788 => ?_)
  refine y_goto (off := 4) (pc' := 46) (len := 3) (r := (0, 0, 0, 0)) (by decide +kernel) (by decide +kernel) ?_
  refine y_ic (c := 1) (len := 1) (r := (0, 0, 0, 0)) (by decide +kernel) (by decide) (fun y2789 hy2789 => ?_)
  refine y_ic (c := 0) (len := 1) (r := (0, 0, 0, 0)) (by decide +kernel) (by decide) (fun y2790 hy2790 => ?_)
  refine y_cI (i := .invokevirtual 204) (len := 3) (r := (0, 161, 12, 1489)) (nL := 4) (k := 2) (n := 4) (hs := []) (args := [.inl (some 52), zi y2788, zi y2789, zi y2790]) (rest := []) (l0 := [some (.inl (some 52)), some (zi y2788), some (zi y2789), some (zi y2790)]) (by decide +kernel) (Or.inr (Or.inl ⟨_, rfl⟩)) rfl rfl rfl rfl (Nat.le_of_ble_eq_true rfl) (z52 hg2774) rfl (qI_le (by decide) (m_bad1 (d := 0) (e := 0) hg2774 (by omega) (by omega) (by omega) (by omega) hs2774 (by omega))) (fun y2791 h2791 hRy2791 => ?_)
  obtain ⟨hg2791, hy2791, ⟨z2791, hz2791, ez2791⟩, F2791⟩ := hRy2791
  refine y_iT (c := .ne) (off := 26) (pc' := 77) (len := 3) (r := (0, 0, 0, 0)) (by decide +kernel) (acmpT (c := .ne) (by show ¬ (_ = _); omega)) (by decide +kernel) ?_
  refine y_ic (c := 0) (len := 1) (r := (0, 0, 0, 0)) (by decide +kernel) (by decide) (fun y2792 hy2792 => ?_)
  refine y_rI (len := 1) (r := (0, 0, 0, 0)) (nL := 4) (k := 1) (n9 := 4) (hs := []) (by decide +kernel) rfl rfl ?_
  exact ⟨_, hg2791, RM_up rm (fun k j hC => ((F2791 k j (by omega)).trans (ho2774 k j (by omega)))), fun k j hC => ((F2791 k j (by omega)).trans (ho2774 k j (by omega))), _, hz2791, by omega⟩
theorem m_partW0 {t : Nat} {τ : List Nat} {h : zh} {cur : bsT} {hs : List bsT} {x xk xw : Int32} (hg : hG τ h) (rm : RM h cur hs) (hx : x.toInt = 0) (hk : 0 ≤ xk.toInt ∧ xk.toInt < (cur.1.1.length : Int)) (hw : ¬ (0 ≤ xw.toInt ∧ xw.toInt ≤ 3)) : qI 60 195 [some (.inl (some 52)), some (zi x), some (zi xk), some (zi xw)] h t (fun y h1 => ∃ τ1, hG τ1 h1 ∧ RM h1 cur hs ∧ frM h h1 ∧ ∃ z : Int32, hsl h1 52 0 = some (zi z) ∧ z.toInt = 2) := by
  refine qI_le (d := 21) (by decide) (qI_of ?_)
  have lz := len55 hg rm.1
  obtain ⟨⟨xp0z, hp0z, ep0z⟩, ⟨xc0z, hc0z, ec0z⟩, ip0z, ic0z⟩ := rm.1.1
  obtain ⟨⟨xp1z, hp1z, ep1z⟩, ⟨xc1z, hc1z, ec1z⟩, ip1z, ic1z⟩ := rm.1.2
  refine y_same (i := .aload_n 0) (len := 1) (r := (0, 0, 0, 0)) (pc' := 1) (ls' := [some (.inl (some 52)), some (zi x), some (zi xk), some (zi xw)]) (st' := [.inl (some 52)]) (by decide +kernel) (fun k q => by cases q) rfl ?_
  refine y_ic (c := 0) (len := 1) (r := (0, 0, 0, 0)) (by decide +kernel) (by decide) (fun y2793 hy2793 => ?_)
  refine y_put (j := 92) (lo := (-2147483648)) (hi := 2147483647) (len := 3) (r := (12, 0, 0, 1328)) (by decide +kernel) hg (t52 hg) at52 rfl rfl (by decide) rfl (qin_full _).1 (qin_full _).2 rfl (fun h2794 hg2794 hl2794 hs2794 ho2794 => ?_)
  have ho2794 : hO 52 0 h h2794 := ho2794
  have hs2794 : hsl h2794 52 0 = some (zi y2793) := hs2794
  refine y_same (i := .aload_n 0) (len := 1) (r := (0, 0, 0, 0)) (pc' := 6) (ls' := [some (.inl (some 52)), some (zi x), some (zi xk), some (zi xw)]) (st' := [.inl (some 52)]) (by decide +kernel) (fun k q => by cases q) rfl ?_
  refine y_same (i := .iload_n 1) (len := 1) (r := (0, 0, 0, 0)) (pc' := 7) (ls' := [some (.inl (some 52)), some (zi x), some (zi xk), some (zi xw)]) (st' := [zi x, .inl (some 52)]) (by decide +kernel) (fun k q => by cases q) rfl ?_
  refine y_ic (c := 0) (len := 1) (r := (0, 0, 0, 0)) (by decide +kernel) (by decide) (fun y2795 hy2795 => ?_)
  refine y_ic (c := 1) (len := 1) (r := (0, 0, 0, 0)) (by decide +kernel) (by decide) (fun y2796 hy2796 => ?_)
  refine y_cI (i := .invokestatic 200) (len := 3) (r := (1, 162, 12, 1486)) (nL := 3) (k := 2) (n := 3) (hs := []) (args := [zi x, zi y2795, zi y2796]) (rest := [.inl (some 52)]) (l0 := [some (zi x), some (zi y2795), some (zi y2796)]) (by decide +kernel) (Or.inl ⟨_, rfl⟩) rfl rfl rfl rfl (Nat.le_of_ble_eq_true rfl) rfl rfl (qI_le (by decide) (m_in (d := 0) (by omega) (by omega))) (fun y2797 qy2797 hRy2797 => ?_)
  obtain ⟨rfl, hy2797⟩ := hRy2797
  refine y_iF (c := .eq) (off := 29) (len := 3) (r := (0, 0, 0, 0)) (by decide +kernel) (acmpF (c := .eq) (by show ¬ (_ = _); omega)) ?_
  refine y_same (i := .iload_n 2) (len := 1) (r := (0, 0, 0, 0)) (pc' := 16) (ls' := [some (.inl (some 52)), some (zi x), some (zi xk), some (zi xw)]) (st' := [zi xk, .inl (some 52)]) (by decide +kernel) (fun k q => by cases q) rfl ?_
  refine y_ic (c := 0) (len := 1) (r := (0, 0, 0, 0)) (by decide +kernel) (by decide) (fun y2798 hy2798 => ?_)
  refine y_same (i := .aload_n 0) (len := 1) (r := (0, 0, 0, 0)) (pc' := 18) (ls' := [some (.inl (some 52)), some (zi x), some (zi xk), some (zi xw)]) (st' := [.inl (some 52), zi y2798, zi xk, .inl (some 52)]) (by decide +kernel) (fun k q => by cases q) rfl ?_
  refine y_get (j := 20) (len := 3) (r := (12, 9, 2, 1337)) (by decide +kernel) hg2794 (t52 hg2794) at52 rfl rfl (g_r52 (f := 9) (T2 := 55) hg2794 rfl (by decide)).1 ?_
  refine y_ic (c := 1) (len := 1) (r := (0, 0, 0, 0)) (by decide +kernel) (by decide) (fun y2799 hy2799 => ?_)
  refine y_ic (c := 0) (len := 1) (r := (0, 0, 0, 0)) (by decide +kernel) (by decide) (fun y2800 hy2800 => ?_)
  refine y_same (i := .iload_n 1) (len := 1) (r := (0, 0, 0, 0)) (pc' := 24) (ls' := [some (.inl (some 52)), some (zi x), some (zi xk), some (zi xw)]) (st' := [zi x, zi y2800, zi y2799, .inl (some 55), zi y2798, zi xk, .inl (some 52)]) (by decide +kernel) (fun k q => by cases q) rfl ?_
  refine y_cI (i := .invokestatic 230) (len := 3) (r := (1, 164, 12, 1591)) (nL := 2) (k := 1) (n := 2) (hs := []) (args := [zi y2800, zi x]) (rest := [zi y2799, .inl (some 55), zi y2798, zi xk, .inl (some 52)]) (l0 := [some (zi y2800), some (zi x)]) (by decide +kernel) (Or.inl ⟨_, rfl⟩) rfl rfl rfl rfl (Nat.le_of_ble_eq_true rfl) rfl rfl (qI_le (by decide) (e_more (d := 0))) (fun y2801 qy2801 hRy2801 => ?_)
  obtain ⟨rfl, my2801, ny2801⟩ := hRy2801
  have ey2801 : y2801.toInt = 0 := by omega
  refine y_cI (i := .invokestatic 233) (len := 3) (r := (1, 163, 12, 1594)) (nL := 2) (k := 1) (n := 2) (hs := []) (args := [zi y2799, zi y2801]) (rest := [.inl (some 55), zi y2798, zi xk, .inl (some 52)]) (l0 := [some (zi y2799), some (zi y2801)]) (by decide +kernel) (Or.inl ⟨_, rfl⟩) rfl rfl rfl rfl (Nat.le_of_ble_eq_true rfl) rfl rfl (qI_le (by decide) (e_less (d := 0))) (fun y2802 qy2802 hRy2802 => ?_)
  obtain ⟨rfl, my2802, ny2802⟩ := hRy2802
  have ey2802 : y2802.toInt = 0 := by omega
  have hv2804 := (ho2794 55 0 (Or.inl (by omega))).trans hp0z
  refine y_cI (i := .invokestatic 143) (len := 3) (r := (1, 166, 12, 1543)) (nL := 2) (k := 1) (n := 2) (hs := []) (args := [.inl (some 55), zi y2802]) (rest := [zi y2798, zi xk, .inl (some 52)]) (l0 := [some (.inl (some 55)), some (zi y2802)]) (by decide +kernel) (Or.inl ⟨_, rfl⟩) rfl rfl rfl rfl (Nat.le_of_ble_eq_true rfl) rfl rfl (qI_le (by decide) (m_parts (d := 0) (s := 0) hg2794 (by omega) (by omega) hv2804)) (fun y2803 qy2803 hRy2803 => ?_)
  obtain ⟨rfl, rfl⟩ := hRy2803
  refine y_ic (c := 1) (len := 1) (r := (0, 0, 0, 0)) (by decide +kernel) (by decide) (fun y2805 hy2805 => ?_)
  refine y_sub (len := 1) (r := (0, 0, 0, 0)) (by decide +kernel) (by omega) (by omega) (fun y2806 hy2806 => ?_)
  refine y_cI (i := .invokestatic 200) (len := 3) (r := (1, 162, 12, 1486)) (nL := 3) (k := 2) (n := 3) (hs := []) (args := [zi xk, zi y2798, zi y2806]) (rest := [.inl (some 52)]) (l0 := [some (zi xk), some (zi y2798), some (zi y2806)]) (by decide +kernel) (Or.inl ⟨_, rfl⟩) rfl rfl rfl rfl (Nat.le_of_ble_eq_true rfl) rfl rfl (qI_le (by decide) (m_in (d := 0) (by omega) (by omega))) (fun y2807 qy2807 hRy2807 => ?_)
  obtain ⟨rfl, hy2807⟩ := hRy2807
  refine y_iT (c := .ne) (off := 7) (pc' := 45) (len := 3) (r := (0, 0, 0, 0)) (by decide +kernel) (acmpT (c := .ne) (by show ¬ (_ = _); omega)) (by decide +kernel) ?_
  refine y_ic (c := 0) (len := 1) (r := (0, 0, 0, 0)) (by decide +kernel) (by decide) (fun y2808 hy2808 => ?_)
  refine y_ic (c := 1) (len := 1) (r := (0, 0, 0, 0)) (by decide +kernel) (by decide) (fun y2809 hy2809 => ?_)
  refine y_ic (c := 0) (len := 1) (r := (0, 0, 0, 0)) (by decide +kernel) (by decide) (fun y2810 hy2810 => ?_)
  refine y_cI (i := .invokevirtual 204) (len := 3) (r := (0, 161, 12, 1489)) (nL := 4) (k := 2) (n := 4) (hs := []) (args := [.inl (some 52), zi y2808, zi y2809, zi y2810]) (rest := []) (l0 := [some (.inl (some 52)), some (zi y2808), some (zi y2809), some (zi y2810)]) (by decide +kernel) (Or.inr (Or.inl ⟨_, rfl⟩)) rfl rfl rfl rfl (Nat.le_of_ble_eq_true rfl) (z52 hg2794) rfl (qI_le (by decide) (m_bad (d := 0) hg2794 (by omega) hs2794 (by omega))) (fun y2811 qy2811 hRy2811 => ?_)
  obtain ⟨rfl, hy2811⟩ := hRy2811
  refine y_iF (c := .ne) (off := 26) (len := 3) (r := (0, 0, 0, 0)) (by decide +kernel) (acmpF (c := .ne) (by show _ = _; omega)) ?_
  refine y_same (i := .aload_n 0) (len := 1) (r := (0, 0, 0, 0)) (pc' := 55) (ls' := [some (.inl (some 52)), some (zi x), some (zi xk), some (zi xw)]) (st' := [.inl (some 52)]) (by decide +kernel) (fun k q => by cases q) rfl ?_
  refine y_same (i := .iload_n 3) (len := 1) (r := (0, 0, 0, 0)) (pc' := 56) (ls' := [some (.inl (some 52)), some (zi x), some (zi xk), some (zi xw)]) (st' := [zi xw, .inl (some 52)]) (by decide +kernel) (fun k q => by cases q) rfl ?_
  refine y_ic (c := 0) (len := 1) (r := (0, 0, 0, 0)) (by decide +kernel) (by decide) (fun y2812 hy2812 => ?_)
  refine y_ic (c := 3) (len := 1) (r := (0, 0, 0, 0)) (by decide +kernel) (by decide) (fun y2813 hy2813 => ?_)
  refine y_cI (i := .invokestatic 200) (len := 3) (r := (1, 162, 12, 1486)) (nL := 3) (k := 2) (n := 3) (hs := []) (args := [zi xw, zi y2812, zi y2813]) (rest := [.inl (some 52)]) (l0 := [some (zi xw), some (zi y2812), some (zi y2813)]) (by decide +kernel) (Or.inl ⟨_, rfl⟩) rfl rfl rfl rfl (Nat.le_of_ble_eq_true rfl) rfl rfl (qI_le (by decide) (m_in0 (d := 0) (by omega))) (fun y2814 qy2814 hRy2814 => ?_)
  obtain ⟨rfl, hy2814⟩ := hRy2814
  refine y_iF (c := .ne) (off := 7) (len := 3) (r := (0, 0, 0, 0)) (by decide +kernel) (acmpF (c := .ne) (by show _ = _; omega)) ?_
  refine y_ic (c := 1) (len := 1) (r := (0, 0, 0, 0)) (by decide +kernel) (by decide) (fun y2815 hy2815 => ?_)
  refine y_goto (off := 4) (pc' := 69) (len := 3) (r := (0, 0, 0, 0)) (by decide +kernel) (by decide +kernel) ?_
  refine y_ic (c := 2) (len := 1) (r := (0, 0, 0, 0)) (by decide +kernel) (by decide) (fun y2816 hy2816 => ?_)
  refine y_ic (c := 1) (len := 1) (r := (0, 0, 0, 0)) (by decide +kernel) (by decide) (fun y2817 hy2817 => ?_)
  refine y_cI (i := .invokevirtual 204) (len := 3) (r := (0, 161, 12, 1489)) (nL := 4) (k := 2) (n := 4) (hs := []) (args := [.inl (some 52), zi y2815, zi y2816, zi y2817]) (rest := []) (l0 := [some (.inl (some 52)), some (zi y2815), some (zi y2816), some (zi y2817)]) (by decide +kernel) (Or.inr (Or.inl ⟨_, rfl⟩)) rfl rfl rfl rfl (Nat.le_of_ble_eq_true rfl) (z52 hg2794) rfl (qI_le (by decide) (m_bad1 (d := 0) (e := 1) hg2794 (by omega) (by omega) (by omega) (by omega) hs2794 (by omega))) (fun y2818 h2818 hRy2818 => ?_)
  obtain ⟨hg2818, hy2818, ⟨z2818, hz2818, ez2818⟩, F2818⟩ := hRy2818
  refine y_iF (c := .eq) (off := 5) (len := 3) (r := (0, 0, 0, 0)) (by decide +kernel) (acmpF (c := .eq) (by show ¬ (_ = _); omega)) ?_
  refine y_ic (c := 0) (len := 1) (r := (0, 0, 0, 0)) (by decide +kernel) (by decide) (fun y2819 hy2819 => ?_)
  refine y_rI (len := 1) (r := (0, 0, 0, 0)) (nL := 4) (k := 1) (n9 := 4) (hs := []) (by decide +kernel) rfl rfl ?_
  exact ⟨_, hg2818, RM_up rm (fun k j hC => ((F2818 k j (by omega)).trans (ho2794 k j (by omega)))), fun k j hC => ((F2818 k j (by omega)).trans (ho2794 k j (by omega))), _, hz2818, by omega⟩
theorem m_partT1 {t : Nat} {τ : List Nat} {h : zh} {cur : bsT} {hs : List bsT} {x xk xw : Int32} (hg : hG τ h) (rm : RM h cur hs) (hx : x.toInt = 1) (hk : ¬ (0 ≤ xk.toInt ∧ xk.toInt < (cur.2.1.length : Int))) : qI 60 195 [some (.inl (some 52)), some (zi x), some (zi xk), some (zi xw)] h t (fun y h1 => ∃ τ1, hG τ1 h1 ∧ RM h1 cur hs ∧ frM h h1 ∧ ∃ z : Int32, hsl h1 52 0 = some (zi z) ∧ z.toInt = 1) := by
  refine qI_le (d := 21) (by decide) (qI_of ?_)
  have lz := len55 hg rm.1
  obtain ⟨⟨xp0z, hp0z, ep0z⟩, ⟨xc0z, hc0z, ec0z⟩, ip0z, ic0z⟩ := rm.1.1
  obtain ⟨⟨xp1z, hp1z, ep1z⟩, ⟨xc1z, hc1z, ec1z⟩, ip1z, ic1z⟩ := rm.1.2
  refine y_same (i := .aload_n 0) (len := 1) (r := (0, 0, 0, 0)) (pc' := 1) (ls' := [some (.inl (some 52)), some (zi x), some (zi xk), some (zi xw)]) (st' := [.inl (some 52)]) (by decide +kernel) (fun k q => by cases q) rfl ?_
  refine y_ic (c := 0) (len := 1) (r := (0, 0, 0, 0)) (by decide +kernel) (by decide) (fun y2820 hy2820 => ?_)
  refine y_put (j := 92) (lo := (-2147483648)) (hi := 2147483647) (len := 3) (r := (12, 0, 0, 1328)) (by decide +kernel) hg (t52 hg) at52 rfl rfl (by decide) rfl (qin_full _).1 (qin_full _).2 rfl (fun h2821 hg2821 hl2821 hs2821 ho2821 => ?_)
  have ho2821 : hO 52 0 h h2821 := ho2821
  have hs2821 : hsl h2821 52 0 = some (zi y2820) := hs2821
  refine y_same (i := .aload_n 0) (len := 1) (r := (0, 0, 0, 0)) (pc' := 6) (ls' := [some (.inl (some 52)), some (zi x), some (zi xk), some (zi xw)]) (st' := [.inl (some 52)]) (by decide +kernel) (fun k q => by cases q) rfl ?_
  refine y_same (i := .iload_n 1) (len := 1) (r := (0, 0, 0, 0)) (pc' := 7) (ls' := [some (.inl (some 52)), some (zi x), some (zi xk), some (zi xw)]) (st' := [zi x, .inl (some 52)]) (by decide +kernel) (fun k q => by cases q) rfl ?_
  refine y_ic (c := 0) (len := 1) (r := (0, 0, 0, 0)) (by decide +kernel) (by decide) (fun y2822 hy2822 => ?_)
  refine y_ic (c := 1) (len := 1) (r := (0, 0, 0, 0)) (by decide +kernel) (by decide) (fun y2823 hy2823 => ?_)
  refine y_cI (i := .invokestatic 200) (len := 3) (r := (1, 162, 12, 1486)) (nL := 3) (k := 2) (n := 3) (hs := []) (args := [zi x, zi y2822, zi y2823]) (rest := [.inl (some 52)]) (l0 := [some (zi x), some (zi y2822), some (zi y2823)]) (by decide +kernel) (Or.inl ⟨_, rfl⟩) rfl rfl rfl rfl (Nat.le_of_ble_eq_true rfl) rfl rfl (qI_le (by decide) (m_in (d := 0) (by omega) (by omega))) (fun y2824 qy2824 hRy2824 => ?_)
  obtain ⟨rfl, hy2824⟩ := hRy2824
  refine y_iF (c := .eq) (off := 29) (len := 3) (r := (0, 0, 0, 0)) (by decide +kernel) (acmpF (c := .eq) (by show ¬ (_ = _); omega)) ?_
  refine y_same (i := .iload_n 2) (len := 1) (r := (0, 0, 0, 0)) (pc' := 16) (ls' := [some (.inl (some 52)), some (zi x), some (zi xk), some (zi xw)]) (st' := [zi xk, .inl (some 52)]) (by decide +kernel) (fun k q => by cases q) rfl ?_
  refine y_ic (c := 0) (len := 1) (r := (0, 0, 0, 0)) (by decide +kernel) (by decide) (fun y2825 hy2825 => ?_)
  refine y_same (i := .aload_n 0) (len := 1) (r := (0, 0, 0, 0)) (pc' := 18) (ls' := [some (.inl (some 52)), some (zi x), some (zi xk), some (zi xw)]) (st' := [.inl (some 52), zi y2825, zi xk, .inl (some 52)]) (by decide +kernel) (fun k q => by cases q) rfl ?_
  refine y_get (j := 20) (len := 3) (r := (12, 9, 2, 1337)) (by decide +kernel) hg2821 (t52 hg2821) at52 rfl rfl (g_r52 (f := 9) (T2 := 55) hg2821 rfl (by decide)).1 ?_
  refine y_ic (c := 1) (len := 1) (r := (0, 0, 0, 0)) (by decide +kernel) (by decide) (fun y2826 hy2826 => ?_)
  refine y_ic (c := 0) (len := 1) (r := (0, 0, 0, 0)) (by decide +kernel) (by decide) (fun y2827 hy2827 => ?_)
  refine y_same (i := .iload_n 1) (len := 1) (r := (0, 0, 0, 0)) (pc' := 24) (ls' := [some (.inl (some 52)), some (zi x), some (zi xk), some (zi xw)]) (st' := [zi x, zi y2827, zi y2826, .inl (some 55), zi y2825, zi xk, .inl (some 52)]) (by decide +kernel) (fun k q => by cases q) rfl ?_
  refine y_cI (i := .invokestatic 230) (len := 3) (r := (1, 164, 12, 1591)) (nL := 2) (k := 1) (n := 2) (hs := []) (args := [zi y2827, zi x]) (rest := [zi y2826, .inl (some 55), zi y2825, zi xk, .inl (some 52)]) (l0 := [some (zi y2827), some (zi x)]) (by decide +kernel) (Or.inl ⟨_, rfl⟩) rfl rfl rfl rfl (Nat.le_of_ble_eq_true rfl) rfl rfl (qI_le (by decide) (e_more (d := 0))) (fun y2828 qy2828 hRy2828 => ?_)
  obtain ⟨rfl, my2828, ny2828⟩ := hRy2828
  have ey2828 : y2828.toInt = 1 := by omega
  refine y_cI (i := .invokestatic 233) (len := 3) (r := (1, 163, 12, 1594)) (nL := 2) (k := 1) (n := 2) (hs := []) (args := [zi y2826, zi y2828]) (rest := [.inl (some 55), zi y2825, zi xk, .inl (some 52)]) (l0 := [some (zi y2826), some (zi y2828)]) (by decide +kernel) (Or.inl ⟨_, rfl⟩) rfl rfl rfl rfl (Nat.le_of_ble_eq_true rfl) rfl rfl (qI_le (by decide) (e_less (d := 0))) (fun y2829 qy2829 hRy2829 => ?_)
  obtain ⟨rfl, my2829, ny2829⟩ := hRy2829
  have ey2829 : y2829.toInt = 1 := by omega
  have hv2831 := (ho2821 55 46 (Or.inl (by omega))).trans hp1z
  refine y_cI (i := .invokestatic 143) (len := 3) (r := (1, 166, 12, 1543)) (nL := 2) (k := 1) (n := 2) (hs := []) (args := [.inl (some 55), zi y2829]) (rest := [zi y2825, zi xk, .inl (some 52)]) (l0 := [some (.inl (some 55)), some (zi y2829)]) (by decide +kernel) (Or.inl ⟨_, rfl⟩) rfl rfl rfl rfl (Nat.le_of_ble_eq_true rfl) rfl rfl (qI_le (by decide) (m_parts (d := 0) (s := 1) hg2821 (by omega) (by omega) hv2831)) (fun y2830 qy2830 hRy2830 => ?_)
  obtain ⟨rfl, rfl⟩ := hRy2830
  refine y_ic (c := 1) (len := 1) (r := (0, 0, 0, 0)) (by decide +kernel) (by decide) (fun y2832 hy2832 => ?_)
  refine y_sub (len := 1) (r := (0, 0, 0, 0)) (by decide +kernel) (by omega) (by omega) (fun y2833 hy2833 => ?_)
  refine y_cI (i := .invokestatic 200) (len := 3) (r := (1, 162, 12, 1486)) (nL := 3) (k := 2) (n := 3) (hs := []) (args := [zi xk, zi y2825, zi y2833]) (rest := [.inl (some 52)]) (l0 := [some (zi xk), some (zi y2825), some (zi y2833)]) (by decide +kernel) (Or.inl ⟨_, rfl⟩) rfl rfl rfl rfl (Nat.le_of_ble_eq_true rfl) rfl rfl (qI_le (by decide) (m_in0 (d := 0) (by omega))) (fun y2834 qy2834 hRy2834 => ?_)
  obtain ⟨rfl, hy2834⟩ := hRy2834
  refine y_iF (c := .ne) (off := 7) (len := 3) (r := (0, 0, 0, 0)) (by decide +kernel) (acmpF (c := .ne) (by show _ = _; omega)) ?_
  refine y_ic (c := 1) (len := 1) (r := (0, 0, 0, 0)) (by decide +kernel) (by decide) (fun y2835 hy2835 => ?_)
  refine y_goto (off := 4) (pc' := 46) (len := 3) (r := (0, 0, 0, 0)) (by decide +kernel) (by decide +kernel) ?_
  refine y_ic (c := 1) (len := 1) (r := (0, 0, 0, 0)) (by decide +kernel) (by decide) (fun y2836 hy2836 => ?_)
  refine y_ic (c := 0) (len := 1) (r := (0, 0, 0, 0)) (by decide +kernel) (by decide) (fun y2837 hy2837 => ?_)
  refine y_cI (i := .invokevirtual 204) (len := 3) (r := (0, 161, 12, 1489)) (nL := 4) (k := 2) (n := 4) (hs := []) (args := [.inl (some 52), zi y2835, zi y2836, zi y2837]) (rest := []) (l0 := [some (.inl (some 52)), some (zi y2835), some (zi y2836), some (zi y2837)]) (by decide +kernel) (Or.inr (Or.inl ⟨_, rfl⟩)) rfl rfl rfl rfl (Nat.le_of_ble_eq_true rfl) (z52 hg2821) rfl (qI_le (by decide) (m_bad1 (d := 0) (e := 0) hg2821 (by omega) (by omega) (by omega) (by omega) hs2821 (by omega))) (fun y2838 h2838 hRy2838 => ?_)
  obtain ⟨hg2838, hy2838, ⟨z2838, hz2838, ez2838⟩, F2838⟩ := hRy2838
  refine y_iT (c := .ne) (off := 26) (pc' := 77) (len := 3) (r := (0, 0, 0, 0)) (by decide +kernel) (acmpT (c := .ne) (by show ¬ (_ = _); omega)) (by decide +kernel) ?_
  refine y_ic (c := 0) (len := 1) (r := (0, 0, 0, 0)) (by decide +kernel) (by decide) (fun y2839 hy2839 => ?_)
  refine y_rI (len := 1) (r := (0, 0, 0, 0)) (nL := 4) (k := 1) (n9 := 4) (hs := []) (by decide +kernel) rfl rfl ?_
  exact ⟨_, hg2838, RM_up rm (fun k j hC => ((F2838 k j (by omega)).trans (ho2821 k j (by omega)))), fun k j hC => ((F2838 k j (by omega)).trans (ho2821 k j (by omega))), _, hz2838, by omega⟩
theorem m_partW1 {t : Nat} {τ : List Nat} {h : zh} {cur : bsT} {hs : List bsT} {x xk xw : Int32} (hg : hG τ h) (rm : RM h cur hs) (hx : x.toInt = 1) (hk : 0 ≤ xk.toInt ∧ xk.toInt < (cur.2.1.length : Int)) (hw : ¬ (0 ≤ xw.toInt ∧ xw.toInt ≤ 3)) : qI 60 195 [some (.inl (some 52)), some (zi x), some (zi xk), some (zi xw)] h t (fun y h1 => ∃ τ1, hG τ1 h1 ∧ RM h1 cur hs ∧ frM h h1 ∧ ∃ z : Int32, hsl h1 52 0 = some (zi z) ∧ z.toInt = 2) := by
  refine qI_le (d := 21) (by decide) (qI_of ?_)
  have lz := len55 hg rm.1
  obtain ⟨⟨xp0z, hp0z, ep0z⟩, ⟨xc0z, hc0z, ec0z⟩, ip0z, ic0z⟩ := rm.1.1
  obtain ⟨⟨xp1z, hp1z, ep1z⟩, ⟨xc1z, hc1z, ec1z⟩, ip1z, ic1z⟩ := rm.1.2
  refine y_same (i := .aload_n 0) (len := 1) (r := (0, 0, 0, 0)) (pc' := 1) (ls' := [some (.inl (some 52)), some (zi x), some (zi xk), some (zi xw)]) (st' := [.inl (some 52)]) (by decide +kernel) (fun k q => by cases q) rfl ?_
  refine y_ic (c := 0) (len := 1) (r := (0, 0, 0, 0)) (by decide +kernel) (by decide) (fun y2840 hy2840 => ?_)
  refine y_put (j := 92) (lo := (-2147483648)) (hi := 2147483647) (len := 3) (r := (12, 0, 0, 1328)) (by decide +kernel) hg (t52 hg) at52 rfl rfl (by decide) rfl (qin_full _).1 (qin_full _).2 rfl (fun h2841 hg2841 hl2841 hs2841 ho2841 => ?_)
  have ho2841 : hO 52 0 h h2841 := ho2841
  have hs2841 : hsl h2841 52 0 = some (zi y2840) := hs2841
  refine y_same (i := .aload_n 0) (len := 1) (r := (0, 0, 0, 0)) (pc' := 6) (ls' := [some (.inl (some 52)), some (zi x), some (zi xk), some (zi xw)]) (st' := [.inl (some 52)]) (by decide +kernel) (fun k q => by cases q) rfl ?_
  refine y_same (i := .iload_n 1) (len := 1) (r := (0, 0, 0, 0)) (pc' := 7) (ls' := [some (.inl (some 52)), some (zi x), some (zi xk), some (zi xw)]) (st' := [zi x, .inl (some 52)]) (by decide +kernel) (fun k q => by cases q) rfl ?_
  refine y_ic (c := 0) (len := 1) (r := (0, 0, 0, 0)) (by decide +kernel) (by decide) (fun y2842 hy2842 => ?_)
  refine y_ic (c := 1) (len := 1) (r := (0, 0, 0, 0)) (by decide +kernel) (by decide) (fun y2843 hy2843 => ?_)
  refine y_cI (i := .invokestatic 200) (len := 3) (r := (1, 162, 12, 1486)) (nL := 3) (k := 2) (n := 3) (hs := []) (args := [zi x, zi y2842, zi y2843]) (rest := [.inl (some 52)]) (l0 := [some (zi x), some (zi y2842), some (zi y2843)]) (by decide +kernel) (Or.inl ⟨_, rfl⟩) rfl rfl rfl rfl (Nat.le_of_ble_eq_true rfl) rfl rfl (qI_le (by decide) (m_in (d := 0) (by omega) (by omega))) (fun y2844 qy2844 hRy2844 => ?_)
  obtain ⟨rfl, hy2844⟩ := hRy2844
  refine y_iF (c := .eq) (off := 29) (len := 3) (r := (0, 0, 0, 0)) (by decide +kernel) (acmpF (c := .eq) (by show ¬ (_ = _); omega)) ?_
  refine y_same (i := .iload_n 2) (len := 1) (r := (0, 0, 0, 0)) (pc' := 16) (ls' := [some (.inl (some 52)), some (zi x), some (zi xk), some (zi xw)]) (st' := [zi xk, .inl (some 52)]) (by decide +kernel) (fun k q => by cases q) rfl ?_
  refine y_ic (c := 0) (len := 1) (r := (0, 0, 0, 0)) (by decide +kernel) (by decide) (fun y2845 hy2845 => ?_)
  refine y_same (i := .aload_n 0) (len := 1) (r := (0, 0, 0, 0)) (pc' := 18) (ls' := [some (.inl (some 52)), some (zi x), some (zi xk), some (zi xw)]) (st' := [.inl (some 52), zi y2845, zi xk, .inl (some 52)]) (by decide +kernel) (fun k q => by cases q) rfl ?_
  refine y_get (j := 20) (len := 3) (r := (12, 9, 2, 1337)) (by decide +kernel) hg2841 (t52 hg2841) at52 rfl rfl (g_r52 (f := 9) (T2 := 55) hg2841 rfl (by decide)).1 ?_
  refine y_ic (c := 1) (len := 1) (r := (0, 0, 0, 0)) (by decide +kernel) (by decide) (fun y2846 hy2846 => ?_)
  refine y_ic (c := 0) (len := 1) (r := (0, 0, 0, 0)) (by decide +kernel) (by decide) (fun y2847 hy2847 => ?_)
  refine y_same (i := .iload_n 1) (len := 1) (r := (0, 0, 0, 0)) (pc' := 24) (ls' := [some (.inl (some 52)), some (zi x), some (zi xk), some (zi xw)]) (st' := [zi x, zi y2847, zi y2846, .inl (some 55), zi y2845, zi xk, .inl (some 52)]) (by decide +kernel) (fun k q => by cases q) rfl ?_
  refine y_cI (i := .invokestatic 230) (len := 3) (r := (1, 164, 12, 1591)) (nL := 2) (k := 1) (n := 2) (hs := []) (args := [zi y2847, zi x]) (rest := [zi y2846, .inl (some 55), zi y2845, zi xk, .inl (some 52)]) (l0 := [some (zi y2847), some (zi x)]) (by decide +kernel) (Or.inl ⟨_, rfl⟩) rfl rfl rfl rfl (Nat.le_of_ble_eq_true rfl) rfl rfl (qI_le (by decide) (e_more (d := 0))) (fun y2848 qy2848 hRy2848 => ?_)
  obtain ⟨rfl, my2848, ny2848⟩ := hRy2848
  have ey2848 : y2848.toInt = 1 := by omega
  refine y_cI (i := .invokestatic 233) (len := 3) (r := (1, 163, 12, 1594)) (nL := 2) (k := 1) (n := 2) (hs := []) (args := [zi y2846, zi y2848]) (rest := [.inl (some 55), zi y2845, zi xk, .inl (some 52)]) (l0 := [some (zi y2846), some (zi y2848)]) (by decide +kernel) (Or.inl ⟨_, rfl⟩) rfl rfl rfl rfl (Nat.le_of_ble_eq_true rfl) rfl rfl (qI_le (by decide) (e_less (d := 0))) (fun y2849 qy2849 hRy2849 => ?_)
  obtain ⟨rfl, my2849, ny2849⟩ := hRy2849
  have ey2849 : y2849.toInt = 1 := by omega
  have hv2851 := (ho2841 55 46 (Or.inl (by omega))).trans hp1z
  refine y_cI (i := .invokestatic 143) (len := 3) (r := (1, 166, 12, 1543)) (nL := 2) (k := 1) (n := 2) (hs := []) (args := [.inl (some 55), zi y2849]) (rest := [zi y2845, zi xk, .inl (some 52)]) (l0 := [some (.inl (some 55)), some (zi y2849)]) (by decide +kernel) (Or.inl ⟨_, rfl⟩) rfl rfl rfl rfl (Nat.le_of_ble_eq_true rfl) rfl rfl (qI_le (by decide) (m_parts (d := 0) (s := 1) hg2841 (by omega) (by omega) hv2851)) (fun y2850 qy2850 hRy2850 => ?_)
  obtain ⟨rfl, rfl⟩ := hRy2850
  refine y_ic (c := 1) (len := 1) (r := (0, 0, 0, 0)) (by decide +kernel) (by decide) (fun y2852 hy2852 => ?_)
  refine y_sub (len := 1) (r := (0, 0, 0, 0)) (by decide +kernel) (by omega) (by omega) (fun y2853 hy2853 => ?_)
  refine y_cI (i := .invokestatic 200) (len := 3) (r := (1, 162, 12, 1486)) (nL := 3) (k := 2) (n := 3) (hs := []) (args := [zi xk, zi y2845, zi y2853]) (rest := [.inl (some 52)]) (l0 := [some (zi xk), some (zi y2845), some (zi y2853)]) (by decide +kernel) (Or.inl ⟨_, rfl⟩) rfl rfl rfl rfl (Nat.le_of_ble_eq_true rfl) rfl rfl (qI_le (by decide) (m_in (d := 0) (by omega) (by omega))) (fun y2854 qy2854 hRy2854 => ?_)
  obtain ⟨rfl, hy2854⟩ := hRy2854
  refine y_iT (c := .ne) (off := 7) (pc' := 45) (len := 3) (r := (0, 0, 0, 0)) (by decide +kernel) (acmpT (c := .ne) (by show ¬ (_ = _); omega)) (by decide +kernel) ?_
  refine y_ic (c := 0) (len := 1) (r := (0, 0, 0, 0)) (by decide +kernel) (by decide) (fun y2855 hy2855 => ?_)
  refine y_ic (c := 1) (len := 1) (r := (0, 0, 0, 0)) (by decide +kernel) (by decide) (fun y2856 hy2856 => ?_)
  refine y_ic (c := 0) (len := 1) (r := (0, 0, 0, 0)) (by decide +kernel) (by decide) (fun y2857 hy2857 => ?_)
  refine y_cI (i := .invokevirtual 204) (len := 3) (r := (0, 161, 12, 1489)) (nL := 4) (k := 2) (n := 4) (hs := []) (args := [.inl (some 52), zi y2855, zi y2856, zi y2857]) (rest := []) (l0 := [some (.inl (some 52)), some (zi y2855), some (zi y2856), some (zi y2857)]) (by decide +kernel) (Or.inr (Or.inl ⟨_, rfl⟩)) rfl rfl rfl rfl (Nat.le_of_ble_eq_true rfl) (z52 hg2841) rfl (qI_le (by decide) (m_bad (d := 0) hg2841 (by omega) hs2841 (by omega))) (fun y2858 qy2858 hRy2858 => ?_)
  obtain ⟨rfl, hy2858⟩ := hRy2858
  refine y_iF (c := .ne) (off := 26) (len := 3) (r := (0, 0, 0, 0)) (by decide +kernel) (acmpF (c := .ne) (by show _ = _; omega)) ?_
  refine y_same (i := .aload_n 0) (len := 1) (r := (0, 0, 0, 0)) (pc' := 55) (ls' := [some (.inl (some 52)), some (zi x), some (zi xk), some (zi xw)]) (st' := [.inl (some 52)]) (by decide +kernel) (fun k q => by cases q) rfl ?_
  refine y_same (i := .iload_n 3) (len := 1) (r := (0, 0, 0, 0)) (pc' := 56) (ls' := [some (.inl (some 52)), some (zi x), some (zi xk), some (zi xw)]) (st' := [zi xw, .inl (some 52)]) (by decide +kernel) (fun k q => by cases q) rfl ?_
  refine y_ic (c := 0) (len := 1) (r := (0, 0, 0, 0)) (by decide +kernel) (by decide) (fun y2859 hy2859 => ?_)
  refine y_ic (c := 3) (len := 1) (r := (0, 0, 0, 0)) (by decide +kernel) (by decide) (fun y2860 hy2860 => ?_)
  refine y_cI (i := .invokestatic 200) (len := 3) (r := (1, 162, 12, 1486)) (nL := 3) (k := 2) (n := 3) (hs := []) (args := [zi xw, zi y2859, zi y2860]) (rest := [.inl (some 52)]) (l0 := [some (zi xw), some (zi y2859), some (zi y2860)]) (by decide +kernel) (Or.inl ⟨_, rfl⟩) rfl rfl rfl rfl (Nat.le_of_ble_eq_true rfl) rfl rfl (qI_le (by decide) (m_in0 (d := 0) (by omega))) (fun y2861 qy2861 hRy2861 => ?_)
  obtain ⟨rfl, hy2861⟩ := hRy2861
  refine y_iF (c := .ne) (off := 7) (len := 3) (r := (0, 0, 0, 0)) (by decide +kernel) (acmpF (c := .ne) (by show _ = _; omega)) ?_
  refine y_ic (c := 1) (len := 1) (r := (0, 0, 0, 0)) (by decide +kernel) (by decide) (fun y2862 hy2862 => ?_)
  refine y_goto (off := 4) (pc' := 69) (len := 3) (r := (0, 0, 0, 0)) (by decide +kernel) (by decide +kernel) ?_
  refine y_ic (c := 2) (len := 1) (r := (0, 0, 0, 0)) (by decide +kernel) (by decide) (fun y2863 hy2863 => ?_)
  refine y_ic (c := 1) (len := 1) (r := (0, 0, 0, 0)) (by decide +kernel) (by decide) (fun y2864 hy2864 => ?_)
  refine y_cI (i := .invokevirtual 204) (len := 3) (r := (0, 161, 12, 1489)) (nL := 4) (k := 2) (n := 4) (hs := []) (args := [.inl (some 52), zi y2862, zi y2863, zi y2864]) (rest := []) (l0 := [some (.inl (some 52)), some (zi y2862), some (zi y2863), some (zi y2864)]) (by decide +kernel) (Or.inr (Or.inl ⟨_, rfl⟩)) rfl rfl rfl rfl (Nat.le_of_ble_eq_true rfl) (z52 hg2841) rfl (qI_le (by decide) (m_bad1 (d := 0) (e := 1) hg2841 (by omega) (by omega) (by omega) (by omega) hs2841 (by omega))) (fun y2865 h2865 hRy2865 => ?_)
  obtain ⟨hg2865, hy2865, ⟨z2865, hz2865, ez2865⟩, F2865⟩ := hRy2865
  refine y_iF (c := .eq) (off := 5) (len := 3) (r := (0, 0, 0, 0)) (by decide +kernel) (acmpF (c := .eq) (by show ¬ (_ = _); omega)) ?_
  refine y_ic (c := 0) (len := 1) (r := (0, 0, 0, 0)) (by decide +kernel) (by decide) (fun y2866 hy2866 => ?_)
  refine y_rI (len := 1) (r := (0, 0, 0, 0)) (nL := 4) (k := 1) (n9 := 4) (hs := []) (by decide +kernel) rfl rfl ?_
  exact ⟨_, hg2865, RM_up rm (fun k j hC => ((F2865 k j (by omega)).trans (ho2841 k j (by omega)))), fun k j hC => ((F2865 k j (by omega)).trans (ho2841 k j (by omega))), _, hz2865, by omega⟩
theorem m_partT {t : Nat} {τ : List Nat} {h : zh} {cur : bsT} {hs : List bsT} {x xk xw : Int32} (hg : hG τ h) (rm : RM h cur hs) (hx : ¬ (x.toInt = 0 ∨ x.toInt = 1)) : qI 60 195 [some (.inl (some 52)), some (zi x), some (zi xk), some (zi xw)] h t (fun y h1 => ∃ τ1, hG τ1 h1 ∧ RM h1 cur hs ∧ frM h h1 ∧ ∃ z : Int32, hsl h1 52 0 = some (zi z) ∧ z.toInt = 1) := by
  refine qI_le (d := 21) (by decide) (qI_of ?_)
  have lz := len55 hg rm.1
  obtain ⟨⟨xp0z, hp0z, ep0z⟩, ⟨xc0z, hc0z, ec0z⟩, ip0z, ic0z⟩ := rm.1.1
  obtain ⟨⟨xp1z, hp1z, ep1z⟩, ⟨xc1z, hc1z, ec1z⟩, ip1z, ic1z⟩ := rm.1.2
  refine y_same (i := .aload_n 0) (len := 1) (r := (0, 0, 0, 0)) (pc' := 1) (ls' := [some (.inl (some 52)), some (zi x), some (zi xk), some (zi xw)]) (st' := [.inl (some 52)]) (by decide +kernel) (fun k q => by cases q) rfl ?_
  refine y_ic (c := 0) (len := 1) (r := (0, 0, 0, 0)) (by decide +kernel) (by decide) (fun y2867 hy2867 => ?_)
  refine y_put (j := 92) (lo := (-2147483648)) (hi := 2147483647) (len := 3) (r := (12, 0, 0, 1328)) (by decide +kernel) hg (t52 hg) at52 rfl rfl (by decide) rfl (qin_full _).1 (qin_full _).2 rfl (fun h2868 hg2868 hl2868 hs2868 ho2868 => ?_)
  have ho2868 : hO 52 0 h h2868 := ho2868
  have hs2868 : hsl h2868 52 0 = some (zi y2867) := hs2868
  refine y_same (i := .aload_n 0) (len := 1) (r := (0, 0, 0, 0)) (pc' := 6) (ls' := [some (.inl (some 52)), some (zi x), some (zi xk), some (zi xw)]) (st' := [.inl (some 52)]) (by decide +kernel) (fun k q => by cases q) rfl ?_
  refine y_same (i := .iload_n 1) (len := 1) (r := (0, 0, 0, 0)) (pc' := 7) (ls' := [some (.inl (some 52)), some (zi x), some (zi xk), some (zi xw)]) (st' := [zi x, .inl (some 52)]) (by decide +kernel) (fun k q => by cases q) rfl ?_
  refine y_ic (c := 0) (len := 1) (r := (0, 0, 0, 0)) (by decide +kernel) (by decide) (fun y2869 hy2869 => ?_)
  refine y_ic (c := 1) (len := 1) (r := (0, 0, 0, 0)) (by decide +kernel) (by decide) (fun y2870 hy2870 => ?_)
  refine y_cI (i := .invokestatic 200) (len := 3) (r := (1, 162, 12, 1486)) (nL := 3) (k := 2) (n := 3) (hs := []) (args := [zi x, zi y2869, zi y2870]) (rest := [.inl (some 52)]) (l0 := [some (zi x), some (zi y2869), some (zi y2870)]) (by decide +kernel) (Or.inl ⟨_, rfl⟩) rfl rfl rfl rfl (Nat.le_of_ble_eq_true rfl) rfl rfl (qI_le (by decide) (m_in0 (d := 0) (by omega))) (fun y2871 qy2871 hRy2871 => ?_)
  obtain ⟨rfl, hy2871⟩ := hRy2871
  refine y_iT (c := .eq) (off := 29) (pc' := 41) (len := 3) (r := (0, 0, 0, 0)) (by decide +kernel) (acmpT (c := .eq) (by show _ = _; omega)) (by decide +kernel) ?_
  refine y_ic (c := 1) (len := 1) (r := (0, 0, 0, 0)) (by decide +kernel) (by decide) (fun y2872 hy2872 => ?_)
  refine y_goto (off := 4) (pc' := 46) (len := 3) (r := (0, 0, 0, 0)) (by decide +kernel) (by decide +kernel) ?_
  refine y_ic (c := 1) (len := 1) (r := (0, 0, 0, 0)) (by decide +kernel) (by decide) (fun y2873 hy2873 => ?_)
  refine y_ic (c := 0) (len := 1) (r := (0, 0, 0, 0)) (by decide +kernel) (by decide) (fun y2874 hy2874 => ?_)
  refine y_cI (i := .invokevirtual 204) (len := 3) (r := (0, 161, 12, 1489)) (nL := 4) (k := 2) (n := 4) (hs := []) (args := [.inl (some 52), zi y2872, zi y2873, zi y2874]) (rest := []) (l0 := [some (.inl (some 52)), some (zi y2872), some (zi y2873), some (zi y2874)]) (by decide +kernel) (Or.inr (Or.inl ⟨_, rfl⟩)) rfl rfl rfl rfl (Nat.le_of_ble_eq_true rfl) (z52 hg2868) rfl (qI_le (by decide) (m_bad1 (d := 0) (e := 0) hg2868 (by omega) (by omega) (by omega) (by omega) hs2868 (by omega))) (fun y2875 h2875 hRy2875 => ?_)
  obtain ⟨hg2875, hy2875, ⟨z2875, hz2875, ez2875⟩, F2875⟩ := hRy2875
  refine y_iT (c := .ne) (off := 26) (pc' := 77) (len := 3) (r := (0, 0, 0, 0)) (by decide +kernel) (acmpT (c := .ne) (by show ¬ (_ = _); omega)) (by decide +kernel) ?_
  refine y_ic (c := 0) (len := 1) (r := (0, 0, 0, 0)) (by decide +kernel) (by decide) (fun y2876 hy2876 => ?_)
  refine y_rI (len := 1) (r := (0, 0, 0, 0)) (nL := 4) (k := 1) (n9 := 4) (hs := []) (by decide +kernel) rfl rfl ?_
  exact ⟨_, hg2875, RM_up rm (fun k j hC => ((F2875 k j (by omega)).trans (ho2868 k j (by omega)))), fun k j hC => ((F2875 k j (by omega)).trans (ho2868 k j (by omega))), _, hz2875, by omega⟩
def partT_ (cur : bsT) (x k w : Int) : Int := if (x = 0 ∧ 0 ≤ k ∧ k < (cur.1.1.length : Int)) ∨ (x = 1 ∧ 0 ≤ k ∧ k < (cur.2.1.length : Int)) then (if 0 ≤ w ∧ w ≤ 3 then 0 else 2) else 1
def partV_ (cur : bsT) (x k w : Int) : Int := cmp_ (((if x = 0 then cur.1.1 else cur.2.1)[k.toNat]?).getD (0, 0, 0, 0)) w.toNat
theorem lx_partC {t T : Nat} {τ : List Nat} {h : zh} {cur : bsT} {hs : List bsT} (hg : hG τ h) (i0 : IV h T) {x xk xw : Int32} (rc : RC h cur hs) (rm : RM h cur hs) : ∃ (y : Int32) (h1 : zh) (t1 : Nat), qE 60 280 [some (.inl (some 0)), some (zi x), some (zi xk), some (zi xw), some (.inl (some 388)), none] h t (.inl (some (zi y)), h1, t1) ∧ t1 ≤ t + 1 ∧ ∃ τ1, hG τ1 h1 ∧ IV h1 T ∧ RC h1 cur hs ∧ RM h1 cur hs ∧ y.toInt = partT_ cur x.toInt xk.toInt xw.toInt ∧ (y.toInt = 0 → ∃ z : Int32, ou_ h1 z ∧ z.toInt = partV_ cur x.toInt xk.toInt xw.toInt) := by
  obtain ⟨o1, o2, o3, o4⟩ := RM_ok hg rm
  unfold partT_ partV_
  rcases Decidable.em ((x.toInt = 0 ∧ 0 ≤ xk.toInt ∧ xk.toInt < (cur.1.1.length : Int)) ∨ (x.toInt = 1 ∧ 0 ≤ xk.toInt ∧ xk.toInt < (cur.2.1.length : Int))) with hb | hb
  · rw [if_pos hb]
    rcases Decidable.em (0 ≤ xw.toInt ∧ xw.toInt ≤ 3) with hw | hw
    · rw [if_pos hw]
      rcases hb with ⟨b1, b2, b3⟩ | ⟨b1, b2, b3⟩
      · have hk := List.getElem?_eq_getElem (l := cur.1.1) (i := xk.toInt.toNat) (by omega)
        obtain ⟨y, h1, e, g1, ey, F, z, hz, ez⟩ := c_lpart (t := t) hg (c_part0 (k := xk.toInt.toNat) (w := xw.toInt.toNat) (xk := xk) (xw := xw) hg rc i0.2.2.2.1 b1 (by omega) hk (o1 _ _ hk) (by omega) (by omega))
        have f : frC h h1 := fun k j hC => F k j (by omega)
        refine ⟨y, h1, t, e, by omega, τ, g1, frC_IV f i0, RC_up rc (fun k j hC => F2 F k j (by omega)), frC_RM f rm, ey, fun _ => ⟨z, hz, ?_⟩⟩
        rw [if_pos b1, hk]
        exact ez
      · have hk := List.getElem?_eq_getElem (l := cur.2.1) (i := xk.toInt.toNat) (by omega)
        obtain ⟨y, h1, e, g1, ey, F, z, hz, ez⟩ := c_lpart (t := t) hg (c_part1 (k := xk.toInt.toNat) (w := xw.toInt.toNat) (xk := xk) (xw := xw) hg rc i0.2.2.2.1 b1 (by omega) hk (o3 _ _ hk) (by omega) (by omega))
        have f : frC h h1 := fun k j hC => F k j (by omega)
        refine ⟨y, h1, t, e, by omega, τ, g1, frC_IV f i0, RC_up rc (fun k j hC => F2 F k j (by omega)), frC_RM f rm, ey, fun _ => ⟨z, hz, ?_⟩⟩
        rw [if_neg (show ¬ x.toInt = 0 by omega), hk]
        exact ez
    · rw [if_neg hw]
      obtain ⟨y, h1, e, ey, g1, F⟩ := c_lpartW (t := t) hg rc i0.2.2.2.1 hb hw
      have f : frC h h1 := fun k j hC => F k j (by omega)
      exact ⟨y, h1, t + 1, e, by omega, τ, g1, frC_IV f i0, RC_up rc (fun k j hC => F k j (by omega)), frC_RM f rm, ey, fun q9 => by omega⟩
  · rw [if_neg hb]
    obtain ⟨y, h1, e, ey, g1, F⟩ := c_lpartX (t := t) (xw := xw) hg rc i0.2.2.2.1 hb
    have f : frC h h1 := fun k j hC => F k j (by omega)
    exact ⟨y, h1, t + 1, e, by omega, τ, g1, frC_IV f i0, RC_up rc (fun k j hC => F k j (by omega)), frC_RM f rm, ey, fun q9 => by omega⟩
theorem lx_partM {t T : Nat} {τ : List Nat} {h : zh} {cur : bsT} {hs : List bsT} (hg : hG τ h) (i0 : IV h T) {x xk xw : Int32} {c' : bsT} {hs' : List bsT} (rc : RC h c' hs') (rm : RM h cur hs) : ∃ (y : Int32) (h1 : zh) (t1 : Nat), qE 60 195 [some (.inl (some 52)), some (zi x), some (zi xk), some (zi xw)] h t (.inl (some (zi y)), h1, t1) ∧ t1 ≤ t + 0 ∧ ∃ τ1, hG τ1 h1 ∧ IV h1 T ∧ RC h1 c' hs' ∧ RM h1 cur hs ∧ hsl h1 388 0 = hsl h 388 0 ∧ (∃ z : Int32, hsl h1 52 0 = some (zi z) ∧ z.toInt = partT_ cur x.toInt xk.toInt xw.toInt) ∧ (partT_ cur x.toInt xk.toInt xw.toInt = 0 → y.toInt = partV_ cur x.toInt xk.toInt xw.toInt) := by
  unfold partT_ partV_
  rcases Decidable.em ((x.toInt = 0 ∧ 0 ≤ xk.toInt ∧ xk.toInt < (cur.1.1.length : Int)) ∨ (x.toInt = 1 ∧ 0 ≤ xk.toInt ∧ xk.toInt < (cur.2.1.length : Int))) with hb | hb
  · rw [if_pos hb]
    rcases Decidable.em (0 ≤ xw.toInt ∧ xw.toInt ≤ 3) with hw | hw
    · rw [if_pos hw]
      rcases hb with ⟨b1, b2, b3⟩ | ⟨b1, b2, b3⟩
      · have hk := List.getElem?_eq_getElem (l := cur.1.1) (i := xk.toInt.toNat) (by omega)
        obtain ⟨y, h1, e, τ1, g1, m, f, ey, z⟩ := m_part0 (t := t) (k := xk.toInt.toNat) (w := xw.toInt.toNat) (xk := xk) (xw := xw) hg rm b1 (by omega) hk (by omega) (by omega)
        refine ⟨y, h1, t, e, by omega, τ1, g1, frM_IV f i0, frM_RC f rc, m, f 388 0 (by omega), z, fun _ => ?_⟩
        rw [if_pos b1, hk]
        exact ey
      · have hk := List.getElem?_eq_getElem (l := cur.2.1) (i := xk.toInt.toNat) (by omega)
        obtain ⟨y, h1, e, τ1, g1, m, f, ey, z⟩ := m_part1 (t := t) (k := xk.toInt.toNat) (w := xw.toInt.toNat) (xk := xk) (xw := xw) hg rm b1 (by omega) hk (by omega) (by omega)
        refine ⟨y, h1, t, e, by omega, τ1, g1, frM_IV f i0, frM_RC f rc, m, f 388 0 (by omega), z, fun _ => ?_⟩
        rw [if_neg (show ¬ x.toInt = 0 by omega), hk]
        exact ey
    · rw [if_neg hw]
      have key : qI 60 195 [some (.inl (some 52)), some (zi x), some (zi xk), some (zi xw)] h t (fun y h1 => ∃ τ1, hG τ1 h1 ∧ RM h1 cur hs ∧ frM h h1 ∧ ∃ z : Int32, hsl h1 52 0 = some (zi z) ∧ z.toInt = 2) := by
        rcases hb with ⟨b1, b2⟩ | ⟨b1, b2⟩
        · exact m_partW0 hg rm b1 b2 hw
        · exact m_partW1 hg rm b1 b2 hw
      obtain ⟨y, h1, e, τ1, g1, m, f, z⟩ := key
      exact ⟨y, h1, t, e, by omega, τ1, g1, frM_IV f i0, frM_RC f rc, m, f 388 0 (by omega), z, fun q9 => absurd q9 (by decide)⟩
  · rw [if_neg hb]
    have key : qI 60 195 [some (.inl (some 52)), some (zi x), some (zi xk), some (zi xw)] h t (fun y h1 => ∃ τ1, hG τ1 h1 ∧ RM h1 cur hs ∧ frM h h1 ∧ ∃ z : Int32, hsl h1 52 0 = some (zi z) ∧ z.toInt = 1) := by
      rcases Decidable.em (x.toInt = 0) with q | q
      · exact m_partT0 hg rm q (by omega)
      · rcases Decidable.em (x.toInt = 1) with q1 | q1
        · exact m_partT1 hg rm q1 (by omega)
        · exact m_partT hg rm (by omega)
    obtain ⟨y, h1, e, τ1, g1, m, f, z⟩ := key
    exact ⟨y, h1, t, e, by omega, τ1, g1, frM_IV f i0, frM_RC f rc, m, f 388 0 (by omega), z, fun q9 => absurd q9 (by decide)⟩
theorem c_claim0 {t k w : Nat} {τ : List Nat} {h : zh} {cur : bsT} {hs : List bsT} {x xk xw : Int32} {i : it4} (hg : hG τ h) (rc : RC h cur hs) (r5 : hsl h 0 5 = some (.inl (some 2))) (hx : x.toInt = 0) (exk : xk.toInt = (k : Int)) (hk : cur.1.2[k]? = some i) (ok : okI i) (exw : xw.toInt = (w : Int)) (hw : w ≤ 2) : qI 21 141 [some (.inl (some 0)), some (zi x), some (zi xk), some (zi xw)] h t (fun y h1 => h = h1 ∧ y.toInt = cmp_ i w) := by
  have hk9 := (List.getElem?_eq_some_iff.mp hk).1
  refine qI_of ?_
  obtain ⟨-, ⟨uz, vz, huz, l2z, b2z⟩, -⟩ := id rc
  have uuz : (uz = 1 ∧ vz = 6) ∨ (uz = 6 ∧ vz = 1) := huz
  have tyz := ty_u (tyB_of hg huz (tv2 hg) b2z.1 b2z.2.1 l2z) huz
  have laz := lay_u l2z huz
  obtain ⟨⟨⟨xp0z, hp0z, ep0z⟩, ip0z⟩, ⟨xc0z, hc0z, ec0z⟩, ic0z⟩ := b2z.2.2.1
  obtain ⟨⟨⟨xp1z, hp1z, ep1z⟩, ip1z⟩, ⟨xc1z, hc1z, ec1z⟩, ic1z⟩ := b2z.2.2.2
  refine y_same (i := .aload_n 0) (len := 1) (r := (0, 0, 0, 0)) (pc' := 1) (ls' := [some (.inl (some 0)), some (zi x), some (zi xk), some (zi xw)]) (st' := [.inl (some 0)]) (by decide +kernel) (fun k q => by cases q) rfl ?_
  refine y_same (i := .iload_n 1) (len := 1) (r := (0, 0, 0, 0)) (pc' := 2) (ls' := [some (.inl (some 0)), some (zi x), some (zi xk), some (zi xw)]) (st' := [zi x, .inl (some 0)]) (by decide +kernel) (fun k q => by cases q) rfl ?_
  refine y_cI (i := .invokestatic 101) (len := 3) (r := (1, 156, 11, 1068)) (nL := 1) (k := 2) (n := 1) (hs := []) (args := [zi x]) (rest := [.inl (some 0)]) (l0 := [some (zi x)]) (by decide +kernel) (Or.inl ⟨_, rfl⟩) rfl rfl rfl rfl (Nat.le_of_ble_eq_true rfl) rfl rfl (qI_le (by decide) (c_isSide (d := 0))) (fun y2877 qy2877 hRy2877 => ?_)
  obtain ⟨rfl, hDy2877⟩ := hRy2877
  have ey2877 : y2877.toInt = 1 := by omega
  refine y_iF (c := .eq) (off := 25) (len := 3) (r := (0, 0, 0, 0)) (by decide +kernel) (acmpF (c := .eq) (by show ¬ (_ = _); omega)) ?_
  refine y_same (i := .aload_n 0) (len := 1) (r := (0, 0, 0, 0)) (pc' := 9) (ls' := [some (.inl (some 0)), some (zi x), some (zi xk), some (zi xw)]) (st' := [.inl (some 0), .inl (some 0)]) (by decide +kernel) (fun k q => by cases q) rfl ?_
  refine y_get (j := 29) (len := 3) (r := (11, 5, 2, 404)) (by decide +kernel) hg (tv0 hg) aw0 rfl rfl r5 ?_
  refine y_same (i := .iload_n 1) (len := 1) (r := (0, 0, 0, 0)) (pc' := 13) (ls' := [some (.inl (some 0)), some (zi x), some (zi xk), some (zi xw)]) (st' := [zi x, .inl (some 2), .inl (some 0)]) (by decide +kernel) (fun k q => by cases q) rfl ?_
  refine y_cA (i := .invokevirtual 105) (len := 3) (r := (0, 108, 9, 1071)) (nL := 2) (k := 3) (n := 2) (hs := []) (args := [.inl (some 2), zi x]) (rest := [.inl (some 0)]) (l0 := [some (.inl (some 2)), some (zi x)]) (by decide +kernel) (Or.inr (Or.inl ⟨_, rfl⟩)) rfl rfl rfl rfl (Nat.le_of_ble_eq_true rfl) (zO hg (tv2 hg) aw1000 rfl) rfl (qA_le (by decide) (c_side0 (d := 0) (u := uz) (v := vz) hg (by omega) b2z.1 b2z.2.1)) (fun q2878 hR2878 => ?_)
  obtain rfl := hR2878
  refine y_get (j := 129) (len := 3) (r := (8, 1, 2, 20188)) (by decide +kernel) hg tyz.1.1 aw1001 rfl rfl laz.1.2.1 ?_
  refine y_same (i := .iload_n 2) (len := 1) (r := (0, 0, 0, 0)) (pc' := 20) (ls' := [some (.inl (some 0)), some (zi x), some (zi xk), some (zi xw)]) (st' := [zi xk, .inl (some ((2 + uz + 3))), .inl (some 0)]) (by decide +kernel) (fun k q => by cases q) rfl ?_
  refine y_cI (i := .invokevirtual 115) (len := 3) (r := (0, 63, 6, 1075)) (nL := 2) (k := 2) (n := 2) (hs := []) (args := [.inl (some ((2 + uz + 3))), zi xk]) (rest := [.inl (some 0)]) (l0 := [some (.inl (some ((2 + uz + 3)))), some (zi xk)]) (by decide +kernel) (Or.inr (Or.inl ⟨_, rfl⟩)) rfl rfl rfl rfl (Nat.le_of_ble_eq_true rfl) (zO hg tyz.1.2.2.2.1 aw1003 rfl) rfl (qI_le (by decide) (c_has6 (d := 0) hg tyz.1.2.2.2.1 hc0z)) (fun y2879 qy2879 hRy2879 => ?_)
  obtain ⟨rfl, hDy2879⟩ := hRy2879
  have ey2879 : y2879.toInt = 1 := by omega
  refine y_iF (c := .eq) (off := 7) (len := 3) (r := (0, 0, 0, 0)) (by decide +kernel) (acmpF (c := .eq) (by show ¬ (_ = _); omega)) ?_
  refine y_ic (c := 1) (len := 1) (r := (0, 0, 0, 0)) (by decide +kernel) (by decide) (fun y2880 hy2880 => ?_)
  refine y_goto (off := 4) (pc' := 31) (len := 3) (r := (0, 0, 0, 0)) (by decide +kernel) (by decide +kernel) ?_
  refine y_cV (i := .invokevirtual 120) (len := 3) (r := (0, 152, 11, 1079)) (nL := 2) (k := 0) (n := 2) (hs := []) (args := [.inl (some 0), zi y2880]) (rest := []) (l0 := [some (.inl (some 0)), some (zi y2880)]) (by decide +kernel) (Or.inr (Or.inl ⟨_, rfl⟩)) rfl rfl rfl rfl (Nat.le_of_ble_eq_true rfl) (zO hg (tv0 hg) aw0 rfl) rfl (qV_le (by decide) (c_there (d := 0) (by omega))) (fun q2881 hR2881 => ?_)
  obtain rfl := hR2881
  refine y_same (i := .aload_n 0) (len := 1) (r := (0, 0, 0, 0)) (pc' := 35) (ls' := [some (.inl (some 0)), some (zi x), some (zi xk), some (zi xw)]) (st' := [.inl (some 0)]) (by decide +kernel) (fun k q => by cases q) rfl ?_
  refine y_same (i := .iload_n 3) (len := 1) (r := (0, 0, 0, 0)) (pc' := 36) (ls' := [some (.inl (some 0)), some (zi x), some (zi xk), some (zi xw)]) (st' := [zi xw, .inl (some 0)]) (by decide +kernel) (fun k q => by cases q) rfl ?_
  refine y_iF (c := .lt) (off := 12) (len := 3) (r := (0, 0, 0, 0)) (by decide +kernel) (acmpF (c := .lt) (by show _ ≤ _; omega)) ?_
  refine y_same (i := .iload_n 3) (len := 1) (r := (0, 0, 0, 0)) (pc' := 40) (ls' := [some (.inl (some 0)), some (zi x), some (zi xk), some (zi xw)]) (st' := [zi xw, .inl (some 0)]) (by decide +kernel) (fun k q => by cases q) rfl ?_
  refine y_ic (c := 2) (len := 1) (r := (0, 0, 0, 0)) (by decide +kernel) (by decide) (fun y2882 hy2882 => ?_)
  refine y_cF (c := .gt) (off := 7) (len := 3) (r := (0, 0, 0, 0)) (by decide +kernel) (acmpF (c := .gt) (by show _ ≤ _; omega)) ?_
  refine y_ic (c := 1) (len := 1) (r := (0, 0, 0, 0)) (by decide +kernel) (by decide) (fun y2883 hy2883 => ?_)
  refine y_goto (off := 4) (pc' := 49) (len := 3) (r := (0, 0, 0, 0)) (by decide +kernel) (by decide +kernel) ?_
  refine y_cV (i := .invokevirtual 70) (len := 3) (r := (0, 153, 11, 852)) (nL := 2) (k := 0) (n := 2) (hs := []) (args := [.inl (some 0), zi y2883]) (rest := []) (l0 := [some (.inl (some 0)), some (zi y2883)]) (by decide +kernel) (Or.inr (Or.inl ⟨_, rfl⟩)) rfl rfl rfl rfl (Nat.le_of_ble_eq_true rfl) (zO hg (tv0 hg) aw0 rfl) rfl (qV_le (by decide) (c_fit (d := 0) (by omega))) (fun q2884 hR2884 => ?_)
  obtain rfl := hR2884
  refine y_same (i := .aload_n 0) (len := 1) (r := (0, 0, 0, 0)) (pc' := 53) (ls' := [some (.inl (some 0)), some (zi x), some (zi xk), some (zi xw)]) (st' := [.inl (some 0)]) (by decide +kernel) (fun k q => by cases q) rfl ?_
  refine y_get (j := 29) (len := 3) (r := (11, 5, 2, 404)) (by decide +kernel) hg (tv0 hg) aw0 rfl rfl r5 ?_
  refine y_same (i := .iload_n 1) (len := 1) (r := (0, 0, 0, 0)) (pc' := 57) (ls' := [some (.inl (some 0)), some (zi x), some (zi xk), some (zi xw)]) (st' := [zi x, .inl (some 2)]) (by decide +kernel) (fun k q => by cases q) rfl ?_
  refine y_cA (i := .invokevirtual 105) (len := 3) (r := (0, 108, 9, 1071)) (nL := 2) (k := 3) (n := 2) (hs := []) (args := [.inl (some 2), zi x]) (rest := []) (l0 := [some (.inl (some 2)), some (zi x)]) (by decide +kernel) (Or.inr (Or.inl ⟨_, rfl⟩)) rfl rfl rfl rfl (Nat.le_of_ble_eq_true rfl) (zO hg (tv2 hg) aw1000 rfl) rfl (qA_le (by decide) (c_side0 (d := 0) (u := uz) (v := vz) hg (by omega) b2z.1 b2z.2.1)) (fun q2885 hR2885 => ?_)
  obtain rfl := hR2885
  refine y_get (j := 129) (len := 3) (r := (8, 1, 2, 20188)) (by decide +kernel) hg tyz.1.1 aw1001 rfl rfl laz.1.2.1 ?_
  refine y_same (i := .iload_n 2) (len := 1) (r := (0, 0, 0, 0)) (pc' := 64) (ls' := [some (.inl (some 0)), some (zi x), some (zi xk), some (zi xw)]) (st' := [zi xk, .inl (some ((2 + uz + 3)))]) (by decide +kernel) (fun k q => by cases q) rfl ?_
  refine y_same (i := .iload_n 3) (len := 1) (r := (0, 0, 0, 0)) (pc' := 65) (ls' := [some (.inl (some 0)), some (zi x), some (zi xk), some (zi xw)]) (st' := [zi xw, zi xk, .inl (some ((2 + uz + 3)))]) (by decide +kernel) (fun k q => by cases q) rfl ?_
  refine y_cI (i := .invokevirtual 149) (len := 3) (r := (0, 64, 6, 1131)) (nL := 3) (k := 1) (n := 3) (hs := []) (args := [.inl (some ((2 + uz + 3))), zi xk, zi xw]) (rest := []) (l0 := [some (.inl (some ((2 + uz + 3)))), some (zi xk), some (zi xw)]) (by decide +kernel) (Or.inr (Or.inl ⟨_, rfl⟩)) rfl rfl rfl rfl (Nat.le_of_ble_eq_true rfl) (zO hg tyz.1.2.2.2.1 aw1003 rfl) rfl (qI_le (by decide) (e_tell6 (d := 0) (RA := (2 + uz + 3)) (IA := (2 + uz + 4)) hg tyz.1.2.2.2.1 tyz.1.2.2.2.2 laz.1.2.2.2 b2z.2.2.1.2 exk hk ok exw (by omega))) (fun y2886 qy2886 hRy2886 => ?_)
  obtain ⟨rfl, ey2886⟩ := hRy2886
  refine y_rI (len := 1) (r := (0, 0, 0, 0)) (nL := 4) (k := 1) (n9 := 4) (hs := []) (by decide +kernel) rfl rfl ?_
  exact ⟨rfl, ey2886⟩
theorem c_claimT0 {t : Nat} {τ : List Nat} {h : zh} {cur : bsT} {hs : List bsT} {x xk xw : Int32} (hg : hG τ h) (rc : RC h cur hs) (r5 : hsl h 0 5 = some (.inl (some 2))) (hx : x.toInt = 0) (hk : ¬ (0 ≤ xk.toInt ∧ xk.toInt < (cur.1.2.length : Int))) : qT 21 141 [some (.inl (some 0)), some (zi x), some (zi xk), some (zi xw)] h t 0 (fun h1 => hG τ h1 ∧ ∀ k j, (k ≠ 0 ∨ j ≠ 3) → hsl h1 k j = hsl h k j) := by
  refine qT_of ?_
  obtain ⟨-, ⟨uz, vz, huz, l2z, b2z⟩, -⟩ := id rc
  have uuz : (uz = 1 ∧ vz = 6) ∨ (uz = 6 ∧ vz = 1) := huz
  have tyz := ty_u (tyB_of hg huz (tv2 hg) b2z.1 b2z.2.1 l2z) huz
  have laz := lay_u l2z huz
  obtain ⟨⟨⟨xp0z, hp0z, ep0z⟩, ip0z⟩, ⟨xc0z, hc0z, ec0z⟩, ic0z⟩ := b2z.2.2.1
  obtain ⟨⟨⟨xp1z, hp1z, ep1z⟩, ip1z⟩, ⟨xc1z, hc1z, ec1z⟩, ic1z⟩ := b2z.2.2.2
  refine y_same (i := .aload_n 0) (len := 1) (r := (0, 0, 0, 0)) (pc' := 1) (ls' := [some (.inl (some 0)), some (zi x), some (zi xk), some (zi xw)]) (st' := [.inl (some 0)]) (by decide +kernel) (fun k q => by cases q) rfl ?_
  refine y_same (i := .iload_n 1) (len := 1) (r := (0, 0, 0, 0)) (pc' := 2) (ls' := [some (.inl (some 0)), some (zi x), some (zi xk), some (zi xw)]) (st' := [zi x, .inl (some 0)]) (by decide +kernel) (fun k q => by cases q) rfl ?_
  refine y_cI (i := .invokestatic 101) (len := 3) (r := (1, 156, 11, 1068)) (nL := 1) (k := 2) (n := 1) (hs := []) (args := [zi x]) (rest := [.inl (some 0)]) (l0 := [some (zi x)]) (by decide +kernel) (Or.inl ⟨_, rfl⟩) rfl rfl rfl rfl (Nat.le_of_ble_eq_true rfl) rfl rfl (qI_le (by decide) (c_isSide (d := 0))) (fun y2887 qy2887 hRy2887 => ?_)
  obtain ⟨rfl, hDy2887⟩ := hRy2887
  have ey2887 : y2887.toInt = 1 := by omega
  refine y_iF (c := .eq) (off := 25) (len := 3) (r := (0, 0, 0, 0)) (by decide +kernel) (acmpF (c := .eq) (by show ¬ (_ = _); omega)) ?_
  refine y_same (i := .aload_n 0) (len := 1) (r := (0, 0, 0, 0)) (pc' := 9) (ls' := [some (.inl (some 0)), some (zi x), some (zi xk), some (zi xw)]) (st' := [.inl (some 0), .inl (some 0)]) (by decide +kernel) (fun k q => by cases q) rfl ?_
  refine y_get (j := 29) (len := 3) (r := (11, 5, 2, 404)) (by decide +kernel) hg (tv0 hg) aw0 rfl rfl r5 ?_
  refine y_same (i := .iload_n 1) (len := 1) (r := (0, 0, 0, 0)) (pc' := 13) (ls' := [some (.inl (some 0)), some (zi x), some (zi xk), some (zi xw)]) (st' := [zi x, .inl (some 2), .inl (some 0)]) (by decide +kernel) (fun k q => by cases q) rfl ?_
  refine y_cA (i := .invokevirtual 105) (len := 3) (r := (0, 108, 9, 1071)) (nL := 2) (k := 3) (n := 2) (hs := []) (args := [.inl (some 2), zi x]) (rest := [.inl (some 0)]) (l0 := [some (.inl (some 2)), some (zi x)]) (by decide +kernel) (Or.inr (Or.inl ⟨_, rfl⟩)) rfl rfl rfl rfl (Nat.le_of_ble_eq_true rfl) (zO hg (tv2 hg) aw1000 rfl) rfl (qA_le (by decide) (c_side0 (d := 0) (u := uz) (v := vz) hg (by omega) b2z.1 b2z.2.1)) (fun q2888 hR2888 => ?_)
  obtain rfl := hR2888
  refine y_get (j := 129) (len := 3) (r := (8, 1, 2, 20188)) (by decide +kernel) hg tyz.1.1 aw1001 rfl rfl laz.1.2.1 ?_
  refine y_same (i := .iload_n 2) (len := 1) (r := (0, 0, 0, 0)) (pc' := 20) (ls' := [some (.inl (some 0)), some (zi x), some (zi xk), some (zi xw)]) (st' := [zi xk, .inl (some ((2 + uz + 3))), .inl (some 0)]) (by decide +kernel) (fun k q => by cases q) rfl ?_
  refine y_cI (i := .invokevirtual 115) (len := 3) (r := (0, 63, 6, 1075)) (nL := 2) (k := 2) (n := 2) (hs := []) (args := [.inl (some ((2 + uz + 3))), zi xk]) (rest := [.inl (some 0)]) (l0 := [some (.inl (some ((2 + uz + 3)))), some (zi xk)]) (by decide +kernel) (Or.inr (Or.inl ⟨_, rfl⟩)) rfl rfl rfl rfl (Nat.le_of_ble_eq_true rfl) (zO hg tyz.1.2.2.2.1 aw1003 rfl) rfl (qI_le (by decide) (c_has6 (d := 0) hg tyz.1.2.2.2.1 hc0z)) (fun y2889 qy2889 hRy2889 => ?_)
  obtain ⟨rfl, hDy2889⟩ := hRy2889
  have ey2889 : y2889.toInt = 0 := by omega
  refine y_iT (c := .eq) (off := 7) (pc' := 30) (len := 3) (r := (0, 0, 0, 0)) (by decide +kernel) (acmpT (c := .eq) (by show _ = _; omega)) (by decide +kernel) ?_
  refine y_ic (c := 0) (len := 1) (r := (0, 0, 0, 0)) (by decide +kernel) (by decide) (fun y2890 hy2890 => ?_)
  refine y_cX (i := .invokevirtual 120) (len := 3) (r := (0, 152, 11, 1079)) (nL := 2) (k := 0) (n := 2) (hs := []) (args := [.inl (some 0), zi y2890]) (rest := []) (l0 := [some (.inl (some 0)), some (zi y2890)]) (by decide +kernel) (Or.inr (Or.inl ⟨_, rfl⟩)) rfl rfl rfl rfl (Nat.le_of_ble_eq_true rfl) (zO hg (tv0 hg) aw0 rfl) rfl rfl (mL := 4) (mk := 1) (m9 := 4) (ms := []) rfl rfl (qT_le (by decide) (c_thereT (d := 0) hg (by omega))) (fun h2891 hR2891 => ?_)
  obtain ⟨hg2891, F2891⟩ := hR2891
  exact ⟨_, rfl, hg2891, fun k j hC => (F2891 k j (by omega))⟩
theorem c_claimW0 {t : Nat} {τ : List Nat} {h : zh} {cur : bsT} {hs : List bsT} {x xk xw : Int32} (hg : hG τ h) (rc : RC h cur hs) (r5 : hsl h 0 5 = some (.inl (some 2))) (hx : x.toInt = 0) (hk : 0 ≤ xk.toInt ∧ xk.toInt < (cur.1.2.length : Int)) (hw : ¬ (0 ≤ xw.toInt ∧ xw.toInt ≤ 2)) : qT 21 141 [some (.inl (some 0)), some (zi x), some (zi xk), some (zi xw)] h t 1 (fun h1 => hG τ h1 ∧ ∀ k j, (k ≠ 0 ∨ j ≠ 4) → hsl h1 k j = hsl h k j) := by
  refine qT_of ?_
  obtain ⟨-, ⟨uz, vz, huz, l2z, b2z⟩, -⟩ := id rc
  have uuz : (uz = 1 ∧ vz = 6) ∨ (uz = 6 ∧ vz = 1) := huz
  have tyz := ty_u (tyB_of hg huz (tv2 hg) b2z.1 b2z.2.1 l2z) huz
  have laz := lay_u l2z huz
  obtain ⟨⟨⟨xp0z, hp0z, ep0z⟩, ip0z⟩, ⟨xc0z, hc0z, ec0z⟩, ic0z⟩ := b2z.2.2.1
  obtain ⟨⟨⟨xp1z, hp1z, ep1z⟩, ip1z⟩, ⟨xc1z, hc1z, ec1z⟩, ic1z⟩ := b2z.2.2.2
  refine y_same (i := .aload_n 0) (len := 1) (r := (0, 0, 0, 0)) (pc' := 1) (ls' := [some (.inl (some 0)), some (zi x), some (zi xk), some (zi xw)]) (st' := [.inl (some 0)]) (by decide +kernel) (fun k q => by cases q) rfl ?_
  refine y_same (i := .iload_n 1) (len := 1) (r := (0, 0, 0, 0)) (pc' := 2) (ls' := [some (.inl (some 0)), some (zi x), some (zi xk), some (zi xw)]) (st' := [zi x, .inl (some 0)]) (by decide +kernel) (fun k q => by cases q) rfl ?_
  refine y_cI (i := .invokestatic 101) (len := 3) (r := (1, 156, 11, 1068)) (nL := 1) (k := 2) (n := 1) (hs := []) (args := [zi x]) (rest := [.inl (some 0)]) (l0 := [some (zi x)]) (by decide +kernel) (Or.inl ⟨_, rfl⟩) rfl rfl rfl rfl (Nat.le_of_ble_eq_true rfl) rfl rfl (qI_le (by decide) (c_isSide (d := 0))) (fun y2892 qy2892 hRy2892 => ?_)
  obtain ⟨rfl, hDy2892⟩ := hRy2892
  have ey2892 : y2892.toInt = 1 := by omega
  refine y_iF (c := .eq) (off := 25) (len := 3) (r := (0, 0, 0, 0)) (by decide +kernel) (acmpF (c := .eq) (by show ¬ (_ = _); omega)) ?_
  refine y_same (i := .aload_n 0) (len := 1) (r := (0, 0, 0, 0)) (pc' := 9) (ls' := [some (.inl (some 0)), some (zi x), some (zi xk), some (zi xw)]) (st' := [.inl (some 0), .inl (some 0)]) (by decide +kernel) (fun k q => by cases q) rfl ?_
  refine y_get (j := 29) (len := 3) (r := (11, 5, 2, 404)) (by decide +kernel) hg (tv0 hg) aw0 rfl rfl r5 ?_
  refine y_same (i := .iload_n 1) (len := 1) (r := (0, 0, 0, 0)) (pc' := 13) (ls' := [some (.inl (some 0)), some (zi x), some (zi xk), some (zi xw)]) (st' := [zi x, .inl (some 2), .inl (some 0)]) (by decide +kernel) (fun k q => by cases q) rfl ?_
  refine y_cA (i := .invokevirtual 105) (len := 3) (r := (0, 108, 9, 1071)) (nL := 2) (k := 3) (n := 2) (hs := []) (args := [.inl (some 2), zi x]) (rest := [.inl (some 0)]) (l0 := [some (.inl (some 2)), some (zi x)]) (by decide +kernel) (Or.inr (Or.inl ⟨_, rfl⟩)) rfl rfl rfl rfl (Nat.le_of_ble_eq_true rfl) (zO hg (tv2 hg) aw1000 rfl) rfl (qA_le (by decide) (c_side0 (d := 0) (u := uz) (v := vz) hg (by omega) b2z.1 b2z.2.1)) (fun q2893 hR2893 => ?_)
  obtain rfl := hR2893
  refine y_get (j := 129) (len := 3) (r := (8, 1, 2, 20188)) (by decide +kernel) hg tyz.1.1 aw1001 rfl rfl laz.1.2.1 ?_
  refine y_same (i := .iload_n 2) (len := 1) (r := (0, 0, 0, 0)) (pc' := 20) (ls' := [some (.inl (some 0)), some (zi x), some (zi xk), some (zi xw)]) (st' := [zi xk, .inl (some ((2 + uz + 3))), .inl (some 0)]) (by decide +kernel) (fun k q => by cases q) rfl ?_
  refine y_cI (i := .invokevirtual 115) (len := 3) (r := (0, 63, 6, 1075)) (nL := 2) (k := 2) (n := 2) (hs := []) (args := [.inl (some ((2 + uz + 3))), zi xk]) (rest := [.inl (some 0)]) (l0 := [some (.inl (some ((2 + uz + 3)))), some (zi xk)]) (by decide +kernel) (Or.inr (Or.inl ⟨_, rfl⟩)) rfl rfl rfl rfl (Nat.le_of_ble_eq_true rfl) (zO hg tyz.1.2.2.2.1 aw1003 rfl) rfl (qI_le (by decide) (c_has6 (d := 0) hg tyz.1.2.2.2.1 hc0z)) (fun y2894 qy2894 hRy2894 => ?_)
  obtain ⟨rfl, hDy2894⟩ := hRy2894
  have ey2894 : y2894.toInt = 1 := by omega
  refine y_iF (c := .eq) (off := 7) (len := 3) (r := (0, 0, 0, 0)) (by decide +kernel) (acmpF (c := .eq) (by show ¬ (_ = _); omega)) ?_
  refine y_ic (c := 1) (len := 1) (r := (0, 0, 0, 0)) (by decide +kernel) (by decide) (fun y2895 hy2895 => ?_)
  refine y_goto (off := 4) (pc' := 31) (len := 3) (r := (0, 0, 0, 0)) (by decide +kernel) (by decide +kernel) ?_
  refine y_cV (i := .invokevirtual 120) (len := 3) (r := (0, 152, 11, 1079)) (nL := 2) (k := 0) (n := 2) (hs := []) (args := [.inl (some 0), zi y2895]) (rest := []) (l0 := [some (.inl (some 0)), some (zi y2895)]) (by decide +kernel) (Or.inr (Or.inl ⟨_, rfl⟩)) rfl rfl rfl rfl (Nat.le_of_ble_eq_true rfl) (zO hg (tv0 hg) aw0 rfl) rfl (qV_le (by decide) (c_there (d := 0) (by omega))) (fun q2896 hR2896 => ?_)
  obtain rfl := hR2896
  refine y_same (i := .aload_n 0) (len := 1) (r := (0, 0, 0, 0)) (pc' := 35) (ls' := [some (.inl (some 0)), some (zi x), some (zi xk), some (zi xw)]) (st' := [.inl (some 0)]) (by decide +kernel) (fun k q => by cases q) rfl ?_
  refine y_same (i := .iload_n 3) (len := 1) (r := (0, 0, 0, 0)) (pc' := 36) (ls' := [some (.inl (some 0)), some (zi x), some (zi xk), some (zi xw)]) (st' := [zi xw, .inl (some 0)]) (by decide +kernel) (fun k q => by cases q) rfl ?_
  rcases Decidable.em (xw.toInt < 0) with q2897 | q2897
  ·
    refine y_iT (c := .lt) (off := 12) (pc' := 48) (len := 3) (r := (0, 0, 0, 0)) (by decide +kernel) (acmpT (c := .lt) (by show _ < _; omega)) (by decide +kernel) ?_
    refine y_ic (c := 0) (len := 1) (r := (0, 0, 0, 0)) (by decide +kernel) (by decide) (fun y2898 hy2898 => ?_)
    refine y_cX (i := .invokevirtual 70) (len := 3) (r := (0, 153, 11, 852)) (nL := 2) (k := 0) (n := 2) (hs := []) (args := [.inl (some 0), zi y2898]) (rest := []) (l0 := [some (.inl (some 0)), some (zi y2898)]) (by decide +kernel) (Or.inr (Or.inl ⟨_, rfl⟩)) rfl rfl rfl rfl (Nat.le_of_ble_eq_true rfl) (zO hg (tv0 hg) aw0 rfl) rfl rfl (mL := 4) (mk := 1) (m9 := 4) (ms := []) rfl rfl (qT_le (by decide) (c_fitT (d := 0) hg (by omega))) (fun h2899 hR2899 => ?_)
    obtain ⟨hg2899, F2899⟩ := hR2899
    exact ⟨_, rfl, hg2899, fun k j hC => (F2899 k j (by omega))⟩
  ·
    refine y_iF (c := .lt) (off := 12) (len := 3) (r := (0, 0, 0, 0)) (by decide +kernel) (acmpF (c := .lt) (by show _ ≤ _; omega)) ?_
    refine y_same (i := .iload_n 3) (len := 1) (r := (0, 0, 0, 0)) (pc' := 40) (ls' := [some (.inl (some 0)), some (zi x), some (zi xk), some (zi xw)]) (st' := [zi xw, .inl (some 0)]) (by decide +kernel) (fun k q => by cases q) rfl ?_
    refine y_ic (c := 2) (len := 1) (r := (0, 0, 0, 0)) (by decide +kernel) (by decide) (fun y2900 hy2900 => ?_)
    rcases Decidable.em (xw.toInt > y2900.toInt) with q2901 | q2901
    ·
      refine y_cT (c := .gt) (off := 7) (pc' := 48) (len := 3) (r := (0, 0, 0, 0)) (by decide +kernel) (acmpT (c := .gt) (by show _ < _; omega)) (by decide +kernel) ?_
      refine y_ic (c := 0) (len := 1) (r := (0, 0, 0, 0)) (by decide +kernel) (by decide) (fun y2902 hy2902 => ?_)
      refine y_cX (i := .invokevirtual 70) (len := 3) (r := (0, 153, 11, 852)) (nL := 2) (k := 0) (n := 2) (hs := []) (args := [.inl (some 0), zi y2902]) (rest := []) (l0 := [some (.inl (some 0)), some (zi y2902)]) (by decide +kernel) (Or.inr (Or.inl ⟨_, rfl⟩)) rfl rfl rfl rfl (Nat.le_of_ble_eq_true rfl) (zO hg (tv0 hg) aw0 rfl) rfl rfl (mL := 4) (mk := 1) (m9 := 4) (ms := []) rfl rfl (qT_le (by decide) (c_fitT (d := 0) hg (by omega))) (fun h2903 hR2903 => ?_)
      obtain ⟨hg2903, F2903⟩ := hR2903
      exact ⟨_, rfl, hg2903, fun k j hC => (F2903 k j (by omega))⟩
    ·
      refine y_cF (c := .gt) (off := 7) (len := 3) (r := (0, 0, 0, 0)) (by decide +kernel) (acmpF (c := .gt) (by show _ ≤ _; omega)) ?_
      refine y_ic (c := 1) (len := 1) (r := (0, 0, 0, 0)) (by decide +kernel) (by decide) (fun y2904 hy2904 => ?_)
      refine y_goto (off := 4) (pc' := 49) (len := 3) (r := (0, 0, 0, 0)) (by decide +kernel) (by decide +kernel) ?_
      exfalso
      omega
theorem c_claim1 {t k w : Nat} {τ : List Nat} {h : zh} {cur : bsT} {hs : List bsT} {x xk xw : Int32} {i : it4} (hg : hG τ h) (rc : RC h cur hs) (r5 : hsl h 0 5 = some (.inl (some 2))) (hx : x.toInt = 1) (exk : xk.toInt = (k : Int)) (hk : cur.2.2[k]? = some i) (ok : okI i) (exw : xw.toInt = (w : Int)) (hw : w ≤ 2) : qI 21 141 [some (.inl (some 0)), some (zi x), some (zi xk), some (zi xw)] h t (fun y h1 => h = h1 ∧ y.toInt = cmp_ i w) := by
  have hk9 := (List.getElem?_eq_some_iff.mp hk).1
  refine qI_of ?_
  obtain ⟨-, ⟨uz, vz, huz, l2z, b2z⟩, -⟩ := id rc
  have uuz : (uz = 1 ∧ vz = 6) ∨ (uz = 6 ∧ vz = 1) := huz
  have tyz := ty_u (tyB_of hg huz (tv2 hg) b2z.1 b2z.2.1 l2z) huz
  have laz := lay_u l2z huz
  obtain ⟨⟨⟨xp0z, hp0z, ep0z⟩, ip0z⟩, ⟨xc0z, hc0z, ec0z⟩, ic0z⟩ := b2z.2.2.1
  obtain ⟨⟨⟨xp1z, hp1z, ep1z⟩, ip1z⟩, ⟨xc1z, hc1z, ec1z⟩, ic1z⟩ := b2z.2.2.2
  refine y_same (i := .aload_n 0) (len := 1) (r := (0, 0, 0, 0)) (pc' := 1) (ls' := [some (.inl (some 0)), some (zi x), some (zi xk), some (zi xw)]) (st' := [.inl (some 0)]) (by decide +kernel) (fun k q => by cases q) rfl ?_
  refine y_same (i := .iload_n 1) (len := 1) (r := (0, 0, 0, 0)) (pc' := 2) (ls' := [some (.inl (some 0)), some (zi x), some (zi xk), some (zi xw)]) (st' := [zi x, .inl (some 0)]) (by decide +kernel) (fun k q => by cases q) rfl ?_
  refine y_cI (i := .invokestatic 101) (len := 3) (r := (1, 156, 11, 1068)) (nL := 1) (k := 2) (n := 1) (hs := []) (args := [zi x]) (rest := [.inl (some 0)]) (l0 := [some (zi x)]) (by decide +kernel) (Or.inl ⟨_, rfl⟩) rfl rfl rfl rfl (Nat.le_of_ble_eq_true rfl) rfl rfl (qI_le (by decide) (c_isSide (d := 0))) (fun y2905 qy2905 hRy2905 => ?_)
  obtain ⟨rfl, hDy2905⟩ := hRy2905
  have ey2905 : y2905.toInt = 1 := by omega
  refine y_iF (c := .eq) (off := 25) (len := 3) (r := (0, 0, 0, 0)) (by decide +kernel) (acmpF (c := .eq) (by show ¬ (_ = _); omega)) ?_
  refine y_same (i := .aload_n 0) (len := 1) (r := (0, 0, 0, 0)) (pc' := 9) (ls' := [some (.inl (some 0)), some (zi x), some (zi xk), some (zi xw)]) (st' := [.inl (some 0), .inl (some 0)]) (by decide +kernel) (fun k q => by cases q) rfl ?_
  refine y_get (j := 29) (len := 3) (r := (11, 5, 2, 404)) (by decide +kernel) hg (tv0 hg) aw0 rfl rfl r5 ?_
  refine y_same (i := .iload_n 1) (len := 1) (r := (0, 0, 0, 0)) (pc' := 13) (ls' := [some (.inl (some 0)), some (zi x), some (zi xk), some (zi xw)]) (st' := [zi x, .inl (some 2), .inl (some 0)]) (by decide +kernel) (fun k q => by cases q) rfl ?_
  refine y_cA (i := .invokevirtual 105) (len := 3) (r := (0, 108, 9, 1071)) (nL := 2) (k := 3) (n := 2) (hs := []) (args := [.inl (some 2), zi x]) (rest := [.inl (some 0)]) (l0 := [some (.inl (some 2)), some (zi x)]) (by decide +kernel) (Or.inr (Or.inl ⟨_, rfl⟩)) rfl rfl rfl rfl (Nat.le_of_ble_eq_true rfl) (zO hg (tv2 hg) aw1000 rfl) rfl (qA_le (by decide) (c_side1 (d := 0) (u := uz) (v := vz) hg (by omega) b2z.1 b2z.2.1)) (fun q2906 hR2906 => ?_)
  obtain rfl := hR2906
  refine y_get (j := 129) (len := 3) (r := (8, 1, 2, 20188)) (by decide +kernel) hg tyz.2.1 aw1001 rfl rfl laz.2.2.1 ?_
  refine y_same (i := .iload_n 2) (len := 1) (r := (0, 0, 0, 0)) (pc' := 20) (ls' := [some (.inl (some 0)), some (zi x), some (zi xk), some (zi xw)]) (st' := [zi xk, .inl (some ((2 + vz + 3))), .inl (some 0)]) (by decide +kernel) (fun k q => by cases q) rfl ?_
  refine y_cI (i := .invokevirtual 115) (len := 3) (r := (0, 63, 6, 1075)) (nL := 2) (k := 2) (n := 2) (hs := []) (args := [.inl (some ((2 + vz + 3))), zi xk]) (rest := [.inl (some 0)]) (l0 := [some (.inl (some ((2 + vz + 3)))), some (zi xk)]) (by decide +kernel) (Or.inr (Or.inl ⟨_, rfl⟩)) rfl rfl rfl rfl (Nat.le_of_ble_eq_true rfl) (zO hg tyz.2.2.2.2.1 aw1003 rfl) rfl (qI_le (by decide) (c_has6 (d := 0) hg tyz.2.2.2.2.1 hc1z)) (fun y2907 qy2907 hRy2907 => ?_)
  obtain ⟨rfl, hDy2907⟩ := hRy2907
  have ey2907 : y2907.toInt = 1 := by omega
  refine y_iF (c := .eq) (off := 7) (len := 3) (r := (0, 0, 0, 0)) (by decide +kernel) (acmpF (c := .eq) (by show ¬ (_ = _); omega)) ?_
  refine y_ic (c := 1) (len := 1) (r := (0, 0, 0, 0)) (by decide +kernel) (by decide) (fun y2908 hy2908 => ?_)
  refine y_goto (off := 4) (pc' := 31) (len := 3) (r := (0, 0, 0, 0)) (by decide +kernel) (by decide +kernel) ?_
  refine y_cV (i := .invokevirtual 120) (len := 3) (r := (0, 152, 11, 1079)) (nL := 2) (k := 0) (n := 2) (hs := []) (args := [.inl (some 0), zi y2908]) (rest := []) (l0 := [some (.inl (some 0)), some (zi y2908)]) (by decide +kernel) (Or.inr (Or.inl ⟨_, rfl⟩)) rfl rfl rfl rfl (Nat.le_of_ble_eq_true rfl) (zO hg (tv0 hg) aw0 rfl) rfl (qV_le (by decide) (c_there (d := 0) (by omega))) (fun q2909 hR2909 => ?_)
  obtain rfl := hR2909
  refine y_same (i := .aload_n 0) (len := 1) (r := (0, 0, 0, 0)) (pc' := 35) (ls' := [some (.inl (some 0)), some (zi x), some (zi xk), some (zi xw)]) (st' := [.inl (some 0)]) (by decide +kernel) (fun k q => by cases q) rfl ?_
  refine y_same (i := .iload_n 3) (len := 1) (r := (0, 0, 0, 0)) (pc' := 36) (ls' := [some (.inl (some 0)), some (zi x), some (zi xk), some (zi xw)]) (st' := [zi xw, .inl (some 0)]) (by decide +kernel) (fun k q => by cases q) rfl ?_
  refine y_iF (c := .lt) (off := 12) (len := 3) (r := (0, 0, 0, 0)) (by decide +kernel) (acmpF (c := .lt) (by show _ ≤ _; omega)) ?_
  refine y_same (i := .iload_n 3) (len := 1) (r := (0, 0, 0, 0)) (pc' := 40) (ls' := [some (.inl (some 0)), some (zi x), some (zi xk), some (zi xw)]) (st' := [zi xw, .inl (some 0)]) (by decide +kernel) (fun k q => by cases q) rfl ?_
  refine y_ic (c := 2) (len := 1) (r := (0, 0, 0, 0)) (by decide +kernel) (by decide) (fun y2910 hy2910 => ?_)
  refine y_cF (c := .gt) (off := 7) (len := 3) (r := (0, 0, 0, 0)) (by decide +kernel) (acmpF (c := .gt) (by show _ ≤ _; omega)) ?_
  refine y_ic (c := 1) (len := 1) (r := (0, 0, 0, 0)) (by decide +kernel) (by decide) (fun y2911 hy2911 => ?_)
  refine y_goto (off := 4) (pc' := 49) (len := 3) (r := (0, 0, 0, 0)) (by decide +kernel) (by decide +kernel) ?_
  refine y_cV (i := .invokevirtual 70) (len := 3) (r := (0, 153, 11, 852)) (nL := 2) (k := 0) (n := 2) (hs := []) (args := [.inl (some 0), zi y2911]) (rest := []) (l0 := [some (.inl (some 0)), some (zi y2911)]) (by decide +kernel) (Or.inr (Or.inl ⟨_, rfl⟩)) rfl rfl rfl rfl (Nat.le_of_ble_eq_true rfl) (zO hg (tv0 hg) aw0 rfl) rfl (qV_le (by decide) (c_fit (d := 0) (by omega))) (fun q2912 hR2912 => ?_)
  obtain rfl := hR2912
  refine y_same (i := .aload_n 0) (len := 1) (r := (0, 0, 0, 0)) (pc' := 53) (ls' := [some (.inl (some 0)), some (zi x), some (zi xk), some (zi xw)]) (st' := [.inl (some 0)]) (by decide +kernel) (fun k q => by cases q) rfl ?_
  refine y_get (j := 29) (len := 3) (r := (11, 5, 2, 404)) (by decide +kernel) hg (tv0 hg) aw0 rfl rfl r5 ?_
  refine y_same (i := .iload_n 1) (len := 1) (r := (0, 0, 0, 0)) (pc' := 57) (ls' := [some (.inl (some 0)), some (zi x), some (zi xk), some (zi xw)]) (st' := [zi x, .inl (some 2)]) (by decide +kernel) (fun k q => by cases q) rfl ?_
  refine y_cA (i := .invokevirtual 105) (len := 3) (r := (0, 108, 9, 1071)) (nL := 2) (k := 3) (n := 2) (hs := []) (args := [.inl (some 2), zi x]) (rest := []) (l0 := [some (.inl (some 2)), some (zi x)]) (by decide +kernel) (Or.inr (Or.inl ⟨_, rfl⟩)) rfl rfl rfl rfl (Nat.le_of_ble_eq_true rfl) (zO hg (tv2 hg) aw1000 rfl) rfl (qA_le (by decide) (c_side1 (d := 0) (u := uz) (v := vz) hg (by omega) b2z.1 b2z.2.1)) (fun q2913 hR2913 => ?_)
  obtain rfl := hR2913
  refine y_get (j := 129) (len := 3) (r := (8, 1, 2, 20188)) (by decide +kernel) hg tyz.2.1 aw1001 rfl rfl laz.2.2.1 ?_
  refine y_same (i := .iload_n 2) (len := 1) (r := (0, 0, 0, 0)) (pc' := 64) (ls' := [some (.inl (some 0)), some (zi x), some (zi xk), some (zi xw)]) (st' := [zi xk, .inl (some ((2 + vz + 3)))]) (by decide +kernel) (fun k q => by cases q) rfl ?_
  refine y_same (i := .iload_n 3) (len := 1) (r := (0, 0, 0, 0)) (pc' := 65) (ls' := [some (.inl (some 0)), some (zi x), some (zi xk), some (zi xw)]) (st' := [zi xw, zi xk, .inl (some ((2 + vz + 3)))]) (by decide +kernel) (fun k q => by cases q) rfl ?_
  refine y_cI (i := .invokevirtual 149) (len := 3) (r := (0, 64, 6, 1131)) (nL := 3) (k := 1) (n := 3) (hs := []) (args := [.inl (some ((2 + vz + 3))), zi xk, zi xw]) (rest := []) (l0 := [some (.inl (some ((2 + vz + 3)))), some (zi xk), some (zi xw)]) (by decide +kernel) (Or.inr (Or.inl ⟨_, rfl⟩)) rfl rfl rfl rfl (Nat.le_of_ble_eq_true rfl) (zO hg tyz.2.2.2.2.1 aw1003 rfl) rfl (qI_le (by decide) (e_tell6 (d := 0) (RA := (2 + vz + 3)) (IA := (2 + vz + 4)) hg tyz.2.2.2.2.1 tyz.2.2.2.2.2 laz.2.2.2.2 b2z.2.2.2.2 exk hk ok exw (by omega))) (fun y2914 qy2914 hRy2914 => ?_)
  obtain ⟨rfl, ey2914⟩ := hRy2914
  refine y_rI (len := 1) (r := (0, 0, 0, 0)) (nL := 4) (k := 1) (n9 := 4) (hs := []) (by decide +kernel) rfl rfl ?_
  exact ⟨rfl, ey2914⟩
theorem c_claimT1 {t : Nat} {τ : List Nat} {h : zh} {cur : bsT} {hs : List bsT} {x xk xw : Int32} (hg : hG τ h) (rc : RC h cur hs) (r5 : hsl h 0 5 = some (.inl (some 2))) (hx : x.toInt = 1) (hk : ¬ (0 ≤ xk.toInt ∧ xk.toInt < (cur.2.2.length : Int))) : qT 21 141 [some (.inl (some 0)), some (zi x), some (zi xk), some (zi xw)] h t 0 (fun h1 => hG τ h1 ∧ ∀ k j, (k ≠ 0 ∨ j ≠ 3) → hsl h1 k j = hsl h k j) := by
  refine qT_of ?_
  obtain ⟨-, ⟨uz, vz, huz, l2z, b2z⟩, -⟩ := id rc
  have uuz : (uz = 1 ∧ vz = 6) ∨ (uz = 6 ∧ vz = 1) := huz
  have tyz := ty_u (tyB_of hg huz (tv2 hg) b2z.1 b2z.2.1 l2z) huz
  have laz := lay_u l2z huz
  obtain ⟨⟨⟨xp0z, hp0z, ep0z⟩, ip0z⟩, ⟨xc0z, hc0z, ec0z⟩, ic0z⟩ := b2z.2.2.1
  obtain ⟨⟨⟨xp1z, hp1z, ep1z⟩, ip1z⟩, ⟨xc1z, hc1z, ec1z⟩, ic1z⟩ := b2z.2.2.2
  refine y_same (i := .aload_n 0) (len := 1) (r := (0, 0, 0, 0)) (pc' := 1) (ls' := [some (.inl (some 0)), some (zi x), some (zi xk), some (zi xw)]) (st' := [.inl (some 0)]) (by decide +kernel) (fun k q => by cases q) rfl ?_
  refine y_same (i := .iload_n 1) (len := 1) (r := (0, 0, 0, 0)) (pc' := 2) (ls' := [some (.inl (some 0)), some (zi x), some (zi xk), some (zi xw)]) (st' := [zi x, .inl (some 0)]) (by decide +kernel) (fun k q => by cases q) rfl ?_
  refine y_cI (i := .invokestatic 101) (len := 3) (r := (1, 156, 11, 1068)) (nL := 1) (k := 2) (n := 1) (hs := []) (args := [zi x]) (rest := [.inl (some 0)]) (l0 := [some (zi x)]) (by decide +kernel) (Or.inl ⟨_, rfl⟩) rfl rfl rfl rfl (Nat.le_of_ble_eq_true rfl) rfl rfl (qI_le (by decide) (c_isSide (d := 0))) (fun y2915 qy2915 hRy2915 => ?_)
  obtain ⟨rfl, hDy2915⟩ := hRy2915
  have ey2915 : y2915.toInt = 1 := by omega
  refine y_iF (c := .eq) (off := 25) (len := 3) (r := (0, 0, 0, 0)) (by decide +kernel) (acmpF (c := .eq) (by show ¬ (_ = _); omega)) ?_
  refine y_same (i := .aload_n 0) (len := 1) (r := (0, 0, 0, 0)) (pc' := 9) (ls' := [some (.inl (some 0)), some (zi x), some (zi xk), some (zi xw)]) (st' := [.inl (some 0), .inl (some 0)]) (by decide +kernel) (fun k q => by cases q) rfl ?_
  refine y_get (j := 29) (len := 3) (r := (11, 5, 2, 404)) (by decide +kernel) hg (tv0 hg) aw0 rfl rfl r5 ?_
  refine y_same (i := .iload_n 1) (len := 1) (r := (0, 0, 0, 0)) (pc' := 13) (ls' := [some (.inl (some 0)), some (zi x), some (zi xk), some (zi xw)]) (st' := [zi x, .inl (some 2), .inl (some 0)]) (by decide +kernel) (fun k q => by cases q) rfl ?_
  refine y_cA (i := .invokevirtual 105) (len := 3) (r := (0, 108, 9, 1071)) (nL := 2) (k := 3) (n := 2) (hs := []) (args := [.inl (some 2), zi x]) (rest := [.inl (some 0)]) (l0 := [some (.inl (some 2)), some (zi x)]) (by decide +kernel) (Or.inr (Or.inl ⟨_, rfl⟩)) rfl rfl rfl rfl (Nat.le_of_ble_eq_true rfl) (zO hg (tv2 hg) aw1000 rfl) rfl (qA_le (by decide) (c_side1 (d := 0) (u := uz) (v := vz) hg (by omega) b2z.1 b2z.2.1)) (fun q2916 hR2916 => ?_)
  obtain rfl := hR2916
  refine y_get (j := 129) (len := 3) (r := (8, 1, 2, 20188)) (by decide +kernel) hg tyz.2.1 aw1001 rfl rfl laz.2.2.1 ?_
  refine y_same (i := .iload_n 2) (len := 1) (r := (0, 0, 0, 0)) (pc' := 20) (ls' := [some (.inl (some 0)), some (zi x), some (zi xk), some (zi xw)]) (st' := [zi xk, .inl (some ((2 + vz + 3))), .inl (some 0)]) (by decide +kernel) (fun k q => by cases q) rfl ?_
  refine y_cI (i := .invokevirtual 115) (len := 3) (r := (0, 63, 6, 1075)) (nL := 2) (k := 2) (n := 2) (hs := []) (args := [.inl (some ((2 + vz + 3))), zi xk]) (rest := [.inl (some 0)]) (l0 := [some (.inl (some ((2 + vz + 3)))), some (zi xk)]) (by decide +kernel) (Or.inr (Or.inl ⟨_, rfl⟩)) rfl rfl rfl rfl (Nat.le_of_ble_eq_true rfl) (zO hg tyz.2.2.2.2.1 aw1003 rfl) rfl (qI_le (by decide) (c_has6 (d := 0) hg tyz.2.2.2.2.1 hc1z)) (fun y2917 qy2917 hRy2917 => ?_)
  obtain ⟨rfl, hDy2917⟩ := hRy2917
  have ey2917 : y2917.toInt = 0 := by omega
  refine y_iT (c := .eq) (off := 7) (pc' := 30) (len := 3) (r := (0, 0, 0, 0)) (by decide +kernel) (acmpT (c := .eq) (by show _ = _; omega)) (by decide +kernel) ?_
  refine y_ic (c := 0) (len := 1) (r := (0, 0, 0, 0)) (by decide +kernel) (by decide) (fun y2918 hy2918 => ?_)
  refine y_cX (i := .invokevirtual 120) (len := 3) (r := (0, 152, 11, 1079)) (nL := 2) (k := 0) (n := 2) (hs := []) (args := [.inl (some 0), zi y2918]) (rest := []) (l0 := [some (.inl (some 0)), some (zi y2918)]) (by decide +kernel) (Or.inr (Or.inl ⟨_, rfl⟩)) rfl rfl rfl rfl (Nat.le_of_ble_eq_true rfl) (zO hg (tv0 hg) aw0 rfl) rfl rfl (mL := 4) (mk := 1) (m9 := 4) (ms := []) rfl rfl (qT_le (by decide) (c_thereT (d := 0) hg (by omega))) (fun h2919 hR2919 => ?_)
  obtain ⟨hg2919, F2919⟩ := hR2919
  exact ⟨_, rfl, hg2919, fun k j hC => (F2919 k j (by omega))⟩
theorem c_claimW1 {t : Nat} {τ : List Nat} {h : zh} {cur : bsT} {hs : List bsT} {x xk xw : Int32} (hg : hG τ h) (rc : RC h cur hs) (r5 : hsl h 0 5 = some (.inl (some 2))) (hx : x.toInt = 1) (hk : 0 ≤ xk.toInt ∧ xk.toInt < (cur.2.2.length : Int)) (hw : ¬ (0 ≤ xw.toInt ∧ xw.toInt ≤ 2)) : qT 21 141 [some (.inl (some 0)), some (zi x), some (zi xk), some (zi xw)] h t 1 (fun h1 => hG τ h1 ∧ ∀ k j, (k ≠ 0 ∨ j ≠ 4) → hsl h1 k j = hsl h k j) := by
  refine qT_of ?_
  obtain ⟨-, ⟨uz, vz, huz, l2z, b2z⟩, -⟩ := id rc
  have uuz : (uz = 1 ∧ vz = 6) ∨ (uz = 6 ∧ vz = 1) := huz
  have tyz := ty_u (tyB_of hg huz (tv2 hg) b2z.1 b2z.2.1 l2z) huz
  have laz := lay_u l2z huz
  obtain ⟨⟨⟨xp0z, hp0z, ep0z⟩, ip0z⟩, ⟨xc0z, hc0z, ec0z⟩, ic0z⟩ := b2z.2.2.1
  obtain ⟨⟨⟨xp1z, hp1z, ep1z⟩, ip1z⟩, ⟨xc1z, hc1z, ec1z⟩, ic1z⟩ := b2z.2.2.2
  refine y_same (i := .aload_n 0) (len := 1) (r := (0, 0, 0, 0)) (pc' := 1) (ls' := [some (.inl (some 0)), some (zi x), some (zi xk), some (zi xw)]) (st' := [.inl (some 0)]) (by decide +kernel) (fun k q => by cases q) rfl ?_
  refine y_same (i := .iload_n 1) (len := 1) (r := (0, 0, 0, 0)) (pc' := 2) (ls' := [some (.inl (some 0)), some (zi x), some (zi xk), some (zi xw)]) (st' := [zi x, .inl (some 0)]) (by decide +kernel) (fun k q => by cases q) rfl ?_
  refine y_cI (i := .invokestatic 101) (len := 3) (r := (1, 156, 11, 1068)) (nL := 1) (k := 2) (n := 1) (hs := []) (args := [zi x]) (rest := [.inl (some 0)]) (l0 := [some (zi x)]) (by decide +kernel) (Or.inl ⟨_, rfl⟩) rfl rfl rfl rfl (Nat.le_of_ble_eq_true rfl) rfl rfl (qI_le (by decide) (c_isSide (d := 0))) (fun y2920 qy2920 hRy2920 => ?_)
  obtain ⟨rfl, hDy2920⟩ := hRy2920
  have ey2920 : y2920.toInt = 1 := by omega
  refine y_iF (c := .eq) (off := 25) (len := 3) (r := (0, 0, 0, 0)) (by decide +kernel) (acmpF (c := .eq) (by show ¬ (_ = _); omega)) ?_
  refine y_same (i := .aload_n 0) (len := 1) (r := (0, 0, 0, 0)) (pc' := 9) (ls' := [some (.inl (some 0)), some (zi x), some (zi xk), some (zi xw)]) (st' := [.inl (some 0), .inl (some 0)]) (by decide +kernel) (fun k q => by cases q) rfl ?_
  refine y_get (j := 29) (len := 3) (r := (11, 5, 2, 404)) (by decide +kernel) hg (tv0 hg) aw0 rfl rfl r5 ?_
  refine y_same (i := .iload_n 1) (len := 1) (r := (0, 0, 0, 0)) (pc' := 13) (ls' := [some (.inl (some 0)), some (zi x), some (zi xk), some (zi xw)]) (st' := [zi x, .inl (some 2), .inl (some 0)]) (by decide +kernel) (fun k q => by cases q) rfl ?_
  refine y_cA (i := .invokevirtual 105) (len := 3) (r := (0, 108, 9, 1071)) (nL := 2) (k := 3) (n := 2) (hs := []) (args := [.inl (some 2), zi x]) (rest := [.inl (some 0)]) (l0 := [some (.inl (some 2)), some (zi x)]) (by decide +kernel) (Or.inr (Or.inl ⟨_, rfl⟩)) rfl rfl rfl rfl (Nat.le_of_ble_eq_true rfl) (zO hg (tv2 hg) aw1000 rfl) rfl (qA_le (by decide) (c_side1 (d := 0) (u := uz) (v := vz) hg (by omega) b2z.1 b2z.2.1)) (fun q2921 hR2921 => ?_)
  obtain rfl := hR2921
  refine y_get (j := 129) (len := 3) (r := (8, 1, 2, 20188)) (by decide +kernel) hg tyz.2.1 aw1001 rfl rfl laz.2.2.1 ?_
  refine y_same (i := .iload_n 2) (len := 1) (r := (0, 0, 0, 0)) (pc' := 20) (ls' := [some (.inl (some 0)), some (zi x), some (zi xk), some (zi xw)]) (st' := [zi xk, .inl (some ((2 + vz + 3))), .inl (some 0)]) (by decide +kernel) (fun k q => by cases q) rfl ?_
  refine y_cI (i := .invokevirtual 115) (len := 3) (r := (0, 63, 6, 1075)) (nL := 2) (k := 2) (n := 2) (hs := []) (args := [.inl (some ((2 + vz + 3))), zi xk]) (rest := [.inl (some 0)]) (l0 := [some (.inl (some ((2 + vz + 3)))), some (zi xk)]) (by decide +kernel) (Or.inr (Or.inl ⟨_, rfl⟩)) rfl rfl rfl rfl (Nat.le_of_ble_eq_true rfl) (zO hg tyz.2.2.2.2.1 aw1003 rfl) rfl (qI_le (by decide) (c_has6 (d := 0) hg tyz.2.2.2.2.1 hc1z)) (fun y2922 qy2922 hRy2922 => ?_)
  obtain ⟨rfl, hDy2922⟩ := hRy2922
  have ey2922 : y2922.toInt = 1 := by omega
  refine y_iF (c := .eq) (off := 7) (len := 3) (r := (0, 0, 0, 0)) (by decide +kernel) (acmpF (c := .eq) (by show ¬ (_ = _); omega)) ?_
  refine y_ic (c := 1) (len := 1) (r := (0, 0, 0, 0)) (by decide +kernel) (by decide) (fun y2923 hy2923 => ?_)
  refine y_goto (off := 4) (pc' := 31) (len := 3) (r := (0, 0, 0, 0)) (by decide +kernel) (by decide +kernel) ?_
  refine y_cV (i := .invokevirtual 120) (len := 3) (r := (0, 152, 11, 1079)) (nL := 2) (k := 0) (n := 2) (hs := []) (args := [.inl (some 0), zi y2923]) (rest := []) (l0 := [some (.inl (some 0)), some (zi y2923)]) (by decide +kernel) (Or.inr (Or.inl ⟨_, rfl⟩)) rfl rfl rfl rfl (Nat.le_of_ble_eq_true rfl) (zO hg (tv0 hg) aw0 rfl) rfl (qV_le (by decide) (c_there (d := 0) (by omega))) (fun q2924 hR2924 => ?_)
  obtain rfl := hR2924
  refine y_same (i := .aload_n 0) (len := 1) (r := (0, 0, 0, 0)) (pc' := 35) (ls' := [some (.inl (some 0)), some (zi x), some (zi xk), some (zi xw)]) (st' := [.inl (some 0)]) (by decide +kernel) (fun k q => by cases q) rfl ?_
  refine y_same (i := .iload_n 3) (len := 1) (r := (0, 0, 0, 0)) (pc' := 36) (ls' := [some (.inl (some 0)), some (zi x), some (zi xk), some (zi xw)]) (st' := [zi xw, .inl (some 0)]) (by decide +kernel) (fun k q => by cases q) rfl ?_
  rcases Decidable.em (xw.toInt < 0) with q2925 | q2925
  ·
    refine y_iT (c := .lt) (off := 12) (pc' := 48) (len := 3) (r := (0, 0, 0, 0)) (by decide +kernel) (acmpT (c := .lt) (by show _ < _; omega)) (by decide +kernel) ?_
    refine y_ic (c := 0) (len := 1) (r := (0, 0, 0, 0)) (by decide +kernel) (by decide) (fun y2926 hy2926 => ?_)
    refine y_cX (i := .invokevirtual 70) (len := 3) (r := (0, 153, 11, 852)) (nL := 2) (k := 0) (n := 2) (hs := []) (args := [.inl (some 0), zi y2926]) (rest := []) (l0 := [some (.inl (some 0)), some (zi y2926)]) (by decide +kernel) (Or.inr (Or.inl ⟨_, rfl⟩)) rfl rfl rfl rfl (Nat.le_of_ble_eq_true rfl) (zO hg (tv0 hg) aw0 rfl) rfl rfl (mL := 4) (mk := 1) (m9 := 4) (ms := []) rfl rfl (qT_le (by decide) (c_fitT (d := 0) hg (by omega))) (fun h2927 hR2927 => ?_)
    obtain ⟨hg2927, F2927⟩ := hR2927
    exact ⟨_, rfl, hg2927, fun k j hC => (F2927 k j (by omega))⟩
  ·
    refine y_iF (c := .lt) (off := 12) (len := 3) (r := (0, 0, 0, 0)) (by decide +kernel) (acmpF (c := .lt) (by show _ ≤ _; omega)) ?_
    refine y_same (i := .iload_n 3) (len := 1) (r := (0, 0, 0, 0)) (pc' := 40) (ls' := [some (.inl (some 0)), some (zi x), some (zi xk), some (zi xw)]) (st' := [zi xw, .inl (some 0)]) (by decide +kernel) (fun k q => by cases q) rfl ?_
    refine y_ic (c := 2) (len := 1) (r := (0, 0, 0, 0)) (by decide +kernel) (by decide) (fun y2928 hy2928 => ?_)
    rcases Decidable.em (xw.toInt > y2928.toInt) with q2929 | q2929
    ·
      refine y_cT (c := .gt) (off := 7) (pc' := 48) (len := 3) (r := (0, 0, 0, 0)) (by decide +kernel) (acmpT (c := .gt) (by show _ < _; omega)) (by decide +kernel) ?_
      refine y_ic (c := 0) (len := 1) (r := (0, 0, 0, 0)) (by decide +kernel) (by decide) (fun y2930 hy2930 => ?_)
      refine y_cX (i := .invokevirtual 70) (len := 3) (r := (0, 153, 11, 852)) (nL := 2) (k := 0) (n := 2) (hs := []) (args := [.inl (some 0), zi y2930]) (rest := []) (l0 := [some (.inl (some 0)), some (zi y2930)]) (by decide +kernel) (Or.inr (Or.inl ⟨_, rfl⟩)) rfl rfl rfl rfl (Nat.le_of_ble_eq_true rfl) (zO hg (tv0 hg) aw0 rfl) rfl rfl (mL := 4) (mk := 1) (m9 := 4) (ms := []) rfl rfl (qT_le (by decide) (c_fitT (d := 0) hg (by omega))) (fun h2931 hR2931 => ?_)
      obtain ⟨hg2931, F2931⟩ := hR2931
      exact ⟨_, rfl, hg2931, fun k j hC => (F2931 k j (by omega))⟩
    ·
      refine y_cF (c := .gt) (off := 7) (len := 3) (r := (0, 0, 0, 0)) (by decide +kernel) (acmpF (c := .gt) (by show _ ≤ _; omega)) ?_
      refine y_ic (c := 1) (len := 1) (r := (0, 0, 0, 0)) (by decide +kernel) (by decide) (fun y2932 hy2932 => ?_)
      refine y_goto (off := 4) (pc' := 49) (len := 3) (r := (0, 0, 0, 0)) (by decide +kernel) (by decide +kernel) ?_
      exfalso
      omega
theorem c_claimT {t : Nat} {τ : List Nat} {h : zh} {x xk xw : Int32} (hg : hG τ h) (hx : ¬ (x.toInt = 0 ∨ x.toInt = 1)) : qT 21 141 [some (.inl (some 0)), some (zi x), some (zi xk), some (zi xw)] h t 0 (fun h1 => hG τ h1 ∧ ∀ k j, (k ≠ 0 ∨ j ≠ 3) → hsl h1 k j = hsl h k j) := by
  refine qT_of ?_
  refine y_same (i := .aload_n 0) (len := 1) (r := (0, 0, 0, 0)) (pc' := 1) (ls' := [some (.inl (some 0)), some (zi x), some (zi xk), some (zi xw)]) (st' := [.inl (some 0)]) (by decide +kernel) (fun k q => by cases q) rfl ?_
  refine y_same (i := .iload_n 1) (len := 1) (r := (0, 0, 0, 0)) (pc' := 2) (ls' := [some (.inl (some 0)), some (zi x), some (zi xk), some (zi xw)]) (st' := [zi x, .inl (some 0)]) (by decide +kernel) (fun k q => by cases q) rfl ?_
  refine y_cI (i := .invokestatic 101) (len := 3) (r := (1, 156, 11, 1068)) (nL := 1) (k := 2) (n := 1) (hs := []) (args := [zi x]) (rest := [.inl (some 0)]) (l0 := [some (zi x)]) (by decide +kernel) (Or.inl ⟨_, rfl⟩) rfl rfl rfl rfl (Nat.le_of_ble_eq_true rfl) rfl rfl (qI_le (by decide) (c_isSide (d := 0))) (fun y2933 qy2933 hRy2933 => ?_)
  obtain ⟨rfl, hDy2933⟩ := hRy2933
  have ey2933 : y2933.toInt = 0 := by omega
  refine y_iT (c := .eq) (off := 25) (pc' := 30) (len := 3) (r := (0, 0, 0, 0)) (by decide +kernel) (acmpT (c := .eq) (by show _ = _; omega)) (by decide +kernel) ?_
  refine y_ic (c := 0) (len := 1) (r := (0, 0, 0, 0)) (by decide +kernel) (by decide) (fun y2934 hy2934 => ?_)
  refine y_cX (i := .invokevirtual 120) (len := 3) (r := (0, 152, 11, 1079)) (nL := 2) (k := 0) (n := 2) (hs := []) (args := [.inl (some 0), zi y2934]) (rest := []) (l0 := [some (.inl (some 0)), some (zi y2934)]) (by decide +kernel) (Or.inr (Or.inl ⟨_, rfl⟩)) rfl rfl rfl rfl (Nat.le_of_ble_eq_true rfl) (zO hg (tv0 hg) aw0 rfl) rfl rfl (mL := 4) (mk := 1) (m9 := 4) (ms := []) rfl rfl (qT_le (by decide) (c_thereT (d := 0) hg (by omega))) (fun h2935 hR2935 => ?_)
  obtain ⟨hg2935, F2935⟩ := hR2935
  exact ⟨_, rfl, hg2935, fun k j hC => (F2935 k j (by omega))⟩
theorem c_claimX {t : Nat} {τ : List Nat} {h : zh} {cur : bsT} {hs : List bsT} {x xk xw : Int32} (hg : hG τ h) (rc : RC h cur hs) (r5 : hsl h 0 5 = some (.inl (some 2))) (hb : ¬ ((x.toInt = 0 ∧ 0 ≤ xk.toInt ∧ xk.toInt < (cur.1.2.length : Int)) ∨ (x.toInt = 1 ∧ 0 ≤ xk.toInt ∧ xk.toInt < (cur.2.2.length : Int)))) : qT 21 141 [some (.inl (some 0)), some (zi x), some (zi xk), some (zi xw)] h t 0 (fun h1 => hG τ h1 ∧ ∀ k j, (k ≠ 0 ∨ j ≠ 3) → hsl h1 k j = hsl h k j) := by
  rcases Decidable.em (x.toInt = 0) with q | q
  · exact c_claimT0 hg rc r5 q (by omega)
  · rcases Decidable.em (x.toInt = 1) with q1 | q1
    · exact c_claimT1 hg rc r5 q1 (by omega)
    · exact c_claimT hg (by omega)
theorem c_claimW {t : Nat} {τ : List Nat} {h : zh} {cur : bsT} {hs : List bsT} {x xk xw : Int32} (hg : hG τ h) (rc : RC h cur hs) (r5 : hsl h 0 5 = some (.inl (some 2))) (hb : ((x.toInt = 0 ∧ 0 ≤ xk.toInt ∧ xk.toInt < (cur.1.2.length : Int)) ∨ (x.toInt = 1 ∧ 0 ≤ xk.toInt ∧ xk.toInt < (cur.2.2.length : Int)))) (hw : ¬ (0 ≤ xw.toInt ∧ xw.toInt ≤ 2)) : qT 21 141 [some (.inl (some 0)), some (zi x), some (zi xk), some (zi xw)] h t 1 (fun h1 => hG τ h1 ∧ ∀ k j, (k ≠ 0 ∨ j ≠ 4) → hsl h1 k j = hsl h k j) := by
  rcases hb with q | q
  · exact c_claimW0 hg rc r5 q.1 q.2 hw
  · exact c_claimW1 hg rc r5 q.1 q.2 hw
theorem c_lclaimX {t : Nat} {τ : List Nat} {h : zh} {cur : bsT} {hs : List bsT} {x xk xw : Int32} (hg : hG τ h) (rc : RC h cur hs) (r5 : hsl h 0 5 = some (.inl (some 2))) (hb : ¬ ((x.toInt = 0 ∧ 0 ≤ xk.toInt ∧ xk.toInt < (cur.1.2.length : Int)) ∨ (x.toInt = 1 ∧ 0 ≤ xk.toInt ∧ xk.toInt < (cur.2.2.length : Int)))) : ∃ (y : Int32) (h1 : zh), qE 60 281 [some (.inl (some 0)), some (zi x), some (zi xk), some (zi xw), some (.inl (some 388)), none] h t (.inl (some (zi y)), h1, t + 1) ∧ y.toInt = 1 ∧ hG τ h1 ∧ ∀ k j, (k ≠ 0 ∨ j ≠ 3) → hsl h1 k j = hsl h k j := by
  have key : qX 31 281 0 [some (.inl (some 0)), some (zi x), some (zi xk), some (zi xw), some (.inl (some 388)), none] [] h t (rI (fun y h1 => y.toInt = 1 ∧ hG τ h1 ∧ ∀ k j, (k ≠ 0 ∨ j ≠ 3) → hsl h1 k j = hsl h k j) (t + 1)) := by
    refine y_same (i := .aload 4) (len := 2) (r := (0, 0, 0, 0)) (pc' := 2) (ls' := [some (.inl (some 0)), some (zi x), some (zi xk), some (zi xw), some (.inl (some 388)), none]) (st' := [.inl (some 388)]) (by decide +kernel) (fun k q => by cases q) rfl ?_
    refine y_ic (c := 0) (len := 1) (r := (0, 0, 0, 0)) (by decide +kernel) (by decide) (fun y2936 hy2936 => ?_)
    refine y_same (i := .aload_n 0) (len := 1) (r := (0, 0, 0, 0)) (pc' := 4) (ls' := [some (.inl (some 0)), some (zi x), some (zi xk), some (zi xw), some (.inl (some 388)), none]) (st' := [.inl (some 0), zi y2936, .inl (some 388)]) (by decide +kernel) (fun k q => by cases q) rfl ?_
    refine y_same (i := .iload_n 1) (len := 1) (r := (0, 0, 0, 0)) (pc' := 5) (ls' := [some (.inl (some 0)), some (zi x), some (zi xk), some (zi xw), some (.inl (some 388)), none]) (st' := [zi x, .inl (some 0), zi y2936, .inl (some 388)]) (by decide +kernel) (fun k q => by cases q) rfl ?_
    refine y_same (i := .iload_n 2) (len := 1) (r := (0, 0, 0, 0)) (pc' := 6) (ls' := [some (.inl (some 0)), some (zi x), some (zi xk), some (zi xw), some (.inl (some 388)), none]) (st' := [zi xk, zi x, .inl (some 0), zi y2936, .inl (some 388)]) (by decide +kernel) (fun k q => by cases q) rfl ?_
    refine y_same (i := .iload_n 3) (len := 1) (r := (0, 0, 0, 0)) (pc' := 7) (ls' := [some (.inl (some 0)), some (zi x), some (zi xk), some (zi xw), some (.inl (some 388)), none]) (st' := [zi xw, zi xk, zi x, .inl (some 0), zi y2936, .inl (some 388)]) (by decide +kernel) (fun k q => by cases q) rfl ?_
    refine y_cC (i := .invokevirtual 31) (len := 3) (r := (0, 141, 11, 1135)) (nL := 4) (k := 1) (n := 4) (hs := []) (args := [.inl (some 0), zi x, zi xk, zi xw]) (rest := [zi y2936, .inl (some 388)]) (l0 := [some (.inl (some 0)), some (zi x), some (zi xk), some (zi xw)]) (by decide +kernel) (Or.inr (Or.inl ⟨_, rfl⟩)) rfl rfl rfl rfl (Nat.le_of_ble_eq_true rfl) (zO hg (tv0 hg) aw0 rfl) rfl rfl (mL := 6) (mk := 1) (m9 := 5) (ms := [(0, 12, 15, 0), (0, 12, 19, 1)]) rfl rfl (qT_le (by decide) (c_claimX hg rc r5 hb)) (fun h2937 hR2937 => ?_)
    obtain ⟨hg2937, F2937⟩ := hR2937
    refine y_same (i := .astore 5) (len := 2) (r := (0, 0, 0, 0)) (pc' := 17) (ls' := [some (.inl (some 0)), some (zi x), some (zi xk), some (zi xw), some (.inl (some 388)), some (.inl (some 1000001))]) (st' := []) (by decide +kernel) (fun k q => by cases q) rfl ?_
    refine y_ic (c := 1) (len := 1) (r := (0, 0, 0, 0)) (by decide +kernel) (by decide) (fun y2938 hy2938 => ?_)
    refine y_rI (len := 1) (r := (0, 0, 0, 0)) (nL := 6) (k := 1) (n9 := 5) (hs := [(0, 12, 15, 0), (0, 12, 19, 1)]) (by decide +kernel) rfl rfl ?_
    exact ⟨by omega, hg2937, fun k j hC => (F2937 k j (by omega))⟩
  obtain ⟨x, k, y, h1, rfl, hR⟩ := key
  exact ⟨y, h1, qE_le (by decide) (qE_of k), hR⟩
theorem c_lclaimW {t : Nat} {τ : List Nat} {h : zh} {cur : bsT} {hs : List bsT} {x xk xw : Int32} (hg : hG τ h) (rc : RC h cur hs) (r5 : hsl h 0 5 = some (.inl (some 2))) (hb : ((x.toInt = 0 ∧ 0 ≤ xk.toInt ∧ xk.toInt < (cur.1.2.length : Int)) ∨ (x.toInt = 1 ∧ 0 ≤ xk.toInt ∧ xk.toInt < (cur.2.2.length : Int)))) (hw : ¬ (0 ≤ xw.toInt ∧ xw.toInt ≤ 2)) : ∃ (y : Int32) (h1 : zh), qE 60 281 [some (.inl (some 0)), some (zi x), some (zi xk), some (zi xw), some (.inl (some 388)), none] h t (.inl (some (zi y)), h1, t + 1) ∧ y.toInt = 2 ∧ hG τ h1 ∧ ∀ k j, (k ≠ 0 ∨ j ≠ 4) → hsl h1 k j = hsl h k j := by
  have key : qX 31 281 0 [some (.inl (some 0)), some (zi x), some (zi xk), some (zi xw), some (.inl (some 388)), none] [] h t (rI (fun y h1 => y.toInt = 2 ∧ hG τ h1 ∧ ∀ k j, (k ≠ 0 ∨ j ≠ 4) → hsl h1 k j = hsl h k j) (t + 1)) := by
    refine y_same (i := .aload 4) (len := 2) (r := (0, 0, 0, 0)) (pc' := 2) (ls' := [some (.inl (some 0)), some (zi x), some (zi xk), some (zi xw), some (.inl (some 388)), none]) (st' := [.inl (some 388)]) (by decide +kernel) (fun k q => by cases q) rfl ?_
    refine y_ic (c := 0) (len := 1) (r := (0, 0, 0, 0)) (by decide +kernel) (by decide) (fun y2939 hy2939 => ?_)
    refine y_same (i := .aload_n 0) (len := 1) (r := (0, 0, 0, 0)) (pc' := 4) (ls' := [some (.inl (some 0)), some (zi x), some (zi xk), some (zi xw), some (.inl (some 388)), none]) (st' := [.inl (some 0), zi y2939, .inl (some 388)]) (by decide +kernel) (fun k q => by cases q) rfl ?_
    refine y_same (i := .iload_n 1) (len := 1) (r := (0, 0, 0, 0)) (pc' := 5) (ls' := [some (.inl (some 0)), some (zi x), some (zi xk), some (zi xw), some (.inl (some 388)), none]) (st' := [zi x, .inl (some 0), zi y2939, .inl (some 388)]) (by decide +kernel) (fun k q => by cases q) rfl ?_
    refine y_same (i := .iload_n 2) (len := 1) (r := (0, 0, 0, 0)) (pc' := 6) (ls' := [some (.inl (some 0)), some (zi x), some (zi xk), some (zi xw), some (.inl (some 388)), none]) (st' := [zi xk, zi x, .inl (some 0), zi y2939, .inl (some 388)]) (by decide +kernel) (fun k q => by cases q) rfl ?_
    refine y_same (i := .iload_n 3) (len := 1) (r := (0, 0, 0, 0)) (pc' := 7) (ls' := [some (.inl (some 0)), some (zi x), some (zi xk), some (zi xw), some (.inl (some 388)), none]) (st' := [zi xw, zi xk, zi x, .inl (some 0), zi y2939, .inl (some 388)]) (by decide +kernel) (fun k q => by cases q) rfl ?_
    refine y_cC (i := .invokevirtual 31) (len := 3) (r := (0, 141, 11, 1135)) (nL := 4) (k := 1) (n := 4) (hs := []) (args := [.inl (some 0), zi x, zi xk, zi xw]) (rest := [zi y2939, .inl (some 388)]) (l0 := [some (.inl (some 0)), some (zi x), some (zi xk), some (zi xw)]) (by decide +kernel) (Or.inr (Or.inl ⟨_, rfl⟩)) rfl rfl rfl rfl (Nat.le_of_ble_eq_true rfl) (zO hg (tv0 hg) aw0 rfl) rfl rfl (mL := 6) (mk := 1) (m9 := 5) (ms := [(0, 12, 15, 0), (0, 12, 19, 1)]) rfl rfl (qT_le (by decide) (c_claimW hg rc r5 hb hw)) (fun h2940 hR2940 => ?_)
    obtain ⟨hg2940, F2940⟩ := hR2940
    refine y_same (i := .astore 5) (len := 2) (r := (0, 0, 0, 0)) (pc' := 21) (ls' := [some (.inl (some 0)), some (zi x), some (zi xk), some (zi xw), some (.inl (some 388)), some (.inl (some 1000001))]) (st' := []) (by decide +kernel) (fun k q => by cases q) rfl ?_
    refine y_ic (c := 2) (len := 1) (r := (0, 0, 0, 0)) (by decide +kernel) (by decide) (fun y2941 hy2941 => ?_)
    refine y_rI (len := 1) (r := (0, 0, 0, 0)) (nL := 6) (k := 1) (n9 := 5) (hs := [(0, 12, 15, 0), (0, 12, 19, 1)]) (by decide +kernel) rfl rfl ?_
    exact ⟨by omega, hg2940, fun k j hC => (F2940 k j (by omega))⟩
  obtain ⟨x, k, y, h1, rfl, hR⟩ := key
  exact ⟨y, h1, qE_le (by decide) (qE_of k), hR⟩
theorem c_lclaim {t : Nat} {v : Int} {τ : List Nat} {h : zh} {x xk xw : Int32} (hg : hG τ h) (hin : qI 21 141 [some (.inl (some 0)), some (zi x), some (zi xk), some (zi xw)] h t (fun y h1 => h = h1 ∧ y.toInt = v)) : qI 60 281 [some (.inl (some 0)), some (zi x), some (zi xk), some (zi xw), some (.inl (some 388)), none] h t (fun y h1 => hG τ h1 ∧ y.toInt = 0 ∧ (∀ k j, k ≠ 388 → hsl h1 k j = hsl h k j) ∧ ∃ z : Int32, ou_ h1 z ∧ z.toInt = v) := by
  refine qI_le (d := 32) (by decide) (qI_of ?_)
  refine y_same (i := .aload 4) (len := 2) (r := (0, 0, 0, 0)) (pc' := 2) (ls' := [some (.inl (some 0)), some (zi x), some (zi xk), some (zi xw), some (.inl (some 388)), none]) (st' := [.inl (some 388)]) (by decide +kernel) (fun k q => by cases q) rfl ?_
  refine y_ic (c := 0) (len := 1) (r := (0, 0, 0, 0)) (by decide +kernel) (by decide) (fun y2942 hy2942 => ?_)
  refine y_same (i := .aload_n 0) (len := 1) (r := (0, 0, 0, 0)) (pc' := 4) (ls' := [some (.inl (some 0)), some (zi x), some (zi xk), some (zi xw), some (.inl (some 388)), none]) (st' := [.inl (some 0), zi y2942, .inl (some 388)]) (by decide +kernel) (fun k q => by cases q) rfl ?_
  refine y_same (i := .iload_n 1) (len := 1) (r := (0, 0, 0, 0)) (pc' := 5) (ls' := [some (.inl (some 0)), some (zi x), some (zi xk), some (zi xw), some (.inl (some 388)), none]) (st' := [zi x, .inl (some 0), zi y2942, .inl (some 388)]) (by decide +kernel) (fun k q => by cases q) rfl ?_
  refine y_same (i := .iload_n 2) (len := 1) (r := (0, 0, 0, 0)) (pc' := 6) (ls' := [some (.inl (some 0)), some (zi x), some (zi xk), some (zi xw), some (.inl (some 388)), none]) (st' := [zi xk, zi x, .inl (some 0), zi y2942, .inl (some 388)]) (by decide +kernel) (fun k q => by cases q) rfl ?_
  refine y_same (i := .iload_n 3) (len := 1) (r := (0, 0, 0, 0)) (pc' := 7) (ls' := [some (.inl (some 0)), some (zi x), some (zi xk), some (zi xw), some (.inl (some 388)), none]) (st' := [zi xw, zi xk, zi x, .inl (some 0), zi y2942, .inl (some 388)]) (by decide +kernel) (fun k q => by cases q) rfl ?_
  refine y_cI (i := .invokevirtual 31) (len := 3) (r := (0, 141, 11, 1135)) (nL := 4) (k := 1) (n := 4) (hs := []) (args := [.inl (some 0), zi x, zi xk, zi xw]) (rest := [zi y2942, .inl (some 388)]) (l0 := [some (.inl (some 0)), some (zi x), some (zi xk), some (zi xw)]) (by decide +kernel) (Or.inr (Or.inl ⟨_, rfl⟩)) rfl rfl rfl rfl (Nat.le_of_ble_eq_true rfl) (zO hg (tv0 hg) aw0 rfl) rfl (qI_le (by decide) hin) (fun y2943 q2943 hRy2943 => ?_)
  obtain ⟨rfl, ey⟩ := hRy2943
  refine y_i2l2 (len := 1) (r := (0, 0, 0, 0)) (by decide +kernel) ?_
  refine y_las2 (i := 0) (len := 1) (r := (0, 0, 0, 0)) (by decide +kernel) hg (t388 hg) aw388 rfl (by omega) (by omega) rfl (fun h2944 hg2944 hw2944 ho2944 => ?_)
  refine y_goto (off := 11) (pc' := 23) (len := 3) (r := (0, 0, 0, 0)) (by decide +kernel) (by decide +kernel) ?_
  refine y_ic (c := 0) (len := 1) (r := (0, 0, 0, 0)) (by decide +kernel) (by decide) (fun y2945 hy2945 => ?_)
  refine y_rI (len := 1) (r := (0, 0, 0, 0)) (nL := 6) (k := 1) (n9 := 5) (hs := [(0, 12, 15, 0), (0, 12, 19, 1)]) (by decide +kernel) rfl rfl ?_
  exact ⟨hg2944, by omega, fun k j hC => (ho2944 k j (by omega)), _, hw2944, ey⟩
theorem m_claim0 {t k w : Nat} {τ : List Nat} {h : zh} {cur : bsT} {hs : List bsT} {x xk xw : Int32} {i : it4} (hg : hG τ h) (rm : RM h cur hs) (hx : x.toInt = 0) (exk : xk.toInt = (k : Int)) (hk : cur.1.2[k]? = some i) (exw : xw.toInt = (w : Int)) (hw : w ≤ 2) : qI 60 196 [some (.inl (some 52)), some (zi x), some (zi xk), some (zi xw)] h t (fun y h1 => ∃ τ1, hG τ1 h1 ∧ RM h1 cur hs ∧ frM h h1 ∧ y.toInt = cmp_ i w ∧ ∃ z : Int32, hsl h1 52 0 = some (zi z) ∧ z.toInt = 0) := by
  have hk9 := (List.getElem?_eq_some_iff.mp hk).1
  refine qI_le (d := 21) (by decide) (qI_of ?_)
  have lz := len55 hg rm.1
  obtain ⟨⟨xp0z, hp0z, ep0z⟩, ⟨xc0z, hc0z, ec0z⟩, ip0z, ic0z⟩ := rm.1.1
  obtain ⟨⟨xp1z, hp1z, ep1z⟩, ⟨xc1z, hc1z, ec1z⟩, ip1z, ic1z⟩ := rm.1.2
  obtain ⟨vq, hq, evq⟩ := qd_at (w := w) (ic0z k i hk) (by omega)
  have hq : hsl h 55 ((22 + 4 * k) + w) = some (zi vq) := hq
  refine y_same (i := .aload_n 0) (len := 1) (r := (0, 0, 0, 0)) (pc' := 1) (ls' := [some (.inl (some 52)), some (zi x), some (zi xk), some (zi xw)]) (st' := [.inl (some 52)]) (by decide +kernel) (fun k q => by cases q) rfl ?_
  refine y_ic (c := 0) (len := 1) (r := (0, 0, 0, 0)) (by decide +kernel) (by decide) (fun y2946 hy2946 => ?_)
  refine y_put (j := 92) (lo := (-2147483648)) (hi := 2147483647) (len := 3) (r := (12, 0, 0, 1328)) (by decide +kernel) hg (t52 hg) at52 rfl rfl (by decide) rfl (qin_full _).1 (qin_full _).2 rfl (fun h2947 hg2947 hl2947 hs2947 ho2947 => ?_)
  have ho2947 : hO 52 0 h h2947 := ho2947
  have hs2947 : hsl h2947 52 0 = some (zi y2946) := hs2947
  refine y_same (i := .aload_n 0) (len := 1) (r := (0, 0, 0, 0)) (pc' := 6) (ls' := [some (.inl (some 52)), some (zi x), some (zi xk), some (zi xw)]) (st' := [.inl (some 52)]) (by decide +kernel) (fun k q => by cases q) rfl ?_
  refine y_same (i := .iload_n 1) (len := 1) (r := (0, 0, 0, 0)) (pc' := 7) (ls' := [some (.inl (some 52)), some (zi x), some (zi xk), some (zi xw)]) (st' := [zi x, .inl (some 52)]) (by decide +kernel) (fun k q => by cases q) rfl ?_
  refine y_ic (c := 0) (len := 1) (r := (0, 0, 0, 0)) (by decide +kernel) (by decide) (fun y2948 hy2948 => ?_)
  refine y_ic (c := 1) (len := 1) (r := (0, 0, 0, 0)) (by decide +kernel) (by decide) (fun y2949 hy2949 => ?_)
  refine y_cI (i := .invokestatic 200) (len := 3) (r := (1, 162, 12, 1486)) (nL := 3) (k := 2) (n := 3) (hs := []) (args := [zi x, zi y2948, zi y2949]) (rest := [.inl (some 52)]) (l0 := [some (zi x), some (zi y2948), some (zi y2949)]) (by decide +kernel) (Or.inl ⟨_, rfl⟩) rfl rfl rfl rfl (Nat.le_of_ble_eq_true rfl) rfl rfl (qI_le (by decide) (m_in (d := 0) (by omega) (by omega))) (fun y2950 qy2950 hRy2950 => ?_)
  obtain ⟨rfl, hy2950⟩ := hRy2950
  refine y_iF (c := .eq) (off := 29) (len := 3) (r := (0, 0, 0, 0)) (by decide +kernel) (acmpF (c := .eq) (by show ¬ (_ = _); omega)) ?_
  refine y_same (i := .iload_n 2) (len := 1) (r := (0, 0, 0, 0)) (pc' := 16) (ls' := [some (.inl (some 52)), some (zi x), some (zi xk), some (zi xw)]) (st' := [zi xk, .inl (some 52)]) (by decide +kernel) (fun k q => by cases q) rfl ?_
  refine y_ic (c := 0) (len := 1) (r := (0, 0, 0, 0)) (by decide +kernel) (by decide) (fun y2951 hy2951 => ?_)
  refine y_same (i := .aload_n 0) (len := 1) (r := (0, 0, 0, 0)) (pc' := 18) (ls' := [some (.inl (some 52)), some (zi x), some (zi xk), some (zi xw)]) (st' := [.inl (some 52), zi y2951, zi xk, .inl (some 52)]) (by decide +kernel) (fun k q => by cases q) rfl ?_
  refine y_get (j := 20) (len := 3) (r := (12, 9, 2, 1337)) (by decide +kernel) hg2947 (t52 hg2947) at52 rfl rfl (g_r52 (f := 9) (T2 := 55) hg2947 rfl (by decide)).1 ?_
  refine y_ic (c := 1) (len := 1) (r := (0, 0, 0, 0)) (by decide +kernel) (by decide) (fun y2952 hy2952 => ?_)
  refine y_ic (c := 0) (len := 1) (r := (0, 0, 0, 0)) (by decide +kernel) (by decide) (fun y2953 hy2953 => ?_)
  refine y_same (i := .iload_n 1) (len := 1) (r := (0, 0, 0, 0)) (pc' := 24) (ls' := [some (.inl (some 52)), some (zi x), some (zi xk), some (zi xw)]) (st' := [zi x, zi y2953, zi y2952, .inl (some 55), zi y2951, zi xk, .inl (some 52)]) (by decide +kernel) (fun k q => by cases q) rfl ?_
  refine y_cI (i := .invokestatic 230) (len := 3) (r := (1, 164, 12, 1591)) (nL := 2) (k := 1) (n := 2) (hs := []) (args := [zi y2953, zi x]) (rest := [zi y2952, .inl (some 55), zi y2951, zi xk, .inl (some 52)]) (l0 := [some (zi y2953), some (zi x)]) (by decide +kernel) (Or.inl ⟨_, rfl⟩) rfl rfl rfl rfl (Nat.le_of_ble_eq_true rfl) rfl rfl (qI_le (by decide) (e_more (d := 0))) (fun y2954 qy2954 hRy2954 => ?_)
  obtain ⟨rfl, my2954, ny2954⟩ := hRy2954
  have ey2954 : y2954.toInt = 0 := by omega
  refine y_cI (i := .invokestatic 233) (len := 3) (r := (1, 163, 12, 1594)) (nL := 2) (k := 1) (n := 2) (hs := []) (args := [zi y2952, zi y2954]) (rest := [.inl (some 55), zi y2951, zi xk, .inl (some 52)]) (l0 := [some (zi y2952), some (zi y2954)]) (by decide +kernel) (Or.inl ⟨_, rfl⟩) rfl rfl rfl rfl (Nat.le_of_ble_eq_true rfl) rfl rfl (qI_le (by decide) (e_less (d := 0))) (fun y2955 qy2955 hRy2955 => ?_)
  obtain ⟨rfl, my2955, ny2955⟩ := hRy2955
  have ey2955 : y2955.toInt = 0 := by omega
  have hv2957 := (ho2947 55 1 (Or.inl (by omega))).trans hc0z
  refine y_cI (i := .invokestatic 155) (len := 3) (r := (1, 167, 12, 1560)) (nL := 2) (k := 1) (n := 2) (hs := []) (args := [.inl (some 55), zi y2955]) (rest := [zi y2951, zi xk, .inl (some 52)]) (l0 := [some (.inl (some 55)), some (zi y2955)]) (by decide +kernel) (Or.inl ⟨_, rfl⟩) rfl rfl rfl rfl (Nat.le_of_ble_eq_true rfl) rfl rfl (qI_le (by decide) (m_claims (d := 0) (s := 0) hg2947 (by omega) (by omega) hv2957)) (fun y2956 qy2956 hRy2956 => ?_)
  obtain ⟨rfl, rfl⟩ := hRy2956
  refine y_ic (c := 1) (len := 1) (r := (0, 0, 0, 0)) (by decide +kernel) (by decide) (fun y2958 hy2958 => ?_)
  refine y_sub (len := 1) (r := (0, 0, 0, 0)) (by decide +kernel) (by omega) (by omega) (fun y2959 hy2959 => ?_)
  refine y_cI (i := .invokestatic 200) (len := 3) (r := (1, 162, 12, 1486)) (nL := 3) (k := 2) (n := 3) (hs := []) (args := [zi xk, zi y2951, zi y2959]) (rest := [.inl (some 52)]) (l0 := [some (zi xk), some (zi y2951), some (zi y2959)]) (by decide +kernel) (Or.inl ⟨_, rfl⟩) rfl rfl rfl rfl (Nat.le_of_ble_eq_true rfl) rfl rfl (qI_le (by decide) (m_in (d := 0) (by omega) (by omega))) (fun y2960 qy2960 hRy2960 => ?_)
  obtain ⟨rfl, hy2960⟩ := hRy2960
  refine y_iT (c := .ne) (off := 7) (pc' := 45) (len := 3) (r := (0, 0, 0, 0)) (by decide +kernel) (acmpT (c := .ne) (by show ¬ (_ = _); omega)) (by decide +kernel) ?_
  refine y_ic (c := 0) (len := 1) (r := (0, 0, 0, 0)) (by decide +kernel) (by decide) (fun y2961 hy2961 => ?_)
  refine y_ic (c := 1) (len := 1) (r := (0, 0, 0, 0)) (by decide +kernel) (by decide) (fun y2962 hy2962 => ?_)
  refine y_ic (c := 0) (len := 1) (r := (0, 0, 0, 0)) (by decide +kernel) (by decide) (fun y2963 hy2963 => ?_)
  refine y_cI (i := .invokevirtual 204) (len := 3) (r := (0, 161, 12, 1489)) (nL := 4) (k := 2) (n := 4) (hs := []) (args := [.inl (some 52), zi y2961, zi y2962, zi y2963]) (rest := []) (l0 := [some (.inl (some 52)), some (zi y2961), some (zi y2962), some (zi y2963)]) (by decide +kernel) (Or.inr (Or.inl ⟨_, rfl⟩)) rfl rfl rfl rfl (Nat.le_of_ble_eq_true rfl) (z52 hg2947) rfl (qI_le (by decide) (m_bad (d := 0) hg2947 (by omega) hs2947 (by omega))) (fun y2964 qy2964 hRy2964 => ?_)
  obtain ⟨rfl, hy2964⟩ := hRy2964
  refine y_iF (c := .ne) (off := 26) (len := 3) (r := (0, 0, 0, 0)) (by decide +kernel) (acmpF (c := .ne) (by show _ = _; omega)) ?_
  refine y_same (i := .aload_n 0) (len := 1) (r := (0, 0, 0, 0)) (pc' := 55) (ls' := [some (.inl (some 52)), some (zi x), some (zi xk), some (zi xw)]) (st' := [.inl (some 52)]) (by decide +kernel) (fun k q => by cases q) rfl ?_
  refine y_same (i := .iload_n 3) (len := 1) (r := (0, 0, 0, 0)) (pc' := 56) (ls' := [some (.inl (some 52)), some (zi x), some (zi xk), some (zi xw)]) (st' := [zi xw, .inl (some 52)]) (by decide +kernel) (fun k q => by cases q) rfl ?_
  refine y_ic (c := 0) (len := 1) (r := (0, 0, 0, 0)) (by decide +kernel) (by decide) (fun y2965 hy2965 => ?_)
  refine y_ic (c := 2) (len := 1) (r := (0, 0, 0, 0)) (by decide +kernel) (by decide) (fun y2966 hy2966 => ?_)
  refine y_cI (i := .invokestatic 200) (len := 3) (r := (1, 162, 12, 1486)) (nL := 3) (k := 2) (n := 3) (hs := []) (args := [zi xw, zi y2965, zi y2966]) (rest := [.inl (some 52)]) (l0 := [some (zi xw), some (zi y2965), some (zi y2966)]) (by decide +kernel) (Or.inl ⟨_, rfl⟩) rfl rfl rfl rfl (Nat.le_of_ble_eq_true rfl) rfl rfl (qI_le (by decide) (m_in (d := 0) (by omega) (by omega))) (fun y2967 qy2967 hRy2967 => ?_)
  obtain ⟨rfl, hy2967⟩ := hRy2967
  refine y_iT (c := .ne) (off := 7) (pc' := 68) (len := 3) (r := (0, 0, 0, 0)) (by decide +kernel) (acmpT (c := .ne) (by show ¬ (_ = _); omega)) (by decide +kernel) ?_
  refine y_ic (c := 0) (len := 1) (r := (0, 0, 0, 0)) (by decide +kernel) (by decide) (fun y2968 hy2968 => ?_)
  refine y_ic (c := 2) (len := 1) (r := (0, 0, 0, 0)) (by decide +kernel) (by decide) (fun y2969 hy2969 => ?_)
  refine y_ic (c := 1) (len := 1) (r := (0, 0, 0, 0)) (by decide +kernel) (by decide) (fun y2970 hy2970 => ?_)
  refine y_cI (i := .invokevirtual 204) (len := 3) (r := (0, 161, 12, 1489)) (nL := 4) (k := 2) (n := 4) (hs := []) (args := [.inl (some 52), zi y2968, zi y2969, zi y2970]) (rest := []) (l0 := [some (.inl (some 52)), some (zi y2968), some (zi y2969), some (zi y2970)]) (by decide +kernel) (Or.inr (Or.inl ⟨_, rfl⟩)) rfl rfl rfl rfl (Nat.le_of_ble_eq_true rfl) (z52 hg2947) rfl (qI_le (by decide) (m_bad (d := 0) hg2947 (by omega) hs2947 (by omega))) (fun y2971 qy2971 hRy2971 => ?_)
  obtain ⟨rfl, hy2971⟩ := hRy2971
  refine y_iT (c := .eq) (off := 5) (pc' := 79) (len := 3) (r := (0, 0, 0, 0)) (by decide +kernel) (acmpT (c := .eq) (by show _ = _; omega)) (by decide +kernel) ?_
  refine y_same (i := .aload_n 0) (len := 1) (r := (0, 0, 0, 0)) (pc' := 80) (ls' := [some (.inl (some 52)), some (zi x), some (zi xk), some (zi xw)]) (st' := [.inl (some 52)]) (by decide +kernel) (fun k q => by cases q) rfl ?_
  refine y_get (j := 20) (len := 3) (r := (12, 9, 2, 1337)) (by decide +kernel) hg2947 (t52 hg2947) at52 rfl rfl (g_r52 (f := 9) (T2 := 55) hg2947 rfl (by decide)).1 ?_
  refine y_same (i := .iload_n 1) (len := 1) (r := (0, 0, 0, 0)) (pc' := 84) (ls' := [some (.inl (some 52)), some (zi x), some (zi xk), some (zi xw)]) (st' := [zi x, .inl (some 55)]) (by decide +kernel) (fun k q => by cases q) rfl ?_
  refine y_same (i := .iload_n 2) (len := 1) (r := (0, 0, 0, 0)) (pc' := 85) (ls' := [some (.inl (some 52)), some (zi x), some (zi xk), some (zi xw)]) (st' := [zi xk, zi x, .inl (some 55)]) (by decide +kernel) (fun k q => by cases q) rfl ?_
  refine y_cI (i := .invokestatic 158) (len := 3) (r := (1, 169, 12, 1563)) (nL := 2) (k := 1) (n := 2) (hs := []) (args := [zi x, zi xk]) (rest := [.inl (some 55)]) (l0 := [some (zi x), some (zi xk)]) (by decide +kernel) (Or.inl ⟨_, rfl⟩) rfl rfl rfl rfl (Nat.le_of_ble_eq_true rfl) rfl rfl (qI_le (by decide) (m_claimAt (d := 0) (s := 0) (k := k) (by omega) (by omega) exk (by omega))) (fun y2972 qy2972 hRy2972 => ?_)
  obtain ⟨rfl, hy2972⟩ := hRy2972
  refine y_same (i := .iload_n 3) (len := 1) (r := (0, 0, 0, 0)) (pc' := 89) (ls' := [some (.inl (some 52)), some (zi x), some (zi xk), some (zi xw)]) (st' := [zi xw, zi y2972, .inl (some 55)]) (by decide +kernel) (fun k q => by cases q) rfl ?_
  refine y_add (len := 1) (r := (0, 0, 0, 0)) (by decide +kernel) (by omega) (by omega) (fun y2973 hy2973 => ?_)
  have hv2974 := (ho2947 55 ((22 + 4 * k) + w) (Or.inl (by omega))).trans hq
  refine y_ial (i := ((22 + 4 * k) + w)) (len := 1) (r := (0, 0, 0, 0)) (by decide +kernel) hg2947 (tv55 hg2947) av55 (by omega) hv2974 ?_
  refine y_rI (len := 1) (r := (0, 0, 0, 0)) (nL := 4) (k := 1) (n9 := 4) (hs := []) (by decide +kernel) rfl rfl ?_
  exact ⟨_, hg2947, RM_up rm (fun k j hC => (ho2947 k j (by omega))), fun k j hC => (ho2947 k j (by omega)), evq, _, hs2947, by omega⟩
theorem m_claim1 {t k w : Nat} {τ : List Nat} {h : zh} {cur : bsT} {hs : List bsT} {x xk xw : Int32} {i : it4} (hg : hG τ h) (rm : RM h cur hs) (hx : x.toInt = 1) (exk : xk.toInt = (k : Int)) (hk : cur.2.2[k]? = some i) (exw : xw.toInt = (w : Int)) (hw : w ≤ 2) : qI 60 196 [some (.inl (some 52)), some (zi x), some (zi xk), some (zi xw)] h t (fun y h1 => ∃ τ1, hG τ1 h1 ∧ RM h1 cur hs ∧ frM h h1 ∧ y.toInt = cmp_ i w ∧ ∃ z : Int32, hsl h1 52 0 = some (zi z) ∧ z.toInt = 0) := by
  have hk9 := (List.getElem?_eq_some_iff.mp hk).1
  refine qI_le (d := 21) (by decide) (qI_of ?_)
  have lz := len55 hg rm.1
  obtain ⟨⟨xp0z, hp0z, ep0z⟩, ⟨xc0z, hc0z, ec0z⟩, ip0z, ic0z⟩ := rm.1.1
  obtain ⟨⟨xp1z, hp1z, ep1z⟩, ⟨xc1z, hc1z, ec1z⟩, ip1z, ic1z⟩ := rm.1.2
  obtain ⟨vq, hq, evq⟩ := qd_at (w := w) (ic1z k i hk) (by omega)
  have hq : hsl h 55 ((68 + 4 * k) + w) = some (zi vq) := hq
  refine y_same (i := .aload_n 0) (len := 1) (r := (0, 0, 0, 0)) (pc' := 1) (ls' := [some (.inl (some 52)), some (zi x), some (zi xk), some (zi xw)]) (st' := [.inl (some 52)]) (by decide +kernel) (fun k q => by cases q) rfl ?_
  refine y_ic (c := 0) (len := 1) (r := (0, 0, 0, 0)) (by decide +kernel) (by decide) (fun y2975 hy2975 => ?_)
  refine y_put (j := 92) (lo := (-2147483648)) (hi := 2147483647) (len := 3) (r := (12, 0, 0, 1328)) (by decide +kernel) hg (t52 hg) at52 rfl rfl (by decide) rfl (qin_full _).1 (qin_full _).2 rfl (fun h2976 hg2976 hl2976 hs2976 ho2976 => ?_)
  have ho2976 : hO 52 0 h h2976 := ho2976
  have hs2976 : hsl h2976 52 0 = some (zi y2975) := hs2976
  refine y_same (i := .aload_n 0) (len := 1) (r := (0, 0, 0, 0)) (pc' := 6) (ls' := [some (.inl (some 52)), some (zi x), some (zi xk), some (zi xw)]) (st' := [.inl (some 52)]) (by decide +kernel) (fun k q => by cases q) rfl ?_
  refine y_same (i := .iload_n 1) (len := 1) (r := (0, 0, 0, 0)) (pc' := 7) (ls' := [some (.inl (some 52)), some (zi x), some (zi xk), some (zi xw)]) (st' := [zi x, .inl (some 52)]) (by decide +kernel) (fun k q => by cases q) rfl ?_
  refine y_ic (c := 0) (len := 1) (r := (0, 0, 0, 0)) (by decide +kernel) (by decide) (fun y2977 hy2977 => ?_)
  refine y_ic (c := 1) (len := 1) (r := (0, 0, 0, 0)) (by decide +kernel) (by decide) (fun y2978 hy2978 => ?_)
  refine y_cI (i := .invokestatic 200) (len := 3) (r := (1, 162, 12, 1486)) (nL := 3) (k := 2) (n := 3) (hs := []) (args := [zi x, zi y2977, zi y2978]) (rest := [.inl (some 52)]) (l0 := [some (zi x), some (zi y2977), some (zi y2978)]) (by decide +kernel) (Or.inl ⟨_, rfl⟩) rfl rfl rfl rfl (Nat.le_of_ble_eq_true rfl) rfl rfl (qI_le (by decide) (m_in (d := 0) (by omega) (by omega))) (fun y2979 qy2979 hRy2979 => ?_)
  obtain ⟨rfl, hy2979⟩ := hRy2979
  refine y_iF (c := .eq) (off := 29) (len := 3) (r := (0, 0, 0, 0)) (by decide +kernel) (acmpF (c := .eq) (by show ¬ (_ = _); omega)) ?_
  refine y_same (i := .iload_n 2) (len := 1) (r := (0, 0, 0, 0)) (pc' := 16) (ls' := [some (.inl (some 52)), some (zi x), some (zi xk), some (zi xw)]) (st' := [zi xk, .inl (some 52)]) (by decide +kernel) (fun k q => by cases q) rfl ?_
  refine y_ic (c := 0) (len := 1) (r := (0, 0, 0, 0)) (by decide +kernel) (by decide) (fun y2980 hy2980 => ?_)
  refine y_same (i := .aload_n 0) (len := 1) (r := (0, 0, 0, 0)) (pc' := 18) (ls' := [some (.inl (some 52)), some (zi x), some (zi xk), some (zi xw)]) (st' := [.inl (some 52), zi y2980, zi xk, .inl (some 52)]) (by decide +kernel) (fun k q => by cases q) rfl ?_
  refine y_get (j := 20) (len := 3) (r := (12, 9, 2, 1337)) (by decide +kernel) hg2976 (t52 hg2976) at52 rfl rfl (g_r52 (f := 9) (T2 := 55) hg2976 rfl (by decide)).1 ?_
  refine y_ic (c := 1) (len := 1) (r := (0, 0, 0, 0)) (by decide +kernel) (by decide) (fun y2981 hy2981 => ?_)
  refine y_ic (c := 0) (len := 1) (r := (0, 0, 0, 0)) (by decide +kernel) (by decide) (fun y2982 hy2982 => ?_)
  refine y_same (i := .iload_n 1) (len := 1) (r := (0, 0, 0, 0)) (pc' := 24) (ls' := [some (.inl (some 52)), some (zi x), some (zi xk), some (zi xw)]) (st' := [zi x, zi y2982, zi y2981, .inl (some 55), zi y2980, zi xk, .inl (some 52)]) (by decide +kernel) (fun k q => by cases q) rfl ?_
  refine y_cI (i := .invokestatic 230) (len := 3) (r := (1, 164, 12, 1591)) (nL := 2) (k := 1) (n := 2) (hs := []) (args := [zi y2982, zi x]) (rest := [zi y2981, .inl (some 55), zi y2980, zi xk, .inl (some 52)]) (l0 := [some (zi y2982), some (zi x)]) (by decide +kernel) (Or.inl ⟨_, rfl⟩) rfl rfl rfl rfl (Nat.le_of_ble_eq_true rfl) rfl rfl (qI_le (by decide) (e_more (d := 0))) (fun y2983 qy2983 hRy2983 => ?_)
  obtain ⟨rfl, my2983, ny2983⟩ := hRy2983
  have ey2983 : y2983.toInt = 1 := by omega
  refine y_cI (i := .invokestatic 233) (len := 3) (r := (1, 163, 12, 1594)) (nL := 2) (k := 1) (n := 2) (hs := []) (args := [zi y2981, zi y2983]) (rest := [.inl (some 55), zi y2980, zi xk, .inl (some 52)]) (l0 := [some (zi y2981), some (zi y2983)]) (by decide +kernel) (Or.inl ⟨_, rfl⟩) rfl rfl rfl rfl (Nat.le_of_ble_eq_true rfl) rfl rfl (qI_le (by decide) (e_less (d := 0))) (fun y2984 qy2984 hRy2984 => ?_)
  obtain ⟨rfl, my2984, ny2984⟩ := hRy2984
  have ey2984 : y2984.toInt = 1 := by omega
  have hv2986 := (ho2976 55 47 (Or.inl (by omega))).trans hc1z
  refine y_cI (i := .invokestatic 155) (len := 3) (r := (1, 167, 12, 1560)) (nL := 2) (k := 1) (n := 2) (hs := []) (args := [.inl (some 55), zi y2984]) (rest := [zi y2980, zi xk, .inl (some 52)]) (l0 := [some (.inl (some 55)), some (zi y2984)]) (by decide +kernel) (Or.inl ⟨_, rfl⟩) rfl rfl rfl rfl (Nat.le_of_ble_eq_true rfl) rfl rfl (qI_le (by decide) (m_claims (d := 0) (s := 1) hg2976 (by omega) (by omega) hv2986)) (fun y2985 qy2985 hRy2985 => ?_)
  obtain ⟨rfl, rfl⟩ := hRy2985
  refine y_ic (c := 1) (len := 1) (r := (0, 0, 0, 0)) (by decide +kernel) (by decide) (fun y2987 hy2987 => ?_)
  refine y_sub (len := 1) (r := (0, 0, 0, 0)) (by decide +kernel) (by omega) (by omega) (fun y2988 hy2988 => ?_)
  refine y_cI (i := .invokestatic 200) (len := 3) (r := (1, 162, 12, 1486)) (nL := 3) (k := 2) (n := 3) (hs := []) (args := [zi xk, zi y2980, zi y2988]) (rest := [.inl (some 52)]) (l0 := [some (zi xk), some (zi y2980), some (zi y2988)]) (by decide +kernel) (Or.inl ⟨_, rfl⟩) rfl rfl rfl rfl (Nat.le_of_ble_eq_true rfl) rfl rfl (qI_le (by decide) (m_in (d := 0) (by omega) (by omega))) (fun y2989 qy2989 hRy2989 => ?_)
  obtain ⟨rfl, hy2989⟩ := hRy2989
  refine y_iT (c := .ne) (off := 7) (pc' := 45) (len := 3) (r := (0, 0, 0, 0)) (by decide +kernel) (acmpT (c := .ne) (by show ¬ (_ = _); omega)) (by decide +kernel) ?_
  refine y_ic (c := 0) (len := 1) (r := (0, 0, 0, 0)) (by decide +kernel) (by decide) (fun y2990 hy2990 => ?_)
  refine y_ic (c := 1) (len := 1) (r := (0, 0, 0, 0)) (by decide +kernel) (by decide) (fun y2991 hy2991 => ?_)
  refine y_ic (c := 0) (len := 1) (r := (0, 0, 0, 0)) (by decide +kernel) (by decide) (fun y2992 hy2992 => ?_)
  refine y_cI (i := .invokevirtual 204) (len := 3) (r := (0, 161, 12, 1489)) (nL := 4) (k := 2) (n := 4) (hs := []) (args := [.inl (some 52), zi y2990, zi y2991, zi y2992]) (rest := []) (l0 := [some (.inl (some 52)), some (zi y2990), some (zi y2991), some (zi y2992)]) (by decide +kernel) (Or.inr (Or.inl ⟨_, rfl⟩)) rfl rfl rfl rfl (Nat.le_of_ble_eq_true rfl) (z52 hg2976) rfl (qI_le (by decide) (m_bad (d := 0) hg2976 (by omega) hs2976 (by omega))) (fun y2993 qy2993 hRy2993 => ?_)
  obtain ⟨rfl, hy2993⟩ := hRy2993
  refine y_iF (c := .ne) (off := 26) (len := 3) (r := (0, 0, 0, 0)) (by decide +kernel) (acmpF (c := .ne) (by show _ = _; omega)) ?_
  refine y_same (i := .aload_n 0) (len := 1) (r := (0, 0, 0, 0)) (pc' := 55) (ls' := [some (.inl (some 52)), some (zi x), some (zi xk), some (zi xw)]) (st' := [.inl (some 52)]) (by decide +kernel) (fun k q => by cases q) rfl ?_
  refine y_same (i := .iload_n 3) (len := 1) (r := (0, 0, 0, 0)) (pc' := 56) (ls' := [some (.inl (some 52)), some (zi x), some (zi xk), some (zi xw)]) (st' := [zi xw, .inl (some 52)]) (by decide +kernel) (fun k q => by cases q) rfl ?_
  refine y_ic (c := 0) (len := 1) (r := (0, 0, 0, 0)) (by decide +kernel) (by decide) (fun y2994 hy2994 => ?_)
  refine y_ic (c := 2) (len := 1) (r := (0, 0, 0, 0)) (by decide +kernel) (by decide) (fun y2995 hy2995 => ?_)
  refine y_cI (i := .invokestatic 200) (len := 3) (r := (1, 162, 12, 1486)) (nL := 3) (k := 2) (n := 3) (hs := []) (args := [zi xw, zi y2994, zi y2995]) (rest := [.inl (some 52)]) (l0 := [some (zi xw), some (zi y2994), some (zi y2995)]) (by decide +kernel) (Or.inl ⟨_, rfl⟩) rfl rfl rfl rfl (Nat.le_of_ble_eq_true rfl) rfl rfl (qI_le (by decide) (m_in (d := 0) (by omega) (by omega))) (fun y2996 qy2996 hRy2996 => ?_)
  obtain ⟨rfl, hy2996⟩ := hRy2996
  refine y_iT (c := .ne) (off := 7) (pc' := 68) (len := 3) (r := (0, 0, 0, 0)) (by decide +kernel) (acmpT (c := .ne) (by show ¬ (_ = _); omega)) (by decide +kernel) ?_
  refine y_ic (c := 0) (len := 1) (r := (0, 0, 0, 0)) (by decide +kernel) (by decide) (fun y2997 hy2997 => ?_)
  refine y_ic (c := 2) (len := 1) (r := (0, 0, 0, 0)) (by decide +kernel) (by decide) (fun y2998 hy2998 => ?_)
  refine y_ic (c := 1) (len := 1) (r := (0, 0, 0, 0)) (by decide +kernel) (by decide) (fun y2999 hy2999 => ?_)
  refine y_cI (i := .invokevirtual 204) (len := 3) (r := (0, 161, 12, 1489)) (nL := 4) (k := 2) (n := 4) (hs := []) (args := [.inl (some 52), zi y2997, zi y2998, zi y2999]) (rest := []) (l0 := [some (.inl (some 52)), some (zi y2997), some (zi y2998), some (zi y2999)]) (by decide +kernel) (Or.inr (Or.inl ⟨_, rfl⟩)) rfl rfl rfl rfl (Nat.le_of_ble_eq_true rfl) (z52 hg2976) rfl (qI_le (by decide) (m_bad (d := 0) hg2976 (by omega) hs2976 (by omega))) (fun y3000 qy3000 hRy3000 => ?_)
  obtain ⟨rfl, hy3000⟩ := hRy3000
  refine y_iT (c := .eq) (off := 5) (pc' := 79) (len := 3) (r := (0, 0, 0, 0)) (by decide +kernel) (acmpT (c := .eq) (by show _ = _; omega)) (by decide +kernel) ?_
  refine y_same (i := .aload_n 0) (len := 1) (r := (0, 0, 0, 0)) (pc' := 80) (ls' := [some (.inl (some 52)), some (zi x), some (zi xk), some (zi xw)]) (st' := [.inl (some 52)]) (by decide +kernel) (fun k q => by cases q) rfl ?_
  refine y_get (j := 20) (len := 3) (r := (12, 9, 2, 1337)) (by decide +kernel) hg2976 (t52 hg2976) at52 rfl rfl (g_r52 (f := 9) (T2 := 55) hg2976 rfl (by decide)).1 ?_
  refine y_same (i := .iload_n 1) (len := 1) (r := (0, 0, 0, 0)) (pc' := 84) (ls' := [some (.inl (some 52)), some (zi x), some (zi xk), some (zi xw)]) (st' := [zi x, .inl (some 55)]) (by decide +kernel) (fun k q => by cases q) rfl ?_
  refine y_same (i := .iload_n 2) (len := 1) (r := (0, 0, 0, 0)) (pc' := 85) (ls' := [some (.inl (some 52)), some (zi x), some (zi xk), some (zi xw)]) (st' := [zi xk, zi x, .inl (some 55)]) (by decide +kernel) (fun k q => by cases q) rfl ?_
  refine y_cI (i := .invokestatic 158) (len := 3) (r := (1, 169, 12, 1563)) (nL := 2) (k := 1) (n := 2) (hs := []) (args := [zi x, zi xk]) (rest := [.inl (some 55)]) (l0 := [some (zi x), some (zi xk)]) (by decide +kernel) (Or.inl ⟨_, rfl⟩) rfl rfl rfl rfl (Nat.le_of_ble_eq_true rfl) rfl rfl (qI_le (by decide) (m_claimAt (d := 0) (s := 1) (k := k) (by omega) (by omega) exk (by omega))) (fun y3001 qy3001 hRy3001 => ?_)
  obtain ⟨rfl, hy3001⟩ := hRy3001
  refine y_same (i := .iload_n 3) (len := 1) (r := (0, 0, 0, 0)) (pc' := 89) (ls' := [some (.inl (some 52)), some (zi x), some (zi xk), some (zi xw)]) (st' := [zi xw, zi y3001, .inl (some 55)]) (by decide +kernel) (fun k q => by cases q) rfl ?_
  refine y_add (len := 1) (r := (0, 0, 0, 0)) (by decide +kernel) (by omega) (by omega) (fun y3002 hy3002 => ?_)
  have hv3003 := (ho2976 55 ((68 + 4 * k) + w) (Or.inl (by omega))).trans hq
  refine y_ial (i := ((68 + 4 * k) + w)) (len := 1) (r := (0, 0, 0, 0)) (by decide +kernel) hg2976 (tv55 hg2976) av55 (by omega) hv3003 ?_
  refine y_rI (len := 1) (r := (0, 0, 0, 0)) (nL := 4) (k := 1) (n9 := 4) (hs := []) (by decide +kernel) rfl rfl ?_
  exact ⟨_, hg2976, RM_up rm (fun k j hC => (ho2976 k j (by omega))), fun k j hC => (ho2976 k j (by omega)), evq, _, hs2976, by omega⟩
theorem m_claimT0 {t : Nat} {τ : List Nat} {h : zh} {cur : bsT} {hs : List bsT} {x xk xw : Int32} (hg : hG τ h) (rm : RM h cur hs) (hx : x.toInt = 0) (hk : ¬ (0 ≤ xk.toInt ∧ xk.toInt < (cur.1.2.length : Int))) : qI 60 196 [some (.inl (some 52)), some (zi x), some (zi xk), some (zi xw)] h t (fun y h1 => ∃ τ1, hG τ1 h1 ∧ RM h1 cur hs ∧ frM h h1 ∧ ∃ z : Int32, hsl h1 52 0 = some (zi z) ∧ z.toInt = 1) := by
  refine qI_le (d := 21) (by decide) (qI_of ?_)
  have lz := len55 hg rm.1
  obtain ⟨⟨xp0z, hp0z, ep0z⟩, ⟨xc0z, hc0z, ec0z⟩, ip0z, ic0z⟩ := rm.1.1
  obtain ⟨⟨xp1z, hp1z, ep1z⟩, ⟨xc1z, hc1z, ec1z⟩, ip1z, ic1z⟩ := rm.1.2
  refine y_same (i := .aload_n 0) (len := 1) (r := (0, 0, 0, 0)) (pc' := 1) (ls' := [some (.inl (some 52)), some (zi x), some (zi xk), some (zi xw)]) (st' := [.inl (some 52)]) (by decide +kernel) (fun k q => by cases q) rfl ?_
  refine y_ic (c := 0) (len := 1) (r := (0, 0, 0, 0)) (by decide +kernel) (by decide) (fun y3004 hy3004 => ?_)
  refine y_put (j := 92) (lo := (-2147483648)) (hi := 2147483647) (len := 3) (r := (12, 0, 0, 1328)) (by decide +kernel) hg (t52 hg) at52 rfl rfl (by decide) rfl (qin_full _).1 (qin_full _).2 rfl (fun h3005 hg3005 hl3005 hs3005 ho3005 => ?_)
  have ho3005 : hO 52 0 h h3005 := ho3005
  have hs3005 : hsl h3005 52 0 = some (zi y3004) := hs3005
  refine y_same (i := .aload_n 0) (len := 1) (r := (0, 0, 0, 0)) (pc' := 6) (ls' := [some (.inl (some 52)), some (zi x), some (zi xk), some (zi xw)]) (st' := [.inl (some 52)]) (by decide +kernel) (fun k q => by cases q) rfl ?_
  refine y_same (i := .iload_n 1) (len := 1) (r := (0, 0, 0, 0)) (pc' := 7) (ls' := [some (.inl (some 52)), some (zi x), some (zi xk), some (zi xw)]) (st' := [zi x, .inl (some 52)]) (by decide +kernel) (fun k q => by cases q) rfl ?_
  refine y_ic (c := 0) (len := 1) (r := (0, 0, 0, 0)) (by decide +kernel) (by decide) (fun y3006 hy3006 => ?_)
  refine y_ic (c := 1) (len := 1) (r := (0, 0, 0, 0)) (by decide +kernel) (by decide) (fun y3007 hy3007 => ?_)
  refine y_cI (i := .invokestatic 200) (len := 3) (r := (1, 162, 12, 1486)) (nL := 3) (k := 2) (n := 3) (hs := []) (args := [zi x, zi y3006, zi y3007]) (rest := [.inl (some 52)]) (l0 := [some (zi x), some (zi y3006), some (zi y3007)]) (by decide +kernel) (Or.inl ⟨_, rfl⟩) rfl rfl rfl rfl (Nat.le_of_ble_eq_true rfl) rfl rfl (qI_le (by decide) (m_in (d := 0) (by omega) (by omega))) (fun y3008 qy3008 hRy3008 => ?_)
  obtain ⟨rfl, hy3008⟩ := hRy3008
  refine y_iF (c := .eq) (off := 29) (len := 3) (r := (0, 0, 0, 0)) (by decide +kernel) (acmpF (c := .eq) (by show ¬ (_ = _); omega)) ?_
  refine y_same (i := .iload_n 2) (len := 1) (r := (0, 0, 0, 0)) (pc' := 16) (ls' := [some (.inl (some 52)), some (zi x), some (zi xk), some (zi xw)]) (st' := [zi xk, .inl (some 52)]) (by decide +kernel) (fun k q => by cases q) rfl ?_
  refine y_ic (c := 0) (len := 1) (r := (0, 0, 0, 0)) (by decide +kernel) (by decide) (fun y3009 hy3009 => ?_)
  refine y_same (i := .aload_n 0) (len := 1) (r := (0, 0, 0, 0)) (pc' := 18) (ls' := [some (.inl (some 52)), some (zi x), some (zi xk), some (zi xw)]) (st' := [.inl (some 52), zi y3009, zi xk, .inl (some 52)]) (by decide +kernel) (fun k q => by cases q) rfl ?_
  refine y_get (j := 20) (len := 3) (r := (12, 9, 2, 1337)) (by decide +kernel) hg3005 (t52 hg3005) at52 rfl rfl (g_r52 (f := 9) (T2 := 55) hg3005 rfl (by decide)).1 ?_
  refine y_ic (c := 1) (len := 1) (r := (0, 0, 0, 0)) (by decide +kernel) (by decide) (fun y3010 hy3010 => ?_)
  refine y_ic (c := 0) (len := 1) (r := (0, 0, 0, 0)) (by decide +kernel) (by decide) (fun y3011 hy3011 => ?_)
  refine y_same (i := .iload_n 1) (len := 1) (r := (0, 0, 0, 0)) (pc' := 24) (ls' := [some (.inl (some 52)), some (zi x), some (zi xk), some (zi xw)]) (st' := [zi x, zi y3011, zi y3010, .inl (some 55), zi y3009, zi xk, .inl (some 52)]) (by decide +kernel) (fun k q => by cases q) rfl ?_
  refine y_cI (i := .invokestatic 230) (len := 3) (r := (1, 164, 12, 1591)) (nL := 2) (k := 1) (n := 2) (hs := []) (args := [zi y3011, zi x]) (rest := [zi y3010, .inl (some 55), zi y3009, zi xk, .inl (some 52)]) (l0 := [some (zi y3011), some (zi x)]) (by decide +kernel) (Or.inl ⟨_, rfl⟩) rfl rfl rfl rfl (Nat.le_of_ble_eq_true rfl) rfl rfl (qI_le (by decide) (e_more (d := 0))) (fun y3012 qy3012 hRy3012 => ?_)
  obtain ⟨rfl, my3012, ny3012⟩ := hRy3012
  have ey3012 : y3012.toInt = 0 := by omega
  refine y_cI (i := .invokestatic 233) (len := 3) (r := (1, 163, 12, 1594)) (nL := 2) (k := 1) (n := 2) (hs := []) (args := [zi y3010, zi y3012]) (rest := [.inl (some 55), zi y3009, zi xk, .inl (some 52)]) (l0 := [some (zi y3010), some (zi y3012)]) (by decide +kernel) (Or.inl ⟨_, rfl⟩) rfl rfl rfl rfl (Nat.le_of_ble_eq_true rfl) rfl rfl (qI_le (by decide) (e_less (d := 0))) (fun y3013 qy3013 hRy3013 => ?_)
  obtain ⟨rfl, my3013, ny3013⟩ := hRy3013
  have ey3013 : y3013.toInt = 0 := by omega
  have hv3015 := (ho3005 55 1 (Or.inl (by omega))).trans hc0z
  refine y_cI (i := .invokestatic 155) (len := 3) (r := (1, 167, 12, 1560)) (nL := 2) (k := 1) (n := 2) (hs := []) (args := [.inl (some 55), zi y3013]) (rest := [zi y3009, zi xk, .inl (some 52)]) (l0 := [some (.inl (some 55)), some (zi y3013)]) (by decide +kernel) (Or.inl ⟨_, rfl⟩) rfl rfl rfl rfl (Nat.le_of_ble_eq_true rfl) rfl rfl (qI_le (by decide) (m_claims (d := 0) (s := 0) hg3005 (by omega) (by omega) hv3015)) (fun y3014 qy3014 hRy3014 => ?_)
  obtain ⟨rfl, rfl⟩ := hRy3014
  refine y_ic (c := 1) (len := 1) (r := (0, 0, 0, 0)) (by decide +kernel) (by decide) (fun y3016 hy3016 => ?_)
  refine y_sub (len := 1) (r := (0, 0, 0, 0)) (by decide +kernel) (by omega) (by omega) (fun y3017 hy3017 => ?_)
  refine y_cI (i := .invokestatic 200) (len := 3) (r := (1, 162, 12, 1486)) (nL := 3) (k := 2) (n := 3) (hs := []) (args := [zi xk, zi y3009, zi y3017]) (rest := [.inl (some 52)]) (l0 := [some (zi xk), some (zi y3009), some (zi y3017)]) (by decide +kernel) (Or.inl ⟨_, rfl⟩) rfl rfl rfl rfl (Nat.le_of_ble_eq_true rfl) rfl rfl (qI_le (by decide) (m_in0 (d := 0) (by omega))) (fun y3018 qy3018 hRy3018 => ?_)
  obtain ⟨rfl, hy3018⟩ := hRy3018
  refine y_iF (c := .ne) (off := 7) (len := 3) (r := (0, 0, 0, 0)) (by decide +kernel) (acmpF (c := .ne) (by show _ = _; omega)) ?_
  refine y_ic (c := 1) (len := 1) (r := (0, 0, 0, 0)) (by decide +kernel) (by decide) (fun y3019 hy3019 => ?_)
  refine y_goto (off := 4) (pc' := 46) (len := 3) (r := (0, 0, 0, 0)) (by decide +kernel) (by decide +kernel) ?_
  refine y_ic (c := 1) (len := 1) (r := (0, 0, 0, 0)) (by decide +kernel) (by decide) (fun y3020 hy3020 => ?_)
  refine y_ic (c := 0) (len := 1) (r := (0, 0, 0, 0)) (by decide +kernel) (by decide) (fun y3021 hy3021 => ?_)
  refine y_cI (i := .invokevirtual 204) (len := 3) (r := (0, 161, 12, 1489)) (nL := 4) (k := 2) (n := 4) (hs := []) (args := [.inl (some 52), zi y3019, zi y3020, zi y3021]) (rest := []) (l0 := [some (.inl (some 52)), some (zi y3019), some (zi y3020), some (zi y3021)]) (by decide +kernel) (Or.inr (Or.inl ⟨_, rfl⟩)) rfl rfl rfl rfl (Nat.le_of_ble_eq_true rfl) (z52 hg3005) rfl (qI_le (by decide) (m_bad1 (d := 0) (e := 0) hg3005 (by omega) (by omega) (by omega) (by omega) hs3005 (by omega))) (fun y3022 h3022 hRy3022 => ?_)
  obtain ⟨hg3022, hy3022, ⟨z3022, hz3022, ez3022⟩, F3022⟩ := hRy3022
  refine y_iT (c := .ne) (off := 26) (pc' := 77) (len := 3) (r := (0, 0, 0, 0)) (by decide +kernel) (acmpT (c := .ne) (by show ¬ (_ = _); omega)) (by decide +kernel) ?_
  refine y_ic (c := 0) (len := 1) (r := (0, 0, 0, 0)) (by decide +kernel) (by decide) (fun y3023 hy3023 => ?_)
  refine y_rI (len := 1) (r := (0, 0, 0, 0)) (nL := 4) (k := 1) (n9 := 4) (hs := []) (by decide +kernel) rfl rfl ?_
  exact ⟨_, hg3022, RM_up rm (fun k j hC => ((F3022 k j (by omega)).trans (ho3005 k j (by omega)))), fun k j hC => ((F3022 k j (by omega)).trans (ho3005 k j (by omega))), _, hz3022, by omega⟩
theorem m_claimW0 {t : Nat} {τ : List Nat} {h : zh} {cur : bsT} {hs : List bsT} {x xk xw : Int32} (hg : hG τ h) (rm : RM h cur hs) (hx : x.toInt = 0) (hk : 0 ≤ xk.toInt ∧ xk.toInt < (cur.1.2.length : Int)) (hw : ¬ (0 ≤ xw.toInt ∧ xw.toInt ≤ 2)) : qI 60 196 [some (.inl (some 52)), some (zi x), some (zi xk), some (zi xw)] h t (fun y h1 => ∃ τ1, hG τ1 h1 ∧ RM h1 cur hs ∧ frM h h1 ∧ ∃ z : Int32, hsl h1 52 0 = some (zi z) ∧ z.toInt = 2) := by
  refine qI_le (d := 21) (by decide) (qI_of ?_)
  have lz := len55 hg rm.1
  obtain ⟨⟨xp0z, hp0z, ep0z⟩, ⟨xc0z, hc0z, ec0z⟩, ip0z, ic0z⟩ := rm.1.1
  obtain ⟨⟨xp1z, hp1z, ep1z⟩, ⟨xc1z, hc1z, ec1z⟩, ip1z, ic1z⟩ := rm.1.2
  refine y_same (i := .aload_n 0) (len := 1) (r := (0, 0, 0, 0)) (pc' := 1) (ls' := [some (.inl (some 52)), some (zi x), some (zi xk), some (zi xw)]) (st' := [.inl (some 52)]) (by decide +kernel) (fun k q => by cases q) rfl ?_
  refine y_ic (c := 0) (len := 1) (r := (0, 0, 0, 0)) (by decide +kernel) (by decide) (fun y3024 hy3024 => ?_)
  refine y_put (j := 92) (lo := (-2147483648)) (hi := 2147483647) (len := 3) (r := (12, 0, 0, 1328)) (by decide +kernel) hg (t52 hg) at52 rfl rfl (by decide) rfl (qin_full _).1 (qin_full _).2 rfl (fun h3025 hg3025 hl3025 hs3025 ho3025 => ?_)
  have ho3025 : hO 52 0 h h3025 := ho3025
  have hs3025 : hsl h3025 52 0 = some (zi y3024) := hs3025
  refine y_same (i := .aload_n 0) (len := 1) (r := (0, 0, 0, 0)) (pc' := 6) (ls' := [some (.inl (some 52)), some (zi x), some (zi xk), some (zi xw)]) (st' := [.inl (some 52)]) (by decide +kernel) (fun k q => by cases q) rfl ?_
  refine y_same (i := .iload_n 1) (len := 1) (r := (0, 0, 0, 0)) (pc' := 7) (ls' := [some (.inl (some 52)), some (zi x), some (zi xk), some (zi xw)]) (st' := [zi x, .inl (some 52)]) (by decide +kernel) (fun k q => by cases q) rfl ?_
  refine y_ic (c := 0) (len := 1) (r := (0, 0, 0, 0)) (by decide +kernel) (by decide) (fun y3026 hy3026 => ?_)
  refine y_ic (c := 1) (len := 1) (r := (0, 0, 0, 0)) (by decide +kernel) (by decide) (fun y3027 hy3027 => ?_)
  refine y_cI (i := .invokestatic 200) (len := 3) (r := (1, 162, 12, 1486)) (nL := 3) (k := 2) (n := 3) (hs := []) (args := [zi x, zi y3026, zi y3027]) (rest := [.inl (some 52)]) (l0 := [some (zi x), some (zi y3026), some (zi y3027)]) (by decide +kernel) (Or.inl ⟨_, rfl⟩) rfl rfl rfl rfl (Nat.le_of_ble_eq_true rfl) rfl rfl (qI_le (by decide) (m_in (d := 0) (by omega) (by omega))) (fun y3028 qy3028 hRy3028 => ?_)
  obtain ⟨rfl, hy3028⟩ := hRy3028
  refine y_iF (c := .eq) (off := 29) (len := 3) (r := (0, 0, 0, 0)) (by decide +kernel) (acmpF (c := .eq) (by show ¬ (_ = _); omega)) ?_
  refine y_same (i := .iload_n 2) (len := 1) (r := (0, 0, 0, 0)) (pc' := 16) (ls' := [some (.inl (some 52)), some (zi x), some (zi xk), some (zi xw)]) (st' := [zi xk, .inl (some 52)]) (by decide +kernel) (fun k q => by cases q) rfl ?_
  refine y_ic (c := 0) (len := 1) (r := (0, 0, 0, 0)) (by decide +kernel) (by decide) (fun y3029 hy3029 => ?_)
  refine y_same (i := .aload_n 0) (len := 1) (r := (0, 0, 0, 0)) (pc' := 18) (ls' := [some (.inl (some 52)), some (zi x), some (zi xk), some (zi xw)]) (st' := [.inl (some 52), zi y3029, zi xk, .inl (some 52)]) (by decide +kernel) (fun k q => by cases q) rfl ?_
  refine y_get (j := 20) (len := 3) (r := (12, 9, 2, 1337)) (by decide +kernel) hg3025 (t52 hg3025) at52 rfl rfl (g_r52 (f := 9) (T2 := 55) hg3025 rfl (by decide)).1 ?_
  refine y_ic (c := 1) (len := 1) (r := (0, 0, 0, 0)) (by decide +kernel) (by decide) (fun y3030 hy3030 => ?_)
  refine y_ic (c := 0) (len := 1) (r := (0, 0, 0, 0)) (by decide +kernel) (by decide) (fun y3031 hy3031 => ?_)
  refine y_same (i := .iload_n 1) (len := 1) (r := (0, 0, 0, 0)) (pc' := 24) (ls' := [some (.inl (some 52)), some (zi x), some (zi xk), some (zi xw)]) (st' := [zi x, zi y3031, zi y3030, .inl (some 55), zi y3029, zi xk, .inl (some 52)]) (by decide +kernel) (fun k q => by cases q) rfl ?_
  refine y_cI (i := .invokestatic 230) (len := 3) (r := (1, 164, 12, 1591)) (nL := 2) (k := 1) (n := 2) (hs := []) (args := [zi y3031, zi x]) (rest := [zi y3030, .inl (some 55), zi y3029, zi xk, .inl (some 52)]) (l0 := [some (zi y3031), some (zi x)]) (by decide +kernel) (Or.inl ⟨_, rfl⟩) rfl rfl rfl rfl (Nat.le_of_ble_eq_true rfl) rfl rfl (qI_le (by decide) (e_more (d := 0))) (fun y3032 qy3032 hRy3032 => ?_)
  obtain ⟨rfl, my3032, ny3032⟩ := hRy3032
  have ey3032 : y3032.toInt = 0 := by omega
  refine y_cI (i := .invokestatic 233) (len := 3) (r := (1, 163, 12, 1594)) (nL := 2) (k := 1) (n := 2) (hs := []) (args := [zi y3030, zi y3032]) (rest := [.inl (some 55), zi y3029, zi xk, .inl (some 52)]) (l0 := [some (zi y3030), some (zi y3032)]) (by decide +kernel) (Or.inl ⟨_, rfl⟩) rfl rfl rfl rfl (Nat.le_of_ble_eq_true rfl) rfl rfl (qI_le (by decide) (e_less (d := 0))) (fun y3033 qy3033 hRy3033 => ?_)
  obtain ⟨rfl, my3033, ny3033⟩ := hRy3033
  have ey3033 : y3033.toInt = 0 := by omega
  have hv3035 := (ho3025 55 1 (Or.inl (by omega))).trans hc0z
  refine y_cI (i := .invokestatic 155) (len := 3) (r := (1, 167, 12, 1560)) (nL := 2) (k := 1) (n := 2) (hs := []) (args := [.inl (some 55), zi y3033]) (rest := [zi y3029, zi xk, .inl (some 52)]) (l0 := [some (.inl (some 55)), some (zi y3033)]) (by decide +kernel) (Or.inl ⟨_, rfl⟩) rfl rfl rfl rfl (Nat.le_of_ble_eq_true rfl) rfl rfl (qI_le (by decide) (m_claims (d := 0) (s := 0) hg3025 (by omega) (by omega) hv3035)) (fun y3034 qy3034 hRy3034 => ?_)
  obtain ⟨rfl, rfl⟩ := hRy3034
  refine y_ic (c := 1) (len := 1) (r := (0, 0, 0, 0)) (by decide +kernel) (by decide) (fun y3036 hy3036 => ?_)
  refine y_sub (len := 1) (r := (0, 0, 0, 0)) (by decide +kernel) (by omega) (by omega) (fun y3037 hy3037 => ?_)
  refine y_cI (i := .invokestatic 200) (len := 3) (r := (1, 162, 12, 1486)) (nL := 3) (k := 2) (n := 3) (hs := []) (args := [zi xk, zi y3029, zi y3037]) (rest := [.inl (some 52)]) (l0 := [some (zi xk), some (zi y3029), some (zi y3037)]) (by decide +kernel) (Or.inl ⟨_, rfl⟩) rfl rfl rfl rfl (Nat.le_of_ble_eq_true rfl) rfl rfl (qI_le (by decide) (m_in (d := 0) (by omega) (by omega))) (fun y3038 qy3038 hRy3038 => ?_)
  obtain ⟨rfl, hy3038⟩ := hRy3038
  refine y_iT (c := .ne) (off := 7) (pc' := 45) (len := 3) (r := (0, 0, 0, 0)) (by decide +kernel) (acmpT (c := .ne) (by show ¬ (_ = _); omega)) (by decide +kernel) ?_
  refine y_ic (c := 0) (len := 1) (r := (0, 0, 0, 0)) (by decide +kernel) (by decide) (fun y3039 hy3039 => ?_)
  refine y_ic (c := 1) (len := 1) (r := (0, 0, 0, 0)) (by decide +kernel) (by decide) (fun y3040 hy3040 => ?_)
  refine y_ic (c := 0) (len := 1) (r := (0, 0, 0, 0)) (by decide +kernel) (by decide) (fun y3041 hy3041 => ?_)
  refine y_cI (i := .invokevirtual 204) (len := 3) (r := (0, 161, 12, 1489)) (nL := 4) (k := 2) (n := 4) (hs := []) (args := [.inl (some 52), zi y3039, zi y3040, zi y3041]) (rest := []) (l0 := [some (.inl (some 52)), some (zi y3039), some (zi y3040), some (zi y3041)]) (by decide +kernel) (Or.inr (Or.inl ⟨_, rfl⟩)) rfl rfl rfl rfl (Nat.le_of_ble_eq_true rfl) (z52 hg3025) rfl (qI_le (by decide) (m_bad (d := 0) hg3025 (by omega) hs3025 (by omega))) (fun y3042 qy3042 hRy3042 => ?_)
  obtain ⟨rfl, hy3042⟩ := hRy3042
  refine y_iF (c := .ne) (off := 26) (len := 3) (r := (0, 0, 0, 0)) (by decide +kernel) (acmpF (c := .ne) (by show _ = _; omega)) ?_
  refine y_same (i := .aload_n 0) (len := 1) (r := (0, 0, 0, 0)) (pc' := 55) (ls' := [some (.inl (some 52)), some (zi x), some (zi xk), some (zi xw)]) (st' := [.inl (some 52)]) (by decide +kernel) (fun k q => by cases q) rfl ?_
  refine y_same (i := .iload_n 3) (len := 1) (r := (0, 0, 0, 0)) (pc' := 56) (ls' := [some (.inl (some 52)), some (zi x), some (zi xk), some (zi xw)]) (st' := [zi xw, .inl (some 52)]) (by decide +kernel) (fun k q => by cases q) rfl ?_
  refine y_ic (c := 0) (len := 1) (r := (0, 0, 0, 0)) (by decide +kernel) (by decide) (fun y3043 hy3043 => ?_)
  refine y_ic (c := 2) (len := 1) (r := (0, 0, 0, 0)) (by decide +kernel) (by decide) (fun y3044 hy3044 => ?_)
  refine y_cI (i := .invokestatic 200) (len := 3) (r := (1, 162, 12, 1486)) (nL := 3) (k := 2) (n := 3) (hs := []) (args := [zi xw, zi y3043, zi y3044]) (rest := [.inl (some 52)]) (l0 := [some (zi xw), some (zi y3043), some (zi y3044)]) (by decide +kernel) (Or.inl ⟨_, rfl⟩) rfl rfl rfl rfl (Nat.le_of_ble_eq_true rfl) rfl rfl (qI_le (by decide) (m_in0 (d := 0) (by omega))) (fun y3045 qy3045 hRy3045 => ?_)
  obtain ⟨rfl, hy3045⟩ := hRy3045
  refine y_iF (c := .ne) (off := 7) (len := 3) (r := (0, 0, 0, 0)) (by decide +kernel) (acmpF (c := .ne) (by show _ = _; omega)) ?_
  refine y_ic (c := 1) (len := 1) (r := (0, 0, 0, 0)) (by decide +kernel) (by decide) (fun y3046 hy3046 => ?_)
  refine y_goto (off := 4) (pc' := 69) (len := 3) (r := (0, 0, 0, 0)) (by decide +kernel) (by decide +kernel) ?_
  refine y_ic (c := 2) (len := 1) (r := (0, 0, 0, 0)) (by decide +kernel) (by decide) (fun y3047 hy3047 => ?_)
  refine y_ic (c := 1) (len := 1) (r := (0, 0, 0, 0)) (by decide +kernel) (by decide) (fun y3048 hy3048 => ?_)
  refine y_cI (i := .invokevirtual 204) (len := 3) (r := (0, 161, 12, 1489)) (nL := 4) (k := 2) (n := 4) (hs := []) (args := [.inl (some 52), zi y3046, zi y3047, zi y3048]) (rest := []) (l0 := [some (.inl (some 52)), some (zi y3046), some (zi y3047), some (zi y3048)]) (by decide +kernel) (Or.inr (Or.inl ⟨_, rfl⟩)) rfl rfl rfl rfl (Nat.le_of_ble_eq_true rfl) (z52 hg3025) rfl (qI_le (by decide) (m_bad1 (d := 0) (e := 1) hg3025 (by omega) (by omega) (by omega) (by omega) hs3025 (by omega))) (fun y3049 h3049 hRy3049 => ?_)
  obtain ⟨hg3049, hy3049, ⟨z3049, hz3049, ez3049⟩, F3049⟩ := hRy3049
  refine y_iF (c := .eq) (off := 5) (len := 3) (r := (0, 0, 0, 0)) (by decide +kernel) (acmpF (c := .eq) (by show ¬ (_ = _); omega)) ?_
  refine y_ic (c := 0) (len := 1) (r := (0, 0, 0, 0)) (by decide +kernel) (by decide) (fun y3050 hy3050 => ?_)
  refine y_rI (len := 1) (r := (0, 0, 0, 0)) (nL := 4) (k := 1) (n9 := 4) (hs := []) (by decide +kernel) rfl rfl ?_
  exact ⟨_, hg3049, RM_up rm (fun k j hC => ((F3049 k j (by omega)).trans (ho3025 k j (by omega)))), fun k j hC => ((F3049 k j (by omega)).trans (ho3025 k j (by omega))), _, hz3049, by omega⟩
theorem m_claimT1 {t : Nat} {τ : List Nat} {h : zh} {cur : bsT} {hs : List bsT} {x xk xw : Int32} (hg : hG τ h) (rm : RM h cur hs) (hx : x.toInt = 1) (hk : ¬ (0 ≤ xk.toInt ∧ xk.toInt < (cur.2.2.length : Int))) : qI 60 196 [some (.inl (some 52)), some (zi x), some (zi xk), some (zi xw)] h t (fun y h1 => ∃ τ1, hG τ1 h1 ∧ RM h1 cur hs ∧ frM h h1 ∧ ∃ z : Int32, hsl h1 52 0 = some (zi z) ∧ z.toInt = 1) := by
  refine qI_le (d := 21) (by decide) (qI_of ?_)
  have lz := len55 hg rm.1
  obtain ⟨⟨xp0z, hp0z, ep0z⟩, ⟨xc0z, hc0z, ec0z⟩, ip0z, ic0z⟩ := rm.1.1
  obtain ⟨⟨xp1z, hp1z, ep1z⟩, ⟨xc1z, hc1z, ec1z⟩, ip1z, ic1z⟩ := rm.1.2
  refine y_same (i := .aload_n 0) (len := 1) (r := (0, 0, 0, 0)) (pc' := 1) (ls' := [some (.inl (some 52)), some (zi x), some (zi xk), some (zi xw)]) (st' := [.inl (some 52)]) (by decide +kernel) (fun k q => by cases q) rfl ?_
  refine y_ic (c := 0) (len := 1) (r := (0, 0, 0, 0)) (by decide +kernel) (by decide) (fun y3051 hy3051 => ?_)
  refine y_put (j := 92) (lo := (-2147483648)) (hi := 2147483647) (len := 3) (r := (12, 0, 0, 1328)) (by decide +kernel) hg (t52 hg) at52 rfl rfl (by decide) rfl (qin_full _).1 (qin_full _).2 rfl (fun h3052 hg3052 hl3052 hs3052 ho3052 => ?_)
  have ho3052 : hO 52 0 h h3052 := ho3052
  have hs3052 : hsl h3052 52 0 = some (zi y3051) := hs3052
  refine y_same (i := .aload_n 0) (len := 1) (r := (0, 0, 0, 0)) (pc' := 6) (ls' := [some (.inl (some 52)), some (zi x), some (zi xk), some (zi xw)]) (st' := [.inl (some 52)]) (by decide +kernel) (fun k q => by cases q) rfl ?_
  refine y_same (i := .iload_n 1) (len := 1) (r := (0, 0, 0, 0)) (pc' := 7) (ls' := [some (.inl (some 52)), some (zi x), some (zi xk), some (zi xw)]) (st' := [zi x, .inl (some 52)]) (by decide +kernel) (fun k q => by cases q) rfl ?_
  refine y_ic (c := 0) (len := 1) (r := (0, 0, 0, 0)) (by decide +kernel) (by decide) (fun y3053 hy3053 => ?_)
  refine y_ic (c := 1) (len := 1) (r := (0, 0, 0, 0)) (by decide +kernel) (by decide) (fun y3054 hy3054 => ?_)
  refine y_cI (i := .invokestatic 200) (len := 3) (r := (1, 162, 12, 1486)) (nL := 3) (k := 2) (n := 3) (hs := []) (args := [zi x, zi y3053, zi y3054]) (rest := [.inl (some 52)]) (l0 := [some (zi x), some (zi y3053), some (zi y3054)]) (by decide +kernel) (Or.inl ⟨_, rfl⟩) rfl rfl rfl rfl (Nat.le_of_ble_eq_true rfl) rfl rfl (qI_le (by decide) (m_in (d := 0) (by omega) (by omega))) (fun y3055 qy3055 hRy3055 => ?_)
  obtain ⟨rfl, hy3055⟩ := hRy3055
  refine y_iF (c := .eq) (off := 29) (len := 3) (r := (0, 0, 0, 0)) (by decide +kernel) (acmpF (c := .eq) (by show ¬ (_ = _); omega)) ?_
  refine y_same (i := .iload_n 2) (len := 1) (r := (0, 0, 0, 0)) (pc' := 16) (ls' := [some (.inl (some 52)), some (zi x), some (zi xk), some (zi xw)]) (st' := [zi xk, .inl (some 52)]) (by decide +kernel) (fun k q => by cases q) rfl ?_
  refine y_ic (c := 0) (len := 1) (r := (0, 0, 0, 0)) (by decide +kernel) (by decide) (fun y3056 hy3056 => ?_)
  refine y_same (i := .aload_n 0) (len := 1) (r := (0, 0, 0, 0)) (pc' := 18) (ls' := [some (.inl (some 52)), some (zi x), some (zi xk), some (zi xw)]) (st' := [.inl (some 52), zi y3056, zi xk, .inl (some 52)]) (by decide +kernel) (fun k q => by cases q) rfl ?_
  refine y_get (j := 20) (len := 3) (r := (12, 9, 2, 1337)) (by decide +kernel) hg3052 (t52 hg3052) at52 rfl rfl (g_r52 (f := 9) (T2 := 55) hg3052 rfl (by decide)).1 ?_
  refine y_ic (c := 1) (len := 1) (r := (0, 0, 0, 0)) (by decide +kernel) (by decide) (fun y3057 hy3057 => ?_)
  refine y_ic (c := 0) (len := 1) (r := (0, 0, 0, 0)) (by decide +kernel) (by decide) (fun y3058 hy3058 => ?_)
  refine y_same (i := .iload_n 1) (len := 1) (r := (0, 0, 0, 0)) (pc' := 24) (ls' := [some (.inl (some 52)), some (zi x), some (zi xk), some (zi xw)]) (st' := [zi x, zi y3058, zi y3057, .inl (some 55), zi y3056, zi xk, .inl (some 52)]) (by decide +kernel) (fun k q => by cases q) rfl ?_
  refine y_cI (i := .invokestatic 230) (len := 3) (r := (1, 164, 12, 1591)) (nL := 2) (k := 1) (n := 2) (hs := []) (args := [zi y3058, zi x]) (rest := [zi y3057, .inl (some 55), zi y3056, zi xk, .inl (some 52)]) (l0 := [some (zi y3058), some (zi x)]) (by decide +kernel) (Or.inl ⟨_, rfl⟩) rfl rfl rfl rfl (Nat.le_of_ble_eq_true rfl) rfl rfl (qI_le (by decide) (e_more (d := 0))) (fun y3059 qy3059 hRy3059 => ?_)
  obtain ⟨rfl, my3059, ny3059⟩ := hRy3059
  have ey3059 : y3059.toInt = 1 := by omega
  refine y_cI (i := .invokestatic 233) (len := 3) (r := (1, 163, 12, 1594)) (nL := 2) (k := 1) (n := 2) (hs := []) (args := [zi y3057, zi y3059]) (rest := [.inl (some 55), zi y3056, zi xk, .inl (some 52)]) (l0 := [some (zi y3057), some (zi y3059)]) (by decide +kernel) (Or.inl ⟨_, rfl⟩) rfl rfl rfl rfl (Nat.le_of_ble_eq_true rfl) rfl rfl (qI_le (by decide) (e_less (d := 0))) (fun y3060 qy3060 hRy3060 => ?_)
  obtain ⟨rfl, my3060, ny3060⟩ := hRy3060
  have ey3060 : y3060.toInt = 1 := by omega
  have hv3062 := (ho3052 55 47 (Or.inl (by omega))).trans hc1z
  refine y_cI (i := .invokestatic 155) (len := 3) (r := (1, 167, 12, 1560)) (nL := 2) (k := 1) (n := 2) (hs := []) (args := [.inl (some 55), zi y3060]) (rest := [zi y3056, zi xk, .inl (some 52)]) (l0 := [some (.inl (some 55)), some (zi y3060)]) (by decide +kernel) (Or.inl ⟨_, rfl⟩) rfl rfl rfl rfl (Nat.le_of_ble_eq_true rfl) rfl rfl (qI_le (by decide) (m_claims (d := 0) (s := 1) hg3052 (by omega) (by omega) hv3062)) (fun y3061 qy3061 hRy3061 => ?_)
  obtain ⟨rfl, rfl⟩ := hRy3061
  refine y_ic (c := 1) (len := 1) (r := (0, 0, 0, 0)) (by decide +kernel) (by decide) (fun y3063 hy3063 => ?_)
  refine y_sub (len := 1) (r := (0, 0, 0, 0)) (by decide +kernel) (by omega) (by omega) (fun y3064 hy3064 => ?_)
  refine y_cI (i := .invokestatic 200) (len := 3) (r := (1, 162, 12, 1486)) (nL := 3) (k := 2) (n := 3) (hs := []) (args := [zi xk, zi y3056, zi y3064]) (rest := [.inl (some 52)]) (l0 := [some (zi xk), some (zi y3056), some (zi y3064)]) (by decide +kernel) (Or.inl ⟨_, rfl⟩) rfl rfl rfl rfl (Nat.le_of_ble_eq_true rfl) rfl rfl (qI_le (by decide) (m_in0 (d := 0) (by omega))) (fun y3065 qy3065 hRy3065 => ?_)
  obtain ⟨rfl, hy3065⟩ := hRy3065
  refine y_iF (c := .ne) (off := 7) (len := 3) (r := (0, 0, 0, 0)) (by decide +kernel) (acmpF (c := .ne) (by show _ = _; omega)) ?_
  refine y_ic (c := 1) (len := 1) (r := (0, 0, 0, 0)) (by decide +kernel) (by decide) (fun y3066 hy3066 => ?_)
  refine y_goto (off := 4) (pc' := 46) (len := 3) (r := (0, 0, 0, 0)) (by decide +kernel) (by decide +kernel) ?_
  refine y_ic (c := 1) (len := 1) (r := (0, 0, 0, 0)) (by decide +kernel) (by decide) (fun y3067 hy3067 => ?_)
  refine y_ic (c := 0) (len := 1) (r := (0, 0, 0, 0)) (by decide +kernel) (by decide) (fun y3068 hy3068 => ?_)
  refine y_cI (i := .invokevirtual 204) (len := 3) (r := (0, 161, 12, 1489)) (nL := 4) (k := 2) (n := 4) (hs := []) (args := [.inl (some 52), zi y3066, zi y3067, zi y3068]) (rest := []) (l0 := [some (.inl (some 52)), some (zi y3066), some (zi y3067), some (zi y3068)]) (by decide +kernel) (Or.inr (Or.inl ⟨_, rfl⟩)) rfl rfl rfl rfl (Nat.le_of_ble_eq_true rfl) (z52 hg3052) rfl (qI_le (by decide) (m_bad1 (d := 0) (e := 0) hg3052 (by omega) (by omega) (by omega) (by omega) hs3052 (by omega))) (fun y3069 h3069 hRy3069 => ?_)
  obtain ⟨hg3069, hy3069, ⟨z3069, hz3069, ez3069⟩, F3069⟩ := hRy3069
  refine y_iT (c := .ne) (off := 26) (pc' := 77) (len := 3) (r := (0, 0, 0, 0)) (by decide +kernel) (acmpT (c := .ne) (by show ¬ (_ = _); omega)) (by decide +kernel) ?_
  refine y_ic (c := 0) (len := 1) (r := (0, 0, 0, 0)) (by decide +kernel) (by decide) (fun y3070 hy3070 => ?_)
  refine y_rI (len := 1) (r := (0, 0, 0, 0)) (nL := 4) (k := 1) (n9 := 4) (hs := []) (by decide +kernel) rfl rfl ?_
  exact ⟨_, hg3069, RM_up rm (fun k j hC => ((F3069 k j (by omega)).trans (ho3052 k j (by omega)))), fun k j hC => ((F3069 k j (by omega)).trans (ho3052 k j (by omega))), _, hz3069, by omega⟩
theorem m_claimW1 {t : Nat} {τ : List Nat} {h : zh} {cur : bsT} {hs : List bsT} {x xk xw : Int32} (hg : hG τ h) (rm : RM h cur hs) (hx : x.toInt = 1) (hk : 0 ≤ xk.toInt ∧ xk.toInt < (cur.2.2.length : Int)) (hw : ¬ (0 ≤ xw.toInt ∧ xw.toInt ≤ 2)) : qI 60 196 [some (.inl (some 52)), some (zi x), some (zi xk), some (zi xw)] h t (fun y h1 => ∃ τ1, hG τ1 h1 ∧ RM h1 cur hs ∧ frM h h1 ∧ ∃ z : Int32, hsl h1 52 0 = some (zi z) ∧ z.toInt = 2) := by
  refine qI_le (d := 21) (by decide) (qI_of ?_)
  have lz := len55 hg rm.1
  obtain ⟨⟨xp0z, hp0z, ep0z⟩, ⟨xc0z, hc0z, ec0z⟩, ip0z, ic0z⟩ := rm.1.1
  obtain ⟨⟨xp1z, hp1z, ep1z⟩, ⟨xc1z, hc1z, ec1z⟩, ip1z, ic1z⟩ := rm.1.2
  refine y_same (i := .aload_n 0) (len := 1) (r := (0, 0, 0, 0)) (pc' := 1) (ls' := [some (.inl (some 52)), some (zi x), some (zi xk), some (zi xw)]) (st' := [.inl (some 52)]) (by decide +kernel) (fun k q => by cases q) rfl ?_
  refine y_ic (c := 0) (len := 1) (r := (0, 0, 0, 0)) (by decide +kernel) (by decide) (fun y3071 hy3071 => ?_)
  refine y_put (j := 92) (lo := (-2147483648)) (hi := 2147483647) (len := 3) (r := (12, 0, 0, 1328)) (by decide +kernel) hg (t52 hg) at52 rfl rfl (by decide) rfl (qin_full _).1 (qin_full _).2 rfl (fun h3072 hg3072 hl3072 hs3072 ho3072 => ?_)
  have ho3072 : hO 52 0 h h3072 := ho3072
  have hs3072 : hsl h3072 52 0 = some (zi y3071) := hs3072
  refine y_same (i := .aload_n 0) (len := 1) (r := (0, 0, 0, 0)) (pc' := 6) (ls' := [some (.inl (some 52)), some (zi x), some (zi xk), some (zi xw)]) (st' := [.inl (some 52)]) (by decide +kernel) (fun k q => by cases q) rfl ?_
  refine y_same (i := .iload_n 1) (len := 1) (r := (0, 0, 0, 0)) (pc' := 7) (ls' := [some (.inl (some 52)), some (zi x), some (zi xk), some (zi xw)]) (st' := [zi x, .inl (some 52)]) (by decide +kernel) (fun k q => by cases q) rfl ?_
  refine y_ic (c := 0) (len := 1) (r := (0, 0, 0, 0)) (by decide +kernel) (by decide) (fun y3073 hy3073 => ?_)
  refine y_ic (c := 1) (len := 1) (r := (0, 0, 0, 0)) (by decide +kernel) (by decide) (fun y3074 hy3074 => ?_)
  refine y_cI (i := .invokestatic 200) (len := 3) (r := (1, 162, 12, 1486)) (nL := 3) (k := 2) (n := 3) (hs := []) (args := [zi x, zi y3073, zi y3074]) (rest := [.inl (some 52)]) (l0 := [some (zi x), some (zi y3073), some (zi y3074)]) (by decide +kernel) (Or.inl ⟨_, rfl⟩) rfl rfl rfl rfl (Nat.le_of_ble_eq_true rfl) rfl rfl (qI_le (by decide) (m_in (d := 0) (by omega) (by omega))) (fun y3075 qy3075 hRy3075 => ?_)
  obtain ⟨rfl, hy3075⟩ := hRy3075
  refine y_iF (c := .eq) (off := 29) (len := 3) (r := (0, 0, 0, 0)) (by decide +kernel) (acmpF (c := .eq) (by show ¬ (_ = _); omega)) ?_
  refine y_same (i := .iload_n 2) (len := 1) (r := (0, 0, 0, 0)) (pc' := 16) (ls' := [some (.inl (some 52)), some (zi x), some (zi xk), some (zi xw)]) (st' := [zi xk, .inl (some 52)]) (by decide +kernel) (fun k q => by cases q) rfl ?_
  refine y_ic (c := 0) (len := 1) (r := (0, 0, 0, 0)) (by decide +kernel) (by decide) (fun y3076 hy3076 => ?_)
  refine y_same (i := .aload_n 0) (len := 1) (r := (0, 0, 0, 0)) (pc' := 18) (ls' := [some (.inl (some 52)), some (zi x), some (zi xk), some (zi xw)]) (st' := [.inl (some 52), zi y3076, zi xk, .inl (some 52)]) (by decide +kernel) (fun k q => by cases q) rfl ?_
  refine y_get (j := 20) (len := 3) (r := (12, 9, 2, 1337)) (by decide +kernel) hg3072 (t52 hg3072) at52 rfl rfl (g_r52 (f := 9) (T2 := 55) hg3072 rfl (by decide)).1 ?_
  refine y_ic (c := 1) (len := 1) (r := (0, 0, 0, 0)) (by decide +kernel) (by decide) (fun y3077 hy3077 => ?_)
  refine y_ic (c := 0) (len := 1) (r := (0, 0, 0, 0)) (by decide +kernel) (by decide) (fun y3078 hy3078 => ?_)
  refine y_same (i := .iload_n 1) (len := 1) (r := (0, 0, 0, 0)) (pc' := 24) (ls' := [some (.inl (some 52)), some (zi x), some (zi xk), some (zi xw)]) (st' := [zi x, zi y3078, zi y3077, .inl (some 55), zi y3076, zi xk, .inl (some 52)]) (by decide +kernel) (fun k q => by cases q) rfl ?_
  refine y_cI (i := .invokestatic 230) (len := 3) (r := (1, 164, 12, 1591)) (nL := 2) (k := 1) (n := 2) (hs := []) (args := [zi y3078, zi x]) (rest := [zi y3077, .inl (some 55), zi y3076, zi xk, .inl (some 52)]) (l0 := [some (zi y3078), some (zi x)]) (by decide +kernel) (Or.inl ⟨_, rfl⟩) rfl rfl rfl rfl (Nat.le_of_ble_eq_true rfl) rfl rfl (qI_le (by decide) (e_more (d := 0))) (fun y3079 qy3079 hRy3079 => ?_)
  obtain ⟨rfl, my3079, ny3079⟩ := hRy3079
  have ey3079 : y3079.toInt = 1 := by omega
  refine y_cI (i := .invokestatic 233) (len := 3) (r := (1, 163, 12, 1594)) (nL := 2) (k := 1) (n := 2) (hs := []) (args := [zi y3077, zi y3079]) (rest := [.inl (some 55), zi y3076, zi xk, .inl (some 52)]) (l0 := [some (zi y3077), some (zi y3079)]) (by decide +kernel) (Or.inl ⟨_, rfl⟩) rfl rfl rfl rfl (Nat.le_of_ble_eq_true rfl) rfl rfl (qI_le (by decide) (e_less (d := 0))) (fun y3080 qy3080 hRy3080 => ?_)
  obtain ⟨rfl, my3080, ny3080⟩ := hRy3080
  have ey3080 : y3080.toInt = 1 := by omega
  have hv3082 := (ho3072 55 47 (Or.inl (by omega))).trans hc1z
  refine y_cI (i := .invokestatic 155) (len := 3) (r := (1, 167, 12, 1560)) (nL := 2) (k := 1) (n := 2) (hs := []) (args := [.inl (some 55), zi y3080]) (rest := [zi y3076, zi xk, .inl (some 52)]) (l0 := [some (.inl (some 55)), some (zi y3080)]) (by decide +kernel) (Or.inl ⟨_, rfl⟩) rfl rfl rfl rfl (Nat.le_of_ble_eq_true rfl) rfl rfl (qI_le (by decide) (m_claims (d := 0) (s := 1) hg3072 (by omega) (by omega) hv3082)) (fun y3081 qy3081 hRy3081 => ?_)
  obtain ⟨rfl, rfl⟩ := hRy3081
  refine y_ic (c := 1) (len := 1) (r := (0, 0, 0, 0)) (by decide +kernel) (by decide) (fun y3083 hy3083 => ?_)
  refine y_sub (len := 1) (r := (0, 0, 0, 0)) (by decide +kernel) (by omega) (by omega) (fun y3084 hy3084 => ?_)
  refine y_cI (i := .invokestatic 200) (len := 3) (r := (1, 162, 12, 1486)) (nL := 3) (k := 2) (n := 3) (hs := []) (args := [zi xk, zi y3076, zi y3084]) (rest := [.inl (some 52)]) (l0 := [some (zi xk), some (zi y3076), some (zi y3084)]) (by decide +kernel) (Or.inl ⟨_, rfl⟩) rfl rfl rfl rfl (Nat.le_of_ble_eq_true rfl) rfl rfl (qI_le (by decide) (m_in (d := 0) (by omega) (by omega))) (fun y3085 qy3085 hRy3085 => ?_)
  obtain ⟨rfl, hy3085⟩ := hRy3085
  refine y_iT (c := .ne) (off := 7) (pc' := 45) (len := 3) (r := (0, 0, 0, 0)) (by decide +kernel) (acmpT (c := .ne) (by show ¬ (_ = _); omega)) (by decide +kernel) ?_
  refine y_ic (c := 0) (len := 1) (r := (0, 0, 0, 0)) (by decide +kernel) (by decide) (fun y3086 hy3086 => ?_)
  refine y_ic (c := 1) (len := 1) (r := (0, 0, 0, 0)) (by decide +kernel) (by decide) (fun y3087 hy3087 => ?_)
  refine y_ic (c := 0) (len := 1) (r := (0, 0, 0, 0)) (by decide +kernel) (by decide) (fun y3088 hy3088 => ?_)
  refine y_cI (i := .invokevirtual 204) (len := 3) (r := (0, 161, 12, 1489)) (nL := 4) (k := 2) (n := 4) (hs := []) (args := [.inl (some 52), zi y3086, zi y3087, zi y3088]) (rest := []) (l0 := [some (.inl (some 52)), some (zi y3086), some (zi y3087), some (zi y3088)]) (by decide +kernel) (Or.inr (Or.inl ⟨_, rfl⟩)) rfl rfl rfl rfl (Nat.le_of_ble_eq_true rfl) (z52 hg3072) rfl (qI_le (by decide) (m_bad (d := 0) hg3072 (by omega) hs3072 (by omega))) (fun y3089 qy3089 hRy3089 => ?_)
  obtain ⟨rfl, hy3089⟩ := hRy3089
  refine y_iF (c := .ne) (off := 26) (len := 3) (r := (0, 0, 0, 0)) (by decide +kernel) (acmpF (c := .ne) (by show _ = _; omega)) ?_
  refine y_same (i := .aload_n 0) (len := 1) (r := (0, 0, 0, 0)) (pc' := 55) (ls' := [some (.inl (some 52)), some (zi x), some (zi xk), some (zi xw)]) (st' := [.inl (some 52)]) (by decide +kernel) (fun k q => by cases q) rfl ?_
  refine y_same (i := .iload_n 3) (len := 1) (r := (0, 0, 0, 0)) (pc' := 56) (ls' := [some (.inl (some 52)), some (zi x), some (zi xk), some (zi xw)]) (st' := [zi xw, .inl (some 52)]) (by decide +kernel) (fun k q => by cases q) rfl ?_
  refine y_ic (c := 0) (len := 1) (r := (0, 0, 0, 0)) (by decide +kernel) (by decide) (fun y3090 hy3090 => ?_)
  refine y_ic (c := 2) (len := 1) (r := (0, 0, 0, 0)) (by decide +kernel) (by decide) (fun y3091 hy3091 => ?_)
  refine y_cI (i := .invokestatic 200) (len := 3) (r := (1, 162, 12, 1486)) (nL := 3) (k := 2) (n := 3) (hs := []) (args := [zi xw, zi y3090, zi y3091]) (rest := [.inl (some 52)]) (l0 := [some (zi xw), some (zi y3090), some (zi y3091)]) (by decide +kernel) (Or.inl ⟨_, rfl⟩) rfl rfl rfl rfl (Nat.le_of_ble_eq_true rfl) rfl rfl (qI_le (by decide) (m_in0 (d := 0) (by omega))) (fun y3092 qy3092 hRy3092 => ?_)
  obtain ⟨rfl, hy3092⟩ := hRy3092
  refine y_iF (c := .ne) (off := 7) (len := 3) (r := (0, 0, 0, 0)) (by decide +kernel) (acmpF (c := .ne) (by show _ = _; omega)) ?_
  refine y_ic (c := 1) (len := 1) (r := (0, 0, 0, 0)) (by decide +kernel) (by decide) (fun y3093 hy3093 => ?_)
  refine y_goto (off := 4) (pc' := 69) (len := 3) (r := (0, 0, 0, 0)) (by decide +kernel) (by decide +kernel) ?_
  refine y_ic (c := 2) (len := 1) (r := (0, 0, 0, 0)) (by decide +kernel) (by decide) (fun y3094 hy3094 => ?_)
  refine y_ic (c := 1) (len := 1) (r := (0, 0, 0, 0)) (by decide +kernel) (by decide) (fun y3095 hy3095 => ?_)
  refine y_cI (i := .invokevirtual 204) (len := 3) (r := (0, 161, 12, 1489)) (nL := 4) (k := 2) (n := 4) (hs := []) (args := [.inl (some 52), zi y3093, zi y3094, zi y3095]) (rest := []) (l0 := [some (.inl (some 52)), some (zi y3093), some (zi y3094), some (zi y3095)]) (by decide +kernel) (Or.inr (Or.inl ⟨_, rfl⟩)) rfl rfl rfl rfl (Nat.le_of_ble_eq_true rfl) (z52 hg3072) rfl (qI_le (by decide) (m_bad1 (d := 0) (e := 1) hg3072 (by omega) (by omega) (by omega) (by omega) hs3072 (by omega))) (fun y3096 h3096 hRy3096 => ?_)
  obtain ⟨hg3096, hy3096, ⟨z3096, hz3096, ez3096⟩, F3096⟩ := hRy3096
  refine y_iF (c := .eq) (off := 5) (len := 3) (r := (0, 0, 0, 0)) (by decide +kernel) (acmpF (c := .eq) (by show ¬ (_ = _); omega)) ?_
  refine y_ic (c := 0) (len := 1) (r := (0, 0, 0, 0)) (by decide +kernel) (by decide) (fun y3097 hy3097 => ?_)
  refine y_rI (len := 1) (r := (0, 0, 0, 0)) (nL := 4) (k := 1) (n9 := 4) (hs := []) (by decide +kernel) rfl rfl ?_
  exact ⟨_, hg3096, RM_up rm (fun k j hC => ((F3096 k j (by omega)).trans (ho3072 k j (by omega)))), fun k j hC => ((F3096 k j (by omega)).trans (ho3072 k j (by omega))), _, hz3096, by omega⟩
theorem m_claimT {t : Nat} {τ : List Nat} {h : zh} {cur : bsT} {hs : List bsT} {x xk xw : Int32} (hg : hG τ h) (rm : RM h cur hs) (hx : ¬ (x.toInt = 0 ∨ x.toInt = 1)) : qI 60 196 [some (.inl (some 52)), some (zi x), some (zi xk), some (zi xw)] h t (fun y h1 => ∃ τ1, hG τ1 h1 ∧ RM h1 cur hs ∧ frM h h1 ∧ ∃ z : Int32, hsl h1 52 0 = some (zi z) ∧ z.toInt = 1) := by
  refine qI_le (d := 21) (by decide) (qI_of ?_)
  have lz := len55 hg rm.1
  obtain ⟨⟨xp0z, hp0z, ep0z⟩, ⟨xc0z, hc0z, ec0z⟩, ip0z, ic0z⟩ := rm.1.1
  obtain ⟨⟨xp1z, hp1z, ep1z⟩, ⟨xc1z, hc1z, ec1z⟩, ip1z, ic1z⟩ := rm.1.2
  refine y_same (i := .aload_n 0) (len := 1) (r := (0, 0, 0, 0)) (pc' := 1) (ls' := [some (.inl (some 52)), some (zi x), some (zi xk), some (zi xw)]) (st' := [.inl (some 52)]) (by decide +kernel) (fun k q => by cases q) rfl ?_
  refine y_ic (c := 0) (len := 1) (r := (0, 0, 0, 0)) (by decide +kernel) (by decide) (fun y3098 hy3098 => ?_)
  refine y_put (j := 92) (lo := (-2147483648)) (hi := 2147483647) (len := 3) (r := (12, 0, 0, 1328)) (by decide +kernel) hg (t52 hg) at52 rfl rfl (by decide) rfl (qin_full _).1 (qin_full _).2 rfl (fun h3099 hg3099 hl3099 hs3099 ho3099 => ?_)
  have ho3099 : hO 52 0 h h3099 := ho3099
  have hs3099 : hsl h3099 52 0 = some (zi y3098) := hs3099
  refine y_same (i := .aload_n 0) (len := 1) (r := (0, 0, 0, 0)) (pc' := 6) (ls' := [some (.inl (some 52)), some (zi x), some (zi xk), some (zi xw)]) (st' := [.inl (some 52)]) (by decide +kernel) (fun k q => by cases q) rfl ?_
  refine y_same (i := .iload_n 1) (len := 1) (r := (0, 0, 0, 0)) (pc' := 7) (ls' := [some (.inl (some 52)), some (zi x), some (zi xk), some (zi xw)]) (st' := [zi x, .inl (some 52)]) (by decide +kernel) (fun k q => by cases q) rfl ?_
  refine y_ic (c := 0) (len := 1) (r := (0, 0, 0, 0)) (by decide +kernel) (by decide) (fun y3100 hy3100 => ?_)
  refine y_ic (c := 1) (len := 1) (r := (0, 0, 0, 0)) (by decide +kernel) (by decide) (fun y3101 hy3101 => ?_)
  refine y_cI (i := .invokestatic 200) (len := 3) (r := (1, 162, 12, 1486)) (nL := 3) (k := 2) (n := 3) (hs := []) (args := [zi x, zi y3100, zi y3101]) (rest := [.inl (some 52)]) (l0 := [some (zi x), some (zi y3100), some (zi y3101)]) (by decide +kernel) (Or.inl ⟨_, rfl⟩) rfl rfl rfl rfl (Nat.le_of_ble_eq_true rfl) rfl rfl (qI_le (by decide) (m_in0 (d := 0) (by omega))) (fun y3102 qy3102 hRy3102 => ?_)
  obtain ⟨rfl, hy3102⟩ := hRy3102
  refine y_iT (c := .eq) (off := 29) (pc' := 41) (len := 3) (r := (0, 0, 0, 0)) (by decide +kernel) (acmpT (c := .eq) (by show _ = _; omega)) (by decide +kernel) ?_
  refine y_ic (c := 1) (len := 1) (r := (0, 0, 0, 0)) (by decide +kernel) (by decide) (fun y3103 hy3103 => ?_)
  refine y_goto (off := 4) (pc' := 46) (len := 3) (r := (0, 0, 0, 0)) (by decide +kernel) (by decide +kernel) ?_
  refine y_ic (c := 1) (len := 1) (r := (0, 0, 0, 0)) (by decide +kernel) (by decide) (fun y3104 hy3104 => ?_)
  refine y_ic (c := 0) (len := 1) (r := (0, 0, 0, 0)) (by decide +kernel) (by decide) (fun y3105 hy3105 => ?_)
  refine y_cI (i := .invokevirtual 204) (len := 3) (r := (0, 161, 12, 1489)) (nL := 4) (k := 2) (n := 4) (hs := []) (args := [.inl (some 52), zi y3103, zi y3104, zi y3105]) (rest := []) (l0 := [some (.inl (some 52)), some (zi y3103), some (zi y3104), some (zi y3105)]) (by decide +kernel) (Or.inr (Or.inl ⟨_, rfl⟩)) rfl rfl rfl rfl (Nat.le_of_ble_eq_true rfl) (z52 hg3099) rfl (qI_le (by decide) (m_bad1 (d := 0) (e := 0) hg3099 (by omega) (by omega) (by omega) (by omega) hs3099 (by omega))) (fun y3106 h3106 hRy3106 => ?_)
  obtain ⟨hg3106, hy3106, ⟨z3106, hz3106, ez3106⟩, F3106⟩ := hRy3106
  refine y_iT (c := .ne) (off := 26) (pc' := 77) (len := 3) (r := (0, 0, 0, 0)) (by decide +kernel) (acmpT (c := .ne) (by show ¬ (_ = _); omega)) (by decide +kernel) ?_
  refine y_ic (c := 0) (len := 1) (r := (0, 0, 0, 0)) (by decide +kernel) (by decide) (fun y3107 hy3107 => ?_)
  refine y_rI (len := 1) (r := (0, 0, 0, 0)) (nL := 4) (k := 1) (n9 := 4) (hs := []) (by decide +kernel) rfl rfl ?_
  exact ⟨_, hg3106, RM_up rm (fun k j hC => ((F3106 k j (by omega)).trans (ho3099 k j (by omega)))), fun k j hC => ((F3106 k j (by omega)).trans (ho3099 k j (by omega))), _, hz3106, by omega⟩
def claimT_ (cur : bsT) (x k w : Int) : Int := if (x = 0 ∧ 0 ≤ k ∧ k < (cur.1.2.length : Int)) ∨ (x = 1 ∧ 0 ≤ k ∧ k < (cur.2.2.length : Int)) then (if 0 ≤ w ∧ w ≤ 2 then 0 else 2) else 1
def claimV_ (cur : bsT) (x k w : Int) : Int := cmp_ (((if x = 0 then cur.1.2 else cur.2.2)[k.toNat]?).getD (0, 0, 0, 0)) w.toNat
theorem lx_claimC {t T : Nat} {τ : List Nat} {h : zh} {cur : bsT} {hs : List bsT} (hg : hG τ h) (i0 : IV h T) {x xk xw : Int32} (rc : RC h cur hs) (rm : RM h cur hs) : ∃ (y : Int32) (h1 : zh) (t1 : Nat), qE 60 281 [some (.inl (some 0)), some (zi x), some (zi xk), some (zi xw), some (.inl (some 388)), none] h t (.inl (some (zi y)), h1, t1) ∧ t1 ≤ t + 1 ∧ ∃ τ1, hG τ1 h1 ∧ IV h1 T ∧ RC h1 cur hs ∧ RM h1 cur hs ∧ y.toInt = claimT_ cur x.toInt xk.toInt xw.toInt ∧ (y.toInt = 0 → ∃ z : Int32, ou_ h1 z ∧ z.toInt = claimV_ cur x.toInt xk.toInt xw.toInt) := by
  obtain ⟨o1, o2, o3, o4⟩ := RM_ok hg rm
  unfold claimT_ claimV_
  rcases Decidable.em ((x.toInt = 0 ∧ 0 ≤ xk.toInt ∧ xk.toInt < (cur.1.2.length : Int)) ∨ (x.toInt = 1 ∧ 0 ≤ xk.toInt ∧ xk.toInt < (cur.2.2.length : Int))) with hb | hb
  · rw [if_pos hb]
    rcases Decidable.em (0 ≤ xw.toInt ∧ xw.toInt ≤ 2) with hw | hw
    · rw [if_pos hw]
      rcases hb with ⟨b1, b2, b3⟩ | ⟨b1, b2, b3⟩
      · have hk := List.getElem?_eq_getElem (l := cur.1.2) (i := xk.toInt.toNat) (by omega)
        obtain ⟨y, h1, e, g1, ey, F, z, hz, ez⟩ := c_lclaim (t := t) hg (c_claim0 (k := xk.toInt.toNat) (w := xw.toInt.toNat) (xk := xk) (xw := xw) hg rc i0.2.2.2.1 b1 (by omega) hk (o2 _ _ hk) (by omega) (by omega))
        have f : frC h h1 := fun k j hC => F k j (by omega)
        refine ⟨y, h1, t, e, by omega, τ, g1, frC_IV f i0, RC_up rc (fun k j hC => F2 F k j (by omega)), frC_RM f rm, ey, fun _ => ⟨z, hz, ?_⟩⟩
        rw [if_pos b1, hk]
        exact ez
      · have hk := List.getElem?_eq_getElem (l := cur.2.2) (i := xk.toInt.toNat) (by omega)
        obtain ⟨y, h1, e, g1, ey, F, z, hz, ez⟩ := c_lclaim (t := t) hg (c_claim1 (k := xk.toInt.toNat) (w := xw.toInt.toNat) (xk := xk) (xw := xw) hg rc i0.2.2.2.1 b1 (by omega) hk (o4 _ _ hk) (by omega) (by omega))
        have f : frC h h1 := fun k j hC => F k j (by omega)
        refine ⟨y, h1, t, e, by omega, τ, g1, frC_IV f i0, RC_up rc (fun k j hC => F2 F k j (by omega)), frC_RM f rm, ey, fun _ => ⟨z, hz, ?_⟩⟩
        rw [if_neg (show ¬ x.toInt = 0 by omega), hk]
        exact ez
    · rw [if_neg hw]
      obtain ⟨y, h1, e, ey, g1, F⟩ := c_lclaimW (t := t) hg rc i0.2.2.2.1 hb hw
      have f : frC h h1 := fun k j hC => F k j (by omega)
      exact ⟨y, h1, t + 1, e, by omega, τ, g1, frC_IV f i0, RC_up rc (fun k j hC => F k j (by omega)), frC_RM f rm, ey, fun q9 => by omega⟩
  · rw [if_neg hb]
    obtain ⟨y, h1, e, ey, g1, F⟩ := c_lclaimX (t := t) (xw := xw) hg rc i0.2.2.2.1 hb
    have f : frC h h1 := fun k j hC => F k j (by omega)
    exact ⟨y, h1, t + 1, e, by omega, τ, g1, frC_IV f i0, RC_up rc (fun k j hC => F k j (by omega)), frC_RM f rm, ey, fun q9 => by omega⟩
theorem lx_claimM {t T : Nat} {τ : List Nat} {h : zh} {cur : bsT} {hs : List bsT} (hg : hG τ h) (i0 : IV h T) {x xk xw : Int32} {c' : bsT} {hs' : List bsT} (rc : RC h c' hs') (rm : RM h cur hs) : ∃ (y : Int32) (h1 : zh) (t1 : Nat), qE 60 196 [some (.inl (some 52)), some (zi x), some (zi xk), some (zi xw)] h t (.inl (some (zi y)), h1, t1) ∧ t1 ≤ t + 0 ∧ ∃ τ1, hG τ1 h1 ∧ IV h1 T ∧ RC h1 c' hs' ∧ RM h1 cur hs ∧ hsl h1 388 0 = hsl h 388 0 ∧ (∃ z : Int32, hsl h1 52 0 = some (zi z) ∧ z.toInt = claimT_ cur x.toInt xk.toInt xw.toInt) ∧ (claimT_ cur x.toInt xk.toInt xw.toInt = 0 → y.toInt = claimV_ cur x.toInt xk.toInt xw.toInt) := by
  unfold claimT_ claimV_
  rcases Decidable.em ((x.toInt = 0 ∧ 0 ≤ xk.toInt ∧ xk.toInt < (cur.1.2.length : Int)) ∨ (x.toInt = 1 ∧ 0 ≤ xk.toInt ∧ xk.toInt < (cur.2.2.length : Int))) with hb | hb
  · rw [if_pos hb]
    rcases Decidable.em (0 ≤ xw.toInt ∧ xw.toInt ≤ 2) with hw | hw
    · rw [if_pos hw]
      rcases hb with ⟨b1, b2, b3⟩ | ⟨b1, b2, b3⟩
      · have hk := List.getElem?_eq_getElem (l := cur.1.2) (i := xk.toInt.toNat) (by omega)
        obtain ⟨y, h1, e, τ1, g1, m, f, ey, z⟩ := m_claim0 (t := t) (k := xk.toInt.toNat) (w := xw.toInt.toNat) (xk := xk) (xw := xw) hg rm b1 (by omega) hk (by omega) (by omega)
        refine ⟨y, h1, t, e, by omega, τ1, g1, frM_IV f i0, frM_RC f rc, m, f 388 0 (by omega), z, fun _ => ?_⟩
        rw [if_pos b1, hk]
        exact ey
      · have hk := List.getElem?_eq_getElem (l := cur.2.2) (i := xk.toInt.toNat) (by omega)
        obtain ⟨y, h1, e, τ1, g1, m, f, ey, z⟩ := m_claim1 (t := t) (k := xk.toInt.toNat) (w := xw.toInt.toNat) (xk := xk) (xw := xw) hg rm b1 (by omega) hk (by omega) (by omega)
        refine ⟨y, h1, t, e, by omega, τ1, g1, frM_IV f i0, frM_RC f rc, m, f 388 0 (by omega), z, fun _ => ?_⟩
        rw [if_neg (show ¬ x.toInt = 0 by omega), hk]
        exact ey
    · rw [if_neg hw]
      have key : qI 60 196 [some (.inl (some 52)), some (zi x), some (zi xk), some (zi xw)] h t (fun y h1 => ∃ τ1, hG τ1 h1 ∧ RM h1 cur hs ∧ frM h h1 ∧ ∃ z : Int32, hsl h1 52 0 = some (zi z) ∧ z.toInt = 2) := by
        rcases hb with ⟨b1, b2⟩ | ⟨b1, b2⟩
        · exact m_claimW0 hg rm b1 b2 hw
        · exact m_claimW1 hg rm b1 b2 hw
      obtain ⟨y, h1, e, τ1, g1, m, f, z⟩ := key
      exact ⟨y, h1, t, e, by omega, τ1, g1, frM_IV f i0, frM_RC f rc, m, f 388 0 (by omega), z, fun q9 => absurd q9 (by decide)⟩
  · rw [if_neg hb]
    have key : qI 60 196 [some (.inl (some 52)), some (zi x), some (zi xk), some (zi xw)] h t (fun y h1 => ∃ τ1, hG τ1 h1 ∧ RM h1 cur hs ∧ frM h h1 ∧ ∃ z : Int32, hsl h1 52 0 = some (zi z) ∧ z.toInt = 1) := by
      rcases Decidable.em (x.toInt = 0) with q | q
      · exact m_claimT0 hg rm q (by omega)
      · rcases Decidable.em (x.toInt = 1) with q1 | q1
        · exact m_claimT1 hg rm q1 (by omega)
        · exact m_claimT hg rm (by omega)
    obtain ⟨y, h1, e, τ1, g1, m, f, z⟩ := key
    exact ⟨y, h1, t, e, by omega, τ1, g1, frM_IV f i0, frM_RC f rc, m, f 388 0 (by omega), z, fun q9 => absurd q9 (by decide)⟩
