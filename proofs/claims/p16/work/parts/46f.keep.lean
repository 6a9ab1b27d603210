/-! keep: Sides are made where there are none -/
def sidesC (n : Nat) : zh := [.inr (9, [.inl (some (n + 1)), .inl (some (n + 6))]), .inr (8, [.inl (some (n + 2)), .inl (some (n + 4))]), .inr (6, [.inl (some (n + 3)), zi 0]), .inl (0, List.replicate 5 (zi 0)), .inr (6, [.inl (some (n + 5)), zi 0]), .inl (0, List.replicate 6 (zi 0)), .inr (8, [.inl (some (n + 7)), .inl (some (n + 9))]), .inr (6, [.inl (some (n + 8)), zi 0]), .inl (0, List.replicate 5 (zi 0)), .inr (6, [.inl (some (n + 10)), zi 0]), .inl (0, List.replicate 6 (zi 0))]
def sidesT : List Nat := [1000, 1001, 1002, 1005, 1003, 1006, 1001, 1002, 1005, 1003, 1006]
theorem at1000 : atyp 1000 = some (.inr (9, [.inr (.inl (1001, false)), .inr (.inl (1001, false))])) := rfl
theorem at1001 : atyp 1001 = some (.inr (8, [.inr (.inl (1002, false)), .inr (.inl (1003, false))])) := rfl
theorem at1002 : atyp 1002 = some (.inr (6, [.inr (.inl (1005, false)), .inl (0, 5)])) := rfl
theorem at1003 : atyp 1003 = some (.inr (6, [.inr (.inl (1006, false)), .inl (0, 6)])) := rfl
theorem at1005 : atyp 1005 = some (.inl (0, 5, [(5, .inl (-2147483648, 2147483647))])) := rfl
theorem at1006 : atyp 1006 = some (.inl (0, 6, [(6, .inl (-2147483648, 2147483647))])) := rfl
theorem at13 : atyp 13 = some (.inr (2, [.inr (.inl (14, false)), .inl (-2147483648, 2147483647), .inl (-2147483648, 2147483647)])) := rfl
theorem at14 : atyp 14 = some (.inl (3, 10, [(10, .inr (.inl (1000, true)))])) := rfl
theorem sides_ty {τ : List Nat} {h : zh} (hM9 : hM τ h) (hb : h.length + 11 ≤ 100000) : hM (τ ++ sidesT) (h ++ sidesC h.length) := by
  have hp : ∀ (j T : Nat), sidesT[j]? = some T → (τ ++ sidesT)[h.length + j]? = some T := fun j T hj => by
    rw [app_at hM9.1]
    exact hj
  have row5 : ∀ j : Nat, sidesT[j]? = some 1005 → tyc (τ ++ sidesT) 1002 (.inr (6, [.inl (some (h.length + j)), zi 0])) := fun j hj => tyc_of at1002 ⟨Or.inr ⟨_, rfl, hp j _ hj⟩, ⟨0, rfl, by decide, by decide⟩, trivial⟩
  have row6 : ∀ j : Nat, sidesT[j]? = some 1006 → tyc (τ ++ sidesT) 1003 (.inr (6, [.inl (some (h.length + j)), zi 0])) := fun j hj => tyc_of at1003 ⟨Or.inr ⟨_, rfl, hp j _ hj⟩, ⟨0, rfl, by decide, by decide⟩, trivial⟩
  refine hM_app hM9 rfl hb (fun k T hk => ?_)
  match k, hk with
  | 0, hk => cases hk; exact ⟨by decide, _, rfl, tyc_of at1000 ⟨Or.inr ⟨_, rfl, hp 1 _ rfl⟩, Or.inr ⟨_, rfl, hp 6 _ rfl⟩, trivial⟩⟩
  | 1, hk => cases hk; exact ⟨by decide, _, rfl, tyc_of at1001 ⟨Or.inr ⟨_, rfl, hp 2 _ rfl⟩, Or.inr ⟨_, rfl, hp 4 _ rfl⟩, trivial⟩⟩
  | 2, hk => cases hk; exact ⟨by decide, _, rfl, row5 3 rfl⟩
  | 3, hk => cases hk; exact ⟨by decide, _, rfl, tyc_row at1005 (by decide) (by decide)⟩
  | 4, hk => cases hk; exact ⟨by decide, _, rfl, row6 5 rfl⟩
  | 5, hk => cases hk; exact ⟨by decide, _, rfl, tyc_row at1006 (by decide) (by decide)⟩
  | 6, hk => cases hk; exact ⟨by decide, _, rfl, tyc_of at1001 ⟨Or.inr ⟨_, rfl, hp 7 _ rfl⟩, Or.inr ⟨_, rfl, hp 9 _ rfl⟩, trivial⟩⟩
  | 7, hk => cases hk; exact ⟨by decide, _, rfl, row5 8 rfl⟩
  | 8, hk => cases hk; exact ⟨by decide, _, rfl, tyc_row at1005 (by decide) (by decide)⟩
  | 9, hk => cases hk; exact ⟨by decide, _, rfl, row6 10 rfl⟩
  | 10, hk => cases hk; exact ⟨by decide, _, rfl, tyc_row at1006 (by decide) (by decide)⟩
  | k + 11, hk => cases hk
theorem keep_J {h : zh} {i : Nat} {fsA : List zv} (hj : aJ h) (ha : h[14]? = some (.inl (3, fsA))) (hi : fsA[i]? = some (.inl none)) (hl : 36 < h.length) (n : Nat) : aJ (hup (h ++ sidesC n) 14 i (.inl (some n))) := by
  have hal := (List.getElem?_eq_some_iff.mp ha).1
  have ha2 : (h ++ sidesC n)[14]? = some (.inl (3, fsA)) := by rw [List.getElem?_append_left hal]; exact ha
  have e0 : (hup (h ++ sidesC n) 14 i (.inl (some n)))[14]? = some (.inl (3, fsA.set i (.inl (some n)))) := hup_cell ha2
  have e1 : znul (hup (h ++ sidesC n) 14 i (.inl (some n))) 14 + 1 = znul h 14 := by
    rw [znul_at e0, znul_at ha]
    exact countP_set rfl rfl hi
  have e2 : ∀ q : Nat, q ≠ 14 → q ≤ 36 → znul (hup (h ++ sidesC n) 14 i (.inl (some n))) q = znul h q := fun q hq hq2 => znul_eq (by rw [hup_ne hq, List.getElem?_append_left (by omega)])
  have e3 : (hup (h ++ sidesC n) 14 i (.inl (some n))).length = h.length + 11 := by
    rw [hup_len, List.length_append]
    rfl
  have hl7 := aK7_len hj.2
  refine ⟨?_, aK7_eq hj.2 (by rw [hup_ne (by decide), List.getElem?_append_left hl7])⟩
  have hj := hj.1
  rw [e3, e2 36 (by decide) (by decide), e2 29 (by decide) (by decide)]
  omega
/-- from the making on to where both roads meet -/
theorem keep_B {d t i : Nat} {h : zh} {fsH fsA : List zv} {c1 : Option zv} {n : Int32} {x : zo × zh × Nat} (hp : h[13]? = some (.inr (2, fsH))) (hp0 : fsH[0]? = some (.inl (some 14))) (hp1 : fsH[1]? = some (zi n)) (ha : h[14]? = some (.inl (3, fsA))) (hi : i < fsA.length) (hn : n.toInt = (i : Int)) (hl : h.length < 500000) (k : qF none (d + 3) 24 49 [some (.inl (some 13)), c1] [] (hup (h ++ sidesC h.length) 14 i (.inl (some h.length))) t x) : qF none (d + 3) 24 33 [some (.inl (some 13)), c1] [] h t x := by
  have hal := (List.getElem?_eq_some_iff.mp ha).1
  have ha2 : (h ++ sidesC h.length)[14]? = some (.inl (3, fsA)) := by rw [List.getElem?_append_left hal]; exact ha
  refine x_same (i := .aload_n 0) (len := 1) (r := (0, 0, 0, 0)) (by decide +kernel) (fun k q => by cases q) rfl ?_
  refine x_get (j := 11) (len := 3) (r := (2, 0, 2, 220)) (by decide +kernel) rfl hp hp0 ?_
  refine x_same (i := .aload_n 0) (len := 1) (r := (0, 0, 0, 0)) (by decide +kernel) (fun k q => by cases q) rfl ?_
  refine x_get (j := 17) (len := 3) (r := (2, 1, 0, 221)) (by decide +kernel) rfl hp hp1 ?_
  refine x_new (j := 9) (ci := 9) (ks := [2, 2]) (len := 3) (r := (9, 218, 146, 112)) (by decide +kernel) rfl rfl (by omega) rfl ?_
  refine x_same (i := .dup) (len := 1) (r := (0, 0, 0, 0)) (by decide +kernel) (fun k q => by cases q) rfl ?_
  refine qF_call (i := .invokespecial 24) (len := 3) (r := (4, 107, 9, 453)) (nL := 1) (k := 0) (n := 1) (hs := []) (args := [.inl (some h.length)]) (rest := [.inl (some h.length), zi n, .inl (some 14)]) (l0 := [some (.inl (some h.length))]) (by decide +kernel) (Or.inr (Or.inr ⟨_, rfl⟩)) rfl rfl rfl rfl (Nat.le_of_ble_eq_true rfl) (bltT.mpr (by omega)) rfl (e_sides (d := d) (t := t) (h := h) (by omega)) (qB_void ?_)
  refine x_aast (i := i) (tg := 3) (fs := fsA) (len := 1) (r := (0, 0, 0, 0)) (by decide +kernel) ha2 rfl ?_ hn hi ?_
  · show (match nth (h ++ sidesC h.length) h.length with
      | some (.inr (c, _)) => (Nat.beq 3 3 || Nat.beq 3 4) && Nat.beq c (zelc 3)
      | _ => false) = true
    rw [nth_eq, List.getElem?_append_right (Nat.le_refl _), Nat.sub_self]
    rfl
  · exact k
