/-! slot: a Sequent is made where there is none -/
def znul (h : zh) (q : Nat) : Nat := match h[q]? with
  | some c => (cfs c).countP (fun v => match v with
    | .inl none => true
    | _ => false)
  | none => 0
/-- the reference's sequents: each row stands in its own cell -/
def aK7 (h : zh) : Prop := ∀ k : Nat, k < 300 → hsl h 70 k = some (.inl (some (71 + k)))
/-- what is there, and what may still be made -/
def aJ (h : zh) : Prop := h.length + (9 * (znul h 29 + znul h 36) + 11 * znul h 14) ≤ 5899 ∧ aK7 h
theorem aK7_eq {h h' : zh} (hk : aK7 h) (e : h'[70]? = h[70]?) : aK7 h' := fun k hk9 => by
  have h9 := hk k hk9
  unfold hsl at h9 ⊢
  rw [e]
  exact h9
theorem aK7_len {h : zh} (hk : aK7 h) : 70 < h.length := by
  have h9 := hk 0 (by decide)
  unfold hsl at h9
  cases hc : h[70]? with
  | none => rw [hc] at h9; cases h9
  | some c => exact (List.getElem?_eq_some_iff.mp hc).1
theorem atau_70 : atau[70]? = some 70 := by decide +kernel
theorem atau_pr : atau[29]? = some 29 ∧ atau[36]? = some 36 ∧ atau[14]? = some 14 ∧ atau[28]? = some 28 ∧ atau[35]? = some 35 := by decide +kernel
theorem aJ_ok : aJok aJ := by
  intro τ h h' hM9 hl hp hj
  obtain ⟨p1, p2, p3, -, -⟩ := atau_pr
  have e1 := hp 29 29 (hM9.2.2.1 _ _ p1) rfl
  have e2 := hp 36 36 (hM9.2.2.1 _ _ p2) rfl
  have e3 := hp 14 14 (hM9.2.2.1 _ _ p3) rfl
  have e4 := hp 70 70 (hM9.2.2.1 _ _ atau_70) rfl
  refine ⟨?_, aK7_eq hj.2 e4⟩
  have hj := hj.1
  unfold znul at hj ⊢
  rw [hl, e1, e2, e3]
  exact hj
section XG
variable {scr : Option (List zv)} {d mi pc : Nat} {ls : List (Option zv)} {st : List zv} {h : zh} {t : Nat} {x : zo × zh × Nat} {len : Nat} {r : zr}
theorem x_get {j q : Nat} {v : zv} {fs : List zv} {st' : List zv} (hf : zfetch mi pc = some (.getfield j, len, r)) (h5 : Nat.beq r.1 50 = false) (hc : h[q]? = some (.inr (r.1, fs))) (hi : fs[r.2.1]? = some v) (k : qF scr d mi (pc + 3) ls (v :: st') h t x) : qF scr d mi pc ls (.inl (some q) :: st') h t x := by
  refine x_same hf (fun k q => by cases q) ?_ k
  show (bif Nat.beq r.1 50 then _ else (match nth h q with
    | some (.inr (c, fs)) => bif Nat.beq c r.1 then (match nth fs r.2.1 with
      | some v => some (pc + 3, ls, v :: st', (none : zp))
      | none => none) else none
    | _ => none)) = _
  rw [h5]
  simp only [cond_false, nth_eq, hc, Nat.beq_refl, cond_true, hi]
theorem x_aald {q i tg : Nat} {n : Int32} {v : zv} {fs : List zv} {st' : List zv} (hf : zfetch mi pc = some (.aaload, len, r)) (hc : h[q]? = some (.inl (tg, fs))) (ht : (Nat.ble 3 tg && Nat.ble tg 5) = true) (hn : n.toInt = (i : Int)) (hi : fs[i]? = some v) (k : qF scr d mi (pc + 1) ls (v :: st') h t x) : qF scr d mi pc ls (zi n :: .inl (some q) :: st') h t x := by
  refine x_same hf (fun k q => by cases q) ?_ k
  show (match zarr h (.inl (some q)) with
    | some (_, tg, fs) => bif Nat.ble 3 tg && Nat.ble tg 5 then (match zix (zi n) fs.length with
      | some i => match nth fs i with
        | some v => some (pc + 1, ls, v :: st', (none : zp))
        | none => none
      | none => none) else none
    | none => none) = _
  rw [zarr_at hc]
  simp only [ht, cond_true]
  rw [zix_ex hn (List.getElem?_eq_some_iff.mp hi).1]
  simp only [nth_eq, hi]
theorem x_aast {q i tg a : Nat} {n : Int32} {fs : List zv} {st' : List zv} (hf : zfetch mi pc = some (.aastore, len, r)) (hc : h[q]? = some (.inl (tg, fs))) (ht : (Nat.ble 3 tg && Nat.ble tg 4) = true) (ha : zaok h tg (.inl (some a)) = true) (hn : n.toInt = (i : Int)) (hi : i < fs.length) (k : qF scr d mi (pc + 1) ls st' (hup h q i (.inl (some a))) t x) : qF scr d mi pc ls (.inl (some a) :: zi n :: .inl (some q) :: st') h t x := by
  refine qF_step hf (fun k q => by cases q) (z := some (.inl (q, i, .inl (some a)))) ?_ k
  show (match zarr h (.inl (some q)) with
    | some (q, tg, fs) => bif (Nat.ble 3 tg && Nat.ble tg 4) && zaok h tg (.inl (some a)) then (match zix (zi n) fs.length with
      | some i => some (pc + 1, ls, st', (some (.inl (q, i, .inl (some a))) : zp))
      | none => none) else none
    | none => none) = _
  rw [zarr_at hc]
  simp only [ht, ha, Bool.and_self, cond_true]
  rw [zix_ex hn hi]
end XG
/-- slot's end: what stands in the row is answered -/
theorem slot_A {d t p a b i : Nat} {h : zh} {fsP fsA : List zv} {c1 : Option zv} {n : Int32} (hp : h[p]? = some (.inr (4, fsP))) (hp1 : fsP[1]? = some (.inl (some a))) (ha : h[a]? = some (.inl (4, fsA))) (hi : fsA[i]? = some (.inl (some b))) (hn : n.toInt = (i : Int)) : qF none d 33 34 [some (.inl (some p)), c1, some (zi n)] [] h t (.inl (some (.inl (some b))), h, t) := by
  refine x_same (i := .aload_n 0) (len := 1) (r := (0, 0, 0, 0)) (by decide +kernel) (fun k q => by cases q) rfl ?_
  refine x_get (j := 11) (len := 3) (r := (4, 1, 2, 283)) (by decide +kernel) rfl hp hp1 ?_
  refine x_same (i := .iload_n 2) (len := 1) (r := (0, 0, 0, 0)) (by decide +kernel) (fun k q => by cases q) rfl ?_
  refine x_aald (len := 1) (r := (0, 0, 0, 0)) (by decide +kernel) ha rfl hn hi ?_
  exact qF_fin (i := .areturn) (len := 1) (r := (0, 0, 0, 0)) (f := zisA) (k := 3) (nL := 3) (n9 := 2) (hs := []) (by decide +kernel) (Or.inr (Or.inl ⟨rfl, rfl⟩)) rfl rfl rfl
/-- the cells of a new Sequent -/
def seqC (n : Nat) : zh := [.inr (7, [.inl (some (n + 1)), .inl (some (n + 3)), .inl (some (n + 5)), .inl (some (n + 7)), zi 9, zi (-1), zi 1, zi (-1), zi (-1), zi (-1)]), .inr (0, [.inl (some (n + 2))]), .inl (0, List.replicate 21 (zi 0)), .inr (6, [.inl (some (n + 4)), zi 0]), .inl (0, List.replicate 14 (zi 0)), .inr (6, [.inl (some (n + 6)), zi 0]), .inl (0, List.replicate 14 (zi 0)), .inr (6, [.inl (some (n + 8)), zi 0]), .inl (0, List.replicate 14 (zi 0))]
def seqT : List Nat := [1008, 1009, 1010, 1004, 1007, 1004, 1007, 1004, 1007]
theorem slot_B {d t p a i : Nat} {h : zh} {fsP fsA : List zv} {c1 : Option zv} {n : Int32} (hp : h[p]? = some (.inr (4, fsP))) (hp1 : fsP[1]? = some (.inl (some a))) (ha : h[a]? = some (.inl (4, fsA))) (hi : i < fsA.length) (hn : n.toInt = (i : Int)) (hl : h.length < 500000) : qF none (d + 2) 33 21 [some (.inl (some p)), c1, some (zi n)] [] h t (.inl (some (.inl (some h.length))), hup (h ++ seqC h.length) a i (.inl (some h.length)), t) := by
  have hpl := (List.getElem?_eq_some_iff.mp hp).1
  have hal := (List.getElem?_eq_some_iff.mp ha).1
  have hpa : p ≠ a := by
    rintro rfl
    rw [hp] at ha
    cases ha
  have ha2 : (h ++ seqC h.length)[a]? = some (.inl (4, fsA)) := by rw [List.getElem?_append_left hal]; exact ha
  have ha3 : (hup (h ++ seqC h.length) a i (.inl (some h.length)))[a]? = some (.inl (4, fsA.set i (.inl (some h.length)))) := hup_cell ha2
  have hp3 : (hup (h ++ seqC h.length) a i (.inl (some h.length)))[p]? = some (.inr (4, fsP)) := by
    rw [hup_ne hpa, List.getElem?_append_left hpl]
    exact hp
  refine x_same (i := .aload_n 0) (len := 1) (r := (0, 0, 0, 0)) (by decide +kernel) (fun k q => by cases q) rfl ?_
  refine x_get (j := 11) (len := 3) (r := (4, 1, 2, 283)) (by decide +kernel) rfl hp hp1 ?_
  refine x_same (i := .iload_n 2) (len := 1) (r := (0, 0, 0, 0)) (by decide +kernel) (fun k q => by cases q) rfl ?_
  refine x_new (j := 9) (ci := 7) (ks := [2, 2, 2, 2, 0, 0, 0, 0, 0, 0]) (len := 3) (r := (7, 267, 513, 135)) (by decide +kernel) rfl rfl (by omega) rfl ?_
  refine x_same (i := .dup) (len := 1) (r := (0, 0, 0, 0)) (by decide +kernel) (fun k q => by cases q) rfl ?_
  refine qF_call (i := .invokespecial 66) (len := 3) (r := (4, 76, 7, 514)) (nL := 1) (k := 0) (n := 1) (hs := []) (args := [.inl (some h.length)]) (rest := [.inl (some h.length), zi n, .inl (some a)]) (l0 := [some (.inl (some h.length))]) (by decide +kernel) (Or.inr (Or.inr ⟨_, rfl⟩)) rfl rfl rfl rfl (Nat.le_of_ble_eq_true rfl) (bltT.mpr (by omega)) rfl (e_seq (d := d) (t := t) (h := h) (by omega)) (qB_void ?_)
  refine x_aast (i := i) (tg := 4) (fs := fsA) (len := 1) (r := (0, 0, 0, 0)) (by decide +kernel) ha2 rfl ?_ hn hi ?_
  · show (match nth (h ++ seqC h.length) h.length with
      | some (.inr (c, _)) => (Nat.beq 4 3 || Nat.beq 4 4) && Nat.beq c (zelc 4)
      | _ => false) = true
    rw [nth_eq, List.getElem?_append_right (Nat.le_refl _), Nat.sub_self]
    rfl
  · exact slot_A hp3 hp1 ha3 (by rw [List.getElem?_set_self hi]) hn
