/-! steps told exactly: makings -/
theorem stH_A' {scr : Option (List zv)} {i : Instr} {r : zr} {pc pc' : Nat} {cs cs' : List (Option zv)} {vs vs' : List zv} {h : zh} (hn : anoH i = true) (e : stA i r pc cs vs = some (pc', cs', vs')) : stH scr i r pc cs vs h = some (pc', cs', vs', none) := by
  have e9 : stH scr i r pc cs vs h = (match stA i r pc cs vs with
    | some (a, b, c) => some (a, b, c, none)
    | none => none) := by
    cases i <;> first | rfl | cases hn
  rw [e9, e]
section EX
variable {scr : Option (List zv)} {d mi pc : Nat} {ls : List (Option zv)} {st : List zv} {h : zh} {t : Nat} {x : zo × zh × Nat} {len : Nat} {r : zr}
theorem x_same {i : Instr} {pc' : Nat} {ls' : List (Option zv)} {st' : List zv} (hf : zfetch mi pc = some (i, len, r)) (h9 : ∀ k, i = .new k → Nat.beq r.1 99 = false) (hs : stH scr i r pc ls st h = some (pc', ls', st', none)) (k : qF scr d mi pc' ls' st' h t x) : qF scr d mi pc ls st h t x := qF_step hf h9 hs k
theorem x_iconst {n : Int} (hf : zfetch mi pc = some (.iconst n, len, r)) (k : qF scr d mi (pc + 1) ls (zi (Int32.ofInt n) :: st) h t x) : qF scr d mi pc ls st h t x := by
  refine x_same hf (fun k q => by cases q) ?_ k
  show (match frcI (Int32.ofInt n) (fun v => some (pc + 1, ls, zi v :: st)) with
    | some (a, b, c) => some (a, b, c, (none : zp))
    | none => none) = _
  rw [frcI_eq]
theorem x_bipush {n : Int} (hf : zfetch mi pc = some (.bipush n, len, r)) (k : qF scr d mi (pc + 2) ls (zi (Int8.ofInt n).toInt32 :: st) h t x) : qF scr d mi pc ls st h t x := by
  refine x_same hf (fun k q => by cases q) ?_ k
  show (match frcI (Int8.ofInt n).toInt32 (fun v => some (pc + 2, ls, zi v :: st)) with
    | some (a, b, c) => some (a, b, c, (none : zp))
    | none => none) = _
  rw [frcI_eq]
theorem x_new {j ci : Nat} {ks : List Nat} (hf : zfetch mi pc = some (.new j, len, r)) (h9 : Nat.beq r.1 99 = false) (hk : nth zkinds r.1 = some ks) (hl : h.length < 900000) (hc : r.1 = ci) (k : qF scr d mi (pc + 3) ls (.inl (some h.length) :: st) (h ++ [.inr (ci, ks.map zdef)]) t x) : qF scr d mi pc ls st h t x := by
  refine qF_step hf (fun _ _ => h9) (z := some (.inr [.inr (ci, ks.map zdef)])) ?_ k
  show (match nth zkinds r.1 with
    | some ks => frc h.length (fun n => bif Nat.blt n 900000 then some (pc + 3, ls, (.inl (some n) : zv) :: st, (some (.inr [.inr (r.1, ks.map zdef)]) : zp)) else none)
    | none => none) = _
  rw [hk]
  simp only [frc_eq, bltT.mpr hl, cond_true, hc]
theorem x_newarray {ty : ClassFile.ArrayType} {N : Nat} {n : Int32} {st' : List zv} (hf : zfetch mi pc = some (.newarray ty, len, r)) (hr : r.1 = 0) (hn : n.toInt = (N : Int)) (hN : N ≤ 1000) (hl : h.length < 900000) (k : qF scr d mi (pc + 2) ls (.inl (some h.length) :: st') (h ++ [.inl (0, List.replicate N (zi 0))]) t x) : qF scr d mi pc ls (zi n :: st') h t x := by
  refine qF_step hf (fun k q => by cases q) (z := some (.inr [.inl (0, List.replicate N (zi 0))])) ?_ k
  have hz : zsize (zi n) = some N := by
    show (bif decide (n < 0) then none else frc n.toNatClampNeg (fun i => bif Nat.ble i 1000 then some i else none)) = some N
    have h1 : ¬ n < 0 := fun q => by
      rw [Int32.lt_iff_toInt_lt] at q
      have : (0 : Int32).toInt = 0 := by decide
      omega
    have h2 : n.toNatClampNeg = N := by
      show n.toInt.toNat = N
      omega
    rw [decide_eq_false h1]
    simp only [cond_false, frc_eq]
    rw [h2, Nat.ble_eq_true_of_le hN]
    rfl
  show (match zsize (zi n) with
    | some N => frc h.length (fun n => bif Nat.blt n 900000 then some (pc + 2, ls, (.inl (some n) : zv) :: st', (some (.inr [.inl (r.1, List.replicate N (zdef (bif Nat.beq r.1 2 then 3 else 0)))]) : zp)) else none)
    | none => none) = _
  rw [hz]
  simp only [frc_eq, bltT.mpr hl, cond_true, hr]
  rfl
theorem x_put {j q : Nat} {v : zv} {fs : List zv} {st' : List zv} (hf : zfetch mi pc = some (.putfield j, len, r)) (hc : h[q]? = some (.inr (r.1, fs))) (hi : r.2.1 < fs.length) (hv : zfit r.2.2.1 v = true) (k : qF scr d mi (pc + 3) ls st' (hup h q r.2.1 v) t x) : qF scr d mi pc ls (v :: .inl (some q) :: st') h t x := by
  refine qF_step hf (fun k q => by cases q) (z := some (.inl (q, r.2.1, v))) ?_ k
  show (match nth h q with
    | some (.inr (c, fs)) => bif Nat.beq c r.1 && (Nat.blt r.2.1 fs.length && zfit r.2.2.1 v) then some (pc + 3, ls, st', (some (.inl (q, r.2.1, v)) : zp)) else none
    | _ => none) = _
  simp only [nth_eq, hc, Nat.beq_refl, bltT.mpr hi, hv, Bool.and_self, cond_true]
theorem x_obj {j q : Nat} {st' : List zv} (hf : zfetch mi pc = some (.invokespecial j, len, r)) (h5 : Nat.beq r.1 5 = true) (hq : q < 1000000) (hs : zcat st' ≤ 8) (k : qF scr d mi (pc + 3) ls st' h t x) : qF scr d mi pc ls (.inl (some q) :: st') h t x := by
  obtain ⟨n0, e⟩ := k
  refine qF_of (fun _ _ => ⟨n0, fun nn n9 g1 g2 => ?_⟩)
  rw [zgo_at hf]
  show zcall (zrun nn d) (zloop scr (zrun nn d) n9) mi pc ls (.inl (some q) :: st') h t r = some x
  unfold zcall
  rw [h5]
  show (bif Nat.blt q 1000000 && Nat.ble (zcat st') 8 then frc (pc + 3) (fun pc' => tick (zloop scr (zrun nn d) n9 mi pc' ls st' h t)) else none) = some x
  rw [bltT.mpr hq, Nat.ble_eq_true_of_le hs]
  simp only [Bool.and_self, cond_true, frc_eq, tick]
  exact e nn n9 g1 g2
theorem hup_app {h cs : zh} {j i : Nat} {v : zv} : hup (h ++ cs) (h.length + j) i v = h ++ hup cs j i v := by
  have e : (h ++ cs)[h.length + j]? = cs[j]? := app_at rfl
  have e2 : ∀ c : zc, (h ++ cs).set (h.length + j) c = h ++ cs.set j c := fun c => by
    rw [List.set_append_right _ _ (Nat.le_add_right _ _), Nat.add_sub_cancel_left]
  unfold hup
  rw [e]
  cases cs[j]? with
  | none => rfl
  | some c =>
    rcases c with ⟨a, fs⟩ | ⟨a, fs⟩
    · simp only [e2]
    · simp only [e2]
variable {cs : zh}
theorem x_newA {j ci : Nat} {ks : List Nat} (hf : zfetch mi pc = some (.new j, len, r)) (h9 : Nat.beq r.1 99 = false) (hk : nth zkinds r.1 = some ks) (hl : h.length + cs.length < 900000) (hc : r.1 = ci) (k : qF scr d mi (pc + 3) ls (.inl (some (h.length + cs.length)) :: st) (h ++ (cs ++ [.inr (ci, ks.map zdef)])) t x) : qF scr d mi pc ls st (h ++ cs) t x := by
  refine x_new hf h9 hk (by rw [List.length_append]; exact hl) hc ?_
  rw [List.length_append, List.append_assoc]
  exact k
theorem x_newarrayA {ty : ClassFile.ArrayType} {N : Nat} {n : Int32} {st' : List zv} (hf : zfetch mi pc = some (.newarray ty, len, r)) (hr : r.1 = 0) (hn : n.toInt = (N : Int)) (hN : N ≤ 1000) (hl : h.length + cs.length < 900000) (k : qF scr d mi (pc + 2) ls (.inl (some (h.length + cs.length)) :: st') (h ++ (cs ++ [.inl (0, List.replicate N (zi 0))])) t x) : qF scr d mi pc ls (zi n :: st') (h ++ cs) t x := by
  refine x_newarray hf hr hn hN (by rw [List.length_append]; exact hl) ?_
  rw [List.length_append, List.append_assoc]
  exact k
theorem x_putA {j q : Nat} {v : zv} {fs : List zv} {st' : List zv} (hf : zfetch mi pc = some (.putfield j, len, r)) (hc : cs[q]? = some (.inr (r.1, fs))) (hi : r.2.1 < fs.length) (hv : zfit r.2.2.1 v = true) (k : qF scr d mi (pc + 3) ls st' (h ++ hup cs q r.2.1 v) t x) : qF scr d mi pc ls (v :: .inl (some (h.length + q)) :: st') (h ++ cs) t x := by
  refine x_put hf (by rw [app_at rfl]; exact hc) hi hv ?_
  rw [hup_app]
  exact k
end EX
theorem hup_len9 {h : zh} {q i : Nat} {v : zv} : (hup h q i v).length = h.length := hup_len
/-- Differs is made -/
theorem e_diff {d t j : Nat} {h cs : zh} (hc : cs[j]? = some (.inr (0, [.inl none]))) (hl : h.length + cs.length < 800000) : qE (d + 1) 0 [some (.inl (some (h.length + j)))] (h ++ cs) t (.inl none, h ++ hup (cs ++ [.inl (0, List.replicate 21 (zi 0))]) j 0 (.inl (some (h.length + cs.length))), t) := by
  have hj := (List.getElem?_eq_some_iff.mp hc).1
  refine qE_of ?_
  refine x_same (i := .aload_n 0) (len := 1) (r := (0, 0, 0, 0)) (by decide +kernel) (fun k q => by cases q) rfl ?_
  refine x_obj (j := 3) (len := 3) (r := (5, 0, 0, 523)) (by decide +kernel) rfl (by omega) (Nat.zero_le _) ?_
  refine x_same (i := .aload_n 0) (len := 1) (r := (0, 0, 0, 0)) (by decide +kernel) (fun k q => by cases q) rfl ?_
  refine x_bipush (n := 21) (len := 2) (r := (0, 0, 0, 0)) (by decide +kernel) ?_
  refine x_newarrayA (ty := .int) (N := 21) (len := 2) (r := (0, 177, 0, 0)) (by decide +kernel) rfl (by decide +kernel) (by decide) (by omega) ?_
  refine x_putA (j := 9) (len := 3) (r := (0, 0, 2, 10524)) (fs := [.inl none]) (by decide +kernel) (by rw [List.getElem?_append_left hj]; exact hc) (by decide) rfl ?_
  exact qF_void (len := 1) (r := (0, 0, 0, 0)) (nL := 1) (n9 := 1) (hs := []) (by decide +kernel) rfl
/-- a Row is made -/
theorem e_row {d t j N : Nat} {n : Int32} {h cs : zh} (hc : cs[j]? = some (.inr (6, [.inl none, zi 0]))) (hn : n.toInt = (N : Int)) (hN : N ≤ 1000) (h1 : 1 ≤ N) (hl : h.length + cs.length < 800000) : qE (d + 1) 62 [some (.inl (some (h.length + j))), some (zi n)] (h ++ cs) t (.inl none, h ++ hup (hup cs j 1 (zi 0) ++ [.inl (0, List.replicate N (zi 0))]) j 0 (.inl (some (h.length + cs.length))), t) := by
  have hj := (List.getElem?_eq_some_iff.mp hc).1
  have hc2 : (hup cs j 1 (zi 0))[j]? = some (.inr (6, [.inl none, zi 0])) := hup_cell hc
  refine qE_of ?_
  refine x_same (i := .aload_n 0) (len := 1) (r := (0, 0, 0, 0)) (by decide +kernel) (fun k q => by cases q) rfl ?_
  refine x_obj (j := 3) (len := 3) (r := (5, 0, 0, 162)) (by decide +kernel) rfl (by omega) (Nat.zero_le _) ?_
  refine x_same (i := .aload_n 0) (len := 1) (r := (0, 0, 0, 0)) (by decide +kernel) (fun k q => by cases q) rfl ?_
  refine x_iconst (n := 0) (len := 1) (r := (0, 0, 0, 0)) (by decide +kernel) ?_
  refine x_putA (j := 9) (len := 3) (r := (6, 1, 0, 164)) (fs := [.inl none, zi 0]) (by decide +kernel) hc (by decide) rfl ?_
  refine x_same (i := .aload_n 0) (len := 1) (r := (0, 0, 0, 0)) (by decide +kernel) (fun k q => by cases q) rfl ?_
  refine x_same (i := .iload_n 1) (len := 1) (r := (0, 0, 0, 0)) (by decide +kernel) (fun k q => by cases q) rfl ?_
  refine x_same (i := .ifCond .le 7) (len := 3) (r := (0, 0, 0, 0)) (pc' := 14) (ls' := [some (.inl (some (h.length + j))), some (zi n)]) (st' := [.inl (some (h.length + j))]) (by decide +kernel) (fun k q => by cases q) (stH_A' rfl (by
    show zbr (zcond .le (zi n) (zi 0)) 11 7 _ _ = _
    rw [zcond_ex]
    have : acmp .le n.toInt (0 : Int32).toInt = false := by
      have h0 : (0 : Int32).toInt = 0 := by decide
      show (!decide ((0 : Int32).toInt < n.toInt)) = false
      rw [decide_eq_true (by omega)]
      rfl
    rw [this]
    rfl)) ?_
  refine x_same (i := .iload_n 1) (len := 1) (r := (0, 0, 0, 0)) (by decide +kernel) (fun k q => by cases q) rfl ?_
  refine x_same (i := .goto 4) (len := 3) (r := (0, 0, 0, 0)) (pc' := 19) (by decide +kernel) (fun k q => by cases q) rfl ?_
  refine x_newarrayA (ty := .int) (N := N) (len := 2) (r := (0, 177, 0, 0)) (by decide +kernel) rfl hn hN (by rw [hup_len]; omega) ?_
  rw [hup_len]
  refine x_putA (j := 15) (len := 3) (r := (6, 0, 2, 10163)) (fs := [.inl none, zi 0]) (by decide +kernel) (by rw [List.getElem?_append_left (by rw [hup_len]; exact hj)]; exact hc2) (by decide) rfl ?_
  exact qF_void (len := 1) (r := (0, 0, 0, 0)) (nL := 2) (n9 := 2) (hs := []) (by decide +kernel) rfl
