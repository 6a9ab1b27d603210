/-! THE LAW'S LOOP -/
def ss0 : List qs := [.inr (.inl (1, false)), .inl (0, 200), .inl ((-2147483648), 2147483647), .inl ((-2147483648), 2147483647), .inl ((-2147483648), 2147483647), .inr (.inl (1000, false)), .inr (.inl (13, false)), .inr (.inl (15, false)), .inr (.inl (28, false)), .inr (.inl (35, false)), .inr (.inl (42, false))]
theorem at0 : atyp 0 = some (.inr (11, ss0)) := rfl
theorem z0 {τ : List Nat} {h : zh} {mj k9 : Nat} {args : List zv} (hg : hG τ h) : zargs (0, mj, 11, k9) (.inl (some 0) :: args) h = true := by
  obtain ⟨fs, hc, -⟩ := g_obj hg (t0 hg) at0
  show (match nth h 0 with
    | some (.inr (c, _)) => Nat.beq c 11
    | _ => false) = true
  rw [nth_eq, hc]
  rfl
theorem l_i2l {scr : List zv} {d mi pc : Nat} {ls : List (Option zv)} {h : zh} {t : Nat} {P : zo × zh × Nat → Prop} {len : Nat} {r : zr} {a : Int32} {st' : List zv} (hf : zfetch mi pc = some (.i2l, len, r)) (k : qL scr d mi (pc + 1) ls (.inr (.inr (.inl a.toInt64)) :: st') h t P) : qL scr d mi pc ls (zi a :: st') h t P := by
  refine l_same hf (fun k q => by cases q) (stH_A' rfl ?_) k
  show zun zi2l pc ls (zi a :: st') = _
  unfold zun
  show (match frcL a.toInt64 (fun z => some (.inr (.inr (.inl z)) : zv)) with
    | some v => some (pc + 1, ls, v :: st')
    | none => none) = _
  rw [frcL_eq]
theorem l_lcm {scr : List zv} {d mi pc : Nat} {ls : List (Option zv)} {h : zh} {t : Nat} {P : zo × zh × Nat → Prop} {len : Nat} {r : zr} {a b : Int64} {st' : List zv} (hf : zfetch mi pc = some (.lcmp, len, r)) (e : a = b) (k : ∀ y : Int32, y.toInt = 0 → qL scr d mi (pc + 1) ls (zi y :: st') h t P) : qL scr d mi pc ls (.inr (.inr (.inl b)) :: .inr (.inr (.inl a)) :: st') h t P := by
  subst e
  refine l_same hf (fun k q => by cases q) (stH_A' rfl ?_) (k 0 rfl)
  show zbin zlcmp pc ls (.inr (.inr (.inl a)) :: .inr (.inr (.inl a)) :: st') = _
  unfold zbin
  show (match frcI (lg_cmp a a) (fun z => some (zi z)) with
    | some v => some (pc + 1, ls, v :: st')
    | none => none) = _
  rw [frcI_eq]
  have e : lg_cmp a a = 0 := by
    unfold lg_cmp
    rw [if_neg (fun q => Int64.lt_irrefl q), if_pos rfl]
  rw [e]
theorem l_lal {scr : List zv} {d mi pc : Nat} {ls : List (Option zv)} {h : zh} {t : Nat} {P : zo × zh × Nat → Prop} {len : Nat} {r : zr} {τ : List Nat} {n z : Int32} {st' : List zv} (hf : zfetch mi pc = some (.laload, len, r)) (hg : hG τ h) (hn : n.toInt = ((0 : Nat) : Int)) (hv : ou_ h z) (k : qL scr d mi (pc + 1) ls (.inr (.inr (.inl z.toInt64)) :: st') h t P) : qL scr d mi pc ls (zi n :: .inl (some 388) :: st') h t P := by
  obtain ⟨fs, hc, hl⟩ := g_arr hg (t388 hg) aw388
  unfold ou_ at hv
  rw [hsl_arr hc] at hv
  refine l_same hf (fun k q => by cases q) ?_ k
  show zald (fun t => Nat.beq t 2) pc ls (zi n :: .inl (some 388) :: st') h = _
  unfold zald
  simp only [zarr_at hc]
  rw [zix_ex hn (by omega)]
  simp only [nth_eq, hv, Nat.beq_refl, cond_true]
theorem l_iT {scr : List zv} {d mi pc : Nat} {ls : List (Option zv)} {h : zh} {t : Nat} {P : zo × zh × Nat → Prop} {len : Nat} {r : zr} {a : Int32} {st' : List zv} {c : ClassFile.Cond} {off : Int} {pc' : Nat} (hf : zfetch mi pc = some (.ifCond c off, len, r)) (hc : acmp c a.toInt 0 = true) (ht : ztg pc off = some pc') (k : qL scr d mi pc' ls st' h t P) : qL scr d mi pc ls (zi a :: st') h t P := by
  refine l_same hf (fun k q => by cases q) (stH_A' rfl ?_) k
  show zbr (zcond c (zi a) (zi 0)) pc off ls st' = _
  rw [zcond_ex]
  have e : acmp c a.toInt (0 : Int32).toInt = true := hc
  rw [e]
  show (match ztg pc off with
    | some t => some (t, ls, st')
    | none => none) = _
  rw [ht]
theorem l_iF {scr : List zv} {d mi pc : Nat} {ls : List (Option zv)} {h : zh} {t : Nat} {P : zo × zh × Nat → Prop} {len : Nat} {r : zr} {a : Int32} {st' : List zv} {c : ClassFile.Cond} {off : Int} (hf : zfetch mi pc = some (.ifCond c off, len, r)) (hc : acmp c a.toInt 0 = false) (k : qL scr d mi (pc + 3) ls st' h t P) : qL scr d mi pc ls (zi a :: st') h t P := by
  refine l_same hf (fun k q => by cases q) (stH_A' rfl ?_) k
  show zbr (zcond c (zi a) (zi 0)) pc off ls st' = _
  rw [zcond_ex]
  have e : acmp c a.toInt (0 : Int32).toInt = false := hc
  rw [e]
  rfl
theorem lx_thrown {t : Nat} {τ : List Nat} {h : zh} {z : Int32} (hg : hG τ h) (hz : hsl h 52 0 = some (zi z)) : ∃ (y : Int32) (h1 : zh) (t1 : Nat), qE 60 160 [some (.inl (some 52))] h t (.inl (some (zi y)), h1, t1) ∧ h = h1 ∧ t = t1 ∧ z = y := by
  have key : qI 60 160 [some (.inl (some 52))] h t (fun y h1 => h = h1 ∧ z = y) := by
    refine qI_of ?_
    refine y_same (i := .aload_n 0) (len := 1) (r := (0, 0, 0, 0)) (pc' := 1) (ls' := [some (.inl (some 52))]) (st' := [.inl (some 52)]) (by decide +kernel) (fun k q => by cases q) rfl ?_
    refine y_get (j := 92) (len := 3) (r := (12, 0, 0, 1328)) (by decide +kernel) hg (t52 hg) at52 rfl rfl hz ?_
    refine y_rI (len := 1) (r := (0, 0, 0, 0)) (nL := 1) (k := 1) (n9 := 1) (hs := []) (by decide +kernel) rfl rfl ?_
    exact ⟨rfl, rfl⟩
  obtain ⟨y, h1, e, e1, e2⟩ := key
  exact ⟨y, h1, t, e, e1, rfl, e2⟩
theorem l_cW {scr : List zv} {d mi pc : Nat} {ls : List (Option zv)} {st : List zv} {h : zh} {t : Nat} {P : zo × zh × Nat → Prop} {len : Nat} {r : zr} {i : Instr} {nL k n : Nat} {hs : List (Nat × Nat × Nat × Nat)} {args rest : List zv} {l0 : List (Option zv)} {R : Int64 → zh → Nat → Prop} (hf : zfetch mi pc = some (i, len, r)) (hi : (∃ k, i = .invokestatic k) ∨ (∃ k, i = .invokevirtual k) ∨ (∃ k, i = .invokespecial k)) (h5 : Nat.beq r.1 5 = false) (h7 : Nat.beq r.1 7 = false) (q1 : zmeth r.2.1 = some (nL, k, n, hs)) (q2 : zpop n [] st = some (args, rest)) (q3 : zcat rest ≤ 8) (q4 : zargs r args h = true) (q5 : zent args nL = some l0) (hE : ∃ (w : Int64) (h1 : zh) (t1 : Nat), qE d r.2.1 l0 h t (.inl (some (.inr (.inr (.inl w)))), h1, t1) ∧ R w h1 t1) (kk : ∀ (w : Int64) (h1 : zh) (t1 : Nat), R w h1 t1 → qL scr d mi (pc + 3) ls (.inr (.inr (.inl w)) :: rest) h1 t1 P) : qL scr d mi pc ls st h t P := by
  obtain ⟨w, h1, t1, hE, hR⟩ := hE
  obtain ⟨x, k9, hP⟩ := kk w h1 t1 hR
  exact ⟨x, qF_call hf hi h5 h7 q1 q2 q3 q4 q5 hE (qB_val k9), hP⟩

