def lawP (x : zo × zh × Nat) : Prop := ∃ (h1 : zh) (t1 : Nat) (τ1 : List Nat), x = (.inl (some (zi 1)), h1, t1) ∧ hG τ1 h1 ∧ t1 ≤ 512
theorem law_l {scr : List zv} {xs : Nat → Int32} (hscr : ∀ j, j < scr.length → scr[j]? = some (zi (xs j))) (hlen : scr.length ≤ 3072) : ∀ (m : Nat) (τ : List Nat) (h : zh), hG τ h → ∀ (i t : Nat) (xi : Int32) (l5 l6 : Option zv), IZ h → xi.toInt = (i : Int) → (i ≤ scr.length ∨ i = 0) → 6 * t ≤ i → scr.length ≤ i + 5 + 6 * m → qL scr 60 289 23 [some (.inl (some 1000000)), some (.inl (some 0)), some (.inl (some 52)), some (.inl (some 388)), some (zi xi), l5, l6] [] h t lawP := by
  intro m
  induction m with
  | zero =>
    intro τ h hg i t xi l5 l6 iw hxi hi ht hm
    refine l_same (i := .iload 4) (len := 2) (r := (0, 0, 0, 0)) (pc' := 25) (ls' := [some (.inl (some 1000000)), some (.inl (some 0)), some (.inl (some 52)), some (.inl (some 388)), some (zi xi), l5, l6]) (st' := [zi xi]) (by decide +kernel) (fun k q => by cases q) rfl ?_
    refine l_same (i := .aload_n 0) (len := 1) (r := (0, 0, 0, 0)) (pc' := 26) (ls' := [some (.inl (some 1000000)), some (.inl (some 0)), some (.inl (some 52)), some (.inl (some 388)), some (zi xi), l5, l6]) (st' := [.inl (some 1000000), zi xi]) (by decide +kernel) (fun k q => by cases q) rfl ?_
    refine l_len (len := 1) (r := (0, 0, 0, 0)) (by decide +kernel) (by omega) (fun y170 hy170 => ?_)
    refine l_bi (c := 6) (len := 2) (r := (0, 0, 0, 0)) (by decide +kernel) (by decide) (fun y171 hy171 => ?_)
    refine l_sub (len := 1) (r := (0, 0, 0, 0)) (by decide +kernel) (by omega) (by omega) (fun y172 hy172 => ?_)
    refine l_cT (c := .gt) (off := 811) (pc' := 841) (len := 3) (r := (0, 0, 0, 0)) (by decide +kernel) (acmpT (c := .gt) (by show _ < _; omega)) (by decide +kernel) ?_
    refine l_ic (c := 1) (len := 1) (r := (0, 0, 0, 0)) (by decide +kernel) (by decide) (fun y173 hy173 => ?_)
    refine l_rI (len := 1) (r := (0, 0, 0, 0)) (nL := 7) (k := 2) (n9 := 2) (hs := []) (by decide +kernel) rfl (zfit_b (by omega) (by omega)).2 ?_
    exact ⟨h, t, τ, (by rw [ofI (w := 1) hy173 rfl]), hg, by omega⟩
  | succ m ih =>
    intro τ h hg i t xi l5 l6 iw hxi hi ht hm
    refine l_same (i := .iload 4) (len := 2) (r := (0, 0, 0, 0)) (pc' := 25) (ls' := [some (.inl (some 1000000)), some (.inl (some 0)), some (.inl (some 52)), some (.inl (some 388)), some (zi xi), l5, l6]) (st' := [zi xi]) (by decide +kernel) (fun k q => by cases q) rfl ?_
    refine l_same (i := .aload_n 0) (len := 1) (r := (0, 0, 0, 0)) (pc' := 26) (ls' := [some (.inl (some 1000000)), some (.inl (some 0)), some (.inl (some 52)), some (.inl (some 388)), some (zi xi), l5, l6]) (st' := [.inl (some 1000000), zi xi]) (by decide +kernel) (fun k q => by cases q) rfl ?_
    refine l_len (len := 1) (r := (0, 0, 0, 0)) (by decide +kernel) (by omega) (fun y175 hy175 => ?_)
    refine l_bi (c := 6) (len := 2) (r := (0, 0, 0, 0)) (by decide +kernel) (by decide) (fun y176 hy176 => ?_)
    refine l_sub (len := 1) (r := (0, 0, 0, 0)) (by decide +kernel) (by omega) (by omega) (fun y177 hy177 => ?_)
    rcases Decidable.em (xi.toInt > y177.toInt) with q178 | q178
    ·
      refine l_cT (c := .gt) (off := 811) (pc' := 841) (len := 3) (r := (0, 0, 0, 0)) (by decide +kernel) (acmpT (c := .gt) (by show _ < _; omega)) (by decide +kernel) ?_
      refine l_ic (c := 1) (len := 1) (r := (0, 0, 0, 0)) (by decide +kernel) (by decide) (fun y179 hy179 => ?_)
      refine l_rI (len := 1) (r := (0, 0, 0, 0)) (nL := 7) (k := 2) (n9 := 2) (hs := []) (by decide +kernel) rfl (zfit_b (by omega) (by omega)).2 ?_
      exact ⟨h, t, τ, (by rw [ofI (w := 1) hy179 rfl]), hg, by omega⟩
    ·
      refine l_cF (c := .gt) (off := 811) (len := 3) (r := (0, 0, 0, 0)) (by decide +kernel) (acmpF (c := .gt) (by show _ ≤ _; omega)) ?_
      refine l_same (i := .aload_n 0) (len := 1) (r := (0, 0, 0, 0)) (pc' := 34) (ls' := [some (.inl (some 1000000)), some (.inl (some 0)), some (.inl (some 52)), some (.inl (some 388)), some (zi xi), l5, l6]) (st' := [.inl (some 1000000)]) (by decide +kernel) (fun k q => by cases q) rfl ?_
      refine l_same (i := .iload 4) (len := 2) (r := (0, 0, 0, 0)) (pc' := 36) (ls' := [some (.inl (some 1000000)), some (.inl (some 0)), some (.inl (some 52)), some (.inl (some 388)), some (zi xi), l5, l6]) (st' := [zi xi, .inl (some 1000000)]) (by decide +kernel) (fun k q => by cases q) rfl ?_
      refine l_scr (j := i) (v := xs i) (len := 1) (r := (0, 0, 0, 0)) (by decide +kernel) (by omega) (hscr i (by omega)) ?_
      refine l_bi (c := 31) (len := 2) (r := (0, 0, 0, 0)) (by decide +kernel) (by decide) (fun y180 hy180 => ?_)
      refine l_bp (i := .iand) (f := fun x y => x &&& y) (len := 1) (r := (0, 0, 0, 0)) (by decide +kernel) rfl rfl (fun y181 hy181 => ?_)
      have hy181 : y181 = (xs i) &&& y180 := hy181
      rcases (show y181.toInt = 0 ∨ y181.toInt = 1 ∨ y181.toInt = 2 ∨ y181.toInt = 3 ∨ y181.toInt = 4 ∨ y181.toInt = 5 ∨ y181.toInt = 6 ∨ y181.toInt = 7 ∨ y181.toInt = 8 ∨ y181.toInt = 9 ∨ y181.toInt = 10 ∨ y181.toInt = 11 ∨ y181.toInt = 12 ∨ y181.toInt = 13 ∨ y181.toInt = 14 ∨ y181.toInt = 15 ∨ y181.toInt = 16 ∨ y181.toInt = 17 ∨ y181.toInt = 18 ∨ y181.toInt = 19 ∨ y181.toInt < 0 ∨ 19 < y181.toInt by omega) with q182 | q182 | q182 | q182 | q182 | q182 | q182 | q182 | q182 | q182 | q182 | q182 | q182 | q182 | q182 | q182 | q182 | q182 | q182 | q182 | q182
      ·
        have B0 := zand_le (x := (xs i)) (y := y180) (by omega)
        rw [← hy181] at B0
        refine l_sw (dflt := 795) (lo := 0) (hi := 19) (offs := #[96, 169, 197, 210, 223, 263, 303, 316, 344, 396, 448, 476, 516, 580, 593, 673, 701, 729, 757, 770]) (off := 96) (pc' := 136) (len := 96) (r := (0, 0, 0, 0)) (by decide +kernel) (zswI (k := 0) (by omega) (by omega) (by omega) rfl) (by decide +kernel) ?_
        refine lw_0 hscr hlen hg iw hxi (by omega) (fun τ1 h1 hg1 t1 l5' l6' iw1 e6 => ?_)
        refine l_inc (j := 4) (a := xi) (c := 6) (ls' := fun v => [some (.inl (some 1000000)), some (.inl (some 0)), some (.inl (some 52)), some (.inl (some 388)), some v, l5', l6']) (len := 3) (r := (0, 0, 0, 0)) (by decide +kernel) rfl (fun _ => rfl) (by decide) (by omega) (by omega) (fun y174 hy174 => ?_)
        show qL scr 60 289 838 [some (.inl (some 1000000)), some (.inl (some 0)), some (.inl (some 52)), some (.inl (some 388)), some (zi y174), l5', l6'] [] h1 t1 _
        refine l_goto (off := (-815)) (pc' := 23) (len := 3) (r := (0, 0, 0, 0)) (by decide +kernel) (by decide +kernel) ?_
        exact ih τ1 h1 hg1 (i + 6) t1 y174 l5' l6' iw1 (by omega) (by omega) (by omega) (by omega)
      ·
        have B0 := zand_le (x := (xs i)) (y := y180) (by omega)
        rw [← hy181] at B0
        refine l_sw (dflt := 795) (lo := 0) (hi := 19) (offs := #[96, 169, 197, 210, 223, 263, 303, 316, 344, 396, 448, 476, 516, 580, 593, 673, 701, 729, 757, 770]) (off := 169) (pc' := 209) (len := 96) (r := (0, 0, 0, 0)) (by decide +kernel) (zswI (k := 1) (by omega) (by omega) (by omega) rfl) (by decide +kernel) ?_
        refine lw_1 hscr hlen hg iw hxi (by omega) (fun τ1 h1 hg1 t1 l5' l6' iw1 e6 => ?_)
        refine l_inc (j := 4) (a := xi) (c := 6) (ls' := fun v => [some (.inl (some 1000000)), some (.inl (some 0)), some (.inl (some 52)), some (.inl (some 388)), some v, l5', l6']) (len := 3) (r := (0, 0, 0, 0)) (by decide +kernel) rfl (fun _ => rfl) (by decide) (by omega) (by omega) (fun y174 hy174 => ?_)
        show qL scr 60 289 838 [some (.inl (some 1000000)), some (.inl (some 0)), some (.inl (some 52)), some (.inl (some 388)), some (zi y174), l5', l6'] [] h1 t1 _
        refine l_goto (off := (-815)) (pc' := 23) (len := 3) (r := (0, 0, 0, 0)) (by decide +kernel) (by decide +kernel) ?_
        exact ih τ1 h1 hg1 (i + 6) t1 y174 l5' l6' iw1 (by omega) (by omega) (by omega) (by omega)
      ·
        have B0 := zand_le (x := (xs i)) (y := y180) (by omega)
        rw [← hy181] at B0
        refine l_sw (dflt := 795) (lo := 0) (hi := 19) (offs := #[96, 169, 197, 210, 223, 263, 303, 316, 344, 396, 448, 476, 516, 580, 593, 673, 701, 729, 757, 770]) (off := 197) (pc' := 237) (len := 96) (r := (0, 0, 0, 0)) (by decide +kernel) (zswI (k := 2) (by omega) (by omega) (by omega) rfl) (by decide +kernel) ?_
        refine lw_2 hscr hlen hg iw hxi (by omega) (fun τ1 h1 hg1 t1 l5' l6' iw1 e6 => ?_)
        refine l_inc (j := 4) (a := xi) (c := 6) (ls' := fun v => [some (.inl (some 1000000)), some (.inl (some 0)), some (.inl (some 52)), some (.inl (some 388)), some v, l5', l6']) (len := 3) (r := (0, 0, 0, 0)) (by decide +kernel) rfl (fun _ => rfl) (by decide) (by omega) (by omega) (fun y174 hy174 => ?_)
        show qL scr 60 289 838 [some (.inl (some 1000000)), some (.inl (some 0)), some (.inl (some 52)), some (.inl (some 388)), some (zi y174), l5', l6'] [] h1 t1 _
        refine l_goto (off := (-815)) (pc' := 23) (len := 3) (r := (0, 0, 0, 0)) (by decide +kernel) (by decide +kernel) ?_
        exact ih τ1 h1 hg1 (i + 6) t1 y174 l5' l6' iw1 (by omega) (by omega) (by omega) (by omega)
      ·
        have B0 := zand_le (x := (xs i)) (y := y180) (by omega)
        rw [← hy181] at B0
        refine l_sw (dflt := 795) (lo := 0) (hi := 19) (offs := #[96, 169, 197, 210, 223, 263, 303, 316, 344, 396, 448, 476, 516, 580, 593, 673, 701, 729, 757, 770]) (off := 210) (pc' := 250) (len := 96) (r := (0, 0, 0, 0)) (by decide +kernel) (zswI (k := 3) (by omega) (by omega) (by omega) rfl) (by decide +kernel) ?_
        refine lw_3 hscr hlen hg iw hxi (by omega) (fun τ1 h1 hg1 t1 l5' l6' iw1 e6 => ?_)
        refine l_inc (j := 4) (a := xi) (c := 6) (ls' := fun v => [some (.inl (some 1000000)), some (.inl (some 0)), some (.inl (some 52)), some (.inl (some 388)), some v, l5', l6']) (len := 3) (r := (0, 0, 0, 0)) (by decide +kernel) rfl (fun _ => rfl) (by decide) (by omega) (by omega) (fun y174 hy174 => ?_)
        show qL scr 60 289 838 [some (.inl (some 1000000)), some (.inl (some 0)), some (.inl (some 52)), some (.inl (some 388)), some (zi y174), l5', l6'] [] h1 t1 _
        refine l_goto (off := (-815)) (pc' := 23) (len := 3) (r := (0, 0, 0, 0)) (by decide +kernel) (by decide +kernel) ?_
        exact ih τ1 h1 hg1 (i + 6) t1 y174 l5' l6' iw1 (by omega) (by omega) (by omega) (by omega)
      ·
        have B0 := zand_le (x := (xs i)) (y := y180) (by omega)
        rw [← hy181] at B0
        refine l_sw (dflt := 795) (lo := 0) (hi := 19) (offs := #[96, 169, 197, 210, 223, 263, 303, 316, 344, 396, 448, 476, 516, 580, 593, 673, 701, 729, 757, 770]) (off := 223) (pc' := 263) (len := 96) (r := (0, 0, 0, 0)) (by decide +kernel) (zswI (k := 4) (by omega) (by omega) (by omega) rfl) (by decide +kernel) ?_
        refine lw_4 hscr hlen hg iw hxi (by omega) (fun τ1 h1 hg1 t1 l5' l6' iw1 e6 => ?_)
        refine l_inc (j := 4) (a := xi) (c := 6) (ls' := fun v => [some (.inl (some 1000000)), some (.inl (some 0)), some (.inl (some 52)), some (.inl (some 388)), some v, l5', l6']) (len := 3) (r := (0, 0, 0, 0)) (by decide +kernel) rfl (fun _ => rfl) (by decide) (by omega) (by omega) (fun y174 hy174 => ?_)
        show qL scr 60 289 838 [some (.inl (some 1000000)), some (.inl (some 0)), some (.inl (some 52)), some (.inl (some 388)), some (zi y174), l5', l6'] [] h1 t1 _
        refine l_goto (off := (-815)) (pc' := 23) (len := 3) (r := (0, 0, 0, 0)) (by decide +kernel) (by decide +kernel) ?_
        exact ih τ1 h1 hg1 (i + 6) t1 y174 l5' l6' iw1 (by omega) (by omega) (by omega) (by omega)
      ·
        have B0 := zand_le (x := (xs i)) (y := y180) (by omega)
        rw [← hy181] at B0
        refine l_sw (dflt := 795) (lo := 0) (hi := 19) (offs := #[96, 169, 197, 210, 223, 263, 303, 316, 344, 396, 448, 476, 516, 580, 593, 673, 701, 729, 757, 770]) (off := 263) (pc' := 303) (len := 96) (r := (0, 0, 0, 0)) (by decide +kernel) (zswI (k := 5) (by omega) (by omega) (by omega) rfl) (by decide +kernel) ?_
        refine lw_5 hscr hlen hg iw hxi (by omega) (fun τ1 h1 hg1 t1 l5' l6' iw1 e6 => ?_)
        refine l_inc (j := 4) (a := xi) (c := 6) (ls' := fun v => [some (.inl (some 1000000)), some (.inl (some 0)), some (.inl (some 52)), some (.inl (some 388)), some v, l5', l6']) (len := 3) (r := (0, 0, 0, 0)) (by decide +kernel) rfl (fun _ => rfl) (by decide) (by omega) (by omega) (fun y174 hy174 => ?_)
        show qL scr 60 289 838 [some (.inl (some 1000000)), some (.inl (some 0)), some (.inl (some 52)), some (.inl (some 388)), some (zi y174), l5', l6'] [] h1 t1 _
        refine l_goto (off := (-815)) (pc' := 23) (len := 3) (r := (0, 0, 0, 0)) (by decide +kernel) (by decide +kernel) ?_
        exact ih τ1 h1 hg1 (i + 6) t1 y174 l5' l6' iw1 (by omega) (by omega) (by omega) (by omega)
      ·
        have B0 := zand_le (x := (xs i)) (y := y180) (by omega)
        rw [← hy181] at B0
        refine l_sw (dflt := 795) (lo := 0) (hi := 19) (offs := #[96, 169, 197, 210, 223, 263, 303, 316, 344, 396, 448, 476, 516, 580, 593, 673, 701, 729, 757, 770]) (off := 303) (pc' := 343) (len := 96) (r := (0, 0, 0, 0)) (by decide +kernel) (zswI (k := 6) (by omega) (by omega) (by omega) rfl) (by decide +kernel) ?_
        refine lw_6 hscr hlen hg iw hxi (by omega) (fun τ1 h1 hg1 t1 l5' l6' iw1 e6 => ?_)
        refine l_inc (j := 4) (a := xi) (c := 6) (ls' := fun v => [some (.inl (some 1000000)), some (.inl (some 0)), some (.inl (some 52)), some (.inl (some 388)), some v, l5', l6']) (len := 3) (r := (0, 0, 0, 0)) (by decide +kernel) rfl (fun _ => rfl) (by decide) (by omega) (by omega) (fun y174 hy174 => ?_)
        show qL scr 60 289 838 [some (.inl (some 1000000)), some (.inl (some 0)), some (.inl (some 52)), some (.inl (some 388)), some (zi y174), l5', l6'] [] h1 t1 _
        refine l_goto (off := (-815)) (pc' := 23) (len := 3) (r := (0, 0, 0, 0)) (by decide +kernel) (by decide +kernel) ?_
        exact ih τ1 h1 hg1 (i + 6) t1 y174 l5' l6' iw1 (by omega) (by omega) (by omega) (by omega)
      ·
        have B0 := zand_le (x := (xs i)) (y := y180) (by omega)
        rw [← hy181] at B0
        refine l_sw (dflt := 795) (lo := 0) (hi := 19) (offs := #[96, 169, 197, 210, 223, 263, 303, 316, 344, 396, 448, 476, 516, 580, 593, 673, 701, 729, 757, 770]) (off := 316) (pc' := 356) (len := 96) (r := (0, 0, 0, 0)) (by decide +kernel) (zswI (k := 7) (by omega) (by omega) (by omega) rfl) (by decide +kernel) ?_
        refine lw_7 hscr hlen hg iw hxi (by omega) (fun τ1 h1 hg1 t1 l5' l6' iw1 e6 => ?_)
        refine l_inc (j := 4) (a := xi) (c := 6) (ls' := fun v => [some (.inl (some 1000000)), some (.inl (some 0)), some (.inl (some 52)), some (.inl (some 388)), some v, l5', l6']) (len := 3) (r := (0, 0, 0, 0)) (by decide +kernel) rfl (fun _ => rfl) (by decide) (by omega) (by omega) (fun y174 hy174 => ?_)
        show qL scr 60 289 838 [some (.inl (some 1000000)), some (.inl (some 0)), some (.inl (some 52)), some (.inl (some 388)), some (zi y174), l5', l6'] [] h1 t1 _
        refine l_goto (off := (-815)) (pc' := 23) (len := 3) (r := (0, 0, 0, 0)) (by decide +kernel) (by decide +kernel) ?_
        exact ih τ1 h1 hg1 (i + 6) t1 y174 l5' l6' iw1 (by omega) (by omega) (by omega) (by omega)
      ·
        have B0 := zand_le (x := (xs i)) (y := y180) (by omega)
        rw [← hy181] at B0
        refine l_sw (dflt := 795) (lo := 0) (hi := 19) (offs := #[96, 169, 197, 210, 223, 263, 303, 316, 344, 396, 448, 476, 516, 580, 593, 673, 701, 729, 757, 770]) (off := 344) (pc' := 384) (len := 96) (r := (0, 0, 0, 0)) (by decide +kernel) (zswI (k := 8) (by omega) (by omega) (by omega) rfl) (by decide +kernel) ?_
        refine lw_8 hscr hlen hg iw hxi (by omega) (fun τ1 h1 hg1 t1 l5' l6' iw1 e6 => ?_)
        refine l_inc (j := 4) (a := xi) (c := 6) (ls' := fun v => [some (.inl (some 1000000)), some (.inl (some 0)), some (.inl (some 52)), some (.inl (some 388)), some v, l5', l6']) (len := 3) (r := (0, 0, 0, 0)) (by decide +kernel) rfl (fun _ => rfl) (by decide) (by omega) (by omega) (fun y174 hy174 => ?_)
        show qL scr 60 289 838 [some (.inl (some 1000000)), some (.inl (some 0)), some (.inl (some 52)), some (.inl (some 388)), some (zi y174), l5', l6'] [] h1 t1 _
        refine l_goto (off := (-815)) (pc' := 23) (len := 3) (r := (0, 0, 0, 0)) (by decide +kernel) (by decide +kernel) ?_
        exact ih τ1 h1 hg1 (i + 6) t1 y174 l5' l6' iw1 (by omega) (by omega) (by omega) (by omega)
      ·
        have B0 := zand_le (x := (xs i)) (y := y180) (by omega)
        rw [← hy181] at B0
        refine l_sw (dflt := 795) (lo := 0) (hi := 19) (offs := #[96, 169, 197, 210, 223, 263, 303, 316, 344, 396, 448, 476, 516, 580, 593, 673, 701, 729, 757, 770]) (off := 396) (pc' := 436) (len := 96) (r := (0, 0, 0, 0)) (by decide +kernel) (zswI (k := 9) (by omega) (by omega) (by omega) rfl) (by decide +kernel) ?_
        refine lw_9 hscr hlen hg iw hxi (by omega) (fun τ1 h1 hg1 t1 l5' l6' iw1 e6 => ?_)
        refine l_inc (j := 4) (a := xi) (c := 6) (ls' := fun v => [some (.inl (some 1000000)), some (.inl (some 0)), some (.inl (some 52)), some (.inl (some 388)), some v, l5', l6']) (len := 3) (r := (0, 0, 0, 0)) (by decide +kernel) rfl (fun _ => rfl) (by decide) (by omega) (by omega) (fun y174 hy174 => ?_)
        show qL scr 60 289 838 [some (.inl (some 1000000)), some (.inl (some 0)), some (.inl (some 52)), some (.inl (some 388)), some (zi y174), l5', l6'] [] h1 t1 _
        refine l_goto (off := (-815)) (pc' := 23) (len := 3) (r := (0, 0, 0, 0)) (by decide +kernel) (by decide +kernel) ?_
        exact ih τ1 h1 hg1 (i + 6) t1 y174 l5' l6' iw1 (by omega) (by omega) (by omega) (by omega)
      ·
        have B0 := zand_le (x := (xs i)) (y := y180) (by omega)
        rw [← hy181] at B0
        refine l_sw (dflt := 795) (lo := 0) (hi := 19) (offs := #[96, 169, 197, 210, 223, 263, 303, 316, 344, 396, 448, 476, 516, 580, 593, 673, 701, 729, 757, 770]) (off := 448) (pc' := 488) (len := 96) (r := (0, 0, 0, 0)) (by decide +kernel) (zswI (k := 10) (by omega) (by omega) (by omega) rfl) (by decide +kernel) ?_
        refine lw_10 hscr hlen hg iw hxi (by omega) (fun τ1 h1 hg1 t1 l5' l6' iw1 e6 => ?_)
        refine l_inc (j := 4) (a := xi) (c := 6) (ls' := fun v => [some (.inl (some 1000000)), some (.inl (some 0)), some (.inl (some 52)), some (.inl (some 388)), some v, l5', l6']) (len := 3) (r := (0, 0, 0, 0)) (by decide +kernel) rfl (fun _ => rfl) (by decide) (by omega) (by omega) (fun y174 hy174 => ?_)
        show qL scr 60 289 838 [some (.inl (some 1000000)), some (.inl (some 0)), some (.inl (some 52)), some (.inl (some 388)), some (zi y174), l5', l6'] [] h1 t1 _
        refine l_goto (off := (-815)) (pc' := 23) (len := 3) (r := (0, 0, 0, 0)) (by decide +kernel) (by decide +kernel) ?_
        exact ih τ1 h1 hg1 (i + 6) t1 y174 l5' l6' iw1 (by omega) (by omega) (by omega) (by omega)
      ·
        have B0 := zand_le (x := (xs i)) (y := y180) (by omega)
        rw [← hy181] at B0
        refine l_sw (dflt := 795) (lo := 0) (hi := 19) (offs := #[96, 169, 197, 210, 223, 263, 303, 316, 344, 396, 448, 476, 516, 580, 593, 673, 701, 729, 757, 770]) (off := 476) (pc' := 516) (len := 96) (r := (0, 0, 0, 0)) (by decide +kernel) (zswI (k := 11) (by omega) (by omega) (by omega) rfl) (by decide +kernel) ?_
        refine lw_11 hscr hlen hg iw hxi (by omega) (fun τ1 h1 hg1 t1 l5' l6' iw1 e6 => ?_)
        refine l_inc (j := 4) (a := xi) (c := 6) (ls' := fun v => [some (.inl (some 1000000)), some (.inl (some 0)), some (.inl (some 52)), some (.inl (some 388)), some v, l5', l6']) (len := 3) (r := (0, 0, 0, 0)) (by decide +kernel) rfl (fun _ => rfl) (by decide) (by omega) (by omega) (fun y174 hy174 => ?_)
        show qL scr 60 289 838 [some (.inl (some 1000000)), some (.inl (some 0)), some (.inl (some 52)), some (.inl (some 388)), some (zi y174), l5', l6'] [] h1 t1 _
        refine l_goto (off := (-815)) (pc' := 23) (len := 3) (r := (0, 0, 0, 0)) (by decide +kernel) (by decide +kernel) ?_
        exact ih τ1 h1 hg1 (i + 6) t1 y174 l5' l6' iw1 (by omega) (by omega) (by omega) (by omega)
      ·
        have B0 := zand_le (x := (xs i)) (y := y180) (by omega)
        rw [← hy181] at B0
        refine l_sw (dflt := 795) (lo := 0) (hi := 19) (offs := #[96, 169, 197, 210, 223, 263, 303, 316, 344, 396, 448, 476, 516, 580, 593, 673, 701, 729, 757, 770]) (off := 516) (pc' := 556) (len := 96) (r := (0, 0, 0, 0)) (by decide +kernel) (zswI (k := 12) (by omega) (by omega) (by omega) rfl) (by decide +kernel) ?_
        refine lw_12 hscr hlen hg iw hxi (by omega) (fun τ1 h1 hg1 t1 l5' l6' iw1 e6 => ?_)
        refine l_inc (j := 4) (a := xi) (c := 6) (ls' := fun v => [some (.inl (some 1000000)), some (.inl (some 0)), some (.inl (some 52)), some (.inl (some 388)), some v, l5', l6']) (len := 3) (r := (0, 0, 0, 0)) (by decide +kernel) rfl (fun _ => rfl) (by decide) (by omega) (by omega) (fun y174 hy174 => ?_)
        show qL scr 60 289 838 [some (.inl (some 1000000)), some (.inl (some 0)), some (.inl (some 52)), some (.inl (some 388)), some (zi y174), l5', l6'] [] h1 t1 _
        refine l_goto (off := (-815)) (pc' := 23) (len := 3) (r := (0, 0, 0, 0)) (by decide +kernel) (by decide +kernel) ?_
        exact ih τ1 h1 hg1 (i + 6) t1 y174 l5' l6' iw1 (by omega) (by omega) (by omega) (by omega)
      ·
        have B0 := zand_le (x := (xs i)) (y := y180) (by omega)
        rw [← hy181] at B0
        refine l_sw (dflt := 795) (lo := 0) (hi := 19) (offs := #[96, 169, 197, 210, 223, 263, 303, 316, 344, 396, 448, 476, 516, 580, 593, 673, 701, 729, 757, 770]) (off := 580) (pc' := 620) (len := 96) (r := (0, 0, 0, 0)) (by decide +kernel) (zswI (k := 13) (by omega) (by omega) (by omega) rfl) (by decide +kernel) ?_
        refine lw_13 hscr hlen hg iw hxi (by omega) (fun τ1 h1 hg1 t1 l5' l6' iw1 e6 => ?_)
        refine l_inc (j := 4) (a := xi) (c := 6) (ls' := fun v => [some (.inl (some 1000000)), some (.inl (some 0)), some (.inl (some 52)), some (.inl (some 388)), some v, l5', l6']) (len := 3) (r := (0, 0, 0, 0)) (by decide +kernel) rfl (fun _ => rfl) (by decide) (by omega) (by omega) (fun y174 hy174 => ?_)
        show qL scr 60 289 838 [some (.inl (some 1000000)), some (.inl (some 0)), some (.inl (some 52)), some (.inl (some 388)), some (zi y174), l5', l6'] [] h1 t1 _
        refine l_goto (off := (-815)) (pc' := 23) (len := 3) (r := (0, 0, 0, 0)) (by decide +kernel) (by decide +kernel) ?_
        exact ih τ1 h1 hg1 (i + 6) t1 y174 l5' l6' iw1 (by omega) (by omega) (by omega) (by omega)
      ·
        have B0 := zand_le (x := (xs i)) (y := y180) (by omega)
        rw [← hy181] at B0
        refine l_sw (dflt := 795) (lo := 0) (hi := 19) (offs := #[96, 169, 197, 210, 223, 263, 303, 316, 344, 396, 448, 476, 516, 580, 593, 673, 701, 729, 757, 770]) (off := 593) (pc' := 633) (len := 96) (r := (0, 0, 0, 0)) (by decide +kernel) (zswI (k := 14) (by omega) (by omega) (by omega) rfl) (by decide +kernel) ?_
        refine lw_14 hscr hlen hg iw hxi (by omega) (fun τ1 h1 hg1 t1 l5' l6' iw1 e6 => ?_)
        refine l_inc (j := 4) (a := xi) (c := 6) (ls' := fun v => [some (.inl (some 1000000)), some (.inl (some 0)), some (.inl (some 52)), some (.inl (some 388)), some v, l5', l6']) (len := 3) (r := (0, 0, 0, 0)) (by decide +kernel) rfl (fun _ => rfl) (by decide) (by omega) (by omega) (fun y174 hy174 => ?_)
        show qL scr 60 289 838 [some (.inl (some 1000000)), some (.inl (some 0)), some (.inl (some 52)), some (.inl (some 388)), some (zi y174), l5', l6'] [] h1 t1 _
        refine l_goto (off := (-815)) (pc' := 23) (len := 3) (r := (0, 0, 0, 0)) (by decide +kernel) (by decide +kernel) ?_
        exact ih τ1 h1 hg1 (i + 6) t1 y174 l5' l6' iw1 (by omega) (by omega) (by omega) (by omega)
      ·
        have B0 := zand_le (x := (xs i)) (y := y180) (by omega)
        rw [← hy181] at B0
        refine l_sw (dflt := 795) (lo := 0) (hi := 19) (offs := #[96, 169, 197, 210, 223, 263, 303, 316, 344, 396, 448, 476, 516, 580, 593, 673, 701, 729, 757, 770]) (off := 673) (pc' := 713) (len := 96) (r := (0, 0, 0, 0)) (by decide +kernel) (zswI (k := 15) (by omega) (by omega) (by omega) rfl) (by decide +kernel) ?_
        refine lw_15 hscr hlen hg iw hxi (by omega) (fun τ1 h1 hg1 t1 l5' l6' iw1 e6 => ?_)
        refine l_inc (j := 4) (a := xi) (c := 6) (ls' := fun v => [some (.inl (some 1000000)), some (.inl (some 0)), some (.inl (some 52)), some (.inl (some 388)), some v, l5', l6']) (len := 3) (r := (0, 0, 0, 0)) (by decide +kernel) rfl (fun _ => rfl) (by decide) (by omega) (by omega) (fun y174 hy174 => ?_)
        show qL scr 60 289 838 [some (.inl (some 1000000)), some (.inl (some 0)), some (.inl (some 52)), some (.inl (some 388)), some (zi y174), l5', l6'] [] h1 t1 _
        refine l_goto (off := (-815)) (pc' := 23) (len := 3) (r := (0, 0, 0, 0)) (by decide +kernel) (by decide +kernel) ?_
        exact ih τ1 h1 hg1 (i + 6) t1 y174 l5' l6' iw1 (by omega) (by omega) (by omega) (by omega)
      ·
        have B0 := zand_le (x := (xs i)) (y := y180) (by omega)
        rw [← hy181] at B0
        refine l_sw (dflt := 795) (lo := 0) (hi := 19) (offs := #[96, 169, 197, 210, 223, 263, 303, 316, 344, 396, 448, 476, 516, 580, 593, 673, 701, 729, 757, 770]) (off := 701) (pc' := 741) (len := 96) (r := (0, 0, 0, 0)) (by decide +kernel) (zswI (k := 16) (by omega) (by omega) (by omega) rfl) (by decide +kernel) ?_
        refine lw_16 hscr hlen hg iw hxi (by omega) (fun τ1 h1 hg1 t1 l5' l6' iw1 e6 => ?_)
        refine l_inc (j := 4) (a := xi) (c := 6) (ls' := fun v => [some (.inl (some 1000000)), some (.inl (some 0)), some (.inl (some 52)), some (.inl (some 388)), some v, l5', l6']) (len := 3) (r := (0, 0, 0, 0)) (by decide +kernel) rfl (fun _ => rfl) (by decide) (by omega) (by omega) (fun y174 hy174 => ?_)
        show qL scr 60 289 838 [some (.inl (some 1000000)), some (.inl (some 0)), some (.inl (some 52)), some (.inl (some 388)), some (zi y174), l5', l6'] [] h1 t1 _
        refine l_goto (off := (-815)) (pc' := 23) (len := 3) (r := (0, 0, 0, 0)) (by decide +kernel) (by decide +kernel) ?_
        exact ih τ1 h1 hg1 (i + 6) t1 y174 l5' l6' iw1 (by omega) (by omega) (by omega) (by omega)
      ·
        have B0 := zand_le (x := (xs i)) (y := y180) (by omega)
        rw [← hy181] at B0
        refine l_sw (dflt := 795) (lo := 0) (hi := 19) (offs := #[96, 169, 197, 210, 223, 263, 303, 316, 344, 396, 448, 476, 516, 580, 593, 673, 701, 729, 757, 770]) (off := 729) (pc' := 769) (len := 96) (r := (0, 0, 0, 0)) (by decide +kernel) (zswI (k := 17) (by omega) (by omega) (by omega) rfl) (by decide +kernel) ?_
        refine lw_17 hscr hlen hg iw hxi (by omega) (fun τ1 h1 hg1 t1 l5' l6' iw1 e6 => ?_)
        refine l_inc (j := 4) (a := xi) (c := 6) (ls' := fun v => [some (.inl (some 1000000)), some (.inl (some 0)), some (.inl (some 52)), some (.inl (some 388)), some v, l5', l6']) (len := 3) (r := (0, 0, 0, 0)) (by decide +kernel) rfl (fun _ => rfl) (by decide) (by omega) (by omega) (fun y174 hy174 => ?_)
        show qL scr 60 289 838 [some (.inl (some 1000000)), some (.inl (some 0)), some (.inl (some 52)), some (.inl (some 388)), some (zi y174), l5', l6'] [] h1 t1 _
        refine l_goto (off := (-815)) (pc' := 23) (len := 3) (r := (0, 0, 0, 0)) (by decide +kernel) (by decide +kernel) ?_
        exact ih τ1 h1 hg1 (i + 6) t1 y174 l5' l6' iw1 (by omega) (by omega) (by omega) (by omega)
      ·
        have B0 := zand_le (x := (xs i)) (y := y180) (by omega)
        rw [← hy181] at B0
        refine l_sw (dflt := 795) (lo := 0) (hi := 19) (offs := #[96, 169, 197, 210, 223, 263, 303, 316, 344, 396, 448, 476, 516, 580, 593, 673, 701, 729, 757, 770]) (off := 757) (pc' := 797) (len := 96) (r := (0, 0, 0, 0)) (by decide +kernel) (zswI (k := 18) (by omega) (by omega) (by omega) rfl) (by decide +kernel) ?_
        refine lw_18 hscr hlen hg iw hxi (by omega) (fun τ1 h1 hg1 t1 l5' l6' iw1 e6 => ?_)
        refine l_inc (j := 4) (a := xi) (c := 6) (ls' := fun v => [some (.inl (some 1000000)), some (.inl (some 0)), some (.inl (some 52)), some (.inl (some 388)), some v, l5', l6']) (len := 3) (r := (0, 0, 0, 0)) (by decide +kernel) rfl (fun _ => rfl) (by decide) (by omega) (by omega) (fun y174 hy174 => ?_)
        show qL scr 60 289 838 [some (.inl (some 1000000)), some (.inl (some 0)), some (.inl (some 52)), some (.inl (some 388)), some (zi y174), l5', l6'] [] h1 t1 _
        refine l_goto (off := (-815)) (pc' := 23) (len := 3) (r := (0, 0, 0, 0)) (by decide +kernel) (by decide +kernel) ?_
        exact ih τ1 h1 hg1 (i + 6) t1 y174 l5' l6' iw1 (by omega) (by omega) (by omega) (by omega)
      ·
        have B0 := zand_le (x := (xs i)) (y := y180) (by omega)
        rw [← hy181] at B0
        refine l_sw (dflt := 795) (lo := 0) (hi := 19) (offs := #[96, 169, 197, 210, 223, 263, 303, 316, 344, 396, 448, 476, 516, 580, 593, 673, 701, 729, 757, 770]) (off := 770) (pc' := 810) (len := 96) (r := (0, 0, 0, 0)) (by decide +kernel) (zswI (k := 19) (by omega) (by omega) (by omega) rfl) (by decide +kernel) ?_
        refine lw_19 hscr hlen hg iw hxi (by omega) (fun τ1 h1 hg1 t1 l5' l6' iw1 e6 => ?_)
        refine l_inc (j := 4) (a := xi) (c := 6) (ls' := fun v => [some (.inl (some 1000000)), some (.inl (some 0)), some (.inl (some 52)), some (.inl (some 388)), some v, l5', l6']) (len := 3) (r := (0, 0, 0, 0)) (by decide +kernel) rfl (fun _ => rfl) (by decide) (by omega) (by omega) (fun y174 hy174 => ?_)
        show qL scr 60 289 838 [some (.inl (some 1000000)), some (.inl (some 0)), some (.inl (some 52)), some (.inl (some 388)), some (zi y174), l5', l6'] [] h1 t1 _
        refine l_goto (off := (-815)) (pc' := 23) (len := 3) (r := (0, 0, 0, 0)) (by decide +kernel) (by decide +kernel) ?_
        exact ih τ1 h1 hg1 (i + 6) t1 y174 l5' l6' iw1 (by omega) (by omega) (by omega) (by omega)
      ·
        have B0 := zand_le (x := (xs i)) (y := y180) (by omega)
        rw [← hy181] at B0
        refine l_sw (dflt := 795) (lo := 0) (hi := 19) (offs := #[96, 169, 197, 210, 223, 263, 303, 316, 344, 396, 448, 476, 516, 580, 593, 673, 701, 729, 757, 770]) (off := 795) (pc' := 835) (len := 96) (r := (0, 0, 0, 0)) (by decide +kernel) (zswO (by omega)) (by decide +kernel) ?_
        refine l_inc (j := 4) (a := xi) (c := 6) (ls' := fun v => [some (.inl (some 1000000)), some (.inl (some 0)), some (.inl (some 52)), some (.inl (some 388)), some v, l5, l6]) (len := 3) (r := (0, 0, 0, 0)) (by decide +kernel) rfl (fun _ => rfl) (by decide) (by omega) (by omega) (fun y183 hy183 => ?_)
        show qL scr 60 289 838 [some (.inl (some 1000000)), some (.inl (some 0)), some (.inl (some 52)), some (.inl (some 388)), some (zi y183), l5, l6] [] h t _
        refine l_goto (off := (-815)) (pc' := 23) (len := 3) (r := (0, 0, 0, 0)) (by decide +kernel) (by decide +kernel) ?_
        exact ih τ h hg (i + 6) t y183 l5 l6 iw (by omega) (by omega) (by omega) (by omega)
