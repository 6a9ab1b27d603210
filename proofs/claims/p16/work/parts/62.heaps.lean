/-! small heaps: the small methods -/
section Y2
variable {d mi pc : Nat} {ls : List (Option zv)} {st : List zv} {h : zh} {t : Nat} {P : zo × zh × Nat → Prop} {len : Nat} {r : zr} {τ : List Nat} {A T i : Nat} {st' : List zv} {n v a b : Int32}
theorem y_bal {L : Nat} {rs : List (Nat × qs)} (hf : zfetch mi pc = some (.baload, len, r)) (hg : hG τ h) (hA : τ[A]? = some T) (hT : atyp T = some (.inl (1, L, rs))) (hn : n.toInt = (i : Int)) (hv : hsl h A i = some (zi v)) (k : qX d mi (pc + 1) ls (zi v :: st') h t P) : qX d mi pc ls (zi n :: .inl (some A) :: st') h t P := by
  obtain ⟨fs, hc, hl⟩ := g_arr hg hA hT
  have hlt := g_lt hg hA
  rw [hsl_arr hc] at hv
  refine y_same hf (fun k q => by cases q) ?_ k
  show zbldH pc ls (zi n :: .inl (some A) :: st') h = _
  unfold zbldH
  simp only [zlk_no (show A < 3000000 by omega)]
  unfold zald
  simp only [zarr_at hc]
  rw [zix_ex hn (List.getElem?_eq_some_iff.mp hv).1]
  simp only [nth_eq, hv, Nat.beq_refl, cond_true]
theorem y_bas {L : Nat} {rs : List (Nat × qs)} {lo hi : Int} (hf : zfetch mi pc = some (.bastore, len, r)) (hg : hG τ h) (hA : τ[A]? = some T) (hT : atyp T = some (.inl (1, L, rs))) (hp : aprot T = false) (hn : n.toInt = (i : Int)) (hi9 : i < L) (hq : srng rs i = some (.inl (lo, hi))) (h1 : lo ≤ v.toInt) (h2 : v.toInt ≤ hi) (hz : zfit 1 (zi v) = true) (k : ∀ h2 : zh, hG τ h2 → h2.length = h.length → hsl h2 A i = some (zi v) → hO A i h h2 → qX d mi (pc + 1) ls st' h2 t P) : qX d mi pc ls (zi v :: zi n :: .inl (some A) :: st') h t P := by
  obtain ⟨fs, hc, hl⟩ := g_arr hg hA hT
  obtain ⟨k1, k2, k3, k4⟩ := g_put (v := zi v) hg hA hT hi9 hq ⟨v, rfl, h1, h2⟩ hp
  refine y_step hf (fun k q => by cases q) (z := some (.inl (A, i, zi v))) ?_ (k _ k1 k2 k3 k4)
  show zast (fun t => Nat.beq t 1) (fun _ v => zfit 1 v) pc ls (zi v :: zi n :: .inl (some A) :: st') h = _
  unfold zast
  simp only [zarr_at hc, Nat.beq_refl, hz, Bool.and_self, cond_true]
  rw [zix_ex hn (by omega)]
theorem y_sw {dflt lo hi off : Int} {offs : Array Int} {pc' : Nat} (hf : zfetch mi pc = some (.tableswitch dflt lo hi offs, len, r)) (hs : zsw (a, none) dflt lo hi offs = some off) (ht : ztg pc off = some pc') (k : qX d mi pc' ls st' h t P) : qX d mi pc ls (zi a :: st') h t P := by
  refine y_same hf (fun k q => by cases q) (stH_A' rfl ?_) k
  show (match zsw (a, none) dflt lo hi offs with
    | some off => zbr (some true) pc off ls st'
    | none => none) = _
  rw [hs]
  show (match ztg pc off with
    | some t => some (t, ls, st')
    | none => none) = _
  rw [ht]
end Y2
theorem zswI {a : Int32} {dflt lo hi off : Int} {offs : Array Int} {k : Nat} (h1 : lo ≤ a.toInt) (h2 : a.toInt ≤ hi) (hk : (a.toInt - lo).toNat = k) (ho : offs[k]? = some off) : zsw (a, none) dflt lo hi offs = some off := by
  unfold zsw
  have e1 : decide ((zhi (a, none)).toInt < lo) = false := decide_eq_false (by show ¬ a.toInt < lo; omega)
  have e2 : decide (hi < a.toInt) = false := decide_eq_false (by omega)
  have e3 : decide (a.toInt < lo) = false := decide_eq_false (by omega)
  simp only [e1, e2, e3, Bool.or_self, cond_false, hk, ho]
theorem zswO {a : Int32} {dflt lo hi : Int} {offs : Array Int} (h1 : a.toInt < lo ∨ hi < a.toInt) : zsw (a, none) dflt lo hi offs = some dflt := by
  unfold zsw
  have e : (decide ((zhi (a, none)).toInt < lo) || decide (hi < a.toInt)) = true := by
    show (decide (a.toInt < lo) || decide (hi < a.toInt)) = true
    simp only [Bool.or_eq_true, decide_eq_true_eq]
    exact h1
  rw [e]
  rfl
theorem at386 : atyp 386 = some (.inl (1, 32, [(32, .inl (0, 1))])) := rfl
theorem atau_386 : atau[386]? = some 386 := by decide +kernel
theorem tu386 {τ : List Nat} {h : zh} (hg : hG τ h) : τ[386]? = some 386 := hg.1.2.2.1 _ _ atau_386
def rs55 : List (Nat × qs) := [(1, .inl (0, 5)), (2, .inl (0, 6)), (46, .inl (0, 5)), (47, .inl (0, 5)), (48, .inl (0, 6)), (92, .inl (0, 5))]
theorem at55 : atyp 55 = some (.inl (0, 92, rs55)) := rfl
theorem rs55_b : (List.range 92).all (fun i => match srng rs55 i with
    | some (.inl (l, u)) => decide (l = 0) && decide (u = if i = 1 ∨ i = 47 then 6 else 5)
    | _ => false) = true := by decide +kernel
theorem rs55_ok : ∀ i, i < 92 → srng rs55 i = some (.inl (0, if i = 1 ∨ i = 47 then 6 else 5)) := by
  intro i hi
  have h9 := List.all_eq_true.mp rs55_b i (List.mem_range.mpr hi)
  split at h9
  · rename_i l u e
    simp only [Bool.and_eq_true, decide_eq_true_eq] at h9
    rw [e, h9.1, h9.2]
  · cases h9
theorem g55 {τ : List Nat} {h : zh} {i : Nat} (hg : hG τ h) (hi : i < 92) (h1 : i ≠ 1) (h2 : i ≠ 47) : ∃ x : Int32, hsl h 55 i = some (zi x) ∧ 0 ≤ x.toInt ∧ x.toInt ≤ 5 := by
  have e := rs55_ok i hi
  rw [if_neg (by omega)] at e
  exact g_int hg (tu55 hg) at55 hi e
theorem g55c {τ : List Nat} {h : zh} {i : Nat} (hg : hG τ h) (hi : i < 92) : ∃ x : Int32, hsl h 55 i = some (zi x) ∧ 0 ≤ x.toInt ∧ x.toInt ≤ 6 := by
  by_cases h9 : i = 1 ∨ i = 47
  · have e := rs55_ok i hi
    rw [if_pos h9] at e
    exact g_int hg (tu55 hg) at55 hi e
  · obtain ⟨x, a, b, c⟩ := g55 hg hi (by omega) (by omega)
    exact ⟨x, a, b, by omega⟩
theorem e_parts {d t s : Nat} {τ : List Nat} {h : zh} {x y : Int32} (hg : hG τ h) (hx : x.toInt = (s : Int)) (hs : s ≤ 1) (hy : hsl h 55 (46 * s + 0) = some (zi y)) : qI (d + 1) 166 [some (.inl (some 55)), some (zi x)] h t (fun z h1 => h = h1 ∧ y = z) := by
  refine qI_of ?_
  refine y_same (i := .aload_n 0) (len := 1) (r := (0, 0, 0, 0)) (pc' := 1) (ls' := [some (.inl (some 55)), some (zi x)]) (st' := [.inl (some 55)]) (by decide +kernel) (fun k q => by cases q) rfl ?_
  refine y_bi (c := 46) (len := 2) (r := (0, 0, 0, 0)) (by decide +kernel) (by decide) (fun y1 hy1 => ?_)
  refine y_same (i := .iload_n 1) (len := 1) (r := (0, 0, 0, 0)) (pc' := 4) (ls' := [some (.inl (some 55)), some (zi x)]) (st' := [zi x, zi y1, .inl (some 55)]) (by decide +kernel) (fun k q => by cases q) rfl ?_
  refine y_mul (c := 46) (len := 1) (r := (0, 0, 0, 0)) (by decide +kernel) (by omega) (by omega) (by omega) (fun y2 hy2 => ?_)
  refine y_ial (i := (46 * s)) (len := 1) (r := (0, 0, 0, 0)) (by decide +kernel) hg (tu55 hg) at55 (by omega) hy ?_
  refine y_rI (len := 1) (r := (0, 0, 0, 0)) (nL := 2) (k := 1) (n9 := 2) (hs := []) (by decide +kernel) rfl rfl ?_
  exact ⟨rfl, rfl⟩
theorem e_claims {d t s : Nat} {τ : List Nat} {h : zh} {x y : Int32} (hg : hG τ h) (hx : x.toInt = (s : Int)) (hs : s ≤ 1) (hy : hsl h 55 (46 * s + 1) = some (zi y)) : qI (d + 1) 167 [some (.inl (some 55)), some (zi x)] h t (fun z h1 => h = h1 ∧ y = z) := by
  refine qI_of ?_
  refine y_same (i := .aload_n 0) (len := 1) (r := (0, 0, 0, 0)) (pc' := 1) (ls' := [some (.inl (some 55)), some (zi x)]) (st' := [.inl (some 55)]) (by decide +kernel) (fun k q => by cases q) rfl ?_
  refine y_bi (c := 46) (len := 2) (r := (0, 0, 0, 0)) (by decide +kernel) (by decide) (fun y3 hy3 => ?_)
  refine y_same (i := .iload_n 1) (len := 1) (r := (0, 0, 0, 0)) (pc' := 4) (ls' := [some (.inl (some 55)), some (zi x)]) (st' := [zi x, zi y3, .inl (some 55)]) (by decide +kernel) (fun k q => by cases q) rfl ?_
  refine y_mul (c := 46) (len := 1) (r := (0, 0, 0, 0)) (by decide +kernel) (by omega) (by omega) (by omega) (fun y4 hy4 => ?_)
  refine y_ic (c := 1) (len := 1) (r := (0, 0, 0, 0)) (by decide +kernel) (by decide) (fun y5 hy5 => ?_)
  refine y_add (len := 1) (r := (0, 0, 0, 0)) (by decide +kernel) (by omega) (by omega) (fun y6 hy6 => ?_)
  refine y_ial (i := ((46 * s) + 1)) (len := 1) (r := (0, 0, 0, 0)) (by decide +kernel) hg (tu55 hg) at55 (by omega) hy ?_
  refine y_rI (len := 1) (r := (0, 0, 0, 0)) (nL := 2) (k := 1) (n9 := 2) (hs := []) (by decide +kernel) rfl rfl ?_
  exact ⟨rfl, rfl⟩
theorem e_partAt {d t s k : Nat} {h : zh} {x z : Int32} (hx : x.toInt = (s : Int)) (hs : s ≤ 1) (hz : z.toInt = (k : Int)) (hk : k < 100) : qI (d + 1) 168 [some (zi x), some (zi z)] h t (fun y h1 => h = h1 ∧ y.toInt = 46 * (s : Int) + 2 + 4 * (k : Int)) := by
  refine qI_of ?_
  refine y_bi (c := 46) (len := 2) (r := (0, 0, 0, 0)) (by decide +kernel) (by decide) (fun y7 hy7 => ?_)
  refine y_same (i := .iload_n 0) (len := 1) (r := (0, 0, 0, 0)) (pc' := 3) (ls' := [some (zi x), some (zi z)]) (st' := [zi x, zi y7]) (by decide +kernel) (fun k q => by cases q) rfl ?_
  refine y_mul (c := 46) (len := 1) (r := (0, 0, 0, 0)) (by decide +kernel) (by omega) (by omega) (by omega) (fun y8 hy8 => ?_)
  refine y_ic (c := 2) (len := 1) (r := (0, 0, 0, 0)) (by decide +kernel) (by decide) (fun y9 hy9 => ?_)
  refine y_add (len := 1) (r := (0, 0, 0, 0)) (by decide +kernel) (by omega) (by omega) (fun y10 hy10 => ?_)
  refine y_ic (c := 4) (len := 1) (r := (0, 0, 0, 0)) (by decide +kernel) (by decide) (fun y11 hy11 => ?_)
  refine y_same (i := .iload_n 1) (len := 1) (r := (0, 0, 0, 0)) (pc' := 8) (ls' := [some (zi x), some (zi z)]) (st' := [zi z, zi y11, zi y10]) (by decide +kernel) (fun k q => by cases q) rfl ?_
  refine y_mul (c := 4) (len := 1) (r := (0, 0, 0, 0)) (by decide +kernel) (by omega) (by omega) (by omega) (fun y12 hy12 => ?_)
  refine y_add (len := 1) (r := (0, 0, 0, 0)) (by decide +kernel) (by omega) (by omega) (fun y13 hy13 => ?_)
  refine y_rI (len := 1) (r := (0, 0, 0, 0)) (nL := 2) (k := 1) (n9 := 2) (hs := []) (by decide +kernel) rfl rfl ?_
  exact ⟨rfl, by omega⟩
theorem e_claimAt {d t s k : Nat} {h : zh} {x z : Int32} (hx : x.toInt = (s : Int)) (hs : s ≤ 1) (hz : z.toInt = (k : Int)) (hk : k < 100) : qI (d + 1) 169 [some (zi x), some (zi z)] h t (fun y h1 => h = h1 ∧ y.toInt = 46 * (s : Int) + 22 + 4 * (k : Int)) := by
  refine qI_of ?_
  refine y_bi (c := 46) (len := 2) (r := (0, 0, 0, 0)) (by decide +kernel) (by decide) (fun y14 hy14 => ?_)
  refine y_same (i := .iload_n 0) (len := 1) (r := (0, 0, 0, 0)) (pc' := 3) (ls' := [some (zi x), some (zi z)]) (st' := [zi x, zi y14]) (by decide +kernel) (fun k q => by cases q) rfl ?_
  refine y_mul (c := 46) (len := 1) (r := (0, 0, 0, 0)) (by decide +kernel) (by omega) (by omega) (by omega) (fun y15 hy15 => ?_)
  refine y_ic (c := 2) (len := 1) (r := (0, 0, 0, 0)) (by decide +kernel) (by decide) (fun y16 hy16 => ?_)
  refine y_add (len := 1) (r := (0, 0, 0, 0)) (by decide +kernel) (by omega) (by omega) (fun y17 hy17 => ?_)
  refine y_bi (c := 20) (len := 2) (r := (0, 0, 0, 0)) (by decide +kernel) (by decide) (fun y18 hy18 => ?_)
  refine y_add (len := 1) (r := (0, 0, 0, 0)) (by decide +kernel) (by omega) (by omega) (fun y19 hy19 => ?_)
  refine y_ic (c := 4) (len := 1) (r := (0, 0, 0, 0)) (by decide +kernel) (by decide) (fun y20 hy20 => ?_)
  refine y_same (i := .iload_n 1) (len := 1) (r := (0, 0, 0, 0)) (pc' := 11) (ls' := [some (zi x), some (zi z)]) (st' := [zi z, zi y20, zi y19]) (by decide +kernel) (fun k q => by cases q) rfl ?_
  refine y_mul (c := 4) (len := 1) (r := (0, 0, 0, 0)) (by decide +kernel) (by omega) (by omega) (by omega) (fun y21 hy21 => ?_)
  refine y_add (len := 1) (r := (0, 0, 0, 0)) (by decide +kernel) (by omega) (by omega) (fun y22 hy22 => ?_)
  refine y_rI (len := 1) (r := (0, 0, 0, 0)) (nL := 2) (k := 1) (n9 := 2) (hs := []) (by decide +kernel) rfl rfl ?_
  exact ⟨rfl, by omega⟩
theorem e_puts {d t a : Nat} {τ : List Nat} {h : zh} {x z u w : Int32} (hg : hG τ h) (hx : x.toInt = (a : Int)) (ha : a < 32) (hz : 0 ≤ z.toInt) (hz2 : z.toInt ≤ 3) (hu : 0 ≤ u.toInt) (hu2 : u.toInt ≤ 31) (hw : 0 ≤ w.toInt) (hw2 : w.toInt ≤ 31) : qI (d + 1) 246 [some (.inl (some 52)), some (zi x), some (zi z), some (zi u), some (zi w)] h t (fun y h1 => 0 ≤ y.toInt ∧ y.toInt ≤ 1 ∧ ∃ τ1, oF (fun k j => k ≠ 383 ∧ k ≠ 384 ∧ k ≠ 385) τ h τ1 h1) := by
  refine qI_of ?_
  refine y_same (i := .iload_n 1) (len := 1) (r := (0, 0, 0, 0)) (pc' := 1) (ls' := [some (.inl (some 52)), some (zi x), some (zi z), some (zi u), some (zi w)]) (st' := [zi x]) (by decide +kernel) (fun k q => by cases q) rfl ?_
  rcases Decidable.em (x.toInt = 0) with q23 | q23
  ·
    refine y_iT (c := .eq) (off := 13) (pc' := 14) (len := 3) (r := (0, 0, 0, 0)) (by decide +kernel) (acmpT (c := .eq) (by show _ = _; omega)) (by decide +kernel) ?_
    refine y_ic (c := 0) (len := 1) (r := (0, 0, 0, 0)) (by decide +kernel) (by decide) (fun y24 hy24 => ?_)
    refine y_rI (len := 1) (r := (0, 0, 0, 0)) (nL := 5) (k := 2) (n9 := 5) (hs := []) (by decide +kernel) rfl (zfit_b (by omega) (by omega)).2 ?_
    exact ⟨by omega, by omega, _, oF_refl hg⟩
  ·
    refine y_iF (c := .eq) (off := 13) (len := 3) (r := (0, 0, 0, 0)) (by decide +kernel) (acmpF (c := .eq) (by show ¬ (_ = _); omega)) ?_
    refine y_same (i := .aload_n 0) (len := 1) (r := (0, 0, 0, 0)) (pc' := 5) (ls' := [some (.inl (some 52)), some (zi x), some (zi z), some (zi u), some (zi w)]) (st' := [.inl (some 52)]) (by decide +kernel) (fun k q => by cases q) rfl ?_
    refine y_get (j := 76) (len := 3) (r := (12, 35, 2, 1363)) (by decide +kernel) hg (t52 hg) at52 rfl rfl (g_r52 (f := 35) (T2 := 383) hg rfl (by decide)).1 ?_
    refine y_same (i := .iload_n 1) (len := 1) (r := (0, 0, 0, 0)) (pc' := 9) (ls' := [some (.inl (some 52)), some (zi x), some (zi z), some (zi u), some (zi w)]) (st' := [zi x, .inl (some 383)]) (by decide +kernel) (fun k q => by cases q) rfl ?_
    obtain ⟨v25, hv26, lv25, uv25⟩ := g_int (i := a) hg (tu383 hg) at383 (show a < 32 by omega) (sr1 (by omega))
    refine y_ial (i := a) (len := 1) (r := (0, 0, 0, 0)) (by decide +kernel) hg (tu383 hg) at383 (by omega) hv26 ?_
    refine y_ic (c := (-1)) (len := 1) (r := (0, 0, 0, 0)) (by decide +kernel) (by decide) (fun y27 hy27 => ?_)
    rcases Decidable.em (v25.toInt = y27.toInt) with q28 | q28
    ·
      refine y_cT (c := .eq) (off := 5) (pc' := 16) (len := 3) (r := (0, 0, 0, 0)) (by decide +kernel) (acmpT (c := .eq) (by show _ = _; omega)) (by decide +kernel) ?_
      refine y_same (i := .aload_n 0) (len := 1) (r := (0, 0, 0, 0)) (pc' := 17) (ls' := [some (.inl (some 52)), some (zi x), some (zi z), some (zi u), some (zi w)]) (st' := [.inl (some 52)]) (by decide +kernel) (fun k q => by cases q) rfl ?_
      refine y_get (j := 76) (len := 3) (r := (12, 35, 2, 1363)) (by decide +kernel) hg (t52 hg) at52 rfl rfl (g_r52 (f := 35) (T2 := 383) hg rfl (by decide)).1 ?_
      refine y_same (i := .iload_n 1) (len := 1) (r := (0, 0, 0, 0)) (pc' := 21) (ls' := [some (.inl (some 52)), some (zi x), some (zi z), some (zi u), some (zi w)]) (st' := [zi x, .inl (some 383)]) (by decide +kernel) (fun k q => by cases q) rfl ?_
      refine y_same (i := .iload_n 2) (len := 1) (r := (0, 0, 0, 0)) (pc' := 22) (ls' := [some (.inl (some 52)), some (zi x), some (zi z), some (zi u), some (zi w)]) (st' := [zi z, zi x, .inl (some 383)]) (by decide +kernel) (fun k q => by cases q) rfl ?_
      refine y_ias (i := a) (len := 1) (r := (0, 0, 0, 0)) (by decide +kernel) hg (tu383 hg) at383 rfl (by omega) (by omega) (sr1 (by omega)) (by omega) (by omega) (fun h29 hg29 hl29 hs29 ho29 => ?_)
      refine y_same (i := .aload_n 0) (len := 1) (r := (0, 0, 0, 0)) (pc' := 24) (ls' := [some (.inl (some 52)), some (zi x), some (zi z), some (zi u), some (zi w)]) (st' := [.inl (some 52)]) (by decide +kernel) (fun k q => by cases q) rfl ?_
      refine y_get (j := 79) (len := 3) (r := (12, 36, 2, 1364)) (by decide +kernel) hg29 (t52 hg29) at52 rfl rfl (g_r52 (f := 36) (T2 := 384) hg29 rfl (by decide)).1 ?_
      refine y_same (i := .iload_n 1) (len := 1) (r := (0, 0, 0, 0)) (pc' := 28) (ls' := [some (.inl (some 52)), some (zi x), some (zi z), some (zi u), some (zi w)]) (st' := [zi x, .inl (some 384)]) (by decide +kernel) (fun k q => by cases q) rfl ?_
      refine y_same (i := .iload_n 3) (len := 1) (r := (0, 0, 0, 0)) (pc' := 29) (ls' := [some (.inl (some 52)), some (zi x), some (zi z), some (zi u), some (zi w)]) (st' := [zi u, zi x, .inl (some 384)]) (by decide +kernel) (fun k q => by cases q) rfl ?_
      refine y_ias (i := a) (len := 1) (r := (0, 0, 0, 0)) (by decide +kernel) hg29 (tu384 hg29) at384 rfl (by omega) (by omega) (sr1 (by omega)) (by omega) (by omega) (fun h30 hg30 hl30 hs30 ho30 => ?_)
      refine y_same (i := .aload_n 0) (len := 1) (r := (0, 0, 0, 0)) (pc' := 31) (ls' := [some (.inl (some 52)), some (zi x), some (zi z), some (zi u), some (zi w)]) (st' := [.inl (some 52)]) (by decide +kernel) (fun k q => by cases q) rfl ?_
      refine y_get (j := 82) (len := 3) (r := (12, 37, 2, 1365)) (by decide +kernel) hg30 (t52 hg30) at52 rfl rfl (g_r52 (f := 37) (T2 := 385) hg30 rfl (by decide)).1 ?_
      refine y_same (i := .iload_n 1) (len := 1) (r := (0, 0, 0, 0)) (pc' := 35) (ls' := [some (.inl (some 52)), some (zi x), some (zi z), some (zi u), some (zi w)]) (st' := [zi x, .inl (some 385)]) (by decide +kernel) (fun k q => by cases q) rfl ?_
      refine y_same (i := .iload 4) (len := 2) (r := (0, 0, 0, 0)) (pc' := 37) (ls' := [some (.inl (some 52)), some (zi x), some (zi z), some (zi u), some (zi w)]) (st' := [zi w, zi x, .inl (some 385)]) (by decide +kernel) (fun k q => by cases q) rfl ?_
      refine y_ias (i := a) (len := 1) (r := (0, 0, 0, 0)) (by decide +kernel) hg30 (tu385 hg30) at385 rfl (by omega) (by omega) (sr1 (by omega)) (by omega) (by omega) (fun h31 hg31 hl31 hs31 ho31 => ?_)
      refine y_ic (c := 1) (len := 1) (r := (0, 0, 0, 0)) (by decide +kernel) (by decide) (fun y32 hy32 => ?_)
      refine y_rI (len := 1) (r := (0, 0, 0, 0)) (nL := 5) (k := 2) (n9 := 5) (hs := []) (by decide +kernel) rfl (zfit_b (by omega) (by omega)).2 ?_
      exact ⟨by omega, by omega, _, ⟨(aup_refl _), hg31, fun k T j hk (hC : k ≠ 383 ∧ k ≠ 384 ∧ k ≠ 385) => ((ho31 k j (by omega)).trans ((ho30 k j (by omega)).trans (ho29 k j (by omega))))⟩⟩
    ·
      refine y_cF (c := .eq) (off := 5) (len := 3) (r := (0, 0, 0, 0)) (by decide +kernel) (acmpF (c := .eq) (by show ¬ (_ = _); omega)) ?_
      refine y_ic (c := 0) (len := 1) (r := (0, 0, 0, 0)) (by decide +kernel) (by decide) (fun y33 hy33 => ?_)
      refine y_rI (len := 1) (r := (0, 0, 0, 0)) (nL := 5) (k := 2) (n9 := 5) (hs := []) (by decide +kernel) rfl (zfit_b (by omega) (by omega)).2 ?_
      exact ⟨by omega, by omega, _, oF_refl hg⟩
theorem e_comesNew {d t m : Nat} {τ : List Nat} {h : zh} {xp : Int32} (hg : hG τ h) (hp : hsl h 52 39 = some (zi xp)) (hxp : xp.toInt = (m : Int)) (hm : m < 31) : qI (d + 1) 247 [some (.inl (some 52))] h t (fun y h1 => y.toInt = (m : Int) + 1 ∧ ∃ τ1, oF (fun k j => k ≠ 383 ∧ (k ≠ 52 ∨ j ≠ 39)) τ h τ1 h1 ∧ hsl h1 52 39 = some (zi y)) := by
  refine qI_of ?_
  refine y_same (i := .aload_n 0) (len := 1) (r := (0, 0, 0, 0)) (pc' := 1) (ls' := [some (.inl (some 52))]) (st' := [.inl (some 52)]) (by decide +kernel) (fun k q => by cases q) rfl ?_
  refine y_same (i := .dup) (len := 1) (r := (0, 0, 0, 0)) (pc' := 2) (ls' := [some (.inl (some 52))]) (st' := [.inl (some 52), .inl (some 52)]) (by decide +kernel) (fun k q => by cases q) rfl ?_
  refine y_get (j := 410) (len := 3) (r := (12, 39, 0, 1367)) (by decide +kernel) hg (t52 hg) at52 rfl rfl hp ?_
  refine y_ic (c := 1) (len := 1) (r := (0, 0, 0, 0)) (by decide +kernel) (by decide) (fun y34 hy34 => ?_)
  refine y_add (len := 1) (r := (0, 0, 0, 0)) (by decide +kernel) (by omega) (by omega) (fun y35 hy35 => ?_)
  refine y_put (j := 410) (lo := 0) (hi := 31) (len := 3) (r := (12, 39, 0, 1367)) (by decide +kernel) hg (t52 hg) at52 rfl rfl (by decide) rfl (by omega) (by omega) rfl (fun h36 hg36 hl36 hs36 ho36 => ?_)
  have ho36 : hO 52 39 h h36 := ho36
  have hs36 : hsl h36 52 39 = some (zi y35) := hs36
  refine y_same (i := .aload_n 0) (len := 1) (r := (0, 0, 0, 0)) (pc' := 11) (ls' := [some (.inl (some 52))]) (st' := [.inl (some 52)]) (by decide +kernel) (fun k q => by cases q) rfl ?_
  refine y_get (j := 76) (len := 3) (r := (12, 35, 2, 1363)) (by decide +kernel) hg36 (t52 hg36) at52 rfl rfl (g_r52 (f := 35) (T2 := 383) hg36 rfl (by decide)).1 ?_
  refine y_same (i := .aload_n 0) (len := 1) (r := (0, 0, 0, 0)) (pc' := 15) (ls' := [some (.inl (some 52))]) (st' := [.inl (some 52), .inl (some 383)]) (by decide +kernel) (fun k q => by cases q) rfl ?_
  refine y_get (j := 410) (len := 3) (r := (12, 39, 0, 1367)) (by decide +kernel) hg36 (t52 hg36) at52 rfl rfl hs36 ?_
  refine y_ic (c := (-1)) (len := 1) (r := (0, 0, 0, 0)) (by decide +kernel) (by decide) (fun y37 hy37 => ?_)
  refine y_ias (i := (m + 1)) (len := 1) (r := (0, 0, 0, 0)) (by decide +kernel) hg36 (tu383 hg36) at383 rfl (by omega) (by omega) (sr1 (by omega)) (by omega) (by omega) (fun h38 hg38 hl38 hs38 ho38 => ?_)
  refine y_same (i := .aload_n 0) (len := 1) (r := (0, 0, 0, 0)) (pc' := 21) (ls' := [some (.inl (some 52))]) (st' := [.inl (some 52)]) (by decide +kernel) (fun k q => by cases q) rfl ?_
  have hv39 := (ho38 52 39 (Or.inl (by omega))).trans hs36
  refine y_get (j := 410) (len := 3) (r := (12, 39, 0, 1367)) (by decide +kernel) hg38 (t52 hg38) at52 rfl rfl hv39 ?_
  refine y_rI (len := 1) (r := (0, 0, 0, 0)) (nL := 1) (k := 1) (n9 := 1) (hs := []) (by decide +kernel) rfl rfl ?_
  exact ⟨by omega, _, ⟨(aup_refl _), hg38, fun k T j hk (hC : k ≠ 383 ∧ (k ≠ 52 ∨ j ≠ 39)) => ((ho38 k j (by omega)).trans (ho36 k j (by omega)))⟩, hv39⟩
theorem e_uses {d t a : Nat} {τ : List Nat} {h : zh} {x z : Int32} (hg : hG τ h) (hx : x.toInt = (a : Int)) (ha : a < 32) : qI (d + 1) 251 [some (.inl (some 52)), some (zi x), some (zi z)] h t (fun y h1 => 0 ≤ y.toInt ∧ y.toInt ≤ 1 ∧ ∃ τ1, oF (fun k j => k ≠ 386) τ h τ1 h1 ∧ sm h 386 0 32 ≤ sm h1 386 0 32 ∧ (y.toInt ≠ 0 → sm h 386 0 32 < sm h1 386 0 32)) := by
  obtain ⟨xu, hu, l1, u1⟩ := g_int (i := a) hg (tu386 hg) at386 ha (sr1 ha)
  refine qI_of ?_
  refine y_same (i := .iload_n 1) (len := 1) (r := (0, 0, 0, 0)) (pc' := 1) (ls' := [some (.inl (some 52)), some (zi x), some (zi z)]) (st' := [zi x]) (by decide +kernel) (fun k q => by cases q) rfl ?_
  rcases Decidable.em (x.toInt = 0) with q40 | q40
  ·
    refine y_iT (c := .eq) (off := 22) (pc' := 23) (len := 3) (r := (0, 0, 0, 0)) (by decide +kernel) (acmpT (c := .eq) (by show _ = _; omega)) (by decide +kernel) ?_
    refine y_ic (c := 0) (len := 1) (r := (0, 0, 0, 0)) (by decide +kernel) (by decide) (fun y41 hy41 => ?_)
    refine y_rI (len := 1) (r := (0, 0, 0, 0)) (nL := 3) (k := 2) (n9 := 3) (hs := []) (by decide +kernel) rfl (zfit_b (by omega) (by omega)).2 ?_
    exact ⟨by omega, by omega, _, oF_refl hg, Nat.le_refl _, fun h9 => absurd (by omega) h9⟩
  ·
    refine y_iF (c := .eq) (off := 22) (len := 3) (r := (0, 0, 0, 0)) (by decide +kernel) (acmpF (c := .eq) (by show ¬ (_ = _); omega)) ?_
    refine y_same (i := .aload_n 0) (len := 1) (r := (0, 0, 0, 0)) (pc' := 5) (ls' := [some (.inl (some 52)), some (zi x), some (zi z)]) (st' := [.inl (some 52)]) (by decide +kernel) (fun k q => by cases q) rfl ?_
    refine y_get (j := 76) (len := 3) (r := (12, 35, 2, 1363)) (by decide +kernel) hg (t52 hg) at52 rfl rfl (g_r52 (f := 35) (T2 := 383) hg rfl (by decide)).1 ?_
    refine y_same (i := .iload_n 1) (len := 1) (r := (0, 0, 0, 0)) (pc' := 9) (ls' := [some (.inl (some 52)), some (zi x), some (zi z)]) (st' := [zi x, .inl (some 383)]) (by decide +kernel) (fun k q => by cases q) rfl ?_
    obtain ⟨v42, hv43, lv42, uv42⟩ := g_int (i := a) hg (tu383 hg) at383 (show a < 32 by omega) (sr1 (by omega))
    refine y_ial (i := a) (len := 1) (r := (0, 0, 0, 0)) (by decide +kernel) hg (tu383 hg) at383 (by omega) hv43 ?_
    refine y_same (i := .iload_n 2) (len := 1) (r := (0, 0, 0, 0)) (pc' := 11) (ls' := [some (.inl (some 52)), some (zi x), some (zi z)]) (st' := [zi z, zi v42]) (by decide +kernel) (fun k q => by cases q) rfl ?_
    rcases Decidable.em (v42.toInt ≠ z.toInt) with q44 | q44
    ·
      refine y_cT (c := .ne) (off := 12) (pc' := 23) (len := 3) (r := (0, 0, 0, 0)) (by decide +kernel) (acmpT (c := .ne) (by show ¬ (_ = _); omega)) (by decide +kernel) ?_
      refine y_ic (c := 0) (len := 1) (r := (0, 0, 0, 0)) (by decide +kernel) (by decide) (fun y45 hy45 => ?_)
      refine y_rI (len := 1) (r := (0, 0, 0, 0)) (nL := 3) (k := 2) (n9 := 3) (hs := []) (by decide +kernel) rfl (zfit_b (by omega) (by omega)).2 ?_
      exact ⟨by omega, by omega, _, oF_refl hg, Nat.le_refl _, fun h9 => absurd (by omega) h9⟩
    ·
      refine y_cF (c := .ne) (off := 12) (len := 3) (r := (0, 0, 0, 0)) (by decide +kernel) (acmpF (c := .ne) (by show _ = _; omega)) ?_
      refine y_same (i := .aload_n 0) (len := 1) (r := (0, 0, 0, 0)) (pc' := 15) (ls' := [some (.inl (some 52)), some (zi x), some (zi z)]) (st' := [.inl (some 52)]) (by decide +kernel) (fun k q => by cases q) rfl ?_
      refine y_get (j := 85) (len := 3) (r := (12, 38, 2, 1366)) (by decide +kernel) hg (t52 hg) at52 rfl rfl (g_r52 (f := 38) (T2 := 386) hg rfl (by decide)).1 ?_
      refine y_same (i := .iload_n 1) (len := 1) (r := (0, 0, 0, 0)) (pc' := 19) (ls' := [some (.inl (some 52)), some (zi x), some (zi z)]) (st' := [zi x, .inl (some 386)]) (by decide +kernel) (fun k q => by cases q) rfl ?_
      refine y_bal (i := a) (len := 1) (r := (0, 0, 0, 0)) (by decide +kernel) hg (tu386 hg) at386 (by omega) hu ?_
      rcases Decidable.em (xu.toInt = 0) with q46 | q46
      ·
        refine y_iT (c := .eq) (off := 5) (pc' := 25) (len := 3) (r := (0, 0, 0, 0)) (by decide +kernel) (acmpT (c := .eq) (by show _ = _; omega)) (by decide +kernel) ?_
        refine y_same (i := .aload_n 0) (len := 1) (r := (0, 0, 0, 0)) (pc' := 26) (ls' := [some (.inl (some 52)), some (zi x), some (zi z)]) (st' := [.inl (some 52)]) (by decide +kernel) (fun k q => by cases q) rfl ?_
        refine y_get (j := 85) (len := 3) (r := (12, 38, 2, 1366)) (by decide +kernel) hg (t52 hg) at52 rfl rfl (g_r52 (f := 38) (T2 := 386) hg rfl (by decide)).1 ?_
        refine y_same (i := .iload_n 1) (len := 1) (r := (0, 0, 0, 0)) (pc' := 30) (ls' := [some (.inl (some 52)), some (zi x), some (zi z)]) (st' := [zi x, .inl (some 386)]) (by decide +kernel) (fun k q => by cases q) rfl ?_
        refine y_ic (c := 1) (len := 1) (r := (0, 0, 0, 0)) (by decide +kernel) (by decide) (fun y47 hy47 => ?_)
        refine y_bas (i := a) (len := 1) (r := (0, 0, 0, 0)) (by decide +kernel) hg (tu386 hg) at386 rfl (by omega) (by omega) (sr1 (by omega)) (by omega) (by omega) (zfit_b (by omega) (by omega)).1 (fun h48 hg48 hl48 hs48 ho48 => ?_)
        refine y_ic (c := 1) (len := 1) (r := (0, 0, 0, 0)) (by decide +kernel) (by decide) (fun y49 hy49 => ?_)
        refine y_rI (len := 1) (r := (0, 0, 0, 0)) (nL := 3) (k := 2) (n9 := 3) (hs := []) (by decide +kernel) rfl (zfit_b (by omega) (by omega)).2 ?_
        have hlt : sm h 386 0 32 < sm h48 386 0 32 := by
          refine sm_lt (h := h48) (h2 := h) (j := a) (fun i hi => ?_) ha ?_
          · by_cases h9 : i = a
            · subst h9
              have s1 := sv_nn hu (by omega)
              have s2 := sv_nn hs48 (by omega)
              rw [Nat.zero_add]
              omega
            · rw [sv_eq (ho48 386 (0 + i) (Or.inr (by omega)))]
              exact Nat.le_refl _
          · have s1 := sv_nn hu (by omega)
            have s2 := sv_nn hs48 (by omega)
            rw [Nat.zero_add]
            omega
        exact ⟨by omega, by omega, _, ⟨(aup_refl _), hg48, fun k T j hk (hC : k ≠ 386) => (ho48 k j (by omega))⟩, Nat.le_of_lt hlt, fun _ => hlt⟩
      ·
        refine y_iF (c := .eq) (off := 5) (len := 3) (r := (0, 0, 0, 0)) (by decide +kernel) (acmpF (c := .eq) (by show ¬ (_ = _); omega)) ?_
        refine y_ic (c := 0) (len := 1) (r := (0, 0, 0, 0)) (by decide +kernel) (by decide) (fun y50 hy50 => ?_)
        refine y_rI (len := 1) (r := (0, 0, 0, 0)) (nL := 3) (k := 2) (n9 := 3) (hs := []) (by decide +kernel) rfl (zfit_b (by omega) (by omega)).2 ?_
        exact ⟨by omega, by omega, _, oF_refl hg, Nat.le_refl _, fun h9 => absurd (by omega) h9⟩
theorem used_le {τ : List Nat} {h : zh} (hg : hG τ h) : sm h 386 0 32 ≤ 32 := by
  have key : ∀ n, n ≤ 32 → sm h 386 0 n ≤ n := by
    intro n
    induction n with
    | zero => intro _; exact Nat.le_refl _
    | succ n ih =>
      intro hn
      obtain ⟨x, e, l, u⟩ := g_int (i := 0 + n) hg (tu386 hg) at386 (show 0 + n < 32 by omega) (sr1 (by omega))
      have s := sv_nn e l
      have := ih (by omega)
      show sm h 386 0 n + sv h 386 (0 + n) ≤ n + 1
      omega
  exact key 32 (Nat.le_refl _)
theorem e_usesTree {t : Nat} : ∀ (m : Nat) (τ : List Nat) (h : zh), hG τ h → ∀ {a : Nat} {x : Int32}, x.toInt = (a : Int) → a < 32 → 32 ≤ sm h 386 0 32 + m → qI (m + 2) 252 [some (.inl (some 52)), some (zi x)] h t (fun y h1 => 0 ≤ y.toInt ∧ y.toInt ≤ 1 ∧ ∃ τ1, oF (fun k j => k ≠ 386) τ h τ1 h1 ∧ sm h 386 0 32 ≤ sm h1 386 0 32) := by
  intro m
  induction m with
  | zero =>
    intro τ h hg a x hx ha hm
    refine qI_of ?_
    refine y_same (i := .iload_n 1) (len := 1) (r := (0, 0, 0, 0)) (pc' := 1) (ls' := [some (.inl (some 52)), some (zi x)]) (st' := [zi x]) (by decide +kernel) (fun k q => by cases q) rfl ?_
    rcases Decidable.em (x.toInt = 0) with q51 | q51
    ·
      refine y_iT (c := .eq) (off := 38) (pc' := 39) (len := 3) (r := (0, 0, 0, 0)) (by decide +kernel) (acmpT (c := .eq) (by show _ = _; omega)) (by decide +kernel) ?_
      refine y_ic (c := 1) (len := 1) (r := (0, 0, 0, 0)) (by decide +kernel) (by decide) (fun y52 hy52 => ?_)
      refine y_goto (off := 4) (pc' := 44) (len := 3) (r := (0, 0, 0, 0)) (by decide +kernel) (by decide +kernel) ?_
      refine y_rI (len := 1) (r := (0, 0, 0, 0)) (nL := 2) (k := 2) (n9 := 2) (hs := []) (by decide +kernel) rfl (zfit_b (by omega) (by omega)).2 ?_
      exact ⟨by omega, by omega, _, oF_refl hg, Nat.le_refl _⟩
    ·
      refine y_iF (c := .eq) (off := 38) (len := 3) (r := (0, 0, 0, 0)) (by decide +kernel) (acmpF (c := .eq) (by show ¬ (_ = _); omega)) ?_
      refine y_same (i := .aload_n 0) (len := 1) (r := (0, 0, 0, 0)) (pc' := 5) (ls' := [some (.inl (some 52)), some (zi x)]) (st' := [.inl (some 52)]) (by decide +kernel) (fun k q => by cases q) rfl ?_
      refine y_same (i := .iload_n 1) (len := 1) (r := (0, 0, 0, 0)) (pc' := 6) (ls' := [some (.inl (some 52)), some (zi x)]) (st' := [zi x, .inl (some 52)]) (by decide +kernel) (fun k q => by cases q) rfl ?_
      refine y_ic (c := 1) (len := 1) (r := (0, 0, 0, 0)) (by decide +kernel) (by decide) (fun y53 hy53 => ?_)
      refine y_cI (i := .invokevirtual 429) (len := 3) (r := (0, 251, 12, 1842)) (nL := 3) (k := 2) (n := 3) (hs := []) (args := [.inl (some 52), zi x, zi y53]) (rest := []) (l0 := [some (.inl (some 52)), some (zi x), some (zi y53)]) (by decide +kernel) (Or.inr (Or.inl ⟨_, rfl⟩)) rfl rfl rfl rfl (Nat.le_of_ble_eq_true rfl) (z52 hg) rfl (e_uses (a := a) hg (by omega) (by omega)) (fun y54 h54 hRy54 => ?_)
      obtain ⟨ly54, uy54, τ54, O54, g54, f54⟩ := hRy54
      have B0 := used_le O54.2.1
      have N0 := fun h9 => f54 h9
      refine y_iT (c := .eq) (off := 33) (pc' := 43) (len := 3) (r := (0, 0, 0, 0)) (by decide +kernel) (acmpT (c := .eq) (by show _ = _; omega)) (by decide +kernel) ?_
      refine y_ic (c := 0) (len := 1) (r := (0, 0, 0, 0)) (by decide +kernel) (by decide) (fun y55 hy55 => ?_)
      refine y_rI (len := 1) (r := (0, 0, 0, 0)) (nL := 2) (k := 2) (n9 := 2) (hs := []) (by decide +kernel) rfl (zfit_b (by omega) (by omega)).2 ?_
      exact ⟨by omega, by omega, _, ⟨O54.1, O54.2.1, fun k T j hk (hC : k ≠ 386) => (O54.2.2 k T j hk (show k ≠ 386 by omega))⟩, by omega⟩
  | succ m ih =>
    intro τ h hg a x hx ha hm
    refine qI_of ?_
    show qX (m + 2) _ _ _ _ _ _ _
    refine y_same (i := .iload_n 1) (len := 1) (r := (0, 0, 0, 0)) (pc' := 1) (ls' := [some (.inl (some 52)), some (zi x)]) (st' := [zi x]) (by decide +kernel) (fun k q => by cases q) rfl ?_
    rcases Decidable.em (x.toInt = 0) with q56 | q56
    ·
      refine y_iT (c := .eq) (off := 38) (pc' := 39) (len := 3) (r := (0, 0, 0, 0)) (by decide +kernel) (acmpT (c := .eq) (by show _ = _; omega)) (by decide +kernel) ?_
      refine y_ic (c := 1) (len := 1) (r := (0, 0, 0, 0)) (by decide +kernel) (by decide) (fun y57 hy57 => ?_)
      refine y_goto (off := 4) (pc' := 44) (len := 3) (r := (0, 0, 0, 0)) (by decide +kernel) (by decide +kernel) ?_
      refine y_rI (len := 1) (r := (0, 0, 0, 0)) (nL := 2) (k := 2) (n9 := 2) (hs := []) (by decide +kernel) rfl (zfit_b (by omega) (by omega)).2 ?_
      exact ⟨by omega, by omega, _, oF_refl hg, Nat.le_refl _⟩
    ·
      refine y_iF (c := .eq) (off := 38) (len := 3) (r := (0, 0, 0, 0)) (by decide +kernel) (acmpF (c := .eq) (by show ¬ (_ = _); omega)) ?_
      refine y_same (i := .aload_n 0) (len := 1) (r := (0, 0, 0, 0)) (pc' := 5) (ls' := [some (.inl (some 52)), some (zi x)]) (st' := [.inl (some 52)]) (by decide +kernel) (fun k q => by cases q) rfl ?_
      refine y_same (i := .iload_n 1) (len := 1) (r := (0, 0, 0, 0)) (pc' := 6) (ls' := [some (.inl (some 52)), some (zi x)]) (st' := [zi x, .inl (some 52)]) (by decide +kernel) (fun k q => by cases q) rfl ?_
      refine y_ic (c := 1) (len := 1) (r := (0, 0, 0, 0)) (by decide +kernel) (by decide) (fun y58 hy58 => ?_)
      refine y_cI (i := .invokevirtual 429) (len := 3) (r := (0, 251, 12, 1842)) (nL := 3) (k := 2) (n := 3) (hs := []) (args := [.inl (some 52), zi x, zi y58]) (rest := []) (l0 := [some (.inl (some 52)), some (zi x), some (zi y58)]) (by decide +kernel) (Or.inr (Or.inl ⟨_, rfl⟩)) rfl rfl rfl rfl (Nat.le_of_ble_eq_true rfl) (z52 hg) rfl (e_uses (a := a) hg (by omega) (by omega)) (fun y59 h59 hRy59 => ?_)
      obtain ⟨ly59, uy59, τ59, O59, g59, f59⟩ := hRy59
      rcases Decidable.em (y59.toInt = 0) with q60 | q60
      ·
        refine y_iT (c := .eq) (off := 33) (pc' := 43) (len := 3) (r := (0, 0, 0, 0)) (by decide +kernel) (acmpT (c := .eq) (by show _ = _; omega)) (by decide +kernel) ?_
        refine y_ic (c := 0) (len := 1) (r := (0, 0, 0, 0)) (by decide +kernel) (by decide) (fun y61 hy61 => ?_)
        refine y_rI (len := 1) (r := (0, 0, 0, 0)) (nL := 2) (k := 2) (n9 := 2) (hs := []) (by decide +kernel) rfl (zfit_b (by omega) (by omega)).2 ?_
        exact ⟨by omega, by omega, _, ⟨O59.1, O59.2.1, fun k T j hk (hC : k ≠ 386) => (O59.2.2 k T j hk (show k ≠ 386 by omega))⟩, by omega⟩
      ·
        refine y_iF (c := .eq) (off := 33) (len := 3) (r := (0, 0, 0, 0)) (by decide +kernel) (acmpF (c := .eq) (by show ¬ (_ = _); omega)) ?_
        refine y_same (i := .aload_n 0) (len := 1) (r := (0, 0, 0, 0)) (pc' := 14) (ls' := [some (.inl (some 52)), some (zi x)]) (st' := [.inl (some 52)]) (by decide +kernel) (fun k q => by cases q) rfl ?_
        refine y_same (i := .aload_n 0) (len := 1) (r := (0, 0, 0, 0)) (pc' := 15) (ls' := [some (.inl (some 52)), some (zi x)]) (st' := [.inl (some 52), .inl (some 52)]) (by decide +kernel) (fun k q => by cases q) rfl ?_
        refine y_get (j := 79) (len := 3) (r := (12, 36, 2, 1364)) (by decide +kernel) O59.2.1 (t52 O59.2.1) at52 rfl rfl (g_r52 (f := 36) (T2 := 384) O59.2.1 rfl (by decide)).1 ?_
        refine y_same (i := .iload_n 1) (len := 1) (r := (0, 0, 0, 0)) (pc' := 19) (ls' := [some (.inl (some 52)), some (zi x)]) (st' := [zi x, .inl (some 384), .inl (some 52)]) (by decide +kernel) (fun k q => by cases q) rfl ?_
        obtain ⟨v62, hv63, lv62, uv62⟩ := g_int (i := a) O59.2.1 (tu384 O59.2.1) at384 (show a < 32 by omega) (sr1 (by omega))
        refine y_ial (i := a) (len := 1) (r := (0, 0, 0, 0)) (by decide +kernel) O59.2.1 (tu384 O59.2.1) at384 (by omega) hv63 ?_
        have B64 := used_le O59.2.1
        have N64 := f59 (by omega)
        refine y_cI (i := .invokevirtual 432) (len := 3) (r := (0, 252, 12, 1846)) (nL := 2) (k := 2) (n := 2) (hs := []) (args := [.inl (some 52), zi v62]) (rest := []) (l0 := [some (.inl (some 52)), some (zi v62)]) (by decide +kernel) (Or.inr (Or.inl ⟨_, rfl⟩)) rfl rfl rfl rfl (Nat.le_of_ble_eq_true rfl) (z52 O59.2.1) rfl (ih τ59 h59 O59.2.1 (a := v62.toInt.toNat) (by omega) (by omega) (by omega)) (fun y64 h64 hRy64 => ?_)
        obtain ⟨ly64, uy64, τ64, O64, g64⟩ := hRy64
        rcases Decidable.em (y64.toInt = 0) with q65 | q65
        ·
          refine y_iT (c := .eq) (off := 20) (pc' := 43) (len := 3) (r := (0, 0, 0, 0)) (by decide +kernel) (acmpT (c := .eq) (by show _ = _; omega)) (by decide +kernel) ?_
          refine y_ic (c := 0) (len := 1) (r := (0, 0, 0, 0)) (by decide +kernel) (by decide) (fun y66 hy66 => ?_)
          refine y_rI (len := 1) (r := (0, 0, 0, 0)) (nL := 2) (k := 2) (n9 := 2) (hs := []) (by decide +kernel) rfl (zfit_b (by omega) (by omega)).2 ?_
          exact ⟨by omega, by omega, _, ⟨(aup_trans O59.1 O64.1), O64.2.1, fun k T j hk (hC : k ≠ 386) => ((O64.2.2 k T j (O59.1 _ _ hk) (show k ≠ 386 by omega)).trans (O59.2.2 k T j hk (show k ≠ 386 by omega)))⟩, by omega⟩
        ·
          refine y_iF (c := .eq) (off := 20) (len := 3) (r := (0, 0, 0, 0)) (by decide +kernel) (acmpF (c := .eq) (by show ¬ (_ = _); omega)) ?_
          refine y_same (i := .aload_n 0) (len := 1) (r := (0, 0, 0, 0)) (pc' := 27) (ls' := [some (.inl (some 52)), some (zi x)]) (st' := [.inl (some 52)]) (by decide +kernel) (fun k q => by cases q) rfl ?_
          refine y_same (i := .aload_n 0) (len := 1) (r := (0, 0, 0, 0)) (pc' := 28) (ls' := [some (.inl (some 52)), some (zi x)]) (st' := [.inl (some 52), .inl (some 52)]) (by decide +kernel) (fun k q => by cases q) rfl ?_
          refine y_get (j := 82) (len := 3) (r := (12, 37, 2, 1365)) (by decide +kernel) O64.2.1 (t52 O64.2.1) at52 rfl rfl (g_r52 (f := 37) (T2 := 385) O64.2.1 rfl (by decide)).1 ?_
          refine y_same (i := .iload_n 1) (len := 1) (r := (0, 0, 0, 0)) (pc' := 32) (ls' := [some (.inl (some 52)), some (zi x)]) (st' := [zi x, .inl (some 385), .inl (some 52)]) (by decide +kernel) (fun k q => by cases q) rfl ?_
          obtain ⟨v67, hv68, lv67, uv67⟩ := g_int (i := a) O64.2.1 (tu385 O64.2.1) at385 (show a < 32 by omega) (sr1 (by omega))
          refine y_ial (i := a) (len := 1) (r := (0, 0, 0, 0)) (by decide +kernel) O64.2.1 (tu385 O64.2.1) at385 (by omega) hv68 ?_
          have B69 := used_le O64.2.1
          have N69 := f59 (by omega)
          refine y_cI (i := .invokevirtual 432) (len := 3) (r := (0, 252, 12, 1846)) (nL := 2) (k := 2) (n := 2) (hs := []) (args := [.inl (some 52), zi v67]) (rest := []) (l0 := [some (.inl (some 52)), some (zi v67)]) (by decide +kernel) (Or.inr (Or.inl ⟨_, rfl⟩)) rfl rfl rfl rfl (Nat.le_of_ble_eq_true rfl) (z52 O64.2.1) rfl (ih τ64 h64 O64.2.1 (a := v67.toInt.toNat) (by omega) (by omega) (by omega)) (fun y69 h69 hRy69 => ?_)
          obtain ⟨ly69, uy69, τ69, O69, g69⟩ := hRy69
          rcases Decidable.em (y69.toInt = 0) with q70 | q70
          ·
            refine y_iT (c := .eq) (off := 7) (pc' := 43) (len := 3) (r := (0, 0, 0, 0)) (by decide +kernel) (acmpT (c := .eq) (by show _ = _; omega)) (by decide +kernel) ?_
            refine y_ic (c := 0) (len := 1) (r := (0, 0, 0, 0)) (by decide +kernel) (by decide) (fun y71 hy71 => ?_)
            refine y_rI (len := 1) (r := (0, 0, 0, 0)) (nL := 2) (k := 2) (n9 := 2) (hs := []) (by decide +kernel) rfl (zfit_b (by omega) (by omega)).2 ?_
            exact ⟨by omega, by omega, _, ⟨(aup_trans (aup_trans O59.1 O64.1) O69.1), O69.2.1, fun k T j hk (hC : k ≠ 386) => ((O69.2.2 k T j (O64.1 _ _ (O59.1 _ _ hk)) (show k ≠ 386 by omega)).trans ((O64.2.2 k T j (O59.1 _ _ hk) (show k ≠ 386 by omega)).trans (O59.2.2 k T j hk (show k ≠ 386 by omega))))⟩, by omega⟩
          ·
            refine y_iF (c := .eq) (off := 7) (len := 3) (r := (0, 0, 0, 0)) (by decide +kernel) (acmpF (c := .eq) (by show ¬ (_ = _); omega)) ?_
            refine y_ic (c := 1) (len := 1) (r := (0, 0, 0, 0)) (by decide +kernel) (by decide) (fun y72 hy72 => ?_)
            refine y_goto (off := 4) (pc' := 44) (len := 3) (r := (0, 0, 0, 0)) (by decide +kernel) (by decide +kernel) ?_
            refine y_rI (len := 1) (r := (0, 0, 0, 0)) (nL := 2) (k := 2) (n9 := 2) (hs := []) (by decide +kernel) rfl (zfit_b (by omega) (by omega)).2 ?_
            exact ⟨by omega, by omega, _, ⟨(aup_trans (aup_trans O59.1 O64.1) O69.1), O69.2.1, fun k T j hk (hC : k ≠ 386) => ((O69.2.2 k T j (O64.1 _ _ (O59.1 _ _ hk)) (show k ≠ 386 by omega)).trans ((O64.2.2 k T j (O59.1 _ _ hk) (show k ≠ 386 by omega)).trans (O59.2.2 k T j hk (show k ≠ 386 by omega))))⟩, by omega⟩
theorem ca_l {t s m : Nat} {τ : List Nat} {h : zh} {xs y : Int32} (hg : hG τ h) (hxs : xs.toInt = (s : Int)) (hs : s ≤ 1) (hy : hsl h 55 (46 * s + 1) = some (zi y)) (hym : y.toInt = (m : Int)) (hm : m ≤ 6) : ∀ (n k : Nat) (xk : Int32) (l3 : Option zv), xk.toInt = (k : Int) → k ≤ m → m ≤ k + n → qX 8 248 2 [some (.inl (some 52)), some (zi xs), some (zi xk), l3] [] h t (rI (fun z h1 => h = h1 ∧ 0 ≤ z.toInt ∧ z.toInt ≤ 1) t) := by
  intro n
  induction n with
  | zero =>
    intro k xk l3 hxk hk hn
    refine y_same (i := .iload_n 2) (len := 1) (r := (0, 0, 0, 0)) (pc' := 3) (ls' := [some (.inl (some 52)), some (zi xs), some (zi xk), l3]) (st' := [zi xk]) (by decide +kernel) (fun k q => by cases q) rfl ?_
    refine y_same (i := .aload_n 0) (len := 1) (r := (0, 0, 0, 0)) (pc' := 4) (ls' := [some (.inl (some 52)), some (zi xs), some (zi xk), l3]) (st' := [.inl (some 52), zi xk]) (by decide +kernel) (fun k q => by cases q) rfl ?_
    refine y_get (j := 20) (len := 3) (r := (12, 9, 2, 1337)) (by decide +kernel) hg (t52 hg) at52 rfl rfl (g_r52 (f := 9) (T2 := 55) hg rfl (by decide)).1 ?_
    refine y_same (i := .iload_n 1) (len := 1) (r := (0, 0, 0, 0)) (pc' := 8) (ls' := [some (.inl (some 52)), some (zi xs), some (zi xk), l3]) (st' := [zi xs, .inl (some 55), zi xk]) (by decide +kernel) (fun k q => by cases q) rfl ?_
    refine y_cI (i := .invokestatic 155) (len := 3) (r := (1, 167, 12, 1560)) (nL := 2) (k := 1) (n := 2) (hs := []) (args := [.inl (some 55), zi xs]) (rest := [zi xk]) (l0 := [some (.inl (some 55)), some (zi xs)]) (by decide +kernel) (Or.inl ⟨_, rfl⟩) rfl rfl rfl rfl (Nat.le_of_ble_eq_true rfl) rfl rfl (e_claims (s := s) hg (by omega) (by omega) hy) (fun y73 qy73 hRy73 => ?_)
    obtain ⟨rfl, rfl⟩ := hRy73
    refine y_cT (c := .ge) (off := 69) (pc' := 80) (len := 3) (r := (0, 0, 0, 0)) (by decide +kernel) (acmpT (c := .ge) (by show _ ≤ _; omega)) (by decide +kernel) ?_
    refine y_ic (c := 1) (len := 1) (r := (0, 0, 0, 0)) (by decide +kernel) (by decide) (fun y74 hy74 => ?_)
    refine y_rI (len := 1) (r := (0, 0, 0, 0)) (nL := 4) (k := 2) (n9 := 2) (hs := []) (by decide +kernel) rfl (zfit_b (by omega) (by omega)).2 ?_
    exact ⟨rfl, by omega, by omega⟩
  | succ n ih =>
    intro k xk l3 hxk hk hn
    refine y_same (i := .iload_n 2) (len := 1) (r := (0, 0, 0, 0)) (pc' := 3) (ls' := [some (.inl (some 52)), some (zi xs), some (zi xk), l3]) (st' := [zi xk]) (by decide +kernel) (fun k q => by cases q) rfl ?_
    refine y_same (i := .aload_n 0) (len := 1) (r := (0, 0, 0, 0)) (pc' := 4) (ls' := [some (.inl (some 52)), some (zi xs), some (zi xk), l3]) (st' := [.inl (some 52), zi xk]) (by decide +kernel) (fun k q => by cases q) rfl ?_
    refine y_get (j := 20) (len := 3) (r := (12, 9, 2, 1337)) (by decide +kernel) hg (t52 hg) at52 rfl rfl (g_r52 (f := 9) (T2 := 55) hg rfl (by decide)).1 ?_
    refine y_same (i := .iload_n 1) (len := 1) (r := (0, 0, 0, 0)) (pc' := 8) (ls' := [some (.inl (some 52)), some (zi xs), some (zi xk), l3]) (st' := [zi xs, .inl (some 55), zi xk]) (by decide +kernel) (fun k q => by cases q) rfl ?_
    refine y_cI (i := .invokestatic 155) (len := 3) (r := (1, 167, 12, 1560)) (nL := 2) (k := 1) (n := 2) (hs := []) (args := [.inl (some 55), zi xs]) (rest := [zi xk]) (l0 := [some (.inl (some 55)), some (zi xs)]) (by decide +kernel) (Or.inl ⟨_, rfl⟩) rfl rfl rfl rfl (Nat.le_of_ble_eq_true rfl) rfl rfl (e_claims (s := s) hg (by omega) (by omega) hy) (fun y75 qy75 hRy75 => ?_)
    obtain ⟨rfl, rfl⟩ := hRy75
    rcases Decidable.em (xk.toInt ≥ y.toInt) with q76 | q76
    ·
      refine y_cT (c := .ge) (off := 69) (pc' := 80) (len := 3) (r := (0, 0, 0, 0)) (by decide +kernel) (acmpT (c := .ge) (by show _ ≤ _; omega)) (by decide +kernel) ?_
      refine y_ic (c := 1) (len := 1) (r := (0, 0, 0, 0)) (by decide +kernel) (by decide) (fun y77 hy77 => ?_)
      refine y_rI (len := 1) (r := (0, 0, 0, 0)) (nL := 4) (k := 2) (n9 := 2) (hs := []) (by decide +kernel) rfl (zfit_b (by omega) (by omega)).2 ?_
      exact ⟨rfl, by omega, by omega⟩
    ·
      refine y_cF (c := .ge) (off := 69) (len := 3) (r := (0, 0, 0, 0)) (by decide +kernel) (acmpF (c := .ge) (by show _ < _; omega)) ?_
      refine y_same (i := .iload_n 1) (len := 1) (r := (0, 0, 0, 0)) (pc' := 15) (ls' := [some (.inl (some 52)), some (zi xs), some (zi xk), l3]) (st' := [zi xs]) (by decide +kernel) (fun k q => by cases q) rfl ?_
      refine y_same (i := .iload_n 2) (len := 1) (r := (0, 0, 0, 0)) (pc' := 16) (ls' := [some (.inl (some 52)), some (zi xs), some (zi xk), l3]) (st' := [zi xk, zi xs]) (by decide +kernel) (fun k q => by cases q) rfl ?_
      refine y_cI (i := .invokestatic 158) (len := 3) (r := (1, 169, 12, 1563)) (nL := 2) (k := 1) (n := 2) (hs := []) (args := [zi xs, zi xk]) (rest := []) (l0 := [some (zi xs), some (zi xk)]) (by decide +kernel) (Or.inl ⟨_, rfl⟩) rfl rfl rfl rfl (Nat.le_of_ble_eq_true rfl) rfl rfl (e_claimAt (s := s) (k := k) (by omega) (by omega) (by omega) (by omega)) (fun y78 qy78 hRy78 => ?_)
      obtain ⟨rfl, hy78⟩ := hRy78
      refine y_same (i := .istore_n 3) (len := 1) (r := (0, 0, 0, 0)) (pc' := 20) (ls' := [some (.inl (some 52)), some (zi xs), some (zi xk), some (zi y78)]) (st' := []) (by decide +kernel) (fun k q => by cases q) rfl ?_
      refine y_same (i := .aload_n 0) (len := 1) (r := (0, 0, 0, 0)) (pc' := 21) (ls' := [some (.inl (some 52)), some (zi xs), some (zi xk), some (zi y78)]) (st' := [.inl (some 52)]) (by decide +kernel) (fun k q => by cases q) rfl ?_
      refine y_get (j := 70) (len := 3) (r := (12, 33, 2, 1361)) (by decide +kernel) hg (t52 hg) at52 rfl rfl (g_r52 (f := 33) (T2 := 381) hg rfl (by decide)).1 ?_
      refine y_same (i := .aload_n 0) (len := 1) (r := (0, 0, 0, 0)) (pc' := 25) (ls' := [some (.inl (some 52)), some (zi xs), some (zi xk), some (zi y78)]) (st' := [.inl (some 52), .inl (some 381)]) (by decide +kernel) (fun k q => by cases q) rfl ?_
      refine y_get (j := 20) (len := 3) (r := (12, 9, 2, 1337)) (by decide +kernel) hg (t52 hg) at52 rfl rfl (g_r52 (f := 9) (T2 := 55) hg rfl (by decide)).1 ?_
      refine y_same (i := .iload_n 3) (len := 1) (r := (0, 0, 0, 0)) (pc' := 29) (ls' := [some (.inl (some 52)), some (zi xs), some (zi xk), some (zi y78)]) (st' := [zi y78, .inl (some 55), .inl (some 381)]) (by decide +kernel) (fun k q => by cases q) rfl ?_
      refine y_ic (c := 1) (len := 1) (r := (0, 0, 0, 0)) (by decide +kernel) (by decide) (fun y79 hy79 => ?_)
      refine y_add (len := 1) (r := (0, 0, 0, 0)) (by decide +kernel) (by omega) (by omega) (fun y80 hy80 => ?_)
      obtain ⟨v81, hv82, lv81, uv81⟩ := g55 (i := ((46 * s + 22 + 4 * k) + 1)) hg (by omega) (by omega) (by omega)
      refine y_ial (i := ((46 * s + 22 + 4 * k) + 1)) (len := 1) (r := (0, 0, 0, 0)) (by decide +kernel) hg (tu55 hg) at55 (by omega) hv82 ?_
      obtain ⟨v83, hv84, lv83, uv83⟩ := g_int (i := v81.toInt.toNat) hg (tu381 hg) at381 (show v81.toInt.toNat < 6 by omega) (sr1 (by omega))
      refine y_ial (i := v81.toInt.toNat) (len := 1) (r := (0, 0, 0, 0)) (by decide +kernel) hg (tu381 hg) at381 (by omega) hv84 ?_
      refine y_same (i := .aload_n 0) (len := 1) (r := (0, 0, 0, 0)) (pc' := 34) (ls' := [some (.inl (some 52)), some (zi xs), some (zi xk), some (zi y78)]) (st' := [.inl (some 52), zi v83]) (by decide +kernel) (fun k q => by cases q) rfl ?_
      refine y_get (j := 70) (len := 3) (r := (12, 33, 2, 1361)) (by decide +kernel) hg (t52 hg) at52 rfl rfl (g_r52 (f := 33) (T2 := 381) hg rfl (by decide)).1 ?_
      refine y_same (i := .aload_n 0) (len := 1) (r := (0, 0, 0, 0)) (pc' := 38) (ls' := [some (.inl (some 52)), some (zi xs), some (zi xk), some (zi y78)]) (st' := [.inl (some 52), .inl (some 381), zi v83]) (by decide +kernel) (fun k q => by cases q) rfl ?_
      refine y_get (j := 20) (len := 3) (r := (12, 9, 2, 1337)) (by decide +kernel) hg (t52 hg) at52 rfl rfl (g_r52 (f := 9) (T2 := 55) hg rfl (by decide)).1 ?_
      refine y_same (i := .iload_n 3) (len := 1) (r := (0, 0, 0, 0)) (pc' := 42) (ls' := [some (.inl (some 52)), some (zi xs), some (zi xk), some (zi y78)]) (st' := [zi y78, .inl (some 55), .inl (some 381), zi v83]) (by decide +kernel) (fun k q => by cases q) rfl ?_
      refine y_ic (c := 2) (len := 1) (r := (0, 0, 0, 0)) (by decide +kernel) (by decide) (fun y85 hy85 => ?_)
      refine y_add (len := 1) (r := (0, 0, 0, 0)) (by decide +kernel) (by omega) (by omega) (fun y86 hy86 => ?_)
      obtain ⟨v87, hv88, lv87, uv87⟩ := g55 (i := ((46 * s + 22 + 4 * k) + 2)) hg (by omega) (by omega) (by omega)
      refine y_ial (i := ((46 * s + 22 + 4 * k) + 2)) (len := 1) (r := (0, 0, 0, 0)) (by decide +kernel) hg (tu55 hg) at55 (by omega) hv88 ?_
      obtain ⟨v89, hv90, lv89, uv89⟩ := g_int (i := v87.toInt.toNat) hg (tu381 hg) at381 (show v87.toInt.toNat < 6 by omega) (sr1 (by omega))
      refine y_ial (i := v87.toInt.toNat) (len := 1) (r := (0, 0, 0, 0)) (by decide +kernel) hg (tu381 hg) at381 (by omega) hv90 ?_
      rcases Decidable.em (v83.toInt ≠ v89.toInt) with q91 | q91
      ·
        refine y_cT (c := .ne) (off := 7) (pc' := 53) (len := 3) (r := (0, 0, 0, 0)) (by decide +kernel) (acmpT (c := .ne) (by show ¬ (_ = _); omega)) (by decide +kernel) ?_
        refine y_ic (c := 0) (len := 1) (r := (0, 0, 0, 0)) (by decide +kernel) (by decide) (fun y92 hy92 => ?_)
        refine y_same (i := .aload_n 0) (len := 1) (r := (0, 0, 0, 0)) (pc' := 55) (ls' := [some (.inl (some 52)), some (zi xs), some (zi xk), some (zi y78)]) (st' := [.inl (some 52), zi y92]) (by decide +kernel) (fun k q => by cases q) rfl ?_
        refine y_get (j := 20) (len := 3) (r := (12, 9, 2, 1337)) (by decide +kernel) hg (t52 hg) at52 rfl rfl (g_r52 (f := 9) (T2 := 55) hg rfl (by decide)).1 ?_
        refine y_same (i := .iload_n 3) (len := 1) (r := (0, 0, 0, 0)) (pc' := 59) (ls' := [some (.inl (some 52)), some (zi xs), some (zi xk), some (zi y78)]) (st' := [zi y78, .inl (some 55), zi y92]) (by decide +kernel) (fun k q => by cases q) rfl ?_
        obtain ⟨v93, hv94, lv93, uv93⟩ := g55 (i := (46 * s + 22 + 4 * k)) hg (by omega) (by omega) (by omega)
        refine y_ial (i := (46 * s + 22 + 4 * k)) (len := 1) (r := (0, 0, 0, 0)) (by decide +kernel) hg (tu55 hg) at55 (by omega) hv94 ?_
        refine y_ic (c := 1) (len := 1) (r := (0, 0, 0, 0)) (by decide +kernel) (by decide) (fun y95 hy95 => ?_)
        rcases Decidable.em (v93.toInt ≠ y95.toInt) with q96 | q96
        ·
          refine y_cT (c := .ne) (off := 7) (pc' := 68) (len := 3) (r := (0, 0, 0, 0)) (by decide +kernel) (acmpT (c := .ne) (by show ¬ (_ = _); omega)) (by decide +kernel) ?_
          refine y_ic (c := 0) (len := 1) (r := (0, 0, 0, 0)) (by decide +kernel) (by decide) (fun y97 hy97 => ?_)
          rcases Decidable.em (y92.toInt = y97.toInt) with q98 | q98
          ·
            refine y_cT (c := .eq) (off := 5) (pc' := 74) (len := 3) (r := (0, 0, 0, 0)) (by decide +kernel) (acmpT (c := .eq) (by show _ = _; omega)) (by decide +kernel) ?_
            refine y_inc (j := 2) (a := xk) (c := 1) (ls' := fun v => [some (.inl (some 52)), some (zi xs), some v, some (zi y78)]) (len := 3) (r := (0, 0, 0, 0)) (by decide +kernel) rfl (fun _ => rfl) (by decide) (by omega) (by omega) (fun y99 hy99 => ?_)
            show qX 8 248 77 [some (.inl (some 52)), some (zi xs), some (zi y99), some (zi y78)] [] h t _
            refine y_goto (off := (-75)) (pc' := 2) (len := 3) (r := (0, 0, 0, 0)) (by decide +kernel) (by decide +kernel) ?_
            exact ih (k + 1) y99 _ (by omega) (by omega) (by omega)
          ·
            refine y_cF (c := .eq) (off := 5) (len := 3) (r := (0, 0, 0, 0)) (by decide +kernel) (acmpF (c := .eq) (by show ¬ (_ = _); omega)) ?_
            refine y_ic (c := 0) (len := 1) (r := (0, 0, 0, 0)) (by decide +kernel) (by decide) (fun y100 hy100 => ?_)
            refine y_rI (len := 1) (r := (0, 0, 0, 0)) (nL := 4) (k := 2) (n9 := 2) (hs := []) (by decide +kernel) rfl (zfit_b (by omega) (by omega)).2 ?_
            exact ⟨rfl, by omega, by omega⟩
        ·
          refine y_cF (c := .ne) (off := 7) (len := 3) (r := (0, 0, 0, 0)) (by decide +kernel) (acmpF (c := .ne) (by show _ = _; omega)) ?_
          refine y_ic (c := 1) (len := 1) (r := (0, 0, 0, 0)) (by decide +kernel) (by decide) (fun y101 hy101 => ?_)
          refine y_goto (off := 4) (pc' := 69) (len := 3) (r := (0, 0, 0, 0)) (by decide +kernel) (by decide +kernel) ?_
          rcases Decidable.em (y92.toInt = y101.toInt) with q102 | q102
          ·
            refine y_cT (c := .eq) (off := 5) (pc' := 74) (len := 3) (r := (0, 0, 0, 0)) (by decide +kernel) (acmpT (c := .eq) (by show _ = _; omega)) (by decide +kernel) ?_
            refine y_inc (j := 2) (a := xk) (c := 1) (ls' := fun v => [some (.inl (some 52)), some (zi xs), some v, some (zi y78)]) (len := 3) (r := (0, 0, 0, 0)) (by decide +kernel) rfl (fun _ => rfl) (by decide) (by omega) (by omega) (fun y103 hy103 => ?_)
            show qX 8 248 77 [some (.inl (some 52)), some (zi xs), some (zi y103), some (zi y78)] [] h t _
            refine y_goto (off := (-75)) (pc' := 2) (len := 3) (r := (0, 0, 0, 0)) (by decide +kernel) (by decide +kernel) ?_
            exact ih (k + 1) y103 _ (by omega) (by omega) (by omega)
          ·
            refine y_cF (c := .eq) (off := 5) (len := 3) (r := (0, 0, 0, 0)) (by decide +kernel) (acmpF (c := .eq) (by show ¬ (_ = _); omega)) ?_
            refine y_ic (c := 0) (len := 1) (r := (0, 0, 0, 0)) (by decide +kernel) (by decide) (fun y104 hy104 => ?_)
            refine y_rI (len := 1) (r := (0, 0, 0, 0)) (nL := 4) (k := 2) (n9 := 2) (hs := []) (by decide +kernel) rfl (zfit_b (by omega) (by omega)).2 ?_
            exact ⟨rfl, by omega, by omega⟩
      ·
        refine y_cF (c := .ne) (off := 7) (len := 3) (r := (0, 0, 0, 0)) (by decide +kernel) (acmpF (c := .ne) (by show _ = _; omega)) ?_
        refine y_ic (c := 1) (len := 1) (r := (0, 0, 0, 0)) (by decide +kernel) (by decide) (fun y105 hy105 => ?_)
        refine y_goto (off := 4) (pc' := 54) (len := 3) (r := (0, 0, 0, 0)) (by decide +kernel) (by decide +kernel) ?_
        refine y_same (i := .aload_n 0) (len := 1) (r := (0, 0, 0, 0)) (pc' := 55) (ls' := [some (.inl (some 52)), some (zi xs), some (zi xk), some (zi y78)]) (st' := [.inl (some 52), zi y105]) (by decide +kernel) (fun k q => by cases q) rfl ?_
        refine y_get (j := 20) (len := 3) (r := (12, 9, 2, 1337)) (by decide +kernel) hg (t52 hg) at52 rfl rfl (g_r52 (f := 9) (T2 := 55) hg rfl (by decide)).1 ?_
        refine y_same (i := .iload_n 3) (len := 1) (r := (0, 0, 0, 0)) (pc' := 59) (ls' := [some (.inl (some 52)), some (zi xs), some (zi xk), some (zi y78)]) (st' := [zi y78, .inl (some 55), zi y105]) (by decide +kernel) (fun k q => by cases q) rfl ?_
        obtain ⟨v106, hv107, lv106, uv106⟩ := g55 (i := (46 * s + 22 + 4 * k)) hg (by omega) (by omega) (by omega)
        refine y_ial (i := (46 * s + 22 + 4 * k)) (len := 1) (r := (0, 0, 0, 0)) (by decide +kernel) hg (tu55 hg) at55 (by omega) hv107 ?_
        refine y_ic (c := 1) (len := 1) (r := (0, 0, 0, 0)) (by decide +kernel) (by decide) (fun y108 hy108 => ?_)
        rcases Decidable.em (v106.toInt ≠ y108.toInt) with q109 | q109
        ·
          refine y_cT (c := .ne) (off := 7) (pc' := 68) (len := 3) (r := (0, 0, 0, 0)) (by decide +kernel) (acmpT (c := .ne) (by show ¬ (_ = _); omega)) (by decide +kernel) ?_
          refine y_ic (c := 0) (len := 1) (r := (0, 0, 0, 0)) (by decide +kernel) (by decide) (fun y110 hy110 => ?_)
          rcases Decidable.em (y105.toInt = y110.toInt) with q111 | q111
          ·
            refine y_cT (c := .eq) (off := 5) (pc' := 74) (len := 3) (r := (0, 0, 0, 0)) (by decide +kernel) (acmpT (c := .eq) (by show _ = _; omega)) (by decide +kernel) ?_
            refine y_inc (j := 2) (a := xk) (c := 1) (ls' := fun v => [some (.inl (some 52)), some (zi xs), some v, some (zi y78)]) (len := 3) (r := (0, 0, 0, 0)) (by decide +kernel) rfl (fun _ => rfl) (by decide) (by omega) (by omega) (fun y112 hy112 => ?_)
            show qX 8 248 77 [some (.inl (some 52)), some (zi xs), some (zi y112), some (zi y78)] [] h t _
            refine y_goto (off := (-75)) (pc' := 2) (len := 3) (r := (0, 0, 0, 0)) (by decide +kernel) (by decide +kernel) ?_
            exact ih (k + 1) y112 _ (by omega) (by omega) (by omega)
          ·
            refine y_cF (c := .eq) (off := 5) (len := 3) (r := (0, 0, 0, 0)) (by decide +kernel) (acmpF (c := .eq) (by show ¬ (_ = _); omega)) ?_
            refine y_ic (c := 0) (len := 1) (r := (0, 0, 0, 0)) (by decide +kernel) (by decide) (fun y113 hy113 => ?_)
            refine y_rI (len := 1) (r := (0, 0, 0, 0)) (nL := 4) (k := 2) (n9 := 2) (hs := []) (by decide +kernel) rfl (zfit_b (by omega) (by omega)).2 ?_
            exact ⟨rfl, by omega, by omega⟩
        ·
          refine y_cF (c := .ne) (off := 7) (len := 3) (r := (0, 0, 0, 0)) (by decide +kernel) (acmpF (c := .ne) (by show _ = _; omega)) ?_
          refine y_ic (c := 1) (len := 1) (r := (0, 0, 0, 0)) (by decide +kernel) (by decide) (fun y114 hy114 => ?_)
          refine y_goto (off := 4) (pc' := 69) (len := 3) (r := (0, 0, 0, 0)) (by decide +kernel) (by decide +kernel) ?_
          rcases Decidable.em (y105.toInt = y114.toInt) with q115 | q115
          ·
            refine y_cT (c := .eq) (off := 5) (pc' := 74) (len := 3) (r := (0, 0, 0, 0)) (by decide +kernel) (acmpT (c := .eq) (by show _ = _; omega)) (by decide +kernel) ?_
            refine y_inc (j := 2) (a := xk) (c := 1) (ls' := fun v => [some (.inl (some 52)), some (zi xs), some v, some (zi y78)]) (len := 3) (r := (0, 0, 0, 0)) (by decide +kernel) rfl (fun _ => rfl) (by decide) (by omega) (by omega) (fun y116 hy116 => ?_)
            show qX 8 248 77 [some (.inl (some 52)), some (zi xs), some (zi y116), some (zi y78)] [] h t _
            refine y_goto (off := (-75)) (pc' := 2) (len := 3) (r := (0, 0, 0, 0)) (by decide +kernel) (by decide +kernel) ?_
            exact ih (k + 1) y116 _ (by omega) (by omega) (by omega)
          ·
            refine y_cF (c := .eq) (off := 5) (len := 3) (r := (0, 0, 0, 0)) (by decide +kernel) (acmpF (c := .eq) (by show ¬ (_ = _); omega)) ?_
            refine y_ic (c := 0) (len := 1) (r := (0, 0, 0, 0)) (by decide +kernel) (by decide) (fun y117 hy117 => ?_)
            refine y_rI (len := 1) (r := (0, 0, 0, 0)) (nL := 4) (k := 2) (n9 := 2) (hs := []) (by decide +kernel) rfl (zfit_b (by omega) (by omega)).2 ?_
            exact ⟨rfl, by omega, by omega⟩
theorem e_claimsAre {t s : Nat} {τ : List Nat} {h : zh} {xs : Int32} (hg : hG τ h) (hxs : xs.toInt = (s : Int)) (hs : s ≤ 1) : qI 9 248 [some (.inl (some 52)), some (zi xs), none, none] h t (fun z h1 => h = h1 ∧ 0 ≤ z.toInt ∧ z.toInt ≤ 1) := by
  obtain ⟨y, hy, l1, u1⟩ := g55c (i := 46 * s + 1) hg (by omega)
  refine qI_of ?_
  refine y_ic (c := 0) (len := 1) (r := (0, 0, 0, 0)) (by decide +kernel) (by decide) (fun y118 hy118 => ?_)
  refine y_same (i := .istore_n 2) (len := 1) (r := (0, 0, 0, 0)) (pc' := 2) (ls' := [some (.inl (some 52)), some (zi xs), some (zi y118), none]) (st' := []) (by decide +kernel) (fun k q => by cases q) rfl ?_
  exact ca_l (m := y.toInt.toNat) hg hxs hs hy (by omega) (by omega) 6 0 y118 _ (by omega) (by omega) (by omega)
theorem pw_l {t m : Nat} {τ : List Nat} {h : zh} {xz xp : Int32} (hg : hG τ h) (hp : hsl h 52 39 = some (zi xp)) (hxp : xp.toInt = (m : Int)) (hm : m ≤ 31) : ∀ (n k : Nat) (xn xk : Int32), xk.toInt = (k : Int) → k ≤ m + 1 → m + 1 ≤ k + n → qX 8 255 4 [some (.inl (some 52)), some (zi xz), some (zi xn), some (zi xk)] [] h t (rI (fun z h1 => h = h1) t) := by
  intro n
  induction n with
  | zero =>
    intro k xn xk hxk hk hn
    refine y_same (i := .iload_n 3) (len := 1) (r := (0, 0, 0, 0)) (pc' := 5) (ls' := [some (.inl (some 52)), some (zi xz), some (zi xn), some (zi xk)]) (st' := [zi xk]) (by decide +kernel) (fun k q => by cases q) rfl ?_
    refine y_same (i := .aload_n 0) (len := 1) (r := (0, 0, 0, 0)) (pc' := 6) (ls' := [some (.inl (some 52)), some (zi xz), some (zi xn), some (zi xk)]) (st' := [.inl (some 52), zi xk]) (by decide +kernel) (fun k q => by cases q) rfl ?_
    refine y_get (j := 410) (len := 3) (r := (12, 39, 0, 1367)) (by decide +kernel) hg (t52 hg) at52 rfl rfl hp ?_
    refine y_cT (c := .gt) (off := 27) (pc' := 36) (len := 3) (r := (0, 0, 0, 0)) (by decide +kernel) (acmpT (c := .gt) (by show _ < _; omega)) (by decide +kernel) ?_
    refine y_same (i := .iload_n 2) (len := 1) (r := (0, 0, 0, 0)) (pc' := 37) (ls' := [some (.inl (some 52)), some (zi xz), some (zi xn), some (zi xk)]) (st' := [zi xn]) (by decide +kernel) (fun k q => by cases q) rfl ?_
    refine y_rI (len := 1) (r := (0, 0, 0, 0)) (nL := 4) (k := 1) (n9 := 2) (hs := []) (by decide +kernel) rfl rfl ?_
    exact rfl
  | succ n ih =>
    intro k xn xk hxk hk hn
    refine y_same (i := .iload_n 3) (len := 1) (r := (0, 0, 0, 0)) (pc' := 5) (ls' := [some (.inl (some 52)), some (zi xz), some (zi xn), some (zi xk)]) (st' := [zi xk]) (by decide +kernel) (fun k q => by cases q) rfl ?_
    refine y_same (i := .aload_n 0) (len := 1) (r := (0, 0, 0, 0)) (pc' := 6) (ls' := [some (.inl (some 52)), some (zi xz), some (zi xn), some (zi xk)]) (st' := [.inl (some 52), zi xk]) (by decide +kernel) (fun k q => by cases q) rfl ?_
    refine y_get (j := 410) (len := 3) (r := (12, 39, 0, 1367)) (by decide +kernel) hg (t52 hg) at52 rfl rfl hp ?_
    rcases Decidable.em (xk.toInt > xp.toInt) with q119 | q119
    ·
      refine y_cT (c := .gt) (off := 27) (pc' := 36) (len := 3) (r := (0, 0, 0, 0)) (by decide +kernel) (acmpT (c := .gt) (by show _ < _; omega)) (by decide +kernel) ?_
      refine y_same (i := .iload_n 2) (len := 1) (r := (0, 0, 0, 0)) (pc' := 37) (ls' := [some (.inl (some 52)), some (zi xz), some (zi xn), some (zi xk)]) (st' := [zi xn]) (by decide +kernel) (fun k q => by cases q) rfl ?_
      refine y_rI (len := 1) (r := (0, 0, 0, 0)) (nL := 4) (k := 1) (n9 := 2) (hs := []) (by decide +kernel) rfl rfl ?_
      exact rfl
    ·
      refine y_cF (c := .gt) (off := 27) (len := 3) (r := (0, 0, 0, 0)) (by decide +kernel) (acmpF (c := .gt) (by show _ ≤ _; omega)) ?_
      refine y_same (i := .iload_n 2) (len := 1) (r := (0, 0, 0, 0)) (pc' := 13) (ls' := [some (.inl (some 52)), some (zi xz), some (zi xn), some (zi xk)]) (st' := [zi xn]) (by decide +kernel) (fun k q => by cases q) rfl ?_
      refine y_same (i := .aload_n 0) (len := 1) (r := (0, 0, 0, 0)) (pc' := 14) (ls' := [some (.inl (some 52)), some (zi xz), some (zi xn), some (zi xk)]) (st' := [.inl (some 52), zi xn]) (by decide +kernel) (fun k q => by cases q) rfl ?_
      refine y_get (j := 76) (len := 3) (r := (12, 35, 2, 1363)) (by decide +kernel) hg (t52 hg) at52 rfl rfl (g_r52 (f := 35) (T2 := 383) hg rfl (by decide)).1 ?_
      refine y_same (i := .iload_n 3) (len := 1) (r := (0, 0, 0, 0)) (pc' := 18) (ls' := [some (.inl (some 52)), some (zi xz), some (zi xn), some (zi xk)]) (st' := [zi xk, .inl (some 383), zi xn]) (by decide +kernel) (fun k q => by cases q) rfl ?_
      obtain ⟨v120, hv121, lv120, uv120⟩ := g_int (i := k) hg (tu383 hg) at383 (show k < 32 by omega) (sr1 (by omega))
      refine y_ial (i := k) (len := 1) (r := (0, 0, 0, 0)) (by decide +kernel) hg (tu383 hg) at383 (by omega) hv121 ?_
      refine y_same (i := .iload_n 1) (len := 1) (r := (0, 0, 0, 0)) (pc' := 20) (ls' := [some (.inl (some 52)), some (zi xz), some (zi xn), some (zi xk)]) (st' := [zi xz, zi v120, zi xn]) (by decide +kernel) (fun k q => by cases q) rfl ?_
      rcases Decidable.em (v120.toInt ≠ xz.toInt) with q122 | q122
      ·
        refine y_cT (c := .ne) (off := 7) (pc' := 27) (len := 3) (r := (0, 0, 0, 0)) (by decide +kernel) (acmpT (c := .ne) (by show ¬ (_ = _); omega)) (by decide +kernel) ?_
        refine y_ic (c := 0) (len := 1) (r := (0, 0, 0, 0)) (by decide +kernel) (by decide) (fun y123 hy123 => ?_)
        refine y_bp (i := .iadd) (f := fun x y => x + y) (len := 1) (r := (0, 0, 0, 0)) (by decide +kernel) rfl rfl (fun y124 hy124 => ?_)
        refine y_same (i := .istore_n 2) (len := 1) (r := (0, 0, 0, 0)) (pc' := 30) (ls' := [some (.inl (some 52)), some (zi xz), some (zi y124), some (zi xk)]) (st' := []) (by decide +kernel) (fun k q => by cases q) rfl ?_
        refine y_inc (j := 3) (a := xk) (c := 1) (ls' := fun v => [some (.inl (some 52)), some (zi xz), some (zi y124), some v]) (len := 3) (r := (0, 0, 0, 0)) (by decide +kernel) rfl (fun _ => rfl) (by decide) (by omega) (by omega) (fun y125 hy125 => ?_)
        show qX 8 255 33 [some (.inl (some 52)), some (zi xz), some (zi y124), some (zi y125)] [] h t _
        refine y_goto (off := (-29)) (pc' := 4) (len := 3) (r := (0, 0, 0, 0)) (by decide +kernel) (by decide +kernel) ?_
        exact ih (k + 1) y124 y125 (by omega) (by omega) (by omega)
      ·
        refine y_cF (c := .ne) (off := 7) (len := 3) (r := (0, 0, 0, 0)) (by decide +kernel) (acmpF (c := .ne) (by show _ = _; omega)) ?_
        refine y_ic (c := 1) (len := 1) (r := (0, 0, 0, 0)) (by decide +kernel) (by decide) (fun y126 hy126 => ?_)
        refine y_goto (off := 4) (pc' := 28) (len := 3) (r := (0, 0, 0, 0)) (by decide +kernel) (by decide +kernel) ?_
        refine y_bp (i := .iadd) (f := fun x y => x + y) (len := 1) (r := (0, 0, 0, 0)) (by decide +kernel) rfl rfl (fun y127 hy127 => ?_)
        refine y_same (i := .istore_n 2) (len := 1) (r := (0, 0, 0, 0)) (pc' := 30) (ls' := [some (.inl (some 52)), some (zi xz), some (zi y127), some (zi xk)]) (st' := []) (by decide +kernel) (fun k q => by cases q) rfl ?_
        refine y_inc (j := 3) (a := xk) (c := 1) (ls' := fun v => [some (.inl (some 52)), some (zi xz), some (zi y127), some v]) (len := 3) (r := (0, 0, 0, 0)) (by decide +kernel) rfl (fun _ => rfl) (by decide) (by omega) (by omega) (fun y128 hy128 => ?_)
        show qX 8 255 33 [some (.inl (some 52)), some (zi xz), some (zi y127), some (zi y128)] [] h t _
        refine y_goto (off := (-29)) (pc' := 4) (len := 3) (r := (0, 0, 0, 0)) (by decide +kernel) (by decide +kernel) ?_
        exact ih (k + 1) y127 y128 (by omega) (by omega) (by omega)
theorem e_placesWith {t : Nat} {τ : List Nat} {h : zh} {xz : Int32} (hg : hG τ h) : qI 9 255 [some (.inl (some 52)), some (zi xz), none, none] h t (fun z h1 => h = h1) := by
  obtain ⟨xp, hp, l1, u1⟩ := g_int (i := 39) (lo := 0) (hi := 31) hg (t52 hg) at52 (by decide) rfl
  refine qI_of ?_
  refine y_ic (c := 0) (len := 1) (r := (0, 0, 0, 0)) (by decide +kernel) (by decide) (fun y129 hy129 => ?_)
  refine y_same (i := .istore_n 2) (len := 1) (r := (0, 0, 0, 0)) (pc' := 2) (ls' := [some (.inl (some 52)), some (zi xz), some (zi y129), none]) (st' := []) (by decide +kernel) (fun k q => by cases q) rfl ?_
  refine y_ic (c := 1) (len := 1) (r := (0, 0, 0, 0)) (by decide +kernel) (by decide) (fun y130 hy130 => ?_)
  refine y_same (i := .istore_n 3) (len := 1) (r := (0, 0, 0, 0)) (pc' := 4) (ls' := [some (.inl (some 52)), some (zi xz), some (zi y129), some (zi y130)]) (st' := []) (by decide +kernel) (fun k q => by cases q) rfl ?_
  exact pw_l (m := xp.toInt.toNat) hg hp (by omega) (by omega) 32 1 y129 y130 (by omega) (by omega) (by omega)
