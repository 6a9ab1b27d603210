/-! the reference's flags behind proof, sequent, partOf, print -/
theorem qX_mn {d mi pc : Nat} {ls : List (Option zv)} {st : List zv} {h : zh} {t : Nat} {P Q : zo × zh × Nat → Prop} (k : qX d mi pc ls st h t P) (i : ∀ x, P x → Q x) : qX d mi pc ls st h t Q := by
  obtain ⟨x, e, p⟩ := k
  exact ⟨x, e, i x p⟩
def qP (d mj : Nat) (l0 : List (Option zv)) (h : zh) (t : Nat) (P : zo × zh × Nat → Prop) : Prop := ∃ x, qE d mj l0 h t x ∧ P x
theorem qP_of {d mj : Nat} {l0 : List (Option zv)} {h : zh} {t : Nat} {P : zo × zh × Nat → Prop} (k : qX d mj 0 l0 [] h t P) : qP (d + 1) mj l0 h t P := by
  obtain ⟨x, k, p⟩ := k
  exact ⟨x, qE_of k, p⟩
theorem qP_at {d mj : Nat} {l0 : List (Option zv)} {h : zh} {t : Nat} {P : zo × zh × Nat → Prop} {x : zo × zh × Nat} {d' : Nat} (hd : d ≤ d') (e : qE d' mj l0 h t x) (b : qP d mj l0 h t P) : P x := by
  obtain ⟨x', e', p⟩ := b
  rw [qE_det e (qE_le hd e')]
  exact p
def fqM (h h1 : zh) : Prop := kx_ h1 52 32 0 ∨ (hsl h1 52 27 = hsl h 52 27 ∧ hsl h1 52 29 = hsl h 52 29 ∧ hsl h1 52 31 = hsl h 52 31 ∧ hsl h1 52 32 = hsl h 52 32)
noncomputable def zqS (k : Nat) : aS := ((0, 0) :: List.replicate k ((-2147483648), 2147483647), [], [((52, 0, 0), .inl (0, 0))], [], [], 0)
noncomputable def zqR (mi pc : Nat) (ann : aA) (k : Nat) (ls : List (Option av)) : Bool := match alp actb ann [] 14 (arn actb 2000 14) mi 10000 [] pc ls [] (zqS k) with
  | some L => L.all (fun x => match x.1 with
    | .inl (.inl (some _)) => !awc x.2.2.2.2.2.1 52 32 && Nat.beq x.2.2.2.2.2.2 0
    | _ => false)
  | none => false
theorem pvs_1 {τ : List Nat} {h : zh} {t : Nat} {xv : Int32} (hg : hG τ h) (hv1 : 0 ≤ xv.toInt) (hv2 : xv.toInt ≤ 1) : qV 13 238 [some (.inl (some 52)), some (zi xv), none] h t (fun h1 => (∃ τ1, hG τ1 h1) ∧ hsl h1 52 0 = hsl h 52 0 ∧ ∃ x : Int32, hsl h1 52 32 = some (zi x) ∧ x.toInt = xv.toInt) := by
  obtain ⟨h1, e, r⟩ := pvs_0 (t := t) (fun mk c' h1 _ => okC h1) hg hv1 hv2
  obtain ⟨h2, e2, τ1, r2⟩ := e_proves (t := t) (fun mk c' h1 _ => okC h1) hg hv1 hv2
  cases qE_det e e2
  exact ⟨h1, e, ⟨τ1, r2.2.1⟩, r2.2.2 52 52 0 (t52 hg) (by decide), r⟩
theorem zqk_proof : zqR 240 46 [(79, .inl ([(2, (-2147483648), 2147483647), (3, 0, 300)], [], [], [], [], 1, true))] 1 [some (.inr (.inl 52)), some (.inl (1, 0)), none, none] = true := by decide +kernel
theorem zq_proof {x1 : Int32} {τ : List Nat} {h : zh} {t : Nat} {z : Int32} (hg : hG τ h) (hz : hsl h 52 0 = some (zi z)) (ez : z.toInt = 0) : qX 14 240 46 [some (.inl (some 52)), some (zi x1), none, none] [] h t (fun x => ∃ (v : zv) (h1 : zh), x = (.inl (some v), h1, t) ∧ hsl h1 52 32 = hsl h 52 32) := by
  have hR := zqk_proof
  unfold zqR at hR
  cases hL : alp actb [(79, .inl ([(2, (-2147483648), 2147483647), (3, 0, 300)], [], [], [], [], 1, true))] [] 14 (arn actb 2000 14) 240 10000 [] 46 [some (.inr (.inl 52)), some (.inl (1, 0)), none, none] [] (zqS 1) with
  | none => rw [hL] at hR; cases hR
  | some L =>
    rw [hL] at hR
    simp only at hR
    have hM0 : aM aJ τ h t (zqS 1) [0, x1.toInt] [] τ h t := by
      refine ⟨⟨rfl, rfl, fun j p9 hp9 => ?_⟩, ⟨rfl, fun j T hj => (by cases hj)⟩, fun f hf => ?_, fun f hf => (by cases hf), ⟨aup_refl _, fun _ _ _ _ _ => rfl⟩, hg.1, hg.2, rfl⟩
      · match j, hp9 with
        | 0, hp9 => cases hp9; exact ⟨0, rfl, Int.le_refl _, Int.le_refl _⟩
        | 1, hp9 => cases hp9; exact ⟨_, rfl, (qin_full x1).1, (qin_full x1).2⟩
        | j + 2, hp9 => cases hp9
      · have hf : f ∈ [((52, 0, 0), (.inl (0, 0) : av))] := hf
        simp only [List.mem_cons, List.not_mem_nil, or_false] at hf
        subst hf
        exact ⟨fun _ => t52 hg, 52, 0, (0 : Int), _, rfl, rfl, by simp, hz, z, 0, rfl, rfl, by omega⟩
    have hl0 : alM [0, x1.toInt] [] [some (.inr (.inl 52)), some (.inl (1, 0)), none, none] [some (.inl (some 52)), some (zi x1), none, none] := by
      refine ⟨rfl, fun j b hb => ?_, fun j v hv hn => ?_⟩
      · match j, hb with
      | 0, hb => cases hb; exact ⟨_, rfl, 52, rfl, rfl⟩
      | 1, hb => cases hb; exact ⟨_, rfl, x1, x1.toInt, rfl, rfl, by omega⟩
      | j + 2, hb =>
        have h9 := List.eq_of_mem_replicate (n := 2) (a := (none : Option av)) (List.mem_of_getElem? (show (List.replicate 2 (none : Option av))[j]? = some (some b) from hb))
        cases h9
      · match j, hv, hn with
      | 0, _, hn => cases hn
      | 1, _, hn => cases hn
      | j + 2, hv, _ =>
        have h9 := List.eq_of_mem_replicate (n := 2) (a := (none : Option zv)) (List.mem_of_getElem? (show (List.replicate 2 (none : Option zv))[j]? = some (some v) from hv))
        cases h9
    obtain ⟨xx, k1, v, h3, rfl, g1⟩ := alp_ok (ann := [(79, .inl ([(2, (-2147483648), 2147483647), (3, 0, 300)], [], [], [], [], 1, true))]) (stops := []) (ctb := actb) (call := arn actb 2000 14) (τ0 := τ) (h0 := h) (t0 := t) (ρt := [0, x1.toInt]) (νt := []) (τt := τ) (d := 14) (mi := 240) (Out := fun xx => ∃ (v : zv) (h3 : zh), xx = (.inl (some v), h3, t) ∧ hsl h3 52 32 = hsl h 52 32) aJ_ok (fun mk c' h1 _ => okC h1) (arn_ok aJ_ok 14 (fun mk c' h1 _ => okC h1)) 10000 [] 46 _ [] _ L _ _ _ _ [] h t hL hM0 hl0 trivial (fun o S' hm9 ρ' ν' τ' h' t' u1 u2 u3 hM' => by
      have hPx := List.all_eq_true.mp hR _ hm9
      simp only at hPx
      split at hPx
      · rename_i v hv9
        simp only [Bool.and_eq_true, Bool.not_eq_true'] at hPx
        refine ⟨fun q9 hq9 x hx => ?_, fun pc ls st ho => (by cases ho)⟩
        cases hq9
        rcases x with (_ | v9) | z
        · exact hx.elim
        · have ht : t' = t := by
            have h9 := hM'.2.2.2.2.2.2.2
            rw [Nat.eq_of_beq_eq_true hPx.2] at h9
            exact h9
          subst ht
          exact ⟨v9, h', rfl, hM'.2.2.2.2.1.2 52 52 32 (t52 hg) hPx.1⟩
        · exact hx.elim
      · cases hPx) (fun o ho => (by cases ho)) (aup_refl _) (aup_refl _) (aup_refl _)
    exact ⟨_, k1, v, h3, rfl, g1⟩
theorem fm_proof {x1 : Int32} {τ : List Nat} {h : zh} {t : Nat} (hg : hG τ h) : qP 15 240 [some (.inl (some 52)), some (zi x1), none, none] h t (fun x => fqM h x.2.1) := by
  refine qP_of ?_
  rcases (show (0 ≤ x1.toInt ∧ x1.toInt ≤ 4) ∨ (10 ≤ x1.toInt ∧ x1.toInt ≤ 19) ∨ (¬ (0 ≤ x1.toInt ∧ x1.toInt ≤ 4) ∧ ¬ (10 ≤ x1.toInt ∧ x1.toInt ≤ 19)) by omega) with hx | hx | hx
  ·
    refine y_same (i := .aload_n 0) (len := 1) (r := (0, 0, 0, 0)) (pc' := 1) (ls' := [some (.inl (some 52)), some (zi x1), none, none]) (st' := [.inl (some 52)]) (by decide +kernel) (fun k q => by cases q) rfl ?_
    refine y_ic (c := 0) (len := 1) (r := (0, 0, 0, 0)) (by decide +kernel) (by decide) (fun y2446 hy2446 => ?_)
    refine y_put (j := 92) (lo := (-2147483648)) (hi := 2147483647) (len := 3) (r := (12, 0, 0, 1328)) (by decide +kernel) hg (t52 hg) at52 rfl rfl (by decide) rfl (qin_full _).1 (qin_full _).2 rfl (fun h2447 hg2447 hl2447 hs2447 ho2447 => ?_)
    have ho2447 : hO 52 0 h h2447 := ho2447
    have hs2447 : hsl h2447 52 0 = some (zi y2446) := hs2447
    refine y_same (i := .aload_n 0) (len := 1) (r := (0, 0, 0, 0)) (pc' := 6) (ls' := [some (.inl (some 52)), some (zi x1), none, none]) (st' := [.inl (some 52)]) (by decide +kernel) (fun k q => by cases q) rfl ?_
    refine y_same (i := .iload_n 1) (len := 1) (r := (0, 0, 0, 0)) (pc' := 7) (ls' := [some (.inl (some 52)), some (zi x1), none, none]) (st' := [zi x1, .inl (some 52)]) (by decide +kernel) (fun k q => by cases q) rfl ?_
    refine y_ic (c := 0) (len := 1) (r := (0, 0, 0, 0)) (by decide +kernel) (by decide) (fun y2448 hy2448 => ?_)
    refine y_ic (c := 4) (len := 1) (r := (0, 0, 0, 0)) (by decide +kernel) (by decide) (fun y2449 hy2449 => ?_)
    refine y_cI (i := .invokestatic 200) (len := 3) (r := (1, 162, 12, 1486)) (nL := 3) (k := 2) (n := 3) (hs := []) (args := [zi x1, zi y2448, zi y2449]) (rest := [.inl (some 52)]) (l0 := [some (zi x1), some (zi y2448), some (zi y2449)]) (by decide +kernel) (Or.inl ⟨_, rfl⟩) rfl rfl rfl rfl (Nat.le_of_ble_eq_true rfl) rfl rfl (qI_le (by decide) (m_in (d := 0) (by omega) (by omega))) (fun y2450 qy2450 hRy2450 => ?_)
    obtain ⟨rfl, hy2450⟩ := hRy2450
    refine y_iT (c := .ne) (off := 18) (pc' := 30) (len := 3) (r := (0, 0, 0, 0)) (by decide +kernel) (acmpT (c := .ne) (by show ¬ (_ = _); omega)) (by decide +kernel) ?_
    refine y_ic (c := 0) (len := 1) (r := (0, 0, 0, 0)) (by decide +kernel) (by decide) (fun y2451 hy2451 => ?_)
    refine y_ic (c := 1) (len := 1) (r := (0, 0, 0, 0)) (by decide +kernel) (by decide) (fun y2452 hy2452 => ?_)
    refine y_ic (c := 1) (len := 1) (r := (0, 0, 0, 0)) (by decide +kernel) (by decide) (fun y2453 hy2453 => ?_)
    refine y_cI (i := .invokevirtual 204) (len := 3) (r := (0, 161, 12, 1489)) (nL := 4) (k := 2) (n := 4) (hs := []) (args := [.inl (some 52), zi y2451, zi y2452, zi y2453]) (rest := []) (l0 := [some (.inl (some 52)), some (zi y2451), some (zi y2452), some (zi y2453)]) (by decide +kernel) (Or.inr (Or.inl ⟨_, rfl⟩)) rfl rfl rfl rfl (Nat.le_of_ble_eq_true rfl) (z52 hg2447) rfl (qI_le (by decide) (m_bad (d := 0) hg2447 (by omega) hs2447 (by omega))) (fun y2454 qy2454 hRy2454 => ?_)
    obtain ⟨rfl, hy2454⟩ := hRy2454
    refine y_iT (c := .eq) (off := 5) (pc' := 41) (len := 3) (r := (0, 0, 0, 0)) (by decide +kernel) (acmpT (c := .eq) (by show _ = _; omega)) (by decide +kernel) ?_
    refine y_same (i := .aload_n 0) (len := 1) (r := (0, 0, 0, 0)) (pc' := 42) (ls' := [some (.inl (some 52)), some (zi x1), none, none]) (st' := [.inl (some 52)]) (by decide +kernel) (fun k q => by cases q) rfl ?_
    refine y_ic (c := 0) (len := 1) (r := (0, 0, 0, 0)) (by decide +kernel) (by decide) (fun y2455 hy2455 => ?_)
    refine y_cV (i := .invokevirtual 400) (len := 3) (r := (0, 238, 12, 1628)) (nL := 3) (k := 0) (n := 2) (hs := []) (args := [.inl (some 52), zi y2455]) (rest := []) (l0 := [some (.inl (some 52)), some (zi y2455), none]) (by decide +kernel) (Or.inr (Or.inl ⟨_, rfl⟩)) rfl rfl rfl rfl (Nat.le_of_ble_eq_true rfl) (z52 hg2447) rfl (qV_le (by decide) (pvs_1 hg2447 (by omega) (by omega))) (fun h2456 hR2456 => ?_)
    obtain ⟨⟨τ9, hg9⟩, f9, xz, hz, ez⟩ := hR2456
    refine qX_mn (zq_proof hg9 (f9.trans hs2447) (by omega)) (fun x q => ?_)
    obtain ⟨v, h9, rfl, e9⟩ := q
    exact Or.inl ⟨_, e9.trans hz, by omega⟩
  ·
    refine y_same (i := .aload_n 0) (len := 1) (r := (0, 0, 0, 0)) (pc' := 1) (ls' := [some (.inl (some 52)), some (zi x1), none, none]) (st' := [.inl (some 52)]) (by decide +kernel) (fun k q => by cases q) rfl ?_
    refine y_ic (c := 0) (len := 1) (r := (0, 0, 0, 0)) (by decide +kernel) (by decide) (fun y2457 hy2457 => ?_)
    refine y_put (j := 92) (lo := (-2147483648)) (hi := 2147483647) (len := 3) (r := (12, 0, 0, 1328)) (by decide +kernel) hg (t52 hg) at52 rfl rfl (by decide) rfl (qin_full _).1 (qin_full _).2 rfl (fun h2458 hg2458 hl2458 hs2458 ho2458 => ?_)
    have ho2458 : hO 52 0 h h2458 := ho2458
    have hs2458 : hsl h2458 52 0 = some (zi y2457) := hs2458
    refine y_same (i := .aload_n 0) (len := 1) (r := (0, 0, 0, 0)) (pc' := 6) (ls' := [some (.inl (some 52)), some (zi x1), none, none]) (st' := [.inl (some 52)]) (by decide +kernel) (fun k q => by cases q) rfl ?_
    refine y_same (i := .iload_n 1) (len := 1) (r := (0, 0, 0, 0)) (pc' := 7) (ls' := [some (.inl (some 52)), some (zi x1), none, none]) (st' := [zi x1, .inl (some 52)]) (by decide +kernel) (fun k q => by cases q) rfl ?_
    refine y_ic (c := 0) (len := 1) (r := (0, 0, 0, 0)) (by decide +kernel) (by decide) (fun y2459 hy2459 => ?_)
    refine y_ic (c := 4) (len := 1) (r := (0, 0, 0, 0)) (by decide +kernel) (by decide) (fun y2460 hy2460 => ?_)
    refine y_cI (i := .invokestatic 200) (len := 3) (r := (1, 162, 12, 1486)) (nL := 3) (k := 2) (n := 3) (hs := []) (args := [zi x1, zi y2459, zi y2460]) (rest := [.inl (some 52)]) (l0 := [some (zi x1), some (zi y2459), some (zi y2460)]) (by decide +kernel) (Or.inl ⟨_, rfl⟩) rfl rfl rfl rfl (Nat.le_of_ble_eq_true rfl) rfl rfl (qI_le (by decide) (m_in0 (d := 0) (by omega))) (fun y2461 qy2461 hRy2461 => ?_)
    obtain ⟨rfl, hy2461⟩ := hRy2461
    refine y_iF (c := .ne) (off := 18) (len := 3) (r := (0, 0, 0, 0)) (by decide +kernel) (acmpF (c := .ne) (by show _ = _; omega)) ?_
    refine y_same (i := .iload_n 1) (len := 1) (r := (0, 0, 0, 0)) (pc' := 16) (ls' := [some (.inl (some 52)), some (zi x1), none, none]) (st' := [zi x1, .inl (some 52)]) (by decide +kernel) (fun k q => by cases q) rfl ?_
    refine y_bi (c := 10) (len := 2) (r := (0, 0, 0, 0)) (by decide +kernel) (by decide) (fun y2462 hy2462 => ?_)
    refine y_bi (c := 19) (len := 2) (r := (0, 0, 0, 0)) (by decide +kernel) (by decide) (fun y2463 hy2463 => ?_)
    refine y_cI (i := .invokestatic 200) (len := 3) (r := (1, 162, 12, 1486)) (nL := 3) (k := 2) (n := 3) (hs := []) (args := [zi x1, zi y2462, zi y2463]) (rest := [.inl (some 52)]) (l0 := [some (zi x1), some (zi y2462), some (zi y2463)]) (by decide +kernel) (Or.inl ⟨_, rfl⟩) rfl rfl rfl rfl (Nat.le_of_ble_eq_true rfl) rfl rfl (qI_le (by decide) (m_in (d := 0) (by omega) (by omega))) (fun y2464 qy2464 hRy2464 => ?_)
    obtain ⟨rfl, hy2464⟩ := hRy2464
    refine y_iT (c := .ne) (off := 7) (pc' := 30) (len := 3) (r := (0, 0, 0, 0)) (by decide +kernel) (acmpT (c := .ne) (by show ¬ (_ = _); omega)) (by decide +kernel) ?_
    refine y_ic (c := 0) (len := 1) (r := (0, 0, 0, 0)) (by decide +kernel) (by decide) (fun y2465 hy2465 => ?_)
    refine y_ic (c := 1) (len := 1) (r := (0, 0, 0, 0)) (by decide +kernel) (by decide) (fun y2466 hy2466 => ?_)
    refine y_ic (c := 1) (len := 1) (r := (0, 0, 0, 0)) (by decide +kernel) (by decide) (fun y2467 hy2467 => ?_)
    refine y_cI (i := .invokevirtual 204) (len := 3) (r := (0, 161, 12, 1489)) (nL := 4) (k := 2) (n := 4) (hs := []) (args := [.inl (some 52), zi y2465, zi y2466, zi y2467]) (rest := []) (l0 := [some (.inl (some 52)), some (zi y2465), some (zi y2466), some (zi y2467)]) (by decide +kernel) (Or.inr (Or.inl ⟨_, rfl⟩)) rfl rfl rfl rfl (Nat.le_of_ble_eq_true rfl) (z52 hg2458) rfl (qI_le (by decide) (m_bad (d := 0) hg2458 (by omega) hs2458 (by omega))) (fun y2468 qy2468 hRy2468 => ?_)
    obtain ⟨rfl, hy2468⟩ := hRy2468
    refine y_iT (c := .eq) (off := 5) (pc' := 41) (len := 3) (r := (0, 0, 0, 0)) (by decide +kernel) (acmpT (c := .eq) (by show _ = _; omega)) (by decide +kernel) ?_
    refine y_same (i := .aload_n 0) (len := 1) (r := (0, 0, 0, 0)) (pc' := 42) (ls' := [some (.inl (some 52)), some (zi x1), none, none]) (st' := [.inl (some 52)]) (by decide +kernel) (fun k q => by cases q) rfl ?_
    refine y_ic (c := 0) (len := 1) (r := (0, 0, 0, 0)) (by decide +kernel) (by decide) (fun y2469 hy2469 => ?_)
    refine y_cV (i := .invokevirtual 400) (len := 3) (r := (0, 238, 12, 1628)) (nL := 3) (k := 0) (n := 2) (hs := []) (args := [.inl (some 52), zi y2469]) (rest := []) (l0 := [some (.inl (some 52)), some (zi y2469), none]) (by decide +kernel) (Or.inr (Or.inl ⟨_, rfl⟩)) rfl rfl rfl rfl (Nat.le_of_ble_eq_true rfl) (z52 hg2458) rfl (qV_le (by decide) (pvs_1 hg2458 (by omega) (by omega))) (fun h2470 hR2470 => ?_)
    obtain ⟨⟨τ9, hg9⟩, f9, xz, hz, ez⟩ := hR2470
    refine qX_mn (zq_proof hg9 (f9.trans hs2458) (by omega)) (fun x q => ?_)
    obtain ⟨v, h9, rfl, e9⟩ := q
    exact Or.inl ⟨_, e9.trans hz, by omega⟩
  ·
    refine y_same (i := .aload_n 0) (len := 1) (r := (0, 0, 0, 0)) (pc' := 1) (ls' := [some (.inl (some 52)), some (zi x1), none, none]) (st' := [.inl (some 52)]) (by decide +kernel) (fun k q => by cases q) rfl ?_
    refine y_ic (c := 0) (len := 1) (r := (0, 0, 0, 0)) (by decide +kernel) (by decide) (fun y2471 hy2471 => ?_)
    refine y_put (j := 92) (lo := (-2147483648)) (hi := 2147483647) (len := 3) (r := (12, 0, 0, 1328)) (by decide +kernel) hg (t52 hg) at52 rfl rfl (by decide) rfl (qin_full _).1 (qin_full _).2 rfl (fun h2472 hg2472 hl2472 hs2472 ho2472 => ?_)
    have ho2472 : hO 52 0 h h2472 := ho2472
    have hs2472 : hsl h2472 52 0 = some (zi y2471) := hs2472
    refine y_same (i := .aload_n 0) (len := 1) (r := (0, 0, 0, 0)) (pc' := 6) (ls' := [some (.inl (some 52)), some (zi x1), none, none]) (st' := [.inl (some 52)]) (by decide +kernel) (fun k q => by cases q) rfl ?_
    refine y_same (i := .iload_n 1) (len := 1) (r := (0, 0, 0, 0)) (pc' := 7) (ls' := [some (.inl (some 52)), some (zi x1), none, none]) (st' := [zi x1, .inl (some 52)]) (by decide +kernel) (fun k q => by cases q) rfl ?_
    refine y_ic (c := 0) (len := 1) (r := (0, 0, 0, 0)) (by decide +kernel) (by decide) (fun y2473 hy2473 => ?_)
    refine y_ic (c := 4) (len := 1) (r := (0, 0, 0, 0)) (by decide +kernel) (by decide) (fun y2474 hy2474 => ?_)
    refine y_cI (i := .invokestatic 200) (len := 3) (r := (1, 162, 12, 1486)) (nL := 3) (k := 2) (n := 3) (hs := []) (args := [zi x1, zi y2473, zi y2474]) (rest := [.inl (some 52)]) (l0 := [some (zi x1), some (zi y2473), some (zi y2474)]) (by decide +kernel) (Or.inl ⟨_, rfl⟩) rfl rfl rfl rfl (Nat.le_of_ble_eq_true rfl) rfl rfl (qI_le (by decide) (m_in0 (d := 0) (by omega))) (fun y2475 qy2475 hRy2475 => ?_)
    obtain ⟨rfl, hy2475⟩ := hRy2475
    refine y_iF (c := .ne) (off := 18) (len := 3) (r := (0, 0, 0, 0)) (by decide +kernel) (acmpF (c := .ne) (by show _ = _; omega)) ?_
    refine y_same (i := .iload_n 1) (len := 1) (r := (0, 0, 0, 0)) (pc' := 16) (ls' := [some (.inl (some 52)), some (zi x1), none, none]) (st' := [zi x1, .inl (some 52)]) (by decide +kernel) (fun k q => by cases q) rfl ?_
    refine y_bi (c := 10) (len := 2) (r := (0, 0, 0, 0)) (by decide +kernel) (by decide) (fun y2476 hy2476 => ?_)
    refine y_bi (c := 19) (len := 2) (r := (0, 0, 0, 0)) (by decide +kernel) (by decide) (fun y2477 hy2477 => ?_)
    refine y_cI (i := .invokestatic 200) (len := 3) (r := (1, 162, 12, 1486)) (nL := 3) (k := 2) (n := 3) (hs := []) (args := [zi x1, zi y2476, zi y2477]) (rest := [.inl (some 52)]) (l0 := [some (zi x1), some (zi y2476), some (zi y2477)]) (by decide +kernel) (Or.inl ⟨_, rfl⟩) rfl rfl rfl rfl (Nat.le_of_ble_eq_true rfl) rfl rfl (qI_le (by decide) (m_in0 (d := 0) (by omega))) (fun y2478 qy2478 hRy2478 => ?_)
    obtain ⟨rfl, hy2478⟩ := hRy2478
    refine y_iF (c := .ne) (off := 7) (len := 3) (r := (0, 0, 0, 0)) (by decide +kernel) (acmpF (c := .ne) (by show _ = _; omega)) ?_
    refine y_ic (c := 1) (len := 1) (r := (0, 0, 0, 0)) (by decide +kernel) (by decide) (fun y2479 hy2479 => ?_)
    refine y_goto (off := 4) (pc' := 31) (len := 3) (r := (0, 0, 0, 0)) (by decide +kernel) (by decide +kernel) ?_
    refine y_ic (c := 1) (len := 1) (r := (0, 0, 0, 0)) (by decide +kernel) (by decide) (fun y2480 hy2480 => ?_)
    refine y_ic (c := 1) (len := 1) (r := (0, 0, 0, 0)) (by decide +kernel) (by decide) (fun y2481 hy2481 => ?_)
    refine y_cI (i := .invokevirtual 204) (len := 3) (r := (0, 161, 12, 1489)) (nL := 4) (k := 2) (n := 4) (hs := []) (args := [.inl (some 52), zi y2479, zi y2480, zi y2481]) (rest := []) (l0 := [some (.inl (some 52)), some (zi y2479), some (zi y2480), some (zi y2481)]) (by decide +kernel) (Or.inr (Or.inl ⟨_, rfl⟩)) rfl rfl rfl rfl (Nat.le_of_ble_eq_true rfl) (z52 hg2472) rfl (qI_le (by decide) (m_bad1 (d := 0) (e := 1) hg2472 (by omega) (by omega) (by omega) (by omega) hs2472 (by omega))) (fun y2482 h2482 hRy2482 => ?_)
    obtain ⟨hg2482, hy2482, ⟨z2482, hz2482, ez2482⟩, F2482⟩ := hRy2482
    refine y_iF (c := .eq) (off := 5) (len := 3) (r := (0, 0, 0, 0)) (by decide +kernel) (acmpF (c := .eq) (by show ¬ (_ = _); omega)) ?_
    refine y_ic (c := 0) (len := 1) (r := (0, 0, 0, 0)) (by decide +kernel) (by decide) (fun y2483 hy2483 => ?_)
    refine qX_mn (P := rI (fun _ h1 => h1 = h2482) t) ?_ (fun x q => ?_)
    ·
      refine y_rI (len := 1) (r := (0, 0, 0, 0)) (nL := 4) (k := 1) (n9 := 2) (hs := []) (by decide +kernel) rfl rfl ?_
      rfl
    · obtain ⟨y9, h9, rfl, rfl⟩ := q
      exact Or.inr ⟨((F2482 52 27 (by omega)).trans (ho2472 52 27 (by omega))), ((F2482 52 29 (by omega)).trans (ho2472 52 29 (by omega))), ((F2482 52 31 (by omega)).trans (ho2472 52 31 (by omega))), ((F2482 52 32 (by omega)).trans (ho2472 52 32 (by omega)))⟩
theorem zqk_sequent : zqR 241 10 [] 2 [some (.inr (.inl 52)), some (.inl (1, 0)), some (.inl (2, 0))] = true := by decide +kernel
theorem zq_sequent {x1 x2 : Int32} {τ : List Nat} {h : zh} {t : Nat} {z : Int32} (hg : hG τ h) (hz : hsl h 52 0 = some (zi z)) (ez : z.toInt = 0) : qX 14 241 10 [some (.inl (some 52)), some (zi x1), some (zi x2)] [] h t (fun x => ∃ (v : zv) (h1 : zh), x = (.inl (some v), h1, t) ∧ hsl h1 52 32 = hsl h 52 32) := by
  have hR := zqk_sequent
  unfold zqR at hR
  cases hL : alp actb [] [] 14 (arn actb 2000 14) 241 10000 [] 10 [some (.inr (.inl 52)), some (.inl (1, 0)), some (.inl (2, 0))] [] (zqS 2) with
  | none => rw [hL] at hR; cases hR
  | some L =>
    rw [hL] at hR
    simp only at hR
    have hM0 : aM aJ τ h t (zqS 2) [0, x1.toInt, x2.toInt] [] τ h t := by
      refine ⟨⟨rfl, rfl, fun j p9 hp9 => ?_⟩, ⟨rfl, fun j T hj => (by cases hj)⟩, fun f hf => ?_, fun f hf => (by cases hf), ⟨aup_refl _, fun _ _ _ _ _ => rfl⟩, hg.1, hg.2, rfl⟩
      · match j, hp9 with
        | 0, hp9 => cases hp9; exact ⟨0, rfl, Int.le_refl _, Int.le_refl _⟩
        | 1, hp9 => cases hp9; exact ⟨_, rfl, (qin_full x1).1, (qin_full x1).2⟩
        | 2, hp9 => cases hp9; exact ⟨_, rfl, (qin_full x2).1, (qin_full x2).2⟩
        | j + 3, hp9 => cases hp9
      · have hf : f ∈ [((52, 0, 0), (.inl (0, 0) : av))] := hf
        simp only [List.mem_cons, List.not_mem_nil, or_false] at hf
        subst hf
        exact ⟨fun _ => t52 hg, 52, 0, (0 : Int), _, rfl, rfl, by simp, hz, z, 0, rfl, rfl, by omega⟩
    have hl0 : alM [0, x1.toInt, x2.toInt] [] [some (.inr (.inl 52)), some (.inl (1, 0)), some (.inl (2, 0))] [some (.inl (some 52)), some (zi x1), some (zi x2)] := by
      refine ⟨rfl, fun j b hb => ?_, fun j v hv hn => ?_⟩
      · match j, hb with
      | 0, hb => cases hb; exact ⟨_, rfl, 52, rfl, rfl⟩
      | 1, hb => cases hb; exact ⟨_, rfl, x1, x1.toInt, rfl, rfl, by omega⟩
      | 2, hb => cases hb; exact ⟨_, rfl, x2, x2.toInt, rfl, rfl, by omega⟩
      | j + 3, hb => cases hb
      · match j, hv, hn with
      | 0, _, hn => cases hn
      | 1, _, hn => cases hn
      | 2, _, hn => cases hn
      | j + 3, hv, _ => cases hv
    obtain ⟨xx, k1, v, h3, rfl, g1⟩ := alp_ok (ann := []) (stops := []) (ctb := actb) (call := arn actb 2000 14) (τ0 := τ) (h0 := h) (t0 := t) (ρt := [0, x1.toInt, x2.toInt]) (νt := []) (τt := τ) (d := 14) (mi := 241) (Out := fun xx => ∃ (v : zv) (h3 : zh), xx = (.inl (some v), h3, t) ∧ hsl h3 52 32 = hsl h 52 32) aJ_ok (fun mk c' h1 _ => okC h1) (arn_ok aJ_ok 14 (fun mk c' h1 _ => okC h1)) 10000 [] 10 _ [] _ L _ _ _ _ [] h t hL hM0 hl0 trivial (fun o S' hm9 ρ' ν' τ' h' t' u1 u2 u3 hM' => by
      have hPx := List.all_eq_true.mp hR _ hm9
      simp only at hPx
      split at hPx
      · rename_i v hv9
        simp only [Bool.and_eq_true, Bool.not_eq_true'] at hPx
        refine ⟨fun q9 hq9 x hx => ?_, fun pc ls st ho => (by cases ho)⟩
        cases hq9
        rcases x with (_ | v9) | z
        · exact hx.elim
        · have ht : t' = t := by
            have h9 := hM'.2.2.2.2.2.2.2
            rw [Nat.eq_of_beq_eq_true hPx.2] at h9
            exact h9
          subst ht
          exact ⟨v9, h', rfl, hM'.2.2.2.2.1.2 52 52 32 (t52 hg) hPx.1⟩
        · exact hx.elim
      · cases hPx) (fun o ho => (by cases ho)) (aup_refl _) (aup_refl _) (aup_refl _)
    exact ⟨_, k1, v, h3, rfl, g1⟩
theorem fm_sequent {x1 x2 : Int32} {τ : List Nat} {h : zh} {t : Nat} (hg : hG τ h) : qP 15 241 [some (.inl (some 52)), some (zi x1), some (zi x2)] h t (fun x => fqM h x.2.1) := by
  refine qP_of ?_
  refine y_same (i := .aload_n 0) (len := 1) (r := (0, 0, 0, 0)) (pc' := 1) (ls' := [some (.inl (some 52)), some (zi x1), some (zi x2)]) (st' := [.inl (some 52)]) (by decide +kernel) (fun k q => by cases q) rfl ?_
  refine y_ic (c := 0) (len := 1) (r := (0, 0, 0, 0)) (by decide +kernel) (by decide) (fun y2484 hy2484 => ?_)
  refine y_put (j := 92) (lo := (-2147483648)) (hi := 2147483647) (len := 3) (r := (12, 0, 0, 1328)) (by decide +kernel) hg (t52 hg) at52 rfl rfl (by decide) rfl (qin_full _).1 (qin_full _).2 rfl (fun h2485 hg2485 hl2485 hs2485 ho2485 => ?_)
  have ho2485 : hO 52 0 h h2485 := ho2485
  have hs2485 : hsl h2485 52 0 = some (zi y2484) := hs2485
  refine y_same (i := .aload_n 0) (len := 1) (r := (0, 0, 0, 0)) (pc' := 6) (ls' := [some (.inl (some 52)), some (zi x1), some (zi x2)]) (st' := [.inl (some 52)]) (by decide +kernel) (fun k q => by cases q) rfl ?_
  refine y_ic (c := 0) (len := 1) (r := (0, 0, 0, 0)) (by decide +kernel) (by decide) (fun y2486 hy2486 => ?_)
  refine y_cV (i := .invokevirtual 400) (len := 3) (r := (0, 238, 12, 1628)) (nL := 3) (k := 0) (n := 2) (hs := []) (args := [.inl (some 52), zi y2486]) (rest := []) (l0 := [some (.inl (some 52)), some (zi y2486), none]) (by decide +kernel) (Or.inr (Or.inl ⟨_, rfl⟩)) rfl rfl rfl rfl (Nat.le_of_ble_eq_true rfl) (z52 hg2485) rfl (qV_le (by decide) (pvs_1 hg2485 (by omega) (by omega))) (fun h2487 hR2487 => ?_)
  obtain ⟨⟨τ9, hg9⟩, f9, xz, hz, ez⟩ := hR2487
  refine qX_mn (zq_sequent hg9 (f9.trans hs2485) (by omega)) (fun x q => ?_)
  obtain ⟨v, h9, rfl, e9⟩ := q
  exact Or.inl ⟨_, e9.trans hz, by omega⟩
theorem zqk_partOf : zqR 242 10 [] 4 [some (.inr (.inl 52)), some (.inl (1, 0)), some (.inl (2, 0)), some (.inl (3, 0)), some (.inl (4, 0))] = true := by decide +kernel
theorem zq_partOf {x1 x2 x3 x4 : Int32} {τ : List Nat} {h : zh} {t : Nat} {z : Int32} (hg : hG τ h) (hz : hsl h 52 0 = some (zi z)) (ez : z.toInt = 0) : qX 14 242 10 [some (.inl (some 52)), some (zi x1), some (zi x2), some (zi x3), some (zi x4)] [] h t (fun x => ∃ (v : zv) (h1 : zh), x = (.inl (some v), h1, t) ∧ hsl h1 52 32 = hsl h 52 32) := by
  have hR := zqk_partOf
  unfold zqR at hR
  cases hL : alp actb [] [] 14 (arn actb 2000 14) 242 10000 [] 10 [some (.inr (.inl 52)), some (.inl (1, 0)), some (.inl (2, 0)), some (.inl (3, 0)), some (.inl (4, 0))] [] (zqS 4) with
  | none => rw [hL] at hR; cases hR
  | some L =>
    rw [hL] at hR
    simp only at hR
    have hM0 : aM aJ τ h t (zqS 4) [0, x1.toInt, x2.toInt, x3.toInt, x4.toInt] [] τ h t := by
      refine ⟨⟨rfl, rfl, fun j p9 hp9 => ?_⟩, ⟨rfl, fun j T hj => (by cases hj)⟩, fun f hf => ?_, fun f hf => (by cases hf), ⟨aup_refl _, fun _ _ _ _ _ => rfl⟩, hg.1, hg.2, rfl⟩
      · match j, hp9 with
        | 0, hp9 => cases hp9; exact ⟨0, rfl, Int.le_refl _, Int.le_refl _⟩
        | 1, hp9 => cases hp9; exact ⟨_, rfl, (qin_full x1).1, (qin_full x1).2⟩
        | 2, hp9 => cases hp9; exact ⟨_, rfl, (qin_full x2).1, (qin_full x2).2⟩
        | 3, hp9 => cases hp9; exact ⟨_, rfl, (qin_full x3).1, (qin_full x3).2⟩
        | 4, hp9 => cases hp9; exact ⟨_, rfl, (qin_full x4).1, (qin_full x4).2⟩
        | j + 5, hp9 => cases hp9
      · have hf : f ∈ [((52, 0, 0), (.inl (0, 0) : av))] := hf
        simp only [List.mem_cons, List.not_mem_nil, or_false] at hf
        subst hf
        exact ⟨fun _ => t52 hg, 52, 0, (0 : Int), _, rfl, rfl, by simp, hz, z, 0, rfl, rfl, by omega⟩
    have hl0 : alM [0, x1.toInt, x2.toInt, x3.toInt, x4.toInt] [] [some (.inr (.inl 52)), some (.inl (1, 0)), some (.inl (2, 0)), some (.inl (3, 0)), some (.inl (4, 0))] [some (.inl (some 52)), some (zi x1), some (zi x2), some (zi x3), some (zi x4)] := by
      refine ⟨rfl, fun j b hb => ?_, fun j v hv hn => ?_⟩
      · match j, hb with
      | 0, hb => cases hb; exact ⟨_, rfl, 52, rfl, rfl⟩
      | 1, hb => cases hb; exact ⟨_, rfl, x1, x1.toInt, rfl, rfl, by omega⟩
      | 2, hb => cases hb; exact ⟨_, rfl, x2, x2.toInt, rfl, rfl, by omega⟩
      | 3, hb => cases hb; exact ⟨_, rfl, x3, x3.toInt, rfl, rfl, by omega⟩
      | 4, hb => cases hb; exact ⟨_, rfl, x4, x4.toInt, rfl, rfl, by omega⟩
      | j + 5, hb => cases hb
      · match j, hv, hn with
      | 0, _, hn => cases hn
      | 1, _, hn => cases hn
      | 2, _, hn => cases hn
      | 3, _, hn => cases hn
      | 4, _, hn => cases hn
      | j + 5, hv, _ => cases hv
    obtain ⟨xx, k1, v, h3, rfl, g1⟩ := alp_ok (ann := []) (stops := []) (ctb := actb) (call := arn actb 2000 14) (τ0 := τ) (h0 := h) (t0 := t) (ρt := [0, x1.toInt, x2.toInt, x3.toInt, x4.toInt]) (νt := []) (τt := τ) (d := 14) (mi := 242) (Out := fun xx => ∃ (v : zv) (h3 : zh), xx = (.inl (some v), h3, t) ∧ hsl h3 52 32 = hsl h 52 32) aJ_ok (fun mk c' h1 _ => okC h1) (arn_ok aJ_ok 14 (fun mk c' h1 _ => okC h1)) 10000 [] 10 _ [] _ L _ _ _ _ [] h t hL hM0 hl0 trivial (fun o S' hm9 ρ' ν' τ' h' t' u1 u2 u3 hM' => by
      have hPx := List.all_eq_true.mp hR _ hm9
      simp only at hPx
      split at hPx
      · rename_i v hv9
        simp only [Bool.and_eq_true, Bool.not_eq_true'] at hPx
        refine ⟨fun q9 hq9 x hx => ?_, fun pc ls st ho => (by cases ho)⟩
        cases hq9
        rcases x with (_ | v9) | z
        · exact hx.elim
        · have ht : t' = t := by
            have h9 := hM'.2.2.2.2.2.2.2
            rw [Nat.eq_of_beq_eq_true hPx.2] at h9
            exact h9
          subst ht
          exact ⟨v9, h', rfl, hM'.2.2.2.2.1.2 52 52 32 (t52 hg) hPx.1⟩
        · exact hx.elim
      · cases hPx) (fun o ho => (by cases ho)) (aup_refl _) (aup_refl _) (aup_refl _)
    exact ⟨_, k1, v, h3, rfl, g1⟩
theorem fm_partOf {x1 x2 x3 x4 : Int32} {τ : List Nat} {h : zh} {t : Nat} (hg : hG τ h) : qP 15 242 [some (.inl (some 52)), some (zi x1), some (zi x2), some (zi x3), some (zi x4)] h t (fun x => fqM h x.2.1) := by
  refine qP_of ?_
  refine y_same (i := .aload_n 0) (len := 1) (r := (0, 0, 0, 0)) (pc' := 1) (ls' := [some (.inl (some 52)), some (zi x1), some (zi x2), some (zi x3), some (zi x4)]) (st' := [.inl (some 52)]) (by decide +kernel) (fun k q => by cases q) rfl ?_
  refine y_ic (c := 0) (len := 1) (r := (0, 0, 0, 0)) (by decide +kernel) (by decide) (fun y2488 hy2488 => ?_)
  refine y_put (j := 92) (lo := (-2147483648)) (hi := 2147483647) (len := 3) (r := (12, 0, 0, 1328)) (by decide +kernel) hg (t52 hg) at52 rfl rfl (by decide) rfl (qin_full _).1 (qin_full _).2 rfl (fun h2489 hg2489 hl2489 hs2489 ho2489 => ?_)
  have ho2489 : hO 52 0 h h2489 := ho2489
  have hs2489 : hsl h2489 52 0 = some (zi y2488) := hs2489
  refine y_same (i := .aload_n 0) (len := 1) (r := (0, 0, 0, 0)) (pc' := 6) (ls' := [some (.inl (some 52)), some (zi x1), some (zi x2), some (zi x3), some (zi x4)]) (st' := [.inl (some 52)]) (by decide +kernel) (fun k q => by cases q) rfl ?_
  refine y_ic (c := 0) (len := 1) (r := (0, 0, 0, 0)) (by decide +kernel) (by decide) (fun y2490 hy2490 => ?_)
  refine y_cV (i := .invokevirtual 400) (len := 3) (r := (0, 238, 12, 1628)) (nL := 3) (k := 0) (n := 2) (hs := []) (args := [.inl (some 52), zi y2490]) (rest := []) (l0 := [some (.inl (some 52)), some (zi y2490), none]) (by decide +kernel) (Or.inr (Or.inl ⟨_, rfl⟩)) rfl rfl rfl rfl (Nat.le_of_ble_eq_true rfl) (z52 hg2489) rfl (qV_le (by decide) (pvs_1 hg2489 (by omega) (by omega))) (fun h2491 hR2491 => ?_)
  obtain ⟨⟨τ9, hg9⟩, f9, xz, hz, ez⟩ := hR2491
  refine qX_mn (zq_partOf hg9 (f9.trans hs2489) (by omega)) (fun x q => ?_)
  obtain ⟨v, h9, rfl, e9⟩ := q
  exact Or.inl ⟨_, e9.trans hz, by omega⟩
theorem zqk_print : zqR 263 10 [(14, .inl ([(3, 0, 300)], [], [], [], [], 0, true))] 0 [some (.inr (.inl 52)), none, none, none] = true := by decide +kernel
theorem zq_print {τ : List Nat} {h : zh} {t : Nat} {z : Int32} (hg : hG τ h) (hz : hsl h 52 0 = some (zi z)) (ez : z.toInt = 0) : qX 14 263 10 [some (.inl (some 52)), none, none, none] [] h t (fun x => ∃ (v : zv) (h1 : zh), x = (.inl (some v), h1, t) ∧ hsl h1 52 32 = hsl h 52 32) := by
  have hR := zqk_print
  unfold zqR at hR
  cases hL : alp actb [(14, .inl ([(3, 0, 300)], [], [], [], [], 0, true))] [] 14 (arn actb 2000 14) 263 10000 [] 10 [some (.inr (.inl 52)), none, none, none] [] (zqS 0) with
  | none => rw [hL] at hR; cases hR
  | some L =>
    rw [hL] at hR
    simp only at hR
    have hM0 : aM aJ τ h t (zqS 0) [0] [] τ h t := by
      refine ⟨⟨rfl, rfl, fun j p9 hp9 => ?_⟩, ⟨rfl, fun j T hj => (by cases hj)⟩, fun f hf => ?_, fun f hf => (by cases hf), ⟨aup_refl _, fun _ _ _ _ _ => rfl⟩, hg.1, hg.2, rfl⟩
      · match j, hp9 with
        | 0, hp9 => cases hp9; exact ⟨0, rfl, Int.le_refl _, Int.le_refl _⟩

        | j + 1, hp9 => cases hp9
      · have hf : f ∈ [((52, 0, 0), (.inl (0, 0) : av))] := hf
        simp only [List.mem_cons, List.not_mem_nil, or_false] at hf
        subst hf
        exact ⟨fun _ => t52 hg, 52, 0, (0 : Int), _, rfl, rfl, by simp, hz, z, 0, rfl, rfl, by omega⟩
    have hl0 : alM [0] [] [some (.inr (.inl 52)), none, none, none] [some (.inl (some 52)), none, none, none] := by
      refine ⟨rfl, fun j b hb => ?_, fun j v hv hn => ?_⟩
      · match j, hb with
      | 0, hb => cases hb; exact ⟨_, rfl, 52, rfl, rfl⟩

      | j + 1, hb =>
        have h9 := List.eq_of_mem_replicate (n := 3) (a := (none : Option av)) (List.mem_of_getElem? (show (List.replicate 3 (none : Option av))[j]? = some (some b) from hb))
        cases h9
      · match j, hv, hn with
      | 0, _, hn => cases hn
      | j + 1, hv, _ =>
        have h9 := List.eq_of_mem_replicate (n := 3) (a := (none : Option zv)) (List.mem_of_getElem? (show (List.replicate 3 (none : Option zv))[j]? = some (some v) from hv))
        cases h9
    obtain ⟨xx, k1, v, h3, rfl, g1⟩ := alp_ok (ann := [(14, .inl ([(3, 0, 300)], [], [], [], [], 0, true))]) (stops := []) (ctb := actb) (call := arn actb 2000 14) (τ0 := τ) (h0 := h) (t0 := t) (ρt := [0]) (νt := []) (τt := τ) (d := 14) (mi := 263) (Out := fun xx => ∃ (v : zv) (h3 : zh), xx = (.inl (some v), h3, t) ∧ hsl h3 52 32 = hsl h 52 32) aJ_ok (fun mk c' h1 _ => okC h1) (arn_ok aJ_ok 14 (fun mk c' h1 _ => okC h1)) 10000 [] 10 _ [] _ L _ _ _ _ [] h t hL hM0 hl0 trivial (fun o S' hm9 ρ' ν' τ' h' t' u1 u2 u3 hM' => by
      have hPx := List.all_eq_true.mp hR _ hm9
      simp only at hPx
      split at hPx
      · rename_i v hv9
        simp only [Bool.and_eq_true, Bool.not_eq_true'] at hPx
        refine ⟨fun q9 hq9 x hx => ?_, fun pc ls st ho => (by cases ho)⟩
        cases hq9
        rcases x with (_ | v9) | z
        · exact hx.elim
        · have ht : t' = t := by
            have h9 := hM'.2.2.2.2.2.2.2
            rw [Nat.eq_of_beq_eq_true hPx.2] at h9
            exact h9
          subst ht
          exact ⟨v9, h', rfl, hM'.2.2.2.2.1.2 52 52 32 (t52 hg) hPx.1⟩
        · exact hx.elim
      · cases hPx) (fun o ho => (by cases ho)) (aup_refl _) (aup_refl _) (aup_refl _)
    exact ⟨_, k1, v, h3, rfl, g1⟩
theorem fm_print {τ : List Nat} {h : zh} {t : Nat} (hg : hG τ h) : qP 15 263 [some (.inl (some 52)), none, none, none] h t (fun x => fqM h x.2.1) := by
  refine qP_of ?_
  refine y_same (i := .aload_n 0) (len := 1) (r := (0, 0, 0, 0)) (pc' := 1) (ls' := [some (.inl (some 52)), none, none, none]) (st' := [.inl (some 52)]) (by decide +kernel) (fun k q => by cases q) rfl ?_
  refine y_ic (c := 0) (len := 1) (r := (0, 0, 0, 0)) (by decide +kernel) (by decide) (fun y2492 hy2492 => ?_)
  refine y_put (j := 92) (lo := (-2147483648)) (hi := 2147483647) (len := 3) (r := (12, 0, 0, 1328)) (by decide +kernel) hg (t52 hg) at52 rfl rfl (by decide) rfl (qin_full _).1 (qin_full _).2 rfl (fun h2493 hg2493 hl2493 hs2493 ho2493 => ?_)
  have ho2493 : hO 52 0 h h2493 := ho2493
  have hs2493 : hsl h2493 52 0 = some (zi y2492) := hs2493
  refine y_same (i := .aload_n 0) (len := 1) (r := (0, 0, 0, 0)) (pc' := 6) (ls' := [some (.inl (some 52)), none, none, none]) (st' := [.inl (some 52)]) (by decide +kernel) (fun k q => by cases q) rfl ?_
  refine y_ic (c := 0) (len := 1) (r := (0, 0, 0, 0)) (by decide +kernel) (by decide) (fun y2494 hy2494 => ?_)
  refine y_cV (i := .invokevirtual 400) (len := 3) (r := (0, 238, 12, 1628)) (nL := 3) (k := 0) (n := 2) (hs := []) (args := [.inl (some 52), zi y2494]) (rest := []) (l0 := [some (.inl (some 52)), some (zi y2494), none]) (by decide +kernel) (Or.inr (Or.inl ⟨_, rfl⟩)) rfl rfl rfl rfl (Nat.le_of_ble_eq_true rfl) (z52 hg2493) rfl (qV_le (by decide) (pvs_1 hg2493 (by omega) (by omega))) (fun h2495 hR2495 => ?_)
  obtain ⟨⟨τ9, hg9⟩, f9, xz, hz, ez⟩ := hR2495
  refine qX_mn (zq_print hg9 (f9.trans hs2493) (by omega)) (fun x q => ?_)
  obtain ⟨v, h9, rfl, e9⟩ := q
  exact Or.inl ⟨_, e9.trans hz, by omega⟩
