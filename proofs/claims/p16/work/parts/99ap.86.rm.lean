/-! the reference's kept answers behind proof, sequent, partOf, overPart, print -/
theorem lz_pv {t T : Nat} {τ : List Nat} {h : zh} {cur : bsT} {hs : List bsT} (hg : hG τ h) (i : IV h T) (rc : RC h cur hs) (rm : RM h cur hs) (cz : CZ cur hs) (py : PY cur hs) (kc : KC cur hs) (jc : JCx h cur) (jm : JMx h cur) {xo : Int32} (exo : xo.toInt = 0) : ∀ h1, hG τ h1 → (∀ k j, (k ≠ 52 ∨ j ≠ 0) → hsl h1 k j = hsl h k j) → qV 13 238 [some (.inl (some 52)), some (zi xo), none] h1 t (fun h2 => (∃ τ2, hG τ2 h2) ∧ hsl h2 52 0 = hsl h1 52 0 ∧ JMx h2 cur) := by
  intro h1 g1 f
  have ok := okB_of hg rm py.1 kc.1 cz.1
  have jm1 : JMx h1 cur := JMx_kp ⟨fun j => f 373 j (by omega), fun j => f 377 j (by omega), fun k j hk => f (71 + k) j (by omega), f 52 26 (by omega), f 52 27 (by omega), f 52 29 (by omega), f 52 32 (by omega)⟩ (f 52 31 (by omega)) jm
  obtain ⟨x, ex, lx, ux⟩ := g_int (i := 31) (lo := 0) (hi := 1) g1 (t52 g1) at52 (by decide) rfl
  obtain ⟨z, ez, lz, uz⟩ := g_int (i := 32) (lo := 0) (hi := 1) g1 (t52 g1) at52 (by decide) rfl
  have b1 : bsM h1 55 cur := bsM_up rm.1 (fun j => f 55 j (by omega))
  have key : qV 13 238 [some (.inl (some 52)), some (zi xo), none] h1 t (fun h2 => JMx h2 cur) := by
    rcases (show (x.toInt = 0 ∨ (x.toInt = 1 ∧ z.toInt = 1)) ∨ (x.toInt = 1 ∧ z.toInt = 0) by omega) with q | ⟨q1, q2⟩
    · have np : kx_ h1 52 31 0 ∨ (kx_ h1 52 31 1 ∧ kx_ h1 52 32 1) := q.elim (fun q => Or.inl ⟨x, ex, q⟩) (fun q => Or.inr ⟨⟨x, ex, q.1⟩, ⟨z, ez, q.2⟩⟩)
      obtain ⟨h2, e, o⟩ := m_pwz (d := 4) (t := t) exo g1 b1 ok np
      exact ⟨h2, e, pv_JMx0 o⟩
    · obtain ⟨h2, e, rfl⟩ := qV_le (d' := 13) (by decide) (m_pwk (d := 4) (t := t) exo g1 ⟨x, ex, q1⟩ ⟨z, ez, q2⟩)
      exact ⟨_, e, jm1⟩
  obtain ⟨h2, e, j2⟩ := key
  obtain ⟨h3, e3, a, b, -⟩ := pvs_1 (t := t) g1 (show 0 ≤ xo.toInt by omega) (show xo.toInt ≤ 1 by omega)
  cases qE_det e e3
  exact ⟨h2, e, a, b, j2⟩
def wlZ (wl : aW) : Bool := wlY wl && !awc wl 52 31
def kJY (h h1 : zh) : Prop := ∀ c : bsT, JMx h c → JMx h1 c
theorem kJY_w {τ : List Nat} {h h1 : zh} {wl : aW} (hg : hG τ h) (F : aFr τ h wl h1) (w : wlZ wl = true) : kJY h h1 := fun c jm => by
  unfold wlZ at w
  rw [Bool.and_eq_true, Bool.not_eq_true'] at w
  exact JMx_kp (kpY_w hg F w.1) (F 52 52 31 (t52 hg) w.2) jm
noncomputable def zyS (nm : List (Int × Int)) : aS := ((0, 0) :: nm, [], [((52, 0, 0), .inl (0, 0))], [], [], 0)
noncomputable def zyR (mi pc : Nat) (ann : aA) (nm : List (Int × Int)) (ls : List (Option av)) : Bool := match alp actb ann [] 14 (arn actb 2000 14) mi 10000 [] pc ls [] (zyS nm) with
  | some L => L.all (fun x => match x.1 with
    | .inl (.inl (some _)) => wlZ x.2.2.2.2.2.1 && Nat.beq x.2.2.2.2.2.2 0
    | _ => false)
  | none => false
theorem zyk_proof : zyR 240 46 [(79, .inl ([(2, (-2147483648), 2147483647), (3, 0, 300)], [], [], [], [], 1, true))] [((-2147483648), 2147483647)] [some (.inr (.inl 52)), some (.inl (1, 0)), none, none] = true := by decide +kernel
theorem zy_proof {x1 : Int32} {τ : List Nat} {h : zh} {t : Nat} {z : Int32} (hg : hG τ h) (hz : hsl h 52 0 = some (zi z)) (ez : z.toInt = 0) : qX 14 240 46 [some (.inl (some 52)), some (zi x1), none, none] [] h t (fun x => ∃ (v : zv) (h1 : zh), x = (.inl (some v), h1, t) ∧ kJY h h1) := by
  have hR := zyk_proof
  unfold zyR at hR
  cases hL : alp actb [(79, .inl ([(2, (-2147483648), 2147483647), (3, 0, 300)], [], [], [], [], 1, true))] [] 14 (arn actb 2000 14) 240 10000 [] 46 [some (.inr (.inl 52)), some (.inl (1, 0)), none, none] [] (zyS [((-2147483648), 2147483647)]) with
  | none => rw [hL] at hR; cases hR
  | some L =>
    rw [hL] at hR
    simp only at hR
    have hM0 : aM aJ τ h t (zyS [((-2147483648), 2147483647)]) [0, x1.toInt] [] τ h t := by
      refine ⟨⟨rfl, rfl, fun j p9 hp9 => ?_⟩, ⟨rfl, fun j T hj => (by cases hj)⟩, fun f hf => ?_, fun f hf => (by cases hf), ⟨aup_refl _, fun _ _ _ _ _ => rfl⟩, hg.1, hg.2, rfl⟩
      · match j, hp9 with
        | 0, hp9 => cases hp9; exact ⟨0, rfl, Int.le_refl _, Int.le_refl _⟩
        | 1, hp9 => cases hp9; exact ⟨_, rfl, (qin_full x1).1, (qin_full x1).2⟩
        | j + 2, hp9 => cases hp9
      · have hf : f ∈ [((52, 0, 0), (.inl (0, 0) : av))] := hf
        simp only [List.mem_cons, List.not_mem_nil, or_false] at hf
        subst hf
        exact ⟨fun _ => t52 hg, 52, 0, (0 : Int), _, rfl, rfl, by simp, hz, z, 0, rfl, rfl, by omega⟩
    have hl0 : alM [0, x1.toInt] [] [some (.inr (.inl 52)), some (.inl (1, 0)), none, none] [some (.inl (some 52)), some (zi x1), none, none] := by
      refine ⟨rfl, fun j b hb => ?_, fun j v hv hn => ?_⟩
      · match j, hb with
      | 0, hb => cases hb; exact ⟨_, rfl, 52, rfl, rfl⟩
      | 1, hb => cases hb; exact ⟨_, rfl, x1, x1.toInt, rfl, rfl, by omega⟩
      | j + 2, hb =>
        have h9 := List.eq_of_mem_replicate (n := 2) (a := (none : Option av)) (List.mem_of_getElem? (show (List.replicate 2 (none : Option av))[j]? = some (some b) from hb))
        cases h9
      · match j, hv, hn with
      | 0, _, hn => cases hn
      | 1, _, hn => cases hn
      | j + 2, hv, _ =>
        have h9 := List.eq_of_mem_replicate (n := 2) (a := (none : Option zv)) (List.mem_of_getElem? (show (List.replicate 2 (none : Option zv))[j]? = some (some v) from hv))
        cases h9
    obtain ⟨xx, k1, v, h3, rfl, g1⟩ := alp_ok (ann := [(79, .inl ([(2, (-2147483648), 2147483647), (3, 0, 300)], [], [], [], [], 1, true))]) (stops := []) (ctb := actb) (call := arn actb 2000 14) (τ0 := τ) (h0 := h) (t0 := t) (ρt := [0, x1.toInt]) (νt := []) (τt := τ) (d := 14) (mi := 240) (Out := fun xx => ∃ (v : zv) (h3 : zh), xx = (.inl (some v), h3, t) ∧ kJY h h3) aJ_ok (fun mk c' h1 _ => okC h1) (arn_ok aJ_ok 14 (fun mk c' h1 _ => okC h1)) 10000 [] 46 _ [] _ L _ _ _ _ [] h t hL hM0 hl0 trivial (fun o S' hm9 ρ' ν' τ' h' t' u1 u2 u3 hM' => by
      have hPx := List.all_eq_true.mp hR _ hm9
      simp only at hPx
      split at hPx
      · rename_i v hv9
        simp only [Bool.and_eq_true] at hPx
        refine ⟨fun q9 hq9 x hx => ?_, fun pc ls st ho => (by cases ho)⟩
        cases hq9
        rcases x with (_ | v9) | z
        · exact hx.elim
        · have ht : t' = t := by
            have h9 := hM'.2.2.2.2.2.2.2
            rw [Nat.eq_of_beq_eq_true hPx.2] at h9
            exact h9
          subst ht
          exact ⟨v9, h', rfl, kJY_w hg hM'.2.2.2.2.1.2 hPx.1⟩
        · exact hx.elim
      · cases hPx) (fun o ho => (by cases ho)) (aup_refl _) (aup_refl _) (aup_refl _)
    exact ⟨_, k1, v, h3, rfl, g1⟩
theorem fz_proof {x1 : Int32} {t T : Nat} {τ : List Nat} {h : zh} {cur : bsT} {hs : List bsT} (hg : hG τ h) (i : IV h T) (rc : RC h cur hs) (rm : RM h cur hs) (cz : CZ cur hs) (py : PY cur hs) (kc : KC cur hs) (jc : JCx h cur) (jm : JMx h cur) : qP 15 240 [some (.inl (some 52)), some (zi x1), none, none] h t (fun x => JMx x.2.1 cur) := by
  refine qP_of ?_
  rcases (show (0 ≤ x1.toInt ∧ x1.toInt ≤ 4) ∨ (10 ≤ x1.toInt ∧ x1.toInt ≤ 19) ∨ (¬ (0 ≤ x1.toInt ∧ x1.toInt ≤ 4) ∧ ¬ (10 ≤ x1.toInt ∧ x1.toInt ≤ 19)) by omega) with hx | hx | hx
  ·
    refine y_same (i := .aload_n 0) (len := 1) (r := (0, 0, 0, 0)) (pc' := 1) (ls' := [some (.inl (some 52)), some (zi x1), none, none]) (st' := [.inl (some 52)]) (by decide +kernel) (fun k q => by cases q) rfl ?_
    refine y_ic (c := 0) (len := 1) (r := (0, 0, 0, 0)) (by decide +kernel) (by decide) (fun y2446 hy2446 => ?_)
    refine y_put (j := 92) (lo := (-2147483648)) (hi := 2147483647) (len := 3) (r := (12, 0, 0, 1328)) (by decide +kernel) hg (t52 hg) at52 rfl rfl (by decide) rfl (qin_full _).1 (qin_full _).2 rfl (fun h2447 hg2447 hl2447 hs2447 ho2447 => ?_)
    have ho2447 : hO 52 0 h h2447 := ho2447
    have hs2447 : hsl h2447 52 0 = some (zi y2446) := hs2447
    refine y_same (i := .aload_n 0) (len := 1) (r := (0, 0, 0, 0)) (pc' := 6) (ls' := [some (.inl (some 52)), some (zi x1), none, none]) (st' := [.inl (some 52)]) (by decide +kernel) (fun k q => by cases q) rfl ?_
    refine y_same (i := .iload_n 1) (len := 1) (r := (0, 0, 0, 0)) (pc' := 7) (ls' := [some (.inl (some 52)), some (zi x1), none, none]) (st' := [zi x1, .inl (some 52)]) (by decide +kernel) (fun k q => by cases q) rfl ?_
    refine y_ic (c := 0) (len := 1) (r := (0, 0, 0, 0)) (by decide +kernel) (by decide) (fun y2448 hy2448 => ?_)
    refine y_ic (c := 4) (len := 1) (r := (0, 0, 0, 0)) (by decide +kernel) (by decide) (fun y2449 hy2449 => ?_)
    refine y_cI (i := .invokestatic 200) (len := 3) (r := (1, 162, 12, 1486)) (nL := 3) (k := 2) (n := 3) (hs := []) (args := [zi x1, zi y2448, zi y2449]) (rest := [.inl (some 52)]) (l0 := [some (zi x1), some (zi y2448), some (zi y2449)]) (by decide +kernel) (Or.inl ⟨_, rfl⟩) rfl rfl rfl rfl (Nat.le_of_ble_eq_true rfl) rfl rfl (qI_le (by decide) (m_in (d := 0) (by omega) (by omega))) (fun y2450 qy2450 hRy2450 => ?_)
    obtain ⟨rfl, hy2450⟩ := hRy2450
    refine y_iT (c := .ne) (off := 18) (pc' := 30) (len := 3) (r := (0, 0, 0, 0)) (by decide +kernel) (acmpT (c := .ne) (by show ¬ (_ = _); omega)) (by decide +kernel) ?_
    refine y_ic (c := 0) (len := 1) (r := (0, 0, 0, 0)) (by decide +kernel) (by decide) (fun y2451 hy2451 => ?_)
    refine y_ic (c := 1) (len := 1) (r := (0, 0, 0, 0)) (by decide +kernel) (by decide) (fun y2452 hy2452 => ?_)
    refine y_ic (c := 1) (len := 1) (r := (0, 0, 0, 0)) (by decide +kernel) (by decide) (fun y2453 hy2453 => ?_)
    refine y_cI (i := .invokevirtual 204) (len := 3) (r := (0, 161, 12, 1489)) (nL := 4) (k := 2) (n := 4) (hs := []) (args := [.inl (some 52), zi y2451, zi y2452, zi y2453]) (rest := []) (l0 := [some (.inl (some 52)), some (zi y2451), some (zi y2452), some (zi y2453)]) (by decide +kernel) (Or.inr (Or.inl ⟨_, rfl⟩)) rfl rfl rfl rfl (Nat.le_of_ble_eq_true rfl) (z52 hg2447) rfl (qI_le (by decide) (m_bad (d := 0) hg2447 (by omega) hs2447 (by omega))) (fun y2454 qy2454 hRy2454 => ?_)
    obtain ⟨rfl, hy2454⟩ := hRy2454
    refine y_iT (c := .eq) (off := 5) (pc' := 41) (len := 3) (r := (0, 0, 0, 0)) (by decide +kernel) (acmpT (c := .eq) (by show _ = _; omega)) (by decide +kernel) ?_
    refine y_same (i := .aload_n 0) (len := 1) (r := (0, 0, 0, 0)) (pc' := 42) (ls' := [some (.inl (some 52)), some (zi x1), none, none]) (st' := [.inl (some 52)]) (by decide +kernel) (fun k q => by cases q) rfl ?_
    refine y_ic (c := 0) (len := 1) (r := (0, 0, 0, 0)) (by decide +kernel) (by decide) (fun y2455 hy2455 => ?_)
    refine y_cV (i := .invokevirtual 400) (len := 3) (r := (0, 238, 12, 1628)) (nL := 3) (k := 0) (n := 2) (hs := []) (args := [.inl (some 52), zi y2455]) (rest := []) (l0 := [some (.inl (some 52)), some (zi y2455), none]) (by decide +kernel) (Or.inr (Or.inl ⟨_, rfl⟩)) rfl rfl rfl rfl (Nat.le_of_ble_eq_true rfl) (z52 hg2447) rfl (qV_le (by decide) (lz_pv hg i rc rm cz py kc jc jm (by omega) h2447 hg2447 (fun k j hC => (ho2447 k j (by omega))))) (fun h2456 hR2456 => ?_)
    obtain ⟨⟨τ2456, hg2456⟩, f2456, jm2456⟩ := hR2456
    refine qX_mn (zy_proof hg2456 (f2456.trans hs2447) (by omega)) (fun x q => ?_)
    obtain ⟨v, h9, rfl, k9⟩ := q
    exact k9 cur jm2456
  ·
    refine y_same (i := .aload_n 0) (len := 1) (r := (0, 0, 0, 0)) (pc' := 1) (ls' := [some (.inl (some 52)), some (zi x1), none, none]) (st' := [.inl (some 52)]) (by decide +kernel) (fun k q => by cases q) rfl ?_
    refine y_ic (c := 0) (len := 1) (r := (0, 0, 0, 0)) (by decide +kernel) (by decide) (fun y2457 hy2457 => ?_)
    refine y_put (j := 92) (lo := (-2147483648)) (hi := 2147483647) (len := 3) (r := (12, 0, 0, 1328)) (by decide +kernel) hg (t52 hg) at52 rfl rfl (by decide) rfl (qin_full _).1 (qin_full _).2 rfl (fun h2458 hg2458 hl2458 hs2458 ho2458 => ?_)
    have ho2458 : hO 52 0 h h2458 := ho2458
    have hs2458 : hsl h2458 52 0 = some (zi y2457) := hs2458
    refine y_same (i := .aload_n 0) (len := 1) (r := (0, 0, 0, 0)) (pc' := 6) (ls' := [some (.inl (some 52)), some (zi x1), none, none]) (st' := [.inl (some 52)]) (by decide +kernel) (fun k q => by cases q) rfl ?_
    refine y_same (i := .iload_n 1) (len := 1) (r := (0, 0, 0, 0)) (pc' := 7) (ls' := [some (.inl (some 52)), some (zi x1), none, none]) (st' := [zi x1, .inl (some 52)]) (by decide +kernel) (fun k q => by cases q) rfl ?_
    refine y_ic (c := 0) (len := 1) (r := (0, 0, 0, 0)) (by decide +kernel) (by decide) (fun y2459 hy2459 => ?_)
    refine y_ic (c := 4) (len := 1) (r := (0, 0, 0, 0)) (by decide +kernel) (by decide) (fun y2460 hy2460 => ?_)
    refine y_cI (i := .invokestatic 200) (len := 3) (r := (1, 162, 12, 1486)) (nL := 3) (k := 2) (n := 3) (hs := []) (args := [zi x1, zi y2459, zi y2460]) (rest := [.inl (some 52)]) (l0 := [some (zi x1), some (zi y2459), some (zi y2460)]) (by decide +kernel) (Or.inl ⟨_, rfl⟩) rfl rfl rfl rfl (Nat.le_of_ble_eq_true rfl) rfl rfl (qI_le (by decide) (m_in0 (d := 0) (by omega))) (fun y2461 qy2461 hRy2461 => ?_)
    obtain ⟨rfl, hy2461⟩ := hRy2461
    refine y_iF (c := .ne) (off := 18) (len := 3) (r := (0, 0, 0, 0)) (by decide +kernel) (acmpF (c := .ne) (by show _ = _; omega)) ?_
    refine y_same (i := .iload_n 1) (len := 1) (r := (0, 0, 0, 0)) (pc' := 16) (ls' := [some (.inl (some 52)), some (zi x1), none, none]) (st' := [zi x1, .inl (some 52)]) (by decide +kernel) (fun k q => by cases q) rfl ?_
    refine y_bi (c := 10) (len := 2) (r := (0, 0, 0, 0)) (by decide +kernel) (by decide) (fun y2462 hy2462 => ?_)
    refine y_bi (c := 19) (len := 2) (r := (0, 0, 0, 0)) (by decide +kernel) (by decide) (fun y2463 hy2463 => ?_)
    refine y_cI (i := .invokestatic 200) (len := 3) (r := (1, 162, 12, 1486)) (nL := 3) (k := 2) (n := 3) (hs := []) (args := [zi x1, zi y2462, zi y2463]) (rest := [.inl (some 52)]) (l0 := [some (zi x1), some (zi y2462), some (zi y2463)]) (by decide +kernel) (Or.inl ⟨_, rfl⟩) rfl rfl rfl rfl (Nat.le_of_ble_eq_true rfl) rfl rfl (qI_le (by decide) (m_in (d := 0) (by omega) (by omega))) (fun y2464 qy2464 hRy2464 => ?_)
    obtain ⟨rfl, hy2464⟩ := hRy2464
    refine y_iT (c := .ne) (off := 7) (pc' := 30) (len := 3) (r := (0, 0, 0, 0)) (by decide +kernel) (acmpT (c := .ne) (by show ¬ (_ = _); omega)) (by decide +kernel) ?_
    refine y_ic (c := 0) (len := 1) (r := (0, 0, 0, 0)) (by decide +kernel) (by decide) (fun y2465 hy2465 => ?_)
    refine y_ic (c := 1) (len := 1) (r := (0, 0, 0, 0)) (by decide +kernel) (by decide) (fun y2466 hy2466 => ?_)
    refine y_ic (c := 1) (len := 1) (r := (0, 0, 0, 0)) (by decide +kernel) (by decide) (fun y2467 hy2467 => ?_)
    refine y_cI (i := .invokevirtual 204) (len := 3) (r := (0, 161, 12, 1489)) (nL := 4) (k := 2) (n := 4) (hs := []) (args := [.inl (some 52), zi y2465, zi y2466, zi y2467]) (rest := []) (l0 := [some (.inl (some 52)), some (zi y2465), some (zi y2466), some (zi y2467)]) (by decide +kernel) (Or.inr (Or.inl ⟨_, rfl⟩)) rfl rfl rfl rfl (Nat.le_of_ble_eq_true rfl) (z52 hg2458) rfl (qI_le (by decide) (m_bad (d := 0) hg2458 (by omega) hs2458 (by omega))) (fun y2468 qy2468 hRy2468 => ?_)
    obtain ⟨rfl, hy2468⟩ := hRy2468
    refine y_iT (c := .eq) (off := 5) (pc' := 41) (len := 3) (r := (0, 0, 0, 0)) (by decide +kernel) (acmpT (c := .eq) (by show _ = _; omega)) (by decide +kernel) ?_
    refine y_same (i := .aload_n 0) (len := 1) (r := (0, 0, 0, 0)) (pc' := 42) (ls' := [some (.inl (some 52)), some (zi x1), none, none]) (st' := [.inl (some 52)]) (by decide +kernel) (fun k q => by cases q) rfl ?_
    refine y_ic (c := 0) (len := 1) (r := (0, 0, 0, 0)) (by decide +kernel) (by decide) (fun y2469 hy2469 => ?_)
    refine y_cV (i := .invokevirtual 400) (len := 3) (r := (0, 238, 12, 1628)) (nL := 3) (k := 0) (n := 2) (hs := []) (args := [.inl (some 52), zi y2469]) (rest := []) (l0 := [some (.inl (some 52)), some (zi y2469), none]) (by decide +kernel) (Or.inr (Or.inl ⟨_, rfl⟩)) rfl rfl rfl rfl (Nat.le_of_ble_eq_true rfl) (z52 hg2458) rfl (qV_le (by decide) (lz_pv hg i rc rm cz py kc jc jm (by omega) h2458 hg2458 (fun k j hC => (ho2458 k j (by omega))))) (fun h2470 hR2470 => ?_)
    obtain ⟨⟨τ2470, hg2470⟩, f2470, jm2470⟩ := hR2470
    refine qX_mn (zy_proof hg2470 (f2470.trans hs2458) (by omega)) (fun x q => ?_)
    obtain ⟨v, h9, rfl, k9⟩ := q
    exact k9 cur jm2470
  ·
    refine y_same (i := .aload_n 0) (len := 1) (r := (0, 0, 0, 0)) (pc' := 1) (ls' := [some (.inl (some 52)), some (zi x1), none, none]) (st' := [.inl (some 52)]) (by decide +kernel) (fun k q => by cases q) rfl ?_
    refine y_ic (c := 0) (len := 1) (r := (0, 0, 0, 0)) (by decide +kernel) (by decide) (fun y2471 hy2471 => ?_)
    refine y_put (j := 92) (lo := (-2147483648)) (hi := 2147483647) (len := 3) (r := (12, 0, 0, 1328)) (by decide +kernel) hg (t52 hg) at52 rfl rfl (by decide) rfl (qin_full _).1 (qin_full _).2 rfl (fun h2472 hg2472 hl2472 hs2472 ho2472 => ?_)
    have ho2472 : hO 52 0 h h2472 := ho2472
    have hs2472 : hsl h2472 52 0 = some (zi y2471) := hs2472
    refine y_same (i := .aload_n 0) (len := 1) (r := (0, 0, 0, 0)) (pc' := 6) (ls' := [some (.inl (some 52)), some (zi x1), none, none]) (st' := [.inl (some 52)]) (by decide +kernel) (fun k q => by cases q) rfl ?_
    refine y_same (i := .iload_n 1) (len := 1) (r := (0, 0, 0, 0)) (pc' := 7) (ls' := [some (.inl (some 52)), some (zi x1), none, none]) (st' := [zi x1, .inl (some 52)]) (by decide +kernel) (fun k q => by cases q) rfl ?_
    refine y_ic (c := 0) (len := 1) (r := (0, 0, 0, 0)) (by decide +kernel) (by decide) (fun y2473 hy2473 => ?_)
    refine y_ic (c := 4) (len := 1) (r := (0, 0, 0, 0)) (by decide +kernel) (by decide) (fun y2474 hy2474 => ?_)
    refine y_cI (i := .invokestatic 200) (len := 3) (r := (1, 162, 12, 1486)) (nL := 3) (k := 2) (n := 3) (hs := []) (args := [zi x1, zi y2473, zi y2474]) (rest := [.inl (some 52)]) (l0 := [some (zi x1), some (zi y2473), some (zi y2474)]) (by decide +kernel) (Or.inl ⟨_, rfl⟩) rfl rfl rfl rfl (Nat.le_of_ble_eq_true rfl) rfl rfl (qI_le (by decide) (m_in0 (d := 0) (by omega))) (fun y2475 qy2475 hRy2475 => ?_)
    obtain ⟨rfl, hy2475⟩ := hRy2475
    refine y_iF (c := .ne) (off := 18) (len := 3) (r := (0, 0, 0, 0)) (by decide +kernel) (acmpF (c := .ne) (by show _ = _; omega)) ?_
    refine y_same (i := .iload_n 1) (len := 1) (r := (0, 0, 0, 0)) (pc' := 16) (ls' := [some (.inl (some 52)), some (zi x1), none, none]) (st' := [zi x1, .inl (some 52)]) (by decide +kernel) (fun k q => by cases q) rfl ?_
    refine y_bi (c := 10) (len := 2) (r := (0, 0, 0, 0)) (by decide +kernel) (by decide) (fun y2476 hy2476 => ?_)
    refine y_bi (c := 19) (len := 2) (r := (0, 0, 0, 0)) (by decide +kernel) (by decide) (fun y2477 hy2477 => ?_)
    refine y_cI (i := .invokestatic 200) (len := 3) (r := (1, 162, 12, 1486)) (nL := 3) (k := 2) (n := 3) (hs := []) (args := [zi x1, zi y2476, zi y2477]) (rest := [.inl (some 52)]) (l0 := [some (zi x1), some (zi y2476), some (zi y2477)]) (by decide +kernel) (Or.inl ⟨_, rfl⟩) rfl rfl rfl rfl (Nat.le_of_ble_eq_true rfl) rfl rfl (qI_le (by decide) (m_in0 (d := 0) (by omega))) (fun y2478 qy2478 hRy2478 => ?_)
    obtain ⟨rfl, hy2478⟩ := hRy2478
    refine y_iF (c := .ne) (off := 7) (len := 3) (r := (0, 0, 0, 0)) (by decide +kernel) (acmpF (c := .ne) (by show _ = _; omega)) ?_
    refine y_ic (c := 1) (len := 1) (r := (0, 0, 0, 0)) (by decide +kernel) (by decide) (fun y2479 hy2479 => ?_)
    refine y_goto (off := 4) (pc' := 31) (len := 3) (r := (0, 0, 0, 0)) (by decide +kernel) (by decide +kernel) ?_
    refine y_ic (c := 1) (len := 1) (r := (0, 0, 0, 0)) (by decide +kernel) (by decide) (fun y2480 hy2480 => ?_)
    refine y_ic (c := 1) (len := 1) (r := (0, 0, 0, 0)) (by decide +kernel) (by decide) (fun y2481 hy2481 => ?_)
    refine y_cI (i := .invokevirtual 204) (len := 3) (r := (0, 161, 12, 1489)) (nL := 4) (k := 2) (n := 4) (hs := []) (args := [.inl (some 52), zi y2479, zi y2480, zi y2481]) (rest := []) (l0 := [some (.inl (some 52)), some (zi y2479), some (zi y2480), some (zi y2481)]) (by decide +kernel) (Or.inr (Or.inl ⟨_, rfl⟩)) rfl rfl rfl rfl (Nat.le_of_ble_eq_true rfl) (z52 hg2472) rfl (qI_le (by decide) (m_bad1 (d := 0) (e := 1) hg2472 (by omega) (by omega) (by omega) (by omega) hs2472 (by omega))) (fun y2482 h2482 hRy2482 => ?_)
    obtain ⟨hg2482, hy2482, ⟨z2482, hz2482, ez2482⟩, F2482⟩ := hRy2482
    refine y_iF (c := .eq) (off := 5) (len := 3) (r := (0, 0, 0, 0)) (by decide +kernel) (acmpF (c := .eq) (by show ¬ (_ = _); omega)) ?_
    refine y_ic (c := 0) (len := 1) (r := (0, 0, 0, 0)) (by decide +kernel) (by decide) (fun y2483 hy2483 => ?_)
    refine qX_mn (P := rI (fun _ h1 => h1 = h2482) t) ?_ (fun x q => ?_)
    ·
      refine y_rI (len := 1) (r := (0, 0, 0, 0)) (nL := 4) (k := 1) (n9 := 2) (hs := []) (by decide +kernel) rfl rfl ?_
      rfl
    · obtain ⟨y9, h9, rfl, rfl⟩ := q
      exact JMx_kp ⟨fun j => ((F2482 373 j (by omega)).trans (ho2472 373 j (by omega))), fun j => ((F2482 377 j (by omega)).trans (ho2472 377 j (by omega))), fun k j hk => ((F2482 (71 + k) j (by omega)).trans (ho2472 (71 + k) j (by omega))), ((F2482 52 26 (by omega)).trans (ho2472 52 26 (by omega))), ((F2482 52 27 (by omega)).trans (ho2472 52 27 (by omega))), ((F2482 52 29 (by omega)).trans (ho2472 52 29 (by omega))), ((F2482 52 32 (by omega)).trans (ho2472 52 32 (by omega)))⟩ ((F2482 52 31 (by omega)).trans (ho2472 52 31 (by omega))) jm
theorem zyk_sequent : zyR 241 10 [] [((-2147483648), 2147483647), ((-2147483648), 2147483647)] [some (.inr (.inl 52)), some (.inl (1, 0)), some (.inl (2, 0))] = true := by decide +kernel
theorem zy_sequent {x1 x2 : Int32} {τ : List Nat} {h : zh} {t : Nat} {z : Int32} (hg : hG τ h) (hz : hsl h 52 0 = some (zi z)) (ez : z.toInt = 0) : qX 14 241 10 [some (.inl (some 52)), some (zi x1), some (zi x2)] [] h t (fun x => ∃ (v : zv) (h1 : zh), x = (.inl (some v), h1, t) ∧ kJY h h1) := by
  have hR := zyk_sequent
  unfold zyR at hR
  cases hL : alp actb [] [] 14 (arn actb 2000 14) 241 10000 [] 10 [some (.inr (.inl 52)), some (.inl (1, 0)), some (.inl (2, 0))] [] (zyS [((-2147483648), 2147483647), ((-2147483648), 2147483647)]) with
  | none => rw [hL] at hR; cases hR
  | some L =>
    rw [hL] at hR
    simp only at hR
    have hM0 : aM aJ τ h t (zyS [((-2147483648), 2147483647), ((-2147483648), 2147483647)]) [0, x1.toInt, x2.toInt] [] τ h t := by
      refine ⟨⟨rfl, rfl, fun j p9 hp9 => ?_⟩, ⟨rfl, fun j T hj => (by cases hj)⟩, fun f hf => ?_, fun f hf => (by cases hf), ⟨aup_refl _, fun _ _ _ _ _ => rfl⟩, hg.1, hg.2, rfl⟩
      · match j, hp9 with
        | 0, hp9 => cases hp9; exact ⟨0, rfl, Int.le_refl _, Int.le_refl _⟩
        | 1, hp9 => cases hp9; exact ⟨_, rfl, (qin_full x1).1, (qin_full x1).2⟩
        | 2, hp9 => cases hp9; exact ⟨_, rfl, (qin_full x2).1, (qin_full x2).2⟩
        | j + 3, hp9 => cases hp9
      · have hf : f ∈ [((52, 0, 0), (.inl (0, 0) : av))] := hf
        simp only [List.mem_cons, List.not_mem_nil, or_false] at hf
        subst hf
        exact ⟨fun _ => t52 hg, 52, 0, (0 : Int), _, rfl, rfl, by simp, hz, z, 0, rfl, rfl, by omega⟩
    have hl0 : alM [0, x1.toInt, x2.toInt] [] [some (.inr (.inl 52)), some (.inl (1, 0)), some (.inl (2, 0))] [some (.inl (some 52)), some (zi x1), some (zi x2)] := by
      refine ⟨rfl, fun j b hb => ?_, fun j v hv hn => ?_⟩
      · match j, hb with
      | 0, hb => cases hb; exact ⟨_, rfl, 52, rfl, rfl⟩
      | 1, hb => cases hb; exact ⟨_, rfl, x1, x1.toInt, rfl, rfl, by omega⟩
      | 2, hb => cases hb; exact ⟨_, rfl, x2, x2.toInt, rfl, rfl, by omega⟩
      | j + 3, hb => cases hb
      · match j, hv, hn with
      | 0, _, hn => cases hn
      | 1, _, hn => cases hn
      | 2, _, hn => cases hn
      | j + 3, hv, _ => cases hv
    obtain ⟨xx, k1, v, h3, rfl, g1⟩ := alp_ok (ann := []) (stops := []) (ctb := actb) (call := arn actb 2000 14) (τ0 := τ) (h0 := h) (t0 := t) (ρt := [0, x1.toInt, x2.toInt]) (νt := []) (τt := τ) (d := 14) (mi := 241) (Out := fun xx => ∃ (v : zv) (h3 : zh), xx = (.inl (some v), h3, t) ∧ kJY h h3) aJ_ok (fun mk c' h1 _ => okC h1) (arn_ok aJ_ok 14 (fun mk c' h1 _ => okC h1)) 10000 [] 10 _ [] _ L _ _ _ _ [] h t hL hM0 hl0 trivial (fun o S' hm9 ρ' ν' τ' h' t' u1 u2 u3 hM' => by
      have hPx := List.all_eq_true.mp hR _ hm9
      simp only at hPx
      split at hPx
      · rename_i v hv9
        simp only [Bool.and_eq_true] at hPx
        refine ⟨fun q9 hq9 x hx => ?_, fun pc ls st ho => (by cases ho)⟩
        cases hq9
        rcases x with (_ | v9) | z
        · exact hx.elim
        · have ht : t' = t := by
            have h9 := hM'.2.2.2.2.2.2.2
            rw [Nat.eq_of_beq_eq_true hPx.2] at h9
            exact h9
          subst ht
          exact ⟨v9, h', rfl, kJY_w hg hM'.2.2.2.2.1.2 hPx.1⟩
        · exact hx.elim
      · cases hPx) (fun o ho => (by cases ho)) (aup_refl _) (aup_refl _) (aup_refl _)
    exact ⟨_, k1, v, h3, rfl, g1⟩
theorem fz_sequent {x1 x2 : Int32} {t T : Nat} {τ : List Nat} {h : zh} {cur : bsT} {hs : List bsT} (hg : hG τ h) (i : IV h T) (rc : RC h cur hs) (rm : RM h cur hs) (cz : CZ cur hs) (py : PY cur hs) (kc : KC cur hs) (jc : JCx h cur) (jm : JMx h cur) : qP 15 241 [some (.inl (some 52)), some (zi x1), some (zi x2)] h t (fun x => JMx x.2.1 cur) := by
  refine qP_of ?_
  refine y_same (i := .aload_n 0) (len := 1) (r := (0, 0, 0, 0)) (pc' := 1) (ls' := [some (.inl (some 52)), some (zi x1), some (zi x2)]) (st' := [.inl (some 52)]) (by decide +kernel) (fun k q => by cases q) rfl ?_
  refine y_ic (c := 0) (len := 1) (r := (0, 0, 0, 0)) (by decide +kernel) (by decide) (fun y2484 hy2484 => ?_)
  refine y_put (j := 92) (lo := (-2147483648)) (hi := 2147483647) (len := 3) (r := (12, 0, 0, 1328)) (by decide +kernel) hg (t52 hg) at52 rfl rfl (by decide) rfl (qin_full _).1 (qin_full _).2 rfl (fun h2485 hg2485 hl2485 hs2485 ho2485 => ?_)
  have ho2485 : hO 52 0 h h2485 := ho2485
  have hs2485 : hsl h2485 52 0 = some (zi y2484) := hs2485
  refine y_same (i := .aload_n 0) (len := 1) (r := (0, 0, 0, 0)) (pc' := 6) (ls' := [some (.inl (some 52)), some (zi x1), some (zi x2)]) (st' := [.inl (some 52)]) (by decide +kernel) (fun k q => by cases q) rfl ?_
  refine y_ic (c := 0) (len := 1) (r := (0, 0, 0, 0)) (by decide +kernel) (by decide) (fun y2486 hy2486 => ?_)
  refine y_cV (i := .invokevirtual 400) (len := 3) (r := (0, 238, 12, 1628)) (nL := 3) (k := 0) (n := 2) (hs := []) (args := [.inl (some 52), zi y2486]) (rest := []) (l0 := [some (.inl (some 52)), some (zi y2486), none]) (by decide +kernel) (Or.inr (Or.inl ⟨_, rfl⟩)) rfl rfl rfl rfl (Nat.le_of_ble_eq_true rfl) (z52 hg2485) rfl (qV_le (by decide) (lz_pv hg i rc rm cz py kc jc jm (by omega) h2485 hg2485 (fun k j hC => (ho2485 k j (by omega))))) (fun h2487 hR2487 => ?_)
  obtain ⟨⟨τ2487, hg2487⟩, f2487, jm2487⟩ := hR2487
  refine qX_mn (zy_sequent hg2487 (f2487.trans hs2485) (by omega)) (fun x q => ?_)
  obtain ⟨v, h9, rfl, k9⟩ := q
  exact k9 cur jm2487
theorem zyk_partOf : zyR 242 10 [] [((-2147483648), 2147483647), ((-2147483648), 2147483647), ((-2147483648), 2147483647), ((-2147483648), 2147483647)] [some (.inr (.inl 52)), some (.inl (1, 0)), some (.inl (2, 0)), some (.inl (3, 0)), some (.inl (4, 0))] = true := by decide +kernel
theorem zy_partOf {x1 x2 x3 x4 : Int32} {τ : List Nat} {h : zh} {t : Nat} {z : Int32} (hg : hG τ h) (hz : hsl h 52 0 = some (zi z)) (ez : z.toInt = 0) : qX 14 242 10 [some (.inl (some 52)), some (zi x1), some (zi x2), some (zi x3), some (zi x4)] [] h t (fun x => ∃ (v : zv) (h1 : zh), x = (.inl (some v), h1, t) ∧ kJY h h1) := by
  have hR := zyk_partOf
  unfold zyR at hR
  cases hL : alp actb [] [] 14 (arn actb 2000 14) 242 10000 [] 10 [some (.inr (.inl 52)), some (.inl (1, 0)), some (.inl (2, 0)), some (.inl (3, 0)), some (.inl (4, 0))] [] (zyS [((-2147483648), 2147483647), ((-2147483648), 2147483647), ((-2147483648), 2147483647), ((-2147483648), 2147483647)]) with
  | none => rw [hL] at hR; cases hR
  | some L =>
    rw [hL] at hR
    simp only at hR
    have hM0 : aM aJ τ h t (zyS [((-2147483648), 2147483647), ((-2147483648), 2147483647), ((-2147483648), 2147483647), ((-2147483648), 2147483647)]) [0, x1.toInt, x2.toInt, x3.toInt, x4.toInt] [] τ h t := by
      refine ⟨⟨rfl, rfl, fun j p9 hp9 => ?_⟩, ⟨rfl, fun j T hj => (by cases hj)⟩, fun f hf => ?_, fun f hf => (by cases hf), ⟨aup_refl _, fun _ _ _ _ _ => rfl⟩, hg.1, hg.2, rfl⟩
      · match j, hp9 with
        | 0, hp9 => cases hp9; exact ⟨0, rfl, Int.le_refl _, Int.le_refl _⟩
        | 1, hp9 => cases hp9; exact ⟨_, rfl, (qin_full x1).1, (qin_full x1).2⟩
        | 2, hp9 => cases hp9; exact ⟨_, rfl, (qin_full x2).1, (qin_full x2).2⟩
        | 3, hp9 => cases hp9; exact ⟨_, rfl, (qin_full x3).1, (qin_full x3).2⟩
        | 4, hp9 => cases hp9; exact ⟨_, rfl, (qin_full x4).1, (qin_full x4).2⟩
        | j + 5, hp9 => cases hp9
      · have hf : f ∈ [((52, 0, 0), (.inl (0, 0) : av))] := hf
        simp only [List.mem_cons, List.not_mem_nil, or_false] at hf
        subst hf
        exact ⟨fun _ => t52 hg, 52, 0, (0 : Int), _, rfl, rfl, by simp, hz, z, 0, rfl, rfl, by omega⟩
    have hl0 : alM [0, x1.toInt, x2.toInt, x3.toInt, x4.toInt] [] [some (.inr (.inl 52)), some (.inl (1, 0)), some (.inl (2, 0)), some (.inl (3, 0)), some (.inl (4, 0))] [some (.inl (some 52)), some (zi x1), some (zi x2), some (zi x3), some (zi x4)] := by
      refine ⟨rfl, fun j b hb => ?_, fun j v hv hn => ?_⟩
      · match j, hb with
      | 0, hb => cases hb; exact ⟨_, rfl, 52, rfl, rfl⟩
      | 1, hb => cases hb; exact ⟨_, rfl, x1, x1.toInt, rfl, rfl, by omega⟩
      | 2, hb => cases hb; exact ⟨_, rfl, x2, x2.toInt, rfl, rfl, by omega⟩
      | 3, hb => cases hb; exact ⟨_, rfl, x3, x3.toInt, rfl, rfl, by omega⟩
      | 4, hb => cases hb; exact ⟨_, rfl, x4, x4.toInt, rfl, rfl, by omega⟩
      | j + 5, hb => cases hb
      · match j, hv, hn with
      | 0, _, hn => cases hn
      | 1, _, hn => cases hn
      | 2, _, hn => cases hn
      | 3, _, hn => cases hn
      | 4, _, hn => cases hn
      | j + 5, hv, _ => cases hv
    obtain ⟨xx, k1, v, h3, rfl, g1⟩ := alp_ok (ann := []) (stops := []) (ctb := actb) (call := arn actb 2000 14) (τ0 := τ) (h0 := h) (t0 := t) (ρt := [0, x1.toInt, x2.toInt, x3.toInt, x4.toInt]) (νt := []) (τt := τ) (d := 14) (mi := 242) (Out := fun xx => ∃ (v : zv) (h3 : zh), xx = (.inl (some v), h3, t) ∧ kJY h h3) aJ_ok (fun mk c' h1 _ => okC h1) (arn_ok aJ_ok 14 (fun mk c' h1 _ => okC h1)) 10000 [] 10 _ [] _ L _ _ _ _ [] h t hL hM0 hl0 trivial (fun o S' hm9 ρ' ν' τ' h' t' u1 u2 u3 hM' => by
      have hPx := List.all_eq_true.mp hR _ hm9
      simp only at hPx
      split at hPx
      · rename_i v hv9
        simp only [Bool.and_eq_true] at hPx
        refine ⟨fun q9 hq9 x hx => ?_, fun pc ls st ho => (by cases ho)⟩
        cases hq9
        rcases x with (_ | v9) | z
        · exact hx.elim
        · have ht : t' = t := by
            have h9 := hM'.2.2.2.2.2.2.2
            rw [Nat.eq_of_beq_eq_true hPx.2] at h9
            exact h9
          subst ht
          exact ⟨v9, h', rfl, kJY_w hg hM'.2.2.2.2.1.2 hPx.1⟩
        · exact hx.elim
      · cases hPx) (fun o ho => (by cases ho)) (aup_refl _) (aup_refl _) (aup_refl _)
    exact ⟨_, k1, v, h3, rfl, g1⟩
theorem fz_partOf {x1 x2 x3 x4 : Int32} {t T : Nat} {τ : List Nat} {h : zh} {cur : bsT} {hs : List bsT} (hg : hG τ h) (i : IV h T) (rc : RC h cur hs) (rm : RM h cur hs) (cz : CZ cur hs) (py : PY cur hs) (kc : KC cur hs) (jc : JCx h cur) (jm : JMx h cur) : qP 15 242 [some (.inl (some 52)), some (zi x1), some (zi x2), some (zi x3), some (zi x4)] h t (fun x => JMx x.2.1 cur) := by
  refine qP_of ?_
  refine y_same (i := .aload_n 0) (len := 1) (r := (0, 0, 0, 0)) (pc' := 1) (ls' := [some (.inl (some 52)), some (zi x1), some (zi x2), some (zi x3), some (zi x4)]) (st' := [.inl (some 52)]) (by decide +kernel) (fun k q => by cases q) rfl ?_
  refine y_ic (c := 0) (len := 1) (r := (0, 0, 0, 0)) (by decide +kernel) (by decide) (fun y2488 hy2488 => ?_)
  refine y_put (j := 92) (lo := (-2147483648)) (hi := 2147483647) (len := 3) (r := (12, 0, 0, 1328)) (by decide +kernel) hg (t52 hg) at52 rfl rfl (by decide) rfl (qin_full _).1 (qin_full _).2 rfl (fun h2489 hg2489 hl2489 hs2489 ho2489 => ?_)
  have ho2489 : hO 52 0 h h2489 := ho2489
  have hs2489 : hsl h2489 52 0 = some (zi y2488) := hs2489
  refine y_same (i := .aload_n 0) (len := 1) (r := (0, 0, 0, 0)) (pc' := 6) (ls' := [some (.inl (some 52)), some (zi x1), some (zi x2), some (zi x3), some (zi x4)]) (st' := [.inl (some 52)]) (by decide +kernel) (fun k q => by cases q) rfl ?_
  refine y_ic (c := 0) (len := 1) (r := (0, 0, 0, 0)) (by decide +kernel) (by decide) (fun y2490 hy2490 => ?_)
  refine y_cV (i := .invokevirtual 400) (len := 3) (r := (0, 238, 12, 1628)) (nL := 3) (k := 0) (n := 2) (hs := []) (args := [.inl (some 52), zi y2490]) (rest := []) (l0 := [some (.inl (some 52)), some (zi y2490), none]) (by decide +kernel) (Or.inr (Or.inl ⟨_, rfl⟩)) rfl rfl rfl rfl (Nat.le_of_ble_eq_true rfl) (z52 hg2489) rfl (qV_le (by decide) (lz_pv hg i rc rm cz py kc jc jm (by omega) h2489 hg2489 (fun k j hC => (ho2489 k j (by omega))))) (fun h2491 hR2491 => ?_)
  obtain ⟨⟨τ2491, hg2491⟩, f2491, jm2491⟩ := hR2491
  refine qX_mn (zy_partOf hg2491 (f2491.trans hs2489) (by omega)) (fun x q => ?_)
  obtain ⟨v, h9, rfl, k9⟩ := q
  exact k9 cur jm2491
theorem zyk_overPart : zyR 245 11 [] [((-2147483648), 2147483647), ((-2147483648), 2147483647), ((-2147483648), 2147483647), ((-3), 300)] [some (.inr (.inl 52)), some (.inl (1, 0)), some (.inl (2, 0)), some (.inl (3, 0)), some (.inl (4, 0)), none] = true := by decide +kernel
theorem zy_overPart {x1 x2 x3 y : Int32} {τ : List Nat} {h : zh} {t : Nat} {z : Int32} (hg : hG τ h) (hz : hsl h 52 0 = some (zi z)) (ez : z.toInt = 0) (y1 : -3 ≤ y.toInt) (y2 : y.toInt ≤ 300) : qX 14 245 11 [some (.inl (some 52)), some (zi x1), some (zi x2), some (zi x3), some (zi y), none] [] h t (fun x => ∃ (v : zv) (h1 : zh), x = (.inl (some v), h1, t) ∧ kJY h h1) := by
  have hR := zyk_overPart
  unfold zyR at hR
  cases hL : alp actb [] [] 14 (arn actb 2000 14) 245 10000 [] 11 [some (.inr (.inl 52)), some (.inl (1, 0)), some (.inl (2, 0)), some (.inl (3, 0)), some (.inl (4, 0)), none] [] (zyS [((-2147483648), 2147483647), ((-2147483648), 2147483647), ((-2147483648), 2147483647), ((-3), 300)]) with
  | none => rw [hL] at hR; cases hR
  | some L =>
    rw [hL] at hR
    simp only at hR
    have hM0 : aM aJ τ h t (zyS [((-2147483648), 2147483647), ((-2147483648), 2147483647), ((-2147483648), 2147483647), ((-3), 300)]) [0, x1.toInt, x2.toInt, x3.toInt, y.toInt] [] τ h t := by
      refine ⟨⟨rfl, rfl, fun j p9 hp9 => ?_⟩, ⟨rfl, fun j T hj => (by cases hj)⟩, fun f hf => ?_, fun f hf => (by cases hf), ⟨aup_refl _, fun _ _ _ _ _ => rfl⟩, hg.1, hg.2, rfl⟩
      · match j, hp9 with
        | 0, hp9 => cases hp9; exact ⟨0, rfl, Int.le_refl _, Int.le_refl _⟩
        | 1, hp9 => cases hp9; exact ⟨_, rfl, (qin_full x1).1, (qin_full x1).2⟩
        | 2, hp9 => cases hp9; exact ⟨_, rfl, (qin_full x2).1, (qin_full x2).2⟩
        | 3, hp9 => cases hp9; exact ⟨_, rfl, (qin_full x3).1, (qin_full x3).2⟩
        | 4, hp9 => cases hp9; exact ⟨_, rfl, y1, y2⟩
        | j + 5, hp9 => cases hp9
      · have hf : f ∈ [((52, 0, 0), (.inl (0, 0) : av))] := hf
        simp only [List.mem_cons, List.not_mem_nil, or_false] at hf
        subst hf
        exact ⟨fun _ => t52 hg, 52, 0, (0 : Int), _, rfl, rfl, by simp, hz, z, 0, rfl, rfl, by omega⟩
    have hl0 : alM [0, x1.toInt, x2.toInt, x3.toInt, y.toInt] [] [some (.inr (.inl 52)), some (.inl (1, 0)), some (.inl (2, 0)), some (.inl (3, 0)), some (.inl (4, 0)), none] [some (.inl (some 52)), some (zi x1), some (zi x2), some (zi x3), some (zi y), none] := by
      refine ⟨rfl, fun j b hb => ?_, fun j v hv hn => ?_⟩
      · match j, hb with
      | 0, hb => cases hb; exact ⟨_, rfl, 52, rfl, rfl⟩
      | 1, hb => cases hb; exact ⟨_, rfl, x1, x1.toInt, rfl, rfl, by omega⟩
      | 2, hb => cases hb; exact ⟨_, rfl, x2, x2.toInt, rfl, rfl, by omega⟩
      | 3, hb => cases hb; exact ⟨_, rfl, x3, x3.toInt, rfl, rfl, by omega⟩
      | 4, hb => cases hb; exact ⟨_, rfl, y, y.toInt, rfl, rfl, by omega⟩
      | j + 5, hb =>
        have h9 := List.eq_of_mem_replicate (n := 1) (a := (none : Option av)) (List.mem_of_getElem? (show (List.replicate 1 (none : Option av))[j]? = some (some b) from hb))
        cases h9
      · match j, hv, hn with
      | 0, _, hn => cases hn
      | 1, _, hn => cases hn
      | 2, _, hn => cases hn
      | 3, _, hn => cases hn
      | 4, _, hn => cases hn
      | j + 5, hv, _ =>
        have h9 := List.eq_of_mem_replicate (n := 1) (a := (none : Option zv)) (List.mem_of_getElem? (show (List.replicate 1 (none : Option zv))[j]? = some (some v) from hv))
        cases h9
    obtain ⟨xx, k1, v, h3, rfl, g1⟩ := alp_ok (ann := []) (stops := []) (ctb := actb) (call := arn actb 2000 14) (τ0 := τ) (h0 := h) (t0 := t) (ρt := [0, x1.toInt, x2.toInt, x3.toInt, y.toInt]) (νt := []) (τt := τ) (d := 14) (mi := 245) (Out := fun xx => ∃ (v : zv) (h3 : zh), xx = (.inl (some v), h3, t) ∧ kJY h h3) aJ_ok (fun mk c' h1 _ => okC h1) (arn_ok aJ_ok 14 (fun mk c' h1 _ => okC h1)) 10000 [] 11 _ [] _ L _ _ _ _ [] h t hL hM0 hl0 trivial (fun o S' hm9 ρ' ν' τ' h' t' u1 u2 u3 hM' => by
      have hPx := List.all_eq_true.mp hR _ hm9
      simp only at hPx
      split at hPx
      · rename_i v hv9
        simp only [Bool.and_eq_true] at hPx
        refine ⟨fun q9 hq9 x hx => ?_, fun pc ls st ho => (by cases ho)⟩
        cases hq9
        rcases x with (_ | v9) | z
        · exact hx.elim
        · have ht : t' = t := by
            have h9 := hM'.2.2.2.2.2.2.2
            rw [Nat.eq_of_beq_eq_true hPx.2] at h9
            exact h9
          subst ht
          exact ⟨v9, h', rfl, kJY_w hg hM'.2.2.2.2.1.2 hPx.1⟩
        · exact hx.elim
      · cases hPx) (fun o ho => (by cases ho)) (aup_refl _) (aup_refl _) (aup_refl _)
    exact ⟨_, k1, v, h3, rfl, g1⟩
theorem fz_overPart {x1 x2 x3 : Int32} {t T : Nat} {τ : List Nat} {h : zh} {cur : bsT} {hs : List bsT} (hg : hG τ h) (i : IV h T) (rc : RC h cur hs) (rm : RM h cur hs) (cz : CZ cur hs) (py : PY cur hs) (kc : KC cur hs) (jc : JCx h cur) (jm : JMx h cur) : qP 15 245 [some (.inl (some 52)), some (zi x1), some (zi x2), some (zi x3), none, none] h t (fun x => JMx x.2.1 cur) := by
  refine qP_of ?_
  refine y_same (i := .aload_n 0) (len := 1) (r := (0, 0, 0, 0)) (pc' := 1) (ls' := [some (.inl (some 52)), some (zi x1), some (zi x2), some (zi x3), none, none]) (st' := [.inl (some 52)]) (by decide +kernel) (fun k q => by cases q) rfl ?_
  refine y_ic (c := 0) (len := 1) (r := (0, 0, 0, 0)) (by decide +kernel) (by decide) (fun y2492 hy2492 => ?_)
  refine y_put (j := 92) (lo := (-2147483648)) (hi := 2147483647) (len := 3) (r := (12, 0, 0, 1328)) (by decide +kernel) hg (t52 hg) at52 rfl rfl (by decide) rfl (qin_full _).1 (qin_full _).2 rfl (fun h2493 hg2493 hl2493 hs2493 ho2493 => ?_)
  have ho2493 : hO 52 0 h h2493 := ho2493
  have hs2493 : hsl h2493 52 0 = some (zi y2492) := hs2493
  refine y_same (i := .aload_n 0) (len := 1) (r := (0, 0, 0, 0)) (pc' := 6) (ls' := [some (.inl (some 52)), some (zi x1), some (zi x2), some (zi x3), none, none]) (st' := [.inl (some 52)]) (by decide +kernel) (fun k q => by cases q) rfl ?_
  refine y_cI (i := .invokevirtual 407) (len := 3) (r := (0, 243, 12, 1786)) (nL := 1) (k := 1) (n := 1) (hs := []) (args := [.inl (some 52)]) (rest := []) (l0 := [some (.inl (some 52))]) (by decide +kernel) (Or.inr (Or.inl ⟨_, rfl⟩)) rfl rfl rfl rfl (Nat.le_of_ble_eq_true rfl) (z52 hg2493) rfl (qI_le (by omega) (lz_om hg i rc rm cz py kc jc jm h2493 hg2493 (fun k j hC => (ho2493 k j (by omega))))) (fun y2494 h2494 hRy2494 => ?_)
  obtain ⟨-, ⟨τ2494, hg2494⟩, jm2494, ⟨b1, b2⟩, f2494⟩ := hRy2494
  refine y_same (i := .istore 4) (len := 2) (r := (0, 0, 0, 0)) (pc' := 11) (ls' := [some (.inl (some 52)), some (zi x1), some (zi x2), some (zi x3), some (zi y2494), none]) (st' := []) (by decide +kernel) (fun k q => by cases q) rfl ?_
  refine qX_mn (zy_overPart hg2494 (f2494.trans hs2493) (by omega) b1 b2) (fun x q => ?_)
  obtain ⟨v, h9, rfl, k9⟩ := q
  exact k9 cur jm2494
theorem lz_proofM {t T : Nat} {τ : List Nat} {h : zh} {cur : bsT} {hs : List bsT} {x1 : Int32} (hg : hG τ h) (i : IV h T) (rc : RC h cur hs) (rm : RM h cur hs) (cz : CZ cur hs) (py : PY cur hs) (kc : KC cur hs) (jc : JCx h cur) (jm : JMx h cur) : ∃ (y : Int32) (h1 : zh) (t1 : Nat), qE 60 240 [some (.inl (some 52)), some (zi x1), none, none] h t (.inl (some (zi y)), h1, t1) ∧ t1 ≤ t + 0 ∧ ∃ τ1, hG τ1 h1 ∧ IV h1 T ∧ RC h1 cur hs ∧ RM h1 cur hs ∧ JCx h1 cur ∧ JMx h1 cur := by
  obtain ⟨y, h1, t1, e, ht, τ1, g1, F⟩ := use_L8 (τ := τ) (t := t) (d := 60) 0 (okC (mk := 240) (c := ac236) List.mem_cons_self) rfl hg (show aqsM _ _ [.inl (some 52), zi x1] from ⟨aqR (t52 hg), aqI (qin_full _).1 (qin_full _).2, trivial⟩) (l0 := [some (.inl (some 52)), some (zi x1), none, none]) rfl (by decide +kernel) (by decide)
  obtain ⟨k1, k2⟩ := kpX_w hg F (by decide +kernel)
  exact ⟨y, h1, t1, e, ht, τ1, g1, IV_kp (kpC_w hg F (by decide +kernel)) (kpM_w hg F (by decide +kernel)) i, RC_w hg F (by decide +kernel) rc, RM_w hg F (by decide +kernel) rm, JCx_kp k1 k2 (Or.inl (F 35 35 5 (tv35 hg) (by decide +kernel))) (Or.inl (F 28 28 5 (tv28 hg) (by decide +kernel))) jc, qP_at (d' := 60) (by decide) e (fz_proof hg i rc rm cz py kc jc jm)⟩
theorem lz_sequentM {t T : Nat} {τ : List Nat} {h : zh} {cur : bsT} {hs : List bsT} {x1 x2 : Int32} (hg : hG τ h) (i : IV h T) (rc : RC h cur hs) (rm : RM h cur hs) (cz : CZ cur hs) (py : PY cur hs) (kc : KC cur hs) (jc : JCx h cur) (jm : JMx h cur) : ∃ (y : Int32) (h1 : zh) (t1 : Nat), qE 60 241 [some (.inl (some 52)), some (zi x1), some (zi x2)] h t (.inl (some (zi y)), h1, t1) ∧ t1 ≤ t + 0 ∧ ∃ τ1, hG τ1 h1 ∧ IV h1 T ∧ RC h1 cur hs ∧ RM h1 cur hs ∧ JCx h1 cur ∧ JMx h1 cur := by
  obtain ⟨y, h1, t1, e, ht, τ1, g1, F⟩ := use_L8 (τ := τ) (t := t) (d := 60) 0 (okC (mk := 241) (c := ac238) List.mem_cons_self) rfl hg (show aqsM _ _ [.inl (some 52), zi x1, zi x2] from ⟨aqR (t52 hg), aqI (qin_full _).1 (qin_full _).2, aqI (qin_full _).1 (qin_full _).2, trivial⟩) (l0 := [some (.inl (some 52)), some (zi x1), some (zi x2)]) rfl (by decide +kernel) (by decide)
  obtain ⟨k1, k2⟩ := kpX_w hg F (by decide +kernel)
  exact ⟨y, h1, t1, e, ht, τ1, g1, IV_kp (kpC_w hg F (by decide +kernel)) (kpM_w hg F (by decide +kernel)) i, RC_w hg F (by decide +kernel) rc, RM_w hg F (by decide +kernel) rm, JCx_kp k1 k2 (Or.inl (F 35 35 5 (tv35 hg) (by decide +kernel))) (Or.inl (F 28 28 5 (tv28 hg) (by decide +kernel))) jc, qP_at (d' := 60) (by decide) e (fz_sequent hg i rc rm cz py kc jc jm)⟩
theorem lz_partOfM {t T : Nat} {τ : List Nat} {h : zh} {cur : bsT} {hs : List bsT} {x1 x2 x3 x4 : Int32} (hg : hG τ h) (i : IV h T) (rc : RC h cur hs) (rm : RM h cur hs) (cz : CZ cur hs) (py : PY cur hs) (kc : KC cur hs) (jc : JCx h cur) (jm : JMx h cur) : ∃ (y : Int32) (h1 : zh) (t1 : Nat), qE 60 242 [some (.inl (some 52)), some (zi x1), some (zi x2), some (zi x3), some (zi x4)] h t (.inl (some (zi y)), h1, t1) ∧ t1 ≤ t + 0 ∧ ∃ τ1, hG τ1 h1 ∧ IV h1 T ∧ RC h1 cur hs ∧ RM h1 cur hs ∧ JCx h1 cur ∧ JMx h1 cur := by
  obtain ⟨y, h1, t1, e, ht, τ1, g1, F⟩ := use_L8 (τ := τ) (t := t) (d := 60) 0 (okC (mk := 242) (c := ac239) List.mem_cons_self) rfl hg (show aqsM _ _ [.inl (some 52), zi x1, zi x2, zi x3, zi x4] from ⟨aqR (t52 hg), aqI (qin_full _).1 (qin_full _).2, aqI (qin_full _).1 (qin_full _).2, aqI (qin_full _).1 (qin_full _).2, aqI (qin_full _).1 (qin_full _).2, trivial⟩) (l0 := [some (.inl (some 52)), some (zi x1), some (zi x2), some (zi x3), some (zi x4)]) rfl (by decide +kernel) (by decide)
  obtain ⟨k1, k2⟩ := kpX_w hg F (by decide +kernel)
  exact ⟨y, h1, t1, e, ht, τ1, g1, IV_kp (kpC_w hg F (by decide +kernel)) (kpM_w hg F (by decide +kernel)) i, RC_w hg F (by decide +kernel) rc, RM_w hg F (by decide +kernel) rm, JCx_kp k1 k2 (Or.inl (F 35 35 5 (tv35 hg) (by decide +kernel))) (Or.inl (F 28 28 5 (tv28 hg) (by decide +kernel))) jc, qP_at (d' := 60) (by decide) e (fz_partOf hg i rc rm cz py kc jc jm)⟩
theorem lz_overPartM {t T : Nat} {τ : List Nat} {h : zh} {cur : bsT} {hs : List bsT} {x1 x2 x3 : Int32} (hg : hG τ h) (i : IV h T) (rc : RC h cur hs) (rm : RM h cur hs) (cz : CZ cur hs) (py : PY cur hs) (kc : KC cur hs) (jc : JCx h cur) (jm : JMx h cur) : ∃ (y : Int32) (h1 : zh) (t1 : Nat), qE 60 245 [some (.inl (some 52)), some (zi x1), some (zi x2), some (zi x3), none, none] h t (.inl (some (zi y)), h1, t1) ∧ t1 ≤ t + 0 ∧ ∃ τ1, hG τ1 h1 ∧ IV h1 T ∧ RC h1 cur hs ∧ RM h1 cur hs ∧ JCx h1 cur ∧ JMx h1 cur := by
  obtain ⟨y, h1, t1, e, ht, τ1, g1, F⟩ := use_L8 (τ := τ) (t := t) (d := 60) 0 (okC (mk := 245) (c := ac241) List.mem_cons_self) rfl hg (show aqsM _ _ [.inl (some 52), zi x1, zi x2, zi x3] from ⟨aqR (t52 hg), aqI (qin_full _).1 (qin_full _).2, aqI (qin_full _).1 (qin_full _).2, aqI (qin_full _).1 (qin_full _).2, trivial⟩) (l0 := [some (.inl (some 52)), some (zi x1), some (zi x2), some (zi x3), none, none]) rfl (by decide +kernel) (by decide)
  obtain ⟨k1, k2⟩ := kpX_w hg F (by decide +kernel)
  exact ⟨y, h1, t1, e, ht, τ1, g1, IV_kp (kpC_w hg F (by decide +kernel)) (kpM_w hg F (by decide +kernel)) i, RC_w hg F (by decide +kernel) rc, RM_w hg F (by decide +kernel) rm, JCx_kp k1 k2 (Or.inl (F 35 35 5 (tv35 hg) (by decide +kernel))) (Or.inl (F 28 28 5 (tv28 hg) (by decide +kernel))) jc, qP_at (d' := 60) (by decide) e (fz_overPart hg i rc rm cz py kc jc jm)⟩
theorem lz_printM {t T : Nat} {τ : List Nat} {h : zh} {cur : bsT} {hs : List bsT} (hg : hG τ h) (i : IV h T) (rc : RC h cur hs) (rm : RM h cur hs) (cz : CZ cur hs) (py : PY cur hs) (kc : KC cur hs) (jc : JCx h cur) (jm : JMx h cur) : ∃ (w : Int64) (h1 : zh) (t1 : Nat), qE 60 263 [some (.inl (some 52)), none, none, none] h t (.inl (some (.inr (.inr (.inl w)))), h1, t1) ∧ t1 = t ∧ w = prS (prfF cyP false cur).1 ∧ ∃ τ1, hG τ1 h1 ∧ IV h1 T ∧ RC h1 cur hs ∧ RM h1 cur hs ∧ JCx h1 cur ∧ JMx h1 cur := by
  have ok := okB_of hg rm py.1 kc.1 cz.1
  have key : ∃ (w : Int64) (h1 : zh), qE 60 263 [some (.inl (some 52)), none, none, none] h t (.inl (some (zlg w)), h1, t) ∧ w = prS (prfF cyP false cur).1 ∧ JMx h1 cur := by
    obtain ⟨x, ex, lx, ux⟩ := g_int (i := 31) (lo := 0) (hi := 1) hg (t52 hg) at52 (by decide) rfl
    obtain ⟨z, ez, lz, uz⟩ := g_int (i := 32) (lo := 0) (hi := 1) hg (t52 hg) at52 (by decide) rfl
    rcases (show (x.toInt = 0 ∨ (x.toInt = 1 ∧ z.toInt = 1)) ∨ (x.toInt = 1 ∧ z.toInt = 0) by omega) with q | ⟨q1, q2⟩
    · have np : kx_ h 52 31 0 ∨ (kx_ h 52 31 1 ∧ kx_ h 52 32 1) := q.elim (fun q => Or.inl ⟨x, ex, q⟩) (fun q => Or.inr ⟨⟨x, ex, q.1⟩, ⟨z, ez, q.2⟩⟩)
      obtain ⟨w, h1, e, ew, o⟩ := m_prz (d := 50) (t := t) hg rm.1 ok np
      exact ⟨w, h1, e, ew, pv_JMx0 o⟩
    · obtain ⟨c26, l3, V⟩ := (jm ⟨x, ex, q1⟩).1 ⟨z, ez, q2⟩
      obtain ⟨w, h1, e, ew, f⟩ := m_prk (d := 50) (t := t) hg ⟨x, ex, q1⟩ ⟨z, ez, q2⟩ c26 l3 V
      exact ⟨w, h1, e, ew, JMx_kp ⟨fun j => f 373 j (by omega), fun j => f 377 j (by omega), fun k j hk => f (71 + k) j (by omega), f 52 26 (by omega), f 52 27 (by omega), f 52 29 (by omega), f 52 32 (by omega)⟩ (f 52 31 (by omega)) jm⟩
  obtain ⟨w, h1, e, ew, jm1⟩ := key
  obtain ⟨F, τ1, g1⟩ := use_F (okC (mk := 263) (c := ac245) List.mem_cons_self) rfl hg (show aqsM _ _ [.inl (some 52)] from ⟨aqR (t52 hg), trivial⟩) rfl (by decide) e
  obtain ⟨k1, k2⟩ := kpX_w hg F (by decide +kernel)
  exact ⟨w, h1, t, e, rfl, ew, τ1, g1, IV_kp (kpC_w hg F (by decide +kernel)) (kpM_w hg F (by decide +kernel)) i, RC_w hg F (by decide +kernel) rc, RM_w hg F (by decide +kernel) rm, JCx_kp k1 k2 (Or.inl (F 35 35 5 (tv35 hg) (by decide +kernel))) (Or.inl (F 28 28 5 (tv28 hg) (by decide +kernel))) jc, jm1⟩
