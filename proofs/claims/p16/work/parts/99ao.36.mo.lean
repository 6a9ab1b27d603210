/-! the reference: what a sequent goes on with, the first one -/
theorem room378 {τ : List Nat} {h : zh} {n : Nat} (hg : hG τ h) (hn : n + 1 ≤ 14) : ∀ c0 : Int, (∃ T, τ[378]? = some T ∧ atyp T = some (.inl (0, 200, wRs c0))) → (n : Int) + 1 ≤ c0 := by
  rintro c0 ⟨T, t1, t2⟩
  have e := t1.symm.trans (tu378 hg)
  cases e
  have e3 := at378.symm.trans t2
  simp only [wRs, Option.some.injEq, Sum.inl.injEq, Prod.mk.injEq, List.cons.injEq, true_and, and_true] at e3
  omega
theorem wf_48 {e : enT} (w : wfE e) (h3 : 3 ≤ e.2.1) (h8 : e.2.1 ≤ 8) : (e.2.1 = 4 → (gp_ e).1 = (gq_ e).1) ∧ (e.2.1 = 8 → 2 ≤ (gp_ e).1) := by
  obtain ⟨w, -⟩ := w
  rcases w with w | ⟨w1, w2, w3⟩
  · omega
  · have f : fnd_ e.1 e.2.1 e.2.2.1 e.2.2.2.1 := w3.elim (fun q => by omega) id
    refine ⟨fun h4 => ?_, fun h9 => ?_⟩
    · obtain ⟨p, hp, hq⟩ := fnd_it f h8
      obtain ⟨q, e1, f2⟩ := hq (by omega)
      rw [gp_eq hp, gq_eq e1]
      obtain ⟨-, f2⟩ := f2
      rcases f2 with ⟨a, -⟩ | ⟨-, a, -⟩ | ⟨a, -⟩ | ⟨a, -⟩ | ⟨a, -⟩
      · omega
      · exact a
      · omega
      · omega
      · omega
    · rcases f with ⟨-, a, -⟩ | ⟨-, -, ⟨p, hp, k⟩, -⟩ | ⟨a, -⟩
      · omega
      · rw [gp_eq hp]
        exact k
      · omega
theorem nx6_t {s : sqT} {ip iq : it4} {r l : Nat} : nxF s 6 ip iq r l true = some (s.1, s.2.1, s.2.2.1, dAdd s.2.2.2 ip.2.1 ip.2.2.1) := by
  show (if true = true then some (s.1, s.2.1, s.2.2.1, dAdd s.2.2.2 ip.2.1 ip.2.2.1) else some (mkQ ip.2.1 ip.2.2.1 s)) = _
  exact if_pos rfl
theorem nx6_f {s : sqT} {ip iq : it4} {r l : Nat} : nxF s 6 ip iq r l false = some (mkQ ip.2.1 ip.2.2.1 s) := by
  show (if false = true then some (s.1, s.2.1, s.2.2.1, dAdd s.2.2.2 ip.2.1 ip.2.2.1) else some (mkQ ip.2.1 ip.2.2.1 s)) = _
  exact if_neg (by decide)
theorem nx7_w {s : sqT} {ip iq : it4} {r l : Nat} {w : Bool} {xw : Int32} (ew : xw.toInt = if w = true then 1 else 0) : nxF s 7 ip iq r l w = (if xw.toInt ≠ 0 then (if frF (mnA s) = 21 then none else if iq.1 = 2 then some (ins_ (s.1.set l (0, iq.2.1, (frF (mnA s) : Int), 0)) (l + 1) (2, (frF (mnA s) : Int), iq.2.2.1, 0), s.2.1, s.2.2.1, dAdd s.2.2.2 iq.2.1 iq.2.2.1) else if frF (fun v => mnA s v ∨ v = (frF (mnA s) : Int)) = 21 then none else some (ins_ (ins_ (s.1.set l (1, iq.2.1, (frF (mnA s) : Int), (frF (fun v => mnA s v ∨ v = (frF (mnA s) : Int)) : Int))) (l + 1) (3, (frF (mnA s) : Int), 0, 0)) (l + 2) (3, (frF (fun v => mnA s v ∨ v = (frF (mnA s) : Int)) : Int), 0, 0), s.2.1, s.2.2.1, s.2.2.2) : Option sqT) else some (mkQ iq.2.1 iq.2.2.1 s)) := by
  cases w with
  | true =>
    have ew : xw.toInt = 1 := ew
    rw [if_pos (by omega)]
    exact nx7_t
  | false =>
    have ew : xw.toInt = 0 := ew
    rw [if_neg (by omega)]
    exact nx7_f
theorem m_fol7 {d t i st r l : Nat} {τ : List Nat} {h : zh} {s : sqT} {ip iq : it4} {w : Bool} {xf xw : Int32} (hi : i < 300) (exf : xf.toInt = (i : Int)) (Q0 : QM τ h (71 + i) s) (nb : ¬ big_ s) (cs : ci_ h 373 i st) (cr : ci_ h 374 i r) (cl : ci_ h 375 i l) (hs : 3 ≤ st ∧ st ≤ 7) (kip : s.2.1[r]? = some ip) (kiq : s.1[l]? = some iq) (k7 : st = 7 → 2 ≤ iq.1) (k4 : st = 4 → ip.1 = iq.1) (ew0 : xw.toInt = if w = true then 1 else 0) : qI (d + 7) 228 [some (.inl (some 52)), some (zi xf), some (zi xw), none, none, none, none, none, none, none, none] h t (fun y h1 => (y.toInt = 1 ∧ ∃ s', nxF s st ip iq r l w = some s' ∧ QM τ h1 378 s' ∧ FM 378 h h1) ∨ (y.toInt = 0 ∧ nxF s st ip iq r l w = none ∧ ∃ s', QM τ h1 378 s' ∧ FM 378 h h1)) := by
  obtain ⟨xs, hxs, es⟩ := cs
  obtain ⟨xr, hxr, er⟩ := cr
  obtain ⟨xl, hxl, el⟩ := cl
  have hr9 := (List.getElem?_eq_some_iff.mp kip).1
  have oip := okQ_R Q0.2.2.2 kip
  have pip := oip.1
  have zy9 : ip.1 = 3 → ip.2.2.1 = 0 := oip.2.2
  unfold okV at pip
  have hl9 := (List.getElem?_eq_some_iff.mp kiq).1
  have oiq := okQ_L Q0.2.2.2 kiq
  have piq := oiq.1
  unfold okV at piq
  have b1 : ¬ 12 < s.1.length := fun q => nb (Or.inl q)
  have b2 : ¬ 12 < s.2.1.length := fun q => nb (Or.inr (Or.inl q))
  have b3 : ¬ 12 < s.2.2.1.length := fun q => nb (Or.inr (Or.inr q))
  refine qI_of ?_
  refine y_same (i := .aload_n 0) (len := 1) (r := (0, 0, 0, 0)) (pc' := 1) (ls' := [some (.inl (some 52)), some (zi xf), some (zi xw), none, none, none, none, none, none, none, none]) (st' := [.inl (some 52)]) (by decide +kernel) (fun k q => by cases q) rfl ?_
  refine y_get (j := 37) (len := 3) (r := (12, 15, 2, 1343)) (by decide +kernel) Q0.1 (t52 Q0.1) at52 rfl rfl (g_r52 (f := 15) (T2 := 70) Q0.1 rfl (by decide)).1 ?_
  refine y_same (i := .iload_n 1) (len := 1) (r := (0, 0, 0, 0)) (pc' := 5) (ls' := [some (.inl (some 52)), some (zi xf), some (zi xw), none, none, none, none, none, none, none, none]) (st' := [zi xf, .inl (some 70)]) (by decide +kernel) (fun k q => by cases q) rfl ?_
  refine y_aal (i := i) (len := 1) (r := (0, 0, 0, 0)) (by decide +kernel) Q0.1 (tu70 Q0.1) at70 rfl (by omega) (Q0.1.2.2 i (by omega)) ?_
  refine y_same (i := .aload_n 0) (len := 1) (r := (0, 0, 0, 0)) (pc' := 7) (ls' := [some (.inl (some 52)), some (zi xf), some (zi xw), none, none, none, none, none, none, none, none]) (st' := [.inl (some 52), .inl (some ((71 + i)))]) (by decide +kernel) (fun k q => by cases q) rfl ?_
  refine y_get (j := 61) (len := 3) (r := (12, 23, 2, 1351)) (by decide +kernel) Q0.1 (t52 Q0.1) at52 rfl rfl (g_r52 (f := 23) (T2 := 378) Q0.1 rfl (by decide)).1 ?_
  refine y_si (c := 200) (len := 3) (r := (0, 0, 0, 0)) (by decide +kernel) (by decide) (fun y3246 hy3246 => ?_)
  refine y_cV (i := .invokestatic 216) (len := 3) (r := (1, 185, 12, 1572)) (nL := 4) (k := 0) (n := 3) (hs := []) (args := [.inl (some ((71 + i))), .inl (some 378), zi y3246]) (rest := []) (l0 := [some (.inl (some ((71 + i)))), some (.inl (some 378)), some (zi y3246), none]) (by decide +kernel) (Or.inl ⟨_, rfl⟩) rfl rfl rfl rfl (Nat.le_of_ble_eq_true rfl) rfl rfl (qV_le (by omega) (m_cpy (d := 0) (B := 71 + i) (A := 378) Q0 (rwT_d Q0.1) (by omega) (by omega) nb)) (fun h3247 hR3247 => ?_)
  obtain ⟨Q3247, F3247⟩ := hR3247
  refine y_same (i := .aload_n 0) (len := 1) (r := (0, 0, 0, 0)) (pc' := 17) (ls' := [some (.inl (some 52)), some (zi xf), some (zi xw), none, none, none, none, none, none, none, none]) (st' := [.inl (some 52)]) (by decide +kernel) (fun k q => by cases q) rfl ?_
  refine y_get (j := 49) (len := 3) (r := (12, 19, 2, 1347)) (by decide +kernel) Q3247.1 (t52 Q3247.1) at52 rfl rfl (g_r52 (f := 19) (T2 := 374) Q3247.1 rfl (by decide)).1 ?_
  refine y_same (i := .iload_n 1) (len := 1) (r := (0, 0, 0, 0)) (pc' := 21) (ls' := [some (.inl (some 52)), some (zi xf), some (zi xw), none, none, none, none, none, none, none, none]) (st' := [zi xf, .inl (some 374)]) (by decide +kernel) (fun k q => by cases q) rfl ?_
  have hv3248 := (F3247 374 i (by omega)).trans hxr
  refine y_ial (i := i) (len := 1) (r := (0, 0, 0, 0)) (by decide +kernel) Q3247.1 (tu374 Q3247.1) at374 (by omega) hv3248 ?_
  refine y_same (i := .istore_n 3) (len := 1) (r := (0, 0, 0, 0)) (pc' := 23) (ls' := [some (.inl (some 52)), some (zi xf), some (zi xw), some (zi xr), none, none, none, none, none, none, none]) (st' := []) (by decide +kernel) (fun k q => by cases q) rfl ?_
  refine y_same (i := .aload_n 0) (len := 1) (r := (0, 0, 0, 0)) (pc' := 24) (ls' := [some (.inl (some 52)), some (zi xf), some (zi xw), some (zi xr), none, none, none, none, none, none, none]) (st' := [.inl (some 52)]) (by decide +kernel) (fun k q => by cases q) rfl ?_
  refine y_get (j := 52) (len := 3) (r := (12, 20, 2, 1348)) (by decide +kernel) Q3247.1 (t52 Q3247.1) at52 rfl rfl (g_r52 (f := 20) (T2 := 375) Q3247.1 rfl (by decide)).1 ?_
  refine y_same (i := .iload_n 1) (len := 1) (r := (0, 0, 0, 0)) (pc' := 28) (ls' := [some (.inl (some 52)), some (zi xf), some (zi xw), some (zi xr), none, none, none, none, none, none, none]) (st' := [zi xf, .inl (some 375)]) (by decide +kernel) (fun k q => by cases q) rfl ?_
  have hv3249 := (F3247 375 i (by omega)).trans hxl
  refine y_ial (i := i) (len := 1) (r := (0, 0, 0, 0)) (by decide +kernel) Q3247.1 (tu375 Q3247.1) at375 (by omega) hv3249 ?_
  refine y_same (i := .istore 4) (len := 2) (r := (0, 0, 0, 0)) (pc' := 31) (ls' := [some (.inl (some 52)), some (zi xf), some (zi xw), some (zi xr), some (zi xl), none, none, none, none, none, none]) (st' := []) (by decide +kernel) (fun k q => by cases q) rfl ?_
  refine y_same (i := .iload_n 3) (len := 1) (r := (0, 0, 0, 0)) (pc' := 32) (ls' := [some (.inl (some 52)), some (zi xf), some (zi xw), some (zi xr), some (zi xl), none, none, none, none, none, none]) (st' := [zi xr]) (by decide +kernel) (fun k q => by cases q) rfl ?_
  refine y_cI (i := .invokestatic 256) (len := 3) (r := (1, 198, 12, 1651)) (nL := 1) (k := 1) (n := 1) (hs := []) (args := [zi xr]) (rest := []) (l0 := [some (zi xr)]) (by decide +kernel) (Or.inl ⟨_, rfl⟩) rfl rfl rfl rfl (Nat.le_of_ble_eq_true rfl) rfl rfl (qI_le (by omega) (e_rightAt (d := 0) (by omega) (by omega))) (fun y3250 qy3250 hRy3250 => ?_)
  obtain ⟨rfl, hy3250⟩ := hRy3250
  refine y_same (i := .istore 5) (len := 2) (r := (0, 0, 0, 0)) (pc' := 37) (ls' := [some (.inl (some 52)), some (zi xf), some (zi xw), some (zi xr), some (zi xl), some (zi y3250), none, none, none, none, none]) (st' := []) (by decide +kernel) (fun k q => by cases q) rfl ?_
  refine y_same (i := .iload 4) (len := 2) (r := (0, 0, 0, 0)) (pc' := 39) (ls' := [some (.inl (some 52)), some (zi xf), some (zi xw), some (zi xr), some (zi xl), some (zi y3250), none, none, none, none, none]) (st' := [zi xl]) (by decide +kernel) (fun k q => by cases q) rfl ?_
  refine y_cI (i := .invokestatic 249) (len := 3) (r := (1, 197, 12, 1644)) (nL := 1) (k := 1) (n := 1) (hs := []) (args := [zi xl]) (rest := []) (l0 := [some (zi xl)]) (by decide +kernel) (Or.inl ⟨_, rfl⟩) rfl rfl rfl rfl (Nat.le_of_ble_eq_true rfl) rfl rfl (qI_le (by omega) (e_leftAt (d := 0) (by omega) (by omega))) (fun y3251 qy3251 hRy3251 => ?_)
  obtain ⟨rfl, hy3251⟩ := hRy3251
  refine y_same (i := .istore 6) (len := 2) (r := (0, 0, 0, 0)) (pc' := 44) (ls' := [some (.inl (some 52)), some (zi xf), some (zi xw), some (zi xr), some (zi xl), some (zi y3250), some (zi y3251), none, none, none, none]) (st' := []) (by decide +kernel) (fun k q => by cases q) rfl ?_
  have oiq := okQ_L Q3247.2.2.2 kiq
  have piq := oiq.1
  unfold okV at piq
  obtain ⟨aiq, biq, ciq, diq, ⟨haiq, hbiq, hciq, hdiq⟩, eaiq, ebiq, eciq, ediq⟩ := qm_itL Q3247 kiq
  have oip := okQ_R Q3247.2.2.2 kip
  have pip := oip.1
  unfold okV at pip
  obtain ⟨aip, bip, cip, dip, ⟨haip, hbip, hcip, hdip⟩, eaip, ebip, ecip, edip⟩ := qm_itR Q3247 kip
  refine y_same (i := .aload_n 0) (len := 1) (r := (0, 0, 0, 0)) (pc' := 45) (ls' := [some (.inl (some 52)), some (zi xf), some (zi xw), some (zi xr), some (zi xl), some (zi y3250), some (zi y3251), none, none, none, none]) (st' := [.inl (some 52)]) (by decide +kernel) (fun k q => by cases q) rfl ?_
  refine y_get (j := 61) (len := 3) (r := (12, 23, 2, 1351)) (by decide +kernel) Q3247.1 (t52 Q3247.1) at52 rfl rfl (g_r52 (f := 23) (T2 := 378) Q3247.1 rfl (by decide)).1 ?_
  refine y_same (i := .iload 5) (len := 2) (r := (0, 0, 0, 0)) (pc' := 50) (ls' := [some (.inl (some 52)), some (zi xf), some (zi xw), some (zi xr), some (zi xl), some (zi y3250), some (zi y3251), none, none, none, none]) (st' := [zi y3250, .inl (some 378)]) (by decide +kernel) (fun k q => by cases q) rfl ?_
  refine y_ic (c := 1) (len := 1) (r := (0, 0, 0, 0)) (by decide +kernel) (by decide) (fun y3252 hy3252 => ?_)
  refine y_add (len := 1) (r := (0, 0, 0, 0)) (by decide +kernel) (by omega) (by omega) (fun y3253 hy3253 => ?_)
  refine y_ial (i := ((80 + 4 * r) + 1)) (len := 1) (r := (0, 0, 0, 0)) (by decide +kernel) Q3247.1 (tu378 Q3247.1) at378 (by omega) hbip ?_
  refine y_same (i := .istore 7) (len := 2) (r := (0, 0, 0, 0)) (pc' := 55) (ls' := [some (.inl (some 52)), some (zi xf), some (zi xw), some (zi xr), some (zi xl), some (zi y3250), some (zi y3251), some (zi bip), none, none, none]) (st' := []) (by decide +kernel) (fun k q => by cases q) rfl ?_
  refine y_same (i := .aload_n 0) (len := 1) (r := (0, 0, 0, 0)) (pc' := 56) (ls' := [some (.inl (some 52)), some (zi xf), some (zi xw), some (zi xr), some (zi xl), some (zi y3250), some (zi y3251), some (zi bip), none, none, none]) (st' := [.inl (some 52)]) (by decide +kernel) (fun k q => by cases q) rfl ?_
  refine y_get (j := 61) (len := 3) (r := (12, 23, 2, 1351)) (by decide +kernel) Q3247.1 (t52 Q3247.1) at52 rfl rfl (g_r52 (f := 23) (T2 := 378) Q3247.1 rfl (by decide)).1 ?_
  refine y_same (i := .iload 5) (len := 2) (r := (0, 0, 0, 0)) (pc' := 61) (ls' := [some (.inl (some 52)), some (zi xf), some (zi xw), some (zi xr), some (zi xl), some (zi y3250), some (zi y3251), some (zi bip), none, none, none]) (st' := [zi y3250, .inl (some 378)]) (by decide +kernel) (fun k q => by cases q) rfl ?_
  refine y_ic (c := 2) (len := 1) (r := (0, 0, 0, 0)) (by decide +kernel) (by decide) (fun y3254 hy3254 => ?_)
  refine y_add (len := 1) (r := (0, 0, 0, 0)) (by decide +kernel) (by omega) (by omega) (fun y3255 hy3255 => ?_)
  refine y_ial (i := ((80 + 4 * r) + 2)) (len := 1) (r := (0, 0, 0, 0)) (by decide +kernel) Q3247.1 (tu378 Q3247.1) at378 (by omega) hcip ?_
  refine y_same (i := .istore 8) (len := 2) (r := (0, 0, 0, 0)) (pc' := 66) (ls' := [some (.inl (some 52)), some (zi xf), some (zi xw), some (zi xr), some (zi xl), some (zi y3250), some (zi y3251), some (zi bip), some (zi cip), none, none]) (st' := []) (by decide +kernel) (fun k q => by cases q) rfl ?_
  refine y_same (i := .aload_n 0) (len := 1) (r := (0, 0, 0, 0)) (pc' := 67) (ls' := [some (.inl (some 52)), some (zi xf), some (zi xw), some (zi xr), some (zi xl), some (zi y3250), some (zi y3251), some (zi bip), some (zi cip), none, none]) (st' := [.inl (some 52)]) (by decide +kernel) (fun k q => by cases q) rfl ?_
  refine y_get (j := 61) (len := 3) (r := (12, 23, 2, 1351)) (by decide +kernel) Q3247.1 (t52 Q3247.1) at52 rfl rfl (g_r52 (f := 23) (T2 := 378) Q3247.1 rfl (by decide)).1 ?_
  refine y_same (i := .iload 6) (len := 2) (r := (0, 0, 0, 0)) (pc' := 72) (ls' := [some (.inl (some 52)), some (zi xf), some (zi xw), some (zi xr), some (zi xl), some (zi y3250), some (zi y3251), some (zi bip), some (zi cip), none, none]) (st' := [zi y3251, .inl (some 378)]) (by decide +kernel) (fun k q => by cases q) rfl ?_
  refine y_ic (c := 2) (len := 1) (r := (0, 0, 0, 0)) (by decide +kernel) (by decide) (fun y3256 hy3256 => ?_)
  refine y_add (len := 1) (r := (0, 0, 0, 0)) (by decide +kernel) (by omega) (by omega) (fun y3257 hy3257 => ?_)
  refine y_ial (i := ((24 + 4 * l) + 2)) (len := 1) (r := (0, 0, 0, 0)) (by decide +kernel) Q3247.1 (tu378 Q3247.1) at378 (by omega) hciq ?_
  refine y_same (i := .istore 9) (len := 2) (r := (0, 0, 0, 0)) (pc' := 77) (ls' := [some (.inl (some 52)), some (zi xf), some (zi xw), some (zi xr), some (zi xl), some (zi y3250), some (zi y3251), some (zi bip), some (zi cip), some (zi ciq), none]) (st' := []) (by decide +kernel) (fun k q => by cases q) rfl ?_
  refine y_same (i := .aload_n 0) (len := 1) (r := (0, 0, 0, 0)) (pc' := 78) (ls' := [some (.inl (some 52)), some (zi xf), some (zi xw), some (zi xr), some (zi xl), some (zi y3250), some (zi y3251), some (zi bip), some (zi cip), some (zi ciq), none]) (st' := [.inl (some 52)]) (by decide +kernel) (fun k q => by cases q) rfl ?_
  refine y_get (j := 61) (len := 3) (r := (12, 23, 2, 1351)) (by decide +kernel) Q3247.1 (t52 Q3247.1) at52 rfl rfl (g_r52 (f := 23) (T2 := 378) Q3247.1 rfl (by decide)).1 ?_
  refine y_same (i := .iload 6) (len := 2) (r := (0, 0, 0, 0)) (pc' := 83) (ls' := [some (.inl (some 52)), some (zi xf), some (zi xw), some (zi xr), some (zi xl), some (zi y3250), some (zi y3251), some (zi bip), some (zi cip), some (zi ciq), none]) (st' := [zi y3251, .inl (some 378)]) (by decide +kernel) (fun k q => by cases q) rfl ?_
  refine y_ic (c := 3) (len := 1) (r := (0, 0, 0, 0)) (by decide +kernel) (by decide) (fun y3258 hy3258 => ?_)
  refine y_add (len := 1) (r := (0, 0, 0, 0)) (by decide +kernel) (by omega) (by omega) (fun y3259 hy3259 => ?_)
  refine y_ial (i := ((24 + 4 * l) + 3)) (len := 1) (r := (0, 0, 0, 0)) (by decide +kernel) Q3247.1 (tu378 Q3247.1) at378 (by omega) hdiq ?_
  refine y_same (i := .istore 10) (len := 2) (r := (0, 0, 0, 0)) (pc' := 88) (ls' := [some (.inl (some 52)), some (zi xf), some (zi xw), some (zi xr), some (zi xl), some (zi y3250), some (zi y3251), some (zi bip), some (zi cip), some (zi ciq), some (zi diq)]) (st' := []) (by decide +kernel) (fun k q => by cases q) rfl ?_
  refine y_same (i := .aload_n 0) (len := 1) (r := (0, 0, 0, 0)) (pc' := 89) (ls' := [some (.inl (some 52)), some (zi xf), some (zi xw), some (zi xr), some (zi xl), some (zi y3250), some (zi y3251), some (zi bip), some (zi cip), some (zi ciq), some (zi diq)]) (st' := [.inl (some 52)]) (by decide +kernel) (fun k q => by cases q) rfl ?_
  refine y_get (j := 46) (len := 3) (r := (12, 18, 2, 1346)) (by decide +kernel) Q3247.1 (t52 Q3247.1) at52 rfl rfl (g_r52 (f := 18) (T2 := 373) Q3247.1 rfl (by decide)).1 ?_
  refine y_same (i := .iload_n 1) (len := 1) (r := (0, 0, 0, 0)) (pc' := 93) (ls' := [some (.inl (some 52)), some (zi xf), some (zi xw), some (zi xr), some (zi xl), some (zi y3250), some (zi y3251), some (zi bip), some (zi cip), some (zi ciq), some (zi diq)]) (st' := [zi xf, .inl (some 373)]) (by decide +kernel) (fun k q => by cases q) rfl ?_
  have hv3260 := (F3247 373 i (by omega)).trans hxs
  refine y_ial (i := i) (len := 1) (r := (0, 0, 0, 0)) (by decide +kernel) Q3247.1 (tu373 Q3247.1) at373 (by omega) hv3260 ?_
  rcases (show xs.toInt = 3 ∨ xs.toInt = 4 ∨ xs.toInt = 5 ∨ xs.toInt = 6 ∨ xs.toInt = 7 ∨ (xs.toInt < 3 ∨ 7 < xs.toInt) by omega) with q3261 | q3261 | q3261 | q3261 | q3261 | q3261
  ·
    refine y_sw (dflt := 164) (lo := 3) (hi := 7) (offs := #[34, 53, 112, 125, 156]) (off := 34) (pc' := 128) (len := 34) (r := (0, 0, 0, 0)) (by decide +kernel) (zswI (k := 0) (by omega) (by omega) (by omega) rfl) (by decide +kernel) ?_
    refine y_same (i := .aload_n 0) (len := 1) (r := (0, 0, 0, 0)) (pc' := 129) (ls' := [some (.inl (some 52)), some (zi xf), some (zi xw), some (zi xr), some (zi xl), some (zi y3250), some (zi y3251), some (zi bip), some (zi cip), some (zi ciq), some (zi diq)]) (st' := [.inl (some 52)]) (by decide +kernel) (fun k q => by cases q) rfl ?_
    refine y_get (j := 61) (len := 3) (r := (12, 23, 2, 1351)) (by decide +kernel) Q3247.1 (t52 Q3247.1) at52 rfl rfl (g_r52 (f := 23) (T2 := 378) Q3247.1 rfl (by decide)).1 ?_
    refine y_same (i := .iload_n 3) (len := 1) (r := (0, 0, 0, 0)) (pc' := 133) (ls' := [some (.inl (some 52)), some (zi xf), some (zi xw), some (zi xr), some (zi xl), some (zi y3250), some (zi y3251), some (zi bip), some (zi cip), some (zi ciq), some (zi diq)]) (st' := [zi xr, .inl (some 378)]) (by decide +kernel) (fun k q => by cases q) rfl ?_
    refine y_cV (i := .invokestatic 295) (len := 3) (r := (1, 209, 12, 1679)) (nL := 2) (k := 0) (n := 2) (hs := []) (args := [.inl (some 378), zi xr]) (rest := []) (l0 := [some (.inl (some 378)), some (zi xr)]) (by decide +kernel) (Or.inl ⟨_, rfl⟩) rfl rfl rfl rfl (Nat.le_of_ble_eq_true rfl) rfl rfl (qV_le (by omega) (m_goR1 (d := 0) (k := r) Q3247 (by omega) (by first | exact hr9 | (show r < _; omega)))) (fun h3262 hR3262 => ?_)
    obtain ⟨Q3262, F3262⟩ := hR3262
    refine y_same (i := .aload_n 0) (len := 1) (r := (0, 0, 0, 0)) (pc' := 137) (ls' := [some (.inl (some 52)), some (zi xf), some (zi xw), some (zi xr), some (zi xl), some (zi y3250), some (zi y3251), some (zi bip), some (zi cip), some (zi ciq), some (zi diq)]) (st' := [.inl (some 52)]) (by decide +kernel) (fun k q => by cases q) rfl ?_
    refine y_get (j := 61) (len := 3) (r := (12, 23, 2, 1351)) (by decide +kernel) Q3262.1 (t52 Q3262.1) at52 rfl rfl (g_r52 (f := 23) (T2 := 378) Q3262.1 rfl (by decide)).1 ?_
    refine y_same (i := .iload 4) (len := 2) (r := (0, 0, 0, 0)) (pc' := 142) (ls' := [some (.inl (some 52)), some (zi xf), some (zi xw), some (zi xr), some (zi xl), some (zi y3250), some (zi y3251), some (zi bip), some (zi cip), some (zi ciq), some (zi diq)]) (st' := [zi xl, .inl (some 378)]) (by decide +kernel) (fun k q => by cases q) rfl ?_
    refine y_cV (i := .invokestatic 284) (len := 3) (r := (1, 208, 12, 1682)) (nL := 2) (k := 0) (n := 2) (hs := []) (args := [.inl (some 378), zi xl]) (rest := []) (l0 := [some (.inl (some 378)), some (zi xl)]) (by decide +kernel) (Or.inl ⟨_, rfl⟩) rfl rfl rfl rfl (Nat.le_of_ble_eq_true rfl) rfl rfl (qV_le (by omega) (m_goL1 (d := 0) (k := l) Q3262 (by omega) (by first | exact hl9 | (show l < _; omega)))) (fun h3263 hR3263 => ?_)
    obtain ⟨Q3263, F3263⟩ := hR3263
    refine y_ic (c := 1) (len := 1) (r := (0, 0, 0, 0)) (by decide +kernel) (by decide) (fun y3264 hy3264 => ?_)
    refine y_rI (len := 1) (r := (0, 0, 0, 0)) (nL := 11) (k := 2) (n9 := 3) (hs := []) (by decide +kernel) rfl (zfit_b (by omega) (by omega)).2 ?_
    obtain rfl : st = 3 := by omega
    exact Or.inl ⟨by omega, _, rfl, Q3263, fun k j hC => ((F3263 k j (by omega)).trans ((F3262 k j (by omega)).trans (F3247 k j (by omega))))⟩
  ·
    refine y_sw (dflt := 164) (lo := 3) (hi := 7) (offs := #[34, 53, 112, 125, 156]) (off := 53) (pc' := 147) (len := 34) (r := (0, 0, 0, 0)) (by decide +kernel) (zswI (k := 1) (by omega) (by omega) (by omega) rfl) (by decide +kernel) ?_
    refine y_same (i := .aload_n 0) (len := 1) (r := (0, 0, 0, 0)) (pc' := 148) (ls' := [some (.inl (some 52)), some (zi xf), some (zi xw), some (zi xr), some (zi xl), some (zi y3250), some (zi y3251), some (zi bip), some (zi cip), some (zi ciq), some (zi diq)]) (st' := [.inl (some 52)]) (by decide +kernel) (fun k q => by cases q) rfl ?_
    refine y_get (j := 61) (len := 3) (r := (12, 23, 2, 1351)) (by decide +kernel) Q3247.1 (t52 Q3247.1) at52 rfl rfl (g_r52 (f := 23) (T2 := 378) Q3247.1 rfl (by decide)).1 ?_
    refine y_same (i := .iload 9) (len := 2) (r := (0, 0, 0, 0)) (pc' := 153) (ls' := [some (.inl (some 52)), some (zi xf), some (zi xw), some (zi xr), some (zi xl), some (zi y3250), some (zi y3251), some (zi bip), some (zi cip), some (zi ciq), some (zi diq)]) (st' := [zi ciq, .inl (some 378)]) (by decide +kernel) (fun k q => by cases q) rfl ?_
    refine y_same (i := .iload 8) (len := 2) (r := (0, 0, 0, 0)) (pc' := 155) (ls' := [some (.inl (some 52)), some (zi xf), some (zi xw), some (zi xr), some (zi xl), some (zi y3250), some (zi y3251), some (zi bip), some (zi cip), some (zi ciq), some (zi diq)]) (st' := [zi cip, zi ciq, .inl (some 378)]) (by decide +kernel) (fun k q => by cases q) rfl ?_
    obtain ⟨z3266, hz3266, ez3266⟩ := Q3247.2.2.1.2.2.1
    have ez3266 : z3266.toInt = ((s.2.2.1.length : Nat) : Int) := ez3266
    have mz3266 := qm_lenC Q3247
    have mz3266 : s.2.2.1.length ≤ 14 := mz3266
    refine y_cV (i := .invokestatic 329) (len := 3) (r := (1, 210, 12, 1685)) (nL := 3) (k := 0) (n := 3) (hs := []) (args := [.inl (some 378), zi ciq, zi cip]) (rest := []) (l0 := [some (.inl (some 378)), some (zi ciq), some (zi cip)]) (by decide +kernel) (Or.inl ⟨_, rfl⟩) rfl rfl rfl rfl (Nat.le_of_ble_eq_true rfl) rfl rfl (qV_le (by omega) (m_cls (d := 0) (x := iq.2.2.1) (y := ip.2.2.1) Q3247 (by omega) (by omega) (by omega) (by omega) (room378 Q3247.1 (show s.2.2.1.length + 1 ≤ 14 by omega)))) (fun h3265 hR3265 => ?_)
    obtain ⟨Q3265, F3265⟩ := hR3265
    have la3265 : (s.2.2.1 ++ [(1, iq.2.2.1, ip.2.2.1, 0)]).length = s.2.2.1.length + 1 := List.length_append
    refine y_same (i := .aload_n 0) (len := 1) (r := (0, 0, 0, 0)) (pc' := 159) (ls' := [some (.inl (some 52)), some (zi xf), some (zi xw), some (zi xr), some (zi xl), some (zi y3250), some (zi y3251), some (zi bip), some (zi cip), some (zi ciq), some (zi diq)]) (st' := [.inl (some 52)]) (by decide +kernel) (fun k q => by cases q) rfl ?_
    refine y_get (j := 61) (len := 3) (r := (12, 23, 2, 1351)) (by decide +kernel) Q3265.1 (t52 Q3265.1) at52 rfl rfl (g_r52 (f := 23) (T2 := 378) Q3265.1 rfl (by decide)).1 ?_
    refine y_same (i := .iload 5) (len := 2) (r := (0, 0, 0, 0)) (pc' := 164) (ls' := [some (.inl (some 52)), some (zi xf), some (zi xw), some (zi xr), some (zi xl), some (zi y3250), some (zi y3251), some (zi bip), some (zi cip), some (zi ciq), some (zi diq)]) (st' := [zi y3250, .inl (some 378)]) (by decide +kernel) (fun k q => by cases q) rfl ?_
    obtain ⟨i3267, ki3267, zi3267⟩ : ∃ i9, s.2.1[r]? = some i9 ∧ i9 = ip := ⟨_, kip, rfl⟩
    obtain ⟨zai3267, zbi3267, zci3267, zdi3267⟩ : i3267.1 = ip.1 ∧ i3267.2.1 = ip.2.1 ∧ i3267.2.2.1 = ip.2.2.1 ∧ i3267.2.2.2 = ip.2.2.2 := by rw [zi3267]; exact ⟨rfl, rfl, rfl, rfl⟩
    have oi3267 := okQ_R Q3265.2.2.2 ki3267
    have pi3267 := oi3267.1
    unfold okV at pi3267
    obtain ⟨ai3267, bi3267, ci3267, di3267, ⟨hai3267, hbi3267, hci3267, hdi3267⟩, eai3267, ebi3267, eci3267, edi3267⟩ := qm_itR Q3265 ki3267
    refine y_ial (i := (80 + 4 * r)) (len := 1) (r := (0, 0, 0, 0)) (by decide +kernel) Q3265.1 (tu378 Q3265.1) at378 (by omega) hai3267 ?_
    refine y_ic (c := 1) (len := 1) (r := (0, 0, 0, 0)) (by decide +kernel) (by decide) (fun y3268 hy3268 => ?_)
    rcases Decidable.em (ai3267.toInt ≠ y3268.toInt) with q3269 | q3269
    ·
      refine y_cT (c := .ne) (off := 21) (pc' := 187) (len := 3) (r := (0, 0, 0, 0)) (by decide +kernel) (acmpT (c := .ne) (by show ¬ (_ = _); omega)) (by decide +kernel) ?_
      refine y_same (i := .aload_n 0) (len := 1) (r := (0, 0, 0, 0)) (pc' := 188) (ls' := [some (.inl (some 52)), some (zi xf), some (zi xw), some (zi xr), some (zi xl), some (zi y3250), some (zi y3251), some (zi bip), some (zi cip), some (zi ciq), some (zi diq)]) (st' := [.inl (some 52)]) (by decide +kernel) (fun k q => by cases q) rfl ?_
      refine y_get (j := 61) (len := 3) (r := (12, 23, 2, 1351)) (by decide +kernel) Q3265.1 (t52 Q3265.1) at52 rfl rfl (g_r52 (f := 23) (T2 := 378) Q3265.1 rfl (by decide)).1 ?_
      refine y_same (i := .iload_n 3) (len := 1) (r := (0, 0, 0, 0)) (pc' := 192) (ls' := [some (.inl (some 52)), some (zi xf), some (zi xw), some (zi xr), some (zi xl), some (zi y3250), some (zi y3251), some (zi bip), some (zi cip), some (zi ciq), some (zi diq)]) (st' := [zi xr, .inl (some 378)]) (by decide +kernel) (fun k q => by cases q) rfl ?_
      refine y_cV (i := .invokestatic 295) (len := 3) (r := (1, 209, 12, 1679)) (nL := 2) (k := 0) (n := 2) (hs := []) (args := [.inl (some 378), zi xr]) (rest := []) (l0 := [some (.inl (some 378)), some (zi xr)]) (by decide +kernel) (Or.inl ⟨_, rfl⟩) rfl rfl rfl rfl (Nat.le_of_ble_eq_true rfl) rfl rfl (qV_le (by omega) (m_goR1 (d := 0) (k := r) Q3265 (by omega) (by first | exact hr9 | (show r < _; omega)))) (fun h3270 hR3270 => ?_)
      obtain ⟨Q3270, F3270⟩ := hR3270
      refine y_same (i := .aload_n 0) (len := 1) (r := (0, 0, 0, 0)) (pc' := 196) (ls' := [some (.inl (some 52)), some (zi xf), some (zi xw), some (zi xr), some (zi xl), some (zi y3250), some (zi y3251), some (zi bip), some (zi cip), some (zi ciq), some (zi diq)]) (st' := [.inl (some 52)]) (by decide +kernel) (fun k q => by cases q) rfl ?_
      refine y_get (j := 61) (len := 3) (r := (12, 23, 2, 1351)) (by decide +kernel) Q3270.1 (t52 Q3270.1) at52 rfl rfl (g_r52 (f := 23) (T2 := 378) Q3270.1 rfl (by decide)).1 ?_
      refine y_same (i := .iload 4) (len := 2) (r := (0, 0, 0, 0)) (pc' := 201) (ls' := [some (.inl (some 52)), some (zi xf), some (zi xw), some (zi xr), some (zi xl), some (zi y3250), some (zi y3251), some (zi bip), some (zi cip), some (zi ciq), some (zi diq)]) (st' := [zi xl, .inl (some 378)]) (by decide +kernel) (fun k q => by cases q) rfl ?_
      refine y_cV (i := .invokestatic 284) (len := 3) (r := (1, 208, 12, 1682)) (nL := 2) (k := 0) (n := 2) (hs := []) (args := [.inl (some 378), zi xl]) (rest := []) (l0 := [some (.inl (some 378)), some (zi xl)]) (by decide +kernel) (Or.inl ⟨_, rfl⟩) rfl rfl rfl rfl (Nat.le_of_ble_eq_true rfl) rfl rfl (qV_le (by omega) (m_goL1 (d := 0) (k := l) Q3270 (by omega) (by first | exact hl9 | (show l < _; omega)))) (fun h3271 hR3271 => ?_)
      obtain ⟨Q3271, F3271⟩ := hR3271
      refine y_ic (c := 1) (len := 1) (r := (0, 0, 0, 0)) (by decide +kernel) (by decide) (fun y3272 hy3272 => ?_)
      refine y_rI (len := 1) (r := (0, 0, 0, 0)) (nL := 11) (k := 2) (n9 := 3) (hs := []) (by decide +kernel) rfl (zfit_b (by omega) (by omega)).2 ?_
      obtain rfl : st = 4 := by omega
      exact Or.inl ⟨by omega, _, by show some _ = some _; rw [if_neg (by omega)], Q3271, fun k j hC => ((F3271 k j (by omega)).trans ((F3270 k j (by omega)).trans ((F3265 k j (by omega)).trans (F3247 k j (by omega)))))⟩
    ·
      refine y_cF (c := .ne) (off := 21) (len := 3) (r := (0, 0, 0, 0)) (by decide +kernel) (acmpF (c := .ne) (by show _ = _; omega)) ?_
      refine y_same (i := .aload_n 0) (len := 1) (r := (0, 0, 0, 0)) (pc' := 170) (ls' := [some (.inl (some 52)), some (zi xf), some (zi xw), some (zi xr), some (zi xl), some (zi y3250), some (zi y3251), some (zi bip), some (zi cip), some (zi ciq), some (zi diq)]) (st' := [.inl (some 52)]) (by decide +kernel) (fun k q => by cases q) rfl ?_
      refine y_get (j := 61) (len := 3) (r := (12, 23, 2, 1351)) (by decide +kernel) Q3265.1 (t52 Q3265.1) at52 rfl rfl (g_r52 (f := 23) (T2 := 378) Q3265.1 rfl (by decide)).1 ?_
      refine y_same (i := .iload 10) (len := 2) (r := (0, 0, 0, 0)) (pc' := 175) (ls' := [some (.inl (some 52)), some (zi xf), some (zi xw), some (zi xr), some (zi xl), some (zi y3250), some (zi y3251), some (zi bip), some (zi cip), some (zi ciq), some (zi diq)]) (st' := [zi diq, .inl (some 378)]) (by decide +kernel) (fun k q => by cases q) rfl ?_
      refine y_same (i := .aload_n 0) (len := 1) (r := (0, 0, 0, 0)) (pc' := 176) (ls' := [some (.inl (some 52)), some (zi xf), some (zi xw), some (zi xr), some (zi xl), some (zi y3250), some (zi y3251), some (zi bip), some (zi cip), some (zi ciq), some (zi diq)]) (st' := [.inl (some 52), zi diq, .inl (some 378)]) (by decide +kernel) (fun k q => by cases q) rfl ?_
      refine y_get (j := 61) (len := 3) (r := (12, 23, 2, 1351)) (by decide +kernel) Q3265.1 (t52 Q3265.1) at52 rfl rfl (g_r52 (f := 23) (T2 := 378) Q3265.1 rfl (by decide)).1 ?_
      refine y_same (i := .iload 5) (len := 2) (r := (0, 0, 0, 0)) (pc' := 181) (ls' := [some (.inl (some 52)), some (zi xf), some (zi xw), some (zi xr), some (zi xl), some (zi y3250), some (zi y3251), some (zi bip), some (zi cip), some (zi ciq), some (zi diq)]) (st' := [zi y3250, .inl (some 378), zi diq, .inl (some 378)]) (by decide +kernel) (fun k q => by cases q) rfl ?_
      refine y_ic (c := 3) (len := 1) (r := (0, 0, 0, 0)) (by decide +kernel) (by decide) (fun y3273 hy3273 => ?_)
      refine y_add (len := 1) (r := (0, 0, 0, 0)) (by decide +kernel) (by omega) (by omega) (fun y3274 hy3274 => ?_)
      refine y_ial (i := ((80 + 4 * r) + 3)) (len := 1) (r := (0, 0, 0, 0)) (by decide +kernel) Q3265.1 (tu378 Q3265.1) at378 (by omega) hdi3267 ?_
      obtain ⟨z3276, hz3276, ez3276⟩ := Q3265.2.2.1.2.2.1
      have ez3276 : z3276.toInt = (((s.2.2.1 ++ [(1, iq.2.2.1, ip.2.2.1, 0)]).length : Nat) : Int) := ez3276
      have mz3276 := qm_lenC Q3265
      have mz3276 : (s.2.2.1 ++ [(1, iq.2.2.1, ip.2.2.1, 0)]).length ≤ 14 := mz3276
      refine y_cV (i := .invokestatic 329) (len := 3) (r := (1, 210, 12, 1685)) (nL := 3) (k := 0) (n := 3) (hs := []) (args := [.inl (some 378), zi diq, zi di3267]) (rest := []) (l0 := [some (.inl (some 378)), some (zi diq), some (zi di3267)]) (by decide +kernel) (Or.inl ⟨_, rfl⟩) rfl rfl rfl rfl (Nat.le_of_ble_eq_true rfl) rfl rfl (qV_le (by omega) (m_cls (d := 0) (x := iq.2.2.2) (y := ip.2.2.2) Q3265 (by omega) (by omega) (by omega) (by omega) (room378 Q3265.1 (show (s.2.2.1 ++ [(1, iq.2.2.1, ip.2.2.1, 0)]).length + 1 ≤ 14 by omega)))) (fun h3275 hR3275 => ?_)
      obtain ⟨Q3275, F3275⟩ := hR3275
      have la3275 : ((s.2.2.1 ++ [(1, iq.2.2.1, ip.2.2.1, 0)]) ++ [(1, iq.2.2.2, ip.2.2.2, 0)]).length = (s.2.2.1 ++ [(1, iq.2.2.1, ip.2.2.1, 0)]).length + 1 := List.length_append
      refine y_same (i := .aload_n 0) (len := 1) (r := (0, 0, 0, 0)) (pc' := 188) (ls' := [some (.inl (some 52)), some (zi xf), some (zi xw), some (zi xr), some (zi xl), some (zi y3250), some (zi y3251), some (zi bip), some (zi cip), some (zi ciq), some (zi diq)]) (st' := [.inl (some 52)]) (by decide +kernel) (fun k q => by cases q) rfl ?_
      refine y_get (j := 61) (len := 3) (r := (12, 23, 2, 1351)) (by decide +kernel) Q3275.1 (t52 Q3275.1) at52 rfl rfl (g_r52 (f := 23) (T2 := 378) Q3275.1 rfl (by decide)).1 ?_
      refine y_same (i := .iload_n 3) (len := 1) (r := (0, 0, 0, 0)) (pc' := 192) (ls' := [some (.inl (some 52)), some (zi xf), some (zi xw), some (zi xr), some (zi xl), some (zi y3250), some (zi y3251), some (zi bip), some (zi cip), some (zi ciq), some (zi diq)]) (st' := [zi xr, .inl (some 378)]) (by decide +kernel) (fun k q => by cases q) rfl ?_
      refine y_cV (i := .invokestatic 295) (len := 3) (r := (1, 209, 12, 1679)) (nL := 2) (k := 0) (n := 2) (hs := []) (args := [.inl (some 378), zi xr]) (rest := []) (l0 := [some (.inl (some 378)), some (zi xr)]) (by decide +kernel) (Or.inl ⟨_, rfl⟩) rfl rfl rfl rfl (Nat.le_of_ble_eq_true rfl) rfl rfl (qV_le (by omega) (m_goR1 (d := 0) (k := r) Q3275 (by omega) (by first | exact hr9 | (show r < _; omega)))) (fun h3277 hR3277 => ?_)
      obtain ⟨Q3277, F3277⟩ := hR3277
      refine y_same (i := .aload_n 0) (len := 1) (r := (0, 0, 0, 0)) (pc' := 196) (ls' := [some (.inl (some 52)), some (zi xf), some (zi xw), some (zi xr), some (zi xl), some (zi y3250), some (zi y3251), some (zi bip), some (zi cip), some (zi ciq), some (zi diq)]) (st' := [.inl (some 52)]) (by decide +kernel) (fun k q => by cases q) rfl ?_
      refine y_get (j := 61) (len := 3) (r := (12, 23, 2, 1351)) (by decide +kernel) Q3277.1 (t52 Q3277.1) at52 rfl rfl (g_r52 (f := 23) (T2 := 378) Q3277.1 rfl (by decide)).1 ?_
      refine y_same (i := .iload 4) (len := 2) (r := (0, 0, 0, 0)) (pc' := 201) (ls' := [some (.inl (some 52)), some (zi xf), some (zi xw), some (zi xr), some (zi xl), some (zi y3250), some (zi y3251), some (zi bip), some (zi cip), some (zi ciq), some (zi diq)]) (st' := [zi xl, .inl (some 378)]) (by decide +kernel) (fun k q => by cases q) rfl ?_
      refine y_cV (i := .invokestatic 284) (len := 3) (r := (1, 208, 12, 1682)) (nL := 2) (k := 0) (n := 2) (hs := []) (args := [.inl (some 378), zi xl]) (rest := []) (l0 := [some (.inl (some 378)), some (zi xl)]) (by decide +kernel) (Or.inl ⟨_, rfl⟩) rfl rfl rfl rfl (Nat.le_of_ble_eq_true rfl) rfl rfl (qV_le (by omega) (m_goL1 (d := 0) (k := l) Q3277 (by omega) (by first | exact hl9 | (show l < _; omega)))) (fun h3278 hR3278 => ?_)
      obtain ⟨Q3278, F3278⟩ := hR3278
      refine y_ic (c := 1) (len := 1) (r := (0, 0, 0, 0)) (by decide +kernel) (by decide) (fun y3279 hy3279 => ?_)
      refine y_rI (len := 1) (r := (0, 0, 0, 0)) (nL := 11) (k := 2) (n9 := 3) (hs := []) (by decide +kernel) rfl (zfit_b (by omega) (by omega)).2 ?_
      obtain rfl : st = 4 := by omega
      exact Or.inl ⟨by omega, _, by show some _ = some _; rw [if_pos (by omega)], Q3278, fun k j hC => ((F3278 k j (by omega)).trans ((F3277 k j (by omega)).trans ((F3275 k j (by omega)).trans ((F3265 k j (by omega)).trans (F3247 k j (by omega))))))⟩
  ·
    refine y_sw (dflt := 164) (lo := 3) (hi := 7) (offs := #[34, 53, 112, 125, 156]) (off := 112) (pc' := 206) (len := 34) (r := (0, 0, 0, 0)) (by decide +kernel) (zswI (k := 2) (by omega) (by omega) (by omega) rfl) (by decide +kernel) ?_
    refine y_same (i := .aload_n 0) (len := 1) (r := (0, 0, 0, 0)) (pc' := 207) (ls' := [some (.inl (some 52)), some (zi xf), some (zi xw), some (zi xr), some (zi xl), some (zi y3250), some (zi y3251), some (zi bip), some (zi cip), some (zi ciq), some (zi diq)]) (st' := [.inl (some 52)]) (by decide +kernel) (fun k q => by cases q) rfl ?_
    refine y_same (i := .iload_n 3) (len := 1) (r := (0, 0, 0, 0)) (pc' := 208) (ls' := [some (.inl (some 52)), some (zi xf), some (zi xw), some (zi xr), some (zi xl), some (zi y3250), some (zi y3251), some (zi bip), some (zi cip), some (zi ciq), some (zi diq)]) (st' := [zi xr, .inl (some 52)]) (by decide +kernel) (fun k q => by cases q) rfl ?_
    refine y_same (i := .iload 4) (len := 2) (r := (0, 0, 0, 0)) (pc' := 210) (ls' := [some (.inl (some 52)), some (zi xf), some (zi xw), some (zi xr), some (zi xl), some (zi y3250), some (zi y3251), some (zi bip), some (zi cip), some (zi ciq), some (zi diq)]) (st' := [zi xl, zi xr, .inl (some 52)]) (by decide +kernel) (fun k q => by cases q) rfl ?_
    refine y_same (i := .iload 9) (len := 2) (r := (0, 0, 0, 0)) (pc' := 212) (ls' := [some (.inl (some 52)), some (zi xf), some (zi xw), some (zi xr), some (zi xl), some (zi y3250), some (zi y3251), some (zi bip), some (zi cip), some (zi ciq), some (zi diq)]) (st' := [zi ciq, zi xl, zi xr, .inl (some 52)]) (by decide +kernel) (fun k q => by cases q) rfl ?_
    refine y_same (i := .iload 10) (len := 2) (r := (0, 0, 0, 0)) (pc' := 214) (ls' := [some (.inl (some 52)), some (zi xf), some (zi xw), some (zi xr), some (zi xl), some (zi y3250), some (zi y3251), some (zi bip), some (zi cip), some (zi ciq), some (zi diq)]) (st' := [zi diq, zi ciq, zi xl, zi xr, .inl (some 52)]) (by decide +kernel) (fun k q => by cases q) rfl ?_
    refine y_cV (i := .invokevirtual 332) (len := 3) (r := (0, 229, 12, 1688)) (nL := 6) (k := 0) (n := 5) (hs := []) (args := [.inl (some 52), zi xr, zi xl, zi ciq, zi diq]) (rest := []) (l0 := [some (.inl (some 52)), some (zi xr), some (zi xl), some (zi ciq), some (zi diq), none]) (by decide +kernel) (Or.inr (Or.inl ⟨_, rfl⟩)) rfl rfl rfl rfl (Nat.le_of_ble_eq_true rfl) (z52 Q3247.1) rfl (qV_le (by omega) (m_fld (d := 0) (r := r) (l := l) Q3247 nb (by omega) kip (by omega) kiq (by omega) (by omega))) (fun h3280 hR3280 => ?_)
    obtain ⟨Q3280, F3280⟩ := hR3280
    refine y_ic (c := 1) (len := 1) (r := (0, 0, 0, 0)) (by decide +kernel) (by decide) (fun y3281 hy3281 => ?_)
    refine y_rI (len := 1) (r := (0, 0, 0, 0)) (nL := 11) (k := 2) (n9 := 3) (hs := []) (by decide +kernel) rfl (zfit_b (by omega) (by omega)).2 ?_
    obtain rfl : st = 5 := by omega
    exact Or.inl ⟨by omega, _, rfl, Q3280, fun k j hC => ((F3280 k j (by omega)).trans (F3247 k j (by omega)))⟩
  ·
    refine y_sw (dflt := 164) (lo := 3) (hi := 7) (offs := #[34, 53, 112, 125, 156]) (off := 125) (pc' := 219) (len := 34) (r := (0, 0, 0, 0)) (by decide +kernel) (zswI (k := 3) (by omega) (by omega) (by omega) rfl) (by decide +kernel) ?_
    refine y_same (i := .iload_n 2) (len := 1) (r := (0, 0, 0, 0)) (pc' := 220) (ls' := [some (.inl (some 52)), some (zi xf), some (zi xw), some (zi xr), some (zi xl), some (zi y3250), some (zi y3251), some (zi bip), some (zi cip), some (zi ciq), some (zi diq)]) (st' := [zi xw]) (by decide +kernel) (fun k q => by cases q) rfl ?_
    rcases Decidable.em (xw.toInt ≠ 0) with q3282 | q3282
    ·
      refine y_iT (c := .ne) (off := 17) (pc' := 237) (len := 3) (r := (0, 0, 0, 0)) (by decide +kernel) (acmpT (c := .ne) (by show ¬ (_ = _); omega)) (by decide +kernel) ?_
      refine y_same (i := .aload_n 0) (len := 1) (r := (0, 0, 0, 0)) (pc' := 238) (ls' := [some (.inl (some 52)), some (zi xf), some (zi xw), some (zi xr), some (zi xl), some (zi y3250), some (zi y3251), some (zi bip), some (zi cip), some (zi ciq), some (zi diq)]) (st' := [.inl (some 52)]) (by decide +kernel) (fun k q => by cases q) rfl ?_
      refine y_get (j := 61) (len := 3) (r := (12, 23, 2, 1351)) (by decide +kernel) Q3247.1 (t52 Q3247.1) at52 rfl rfl (g_r52 (f := 23) (T2 := 378) Q3247.1 rfl (by decide)).1 ?_
      refine y_same (i := .iload 7) (len := 2) (r := (0, 0, 0, 0)) (pc' := 243) (ls' := [some (.inl (some 52)), some (zi xf), some (zi xw), some (zi xr), some (zi xl), some (zi y3250), some (zi y3251), some (zi bip), some (zi cip), some (zi ciq), some (zi diq)]) (st' := [zi bip, .inl (some 378)]) (by decide +kernel) (fun k q => by cases q) rfl ?_
      refine y_same (i := .iload 8) (len := 2) (r := (0, 0, 0, 0)) (pc' := 245) (ls' := [some (.inl (some 52)), some (zi xf), some (zi xw), some (zi xr), some (zi xl), some (zi y3250), some (zi y3251), some (zi bip), some (zi cip), some (zi ciq), some (zi diq)]) (st' := [zi cip, zi bip, .inl (some 378)]) (by decide +kernel) (fun k q => by cases q) rfl ?_
      refine y_cV (i := .invokestatic 266) (len := 3) (r := (1, 201, 12, 1672)) (nL := 3) (k := 0) (n := 3) (hs := []) (args := [.inl (some 378), zi bip, zi cip]) (rest := []) (l0 := [some (.inl (some 378)), some (zi bip), some (zi cip)]) (by decide +kernel) (Or.inl ⟨_, rfl⟩) rfl rfl rfl rfl (Nat.le_of_ble_eq_true rfl) rfl rfl (qV_le (by omega) (m_dfs (d := 0) (x := ip.2.1.toNat) (y := ip.2.2.1.toNat) Q3247 (by omega) (by omega) (by omega) (by omega))) (fun h3283 hR3283 => ?_)
      obtain ⟨Q3283, F3283⟩ := hR3283
      rw [show ((ip.2.1.toNat : Nat) : Int) = ip.2.1 by omega, show ((ip.2.2.1.toNat : Nat) : Int) = ip.2.2.1 by omega] at Q3283
      refine y_ic (c := 1) (len := 1) (r := (0, 0, 0, 0)) (by decide +kernel) (by decide) (fun y3284 hy3284 => ?_)
      refine y_rI (len := 1) (r := (0, 0, 0, 0)) (nL := 11) (k := 2) (n9 := 3) (hs := []) (by decide +kernel) rfl (zfit_b (by omega) (by omega)).2 ?_
      obtain rfl : st = 6 := by omega
      have ew : w = true := by
        cases w with
        | true => rfl
        | false => exact absurd (show xw.toInt = 0 from ew0) (by omega)
      subst ew
      exact Or.inl ⟨by omega, _, nx6_t, Q3283, fun k j hC => ((F3283 k j (by omega)).trans (F3247 k j (by omega)))⟩
    ·
      refine y_iF (c := .ne) (off := 17) (len := 3) (r := (0, 0, 0, 0)) (by decide +kernel) (acmpF (c := .ne) (by show _ = _; omega)) ?_
      refine y_same (i := .aload_n 0) (len := 1) (r := (0, 0, 0, 0)) (pc' := 224) (ls' := [some (.inl (some 52)), some (zi xf), some (zi xw), some (zi xr), some (zi xl), some (zi y3250), some (zi y3251), some (zi bip), some (zi cip), some (zi ciq), some (zi diq)]) (st' := [.inl (some 52)]) (by decide +kernel) (fun k q => by cases q) rfl ?_
      refine y_get (j := 61) (len := 3) (r := (12, 23, 2, 1351)) (by decide +kernel) Q3247.1 (t52 Q3247.1) at52 rfl rfl (g_r52 (f := 23) (T2 := 378) Q3247.1 rfl (by decide)).1 ?_
      refine y_same (i := .iload 7) (len := 2) (r := (0, 0, 0, 0)) (pc' := 229) (ls' := [some (.inl (some 52)), some (zi xf), some (zi xw), some (zi xr), some (zi xl), some (zi y3250), some (zi y3251), some (zi bip), some (zi cip), some (zi ciq), some (zi diq)]) (st' := [zi bip, .inl (some 378)]) (by decide +kernel) (fun k q => by cases q) rfl ?_
      refine y_same (i := .iload 8) (len := 2) (r := (0, 0, 0, 0)) (pc' := 231) (ls' := [some (.inl (some 52)), some (zi xf), some (zi xw), some (zi xr), some (zi xl), some (zi y3250), some (zi y3251), some (zi bip), some (zi cip), some (zi ciq), some (zi diq)]) (st' := [zi cip, zi bip, .inl (some 378)]) (by decide +kernel) (fun k q => by cases q) rfl ?_
      refine y_cV (i := .invokestatic 288) (len := 3) (r := (1, 206, 12, 1660)) (nL := 7) (k := 0) (n := 3) (hs := []) (args := [.inl (some 378), zi bip, zi cip]) (rest := []) (l0 := [some (.inl (some 378)), some (zi bip), some (zi cip), none, none, none, none]) (by decide +kernel) (Or.inl ⟨_, rfl⟩) rfl rfl rfl rfl (Nat.le_of_ble_eq_true rfl) rfl rfl (qV_le (by omega) (m_mk (d := 0) (x := ip.2.1) (y := ip.2.2.1) Q3247 (by omega) (by omega) (by omega) (by omega))) (fun h3285 hR3285 => ?_)
      obtain ⟨Q3285, F3285⟩ := hR3285
      refine y_goto (off := 14) (pc' := 248) (len := 3) (r := (0, 0, 0, 0)) (by decide +kernel) (by decide +kernel) ?_
      refine y_ic (c := 1) (len := 1) (r := (0, 0, 0, 0)) (by decide +kernel) (by decide) (fun y3286 hy3286 => ?_)
      refine y_rI (len := 1) (r := (0, 0, 0, 0)) (nL := 11) (k := 2) (n9 := 3) (hs := []) (by decide +kernel) rfl (zfit_b (by omega) (by omega)).2 ?_
      obtain rfl : st = 6 := by omega
      have ew : w = false := by
        cases w with
        | false => rfl
        | true => exact absurd (show xw.toInt = 1 from ew0) (by omega)
      subst ew
      exact Or.inl ⟨by omega, _, nx6_f, Q3285, fun k j hC => ((F3285 k j (by omega)).trans (F3247 k j (by omega)))⟩
  ·
    refine y_sw (dflt := 164) (lo := 3) (hi := 7) (offs := #[34, 53, 112, 125, 156]) (off := 156) (pc' := 250) (len := 34) (r := (0, 0, 0, 0)) (by decide +kernel) (zswI (k := 4) (by omega) (by omega) (by omega) rfl) (by decide +kernel) ?_
    refine y_same (i := .aload_n 0) (len := 1) (r := (0, 0, 0, 0)) (pc' := 251) (ls' := [some (.inl (some 52)), some (zi xf), some (zi xw), some (zi xr), some (zi xl), some (zi y3250), some (zi y3251), some (zi bip), some (zi cip), some (zi ciq), some (zi diq)]) (st' := [.inl (some 52)]) (by decide +kernel) (fun k q => by cases q) rfl ?_
    refine y_same (i := .iload 4) (len := 2) (r := (0, 0, 0, 0)) (pc' := 253) (ls' := [some (.inl (some 52)), some (zi xf), some (zi xw), some (zi xr), some (zi xl), some (zi y3250), some (zi y3251), some (zi bip), some (zi cip), some (zi ciq), some (zi diq)]) (st' := [zi xl, .inl (some 52)]) (by decide +kernel) (fun k q => by cases q) rfl ?_
    refine y_same (i := .iload_n 2) (len := 1) (r := (0, 0, 0, 0)) (pc' := 254) (ls' := [some (.inl (some 52)), some (zi xf), some (zi xw), some (zi xr), some (zi xl), some (zi y3250), some (zi y3251), some (zi bip), some (zi cip), some (zi ciq), some (zi diq)]) (st' := [zi xw, zi xl, .inl (some 52)]) (by decide +kernel) (fun k q => by cases q) rfl ?_
    refine y_cI (i := .invokevirtual 336) (len := 3) (r := (0, 230, 12, 1696)) (nL := 9) (k := 2) (n := 3) (hs := []) (args := [.inl (some 52), zi xl, zi xw]) (rest := []) (l0 := [some (.inl (some 52)), some (zi xl), some (zi xw), none, none, none, none, none, none]) (by decide +kernel) (Or.inr (Or.inl ⟨_, rfl⟩)) rfl rfl rfl rfl (Nat.le_of_ble_eq_true rfl) (z52 Q3247.1) rfl (qI_le (by omega) (m_unf (d := 0) (l := l) Q3247 nb (by omega) kiq (by omega) (xw := xw))) (fun y3287 h3287 hRy3287 => ?_)
    rcases hRy3287 with ⟨v3287, s3287, n3287, Q3287, F3287⟩ | ⟨v3287, n3287, s3287, Q3287, F3287⟩
    ·
      refine y_rI (len := 1) (r := (0, 0, 0, 0)) (nL := 11) (k := 2) (n9 := 3) (hs := []) (by decide +kernel) rfl (zfit_b (by omega) (by omega)).2 ?_
      obtain rfl : st = 7 := by omega
      exact Or.inl ⟨by omega, s3287, (nx7_w ew0).trans n3287, Q3287, fun k j hC => ((F3287 k j (by omega)).trans (F3247 k j (by omega)))⟩
    ·
      refine y_rI (len := 1) (r := (0, 0, 0, 0)) (nL := 11) (k := 2) (n9 := 3) (hs := []) (by decide +kernel) rfl (zfit_b (by omega) (by omega)).2 ?_
      obtain rfl : st = 7 := by omega
      exact Or.inr ⟨by omega, (nx7_w ew0).trans n3287, s3287, Q3287, fun k j hC => ((F3287 k j (by omega)).trans (F3247 k j (by omega)))⟩
  ·
    refine y_sw (dflt := 164) (lo := 3) (hi := 7) (offs := #[34, 53, 112, 125, 156]) (off := 164) (pc' := 258) (len := 34) (r := (0, 0, 0, 0)) (by decide +kernel) (zswO (by omega)) (by decide +kernel) ?_
    refine y_same (i := .aload_n 0) (len := 1) (r := (0, 0, 0, 0)) (pc' := 259) (ls' := [some (.inl (some 52)), some (zi xf), some (zi xw), some (zi xr), some (zi xl), some (zi y3250), some (zi y3251), some (zi bip), some (zi cip), some (zi ciq), some (zi diq)]) (st' := [.inl (some 52)]) (by decide +kernel) (fun k q => by cases q) rfl ?_
    refine y_get (j := 61) (len := 3) (r := (12, 23, 2, 1351)) (by decide +kernel) Q3247.1 (t52 Q3247.1) at52 rfl rfl (g_r52 (f := 23) (T2 := 378) Q3247.1 rfl (by decide)).1 ?_
    refine y_same (i := .iload 7) (len := 2) (r := (0, 0, 0, 0)) (pc' := 264) (ls' := [some (.inl (some 52)), some (zi xf), some (zi xw), some (zi xr), some (zi xl), some (zi y3250), some (zi y3251), some (zi bip), some (zi cip), some (zi ciq), some (zi diq)]) (st' := [zi bip, .inl (some 378)]) (by decide +kernel) (fun k q => by cases q) rfl ?_
    refine y_same (i := .aload_n 0) (len := 1) (r := (0, 0, 0, 0)) (pc' := 265) (ls' := [some (.inl (some 52)), some (zi xf), some (zi xw), some (zi xr), some (zi xl), some (zi y3250), some (zi y3251), some (zi bip), some (zi cip), some (zi ciq), some (zi diq)]) (st' := [.inl (some 52), zi bip, .inl (some 378)]) (by decide +kernel) (fun k q => by cases q) rfl ?_
    refine y_get (j := 61) (len := 3) (r := (12, 23, 2, 1351)) (by decide +kernel) Q3247.1 (t52 Q3247.1) at52 rfl rfl (g_r52 (f := 23) (T2 := 378) Q3247.1 rfl (by decide)).1 ?_
    refine y_same (i := .iload 5) (len := 2) (r := (0, 0, 0, 0)) (pc' := 270) (ls' := [some (.inl (some 52)), some (zi xf), some (zi xw), some (zi xr), some (zi xl), some (zi y3250), some (zi y3251), some (zi bip), some (zi cip), some (zi ciq), some (zi diq)]) (st' := [zi y3250, .inl (some 378), zi bip, .inl (some 378)]) (by decide +kernel) (fun k q => by cases q) rfl ?_
    refine y_ial (i := (80 + 4 * r)) (len := 1) (r := (0, 0, 0, 0)) (by decide +kernel) Q3247.1 (tu378 Q3247.1) at378 (by omega) haip ?_
    refine y_ic (c := 2) (len := 1) (r := (0, 0, 0, 0)) (by decide +kernel) (by decide) (fun y3288 hy3288 => ?_)
    rcases Decidable.em (aip.toInt ≠ y3288.toInt) with q3289 | q3289
    ·
      refine y_cT (c := .ne) (off := 8) (pc' := 280) (len := 3) (r := (0, 0, 0, 0)) (by decide +kernel) (acmpT (c := .ne) (by show ¬ (_ = _); omega)) (by decide +kernel) ?_
      refine y_ic (c := 0) (len := 1) (r := (0, 0, 0, 0)) (by decide +kernel) (by decide) (fun y3290 hy3290 => ?_)
      obtain ⟨z3292, hz3292, ez3292⟩ := Q3247.2.2.1.2.2.1
      have ez3292 : z3292.toInt = ((s.2.2.1.length : Nat) : Int) := ez3292
      have mz3292 := qm_lenC Q3247
      have mz3292 : s.2.2.1.length ≤ 14 := mz3292
      refine y_cV (i := .invokestatic 329) (len := 3) (r := (1, 210, 12, 1685)) (nL := 3) (k := 0) (n := 3) (hs := []) (args := [.inl (some 378), zi bip, zi y3290]) (rest := []) (l0 := [some (.inl (some 378)), some (zi bip), some (zi y3290)]) (by decide +kernel) (Or.inl ⟨_, rfl⟩) rfl rfl rfl rfl (Nat.le_of_ble_eq_true rfl) rfl rfl (qV_le (by omega) (m_cls (d := 0) (x := ip.2.1) (y := ip.2.2.1) Q3247 (by omega) (by omega) (by omega) (by omega) (room378 Q3247.1 (show s.2.2.1.length + 1 ≤ 14 by omega)))) (fun h3291 hR3291 => ?_)
      obtain ⟨Q3291, F3291⟩ := hR3291
      have la3291 : (s.2.2.1 ++ [(1, ip.2.1, ip.2.2.1, 0)]).length = s.2.2.1.length + 1 := List.length_append
      refine y_same (i := .aload_n 0) (len := 1) (r := (0, 0, 0, 0)) (pc' := 285) (ls' := [some (.inl (some 52)), some (zi xf), some (zi xw), some (zi xr), some (zi xl), some (zi y3250), some (zi y3251), some (zi bip), some (zi cip), some (zi ciq), some (zi diq)]) (st' := [.inl (some 52)]) (by decide +kernel) (fun k q => by cases q) rfl ?_
      refine y_get (j := 61) (len := 3) (r := (12, 23, 2, 1351)) (by decide +kernel) Q3291.1 (t52 Q3291.1) at52 rfl rfl (g_r52 (f := 23) (T2 := 378) Q3291.1 rfl (by decide)).1 ?_
      refine y_same (i := .iload_n 3) (len := 1) (r := (0, 0, 0, 0)) (pc' := 289) (ls' := [some (.inl (some 52)), some (zi xf), some (zi xw), some (zi xr), some (zi xl), some (zi y3250), some (zi y3251), some (zi bip), some (zi cip), some (zi ciq), some (zi diq)]) (st' := [zi xr, .inl (some 378)]) (by decide +kernel) (fun k q => by cases q) rfl ?_
      refine y_cV (i := .invokestatic 295) (len := 3) (r := (1, 209, 12, 1679)) (nL := 2) (k := 0) (n := 2) (hs := []) (args := [.inl (some 378), zi xr]) (rest := []) (l0 := [some (.inl (some 378)), some (zi xr)]) (by decide +kernel) (Or.inl ⟨_, rfl⟩) rfl rfl rfl rfl (Nat.le_of_ble_eq_true rfl) rfl rfl (qV_le (by omega) (m_goR1 (d := 0) (k := r) Q3291 (by omega) (by first | exact hr9 | (show r < _; omega)))) (fun h3293 hR3293 => ?_)
      obtain ⟨Q3293, F3293⟩ := hR3293
      refine y_ic (c := 1) (len := 1) (r := (0, 0, 0, 0)) (by decide +kernel) (by decide) (fun y3294 hy3294 => ?_)
      refine y_rI (len := 1) (r := (0, 0, 0, 0)) (nL := 11) (k := 2) (n9 := 3) (hs := []) (by decide +kernel) rfl (zfit_b (by omega) (by omega)).2 ?_
      obtain rfl : st = 8 := by omega
      exact Or.inl ⟨by omega, _, rfl, Q3293, fun k j hC => ((F3293 k j (by omega)).trans ((F3291 k j (by omega)).trans (F3247 k j (by omega))))⟩
    ·
      refine y_cF (c := .ne) (off := 8) (len := 3) (r := (0, 0, 0, 0)) (by decide +kernel) (acmpF (c := .ne) (by show _ = _; omega)) ?_
      refine y_same (i := .iload 8) (len := 2) (r := (0, 0, 0, 0)) (pc' := 277) (ls' := [some (.inl (some 52)), some (zi xf), some (zi xw), some (zi xr), some (zi xl), some (zi y3250), some (zi y3251), some (zi bip), some (zi cip), some (zi ciq), some (zi diq)]) (st' := [zi cip, zi bip, .inl (some 378)]) (by decide +kernel) (fun k q => by cases q) rfl ?_
      refine y_goto (off := 4) (pc' := 281) (len := 3) (r := (0, 0, 0, 0)) (by decide +kernel) (by decide +kernel) ?_
      obtain ⟨z3296, hz3296, ez3296⟩ := Q3247.2.2.1.2.2.1
      have ez3296 : z3296.toInt = ((s.2.2.1.length : Nat) : Int) := ez3296
      have mz3296 := qm_lenC Q3247
      have mz3296 : s.2.2.1.length ≤ 14 := mz3296
      refine y_cV (i := .invokestatic 329) (len := 3) (r := (1, 210, 12, 1685)) (nL := 3) (k := 0) (n := 3) (hs := []) (args := [.inl (some 378), zi bip, zi cip]) (rest := []) (l0 := [some (.inl (some 378)), some (zi bip), some (zi cip)]) (by decide +kernel) (Or.inl ⟨_, rfl⟩) rfl rfl rfl rfl (Nat.le_of_ble_eq_true rfl) rfl rfl (qV_le (by omega) (m_cls (d := 0) (x := ip.2.1) (y := ip.2.2.1) Q3247 (by omega) (by omega) (by omega) (by omega) (room378 Q3247.1 (show s.2.2.1.length + 1 ≤ 14 by omega)))) (fun h3295 hR3295 => ?_)
      obtain ⟨Q3295, F3295⟩ := hR3295
      have la3295 : (s.2.2.1 ++ [(1, ip.2.1, ip.2.2.1, 0)]).length = s.2.2.1.length + 1 := List.length_append
      refine y_same (i := .aload_n 0) (len := 1) (r := (0, 0, 0, 0)) (pc' := 285) (ls' := [some (.inl (some 52)), some (zi xf), some (zi xw), some (zi xr), some (zi xl), some (zi y3250), some (zi y3251), some (zi bip), some (zi cip), some (zi ciq), some (zi diq)]) (st' := [.inl (some 52)]) (by decide +kernel) (fun k q => by cases q) rfl ?_
      refine y_get (j := 61) (len := 3) (r := (12, 23, 2, 1351)) (by decide +kernel) Q3295.1 (t52 Q3295.1) at52 rfl rfl (g_r52 (f := 23) (T2 := 378) Q3295.1 rfl (by decide)).1 ?_
      refine y_same (i := .iload_n 3) (len := 1) (r := (0, 0, 0, 0)) (pc' := 289) (ls' := [some (.inl (some 52)), some (zi xf), some (zi xw), some (zi xr), some (zi xl), some (zi y3250), some (zi y3251), some (zi bip), some (zi cip), some (zi ciq), some (zi diq)]) (st' := [zi xr, .inl (some 378)]) (by decide +kernel) (fun k q => by cases q) rfl ?_
      refine y_cV (i := .invokestatic 295) (len := 3) (r := (1, 209, 12, 1679)) (nL := 2) (k := 0) (n := 2) (hs := []) (args := [.inl (some 378), zi xr]) (rest := []) (l0 := [some (.inl (some 378)), some (zi xr)]) (by decide +kernel) (Or.inl ⟨_, rfl⟩) rfl rfl rfl rfl (Nat.le_of_ble_eq_true rfl) rfl rfl (qV_le (by omega) (m_goR1 (d := 0) (k := r) Q3295 (by omega) (by first | exact hr9 | (show r < _; omega)))) (fun h3297 hR3297 => ?_)
      obtain ⟨Q3297, F3297⟩ := hR3297
      refine y_ic (c := 1) (len := 1) (r := (0, 0, 0, 0)) (by decide +kernel) (by decide) (fun y3298 hy3298 => ?_)
      refine y_rI (len := 1) (r := (0, 0, 0, 0)) (nL := 11) (k := 2) (n9 := 3) (hs := []) (by decide +kernel) rfl (zfit_b (by omega) (by omega)).2 ?_
      obtain rfl : st = 8 := by omega
      exact Or.inl ⟨by omega, _, rfl, Q3297, fun k j hC => ((F3297 k j (by omega)).trans ((F3295 k j (by omega)).trans (F3247 k j (by omega))))⟩
theorem m_fol8 {d t i st r l : Nat} {τ : List Nat} {h : zh} {s : sqT} {ip iq : it4} {w : Bool} {xf xw : Int32} (hi : i < 300) (exf : xf.toInt = (i : Int)) (Q0 : QM τ h (71 + i) s) (nb : ¬ big_ s) (cs : ci_ h 373 i st) (cr : ci_ h 374 i r) (hs : st = 8) (kip : s.2.1[r]? = some ip) (k8 : 2 ≤ ip.1) (ew0 : xw.toInt = if w = true then 1 else 0) : qI (d + 7) 228 [some (.inl (some 52)), some (zi xf), some (zi xw), none, none, none, none, none, none, none, none] h t (fun y h1 => (y.toInt = 1 ∧ ∃ s', nxF s st ip iq r l w = some s' ∧ QM τ h1 378 s' ∧ FM 378 h h1) ∨ (y.toInt = 0 ∧ nxF s st ip iq r l w = none ∧ ∃ s', QM τ h1 378 s' ∧ FM 378 h h1)) := by
  obtain ⟨xs, hxs, es⟩ := cs
  obtain ⟨xr, hxr, er⟩ := cr
  obtain ⟨xl, hxl, el1, el2⟩ := g_int (i := i) (lo := 0) (hi := 11) Q0.1 (tu375 Q0.1) at375 (show i < 300 from hi) (sr1 (by omega))
  have hr9 := (List.getElem?_eq_some_iff.mp kip).1
  have oip := okQ_R Q0.2.2.2 kip
  have pip := oip.1
  have zy9 : ip.1 = 3 → ip.2.2.1 = 0 := oip.2.2
  unfold okV at pip
  have b1 : ¬ 12 < s.1.length := fun q => nb (Or.inl q)
  have b2 : ¬ 12 < s.2.1.length := fun q => nb (Or.inr (Or.inl q))
  have b3 : ¬ 12 < s.2.2.1.length := fun q => nb (Or.inr (Or.inr q))
  refine qI_of ?_
  refine y_same (i := .aload_n 0) (len := 1) (r := (0, 0, 0, 0)) (pc' := 1) (ls' := [some (.inl (some 52)), some (zi xf), some (zi xw), none, none, none, none, none, none, none, none]) (st' := [.inl (some 52)]) (by decide +kernel) (fun k q => by cases q) rfl ?_
  refine y_get (j := 37) (len := 3) (r := (12, 15, 2, 1343)) (by decide +kernel) Q0.1 (t52 Q0.1) at52 rfl rfl (g_r52 (f := 15) (T2 := 70) Q0.1 rfl (by decide)).1 ?_
  refine y_same (i := .iload_n 1) (len := 1) (r := (0, 0, 0, 0)) (pc' := 5) (ls' := [some (.inl (some 52)), some (zi xf), some (zi xw), none, none, none, none, none, none, none, none]) (st' := [zi xf, .inl (some 70)]) (by decide +kernel) (fun k q => by cases q) rfl ?_
  refine y_aal (i := i) (len := 1) (r := (0, 0, 0, 0)) (by decide +kernel) Q0.1 (tu70 Q0.1) at70 rfl (by omega) (Q0.1.2.2 i (by omega)) ?_
  refine y_same (i := .aload_n 0) (len := 1) (r := (0, 0, 0, 0)) (pc' := 7) (ls' := [some (.inl (some 52)), some (zi xf), some (zi xw), none, none, none, none, none, none, none, none]) (st' := [.inl (some 52), .inl (some ((71 + i)))]) (by decide +kernel) (fun k q => by cases q) rfl ?_
  refine y_get (j := 61) (len := 3) (r := (12, 23, 2, 1351)) (by decide +kernel) Q0.1 (t52 Q0.1) at52 rfl rfl (g_r52 (f := 23) (T2 := 378) Q0.1 rfl (by decide)).1 ?_
  refine y_si (c := 200) (len := 3) (r := (0, 0, 0, 0)) (by decide +kernel) (by decide) (fun y3299 hy3299 => ?_)
  refine y_cV (i := .invokestatic 216) (len := 3) (r := (1, 185, 12, 1572)) (nL := 4) (k := 0) (n := 3) (hs := []) (args := [.inl (some ((71 + i))), .inl (some 378), zi y3299]) (rest := []) (l0 := [some (.inl (some ((71 + i)))), some (.inl (some 378)), some (zi y3299), none]) (by decide +kernel) (Or.inl ⟨_, rfl⟩) rfl rfl rfl rfl (Nat.le_of_ble_eq_true rfl) rfl rfl (qV_le (by omega) (m_cpy (d := 0) (B := 71 + i) (A := 378) Q0 (rwT_d Q0.1) (by omega) (by omega) nb)) (fun h3300 hR3300 => ?_)
  obtain ⟨Q3300, F3300⟩ := hR3300
  refine y_same (i := .aload_n 0) (len := 1) (r := (0, 0, 0, 0)) (pc' := 17) (ls' := [some (.inl (some 52)), some (zi xf), some (zi xw), none, none, none, none, none, none, none, none]) (st' := [.inl (some 52)]) (by decide +kernel) (fun k q => by cases q) rfl ?_
  refine y_get (j := 49) (len := 3) (r := (12, 19, 2, 1347)) (by decide +kernel) Q3300.1 (t52 Q3300.1) at52 rfl rfl (g_r52 (f := 19) (T2 := 374) Q3300.1 rfl (by decide)).1 ?_
  refine y_same (i := .iload_n 1) (len := 1) (r := (0, 0, 0, 0)) (pc' := 21) (ls' := [some (.inl (some 52)), some (zi xf), some (zi xw), none, none, none, none, none, none, none, none]) (st' := [zi xf, .inl (some 374)]) (by decide +kernel) (fun k q => by cases q) rfl ?_
  have hv3301 := (F3300 374 i (by omega)).trans hxr
  refine y_ial (i := i) (len := 1) (r := (0, 0, 0, 0)) (by decide +kernel) Q3300.1 (tu374 Q3300.1) at374 (by omega) hv3301 ?_
  refine y_same (i := .istore_n 3) (len := 1) (r := (0, 0, 0, 0)) (pc' := 23) (ls' := [some (.inl (some 52)), some (zi xf), some (zi xw), some (zi xr), none, none, none, none, none, none, none]) (st' := []) (by decide +kernel) (fun k q => by cases q) rfl ?_
  refine y_same (i := .aload_n 0) (len := 1) (r := (0, 0, 0, 0)) (pc' := 24) (ls' := [some (.inl (some 52)), some (zi xf), some (zi xw), some (zi xr), none, none, none, none, none, none, none]) (st' := [.inl (some 52)]) (by decide +kernel) (fun k q => by cases q) rfl ?_
  refine y_get (j := 52) (len := 3) (r := (12, 20, 2, 1348)) (by decide +kernel) Q3300.1 (t52 Q3300.1) at52 rfl rfl (g_r52 (f := 20) (T2 := 375) Q3300.1 rfl (by decide)).1 ?_
  refine y_same (i := .iload_n 1) (len := 1) (r := (0, 0, 0, 0)) (pc' := 28) (ls' := [some (.inl (some 52)), some (zi xf), some (zi xw), some (zi xr), none, none, none, none, none, none, none]) (st' := [zi xf, .inl (some 375)]) (by decide +kernel) (fun k q => by cases q) rfl ?_
  have hv3302 := (F3300 375 i (by omega)).trans hxl
  refine y_ial (i := i) (len := 1) (r := (0, 0, 0, 0)) (by decide +kernel) Q3300.1 (tu375 Q3300.1) at375 (by omega) hv3302 ?_
  refine y_same (i := .istore 4) (len := 2) (r := (0, 0, 0, 0)) (pc' := 31) (ls' := [some (.inl (some 52)), some (zi xf), some (zi xw), some (zi xr), some (zi xl), none, none, none, none, none, none]) (st' := []) (by decide +kernel) (fun k q => by cases q) rfl ?_
  refine y_same (i := .iload_n 3) (len := 1) (r := (0, 0, 0, 0)) (pc' := 32) (ls' := [some (.inl (some 52)), some (zi xf), some (zi xw), some (zi xr), some (zi xl), none, none, none, none, none, none]) (st' := [zi xr]) (by decide +kernel) (fun k q => by cases q) rfl ?_
  refine y_cI (i := .invokestatic 256) (len := 3) (r := (1, 198, 12, 1651)) (nL := 1) (k := 1) (n := 1) (hs := []) (args := [zi xr]) (rest := []) (l0 := [some (zi xr)]) (by decide +kernel) (Or.inl ⟨_, rfl⟩) rfl rfl rfl rfl (Nat.le_of_ble_eq_true rfl) rfl rfl (qI_le (by omega) (e_rightAt (d := 0) (by omega) (by omega))) (fun y3303 qy3303 hRy3303 => ?_)
  obtain ⟨rfl, hy3303⟩ := hRy3303
  refine y_same (i := .istore 5) (len := 2) (r := (0, 0, 0, 0)) (pc' := 37) (ls' := [some (.inl (some 52)), some (zi xf), some (zi xw), some (zi xr), some (zi xl), some (zi y3303), none, none, none, none, none]) (st' := []) (by decide +kernel) (fun k q => by cases q) rfl ?_
  refine y_same (i := .iload 4) (len := 2) (r := (0, 0, 0, 0)) (pc' := 39) (ls' := [some (.inl (some 52)), some (zi xf), some (zi xw), some (zi xr), some (zi xl), some (zi y3303), none, none, none, none, none]) (st' := [zi xl]) (by decide +kernel) (fun k q => by cases q) rfl ?_
  refine y_cI (i := .invokestatic 249) (len := 3) (r := (1, 197, 12, 1644)) (nL := 1) (k := 1) (n := 1) (hs := []) (args := [zi xl]) (rest := []) (l0 := [some (zi xl)]) (by decide +kernel) (Or.inl ⟨_, rfl⟩) rfl rfl rfl rfl (Nat.le_of_ble_eq_true rfl) rfl rfl (qI_le (by omega) (e_leftAt (d := 0) (by omega) (by omega))) (fun y3304 qy3304 hRy3304 => ?_)
  obtain ⟨rfl, hy3304⟩ := hRy3304
  refine y_same (i := .istore 6) (len := 2) (r := (0, 0, 0, 0)) (pc' := 44) (ls' := [some (.inl (some 52)), some (zi xf), some (zi xw), some (zi xr), some (zi xl), some (zi y3303), some (zi y3304), none, none, none, none]) (st' := []) (by decide +kernel) (fun k q => by cases q) rfl ?_
  have oip := okQ_R Q3300.2.2.2 kip
  have pip := oip.1
  unfold okV at pip
  obtain ⟨aip, bip, cip, dip, ⟨haip, hbip, hcip, hdip⟩, eaip, ebip, ecip, edip⟩ := qm_itR Q3300 kip
  refine y_same (i := .aload_n 0) (len := 1) (r := (0, 0, 0, 0)) (pc' := 45) (ls' := [some (.inl (some 52)), some (zi xf), some (zi xw), some (zi xr), some (zi xl), some (zi y3303), some (zi y3304), none, none, none, none]) (st' := [.inl (some 52)]) (by decide +kernel) (fun k q => by cases q) rfl ?_
  refine y_get (j := 61) (len := 3) (r := (12, 23, 2, 1351)) (by decide +kernel) Q3300.1 (t52 Q3300.1) at52 rfl rfl (g_r52 (f := 23) (T2 := 378) Q3300.1 rfl (by decide)).1 ?_
  refine y_same (i := .iload 5) (len := 2) (r := (0, 0, 0, 0)) (pc' := 50) (ls' := [some (.inl (some 52)), some (zi xf), some (zi xw), some (zi xr), some (zi xl), some (zi y3303), some (zi y3304), none, none, none, none]) (st' := [zi y3303, .inl (some 378)]) (by decide +kernel) (fun k q => by cases q) rfl ?_
  refine y_ic (c := 1) (len := 1) (r := (0, 0, 0, 0)) (by decide +kernel) (by decide) (fun y3305 hy3305 => ?_)
  refine y_add (len := 1) (r := (0, 0, 0, 0)) (by decide +kernel) (by omega) (by omega) (fun y3306 hy3306 => ?_)
  refine y_ial (i := ((80 + 4 * r) + 1)) (len := 1) (r := (0, 0, 0, 0)) (by decide +kernel) Q3300.1 (tu378 Q3300.1) at378 (by omega) hbip ?_
  refine y_same (i := .istore 7) (len := 2) (r := (0, 0, 0, 0)) (pc' := 55) (ls' := [some (.inl (some 52)), some (zi xf), some (zi xw), some (zi xr), some (zi xl), some (zi y3303), some (zi y3304), some (zi bip), none, none, none]) (st' := []) (by decide +kernel) (fun k q => by cases q) rfl ?_
  refine y_same (i := .aload_n 0) (len := 1) (r := (0, 0, 0, 0)) (pc' := 56) (ls' := [some (.inl (some 52)), some (zi xf), some (zi xw), some (zi xr), some (zi xl), some (zi y3303), some (zi y3304), some (zi bip), none, none, none]) (st' := [.inl (some 52)]) (by decide +kernel) (fun k q => by cases q) rfl ?_
  refine y_get (j := 61) (len := 3) (r := (12, 23, 2, 1351)) (by decide +kernel) Q3300.1 (t52 Q3300.1) at52 rfl rfl (g_r52 (f := 23) (T2 := 378) Q3300.1 rfl (by decide)).1 ?_
  refine y_same (i := .iload 5) (len := 2) (r := (0, 0, 0, 0)) (pc' := 61) (ls' := [some (.inl (some 52)), some (zi xf), some (zi xw), some (zi xr), some (zi xl), some (zi y3303), some (zi y3304), some (zi bip), none, none, none]) (st' := [zi y3303, .inl (some 378)]) (by decide +kernel) (fun k q => by cases q) rfl ?_
  refine y_ic (c := 2) (len := 1) (r := (0, 0, 0, 0)) (by decide +kernel) (by decide) (fun y3307 hy3307 => ?_)
  refine y_add (len := 1) (r := (0, 0, 0, 0)) (by decide +kernel) (by omega) (by omega) (fun y3308 hy3308 => ?_)
  refine y_ial (i := ((80 + 4 * r) + 2)) (len := 1) (r := (0, 0, 0, 0)) (by decide +kernel) Q3300.1 (tu378 Q3300.1) at378 (by omega) hcip ?_
  refine y_same (i := .istore 8) (len := 2) (r := (0, 0, 0, 0)) (pc' := 66) (ls' := [some (.inl (some 52)), some (zi xf), some (zi xw), some (zi xr), some (zi xl), some (zi y3303), some (zi y3304), some (zi bip), some (zi cip), none, none]) (st' := []) (by decide +kernel) (fun k q => by cases q) rfl ?_
  refine y_same (i := .aload_n 0) (len := 1) (r := (0, 0, 0, 0)) (pc' := 67) (ls' := [some (.inl (some 52)), some (zi xf), some (zi xw), some (zi xr), some (zi xl), some (zi y3303), some (zi y3304), some (zi bip), some (zi cip), none, none]) (st' := [.inl (some 52)]) (by decide +kernel) (fun k q => by cases q) rfl ?_
  refine y_get (j := 61) (len := 3) (r := (12, 23, 2, 1351)) (by decide +kernel) Q3300.1 (t52 Q3300.1) at52 rfl rfl (g_r52 (f := 23) (T2 := 378) Q3300.1 rfl (by decide)).1 ?_
  refine y_same (i := .iload 6) (len := 2) (r := (0, 0, 0, 0)) (pc' := 72) (ls' := [some (.inl (some 52)), some (zi xf), some (zi xw), some (zi xr), some (zi xl), some (zi y3303), some (zi y3304), some (zi bip), some (zi cip), none, none]) (st' := [zi y3304, .inl (some 378)]) (by decide +kernel) (fun k q => by cases q) rfl ?_
  refine y_ic (c := 2) (len := 1) (r := (0, 0, 0, 0)) (by decide +kernel) (by decide) (fun y3309 hy3309 => ?_)
  refine y_add (len := 1) (r := (0, 0, 0, 0)) (by decide +kernel) (by omega) (by omega) (fun y3310 hy3310 => ?_)
  obtain ⟨v3311, hv3312, lv3311, uv3311⟩ := g_int (i := ((24 + 4 * xl.toInt.toNat) + 2)) Q3300.1 (tu378 Q3300.1) at378 (show ((24 + 4 * xl.toInt.toNat) + 2) < 200 by omega) (srC (by omega) (by omega))
  refine y_ial (i := ((24 + 4 * xl.toInt.toNat) + 2)) (len := 1) (r := (0, 0, 0, 0)) (by decide +kernel) Q3300.1 (tu378 Q3300.1) at378 (by omega) hv3312 ?_
  refine y_same (i := .istore 9) (len := 2) (r := (0, 0, 0, 0)) (pc' := 77) (ls' := [some (.inl (some 52)), some (zi xf), some (zi xw), some (zi xr), some (zi xl), some (zi y3303), some (zi y3304), some (zi bip), some (zi cip), some (zi v3311), none]) (st' := []) (by decide +kernel) (fun k q => by cases q) rfl ?_
  refine y_same (i := .aload_n 0) (len := 1) (r := (0, 0, 0, 0)) (pc' := 78) (ls' := [some (.inl (some 52)), some (zi xf), some (zi xw), some (zi xr), some (zi xl), some (zi y3303), some (zi y3304), some (zi bip), some (zi cip), some (zi v3311), none]) (st' := [.inl (some 52)]) (by decide +kernel) (fun k q => by cases q) rfl ?_
  refine y_get (j := 61) (len := 3) (r := (12, 23, 2, 1351)) (by decide +kernel) Q3300.1 (t52 Q3300.1) at52 rfl rfl (g_r52 (f := 23) (T2 := 378) Q3300.1 rfl (by decide)).1 ?_
  refine y_same (i := .iload 6) (len := 2) (r := (0, 0, 0, 0)) (pc' := 83) (ls' := [some (.inl (some 52)), some (zi xf), some (zi xw), some (zi xr), some (zi xl), some (zi y3303), some (zi y3304), some (zi bip), some (zi cip), some (zi v3311), none]) (st' := [zi y3304, .inl (some 378)]) (by decide +kernel) (fun k q => by cases q) rfl ?_
  refine y_ic (c := 3) (len := 1) (r := (0, 0, 0, 0)) (by decide +kernel) (by decide) (fun y3313 hy3313 => ?_)
  refine y_add (len := 1) (r := (0, 0, 0, 0)) (by decide +kernel) (by omega) (by omega) (fun y3314 hy3314 => ?_)
  obtain ⟨v3315, hv3316, lv3315, uv3315⟩ := g_int (i := ((24 + 4 * xl.toInt.toNat) + 3)) Q3300.1 (tu378 Q3300.1) at378 (show ((24 + 4 * xl.toInt.toNat) + 3) < 200 by omega) (srC (by omega) (by omega))
  refine y_ial (i := ((24 + 4 * xl.toInt.toNat) + 3)) (len := 1) (r := (0, 0, 0, 0)) (by decide +kernel) Q3300.1 (tu378 Q3300.1) at378 (by omega) hv3316 ?_
  refine y_same (i := .istore 10) (len := 2) (r := (0, 0, 0, 0)) (pc' := 88) (ls' := [some (.inl (some 52)), some (zi xf), some (zi xw), some (zi xr), some (zi xl), some (zi y3303), some (zi y3304), some (zi bip), some (zi cip), some (zi v3311), some (zi v3315)]) (st' := []) (by decide +kernel) (fun k q => by cases q) rfl ?_
  refine y_same (i := .aload_n 0) (len := 1) (r := (0, 0, 0, 0)) (pc' := 89) (ls' := [some (.inl (some 52)), some (zi xf), some (zi xw), some (zi xr), some (zi xl), some (zi y3303), some (zi y3304), some (zi bip), some (zi cip), some (zi v3311), some (zi v3315)]) (st' := [.inl (some 52)]) (by decide +kernel) (fun k q => by cases q) rfl ?_
  refine y_get (j := 46) (len := 3) (r := (12, 18, 2, 1346)) (by decide +kernel) Q3300.1 (t52 Q3300.1) at52 rfl rfl (g_r52 (f := 18) (T2 := 373) Q3300.1 rfl (by decide)).1 ?_
  refine y_same (i := .iload_n 1) (len := 1) (r := (0, 0, 0, 0)) (pc' := 93) (ls' := [some (.inl (some 52)), some (zi xf), some (zi xw), some (zi xr), some (zi xl), some (zi y3303), some (zi y3304), some (zi bip), some (zi cip), some (zi v3311), some (zi v3315)]) (st' := [zi xf, .inl (some 373)]) (by decide +kernel) (fun k q => by cases q) rfl ?_
  have hv3317 := (F3300 373 i (by omega)).trans hxs
  refine y_ial (i := i) (len := 1) (r := (0, 0, 0, 0)) (by decide +kernel) Q3300.1 (tu373 Q3300.1) at373 (by omega) hv3317 ?_
  refine y_sw (dflt := 164) (lo := 3) (hi := 7) (offs := #[34, 53, 112, 125, 156]) (off := 164) (pc' := 258) (len := 34) (r := (0, 0, 0, 0)) (by decide +kernel) (zswO (by omega)) (by decide +kernel) ?_
  refine y_same (i := .aload_n 0) (len := 1) (r := (0, 0, 0, 0)) (pc' := 259) (ls' := [some (.inl (some 52)), some (zi xf), some (zi xw), some (zi xr), some (zi xl), some (zi y3303), some (zi y3304), some (zi bip), some (zi cip), some (zi v3311), some (zi v3315)]) (st' := [.inl (some 52)]) (by decide +kernel) (fun k q => by cases q) rfl ?_
  refine y_get (j := 61) (len := 3) (r := (12, 23, 2, 1351)) (by decide +kernel) Q3300.1 (t52 Q3300.1) at52 rfl rfl (g_r52 (f := 23) (T2 := 378) Q3300.1 rfl (by decide)).1 ?_
  refine y_same (i := .iload 7) (len := 2) (r := (0, 0, 0, 0)) (pc' := 264) (ls' := [some (.inl (some 52)), some (zi xf), some (zi xw), some (zi xr), some (zi xl), some (zi y3303), some (zi y3304), some (zi bip), some (zi cip), some (zi v3311), some (zi v3315)]) (st' := [zi bip, .inl (some 378)]) (by decide +kernel) (fun k q => by cases q) rfl ?_
  refine y_same (i := .aload_n 0) (len := 1) (r := (0, 0, 0, 0)) (pc' := 265) (ls' := [some (.inl (some 52)), some (zi xf), some (zi xw), some (zi xr), some (zi xl), some (zi y3303), some (zi y3304), some (zi bip), some (zi cip), some (zi v3311), some (zi v3315)]) (st' := [.inl (some 52), zi bip, .inl (some 378)]) (by decide +kernel) (fun k q => by cases q) rfl ?_
  refine y_get (j := 61) (len := 3) (r := (12, 23, 2, 1351)) (by decide +kernel) Q3300.1 (t52 Q3300.1) at52 rfl rfl (g_r52 (f := 23) (T2 := 378) Q3300.1 rfl (by decide)).1 ?_
  refine y_same (i := .iload 5) (len := 2) (r := (0, 0, 0, 0)) (pc' := 270) (ls' := [some (.inl (some 52)), some (zi xf), some (zi xw), some (zi xr), some (zi xl), some (zi y3303), some (zi y3304), some (zi bip), some (zi cip), some (zi v3311), some (zi v3315)]) (st' := [zi y3303, .inl (some 378), zi bip, .inl (some 378)]) (by decide +kernel) (fun k q => by cases q) rfl ?_
  refine y_ial (i := (80 + 4 * r)) (len := 1) (r := (0, 0, 0, 0)) (by decide +kernel) Q3300.1 (tu378 Q3300.1) at378 (by omega) haip ?_
  refine y_ic (c := 2) (len := 1) (r := (0, 0, 0, 0)) (by decide +kernel) (by decide) (fun y3318 hy3318 => ?_)
  rcases Decidable.em (aip.toInt ≠ y3318.toInt) with q3319 | q3319
  ·
    refine y_cT (c := .ne) (off := 8) (pc' := 280) (len := 3) (r := (0, 0, 0, 0)) (by decide +kernel) (acmpT (c := .ne) (by show ¬ (_ = _); omega)) (by decide +kernel) ?_
    refine y_ic (c := 0) (len := 1) (r := (0, 0, 0, 0)) (by decide +kernel) (by decide) (fun y3320 hy3320 => ?_)
    obtain ⟨z3322, hz3322, ez3322⟩ := Q3300.2.2.1.2.2.1
    have ez3322 : z3322.toInt = ((s.2.2.1.length : Nat) : Int) := ez3322
    have mz3322 := qm_lenC Q3300
    have mz3322 : s.2.2.1.length ≤ 14 := mz3322
    refine y_cV (i := .invokestatic 329) (len := 3) (r := (1, 210, 12, 1685)) (nL := 3) (k := 0) (n := 3) (hs := []) (args := [.inl (some 378), zi bip, zi y3320]) (rest := []) (l0 := [some (.inl (some 378)), some (zi bip), some (zi y3320)]) (by decide +kernel) (Or.inl ⟨_, rfl⟩) rfl rfl rfl rfl (Nat.le_of_ble_eq_true rfl) rfl rfl (qV_le (by omega) (m_cls (d := 0) (x := ip.2.1) (y := ip.2.2.1) Q3300 (by omega) (by omega) (by omega) (by omega) (room378 Q3300.1 (show s.2.2.1.length + 1 ≤ 14 by omega)))) (fun h3321 hR3321 => ?_)
    obtain ⟨Q3321, F3321⟩ := hR3321
    have la3321 : (s.2.2.1 ++ [(1, ip.2.1, ip.2.2.1, 0)]).length = s.2.2.1.length + 1 := List.length_append
    refine y_same (i := .aload_n 0) (len := 1) (r := (0, 0, 0, 0)) (pc' := 285) (ls' := [some (.inl (some 52)), some (zi xf), some (zi xw), some (zi xr), some (zi xl), some (zi y3303), some (zi y3304), some (zi bip), some (zi cip), some (zi v3311), some (zi v3315)]) (st' := [.inl (some 52)]) (by decide +kernel) (fun k q => by cases q) rfl ?_
    refine y_get (j := 61) (len := 3) (r := (12, 23, 2, 1351)) (by decide +kernel) Q3321.1 (t52 Q3321.1) at52 rfl rfl (g_r52 (f := 23) (T2 := 378) Q3321.1 rfl (by decide)).1 ?_
    refine y_same (i := .iload_n 3) (len := 1) (r := (0, 0, 0, 0)) (pc' := 289) (ls' := [some (.inl (some 52)), some (zi xf), some (zi xw), some (zi xr), some (zi xl), some (zi y3303), some (zi y3304), some (zi bip), some (zi cip), some (zi v3311), some (zi v3315)]) (st' := [zi xr, .inl (some 378)]) (by decide +kernel) (fun k q => by cases q) rfl ?_
    refine y_cV (i := .invokestatic 295) (len := 3) (r := (1, 209, 12, 1679)) (nL := 2) (k := 0) (n := 2) (hs := []) (args := [.inl (some 378), zi xr]) (rest := []) (l0 := [some (.inl (some 378)), some (zi xr)]) (by decide +kernel) (Or.inl ⟨_, rfl⟩) rfl rfl rfl rfl (Nat.le_of_ble_eq_true rfl) rfl rfl (qV_le (by omega) (m_goR1 (d := 0) (k := r) Q3321 (by omega) (by first | exact hr9 | (show r < _; omega)))) (fun h3323 hR3323 => ?_)
    obtain ⟨Q3323, F3323⟩ := hR3323
    refine y_ic (c := 1) (len := 1) (r := (0, 0, 0, 0)) (by decide +kernel) (by decide) (fun y3324 hy3324 => ?_)
    refine y_rI (len := 1) (r := (0, 0, 0, 0)) (nL := 11) (k := 2) (n9 := 3) (hs := []) (by decide +kernel) rfl (zfit_b (by omega) (by omega)).2 ?_
    obtain rfl : st = 8 := by omega
    exact Or.inl ⟨by omega, _, rfl, Q3323, fun k j hC => ((F3323 k j (by omega)).trans ((F3321 k j (by omega)).trans (F3300 k j (by omega))))⟩
  ·
    refine y_cF (c := .ne) (off := 8) (len := 3) (r := (0, 0, 0, 0)) (by decide +kernel) (acmpF (c := .ne) (by show _ = _; omega)) ?_
    refine y_same (i := .iload 8) (len := 2) (r := (0, 0, 0, 0)) (pc' := 277) (ls' := [some (.inl (some 52)), some (zi xf), some (zi xw), some (zi xr), some (zi xl), some (zi y3303), some (zi y3304), some (zi bip), some (zi cip), some (zi v3311), some (zi v3315)]) (st' := [zi cip, zi bip, .inl (some 378)]) (by decide +kernel) (fun k q => by cases q) rfl ?_
    refine y_goto (off := 4) (pc' := 281) (len := 3) (r := (0, 0, 0, 0)) (by decide +kernel) (by decide +kernel) ?_
    obtain ⟨z3326, hz3326, ez3326⟩ := Q3300.2.2.1.2.2.1
    have ez3326 : z3326.toInt = ((s.2.2.1.length : Nat) : Int) := ez3326
    have mz3326 := qm_lenC Q3300
    have mz3326 : s.2.2.1.length ≤ 14 := mz3326
    refine y_cV (i := .invokestatic 329) (len := 3) (r := (1, 210, 12, 1685)) (nL := 3) (k := 0) (n := 3) (hs := []) (args := [.inl (some 378), zi bip, zi cip]) (rest := []) (l0 := [some (.inl (some 378)), some (zi bip), some (zi cip)]) (by decide +kernel) (Or.inl ⟨_, rfl⟩) rfl rfl rfl rfl (Nat.le_of_ble_eq_true rfl) rfl rfl (qV_le (by omega) (m_cls (d := 0) (x := ip.2.1) (y := ip.2.2.1) Q3300 (by omega) (by omega) (by omega) (by omega) (room378 Q3300.1 (show s.2.2.1.length + 1 ≤ 14 by omega)))) (fun h3325 hR3325 => ?_)
    obtain ⟨Q3325, F3325⟩ := hR3325
    have la3325 : (s.2.2.1 ++ [(1, ip.2.1, ip.2.2.1, 0)]).length = s.2.2.1.length + 1 := List.length_append
    refine y_same (i := .aload_n 0) (len := 1) (r := (0, 0, 0, 0)) (pc' := 285) (ls' := [some (.inl (some 52)), some (zi xf), some (zi xw), some (zi xr), some (zi xl), some (zi y3303), some (zi y3304), some (zi bip), some (zi cip), some (zi v3311), some (zi v3315)]) (st' := [.inl (some 52)]) (by decide +kernel) (fun k q => by cases q) rfl ?_
    refine y_get (j := 61) (len := 3) (r := (12, 23, 2, 1351)) (by decide +kernel) Q3325.1 (t52 Q3325.1) at52 rfl rfl (g_r52 (f := 23) (T2 := 378) Q3325.1 rfl (by decide)).1 ?_
    refine y_same (i := .iload_n 3) (len := 1) (r := (0, 0, 0, 0)) (pc' := 289) (ls' := [some (.inl (some 52)), some (zi xf), some (zi xw), some (zi xr), some (zi xl), some (zi y3303), some (zi y3304), some (zi bip), some (zi cip), some (zi v3311), some (zi v3315)]) (st' := [zi xr, .inl (some 378)]) (by decide +kernel) (fun k q => by cases q) rfl ?_
    refine y_cV (i := .invokestatic 295) (len := 3) (r := (1, 209, 12, 1679)) (nL := 2) (k := 0) (n := 2) (hs := []) (args := [.inl (some 378), zi xr]) (rest := []) (l0 := [some (.inl (some 378)), some (zi xr)]) (by decide +kernel) (Or.inl ⟨_, rfl⟩) rfl rfl rfl rfl (Nat.le_of_ble_eq_true rfl) rfl rfl (qV_le (by omega) (m_goR1 (d := 0) (k := r) Q3325 (by omega) (by first | exact hr9 | (show r < _; omega)))) (fun h3327 hR3327 => ?_)
    obtain ⟨Q3327, F3327⟩ := hR3327
    refine y_ic (c := 1) (len := 1) (r := (0, 0, 0, 0)) (by decide +kernel) (by decide) (fun y3328 hy3328 => ?_)
    refine y_rI (len := 1) (r := (0, 0, 0, 0)) (nL := 11) (k := 2) (n9 := 3) (hs := []) (by decide +kernel) rfl (zfit_b (by omega) (by omega)).2 ?_
    obtain rfl : st = 8 := by omega
    exact Or.inl ⟨by omega, _, rfl, Q3327, fun k j hC => ((F3327 k j (by omega)).trans ((F3325 k j (by omega)).trans (F3300 k j (by omega))))⟩
