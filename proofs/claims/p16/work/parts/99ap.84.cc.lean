/-! the class's calls that judge: what they leave of both provers' kept answers -/
theorem kx_ci {h : zh} {a j : Nat} (x : kx_ h a j 1) : ci_ h a j 1 := by
  obtain ⟨v, e, q⟩ := x
  exact ⟨v, e, q⟩
theorem lz_jd28 {t T : Nat} {τ : List Nat} {h : zh} {cur : bsT} {hs : List bsT} (hg : hG τ h) (i : IV h T) (rc : RC h cur hs) (rm : RM h cur hs) (cz : CZ cur hs) (py : PY cur hs) (kc : KC cur hs) (jc : JCx h cur) (jm : JMx h cur) : qV 13 37 [some (.inl (some 28)), some (.inl (some 2)), none, none, none, none] h t (fun h1 => (∃ τ1, hG τ1 h1) ∧ JCx h1 cur ∧ ci_ h1 28 5 1) := by
  have ok := okB_of hg rm py.1 kc.1 cz.1
  obtain ⟨p1, ⟨u, v, hu, l2, b2⟩, -⟩ := id rc
  obtain ⟨x, ex, lx, ux⟩ := g_int (i := 5) (lo := 0) (hi := 1) hg (tv28 hg) aw28 (by decide) rfl
  rcases (show x.toInt = 0 ∨ x.toInt = 1 by omega) with q | q
  · obtain ⟨h1, e, τ1, u1, o1⟩ := qV_le (d' := 13) (by decide) (e_jdh28 (Z := z36 h) (d := 0) (t := t) hg jc.1.1 jc.1.2.2.2.1 hu l2 b2 ok ⟨x, ex, q⟩ (z36_0 hg jc.1))
    obtain ⟨F, -⟩ := use_F (okC (mk := 37) (c := ac116) (List.mem_of_getElem? (i := 0) rfl)) rfl hg (show aqsM _ _ [.inl (some 28), .inl (some 2)] from ⟨aqR (tv28 hg), aqR (tv2 hg), trivial⟩) rfl (by omega) e
    exact ⟨h1, e, ⟨τ1, o1.1.1⟩, jdx28 jc o1 (fun k => F 36 36 k (tv36 hg) (wlN_ok (by decide +kernel))) (F 28 28 0 (tv28 hg) (by decide +kernel)) (F 35 35 0 (tv35 hg) (by decide +kernel)) (F 35 35 5 (tv35 hg) (by decide +kernel)) (F 35 35 6 (tv35 hg) (by decide +kernel)) (F 35 35 8 (tv35 hg) (by decide +kernel)) (F 38 38 2 (tv38 hg) (by decide +kernel)), kx_ci o1.1.2.2.1⟩
  · obtain ⟨h1, e, rfl⟩ := qV_le (d' := 13) (by decide) (e_jdk28 (d := 0) (t := t) hg ⟨x, ex, q⟩)
    exact ⟨_, e, ⟨τ, hg⟩, jc, ⟨x, ex, q⟩⟩
theorem lz_jd35 {t T : Nat} {τ : List Nat} {h : zh} {cur : bsT} {hs : List bsT} (hg : hG τ h) (i : IV h T) (rc : RC h cur hs) (rm : RM h cur hs) (cz : CZ cur hs) (py : PY cur hs) (kc : KC cur hs) (jc : JCx h cur) (jm : JMx h cur) : qV 13 37 [some (.inl (some 35)), some (.inl (some 2)), none, none, none, none] h t (fun h1 => (∃ τ1, hG τ1 h1) ∧ JCx h1 cur ∧ ci_ h1 35 5 1) := by
  have ok := okB_of hg rm py.1 kc.1 cz.1
  obtain ⟨p1, ⟨u, v, hu, l2, b2⟩, -⟩ := id rc
  obtain ⟨x, ex, lx, ux⟩ := g_int (i := 5) (lo := 0) (hi := 1) hg (tv35 hg) aw35 (by decide) rfl
  rcases (show x.toInt = 0 ∨ x.toInt = 1 by omega) with q | q
  · obtain ⟨h1, e, τ1, u1, o1⟩ := qV_le (d' := 13) (by decide) (e_jdh35 (cy := cyN) (Z := z29 h) (fun _ _ => rfl) (d := 0) (t := t) hg jc.1.2.1 jc.1.2.2.2.2 hu l2 b2 ok ⟨x, ex, q⟩ (z29_0 hg jc.1))
    obtain ⟨F, -⟩ := use_F (okC (mk := 37) (c := ac131) (List.mem_of_getElem? (i := 1) rfl)) rfl hg (show aqsM _ _ [.inl (some 35), .inl (some 2)] from ⟨aqR (tv35 hg), aqR (tv2 hg), trivial⟩) rfl (by omega) e
    exact ⟨h1, e, ⟨τ1, o1.1.1⟩, jdx35 jc o1 (fun k => F 29 29 k (tv29 hg) (wlN_ok (by decide +kernel))) (F 28 28 0 (tv28 hg) (by decide +kernel)) (F 28 28 5 (tv28 hg) (by decide +kernel)) (F 28 28 6 (tv28 hg) (by decide +kernel)) (F 35 35 0 (tv35 hg) (by decide +kernel)), kx_ci o1.1.2.2.1⟩
  · obtain ⟨h1, e, rfl⟩ := qV_le (d' := 13) (by decide) (e_jdk35 (d := 0) (t := t) hg ⟨x, ex, q⟩)
    exact ⟨_, e, ⟨τ, hg⟩, jc, ⟨x, ex, q⟩⟩
theorem kp0_JCx {τ : List Nat} {h h1 : zh} {cur : bsT} (k : keep0 τ h h1) (j : JCx h cur) : JCx h1 cur := JCx_kp ⟨fun k9 => k.2 29 k9 (by omega), fun k9 => k.2 36 k9 (by omega), k.2 28 0 (by omega), k.2 35 0 (by omega), k.2 28 6 (by omega), k.2 35 6 (by omega), k.2 35 8 (by omega), k.2 38 2 (by omega)⟩ (fun a ha l _ k9 j9 h1 h2 => k.2 k9 j9 (by omega)) (Or.inl (k.2 35 5 (by omega))) (Or.inl (k.2 28 5 (by omega))) j
theorem kp388_JCx {h h1 : zh} {cur : bsT} (F : ∀ k j, k ≠ 388 → hsl h1 k j = hsl h k j) (j : JCx h cur) : JCx h1 cur := JCx_kp ⟨fun k9 => F 29 k9 (by omega), fun k9 => F 36 k9 (by omega), F 28 0 (by omega), F 35 0 (by omega), F 28 6 (by omega), F 35 6 (by omega), F 35 8 (by omega), F 38 2 (by omega)⟩ (fun a ha l _ k9 j9 h1 h2 => F k9 j9 (by omega)) (Or.inl (F 35 5 (by omega))) (Or.inl (F 28 5 (by omega))) j
def oP1 (R : zh → Prop) (t : Nat) (x : zo × zh × Nat) : Prop := rI (fun _ => R) t x ∨ rT 1 R t x
theorem oP1_mn {R S : zh → Prop} {t : Nat} {x : zo × zh × Nat} (f : ∀ h1, R h1 → S h1) (o : oP1 R t x) : oP1 S t x := by
  rcases o with ⟨y, h1, e, r⟩ | ⟨h1, e, r⟩
  · exact Or.inl ⟨y, h1, e, f _ r⟩
  · exact Or.inr ⟨h1, e, f _ r⟩
def kJX (h h1 : zh) : Prop := ∀ c : bsT, JCx h c → JCx h1 c
def wlU (wl : aW) : Bool := wlX wl && (!awc wl 28 5 && !awc wl 35 5)
theorem kJX_w {τ : List Nat} {h h1 : zh} {wl : aW} (hg : hG τ h) (F : aFr τ h wl h1) (w : wlU wl = true) : kJX h h1 := fun c jc => by
  unfold wlU at w
  simp only [Bool.and_eq_true, Bool.not_eq_true'] at w
  obtain ⟨w1, w3, w4⟩ := w
  obtain ⟨k1, k2⟩ := kpX_w hg F w1
  exact JCx_kp k1 k2 (Or.inl (F 35 35 5 (tv35 hg) w4)) (Or.inl (F 28 28 5 (tv28 hg) w3)) jc
noncomputable def zcS (k : Nat) (nm : List Nat) : aS := ((0, 0) :: List.replicate k ((-2147483648), 2147483647), nm, [], [], [], 0)
noncomputable def zcR (lo mi pc k : Nat) (nm : List Nat) (ls : List (Option av)) : Bool := match alp actb [] [] 14 (arn actb 2000 14) mi 10000 [] pc ls [] (zcS k nm) with
  | some L => L.all (fun x => match x.1 with
    | .inl (.inl (some (.inl _))) => wlU x.2.2.2.2.2.1 && Nat.beq x.2.2.2.2.2.2 0
    | .inl (.inr e) => ((Nat.ble lo e && Nat.ble e 1) && wlU x.2.2.2.2.2.1) && Nat.beq x.2.2.2.2.2.2 1
    | _ => false)
  | none => false
theorem k0_kJX {h h1 : zh} (F : ∀ k j, k ≠ 0 → hsl h1 k j = hsl h k j) : kJX h h1 := fun c j => JCx_kp ⟨fun k9 => F 29 k9 (by omega), fun k9 => F 36 k9 (by omega), F 28 0 (by omega), F 35 0 (by omega), F 28 6 (by omega), F 35 6 (by omega), F 35 8 (by omega), F 38 2 (by omega)⟩ (fun a ha l _ k9 j9 h1 h2 => F k9 j9 (by omega)) (Or.inl (F 35 5 (by omega))) (Or.inl (F 28 5 (by omega))) j
def vi28 (τ : List Nat) (h : zh) (m : Nat) : Prop := ∀ k, k < m → ∃ a, rfs h 29 k a ∧ 388 < a ∧ laQ h a ∧ τ[a]? = some 1008
theorem vi28_of {τ : List Nat} {h : zh} {L : List enT} (hg : hG τ h) (n : en28 h L) : vi28 τ h L.length := fun k hk => by
  have hl := n.2.1
  obtain ⟨a, r, g, l, -⟩ := n.2.2 k _ (List.getElem?_eq_getElem hk)
  obtain ⟨v, e, q⟩ := g_slot29 (i := k) hg (by omega)
  have e9 : some (.inl (some a)) = some v := r.symm.trans e
  cases e9
  rcases q with q | ⟨b, q, ty⟩
  · cases q
  · cases q
    exact ⟨a, r, g, l, ty⟩
theorem vi35_of {τ : List Nat} {h : zh} {L : List enT} (hg : hG τ h) (n : en35 h L) : viO τ h L.length := fun k hk => by
  have hl := n.2.1
  obtain ⟨a, r, g, l, -⟩ := n.2.2 k _ (List.getElem?_eq_getElem hk)
  obtain ⟨v, e, q⟩ := g_slot36 (i := k) hg (by omega)
  have e9 : some (.inl (some a)) = some v := r.symm.trans e
  cases e9
  rcases q with q | ⟨b, q, ty⟩
  · cases q
  · cases q
    exact ⟨a, r, g, l, ty⟩
theorem e_has28 {d t m : Nat} {τ : List Nat} {h : zh} {xk : Int32} (hg : hG τ h) (c6 : ci_ h 28 6 m) : qI (d + 1) 32 [some (.inl (some 28)), some (zi xk)] h t (fun y h1 => h = h1 ∧ ((y.toInt = 1 ∧ 0 ≤ xk.toInt ∧ xk.toInt < (m : Int)) ∨ y.toInt = 0)) := by
  obtain ⟨xm, hm6, em6⟩ := c6
  refine qI_of ?_
  refine y_same (i := .iload_n 1) (len := 1) (r := (0, 0, 0, 0)) (pc' := 1) (ls' := [some (.inl (some 28)), some (zi xk)]) (st' := [zi xk]) (by decide +kernel) (fun k q => by cases q) rfl ?_
  rcases Decidable.em (xk.toInt < 0) with q2998 | q2998
  ·
    refine y_iT (c := .lt) (off := 22) (pc' := 23) (len := 3) (r := (0, 0, 0, 0)) (by decide +kernel) (acmpT (c := .lt) (by show _ < _; omega)) (by decide +kernel) ?_
    refine y_ic (c := 0) (len := 1) (r := (0, 0, 0, 0)) (by decide +kernel) (by decide) (fun y2999 hy2999 => ?_)
    refine y_rI (len := 1) (r := (0, 0, 0, 0)) (nL := 2) (k := 2) (n9 := 2) (hs := []) (by decide +kernel) rfl (zfit_b (by omega) (by omega)).2 ?_
    exact ⟨rfl, by omega⟩
  ·
    refine y_iF (c := .lt) (off := 22) (len := 3) (r := (0, 0, 0, 0)) (by decide +kernel) (acmpF (c := .lt) (by show _ ≤ _; omega)) ?_
    refine y_same (i := .iload_n 1) (len := 1) (r := (0, 0, 0, 0)) (pc' := 5) (ls' := [some (.inl (some 28)), some (zi xk)]) (st' := [zi xk]) (by decide +kernel) (fun k q => by cases q) rfl ?_
    refine y_same (i := .aload_n 0) (len := 1) (r := (0, 0, 0, 0)) (pc' := 6) (ls' := [some (.inl (some 28)), some (zi xk)]) (st' := [.inl (some 28), zi xk]) (by decide +kernel) (fun k q => by cases q) rfl ?_
    refine y_get (j := 35) (len := 3) (r := (4, 6, 0, 289)) (by decide +kernel) hg (tv28 hg) aw28 rfl rfl hm6 ?_
    rcases Decidable.em (xk.toInt ≥ xm.toInt) with q3000 | q3000
    ·
      refine y_cT (c := .ge) (off := 14) (pc' := 23) (len := 3) (r := (0, 0, 0, 0)) (by decide +kernel) (acmpT (c := .ge) (by show _ ≤ _; omega)) (by decide +kernel) ?_
      refine y_ic (c := 0) (len := 1) (r := (0, 0, 0, 0)) (by decide +kernel) (by decide) (fun y3001 hy3001 => ?_)
      refine y_rI (len := 1) (r := (0, 0, 0, 0)) (nL := 2) (k := 2) (n9 := 2) (hs := []) (by decide +kernel) rfl (zfit_b (by omega) (by omega)).2 ?_
      exact ⟨rfl, by omega⟩
    ·
      refine y_cF (c := .ge) (off := 14) (len := 3) (r := (0, 0, 0, 0)) (by decide +kernel) (acmpF (c := .ge) (by show _ < _; omega)) ?_
      refine y_same (i := .iload_n 1) (len := 1) (r := (0, 0, 0, 0)) (pc' := 13) (ls' := [some (.inl (some 28)), some (zi xk)]) (st' := [zi xk]) (by decide +kernel) (fun k q => by cases q) rfl ?_
      refine y_si (c := 300) (len := 3) (r := (0, 0, 0, 0)) (by decide +kernel) (by decide) (fun y3002 hy3002 => ?_)
      rcases Decidable.em (xk.toInt ≥ y3002.toInt) with q3003 | q3003
      ·
        refine y_cT (c := .ge) (off := 7) (pc' := 23) (len := 3) (r := (0, 0, 0, 0)) (by decide +kernel) (acmpT (c := .ge) (by show _ ≤ _; omega)) (by decide +kernel) ?_
        refine y_ic (c := 0) (len := 1) (r := (0, 0, 0, 0)) (by decide +kernel) (by decide) (fun y3004 hy3004 => ?_)
        refine y_rI (len := 1) (r := (0, 0, 0, 0)) (nL := 2) (k := 2) (n9 := 2) (hs := []) (by decide +kernel) rfl (zfit_b (by omega) (by omega)).2 ?_
        exact ⟨rfl, by omega⟩
      ·
        refine y_cF (c := .ge) (off := 7) (len := 3) (r := (0, 0, 0, 0)) (by decide +kernel) (acmpF (c := .ge) (by show _ < _; omega)) ?_
        refine y_ic (c := 1) (len := 1) (r := (0, 0, 0, 0)) (by decide +kernel) (by decide) (fun y3005 hy3005 => ?_)
        refine y_goto (off := 4) (pc' := 24) (len := 3) (r := (0, 0, 0, 0)) (by decide +kernel) (by decide +kernel) ?_
        refine y_rI (len := 1) (r := (0, 0, 0, 0)) (nL := 2) (k := 2) (n9 := 2) (hs := []) (by decide +kernel) rfl (zfit_b (by omega) (by omega)).2 ?_
        exact ⟨rfl, by omega⟩
theorem zck_proof : zcR 1 142 41 1 [] [some (.inr (.inl 0)), some (.inl (1, 0))] = true := by decide +kernel
theorem zc_proof {x1 : Int32} {τ : List Nat} {h : zh} {t : Nat} (hg : hG τ h) : qX 14 142 41 [some (.inl (some 0)), some (zi x1)] [] h t (oP1 (fun h1 => (∃ τ1, hG τ1 h1) ∧ kJX h h1) t) := by
  have hR := zck_proof
  unfold zcR at hR
  cases hL : alp actb [] [] 14 (arn actb 2000 14) 142 10000 [] 41 [some (.inr (.inl 0)), some (.inl (1, 0))] [] (zcS 1 []) with
  | none => rw [hL] at hR; cases hR
  | some L =>
    rw [hL] at hR
    simp only at hR
    have hM0 : aM aJ τ h t (zcS 1 []) [0, x1.toInt] [] τ h t := by
      refine ⟨⟨rfl, rfl, fun j p9 hp9 => ?_⟩, ⟨rfl, fun j T hj => (by cases hj)⟩, fun f hf => (by cases hf), fun f hf => (by cases hf), ⟨aup_refl _, fun _ _ _ _ _ => rfl⟩, hg.1, hg.2, rfl⟩
      · match j, hp9 with
        | 0, hp9 => cases hp9; exact ⟨0, rfl, Int.le_refl _, Int.le_refl _⟩
        | 1, hp9 => cases hp9; exact ⟨_, rfl, (qin_full x1).1, (qin_full x1).2⟩
        | j + 2, hp9 => cases hp9
    have hl0 : alM [0, x1.toInt] [] [some (.inr (.inl 0)), some (.inl (1, 0))] [some (.inl (some 0)), some (zi x1)] := by
      refine ⟨rfl, fun j b hb => ?_, fun j v hv hn => ?_⟩
      · match j, hb with
      | 0, hb => cases hb; exact ⟨_, rfl, 0, rfl, rfl⟩
      | 1, hb => cases hb; exact ⟨_, rfl, x1, x1.toInt, rfl, rfl, by omega⟩
      | j + 2, hb => cases hb
      · match j, hv, hn with
      | 0, _, hn => cases hn
      | 1, _, hn => cases hn
      | j + 2, hv, _ => cases hv
    obtain ⟨xx, k1, r1⟩ := alp_ok (ann := []) (stops := []) (ctb := actb) (call := arn actb 2000 14) (τ0 := τ) (h0 := h) (t0 := t) (ρt := [0, x1.toInt]) (νt := []) (τt := τ) (d := 14) (mi := 142) (Out := oP1 (fun h1 => (∃ τ1, hG τ1 h1) ∧ kJX h h1) t) aJ_ok (fun mk c' h1 _ => okC h1) (arn_ok aJ_ok 14 (fun mk c' h1 _ => okC h1)) 10000 [] 41 _ [] _ L _ _ _ _ [] h t hL hM0 hl0 trivial (fun o S' hm9 ρ' ν' τ' h' t' u1 u2 u3 hM' => by
      have hPx := List.all_eq_true.mp hR _ hm9
      simp only at hPx
      have Fr := hM'.2.2.2.2.1.2
      have G9 : hG τ' h' := ⟨hM'.2.2.2.2.2.1, hM'.2.2.2.2.2.2.1⟩
      have ht9 := hM'.2.2.2.2.2.2.2
      split at hPx
      · rename_i v hv9
        simp only [Bool.and_eq_true] at hPx
        refine ⟨fun q9 hq9 x hx => ?_, fun pc ls st ho => (by cases ho)⟩
        cases hq9
        rcases x with (_ | v9) | z
        · exact hx.elim
        · have ht : t' = t := by
            rw [Nat.eq_of_beq_eq_true hPx.2] at ht9
            exact ht9
          subst ht
          obtain ⟨w9, r9, rfl, -⟩ := hx
          exact Or.inl ⟨w9, h', rfl, ⟨τ', G9⟩, kJX_w hg Fr hPx.1⟩
        · exact hx.elim
      · rename_i o9 e
        simp only [Bool.and_eq_true] at hPx
        refine ⟨fun q9 hq9 x hx => ?_, fun pc ls st ho => (by cases ho)⟩
        cases hq9
        rcases x with (_ | v9) | z
        · exact hx.elim
        · exact hx.elim
        · have ht : t' = t + 1 := by
            rw [Nat.eq_of_beq_eq_true hPx.2] at ht9
            exact ht9
          have he : e = z := hx
          subst he
          have hb9 := Nat.le_of_ble_eq_true hPx.1.1.2
          have hb8 := Nat.le_of_ble_eq_true hPx.1.1.1
          have k9 : kJX h h' := kJX_w hg Fr hPx.1.2
          have q : e = 1 := by omega
          subst q
          exact Or.inr ⟨h', by rw [ht], ⟨τ', G9⟩, k9⟩
      · cases hPx) (fun o ho => (by cases ho)) (aup_refl _) (aup_refl _) (aup_refl _)
    exact ⟨_, k1, r1⟩
theorem fc_proof {x1 : Int32} {t T : Nat} {τ : List Nat} {h : zh} {cur : bsT} {hs : List bsT} (hg : hG τ h) (i : IV h T) (rc : RC h cur hs) (rm : RM h cur hs) (cz : CZ cur hs) (py : PY cur hs) (kc : KC cur hs) (jc : JCx h cur) (jm : JMx h cur) : qP 15 142 [some (.inl (some 0)), some (zi x1)] h t (oP1 (fun h1 => (∃ τ1, hG τ1 h1) ∧ JCx h1 cur) t) := by
  have r5 := i.2.2.2.1
  refine qP_of ?_
  refine y_same (i := .aload_n 0) (len := 1) (r := (0, 0, 0, 0)) (pc' := 1) (ls' := [some (.inl (some 0)), some (zi x1)]) (st' := [.inl (some 0)]) (by decide +kernel) (fun k q => by cases q) rfl ?_
  refine y_same (i := .iload_n 1) (len := 1) (r := (0, 0, 0, 0)) (pc' := 2) (ls' := [some (.inl (some 0)), some (zi x1)]) (st' := [zi x1, .inl (some 0)]) (by decide +kernel) (fun k q => by cases q) rfl ?_
  rcases Decidable.em (x1.toInt < 0) with q3006 | q3006
  ·
    refine y_iT (c := .lt) (off := 8) (pc' := 10) (len := 3) (r := (0, 0, 0, 0)) (by decide +kernel) (acmpT (c := .lt) (by show _ < _; omega)) (by decide +kernel) ?_
    refine y_same (i := .iload_n 1) (len := 1) (r := (0, 0, 0, 0)) (pc' := 11) (ls' := [some (.inl (some 0)), some (zi x1)]) (st' := [zi x1, .inl (some 0)]) (by decide +kernel) (fun k q => by cases q) rfl ?_
    refine y_bi (c := 10) (len := 2) (r := (0, 0, 0, 0)) (by decide +kernel) (by decide) (fun y3007 hy3007 => ?_)
    rcases Decidable.em (x1.toInt < y3007.toInt) with q3008 | q3008
    ·
      refine y_cT (c := .lt) (off := 13) (pc' := 26) (len := 3) (r := (0, 0, 0, 0)) (by decide +kernel) (acmpT (c := .lt) (by show _ < _; omega)) (by decide +kernel) ?_
      refine y_ic (c := 0) (len := 1) (r := (0, 0, 0, 0)) (by decide +kernel) (by decide) (fun y3009 hy3009 => ?_)
      refine y_cX (i := .invokevirtual 70) (len := 3) (r := (0, 153, 11, 852)) (nL := 2) (k := 0) (n := 2) (hs := []) (args := [.inl (some 0), zi y3009]) (rest := []) (l0 := [some (.inl (some 0)), some (zi y3009)]) (by decide +kernel) (Or.inr (Or.inl ⟨_, rfl⟩)) rfl rfl rfl rfl (Nat.le_of_ble_eq_true rfl) (zO hg (tv0 hg) aw0 rfl) rfl rfl (mL := 2) (mk := 1) (m9 := 2) (ms := []) rfl rfl (qT_le (by decide) (c_fitT (d := 0) hg (by omega))) (fun h3010 hR3010 => ?_)
      obtain ⟨hg3010, F3010⟩ := hR3010
      exact Or.inr ⟨_, rfl, ⟨_, hg3010⟩, kp0_JCx ⟨hg3010, fun k j hC => (F3010 k j (by omega))⟩ jc⟩
    ·
      refine y_cF (c := .lt) (off := 13) (len := 3) (r := (0, 0, 0, 0)) (by decide +kernel) (acmpF (c := .lt) (by show _ ≤ _; omega)) ?_
      refine y_same (i := .iload_n 1) (len := 1) (r := (0, 0, 0, 0)) (pc' := 17) (ls' := [some (.inl (some 0)), some (zi x1)]) (st' := [zi x1, .inl (some 0)]) (by decide +kernel) (fun k q => by cases q) rfl ?_
      refine y_bi (c := 19) (len := 2) (r := (0, 0, 0, 0)) (by decide +kernel) (by decide) (fun y3011 hy3011 => ?_)
      rcases Decidable.em (x1.toInt > y3011.toInt) with q3012 | q3012
      ·
        refine y_cT (c := .gt) (off := 7) (pc' := 26) (len := 3) (r := (0, 0, 0, 0)) (by decide +kernel) (acmpT (c := .gt) (by show _ < _; omega)) (by decide +kernel) ?_
        refine y_ic (c := 0) (len := 1) (r := (0, 0, 0, 0)) (by decide +kernel) (by decide) (fun y3013 hy3013 => ?_)
        refine y_cX (i := .invokevirtual 70) (len := 3) (r := (0, 153, 11, 852)) (nL := 2) (k := 0) (n := 2) (hs := []) (args := [.inl (some 0), zi y3013]) (rest := []) (l0 := [some (.inl (some 0)), some (zi y3013)]) (by decide +kernel) (Or.inr (Or.inl ⟨_, rfl⟩)) rfl rfl rfl rfl (Nat.le_of_ble_eq_true rfl) (zO hg (tv0 hg) aw0 rfl) rfl rfl (mL := 2) (mk := 1) (m9 := 2) (ms := []) rfl rfl (qT_le (by decide) (c_fitT (d := 0) hg (by omega))) (fun h3014 hR3014 => ?_)
        obtain ⟨hg3014, F3014⟩ := hR3014
        exact Or.inr ⟨_, rfl, ⟨_, hg3014⟩, kp0_JCx ⟨hg3014, fun k j hC => (F3014 k j (by omega))⟩ jc⟩
      ·
        refine y_cF (c := .gt) (off := 7) (len := 3) (r := (0, 0, 0, 0)) (by decide +kernel) (acmpF (c := .gt) (by show _ ≤ _; omega)) ?_
        refine y_ic (c := 1) (len := 1) (r := (0, 0, 0, 0)) (by decide +kernel) (by decide) (fun y3015 hy3015 => ?_)
        refine y_goto (off := 4) (pc' := 27) (len := 3) (r := (0, 0, 0, 0)) (by decide +kernel) (by decide +kernel) ?_
        refine y_cV (i := .invokevirtual 70) (len := 3) (r := (0, 153, 11, 852)) (nL := 2) (k := 0) (n := 2) (hs := []) (args := [.inl (some 0), zi y3015]) (rest := []) (l0 := [some (.inl (some 0)), some (zi y3015)]) (by decide +kernel) (Or.inr (Or.inl ⟨_, rfl⟩)) rfl rfl rfl rfl (Nat.le_of_ble_eq_true rfl) (zO hg (tv0 hg) aw0 rfl) rfl (qV_le (by decide) (c_fit (d := 0) (by omega))) (fun q3016 hR3016 => ?_)
        obtain rfl := hR3016
        refine y_same (i := .aload_n 0) (len := 1) (r := (0, 0, 0, 0)) (pc' := 31) (ls' := [some (.inl (some 0)), some (zi x1)]) (st' := [.inl (some 0)]) (by decide +kernel) (fun k q => by cases q) rfl ?_
        refine y_get (j := 52) (len := 3) (r := (11, 8, 2, 407)) (by decide +kernel) hg (tv0 hg) aw0 rfl rfl (g_rU (f := 8) (T2 := 28) hg (tv0 hg) aw0 rfl (by decide)) ?_
        refine y_same (i := .aload_n 0) (len := 1) (r := (0, 0, 0, 0)) (pc' := 35) (ls' := [some (.inl (some 0)), some (zi x1)]) (st' := [.inl (some 0), .inl (some 28)]) (by decide +kernel) (fun k q => by cases q) rfl ?_
        refine y_get (j := 29) (len := 3) (r := (11, 5, 2, 404)) (by decide +kernel) hg (tv0 hg) aw0 rfl rfl r5 ?_
        refine y_cV (i := .invokevirtual 153) (len := 3) (r := (0, 37, 4, 494)) (nL := 6) (k := 0) (n := 2) (hs := []) (args := [.inl (some 28), .inl (some 2)]) (rest := []) (l0 := [some (.inl (some 28)), some (.inl (some 2)), none, none, none, none]) (by decide +kernel) (Or.inr (Or.inl ⟨_, rfl⟩)) rfl rfl rfl rfl (Nat.le_of_ble_eq_true rfl) (zO hg (tv28 hg) aw28 rfl) rfl (qV_le (by omega) (lz_jd28 hg i rc rm cz py kc jc jm)) (fun h3017 hR3017 => ?_)
        obtain ⟨⟨τ3017, hg3017⟩, jc3017, fl3017⟩ := hR3017
        exact qX_mn (zc_proof hg3017) (fun x q => oP1_mn (fun h1 k => ⟨k.1, k.2 cur jc3017⟩) q)
  ·
    refine y_iF (c := .lt) (off := 8) (len := 3) (r := (0, 0, 0, 0)) (by decide +kernel) (acmpF (c := .lt) (by show _ ≤ _; omega)) ?_
    refine y_same (i := .iload_n 1) (len := 1) (r := (0, 0, 0, 0)) (pc' := 6) (ls' := [some (.inl (some 0)), some (zi x1)]) (st' := [zi x1, .inl (some 0)]) (by decide +kernel) (fun k q => by cases q) rfl ?_
    refine y_ic (c := 4) (len := 1) (r := (0, 0, 0, 0)) (by decide +kernel) (by decide) (fun y3018 hy3018 => ?_)
    rcases Decidable.em (x1.toInt ≤ y3018.toInt) with q3019 | q3019
    ·
      refine y_cT (c := .le) (off := 15) (pc' := 22) (len := 3) (r := (0, 0, 0, 0)) (by decide +kernel) (acmpT (c := .le) (by show _ ≤ _; omega)) (by decide +kernel) ?_
      refine y_ic (c := 1) (len := 1) (r := (0, 0, 0, 0)) (by decide +kernel) (by decide) (fun y3020 hy3020 => ?_)
      refine y_goto (off := 4) (pc' := 27) (len := 3) (r := (0, 0, 0, 0)) (by decide +kernel) (by decide +kernel) ?_
      refine y_cV (i := .invokevirtual 70) (len := 3) (r := (0, 153, 11, 852)) (nL := 2) (k := 0) (n := 2) (hs := []) (args := [.inl (some 0), zi y3020]) (rest := []) (l0 := [some (.inl (some 0)), some (zi y3020)]) (by decide +kernel) (Or.inr (Or.inl ⟨_, rfl⟩)) rfl rfl rfl rfl (Nat.le_of_ble_eq_true rfl) (zO hg (tv0 hg) aw0 rfl) rfl (qV_le (by decide) (c_fit (d := 0) (by omega))) (fun q3021 hR3021 => ?_)
      obtain rfl := hR3021
      refine y_same (i := .aload_n 0) (len := 1) (r := (0, 0, 0, 0)) (pc' := 31) (ls' := [some (.inl (some 0)), some (zi x1)]) (st' := [.inl (some 0)]) (by decide +kernel) (fun k q => by cases q) rfl ?_
      refine y_get (j := 52) (len := 3) (r := (11, 8, 2, 407)) (by decide +kernel) hg (tv0 hg) aw0 rfl rfl (g_rU (f := 8) (T2 := 28) hg (tv0 hg) aw0 rfl (by decide)) ?_
      refine y_same (i := .aload_n 0) (len := 1) (r := (0, 0, 0, 0)) (pc' := 35) (ls' := [some (.inl (some 0)), some (zi x1)]) (st' := [.inl (some 0), .inl (some 28)]) (by decide +kernel) (fun k q => by cases q) rfl ?_
      refine y_get (j := 29) (len := 3) (r := (11, 5, 2, 404)) (by decide +kernel) hg (tv0 hg) aw0 rfl rfl r5 ?_
      refine y_cV (i := .invokevirtual 153) (len := 3) (r := (0, 37, 4, 494)) (nL := 6) (k := 0) (n := 2) (hs := []) (args := [.inl (some 28), .inl (some 2)]) (rest := []) (l0 := [some (.inl (some 28)), some (.inl (some 2)), none, none, none, none]) (by decide +kernel) (Or.inr (Or.inl ⟨_, rfl⟩)) rfl rfl rfl rfl (Nat.le_of_ble_eq_true rfl) (zO hg (tv28 hg) aw28 rfl) rfl (qV_le (by omega) (lz_jd28 hg i rc rm cz py kc jc jm)) (fun h3022 hR3022 => ?_)
      obtain ⟨⟨τ3022, hg3022⟩, jc3022, fl3022⟩ := hR3022
      exact qX_mn (zc_proof hg3022) (fun x q => oP1_mn (fun h1 k => ⟨k.1, k.2 cur jc3022⟩) q)
    ·
      refine y_cF (c := .le) (off := 15) (len := 3) (r := (0, 0, 0, 0)) (by decide +kernel) (acmpF (c := .le) (by show _ < _; omega)) ?_
      refine y_same (i := .iload_n 1) (len := 1) (r := (0, 0, 0, 0)) (pc' := 11) (ls' := [some (.inl (some 0)), some (zi x1)]) (st' := [zi x1, .inl (some 0)]) (by decide +kernel) (fun k q => by cases q) rfl ?_
      refine y_bi (c := 10) (len := 2) (r := (0, 0, 0, 0)) (by decide +kernel) (by decide) (fun y3023 hy3023 => ?_)
      rcases Decidable.em (x1.toInt < y3023.toInt) with q3024 | q3024
      ·
        refine y_cT (c := .lt) (off := 13) (pc' := 26) (len := 3) (r := (0, 0, 0, 0)) (by decide +kernel) (acmpT (c := .lt) (by show _ < _; omega)) (by decide +kernel) ?_
        refine y_ic (c := 0) (len := 1) (r := (0, 0, 0, 0)) (by decide +kernel) (by decide) (fun y3025 hy3025 => ?_)
        refine y_cX (i := .invokevirtual 70) (len := 3) (r := (0, 153, 11, 852)) (nL := 2) (k := 0) (n := 2) (hs := []) (args := [.inl (some 0), zi y3025]) (rest := []) (l0 := [some (.inl (some 0)), some (zi y3025)]) (by decide +kernel) (Or.inr (Or.inl ⟨_, rfl⟩)) rfl rfl rfl rfl (Nat.le_of_ble_eq_true rfl) (zO hg (tv0 hg) aw0 rfl) rfl rfl (mL := 2) (mk := 1) (m9 := 2) (ms := []) rfl rfl (qT_le (by decide) (c_fitT (d := 0) hg (by omega))) (fun h3026 hR3026 => ?_)
        obtain ⟨hg3026, F3026⟩ := hR3026
        exact Or.inr ⟨_, rfl, ⟨_, hg3026⟩, kp0_JCx ⟨hg3026, fun k j hC => (F3026 k j (by omega))⟩ jc⟩
      ·
        refine y_cF (c := .lt) (off := 13) (len := 3) (r := (0, 0, 0, 0)) (by decide +kernel) (acmpF (c := .lt) (by show _ ≤ _; omega)) ?_
        refine y_same (i := .iload_n 1) (len := 1) (r := (0, 0, 0, 0)) (pc' := 17) (ls' := [some (.inl (some 0)), some (zi x1)]) (st' := [zi x1, .inl (some 0)]) (by decide +kernel) (fun k q => by cases q) rfl ?_
        refine y_bi (c := 19) (len := 2) (r := (0, 0, 0, 0)) (by decide +kernel) (by decide) (fun y3027 hy3027 => ?_)
        rcases Decidable.em (x1.toInt > y3027.toInt) with q3028 | q3028
        ·
          refine y_cT (c := .gt) (off := 7) (pc' := 26) (len := 3) (r := (0, 0, 0, 0)) (by decide +kernel) (acmpT (c := .gt) (by show _ < _; omega)) (by decide +kernel) ?_
          refine y_ic (c := 0) (len := 1) (r := (0, 0, 0, 0)) (by decide +kernel) (by decide) (fun y3029 hy3029 => ?_)
          refine y_cX (i := .invokevirtual 70) (len := 3) (r := (0, 153, 11, 852)) (nL := 2) (k := 0) (n := 2) (hs := []) (args := [.inl (some 0), zi y3029]) (rest := []) (l0 := [some (.inl (some 0)), some (zi y3029)]) (by decide +kernel) (Or.inr (Or.inl ⟨_, rfl⟩)) rfl rfl rfl rfl (Nat.le_of_ble_eq_true rfl) (zO hg (tv0 hg) aw0 rfl) rfl rfl (mL := 2) (mk := 1) (m9 := 2) (ms := []) rfl rfl (qT_le (by decide) (c_fitT (d := 0) hg (by omega))) (fun h3030 hR3030 => ?_)
          obtain ⟨hg3030, F3030⟩ := hR3030
          exact Or.inr ⟨_, rfl, ⟨_, hg3030⟩, kp0_JCx ⟨hg3030, fun k j hC => (F3030 k j (by omega))⟩ jc⟩
        ·
          refine y_cF (c := .gt) (off := 7) (len := 3) (r := (0, 0, 0, 0)) (by decide +kernel) (acmpF (c := .gt) (by show _ ≤ _; omega)) ?_
          refine y_ic (c := 1) (len := 1) (r := (0, 0, 0, 0)) (by decide +kernel) (by decide) (fun y3031 hy3031 => ?_)
          refine y_goto (off := 4) (pc' := 27) (len := 3) (r := (0, 0, 0, 0)) (by decide +kernel) (by decide +kernel) ?_
          refine y_cV (i := .invokevirtual 70) (len := 3) (r := (0, 153, 11, 852)) (nL := 2) (k := 0) (n := 2) (hs := []) (args := [.inl (some 0), zi y3031]) (rest := []) (l0 := [some (.inl (some 0)), some (zi y3031)]) (by decide +kernel) (Or.inr (Or.inl ⟨_, rfl⟩)) rfl rfl rfl rfl (Nat.le_of_ble_eq_true rfl) (zO hg (tv0 hg) aw0 rfl) rfl (qV_le (by decide) (c_fit (d := 0) (by omega))) (fun q3032 hR3032 => ?_)
          obtain rfl := hR3032
          refine y_same (i := .aload_n 0) (len := 1) (r := (0, 0, 0, 0)) (pc' := 31) (ls' := [some (.inl (some 0)), some (zi x1)]) (st' := [.inl (some 0)]) (by decide +kernel) (fun k q => by cases q) rfl ?_
          refine y_get (j := 52) (len := 3) (r := (11, 8, 2, 407)) (by decide +kernel) hg (tv0 hg) aw0 rfl rfl (g_rU (f := 8) (T2 := 28) hg (tv0 hg) aw0 rfl (by decide)) ?_
          refine y_same (i := .aload_n 0) (len := 1) (r := (0, 0, 0, 0)) (pc' := 35) (ls' := [some (.inl (some 0)), some (zi x1)]) (st' := [.inl (some 0), .inl (some 28)]) (by decide +kernel) (fun k q => by cases q) rfl ?_
          refine y_get (j := 29) (len := 3) (r := (11, 5, 2, 404)) (by decide +kernel) hg (tv0 hg) aw0 rfl rfl r5 ?_
          refine y_cV (i := .invokevirtual 153) (len := 3) (r := (0, 37, 4, 494)) (nL := 6) (k := 0) (n := 2) (hs := []) (args := [.inl (some 28), .inl (some 2)]) (rest := []) (l0 := [some (.inl (some 28)), some (.inl (some 2)), none, none, none, none]) (by decide +kernel) (Or.inr (Or.inl ⟨_, rfl⟩)) rfl rfl rfl rfl (Nat.le_of_ble_eq_true rfl) (zO hg (tv28 hg) aw28 rfl) rfl (qV_le (by omega) (lz_jd28 hg i rc rm cz py kc jc jm)) (fun h3033 hR3033 => ?_)
          obtain ⟨⟨τ3033, hg3033⟩, jc3033, fl3033⟩ := hR3033
          exact qX_mn (zc_proof hg3033) (fun x q => oP1_mn (fun h1 k => ⟨k.1, k.2 cur jc3033⟩) q)
theorem zck_sequent : zcR 0 143 51 2 [1008] [some (.inr (.inl 0)), some (.inl (1, 0)), some (.inl (2, 0)), some (.inr (.inl 1000))] = true := by decide +kernel
theorem zc_sequent {x1 x2 : Int32} {q : Nat} {τ : List Nat} {h : zh} {t : Nat} (hg : hG τ h) (tq : τ[q]? = some 1008) : qX 14 143 51 [some (.inl (some 0)), some (zi x1), some (zi x2), some (.inl (some q))] [] h t (oP3 (fun h1 => (∃ τ1, hG τ1 h1) ∧ kJX h h1) t) := by
  have hR := zck_sequent
  unfold zcR at hR
  cases hL : alp actb [] [] 14 (arn actb 2000 14) 143 10000 [] 51 [some (.inr (.inl 0)), some (.inl (1, 0)), some (.inl (2, 0)), some (.inr (.inl 1000))] [] (zcS 2 [1008]) with
  | none => rw [hL] at hR; cases hR
  | some L =>
    rw [hL] at hR
    simp only at hR
    have hM0 : aM aJ τ h t (zcS 2 [1008]) [0, x1.toInt, x2.toInt] [q] τ h t := by
      refine ⟨⟨rfl, rfl, fun j p9 hp9 => ?_⟩, ⟨rfl, fun j T hj => (match j, hj with | 0, hj => (by cases hj; exact ⟨q, rfl, tq⟩) | j + 1, hj => (by cases hj))⟩, fun f hf => (by cases hf), fun f hf => (by cases hf), ⟨aup_refl _, fun _ _ _ _ _ => rfl⟩, hg.1, hg.2, rfl⟩
      · match j, hp9 with
        | 0, hp9 => cases hp9; exact ⟨0, rfl, Int.le_refl _, Int.le_refl _⟩
        | 1, hp9 => cases hp9; exact ⟨_, rfl, (qin_full x1).1, (qin_full x1).2⟩
        | 2, hp9 => cases hp9; exact ⟨_, rfl, (qin_full x2).1, (qin_full x2).2⟩
        | j + 3, hp9 => cases hp9
    have hl0 : alM [0, x1.toInt, x2.toInt] [q] [some (.inr (.inl 0)), some (.inl (1, 0)), some (.inl (2, 0)), some (.inr (.inl 1000))] [some (.inl (some 0)), some (zi x1), some (zi x2), some (.inl (some q))] := by
      refine ⟨rfl, fun j b hb => ?_, fun j v hv hn => ?_⟩
      · match j, hb with
      | 0, hb => cases hb; exact ⟨_, rfl, 0, rfl, rfl⟩
      | 1, hb => cases hb; exact ⟨_, rfl, x1, x1.toInt, rfl, rfl, by omega⟩
      | 2, hb => cases hb; exact ⟨_, rfl, x2, x2.toInt, rfl, rfl, by omega⟩
      | 3, hb => cases hb; exact ⟨_, rfl, q, rfl, rfl⟩
      | j + 4, hb => cases hb
      · match j, hv, hn with
      | 0, _, hn => cases hn
      | 1, _, hn => cases hn
      | 2, _, hn => cases hn
      | 3, _, hn => cases hn
      | j + 4, hv, _ => cases hv
    obtain ⟨xx, k1, r1⟩ := alp_ok (ann := []) (stops := []) (ctb := actb) (call := arn actb 2000 14) (τ0 := τ) (h0 := h) (t0 := t) (ρt := [0, x1.toInt, x2.toInt]) (νt := [q]) (τt := τ) (d := 14) (mi := 143) (Out := oP3 (fun h1 => (∃ τ1, hG τ1 h1) ∧ kJX h h1) t) aJ_ok (fun mk c' h1 _ => okC h1) (arn_ok aJ_ok 14 (fun mk c' h1 _ => okC h1)) 10000 [] 51 _ [] _ L _ _ _ _ [] h t hL hM0 hl0 trivial (fun o S' hm9 ρ' ν' τ' h' t' u1 u2 u3 hM' => by
      have hPx := List.all_eq_true.mp hR _ hm9
      simp only at hPx
      have Fr := hM'.2.2.2.2.1.2
      have G9 : hG τ' h' := ⟨hM'.2.2.2.2.2.1, hM'.2.2.2.2.2.2.1⟩
      have ht9 := hM'.2.2.2.2.2.2.2
      split at hPx
      · rename_i v hv9
        simp only [Bool.and_eq_true] at hPx
        refine ⟨fun q9 hq9 x hx => ?_, fun pc ls st ho => (by cases ho)⟩
        cases hq9
        rcases x with (_ | v9) | z
        · exact hx.elim
        · have ht : t' = t := by
            rw [Nat.eq_of_beq_eq_true hPx.2] at ht9
            exact ht9
          subst ht
          obtain ⟨w9, r9, rfl, -⟩ := hx
          exact Or.inl ⟨w9, h', rfl, ⟨τ', G9⟩, kJX_w hg Fr hPx.1⟩
        · exact hx.elim
      · rename_i o9 e
        simp only [Bool.and_eq_true] at hPx
        refine ⟨fun q9 hq9 x hx => ?_, fun pc ls st ho => (by cases ho)⟩
        cases hq9
        rcases x with (_ | v9) | z
        · exact hx.elim
        · exact hx.elim
        · have ht : t' = t + 1 := by
            rw [Nat.eq_of_beq_eq_true hPx.2] at ht9
            exact ht9
          have he : e = z := hx
          subst he
          have hb9 := Nat.le_of_ble_eq_true hPx.1.1.2
          have hb8 := Nat.le_of_ble_eq_true hPx.1.1.1
          have k9 : kJX h h' := kJX_w hg Fr hPx.1.2
          rcases (show e = 0 ∨ e = 1 by omega) with q | q
          · subst q
            exact Or.inr (Or.inl ⟨h', by rw [ht], ⟨τ', G9⟩, k9⟩)
          · subst q
            exact Or.inr (Or.inr ⟨h', by rw [ht], ⟨τ', G9⟩, k9⟩)
      · cases hPx) (fun o ho => (by cases ho)) (aup_refl _) (aup_refl _) (aup_refl _)
    exact ⟨_, k1, r1⟩
theorem ot_sequent {x1 x2 : Int32} {t m : Nat} {τ : List Nat} {h : zh} (hg : hG τ h) (c6 : ci_ h 28 6 m) (hm3 : m ≤ 300) (V : vi28 τ h m) : qX 14 143 11 [some (.inl (some 0)), some (zi x1), some (zi x2), none] [] h t (oP3 (fun h1 => (∃ τ1, hG τ1 h1) ∧ kJX h h1) t) := by
  refine y_same (i := .aload_n 0) (len := 1) (r := (0, 0, 0, 0)) (pc' := 12) (ls' := [some (.inl (some 0)), some (zi x1), some (zi x2), none]) (st' := [.inl (some 0)]) (by decide +kernel) (fun k q => by cases q) rfl ?_
  refine y_same (i := .aload_n 0) (len := 1) (r := (0, 0, 0, 0)) (pc' := 13) (ls' := [some (.inl (some 0)), some (zi x1), some (zi x2), none]) (st' := [.inl (some 0), .inl (some 0)]) (by decide +kernel) (fun k q => by cases q) rfl ?_
  refine y_get (j := 52) (len := 3) (r := (11, 8, 2, 407)) (by decide +kernel) hg (tv0 hg) aw0 rfl rfl (g_rU (f := 8) (T2 := 28) hg (tv0 hg) aw0 rfl (by decide)) ?_
  refine y_same (i := .iload_n 1) (len := 1) (r := (0, 0, 0, 0)) (pc' := 17) (ls' := [some (.inl (some 0)), some (zi x1), some (zi x2), none]) (st' := [zi x1, .inl (some 28), .inl (some 0)]) (by decide +kernel) (fun k q => by cases q) rfl ?_
  refine y_cI (i := .invokevirtual 173) (len := 3) (r := (0, 32, 4, 1153)) (nL := 2) (k := 2) (n := 2) (hs := []) (args := [.inl (some 28), zi x1]) (rest := [.inl (some 0)]) (l0 := [some (.inl (some 28)), some (zi x1)]) (by decide +kernel) (Or.inr (Or.inl ⟨_, rfl⟩)) rfl rfl rfl rfl (Nat.le_of_ble_eq_true rfl) (zO hg (tv28 hg) aw28 rfl) rfl (qI_le (by omega) (e_has28 (d := 0) (m := m) hg c6)) (fun y3034 qy3034 hRy3034 => ?_)
  obtain ⟨rfl, hDy3034⟩ := hRy3034
  rcases hDy3034 with ⟨vy3034, by3034, cy3034⟩ | vy3034
  ·
    obtain ⟨a, ra, ha, la, ta⟩ := V x1.toInt.toNat (by omega)
    obtain ⟨t0, t1, t2, t3, t4, t5, -⟩ := tyQ_of hg ta la
    obtain ⟨l1, l2, l3, l4, l5, l6, -⟩ := la
    refine y_cV (i := .invokevirtual 120) (len := 3) (r := (0, 152, 11, 1079)) (nL := 2) (k := 0) (n := 2) (hs := []) (args := [.inl (some 0), zi y3034]) (rest := []) (l0 := [some (.inl (some 0)), some (zi y3034)]) (by decide +kernel) (Or.inr (Or.inl ⟨_, rfl⟩)) rfl rfl rfl rfl (Nat.le_of_ble_eq_true rfl) (zO hg (tv0 hg) aw0 rfl) rfl (qV_le (by decide) (c_there (d := 0) (by omega))) (fun q3035 hR3035 => ?_)
    obtain rfl := hR3035
    refine y_same (i := .aload_n 0) (len := 1) (r := (0, 0, 0, 0)) (pc' := 24) (ls' := [some (.inl (some 0)), some (zi x1), some (zi x2), none]) (st' := [.inl (some 0)]) (by decide +kernel) (fun k q => by cases q) rfl ?_
    refine y_same (i := .iload_n 2) (len := 1) (r := (0, 0, 0, 0)) (pc' := 25) (ls' := [some (.inl (some 0)), some (zi x1), some (zi x2), none]) (st' := [zi x2, .inl (some 0)]) (by decide +kernel) (fun k q => by cases q) rfl ?_
    rcases Decidable.em (x2.toInt < 0) with q3036 | q3036
    ·
      refine y_iT (c := .lt) (off := 13) (pc' := 38) (len := 3) (r := (0, 0, 0, 0)) (by decide +kernel) (acmpT (c := .lt) (by show _ < _; omega)) (by decide +kernel) ?_
      refine y_ic (c := 0) (len := 1) (r := (0, 0, 0, 0)) (by decide +kernel) (by decide) (fun y3037 hy3037 => ?_)
      refine y_cX (i := .invokevirtual 70) (len := 3) (r := (0, 153, 11, 852)) (nL := 2) (k := 0) (n := 2) (hs := []) (args := [.inl (some 0), zi y3037]) (rest := []) (l0 := [some (.inl (some 0)), some (zi y3037)]) (by decide +kernel) (Or.inr (Or.inl ⟨_, rfl⟩)) rfl rfl rfl rfl (Nat.le_of_ble_eq_true rfl) (zO hg (tv0 hg) aw0 rfl) rfl rfl (mL := 4) (mk := 1) (m9 := 3) (ms := []) rfl rfl (qT_le (by decide) (c_fitT (d := 0) hg (by omega))) (fun h3038 hR3038 => ?_)
      obtain ⟨hg3038, F3038⟩ := hR3038
      exact Or.inr (Or.inr ⟨_, rfl, ⟨_, hg3038⟩, k0_kJX (fun k j hC => (F3038 k j (by omega)))⟩)
    ·
      refine y_iF (c := .lt) (off := 13) (len := 3) (r := (0, 0, 0, 0)) (by decide +kernel) (acmpF (c := .lt) (by show _ ≤ _; omega)) ?_
      refine y_same (i := .iload_n 2) (len := 1) (r := (0, 0, 0, 0)) (pc' := 29) (ls' := [some (.inl (some 0)), some (zi x1), some (zi x2), none]) (st' := [zi x2, .inl (some 0)]) (by decide +kernel) (fun k q => by cases q) rfl ?_
      refine y_bi (c := 6) (len := 2) (r := (0, 0, 0, 0)) (by decide +kernel) (by decide) (fun y3039 hy3039 => ?_)
      rcases Decidable.em (x2.toInt > y3039.toInt) with q3040 | q3040
      ·
        refine y_cT (c := .gt) (off := 7) (pc' := 38) (len := 3) (r := (0, 0, 0, 0)) (by decide +kernel) (acmpT (c := .gt) (by show _ < _; omega)) (by decide +kernel) ?_
        refine y_ic (c := 0) (len := 1) (r := (0, 0, 0, 0)) (by decide +kernel) (by decide) (fun y3041 hy3041 => ?_)
        refine y_cX (i := .invokevirtual 70) (len := 3) (r := (0, 153, 11, 852)) (nL := 2) (k := 0) (n := 2) (hs := []) (args := [.inl (some 0), zi y3041]) (rest := []) (l0 := [some (.inl (some 0)), some (zi y3041)]) (by decide +kernel) (Or.inr (Or.inl ⟨_, rfl⟩)) rfl rfl rfl rfl (Nat.le_of_ble_eq_true rfl) (zO hg (tv0 hg) aw0 rfl) rfl rfl (mL := 4) (mk := 1) (m9 := 3) (ms := []) rfl rfl (qT_le (by decide) (c_fitT (d := 0) hg (by omega))) (fun h3042 hR3042 => ?_)
        obtain ⟨hg3042, F3042⟩ := hR3042
        exact Or.inr (Or.inr ⟨_, rfl, ⟨_, hg3042⟩, k0_kJX (fun k j hC => (F3042 k j (by omega)))⟩)
      ·
        refine y_cF (c := .gt) (off := 7) (len := 3) (r := (0, 0, 0, 0)) (by decide +kernel) (acmpF (c := .gt) (by show _ ≤ _; omega)) ?_
        refine y_ic (c := 1) (len := 1) (r := (0, 0, 0, 0)) (by decide +kernel) (by decide) (fun y3043 hy3043 => ?_)
        refine y_goto (off := 4) (pc' := 39) (len := 3) (r := (0, 0, 0, 0)) (by decide +kernel) (by decide +kernel) ?_
        refine y_cV (i := .invokevirtual 70) (len := 3) (r := (0, 153, 11, 852)) (nL := 2) (k := 0) (n := 2) (hs := []) (args := [.inl (some 0), zi y3043]) (rest := []) (l0 := [some (.inl (some 0)), some (zi y3043)]) (by decide +kernel) (Or.inr (Or.inl ⟨_, rfl⟩)) rfl rfl rfl rfl (Nat.le_of_ble_eq_true rfl) (zO hg (tv0 hg) aw0 rfl) rfl (qV_le (by decide) (c_fit (d := 0) (by omega))) (fun q3044 hR3044 => ?_)
        obtain rfl := hR3044
        refine y_same (i := .aload_n 0) (len := 1) (r := (0, 0, 0, 0)) (pc' := 43) (ls' := [some (.inl (some 0)), some (zi x1), some (zi x2), none]) (st' := [.inl (some 0)]) (by decide +kernel) (fun k q => by cases q) rfl ?_
        refine y_get (j := 52) (len := 3) (r := (11, 8, 2, 407)) (by decide +kernel) hg (tv0 hg) aw0 rfl rfl (g_rU (f := 8) (T2 := 28) hg (tv0 hg) aw0 rfl (by decide)) ?_
        refine y_same (i := .iload_n 1) (len := 1) (r := (0, 0, 0, 0)) (pc' := 47) (ls' := [some (.inl (some 0)), some (zi x1), some (zi x2), none]) (st' := [zi x1, .inl (some 28)]) (by decide +kernel) (fun k q => by cases q) rfl ?_
        refine y_cA (i := .invokevirtual 174) (len := 3) (r := (0, 33, 4, 1157)) (nL := 3) (k := 3) (n := 2) (hs := []) (args := [.inl (some 28), zi x1]) (rest := []) (l0 := [some (.inl (some 28)), some (zi x1), none]) (by decide +kernel) (Or.inr (Or.inl ⟨_, rfl⟩)) rfl rfl rfl rfl (Nat.le_of_ble_eq_true rfl) (zO hg (tv28 hg) aw28 rfl) rfl (qA_le (by omega) (e_slo28 (d := 0) (k := x1.toInt.toNat) hg (by omega) (by omega) ra)) (fun h3045 hR3045 => ?_)
        obtain rfl := hR3045
        refine y_same (i := .astore_n 3) (len := 1) (r := (0, 0, 0, 0)) (pc' := 51) (ls' := [some (.inl (some 0)), some (zi x1), some (zi x2), some (.inl (some a))]) (st' := []) (by decide +kernel) (fun k q => by cases q) rfl ?_
        exact zc_sequent hg ta
  ·
    refine y_cX (i := .invokevirtual 120) (len := 3) (r := (0, 152, 11, 1079)) (nL := 2) (k := 0) (n := 2) (hs := []) (args := [.inl (some 0), zi y3034]) (rest := []) (l0 := [some (.inl (some 0)), some (zi y3034)]) (by decide +kernel) (Or.inr (Or.inl ⟨_, rfl⟩)) rfl rfl rfl rfl (Nat.le_of_ble_eq_true rfl) (zO hg (tv0 hg) aw0 rfl) rfl rfl (mL := 4) (mk := 1) (m9 := 3) (ms := []) rfl rfl (qT_le (by decide) (c_thereT (d := 0) hg (by omega))) (fun h3046 hR3046 => ?_)
    obtain ⟨hg3046, F3046⟩ := hR3046
    exact Or.inr (Or.inl ⟨_, rfl, ⟨_, hg3046⟩, k0_kJX (fun k j hC => (F3046 k j (by omega)))⟩)
theorem fc_sequent {x1 x2 : Int32} {t T : Nat} {τ : List Nat} {h : zh} {cur : bsT} {hs : List bsT} (hg : hG τ h) (i : IV h T) (rc : RC h cur hs) (rm : RM h cur hs) (cz : CZ cur hs) (py : PY cur hs) (kc : KC cur hs) (jc : JCx h cur) (jm : JMx h cur) : qP 15 143 [some (.inl (some 0)), some (zi x1), some (zi x2), none] h t (oP3 (fun h1 => (∃ τ1, hG τ1 h1) ∧ JCx h1 cur) t) := by
  have r5 := i.2.2.2.1
  refine qP_of ?_
  refine y_same (i := .aload_n 0) (len := 1) (r := (0, 0, 0, 0)) (pc' := 1) (ls' := [some (.inl (some 0)), some (zi x1), some (zi x2), none]) (st' := [.inl (some 0)]) (by decide +kernel) (fun k q => by cases q) rfl ?_
  refine y_get (j := 52) (len := 3) (r := (11, 8, 2, 407)) (by decide +kernel) hg (tv0 hg) aw0 rfl rfl (g_rU (f := 8) (T2 := 28) hg (tv0 hg) aw0 rfl (by decide)) ?_
  refine y_same (i := .aload_n 0) (len := 1) (r := (0, 0, 0, 0)) (pc' := 5) (ls' := [some (.inl (some 0)), some (zi x1), some (zi x2), none]) (st' := [.inl (some 0), .inl (some 28)]) (by decide +kernel) (fun k q => by cases q) rfl ?_
  refine y_get (j := 29) (len := 3) (r := (11, 5, 2, 404)) (by decide +kernel) hg (tv0 hg) aw0 rfl rfl r5 ?_
  refine y_cV (i := .invokevirtual 153) (len := 3) (r := (0, 37, 4, 494)) (nL := 6) (k := 0) (n := 2) (hs := []) (args := [.inl (some 28), .inl (some 2)]) (rest := []) (l0 := [some (.inl (some 28)), some (.inl (some 2)), none, none, none, none]) (by decide +kernel) (Or.inr (Or.inl ⟨_, rfl⟩)) rfl rfl rfl rfl (Nat.le_of_ble_eq_true rfl) (zO hg (tv28 hg) aw28 rfl) rfl (qV_le (by omega) (lz_jd28 hg i rc rm cz py kc jc jm)) (fun h3047 hR3047 => ?_)
  obtain ⟨⟨τ3047, hg3047⟩, jc3047, fl3047⟩ := hR3047
  have n9 := jc3047.2.1 fl3047
  exact qX_mn (ot_sequent hg3047 n9.1 n9.2.1 (vi28_of hg3047 n9)) (fun x q => oP3_mn (fun h1 k => ⟨k.1, k.2 cur jc3047⟩) q)
theorem zck_partOf : zcR 0 144 69 4 [1004] [some (.inr (.inl 0)), some (.inl (1, 0)), some (.inl (2, 0)), some (.inl (3, 0)), some (.inl (4, 0)), some (.inr (.inl 1000))] = true := by decide +kernel
theorem zc_partOf {x1 x2 x3 x4 : Int32} {q : Nat} {τ : List Nat} {h : zh} {t : Nat} (hg : hG τ h) (tq : τ[q]? = some 1004) : qX 14 144 69 [some (.inl (some 0)), some (zi x1), some (zi x2), some (zi x3), some (zi x4), some (.inl (some q))] [] h t (oP3 (fun h1 => (∃ τ1, hG τ1 h1) ∧ kJX h h1) t) := by
  have hR := zck_partOf
  unfold zcR at hR
  cases hL : alp actb [] [] 14 (arn actb 2000 14) 144 10000 [] 69 [some (.inr (.inl 0)), some (.inl (1, 0)), some (.inl (2, 0)), some (.inl (3, 0)), some (.inl (4, 0)), some (.inr (.inl 1000))] [] (zcS 4 [1004]) with
  | none => rw [hL] at hR; cases hR
  | some L =>
    rw [hL] at hR
    simp only at hR
    have hM0 : aM aJ τ h t (zcS 4 [1004]) [0, x1.toInt, x2.toInt, x3.toInt, x4.toInt] [q] τ h t := by
      refine ⟨⟨rfl, rfl, fun j p9 hp9 => ?_⟩, ⟨rfl, fun j T hj => (match j, hj with | 0, hj => (by cases hj; exact ⟨q, rfl, tq⟩) | j + 1, hj => (by cases hj))⟩, fun f hf => (by cases hf), fun f hf => (by cases hf), ⟨aup_refl _, fun _ _ _ _ _ => rfl⟩, hg.1, hg.2, rfl⟩
      · match j, hp9 with
        | 0, hp9 => cases hp9; exact ⟨0, rfl, Int.le_refl _, Int.le_refl _⟩
        | 1, hp9 => cases hp9; exact ⟨_, rfl, (qin_full x1).1, (qin_full x1).2⟩
        | 2, hp9 => cases hp9; exact ⟨_, rfl, (qin_full x2).1, (qin_full x2).2⟩
        | 3, hp9 => cases hp9; exact ⟨_, rfl, (qin_full x3).1, (qin_full x3).2⟩
        | 4, hp9 => cases hp9; exact ⟨_, rfl, (qin_full x4).1, (qin_full x4).2⟩
        | j + 5, hp9 => cases hp9
    have hl0 : alM [0, x1.toInt, x2.toInt, x3.toInt, x4.toInt] [q] [some (.inr (.inl 0)), some (.inl (1, 0)), some (.inl (2, 0)), some (.inl (3, 0)), some (.inl (4, 0)), some (.inr (.inl 1000))] [some (.inl (some 0)), some (zi x1), some (zi x2), some (zi x3), some (zi x4), some (.inl (some q))] := by
      refine ⟨rfl, fun j b hb => ?_, fun j v hv hn => ?_⟩
      · match j, hb with
      | 0, hb => cases hb; exact ⟨_, rfl, 0, rfl, rfl⟩
      | 1, hb => cases hb; exact ⟨_, rfl, x1, x1.toInt, rfl, rfl, by omega⟩
      | 2, hb => cases hb; exact ⟨_, rfl, x2, x2.toInt, rfl, rfl, by omega⟩
      | 3, hb => cases hb; exact ⟨_, rfl, x3, x3.toInt, rfl, rfl, by omega⟩
      | 4, hb => cases hb; exact ⟨_, rfl, x4, x4.toInt, rfl, rfl, by omega⟩
      | 5, hb => cases hb; exact ⟨_, rfl, q, rfl, rfl⟩
      | j + 6, hb => cases hb
      · match j, hv, hn with
      | 0, _, hn => cases hn
      | 1, _, hn => cases hn
      | 2, _, hn => cases hn
      | 3, _, hn => cases hn
      | 4, _, hn => cases hn
      | 5, _, hn => cases hn
      | j + 6, hv, _ => cases hv
    obtain ⟨xx, k1, r1⟩ := alp_ok (ann := []) (stops := []) (ctb := actb) (call := arn actb 2000 14) (τ0 := τ) (h0 := h) (t0 := t) (ρt := [0, x1.toInt, x2.toInt, x3.toInt, x4.toInt]) (νt := [q]) (τt := τ) (d := 14) (mi := 144) (Out := oP3 (fun h1 => (∃ τ1, hG τ1 h1) ∧ kJX h h1) t) aJ_ok (fun mk c' h1 _ => okC h1) (arn_ok aJ_ok 14 (fun mk c' h1 _ => okC h1)) 10000 [] 69 _ [] _ L _ _ _ _ [] h t hL hM0 hl0 trivial (fun o S' hm9 ρ' ν' τ' h' t' u1 u2 u3 hM' => by
      have hPx := List.all_eq_true.mp hR _ hm9
      simp only at hPx
      have Fr := hM'.2.2.2.2.1.2
      have G9 : hG τ' h' := ⟨hM'.2.2.2.2.2.1, hM'.2.2.2.2.2.2.1⟩
      have ht9 := hM'.2.2.2.2.2.2.2
      split at hPx
      · rename_i v hv9
        simp only [Bool.and_eq_true] at hPx
        refine ⟨fun q9 hq9 x hx => ?_, fun pc ls st ho => (by cases ho)⟩
        cases hq9
        rcases x with (_ | v9) | z
        · exact hx.elim
        · have ht : t' = t := by
            rw [Nat.eq_of_beq_eq_true hPx.2] at ht9
            exact ht9
          subst ht
          obtain ⟨w9, r9, rfl, -⟩ := hx
          exact Or.inl ⟨w9, h', rfl, ⟨τ', G9⟩, kJX_w hg Fr hPx.1⟩
        · exact hx.elim
      · rename_i o9 e
        simp only [Bool.and_eq_true] at hPx
        refine ⟨fun q9 hq9 x hx => ?_, fun pc ls st ho => (by cases ho)⟩
        cases hq9
        rcases x with (_ | v9) | z
        · exact hx.elim
        · exact hx.elim
        · have ht : t' = t + 1 := by
            rw [Nat.eq_of_beq_eq_true hPx.2] at ht9
            exact ht9
          have he : e = z := hx
          subst he
          have hb9 := Nat.le_of_ble_eq_true hPx.1.1.2
          have hb8 := Nat.le_of_ble_eq_true hPx.1.1.1
          have k9 : kJX h h' := kJX_w hg Fr hPx.1.2
          rcases (show e = 0 ∨ e = 1 by omega) with q | q
          · subst q
            exact Or.inr (Or.inl ⟨h', by rw [ht], ⟨τ', G9⟩, k9⟩)
          · subst q
            exact Or.inr (Or.inr ⟨h', by rw [ht], ⟨τ', G9⟩, k9⟩)
      · cases hPx) (fun o ho => (by cases ho)) (aup_refl _) (aup_refl _) (aup_refl _)
    exact ⟨_, k1, r1⟩
theorem ot_partOf {x1 x2 x3 x4 : Int32} {t m : Nat} {τ : List Nat} {h : zh} (hg : hG τ h) (c6 : ci_ h 28 6 m) (hm3 : m ≤ 300) (V : vi28 τ h m) : qX 14 144 11 [some (.inl (some 0)), some (zi x1), some (zi x2), some (zi x3), some (zi x4), none] [] h t (oP3 (fun h1 => (∃ τ1, hG τ1 h1) ∧ kJX h h1) t) := by
  refine y_same (i := .aload_n 0) (len := 1) (r := (0, 0, 0, 0)) (pc' := 12) (ls' := [some (.inl (some 0)), some (zi x1), some (zi x2), some (zi x3), some (zi x4), none]) (st' := [.inl (some 0)]) (by decide +kernel) (fun k q => by cases q) rfl ?_
  refine y_same (i := .aload_n 0) (len := 1) (r := (0, 0, 0, 0)) (pc' := 13) (ls' := [some (.inl (some 0)), some (zi x1), some (zi x2), some (zi x3), some (zi x4), none]) (st' := [.inl (some 0), .inl (some 0)]) (by decide +kernel) (fun k q => by cases q) rfl ?_
  refine y_get (j := 52) (len := 3) (r := (11, 8, 2, 407)) (by decide +kernel) hg (tv0 hg) aw0 rfl rfl (g_rU (f := 8) (T2 := 28) hg (tv0 hg) aw0 rfl (by decide)) ?_
  refine y_same (i := .iload_n 1) (len := 1) (r := (0, 0, 0, 0)) (pc' := 17) (ls' := [some (.inl (some 0)), some (zi x1), some (zi x2), some (zi x3), some (zi x4), none]) (st' := [zi x1, .inl (some 28), .inl (some 0)]) (by decide +kernel) (fun k q => by cases q) rfl ?_
  refine y_cI (i := .invokevirtual 173) (len := 3) (r := (0, 32, 4, 1153)) (nL := 2) (k := 2) (n := 2) (hs := []) (args := [.inl (some 28), zi x1]) (rest := [.inl (some 0)]) (l0 := [some (.inl (some 28)), some (zi x1)]) (by decide +kernel) (Or.inr (Or.inl ⟨_, rfl⟩)) rfl rfl rfl rfl (Nat.le_of_ble_eq_true rfl) (zO hg (tv28 hg) aw28 rfl) rfl (qI_le (by omega) (e_has28 (d := 0) (m := m) hg c6)) (fun y3048 qy3048 hRy3048 => ?_)
  obtain ⟨rfl, hDy3048⟩ := hRy3048
  rcases hDy3048 with ⟨vy3048, by3048, cy3048⟩ | vy3048
  ·
    obtain ⟨a, ra, ha, la, ta⟩ := V x1.toInt.toNat (by omega)
    obtain ⟨t0, t1, t2, t3, t4, t5, -⟩ := tyQ_of hg ta la
    obtain ⟨l1, l2, l3, l4, l5, l6, -⟩ := la
    refine y_iF (c := .eq) (off := 14) (len := 3) (r := (0, 0, 0, 0)) (by decide +kernel) (acmpF (c := .eq) (by show ¬ (_ = _); omega)) ?_
    refine y_same (i := .iload_n 2) (len := 1) (r := (0, 0, 0, 0)) (pc' := 24) (ls' := [some (.inl (some 0)), some (zi x1), some (zi x2), some (zi x3), some (zi x4), none]) (st' := [zi x2, .inl (some 0)]) (by decide +kernel) (fun k q => by cases q) rfl ?_
    refine y_cI (i := .invokestatic 101) (len := 3) (r := (1, 156, 11, 1068)) (nL := 1) (k := 2) (n := 1) (hs := []) (args := [zi x2]) (rest := [.inl (some 0)]) (l0 := [some (zi x2)]) (by decide +kernel) (Or.inl ⟨_, rfl⟩) rfl rfl rfl rfl (Nat.le_of_ble_eq_true rfl) rfl rfl (qI_le (by decide) (c_isSide (d := 0))) (fun y3049 qy3049 hRy3049 => ?_)
    obtain ⟨rfl, hDy3049⟩ := hRy3049
    rcases hDy3049 with ⟨vy3049, wy3049⟩ | ⟨vy3049, wy3049⟩
    ·
      refine y_iF (c := .eq) (off := 7) (len := 3) (r := (0, 0, 0, 0)) (by decide +kernel) (acmpF (c := .eq) (by show ¬ (_ = _); omega)) ?_
      refine y_ic (c := 1) (len := 1) (r := (0, 0, 0, 0)) (by decide +kernel) (by decide) (fun y3050 hy3050 => ?_)
      refine y_goto (off := 4) (pc' := 35) (len := 3) (r := (0, 0, 0, 0)) (by decide +kernel) (by decide +kernel) ?_
      refine y_cV (i := .invokevirtual 120) (len := 3) (r := (0, 152, 11, 1079)) (nL := 2) (k := 0) (n := 2) (hs := []) (args := [.inl (some 0), zi y3050]) (rest := []) (l0 := [some (.inl (some 0)), some (zi y3050)]) (by decide +kernel) (Or.inr (Or.inl ⟨_, rfl⟩)) rfl rfl rfl rfl (Nat.le_of_ble_eq_true rfl) (zO hg (tv0 hg) aw0 rfl) rfl (qV_le (by decide) (c_there (d := 0) (by omega))) (fun q3051 hR3051 => ?_)
      obtain rfl := hR3051
      refine y_same (i := .iload_n 2) (len := 1) (r := (0, 0, 0, 0)) (pc' := 39) (ls' := [some (.inl (some 0)), some (zi x1), some (zi x2), some (zi x3), some (zi x4), none]) (st' := [zi x2]) (by decide +kernel) (fun k q => by cases q) rfl ?_
      rcases Decidable.em (x2.toInt ≠ 0) with q3052 | q3052
      ·
        refine y_iT (c := .ne) (off := 17) (pc' := 56) (len := 3) (r := (0, 0, 0, 0)) (by decide +kernel) (acmpT (c := .ne) (by show ¬ (_ = _); omega)) (by decide +kernel) ?_
        refine y_same (i := .aload_n 0) (len := 1) (r := (0, 0, 0, 0)) (pc' := 57) (ls' := [some (.inl (some 0)), some (zi x1), some (zi x2), some (zi x3), some (zi x4), none]) (st' := [.inl (some 0)]) (by decide +kernel) (fun k q => by cases q) rfl ?_
        refine y_get (j := 52) (len := 3) (r := (11, 8, 2, 407)) (by decide +kernel) hg (tv0 hg) aw0 rfl rfl (g_rU (f := 8) (T2 := 28) hg (tv0 hg) aw0 rfl (by decide)) ?_
        refine y_same (i := .iload_n 1) (len := 1) (r := (0, 0, 0, 0)) (pc' := 61) (ls' := [some (.inl (some 0)), some (zi x1), some (zi x2), some (zi x3), some (zi x4), none]) (st' := [zi x1, .inl (some 28)]) (by decide +kernel) (fun k q => by cases q) rfl ?_
        refine y_cA (i := .invokevirtual 174) (len := 3) (r := (0, 33, 4, 1157)) (nL := 3) (k := 3) (n := 2) (hs := []) (args := [.inl (some 28), zi x1]) (rest := []) (l0 := [some (.inl (some 28)), some (zi x1), none]) (by decide +kernel) (Or.inr (Or.inl ⟨_, rfl⟩)) rfl rfl rfl rfl (Nat.le_of_ble_eq_true rfl) (zO hg (tv28 hg) aw28 rfl) rfl (qA_le (by omega) (e_slo28 (d := 0) (k := x1.toInt.toNat) hg (by omega) (by omega) ra)) (fun h3053 hR3053 => ?_)
        obtain rfl := hR3053
        refine y_get (j := 188) (len := 3) (r := (7, 2, 2, 20538)) (by decide +kernel) hg ta aw1008 rfl rfl l3 ?_
        refine y_same (i := .astore 5) (len := 2) (r := (0, 0, 0, 0)) (pc' := 69) (ls' := [some (.inl (some 0)), some (zi x1), some (zi x2), some (zi x3), some (zi x4), some (.inl (some ((a + 5))))]) (st' := []) (by decide +kernel) (fun k q => by cases q) rfl ?_
        exact zc_partOf hg t5
      ·
        refine y_iF (c := .ne) (off := 17) (len := 3) (r := (0, 0, 0, 0)) (by decide +kernel) (acmpF (c := .ne) (by show _ = _; omega)) ?_
        refine y_same (i := .aload_n 0) (len := 1) (r := (0, 0, 0, 0)) (pc' := 43) (ls' := [some (.inl (some 0)), some (zi x1), some (zi x2), some (zi x3), some (zi x4), none]) (st' := [.inl (some 0)]) (by decide +kernel) (fun k q => by cases q) rfl ?_
        refine y_get (j := 52) (len := 3) (r := (11, 8, 2, 407)) (by decide +kernel) hg (tv0 hg) aw0 rfl rfl (g_rU (f := 8) (T2 := 28) hg (tv0 hg) aw0 rfl (by decide)) ?_
        refine y_same (i := .iload_n 1) (len := 1) (r := (0, 0, 0, 0)) (pc' := 47) (ls' := [some (.inl (some 0)), some (zi x1), some (zi x2), some (zi x3), some (zi x4), none]) (st' := [zi x1, .inl (some 28)]) (by decide +kernel) (fun k q => by cases q) rfl ?_
        refine y_cA (i := .invokevirtual 174) (len := 3) (r := (0, 33, 4, 1157)) (nL := 3) (k := 3) (n := 2) (hs := []) (args := [.inl (some 28), zi x1]) (rest := []) (l0 := [some (.inl (some 28)), some (zi x1), none]) (by decide +kernel) (Or.inr (Or.inl ⟨_, rfl⟩)) rfl rfl rfl rfl (Nat.le_of_ble_eq_true rfl) (zO hg (tv28 hg) aw28 rfl) rfl (qA_le (by omega) (e_slo28 (d := 0) (k := x1.toInt.toNat) hg (by omega) (by omega) ra)) (fun h3054 hR3054 => ?_)
        obtain rfl := hR3054
        refine y_get (j := 186) (len := 3) (r := (7, 1, 2, 20535)) (by decide +kernel) hg ta aw1008 rfl rfl l2 ?_
        refine y_goto (off := 14) (pc' := 67) (len := 3) (r := (0, 0, 0, 0)) (by decide +kernel) (by decide +kernel) ?_
        refine y_same (i := .astore 5) (len := 2) (r := (0, 0, 0, 0)) (pc' := 69) (ls' := [some (.inl (some 0)), some (zi x1), some (zi x2), some (zi x3), some (zi x4), some (.inl (some ((a + 3))))]) (st' := []) (by decide +kernel) (fun k q => by cases q) rfl ?_
        exact zc_partOf hg t3
    ·
      refine y_iT (c := .eq) (off := 7) (pc' := 34) (len := 3) (r := (0, 0, 0, 0)) (by decide +kernel) (acmpT (c := .eq) (by show _ = _; omega)) (by decide +kernel) ?_
      refine y_ic (c := 0) (len := 1) (r := (0, 0, 0, 0)) (by decide +kernel) (by decide) (fun y3055 hy3055 => ?_)
      refine y_cX (i := .invokevirtual 120) (len := 3) (r := (0, 152, 11, 1079)) (nL := 2) (k := 0) (n := 2) (hs := []) (args := [.inl (some 0), zi y3055]) (rest := []) (l0 := [some (.inl (some 0)), some (zi y3055)]) (by decide +kernel) (Or.inr (Or.inl ⟨_, rfl⟩)) rfl rfl rfl rfl (Nat.le_of_ble_eq_true rfl) (zO hg (tv0 hg) aw0 rfl) rfl rfl (mL := 6) (mk := 1) (m9 := 5) (ms := []) rfl rfl (qT_le (by decide) (c_thereT (d := 0) hg (by omega))) (fun h3056 hR3056 => ?_)
      obtain ⟨hg3056, F3056⟩ := hR3056
      exact Or.inr (Or.inl ⟨_, rfl, ⟨_, hg3056⟩, k0_kJX (fun k j hC => (F3056 k j (by omega)))⟩)
  ·
    refine y_iT (c := .eq) (off := 14) (pc' := 34) (len := 3) (r := (0, 0, 0, 0)) (by decide +kernel) (acmpT (c := .eq) (by show _ = _; omega)) (by decide +kernel) ?_
    refine y_ic (c := 0) (len := 1) (r := (0, 0, 0, 0)) (by decide +kernel) (by decide) (fun y3057 hy3057 => ?_)
    refine y_cX (i := .invokevirtual 120) (len := 3) (r := (0, 152, 11, 1079)) (nL := 2) (k := 0) (n := 2) (hs := []) (args := [.inl (some 0), zi y3057]) (rest := []) (l0 := [some (.inl (some 0)), some (zi y3057)]) (by decide +kernel) (Or.inr (Or.inl ⟨_, rfl⟩)) rfl rfl rfl rfl (Nat.le_of_ble_eq_true rfl) (zO hg (tv0 hg) aw0 rfl) rfl rfl (mL := 6) (mk := 1) (m9 := 5) (ms := []) rfl rfl (qT_le (by decide) (c_thereT (d := 0) hg (by omega))) (fun h3058 hR3058 => ?_)
    obtain ⟨hg3058, F3058⟩ := hR3058
    exact Or.inr (Or.inl ⟨_, rfl, ⟨_, hg3058⟩, k0_kJX (fun k j hC => (F3058 k j (by omega)))⟩)
theorem fc_partOf {x1 x2 x3 x4 : Int32} {t T : Nat} {τ : List Nat} {h : zh} {cur : bsT} {hs : List bsT} (hg : hG τ h) (i : IV h T) (rc : RC h cur hs) (rm : RM h cur hs) (cz : CZ cur hs) (py : PY cur hs) (kc : KC cur hs) (jc : JCx h cur) (jm : JMx h cur) : qP 15 144 [some (.inl (some 0)), some (zi x1), some (zi x2), some (zi x3), some (zi x4), none] h t (oP3 (fun h1 => (∃ τ1, hG τ1 h1) ∧ JCx h1 cur) t) := by
  have r5 := i.2.2.2.1
  refine qP_of ?_
  refine y_same (i := .aload_n 0) (len := 1) (r := (0, 0, 0, 0)) (pc' := 1) (ls' := [some (.inl (some 0)), some (zi x1), some (zi x2), some (zi x3), some (zi x4), none]) (st' := [.inl (some 0)]) (by decide +kernel) (fun k q => by cases q) rfl ?_
  refine y_get (j := 52) (len := 3) (r := (11, 8, 2, 407)) (by decide +kernel) hg (tv0 hg) aw0 rfl rfl (g_rU (f := 8) (T2 := 28) hg (tv0 hg) aw0 rfl (by decide)) ?_
  refine y_same (i := .aload_n 0) (len := 1) (r := (0, 0, 0, 0)) (pc' := 5) (ls' := [some (.inl (some 0)), some (zi x1), some (zi x2), some (zi x3), some (zi x4), none]) (st' := [.inl (some 0), .inl (some 28)]) (by decide +kernel) (fun k q => by cases q) rfl ?_
  refine y_get (j := 29) (len := 3) (r := (11, 5, 2, 404)) (by decide +kernel) hg (tv0 hg) aw0 rfl rfl r5 ?_
  refine y_cV (i := .invokevirtual 153) (len := 3) (r := (0, 37, 4, 494)) (nL := 6) (k := 0) (n := 2) (hs := []) (args := [.inl (some 28), .inl (some 2)]) (rest := []) (l0 := [some (.inl (some 28)), some (.inl (some 2)), none, none, none, none]) (by decide +kernel) (Or.inr (Or.inl ⟨_, rfl⟩)) rfl rfl rfl rfl (Nat.le_of_ble_eq_true rfl) (zO hg (tv28 hg) aw28 rfl) rfl (qV_le (by omega) (lz_jd28 hg i rc rm cz py kc jc jm)) (fun h3059 hR3059 => ?_)
  obtain ⟨⟨τ3059, hg3059⟩, jc3059, fl3059⟩ := hR3059
  have n9 := jc3059.2.1 fl3059
  exact qX_mn (ot_partOf hg3059 n9.1 n9.2.1 (vi28_of hg3059 n9)) (fun x q => oP3_mn (fun h1 k => ⟨k.1, k.2 cur jc3059⟩) q)

theorem fc_overPart {x1 x2 x3 : Int32} {t T : Nat} {τ : List Nat} {h : zh} {cur : bsT} {hs : List bsT} (hg : hG τ h) (i : IV h T) (rc : RC h cur hs) (rm : RM h cur hs) (cz : CZ cur hs) (py : PY cur hs) (kc : KC cur hs) (jc : JCx h cur) (jm : JMx h cur) : qP 22 146 [some (.inl (some 0)), some (zi x1), some (zi x2), some (zi x3), none, none] h t (oP3 (fun h1 => (∃ τ1, hG τ1 h1) ∧ JCx h1 cur) t) := by
  have r5 := i.2.2.2.1
  refine qP_of ?_
  refine y_same (i := .aload_n 0) (len := 1) (r := (0, 0, 0, 0)) (pc' := 1) (ls' := [some (.inl (some 0)), some (zi x1), some (zi x2), some (zi x3), none, none]) (st' := [.inl (some 0)]) (by decide +kernel) (fun k q => by cases q) rfl ?_
  refine y_get (j := 56) (len := 3) (r := (11, 9, 2, 408)) (by decide +kernel) hg (tv0 hg) aw0 rfl rfl (g_rU (f := 9) (T2 := 35) hg (tv0 hg) aw0 rfl (by decide)) ?_
  refine y_same (i := .aload_n 0) (len := 1) (r := (0, 0, 0, 0)) (pc' := 5) (ls' := [some (.inl (some 0)), some (zi x1), some (zi x2), some (zi x3), none, none]) (st' := [.inl (some 0), .inl (some 35)]) (by decide +kernel) (fun k q => by cases q) rfl ?_
  refine y_get (j := 29) (len := 3) (r := (11, 5, 2, 404)) (by decide +kernel) hg (tv0 hg) aw0 rfl rfl r5 ?_
  refine y_cV (i := .invokevirtual 153) (len := 3) (r := (0, 37, 4, 494)) (nL := 6) (k := 0) (n := 2) (hs := []) (args := [.inl (some 35), .inl (some 2)]) (rest := []) (l0 := [some (.inl (some 35)), some (.inl (some 2)), none, none, none, none]) (by decide +kernel) (Or.inr (Or.inl ⟨_, rfl⟩)) rfl rfl rfl rfl (Nat.le_of_ble_eq_true rfl) (zO hg (tv35 hg) aw35 rfl) rfl (qV_le (by omega) (lz_jd35 hg i rc rm cz py kc jc jm)) (fun h3060 hR3060 => ?_)
  obtain ⟨⟨τ3060, hg3060⟩, jc3060, fl3060⟩ := hR3060
  have n9 := (jc3060.2.2 fl3060).2.2
  exact qX_mn (op_11 hg3060 n9.1 n9.2.1 (vi35_of hg3060 n9)) (fun x q => oP3_mn (fun h1 k => ⟨⟨_, k.1⟩, kp0_JCx k jc3060⟩) q)
