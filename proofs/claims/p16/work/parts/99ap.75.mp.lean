/-! the reference: all are proved, with CYCLE -/
theorem nv_set {c : sqT → Prop} {lv : Bool} {s : sqT} {i : Int} {row : Nat} {e : enT} (a : setR c lv s i row e) : e.2.1 ≠ 0 → ∀ x, ¬ e.1.2.2.2 x x := fun n => by
  obtain ⟨-, -, a3⟩ := a
  rcases a3 with ⟨-, a3⟩ | ⟨x, r, a4, -⟩
  · exact absurd a3 n
  · obtain ⟨l, -, nv, -⟩ := r
    rw [a4]
    exact nv_vd nv
theorem nv_app {L : List enT} {E : enT} (n : nvI L) (h : E.2.1 ≠ 0 → ∀ x, ¬ E.1.2.2.2 x x) : nvI (L ++ [E]) := fun e m => (List.mem_append.mp m).elim (fun q => n e q) (fun q => by rw [List.mem_singleton.mp q]; exact h)
def wnI (L : List enT) : Prop := (∀ e ∈ L, wfE e) ∧ nvI L ∧ chI L
theorem m_cmh {d t i : Nat} {τ : List Nat} {h : zh} {L : List enT} {e : enT} {w : Bool} {xf xw : Int32} (hg : hG τ h) (cn : ci_ h 52 26 L.length) (hlen : L.length ≤ 300) (ml : kx_ h 52 32 0) (pEA : ∀ (k : Nat) (e : enT), L[k]? = some e → pmE τ h k e) (wl : wnI L) (ke : L[i]? = some e) (wf : wfE e) (h3 : 3 ≤ e.2.1) (h8 : e.2.1 ≤ 8) (exf : xf.toInt = (i : Int)) (ew0 : xw.toInt = if w = true then 1 else 0) : qI (d + 8) 231 [some (.inl (some 52)), some (zi xf), some (zi xw), none, none] h t (fun y h1 => (y.toInt = 0 ∧ brF cyP false L i w = none ∧ hG τ h1 ∧ ∀ k j, k ≠ 378 → hsl h1 k j = hsl h k j) ∨ (y.toInt = 1 ∧ L.length < 300 ∧ e.2.2.2.2.1 < 40 ∧ ∃ s', nxF e.1 e.2.1 (gp_ e) (gq_ e) e.2.2.1 e.2.2.2.1 w = some s' ∧ ¬ big_ s' ∧ okS s' ∧ ∃ e', setR (cyP L (i : Int)) false s' (i : Int) (e.2.2.2.2.1 + 1) e' ∧ hG τ h1 ∧ pmE τ h1 L.length e' ∧ ci_ h1 52 26 (L.length + 1) ∧ ∀ k j, k ≠ 378 → k ≠ 71 + L.length → (k ≠ 52 ∨ j ≠ 26) → ((k < 371 ∨ 376 < k) ∨ j ≠ L.length) → k ≠ 68 → k ≠ 69 → hsl h1 k j = hsl h k j)) := by
  have hil := (List.getElem?_eq_some_iff.mp ke).1
  have hi : i < 300 := by omega
  obtain ⟨xn, hn26, en⟩ := cn
  obtain ⟨c3, c2, c1, q0, c4, c5⟩ := pEA i e ke
  have Qi := q0 (by omega)
  obtain ⟨oq, nb, kip, kiq, k79⟩ := wf_it wf h3 h8
  have k48 := wf_48 wf h3 h8
  obtain ⟨row, erow⟩ : ∃ row, e.2.2.2.2.1 = row := ⟨_, rfl⟩
  have wr := wf.2.2.1
  obtain ⟨xr, hr372, er⟩ := c2
  rw [erow] at er ⊢
  refine qI_of ?_
  refine y_same (i := .iload_n 1) (len := 1) (r := (0, 0, 0, 0)) (pc' := 1) (ls' := [some (.inl (some 52)), some (zi xf), some (zi xw), none, none]) (st' := [zi xf]) (by decide +kernel) (fun k q => by cases q) rfl ?_
  refine y_ic (c := (-1)) (len := 1) (r := (0, 0, 0, 0)) (by decide +kernel) (by decide) (fun y3652 hy3652 => ?_)
  refine y_cT (c := .ne) (off := 10) (pc' := 12) (len := 3) (r := (0, 0, 0, 0)) (by decide +kernel) (acmpT (c := .ne) (by show ¬ (_ = _); omega)) (by decide +kernel) ?_
  refine y_same (i := .aload_n 0) (len := 1) (r := (0, 0, 0, 0)) (pc' := 13) (ls' := [some (.inl (some 52)), some (zi xf), some (zi xw), none, none]) (st' := [.inl (some 52)]) (by decide +kernel) (fun k q => by cases q) rfl ?_
  refine y_get (j := 348) (len := 3) (r := (12, 26, 0, 1354)) (by decide +kernel) hg (t52 hg) at52 rfl rfl hn26 ?_
  refine y_si (c := 300) (len := 3) (r := (0, 0, 0, 0)) (by decide +kernel) (by decide) (fun y3653 hy3653 => ?_)
  rcases Decidable.em (xn.toInt = y3653.toInt) with q3654 | q3654
  ·
    refine y_cT (c := .eq) (off := 23) (pc' := 42) (len := 3) (r := (0, 0, 0, 0)) (by decide +kernel) (acmpT (c := .eq) (by show _ = _; omega)) (by decide +kernel) ?_
    refine y_ic (c := 0) (len := 1) (r := (0, 0, 0, 0)) (by decide +kernel) (by decide) (fun y3655 hy3655 => ?_)
    refine y_rI (len := 1) (r := (0, 0, 0, 0)) (nL := 5) (k := 2) (n9 := 3) (hs := []) (by decide +kernel) rfl (zfit_b (by omega) (by omega)).2 ?_
    exact Or.inl ⟨by omega, br_none1 ke (by omega), hg, fun _ _ _ => rfl⟩
  ·
    refine y_cF (c := .eq) (off := 23) (len := 3) (r := (0, 0, 0, 0)) (by decide +kernel) (acmpF (c := .eq) (by show ¬ (_ = _); omega)) ?_
    refine y_same (i := .aload_n 0) (len := 1) (r := (0, 0, 0, 0)) (pc' := 23) (ls' := [some (.inl (some 52)), some (zi xf), some (zi xw), none, none]) (st' := [.inl (some 52)]) (by decide +kernel) (fun k q => by cases q) rfl ?_
    refine y_get (j := 43) (len := 3) (r := (12, 17, 2, 1345)) (by decide +kernel) hg (t52 hg) at52 rfl rfl (g_r52 (f := 17) (T2 := 372) hg rfl (by decide)).1 ?_
    refine y_same (i := .iload_n 1) (len := 1) (r := (0, 0, 0, 0)) (pc' := 27) (ls' := [some (.inl (some 52)), some (zi xf), some (zi xw), none, none]) (st' := [zi xf, .inl (some 372)]) (by decide +kernel) (fun k q => by cases q) rfl ?_
    refine y_ial (i := i) (len := 1) (r := (0, 0, 0, 0)) (by decide +kernel) hg (tu372 hg) at372 (by omega) hr372 ?_
    refine y_bi (c := 40) (len := 2) (r := (0, 0, 0, 0)) (by decide +kernel) (by decide) (fun y3656 hy3656 => ?_)
    rcases Decidable.em (xr.toInt = y3656.toInt) with q3657 | q3657
    ·
      refine y_cT (c := .eq) (off := 12) (pc' := 42) (len := 3) (r := (0, 0, 0, 0)) (by decide +kernel) (acmpT (c := .eq) (by show _ = _; omega)) (by decide +kernel) ?_
      refine y_ic (c := 0) (len := 1) (r := (0, 0, 0, 0)) (by decide +kernel) (by decide) (fun y3658 hy3658 => ?_)
      refine y_rI (len := 1) (r := (0, 0, 0, 0)) (nL := 5) (k := 2) (n9 := 3) (hs := []) (by decide +kernel) rfl (zfit_b (by omega) (by omega)).2 ?_
      exact Or.inl ⟨by omega, br_none1 ke (by omega), hg, fun _ _ _ => rfl⟩
    ·
      refine y_cF (c := .eq) (off := 12) (len := 3) (r := (0, 0, 0, 0)) (by decide +kernel) (acmpF (c := .eq) (by show ¬ (_ = _); omega)) ?_
      refine y_same (i := .aload_n 0) (len := 1) (r := (0, 0, 0, 0)) (pc' := 34) (ls' := [some (.inl (some 52)), some (zi xf), some (zi xw), none, none]) (st' := [.inl (some 52)]) (by decide +kernel) (fun k q => by cases q) rfl ?_
      refine y_same (i := .iload_n 1) (len := 1) (r := (0, 0, 0, 0)) (pc' := 35) (ls' := [some (.inl (some 52)), some (zi xf), some (zi xw), none, none]) (st' := [zi xf, .inl (some 52)]) (by decide +kernel) (fun k q => by cases q) rfl ?_
      refine y_same (i := .iload_n 2) (len := 1) (r := (0, 0, 0, 0)) (pc' := 36) (ls' := [some (.inl (some 52)), some (zi xf), some (zi xw), none, none]) (st' := [zi xw, zi xf, .inl (some 52)]) (by decide +kernel) (fun k q => by cases q) rfl ?_
      have fol : qI 7 228 [some (.inl (some 52)), some (zi xf), some (zi xw), none, none, none, none, none, none, none, none] h t (fun y h1 => (y.toInt = 1 ∧ ∃ s', nxF e.1 e.2.1 (gp_ e) (gq_ e) e.2.2.1 e.2.2.2.1 w = some s' ∧ QM τ h1 378 s' ∧ FM 378 h h1) ∨ (y.toInt = 0 ∧ nxF e.1 e.2.1 (gp_ e) (gq_ e) e.2.2.1 e.2.2.2.1 w = none ∧ ∃ s', QM τ h1 378 s' ∧ FM 378 h h1)) := by
        rcases (show e.2.1 ≤ 7 ∨ e.2.1 = 8 by omega) with q | q
        · exact m_fol7 (d := 0) hi exf Qi nb c3 (c4 h3 h8) (c5 h3 q) ⟨h3, q⟩ kip (kiq q) k79 k48.1 ew0
        · exact m_fol8 (d := 0) hi exf Qi nb c3 (c4 h3 h8) q kip (k48.2 q) ew0
      refine y_cI (i := .invokevirtual 351) (len := 3) (r := (0, 228, 12, 1675)) (nL := 11) (k := 2) (n := 3) (hs := []) (args := [.inl (some 52), zi xf, zi xw]) (rest := []) (l0 := [some (.inl (some 52)), some (zi xf), some (zi xw), none, none, none, none, none, none, none, none]) (by decide +kernel) (Or.inr (Or.inl ⟨_, rfl⟩)) rfl rfl rfl rfl (Nat.le_of_ble_eq_true rfl) (z52 hg) rfl (qI_le (by omega) fol) (fun y3659 h3659 hRy3659 => ?_)
      rcases hRy3659 with ⟨v3659, s9, nx, Q3659, F3659⟩ | ⟨v3659, nx, s9, Q3659, F3659⟩
      ·
        refine y_iT (c := .ne) (off := 5) (pc' := 44) (len := 3) (r := (0, 0, 0, 0)) (by decide +kernel) (acmpT (c := .ne) (by show ¬ (_ = _); omega)) (by decide +kernel) ?_
        refine qX_I (cmq_n (d := d + 1) (n := L.length) (i := i) (row := row) (L := L) (by omega) Q3659 exf hil (ci_up ⟨xr, hr372, er⟩ (F3659 372 i (by omega))) (by omega) ke h3 h8 (ci_up ⟨xn, hn26, en⟩ (F3659 52 26 (by omega))) (kx_up ml (F3659 52 32 (by omega))) rfl (fun k9 e9 hk9 => pmE_up (pEA k9 e9 hk9) Q3659.1 (fun k j hC => by have l9 := (List.getElem?_eq_some_iff.mp hk9).1; exact F3659 k j (by omega))) wl.1 wl.2.1 wl.2.2) (fun y h1 hR => ?_)
        rcases hR with ⟨q1, rfl, q3⟩ | ⟨q1, q2, e9, q3, q4, q5, q6, q7⟩
        · exact Or.inl ⟨q1, br_none3 ke nx q3, Q3659.1, fun k j h1 => F3659 k j h1⟩
        · exact Or.inr ⟨q1, by omega, by omega, s9, nx, q2, okS_Q Q3659.2.2.2, e9, q3, q4, q5, q6, fun k j h1 h2 h3 h4 h5 h6 => (q7 k j h2 h3 h4 h5 h6).trans (F3659 k j h1)⟩
      ·
        refine y_iF (c := .ne) (off := 5) (len := 3) (r := (0, 0, 0, 0)) (by decide +kernel) (acmpF (c := .ne) (by show _ = _; omega)) ?_
        refine y_ic (c := 0) (len := 1) (r := (0, 0, 0, 0)) (by decide +kernel) (by decide) (fun y3660 hy3660 => ?_)
        refine y_rI (len := 1) (r := (0, 0, 0, 0)) (nL := 5) (k := 2) (n9 := 3) (hs := []) (by decide +kernel) rfl (zfit_b (by omega) (by omega)).2 ?_
        exact Or.inl ⟨by omega, br_none2 ke nx, Q3659.1, fun k j h1 => F3659 k j h1⟩
theorem pw_57 {d t f : Nat} {τ : List Nat} {h : zh} {L : List enT} {S0 : List (Nat × Bool)} {xo : Int32} {l2 : Option zv} (I : pvI τ 0 h L) (hlen : L.length ≤ 300) (wl : wnI L) (c29 : ci_ h 52 29 (dns L)) (dA : dnA h L) (tk : tkM h S0) (sI : stI L S0) (kk : ∀ (h1 : zh) (E : enT) (S : List (Nat × Bool)), pvI τ 0 h1 (L ++ [E]) → wnI (L ++ [E]) → ci_ h1 52 29 (dns L) → dnA h1 L → tkM h1 S → stI (L ++ [E]) S → L.length < 300 → (∃ i w, brF cyP false L i w = some E) → S.length + 1 = S0.length → qX (d + 8) 238 105 [some (.inl (some 52)), some (zi xo), l2] [] h1 t (rV (pvO τ 0 (conF cyP false f L E S)) t)) : qX (d + 8) 238 57 [some (.inl (some 52)), some (zi xo), l2] [] h t (rV (pvO τ 0 (runF cyP false (f + 1) L S0)) t) := by
  obtain ⟨hg, ip, ml, rs, c26, pE⟩ := I
  cases S0 with
  | nil =>
    obtain ⟨⟨xt, ht30, et⟩, -⟩ := tk
    have et : xt.toInt = 0 := et
    refine y_same (i := .aload_n 0) (len := 1) (r := (0, 0, 0, 0)) (pc' := 58) (ls' := [some (.inl (some 52)), some (zi xo), l2]) (st' := [.inl (some 52)]) (by decide +kernel) (fun k q => by cases q) rfl ?_
    refine y_get (j := 382) (len := 3) (r := (12, 30, 0, 1358)) (by decide +kernel) hg (t52 hg) at52 rfl rfl ht30 ?_
    refine y_iT (c := .le) (off := 153) (pc' := 214) (len := 3) (r := (0, 0, 0, 0)) (by decide +kernel) (acmpT (c := .le) (by show _ ≤ _; omega)) (by decide +kernel) ?_
    refine y_rV (len := 1) (r := (0, 0, 0, 0)) (nL := 3) (n9 := 2) (hs := []) (by decide +kernel) rfl ?_
    exact ⟨hg, ip, ml, rs, c26, hlen, c29, dA, pE⟩
  | cons iw S =>
    obtain ⟨i, w⟩ := iw
    obtain ⟨⟨xi9, hi9, ei9⟩, ⟨xw9, hw9, ew9⟩⟩ := tk_top tk
    obtain ⟨xt, ht30, et⟩ := tk.1
    have et : xt.toInt = ((S.length + 1 : Nat) : Int) := et
    obtain ⟨e, ke, h3, h8⟩ := sI.1 i w List.mem_cons_self
    have wf := wl.1 e (List.mem_of_getElem? ke)
    have hS := sI.2
    simp only [List.length_cons] at hS
    have hil := (List.getElem?_eq_some_iff.mp ke).1
    refine y_same (i := .aload_n 0) (len := 1) (r := (0, 0, 0, 0)) (pc' := 58) (ls' := [some (.inl (some 52)), some (zi xo), l2]) (st' := [.inl (some 52)]) (by decide +kernel) (fun k q => by cases q) rfl ?_
    refine y_get (j := 382) (len := 3) (r := (12, 30, 0, 1358)) (by decide +kernel) hg (t52 hg) at52 rfl rfl ht30 ?_
    refine y_iF (c := .le) (off := 153) (len := 3) (r := (0, 0, 0, 0)) (by decide +kernel) (acmpF (c := .le) (by show _ < _; omega)) ?_
    refine y_same (i := .aload_n 0) (len := 1) (r := (0, 0, 0, 0)) (pc' := 65) (ls' := [some (.inl (some 52)), some (zi xo), l2]) (st' := [.inl (some 52)]) (by decide +kernel) (fun k q => by cases q) rfl ?_
    refine y_same (i := .dup) (len := 1) (r := (0, 0, 0, 0)) (pc' := 66) (ls' := [some (.inl (some 52)), some (zi xo), l2]) (st' := [.inl (some 52), .inl (some 52)]) (by decide +kernel) (fun k q => by cases q) rfl ?_
    refine y_get (j := 382) (len := 3) (r := (12, 30, 0, 1358)) (by decide +kernel) hg (t52 hg) at52 rfl rfl ht30 ?_
    refine y_ic (c := 1) (len := 1) (r := (0, 0, 0, 0)) (by decide +kernel) (by decide) (fun y3671 hy3671 => ?_)
    refine y_sub (len := 1) (r := (0, 0, 0, 0)) (by decide +kernel) (by omega) (by omega) (fun y3672 hy3672 => ?_)
    refine y_put (j := 382) (lo := 0) (hi := 600) (len := 3) (r := (12, 30, 0, 1358)) (by decide +kernel) hg (t52 hg) at52 rfl rfl (by decide) rfl (by omega) (by omega) rfl (fun h3673 hg3673 hl3673 hs3673 ho3673 => ?_)
    have ho3673 : hO 52 30 h h3673 := ho3673
    have hs3673 : hsl h3673 52 30 = some (zi y3672) := hs3673
    refine y_same (i := .aload_n 0) (len := 1) (r := (0, 0, 0, 0)) (pc' := 75) (ls' := [some (.inl (some 52)), some (zi xo), l2]) (st' := [.inl (some 52)]) (by decide +kernel) (fun k q => by cases q) rfl ?_
    refine y_same (i := .aload_n 0) (len := 1) (r := (0, 0, 0, 0)) (pc' := 76) (ls' := [some (.inl (some 52)), some (zi xo), l2]) (st' := [.inl (some 52), .inl (some 52)]) (by decide +kernel) (fun k q => by cases q) rfl ?_
    refine y_get (j := 64) (len := 3) (r := (12, 24, 2, 1352)) (by decide +kernel) hg3673 (t52 hg3673) at52 rfl rfl (g_r52 (f := 24) (T2 := 379) hg3673 rfl (by decide)).1 ?_
    refine y_same (i := .aload_n 0) (len := 1) (r := (0, 0, 0, 0)) (pc' := 80) (ls' := [some (.inl (some 52)), some (zi xo), l2]) (st' := [.inl (some 52), .inl (some 379), .inl (some 52)]) (by decide +kernel) (fun k q => by cases q) rfl ?_
    refine y_get (j := 382) (len := 3) (r := (12, 30, 0, 1358)) (by decide +kernel) hg3673 (t52 hg3673) at52 rfl rfl hs3673 ?_
    have hv3674 := (ho3673 379 (S.length) (Or.inl (by omega))).trans hi9
    refine y_ial (i := S.length) (len := 1) (r := (0, 0, 0, 0)) (by decide +kernel) hg3673 (tu379 hg3673) at379 (by omega) hv3674 ?_
    refine y_same (i := .aload_n 0) (len := 1) (r := (0, 0, 0, 0)) (pc' := 85) (ls' := [some (.inl (some 52)), some (zi xo), l2]) (st' := [.inl (some 52), zi xi9, .inl (some 52)]) (by decide +kernel) (fun k q => by cases q) rfl ?_
    refine y_get (j := 67) (len := 3) (r := (12, 25, 2, 1353)) (by decide +kernel) hg3673 (t52 hg3673) at52 rfl rfl (g_r52 (f := 25) (T2 := 380) hg3673 rfl (by decide)).1 ?_
    refine y_same (i := .aload_n 0) (len := 1) (r := (0, 0, 0, 0)) (pc' := 89) (ls' := [some (.inl (some 52)), some (zi xo), l2]) (st' := [.inl (some 52), .inl (some 380), zi xi9, .inl (some 52)]) (by decide +kernel) (fun k q => by cases q) rfl ?_
    refine y_get (j := 382) (len := 3) (r := (12, 30, 0, 1358)) (by decide +kernel) hg3673 (t52 hg3673) at52 rfl rfl hs3673 ?_
    have hv3675 := (ho3673 380 (S.length) (Or.inl (by omega))).trans hw9
    refine y_ial (i := S.length) (len := 1) (r := (0, 0, 0, 0)) (by decide +kernel) hg3673 (tu380 hg3673) at380 (by omega) hv3675 ?_
    refine y_cI (i := .invokevirtual 397) (len := 3) (r := (0, 231, 12, 1636)) (nL := 5) (k := 2) (n := 3) (hs := []) (args := [.inl (some 52), zi xi9, zi xw9]) (rest := []) (l0 := [some (.inl (some 52)), some (zi xi9), some (zi xw9), none, none]) (by decide +kernel) (Or.inr (Or.inl ⟨_, rfl⟩)) rfl rfl rfl rfl (Nat.le_of_ble_eq_true rfl) (z52 hg3673) rfl (qI_le (by omega) (m_cmh (d := 0) (i := i) (w := w) hg3673 (ci_up c26 ((ho3673 52 26 (by omega)))) hlen (kx_up ml ((ho3673 52 32 (by omega)))) (fun k9 e9 hk9 => pmE_up (pE k9 e9 hk9) hg3673 (fun k j hC => by have l9 := (List.getElem?_eq_some_iff.mp hk9).1; exact (ho3673 k j (by omega)))) wl ke wf h3 h8 (by omega) (by omega))) (fun y3676 h3676 hRy3676 => ?_)
    rcases hRy3676 with ⟨v3676, bn, hg3676, F3676⟩ | ⟨v3676, l300, r40, s9, nx, nb, ok9, e9, sR, hg3676, pN, cN, F3676⟩
    ·
      refine y_iF (c := .ne) (off := 9) (len := 3) (r := (0, 0, 0, 0)) (by decide +kernel) (acmpF (c := .ne) (by show _ = _; omega)) ?_
      refine y_same (i := .aload_n 0) (len := 1) (r := (0, 0, 0, 0)) (pc' := 100) (ls' := [some (.inl (some 52)), some (zi xo), l2]) (st' := [.inl (some 52)]) (by decide +kernel) (fun k q => by cases q) rfl ?_
      refine y_ic (c := 2) (len := 1) (r := (0, 0, 0, 0)) (by decide +kernel) (by decide) (fun y3677 hy3677 => ?_)
      refine y_put (j := 391) (lo := (-2147483648)) (hi := 2147483647) (len := 3) (r := (12, 27, 0, 1355)) (by decide +kernel) hg3676 (t52 hg3676) at52 rfl rfl (by decide) rfl (qin_full _).1 (qin_full _).2 rfl (fun h3678 hg3678 hl3678 hs3678 ho3678 => ?_)
      have ho3678 : hO 52 27 h3676 h3678 := ho3678
      have hs3678 : hsl h3678 52 27 = some (zi y3677) := hs3678
      refine y_rV (len := 1) (r := (0, 0, 0, 0)) (nL := 3) (n9 := 2) (hs := []) (by decide +kernel) rfl ?_
      rw [run_no bn]
      refine ⟨hg3678, kx_up ip (((ho3678 52 31 (by omega)).trans ((F3676 52 31 (by omega)).trans (ho3673 52 31 (by omega))))), kx_up ml (((ho3678 52 32 (by omega)).trans ((F3676 52 32 (by omega)).trans (ho3673 52 32 (by omega))))), ⟨_, hs3678, by show _ = ((2 : Nat) : Int); omega⟩, ci_up c26 (((ho3678 52 26 (by omega)).trans ((F3676 52 26 (by omega)).trans (ho3673 52 26 (by omega))))), hlen, ci_up c29 (((ho3678 52 29 (by omega)).trans ((F3676 52 29 (by omega)).trans (ho3673 52 29 (by omega))))), fun j k hk => ci_up (dA j k hk) (((ho3678 377 j (by omega)).trans ((F3676 377 j (by omega)).trans (ho3673 377 j (by omega))))), fun k e hk => pmE_up (pE k e hk) hg3678 (fun k9 j hC => ?_)⟩
      have hk9 : k < L.length := (List.getElem?_eq_some_iff.mp hk).1
      exact ((ho3678 k9 j (by omega)).trans ((F3676 k9 j (by omega)).trans (ho3673 k9 j (by omega))))
    ·
      refine y_iT (c := .ne) (off := 9) (pc' := 105) (len := 3) (r := (0, 0, 0, 0)) (by decide +kernel) (acmpT (c := .ne) (by show ¬ (_ = _); omega)) (by decide +kernel) ?_
      have hv3679 := (F3676 52 30 (by omega) (by omega) (by omega) (by omega) (by omega) (by omega)).trans hs3673
      obtain ⟨sE, ag⟩ := setF_ag (cy := cyP) (lv := false) (L := L) ok9 sR
      have pF := pmE_ag pN ag
      have eb := br_some (cy := cyP) (lv := false) (w := w) ke l300 r40 nx nb
      rw [run_br eb]
      refine kk h3676 (setF cyP false L s9 (i : Int) (e.2.2.2.2.1 + 1)) S ⟨hg3676, kx_up ip (((F3676 52 31 (by omega) (by omega) (by omega) (by omega) (by omega) (by omega)).trans (ho3673 52 31 (by omega)))), kx_up ml (((F3676 52 32 (by omega) (by omega) (by omega) (by omega) (by omega) (by omega)).trans (ho3673 52 32 (by omega)))), kx_up rs (((F3676 52 27 (by omega) (by omega) (by omega) (by omega) (by omega) (by omega)).trans (ho3673 52 27 (by omega)))), by rw [sn_len]; exact cN, fun k9 e8 hk => ?_⟩ ⟨fun e8 m8 => ?_, nv_app wl.2.1 (nv_set sE), chI_app wl.2.2 ke sE.2.1 sE.1 h3 h8⟩ (ci_up c29 (((F3676 52 29 (by omega) (by omega) (by omega) (by omega) (by omega) (by omega)).trans (ho3673 52 29 (by omega))))) (fun j k9 hk => ci_up (dA j k9 hk) (((F3676 377 j (by omega) (by omega) (by omega) (by omega) (by omega) (by omega)).trans (ho3673 377 j (by omega))))) (tk_pop tk (ci_up ⟨_, hv3679, by omega⟩ (rfl)) (fun k9 j _ => ((F3676 k9 j (by omega) (by omega) (by omega) (by omega) (by omega) (by omega)).trans (ho3673 k9 j (by omega))))) ⟨fun i9 w8 m8 => ?_, ?_⟩ l300 ⟨i, w, eb⟩ rfl
      · rcases sn_cs hk with hk | ⟨rfl, rfl⟩
        · have hk9 := (List.getElem?_eq_some_iff.mp hk).1
          exact pmE_up (pE k9 e8 hk) hg3676 (fun k8 j hC => ((F3676 k8 j (by omega) (by omega) (by omega) (by omega) (by omega) (by omega)).trans (ho3673 k8 j (by omega))))
        · exact pF
      · rcases List.mem_append.mp m8 with m8 | m8
        · exact wl.1 e8 m8
        · rw [List.mem_singleton.mp m8]
          exact wf_set sE nb (by omega) (by omega) (fun q => (pF.2.2.2.1 q).2.2.2)
      · obtain ⟨e7, k7, b1, b2⟩ := sI.1 i9 w8 (List.mem_cons_of_mem _ m8)
        exact ⟨e7, sn_old k7, b1, b2⟩
      · have := sI.2
        simp only [List.length_cons] at this
        rw [sn_len]
        omega
theorem pwl_ {d t : Nat} {τ : List Nat} {xo : Int32} : ∀ (f : Nat) (h : zh) (L : List enT) (E : enT) (S : List (Nat × Bool)) (l2 : Option zv), pvI τ 0 h (L ++ [E]) → wnI (L ++ [E]) → ci_ h 52 29 (dns L) → dnA h L → tkM h S → stI (L ++ [E]) S → f + (L ++ [E]).length = 301 → 1 ≤ f → S.length ≤ L.length → qX (d + 8) 238 105 [some (.inl (some 52)), some (zi xo), l2] [] h t (rV (pvO τ 0 (conF cyP false f L E S)) t) := by
  intro f
  induction f with
  | zero =>
    intro h L E S l2 I wl c29 dA tk sI hf h1 sT
    omega
  | succ g ih =>
    intro h L E S l2 I wl c29 dA tk sI hf h1 sT
    obtain ⟨hg, ip, ml, rs, c26, pE⟩ := id I
    have sl := sn_len (L := L) (E := E)
    obtain ⟨xn, hn26, en⟩ := id c26
    obtain ⟨xs, hs373, es⟩ := (pE L.length E sn_get).1
    obtain ⟨xd, hd29, ed⟩ := id c29
    have dl := dns_le (L := L)
    have wl8 := (wl.1 E (List.mem_append_right _ List.mem_cons_self)).2.2.2
    rcases (show E.2.1 = 9 ∨ E.2.1 = 2 ∨ E.2.1 ≤ 1 ∨ (E.2.1 = 6 ∨ E.2.1 = 7) ∨ ((3 ≤ E.2.1 ∧ E.2.1 ≤ 5) ∨ E.2.1 = 8) by omega) with sc | sc | sc | sc | sc
    ·
      refine y_same (i := .aload_n 0) (len := 1) (r := (0, 0, 0, 0)) (pc' := 106) (ls' := [some (.inl (some 52)), some (zi xo), l2]) (st' := [.inl (some 52)]) (by decide +kernel) (fun k q => by cases q) rfl ?_
      refine y_get (j := 348) (len := 3) (r := (12, 26, 0, 1354)) (by decide +kernel) hg (t52 hg) at52 rfl rfl hn26 ?_
      refine y_ic (c := 1) (len := 1) (r := (0, 0, 0, 0)) (by decide +kernel) (by decide) (fun y3680 hy3680 => ?_)
      refine y_sub (len := 1) (r := (0, 0, 0, 0)) (by decide +kernel) (by omega) (by omega) (fun y3681 hy3681 => ?_)
      refine y_same (i := .istore_n 2) (len := 1) (r := (0, 0, 0, 0)) (pc' := 112) (ls' := [some (.inl (some 52)), some (zi xo), some (zi y3681)]) (st' := []) (by decide +kernel) (fun k q => by cases q) rfl ?_
      refine y_same (i := .aload_n 0) (len := 1) (r := (0, 0, 0, 0)) (pc' := 113) (ls' := [some (.inl (some 52)), some (zi xo), some (zi y3681)]) (st' := [.inl (some 52)]) (by decide +kernel) (fun k q => by cases q) rfl ?_
      refine y_get (j := 46) (len := 3) (r := (12, 18, 2, 1346)) (by decide +kernel) hg (t52 hg) at52 rfl rfl (g_r52 (f := 18) (T2 := 373) hg rfl (by decide)).1 ?_
      refine y_same (i := .iload_n 2) (len := 1) (r := (0, 0, 0, 0)) (pc' := 117) (ls' := [some (.inl (some 52)), some (zi xo), some (zi y3681)]) (st' := [zi y3681, .inl (some 373)]) (by decide +kernel) (fun k q => by cases q) rfl ?_
      refine y_ial (i := L.length) (len := 1) (r := (0, 0, 0, 0)) (by decide +kernel) hg (tu373 hg) at373 (by omega) hs373 ?_
      refine y_bi (c := 9) (len := 2) (r := (0, 0, 0, 0)) (by decide +kernel) (by decide) (fun y3682 hy3682 => ?_)
      refine y_cF (c := .ne) (off := 14) (len := 3) (r := (0, 0, 0, 0)) (by decide +kernel) (acmpF (c := .ne) (by show _ = _; omega)) ?_
      refine y_same (i := .aload_n 0) (len := 1) (r := (0, 0, 0, 0)) (pc' := 124) (ls' := [some (.inl (some 52)), some (zi xo), some (zi y3681)]) (st' := [.inl (some 52)]) (by decide +kernel) (fun k q => by cases q) rfl ?_
      refine y_ic (c := 0) (len := 1) (r := (0, 0, 0, 0)) (by decide +kernel) (by decide) (fun y3683 hy3683 => ?_)
      refine y_put (j := 391) (lo := (-2147483648)) (hi := 2147483647) (len := 3) (r := (12, 27, 0, 1355)) (by decide +kernel) hg (t52 hg) at52 rfl rfl (by decide) rfl (qin_full _).1 (qin_full _).2 rfl (fun h3684 hg3684 hl3684 hs3684 ho3684 => ?_)
      have ho3684 : hO 52 27 h h3684 := ho3684
      have hs3684 : hsl h3684 52 27 = some (zi y3683) := hs3684
      refine y_same (i := .aload_n 0) (len := 1) (r := (0, 0, 0, 0)) (pc' := 129) (ls' := [some (.inl (some 52)), some (zi xo), some (zi y3681)]) (st' := [.inl (some 52)]) (by decide +kernel) (fun k q => by cases q) rfl ?_
      refine y_same (i := .iload_n 2) (len := 1) (r := (0, 0, 0, 0)) (pc' := 130) (ls' := [some (.inl (some 52)), some (zi xo), some (zi y3681)]) (st' := [zi y3681, .inl (some 52)]) (by decide +kernel) (fun k q => by cases q) rfl ?_
      refine y_put (j := 388) (lo := (-2147483648)) (hi := 2147483647) (len := 3) (r := (12, 28, 0, 1356)) (by decide +kernel) hg3684 (t52 hg3684) at52 rfl rfl (by decide) rfl (qin_full _).1 (qin_full _).2 rfl (fun h3685 hg3685 hl3685 hs3685 ho3685 => ?_)
      have ho3685 : hO 52 28 h3684 h3685 := ho3685
      have hs3685 : hsl h3685 52 28 = some (zi y3681) := hs3685
      refine y_rV (len := 1) (r := (0, 0, 0, 0)) (nL := 3) (n9 := 2) (hs := []) (by decide +kernel) rfl ?_
      have eR : conF cyP false (g + 1) L E S = (L ++ [E], 0) := if_pos sc
      rw [eR]
      have hv3686 := (ho3685 52 27 (Or.inr (by omega))).trans hs3684
      exact ⟨hg3685, kx_up ip (((ho3685 52 31 (by omega)).trans (ho3684 52 31 (by omega)))), kx_up ml (((ho3685 52 32 (by omega)).trans (ho3684 52 32 (by omega)))), ⟨_, hv3686, by show _ = ((0 : Nat) : Int); omega⟩, ci_up c26 (((ho3685 52 26 (by omega)).trans (ho3684 52 26 (by omega)))), by show (L ++ [E]).length ≤ 300; omega, by show ci_ _ 52 29 (dns (L ++ [E])); rw [dns_app, if_neg (by omega)]; exact ci_up c29 (((ho3685 52 29 (by omega)).trans (ho3684 52 29 (by omega)))), fun j k hk => ci_up (dA j k (by have hk : (dix (L ++ [E]) 0)[j]? = some k := hk; rw [dix_app, if_neg (by omega), List.append_nil] at hk; exact hk)) (((ho3685 377 j (by omega)).trans (ho3684 377 j (by omega)))), fun k e hk => pmE_up (pE k e hk) hg3685 (fun k9 j hC => by have hk9 := (List.getElem?_eq_some_iff.mp hk).1; have hk9 : k < (L ++ [E]).length := hk9; exact ((ho3685 k9 j (by omega)).trans (ho3684 k9 j (by omega))))⟩
    ·
      refine y_same (i := .aload_n 0) (len := 1) (r := (0, 0, 0, 0)) (pc' := 106) (ls' := [some (.inl (some 52)), some (zi xo), l2]) (st' := [.inl (some 52)]) (by decide +kernel) (fun k q => by cases q) rfl ?_
      refine y_get (j := 348) (len := 3) (r := (12, 26, 0, 1354)) (by decide +kernel) hg (t52 hg) at52 rfl rfl hn26 ?_
      refine y_ic (c := 1) (len := 1) (r := (0, 0, 0, 0)) (by decide +kernel) (by decide) (fun y3687 hy3687 => ?_)
      refine y_sub (len := 1) (r := (0, 0, 0, 0)) (by decide +kernel) (by omega) (by omega) (fun y3688 hy3688 => ?_)
      refine y_same (i := .istore_n 2) (len := 1) (r := (0, 0, 0, 0)) (pc' := 112) (ls' := [some (.inl (some 52)), some (zi xo), some (zi y3688)]) (st' := []) (by decide +kernel) (fun k q => by cases q) rfl ?_
      refine y_same (i := .aload_n 0) (len := 1) (r := (0, 0, 0, 0)) (pc' := 113) (ls' := [some (.inl (some 52)), some (zi xo), some (zi y3688)]) (st' := [.inl (some 52)]) (by decide +kernel) (fun k q => by cases q) rfl ?_
      refine y_get (j := 46) (len := 3) (r := (12, 18, 2, 1346)) (by decide +kernel) hg (t52 hg) at52 rfl rfl (g_r52 (f := 18) (T2 := 373) hg rfl (by decide)).1 ?_
      refine y_same (i := .iload_n 2) (len := 1) (r := (0, 0, 0, 0)) (pc' := 117) (ls' := [some (.inl (some 52)), some (zi xo), some (zi y3688)]) (st' := [zi y3688, .inl (some 373)]) (by decide +kernel) (fun k q => by cases q) rfl ?_
      refine y_ial (i := L.length) (len := 1) (r := (0, 0, 0, 0)) (by decide +kernel) hg (tu373 hg) at373 (by omega) hs373 ?_
      refine y_bi (c := 9) (len := 2) (r := (0, 0, 0, 0)) (by decide +kernel) (by decide) (fun y3689 hy3689 => ?_)
      refine y_cT (c := .ne) (off := 14) (pc' := 134) (len := 3) (r := (0, 0, 0, 0)) (by decide +kernel) (acmpT (c := .ne) (by show ¬ (_ = _); omega)) (by decide +kernel) ?_
      refine y_same (i := .aload_n 0) (len := 1) (r := (0, 0, 0, 0)) (pc' := 135) (ls' := [some (.inl (some 52)), some (zi xo), some (zi y3688)]) (st' := [.inl (some 52)]) (by decide +kernel) (fun k q => by cases q) rfl ?_
      refine y_get (j := 46) (len := 3) (r := (12, 18, 2, 1346)) (by decide +kernel) hg (t52 hg) at52 rfl rfl (g_r52 (f := 18) (T2 := 373) hg rfl (by decide)).1 ?_
      refine y_same (i := .iload_n 2) (len := 1) (r := (0, 0, 0, 0)) (pc' := 139) (ls' := [some (.inl (some 52)), some (zi xo), some (zi y3688)]) (st' := [zi y3688, .inl (some 373)]) (by decide +kernel) (fun k q => by cases q) rfl ?_
      refine y_ial (i := L.length) (len := 1) (r := (0, 0, 0, 0)) (by decide +kernel) hg (tu373 hg) at373 (by omega) hs373 ?_
      refine y_ic (c := 2) (len := 1) (r := (0, 0, 0, 0)) (by decide +kernel) (by decide) (fun y3690 hy3690 => ?_)
      refine y_cF (c := .ne) (off := 23) (len := 3) (r := (0, 0, 0, 0)) (by decide +kernel) (acmpF (c := .ne) (by show _ = _; omega)) ?_
      refine y_same (i := .aload_n 0) (len := 1) (r := (0, 0, 0, 0)) (pc' := 145) (ls' := [some (.inl (some 52)), some (zi xo), some (zi y3688)]) (st' := [.inl (some 52)]) (by decide +kernel) (fun k q => by cases q) rfl ?_
      refine y_get (j := 58) (len := 3) (r := (12, 22, 2, 1350)) (by decide +kernel) hg (t52 hg) at52 rfl rfl (g_r52 (f := 22) (T2 := 377) hg rfl (by decide)).1 ?_
      refine y_same (i := .aload_n 0) (len := 1) (r := (0, 0, 0, 0)) (pc' := 149) (ls' := [some (.inl (some 52)), some (zi xo), some (zi y3688)]) (st' := [.inl (some 52), .inl (some 377)]) (by decide +kernel) (fun k q => by cases q) rfl ?_
      refine y_get (j := 385) (len := 3) (r := (12, 29, 0, 1357)) (by decide +kernel) hg (t52 hg) at52 rfl rfl hd29 ?_
      refine y_same (i := .iload_n 2) (len := 1) (r := (0, 0, 0, 0)) (pc' := 153) (ls' := [some (.inl (some 52)), some (zi xo), some (zi y3688)]) (st' := [zi y3688, zi xd, .inl (some 377)]) (by decide +kernel) (fun k q => by cases q) rfl ?_
      refine y_ias (i := (dns L)) (len := 1) (r := (0, 0, 0, 0)) (by decide +kernel) hg (tu377 hg) at377 rfl (by omega) (by omega) (sr1 (by omega)) (by omega) (by omega) (fun h3691 hg3691 hl3691 hs3691 ho3691 => ?_)
      refine y_same (i := .aload_n 0) (len := 1) (r := (0, 0, 0, 0)) (pc' := 155) (ls' := [some (.inl (some 52)), some (zi xo), some (zi y3688)]) (st' := [.inl (some 52)]) (by decide +kernel) (fun k q => by cases q) rfl ?_
      refine y_same (i := .dup) (len := 1) (r := (0, 0, 0, 0)) (pc' := 156) (ls' := [some (.inl (some 52)), some (zi xo), some (zi y3688)]) (st' := [.inl (some 52), .inl (some 52)]) (by decide +kernel) (fun k q => by cases q) rfl ?_
      have hv3692 := (ho3691 52 29 (Or.inl (by omega))).trans hd29
      refine y_get (j := 385) (len := 3) (r := (12, 29, 0, 1357)) (by decide +kernel) hg3691 (t52 hg3691) at52 rfl rfl hv3692 ?_
      refine y_ic (c := 1) (len := 1) (r := (0, 0, 0, 0)) (by decide +kernel) (by decide) (fun y3693 hy3693 => ?_)
      refine y_add (len := 1) (r := (0, 0, 0, 0)) (by decide +kernel) (by omega) (by omega) (fun y3694 hy3694 => ?_)
      refine y_put (j := 385) (lo := 0) (hi := 300) (len := 3) (r := (12, 29, 0, 1357)) (by decide +kernel) hg3691 (t52 hg3691) at52 rfl rfl (by decide) rfl (by omega) (by omega) rfl (fun h3695 hg3695 hl3695 hs3695 ho3695 => ?_)
      have ho3695 : hO 52 29 h3691 h3695 := ho3695
      have hs3695 : hsl h3695 52 29 = some (zi y3694) := hs3695
      refine y_same (i := .aload_n 0) (len := 1) (r := (0, 0, 0, 0)) (pc' := 165) (ls' := [some (.inl (some 52)), some (zi xo), some (zi y3688)]) (st' := [.inl (some 52)]) (by decide +kernel) (fun k q => by cases q) rfl ?_
      refine y_get (j := 46) (len := 3) (r := (12, 18, 2, 1346)) (by decide +kernel) hg3695 (t52 hg3695) at52 rfl rfl (g_r52 (f := 18) (T2 := 373) hg3695 rfl (by decide)).1 ?_
      refine y_same (i := .iload_n 2) (len := 1) (r := (0, 0, 0, 0)) (pc' := 169) (ls' := [some (.inl (some 52)), some (zi xo), some (zi y3688)]) (st' := [zi y3688, .inl (some 373)]) (by decide +kernel) (fun k q => by cases q) rfl ?_
      have hv3696 := (ho3691 373 (L.length) (Or.inl (by omega))).trans hs373
      have hv3697 := (ho3695 373 (L.length) (Or.inl (by omega))).trans hv3696
      refine y_ial (i := L.length) (len := 1) (r := (0, 0, 0, 0)) (by decide +kernel) hg3695 (tu373 hg3695) at373 (by omega) hv3697 ?_
      refine y_ic (c := 2) (len := 1) (r := (0, 0, 0, 0)) (by decide +kernel) (by decide) (fun y3698 hy3698 => ?_)
      refine y_cF (c := .gt) (off := 6) (len := 3) (r := (0, 0, 0, 0)) (by decide +kernel) (acmpF (c := .gt) (by show _ ≤ _; omega)) ?_
      refine y_goto (off := (-117)) (pc' := 57) (len := 3) (r := (0, 0, 0, 0)) (by decide +kernel) (by decide +kernel) ?_
      have eR : conF cyP false (g + 1) L E S = runF cyP false (g + 1) (L ++ [E]) S := by
        show (if E.2.1 = 9 then _ else runF cyP false (g + 1) (L ++ [E]) (toF E L.length S)) = _
        rw [if_neg (by omega), toF, if_pos (by omega)]
      rw [eR]
      have I2 : pvI τ 0 h3695 (L ++ [E]) := ⟨hg3695, kx_up ip (((ho3695 52 31 (by omega)).trans (ho3691 52 31 (by omega)))), kx_up ml (((ho3695 52 32 (by omega)).trans (ho3691 52 32 (by omega)))), kx_up rs (((ho3695 52 27 (by omega)).trans (ho3691 52 27 (by omega)))), ci_up c26 (((ho3695 52 26 (by omega)).trans (ho3691 52 26 (by omega)))), fun k e hk => pmE_up (pE k e hk) hg3695 (fun k9 j hC => by have hk9 := (List.getElem?_eq_some_iff.mp hk).1; exact ((ho3695 k9 j (by omega)).trans (ho3691 k9 j (by omega))))⟩
      have D2 : ci_ h3695 52 29 (dns (L ++ [E])) := by rw [dns_app, if_pos sc]; exact ⟨_, hs3695, by omega⟩
      have hv3699 := (ho3695 377 (dns L) (Or.inl (by omega))).trans hs3691
      have A2 : dnA h3695 (L ++ [E]) := fun j k hk => by
        rw [dix_app, if_pos sc] at hk
        rcases sn_cs hk with hk | ⟨q1, q2⟩
        · have hk9 := (List.getElem?_eq_some_iff.mp hk).1
          rw [dix_len] at hk9
          exact ci_up (dA j k hk) (((ho3695 377 j (by omega)).trans (ho3691 377 j (by omega))))
        · rw [dix_len] at q1
          rw [q1, q2]
          exact ⟨_, hv3699, by omega⟩
      have K2 : tkM h3695 S := tk_up tk (fun k j hC => ((ho3695 k j (by omega)).trans (ho3691 k j (by omega))))
      have SI : stI (L ++ [E]) S := by
        exact ⟨sI.1, sI.2⟩
      refine pw_57 (l2 := (some (zi y3688))) I2 (by omega) wl D2 A2 K2 SI (fun h1 E1 S1 I1 wl1 c1 d1 k1 s1 hl1 ⟨i1, w1, eb1⟩ hs1 => ?_)
      exact ih h1 (L ++ [E]) E1 S1 _ I1 wl1 c1 d1 k1 s1 (by rw [sn_len (L := L ++ [E])]; omega) (by rw [sn_len (L := L)] at hl1 hf; omega) (by first | (simp only [List.length_cons] at hs1; rw [sn_len]; omega) | (rw [sn_len]; omega))
    ·
      refine y_same (i := .aload_n 0) (len := 1) (r := (0, 0, 0, 0)) (pc' := 106) (ls' := [some (.inl (some 52)), some (zi xo), l2]) (st' := [.inl (some 52)]) (by decide +kernel) (fun k q => by cases q) rfl ?_
      refine y_get (j := 348) (len := 3) (r := (12, 26, 0, 1354)) (by decide +kernel) hg (t52 hg) at52 rfl rfl hn26 ?_
      refine y_ic (c := 1) (len := 1) (r := (0, 0, 0, 0)) (by decide +kernel) (by decide) (fun y3700 hy3700 => ?_)
      refine y_sub (len := 1) (r := (0, 0, 0, 0)) (by decide +kernel) (by omega) (by omega) (fun y3701 hy3701 => ?_)
      refine y_same (i := .istore_n 2) (len := 1) (r := (0, 0, 0, 0)) (pc' := 112) (ls' := [some (.inl (some 52)), some (zi xo), some (zi y3701)]) (st' := []) (by decide +kernel) (fun k q => by cases q) rfl ?_
      refine y_same (i := .aload_n 0) (len := 1) (r := (0, 0, 0, 0)) (pc' := 113) (ls' := [some (.inl (some 52)), some (zi xo), some (zi y3701)]) (st' := [.inl (some 52)]) (by decide +kernel) (fun k q => by cases q) rfl ?_
      refine y_get (j := 46) (len := 3) (r := (12, 18, 2, 1346)) (by decide +kernel) hg (t52 hg) at52 rfl rfl (g_r52 (f := 18) (T2 := 373) hg rfl (by decide)).1 ?_
      refine y_same (i := .iload_n 2) (len := 1) (r := (0, 0, 0, 0)) (pc' := 117) (ls' := [some (.inl (some 52)), some (zi xo), some (zi y3701)]) (st' := [zi y3701, .inl (some 373)]) (by decide +kernel) (fun k q => by cases q) rfl ?_
      refine y_ial (i := L.length) (len := 1) (r := (0, 0, 0, 0)) (by decide +kernel) hg (tu373 hg) at373 (by omega) hs373 ?_
      refine y_bi (c := 9) (len := 2) (r := (0, 0, 0, 0)) (by decide +kernel) (by decide) (fun y3702 hy3702 => ?_)
      refine y_cT (c := .ne) (off := 14) (pc' := 134) (len := 3) (r := (0, 0, 0, 0)) (by decide +kernel) (acmpT (c := .ne) (by show ¬ (_ = _); omega)) (by decide +kernel) ?_
      refine y_same (i := .aload_n 0) (len := 1) (r := (0, 0, 0, 0)) (pc' := 135) (ls' := [some (.inl (some 52)), some (zi xo), some (zi y3701)]) (st' := [.inl (some 52)]) (by decide +kernel) (fun k q => by cases q) rfl ?_
      refine y_get (j := 46) (len := 3) (r := (12, 18, 2, 1346)) (by decide +kernel) hg (t52 hg) at52 rfl rfl (g_r52 (f := 18) (T2 := 373) hg rfl (by decide)).1 ?_
      refine y_same (i := .iload_n 2) (len := 1) (r := (0, 0, 0, 0)) (pc' := 139) (ls' := [some (.inl (some 52)), some (zi xo), some (zi y3701)]) (st' := [zi y3701, .inl (some 373)]) (by decide +kernel) (fun k q => by cases q) rfl ?_
      refine y_ial (i := L.length) (len := 1) (r := (0, 0, 0, 0)) (by decide +kernel) hg (tu373 hg) at373 (by omega) hs373 ?_
      refine y_ic (c := 2) (len := 1) (r := (0, 0, 0, 0)) (by decide +kernel) (by decide) (fun y3703 hy3703 => ?_)
      refine y_cT (c := .ne) (off := 23) (pc' := 164) (len := 3) (r := (0, 0, 0, 0)) (by decide +kernel) (acmpT (c := .ne) (by show ¬ (_ = _); omega)) (by decide +kernel) ?_
      refine y_same (i := .aload_n 0) (len := 1) (r := (0, 0, 0, 0)) (pc' := 165) (ls' := [some (.inl (some 52)), some (zi xo), some (zi y3701)]) (st' := [.inl (some 52)]) (by decide +kernel) (fun k q => by cases q) rfl ?_
      refine y_get (j := 46) (len := 3) (r := (12, 18, 2, 1346)) (by decide +kernel) hg (t52 hg) at52 rfl rfl (g_r52 (f := 18) (T2 := 373) hg rfl (by decide)).1 ?_
      refine y_same (i := .iload_n 2) (len := 1) (r := (0, 0, 0, 0)) (pc' := 169) (ls' := [some (.inl (some 52)), some (zi xo), some (zi y3701)]) (st' := [zi y3701, .inl (some 373)]) (by decide +kernel) (fun k q => by cases q) rfl ?_
      refine y_ial (i := L.length) (len := 1) (r := (0, 0, 0, 0)) (by decide +kernel) hg (tu373 hg) at373 (by omega) hs373 ?_
      refine y_ic (c := 2) (len := 1) (r := (0, 0, 0, 0)) (by decide +kernel) (by decide) (fun y3704 hy3704 => ?_)
      refine y_cF (c := .gt) (off := 6) (len := 3) (r := (0, 0, 0, 0)) (by decide +kernel) (acmpF (c := .gt) (by show _ ≤ _; omega)) ?_
      refine y_goto (off := (-117)) (pc' := 57) (len := 3) (r := (0, 0, 0, 0)) (by decide +kernel) (by decide +kernel) ?_
      have eR : conF cyP false (g + 1) L E S = runF cyP false (g + 1) (L ++ [E]) S := by
        show (if E.2.1 = 9 then _ else runF cyP false (g + 1) (L ++ [E]) (toF E L.length S)) = _
        rw [if_neg (by omega), toF, if_pos (by omega)]
      rw [eR]
      have I2 : pvI τ 0 h (L ++ [E]) := ⟨hg, kx_up ip (rfl), kx_up ml (rfl), kx_up rs (rfl), ci_up c26 (rfl), fun k e hk => pmE_up (pE k e hk) hg (fun k9 j hC => by have hk9 := (List.getElem?_eq_some_iff.mp hk).1; exact rfl)⟩
      have D2 : ci_ h 52 29 (dns (L ++ [E])) := by rw [dns_app, if_neg (by omega)]; exact ci_up c29 (rfl)
      have A2 : dnA h (L ++ [E]) := fun j k hk => ci_up (dA j k (by rw [dix_app, if_neg (by omega), List.append_nil] at hk; exact hk)) (rfl)
      have K2 : tkM h S := tk_up tk (fun k j hC => rfl)
      have SI : stI (L ++ [E]) S := by
        exact ⟨sI.1, sI.2⟩
      refine pw_57 (l2 := (some (zi y3701))) I2 (by omega) wl D2 A2 K2 SI (fun h1 E1 S1 I1 wl1 c1 d1 k1 s1 hl1 ⟨i1, w1, eb1⟩ hs1 => ?_)
      exact ih h1 (L ++ [E]) E1 S1 _ I1 wl1 c1 d1 k1 s1 (by rw [sn_len (L := L ++ [E])]; omega) (by rw [sn_len (L := L)] at hl1 hf; omega) (by first | (simp only [List.length_cons] at hs1; rw [sn_len]; omega) | (rw [sn_len]; omega))
    · rcases sc with sc | sc
      ·
        refine y_same (i := .aload_n 0) (len := 1) (r := (0, 0, 0, 0)) (pc' := 106) (ls' := [some (.inl (some 52)), some (zi xo), l2]) (st' := [.inl (some 52)]) (by decide +kernel) (fun k q => by cases q) rfl ?_
        refine y_get (j := 348) (len := 3) (r := (12, 26, 0, 1354)) (by decide +kernel) hg (t52 hg) at52 rfl rfl hn26 ?_
        refine y_ic (c := 1) (len := 1) (r := (0, 0, 0, 0)) (by decide +kernel) (by decide) (fun y3714 hy3714 => ?_)
        refine y_sub (len := 1) (r := (0, 0, 0, 0)) (by decide +kernel) (by omega) (by omega) (fun y3715 hy3715 => ?_)
        refine y_same (i := .istore_n 2) (len := 1) (r := (0, 0, 0, 0)) (pc' := 112) (ls' := [some (.inl (some 52)), some (zi xo), some (zi y3715)]) (st' := []) (by decide +kernel) (fun k q => by cases q) rfl ?_
        refine y_same (i := .aload_n 0) (len := 1) (r := (0, 0, 0, 0)) (pc' := 113) (ls' := [some (.inl (some 52)), some (zi xo), some (zi y3715)]) (st' := [.inl (some 52)]) (by decide +kernel) (fun k q => by cases q) rfl ?_
        refine y_get (j := 46) (len := 3) (r := (12, 18, 2, 1346)) (by decide +kernel) hg (t52 hg) at52 rfl rfl (g_r52 (f := 18) (T2 := 373) hg rfl (by decide)).1 ?_
        refine y_same (i := .iload_n 2) (len := 1) (r := (0, 0, 0, 0)) (pc' := 117) (ls' := [some (.inl (some 52)), some (zi xo), some (zi y3715)]) (st' := [zi y3715, .inl (some 373)]) (by decide +kernel) (fun k q => by cases q) rfl ?_
        refine y_ial (i := L.length) (len := 1) (r := (0, 0, 0, 0)) (by decide +kernel) hg (tu373 hg) at373 (by omega) hs373 ?_
        refine y_bi (c := 9) (len := 2) (r := (0, 0, 0, 0)) (by decide +kernel) (by decide) (fun y3716 hy3716 => ?_)
        refine y_cT (c := .ne) (off := 14) (pc' := 134) (len := 3) (r := (0, 0, 0, 0)) (by decide +kernel) (acmpT (c := .ne) (by show ¬ (_ = _); omega)) (by decide +kernel) ?_
        refine y_same (i := .aload_n 0) (len := 1) (r := (0, 0, 0, 0)) (pc' := 135) (ls' := [some (.inl (some 52)), some (zi xo), some (zi y3715)]) (st' := [.inl (some 52)]) (by decide +kernel) (fun k q => by cases q) rfl ?_
        refine y_get (j := 46) (len := 3) (r := (12, 18, 2, 1346)) (by decide +kernel) hg (t52 hg) at52 rfl rfl (g_r52 (f := 18) (T2 := 373) hg rfl (by decide)).1 ?_
        refine y_same (i := .iload_n 2) (len := 1) (r := (0, 0, 0, 0)) (pc' := 139) (ls' := [some (.inl (some 52)), some (zi xo), some (zi y3715)]) (st' := [zi y3715, .inl (some 373)]) (by decide +kernel) (fun k q => by cases q) rfl ?_
        refine y_ial (i := L.length) (len := 1) (r := (0, 0, 0, 0)) (by decide +kernel) hg (tu373 hg) at373 (by omega) hs373 ?_
        refine y_ic (c := 2) (len := 1) (r := (0, 0, 0, 0)) (by decide +kernel) (by decide) (fun y3717 hy3717 => ?_)
        refine y_cT (c := .ne) (off := 23) (pc' := 164) (len := 3) (r := (0, 0, 0, 0)) (by decide +kernel) (acmpT (c := .ne) (by show ¬ (_ = _); omega)) (by decide +kernel) ?_
        refine y_same (i := .aload_n 0) (len := 1) (r := (0, 0, 0, 0)) (pc' := 165) (ls' := [some (.inl (some 52)), some (zi xo), some (zi y3715)]) (st' := [.inl (some 52)]) (by decide +kernel) (fun k q => by cases q) rfl ?_
        refine y_get (j := 46) (len := 3) (r := (12, 18, 2, 1346)) (by decide +kernel) hg (t52 hg) at52 rfl rfl (g_r52 (f := 18) (T2 := 373) hg rfl (by decide)).1 ?_
        refine y_same (i := .iload_n 2) (len := 1) (r := (0, 0, 0, 0)) (pc' := 169) (ls' := [some (.inl (some 52)), some (zi xo), some (zi y3715)]) (st' := [zi y3715, .inl (some 373)]) (by decide +kernel) (fun k q => by cases q) rfl ?_
        refine y_ial (i := L.length) (len := 1) (r := (0, 0, 0, 0)) (by decide +kernel) hg (tu373 hg) at373 (by omega) hs373 ?_
        refine y_ic (c := 2) (len := 1) (r := (0, 0, 0, 0)) (by decide +kernel) (by decide) (fun y3718 hy3718 => ?_)
        refine y_cT (c := .gt) (off := 6) (pc' := 177) (len := 3) (r := (0, 0, 0, 0)) (by decide +kernel) (acmpT (c := .gt) (by show _ < _; omega)) (by decide +kernel) ?_
        refine y_same (i := .aload_n 0) (len := 1) (r := (0, 0, 0, 0)) (pc' := 178) (ls' := [some (.inl (some 52)), some (zi xo), some (zi y3715)]) (st' := [.inl (some 52)]) (by decide +kernel) (fun k q => by cases q) rfl ?_
        refine y_get (j := 46) (len := 3) (r := (12, 18, 2, 1346)) (by decide +kernel) hg (t52 hg) at52 rfl rfl (g_r52 (f := 18) (T2 := 373) hg rfl (by decide)).1 ?_
        refine y_same (i := .iload_n 2) (len := 1) (r := (0, 0, 0, 0)) (pc' := 182) (ls' := [some (.inl (some 52)), some (zi xo), some (zi y3715)]) (st' := [zi y3715, .inl (some 373)]) (by decide +kernel) (fun k q => by cases q) rfl ?_
        refine y_ial (i := L.length) (len := 1) (r := (0, 0, 0, 0)) (by decide +kernel) hg (tu373 hg) at373 (by omega) hs373 ?_
        refine y_bi (c := 6) (len := 2) (r := (0, 0, 0, 0)) (by decide +kernel) (by decide) (fun y3719 hy3719 => ?_)
        refine y_cT (c := .eq) (off := 14) (pc' := 199) (len := 3) (r := (0, 0, 0, 0)) (by decide +kernel) (acmpT (c := .eq) (by show _ = _; omega)) (by decide +kernel) ?_
        refine y_same (i := .aload_n 0) (len := 1) (r := (0, 0, 0, 0)) (pc' := 200) (ls' := [some (.inl (some 52)), some (zi xo), some (zi y3715)]) (st' := [.inl (some 52)]) (by decide +kernel) (fun k q => by cases q) rfl ?_
        refine y_same (i := .iload_n 2) (len := 1) (r := (0, 0, 0, 0)) (pc' := 201) (ls' := [some (.inl (some 52)), some (zi xo), some (zi y3715)]) (st' := [zi y3715, .inl (some 52)]) (by decide +kernel) (fun k q => by cases q) rfl ?_
        refine y_ic (c := 1) (len := 1) (r := (0, 0, 0, 0)) (by decide +kernel) (by decide) (fun y3720 hy3720 => ?_)
        have tk3721 : tkM h S := tk_up tk (fun k j _ => rfl)
        refine y_cV (i := .invokevirtual 394) (len := 3) (r := (0, 237, 12, 1632)) (nL := 3) (k := 0) (n := 3) (hs := []) (args := [.inl (some 52), zi y3715, zi y3720]) (rest := []) (l0 := [some (.inl (some 52)), some (zi y3715), some (zi y3720)]) (by decide +kernel) (Or.inr (Or.inl ⟨_, rfl⟩)) rfl rfl rfl rfl (Nat.le_of_ble_eq_true rfl) (z52 hg) rfl (qV_le (by omega) (m_wts (d := 0) hg (by omega) (by omega) (by omega) (by omega) tk3721.1 (by first | omega | (simp only [List.length_cons]; omega)))) (fun h3721 hR3721 => ?_)
        obtain ⟨hg3721, a3721, b3721, c3721, F3721⟩ := hR3721
        have tp3721 := tk_push (i := L.length) (w := true) tk3721 a3721 b3721 (by omega) (by rw [if_pos rfl]; omega) c3721 F3721
        refine y_same (i := .aload_n 0) (len := 1) (r := (0, 0, 0, 0)) (pc' := 206) (ls' := [some (.inl (some 52)), some (zi xo), some (zi y3715)]) (st' := [.inl (some 52)]) (by decide +kernel) (fun k q => by cases q) rfl ?_
        refine y_same (i := .iload_n 2) (len := 1) (r := (0, 0, 0, 0)) (pc' := 207) (ls' := [some (.inl (some 52)), some (zi xo), some (zi y3715)]) (st' := [zi y3715, .inl (some 52)]) (by decide +kernel) (fun k q => by cases q) rfl ?_
        refine y_ic (c := 0) (len := 1) (r := (0, 0, 0, 0)) (by decide +kernel) (by decide) (fun y3722 hy3722 => ?_)
        have tk3723 : tkM h3721 ((L.length, true) :: S) := tk_up tp3721 (fun k j _ => rfl)
        refine y_cV (i := .invokevirtual 394) (len := 3) (r := (0, 237, 12, 1632)) (nL := 3) (k := 0) (n := 3) (hs := []) (args := [.inl (some 52), zi y3715, zi y3722]) (rest := []) (l0 := [some (.inl (some 52)), some (zi y3715), some (zi y3722)]) (by decide +kernel) (Or.inr (Or.inl ⟨_, rfl⟩)) rfl rfl rfl rfl (Nat.le_of_ble_eq_true rfl) (z52 hg3721) rfl (qV_le (by omega) (m_wts (d := 0) hg3721 (by omega) (by omega) (by omega) (by omega) tk3723.1 (by first | omega | (simp only [List.length_cons]; omega)))) (fun h3723 hR3723 => ?_)
        obtain ⟨hg3723, a3723, b3723, c3723, F3723⟩ := hR3723
        have tp3723 := tk_push (i := L.length) (w := false) tk3723 a3723 b3723 (by omega) (by rw [if_neg (by decide)]; omega) c3723 F3723
        refine y_goto (off := (-154)) (pc' := 57) (len := 3) (r := (0, 0, 0, 0)) (by decide +kernel) (by decide +kernel) ?_
        have eR : conF cyP false (g + 1) L E S = runF cyP false (g + 1) (L ++ [E]) ((L.length, false) :: ((L.length, true) :: S)) := by
          show (if E.2.1 = 9 then _ else runF cyP false (g + 1) (L ++ [E]) (toF E L.length S)) = _
          rw [if_neg (by omega), toF, if_neg (by omega), if_pos (by omega)]
        rw [eR]
        have I2 : pvI τ 0 h3723 (L ++ [E]) := ⟨hg3723, kx_up ip (((F3723 52 31 (by omega) (by omega)).trans (F3721 52 31 (by omega) (by omega)))), kx_up ml (((F3723 52 32 (by omega) (by omega)).trans (F3721 52 32 (by omega) (by omega)))), kx_up rs (((F3723 52 27 (by omega) (by omega)).trans (F3721 52 27 (by omega) (by omega)))), ci_up c26 (((F3723 52 26 (by omega) (by omega)).trans (F3721 52 26 (by omega) (by omega)))), fun k e hk => pmE_up (pE k e hk) hg3723 (fun k9 j hC => by have hk9 := (List.getElem?_eq_some_iff.mp hk).1; exact ((F3723 k9 j (by omega) (by omega)).trans (F3721 k9 j (by omega) (by omega))))⟩
        have D2 : ci_ h3723 52 29 (dns (L ++ [E])) := by rw [dns_app, if_neg (by omega)]; exact ci_up c29 (((F3723 52 29 (by omega) (by omega)).trans (F3721 52 29 (by omega) (by omega))))
        have A2 : dnA h3723 (L ++ [E]) := fun j k hk => ci_up (dA j k (by rw [dix_app, if_neg (by omega), List.append_nil] at hk; exact hk)) (((F3723 377 j (by omega) (by omega)).trans (F3721 377 j (by omega) (by omega))))
        have K2 := tp3723
        have SI : stI (L ++ [E]) ((L.length, false) :: ((L.length, true) :: S)) := by
          refine ⟨fun i w m => ?_, by have := sT; rw [sn_len]; simp only [List.length_cons]; omega⟩
          rcases List.mem_cons.mp m with m | m
          · cases m
            exact ⟨E, sn_get, by omega, by omega⟩
          rcases List.mem_cons.mp m with m | m
          · cases m
            exact ⟨E, sn_get, by omega, by omega⟩
          exact sI.1 i w m
        refine pw_57 (l2 := (some (zi y3715))) I2 (by omega) wl D2 A2 K2 SI (fun h1 E1 S1 I1 wl1 c1 d1 k1 s1 hl1 ⟨i1, w1, eb1⟩ hs1 => ?_)
        exact ih h1 (L ++ [E]) E1 S1 _ I1 wl1 c1 d1 k1 s1 (by rw [sn_len (L := L ++ [E])]; omega) (by rw [sn_len (L := L)] at hl1 hf; omega) (by first | (simp only [List.length_cons] at hs1; rw [sn_len]; omega) | (rw [sn_len]; omega))
      ·
        refine y_same (i := .aload_n 0) (len := 1) (r := (0, 0, 0, 0)) (pc' := 106) (ls' := [some (.inl (some 52)), some (zi xo), l2]) (st' := [.inl (some 52)]) (by decide +kernel) (fun k q => by cases q) rfl ?_
        refine y_get (j := 348) (len := 3) (r := (12, 26, 0, 1354)) (by decide +kernel) hg (t52 hg) at52 rfl rfl hn26 ?_
        refine y_ic (c := 1) (len := 1) (r := (0, 0, 0, 0)) (by decide +kernel) (by decide) (fun y3724 hy3724 => ?_)
        refine y_sub (len := 1) (r := (0, 0, 0, 0)) (by decide +kernel) (by omega) (by omega) (fun y3725 hy3725 => ?_)
        refine y_same (i := .istore_n 2) (len := 1) (r := (0, 0, 0, 0)) (pc' := 112) (ls' := [some (.inl (some 52)), some (zi xo), some (zi y3725)]) (st' := []) (by decide +kernel) (fun k q => by cases q) rfl ?_
        refine y_same (i := .aload_n 0) (len := 1) (r := (0, 0, 0, 0)) (pc' := 113) (ls' := [some (.inl (some 52)), some (zi xo), some (zi y3725)]) (st' := [.inl (some 52)]) (by decide +kernel) (fun k q => by cases q) rfl ?_
        refine y_get (j := 46) (len := 3) (r := (12, 18, 2, 1346)) (by decide +kernel) hg (t52 hg) at52 rfl rfl (g_r52 (f := 18) (T2 := 373) hg rfl (by decide)).1 ?_
        refine y_same (i := .iload_n 2) (len := 1) (r := (0, 0, 0, 0)) (pc' := 117) (ls' := [some (.inl (some 52)), some (zi xo), some (zi y3725)]) (st' := [zi y3725, .inl (some 373)]) (by decide +kernel) (fun k q => by cases q) rfl ?_
        refine y_ial (i := L.length) (len := 1) (r := (0, 0, 0, 0)) (by decide +kernel) hg (tu373 hg) at373 (by omega) hs373 ?_
        refine y_bi (c := 9) (len := 2) (r := (0, 0, 0, 0)) (by decide +kernel) (by decide) (fun y3726 hy3726 => ?_)
        refine y_cT (c := .ne) (off := 14) (pc' := 134) (len := 3) (r := (0, 0, 0, 0)) (by decide +kernel) (acmpT (c := .ne) (by show ¬ (_ = _); omega)) (by decide +kernel) ?_
        refine y_same (i := .aload_n 0) (len := 1) (r := (0, 0, 0, 0)) (pc' := 135) (ls' := [some (.inl (some 52)), some (zi xo), some (zi y3725)]) (st' := [.inl (some 52)]) (by decide +kernel) (fun k q => by cases q) rfl ?_
        refine y_get (j := 46) (len := 3) (r := (12, 18, 2, 1346)) (by decide +kernel) hg (t52 hg) at52 rfl rfl (g_r52 (f := 18) (T2 := 373) hg rfl (by decide)).1 ?_
        refine y_same (i := .iload_n 2) (len := 1) (r := (0, 0, 0, 0)) (pc' := 139) (ls' := [some (.inl (some 52)), some (zi xo), some (zi y3725)]) (st' := [zi y3725, .inl (some 373)]) (by decide +kernel) (fun k q => by cases q) rfl ?_
        refine y_ial (i := L.length) (len := 1) (r := (0, 0, 0, 0)) (by decide +kernel) hg (tu373 hg) at373 (by omega) hs373 ?_
        refine y_ic (c := 2) (len := 1) (r := (0, 0, 0, 0)) (by decide +kernel) (by decide) (fun y3727 hy3727 => ?_)
        refine y_cT (c := .ne) (off := 23) (pc' := 164) (len := 3) (r := (0, 0, 0, 0)) (by decide +kernel) (acmpT (c := .ne) (by show ¬ (_ = _); omega)) (by decide +kernel) ?_
        refine y_same (i := .aload_n 0) (len := 1) (r := (0, 0, 0, 0)) (pc' := 165) (ls' := [some (.inl (some 52)), some (zi xo), some (zi y3725)]) (st' := [.inl (some 52)]) (by decide +kernel) (fun k q => by cases q) rfl ?_
        refine y_get (j := 46) (len := 3) (r := (12, 18, 2, 1346)) (by decide +kernel) hg (t52 hg) at52 rfl rfl (g_r52 (f := 18) (T2 := 373) hg rfl (by decide)).1 ?_
        refine y_same (i := .iload_n 2) (len := 1) (r := (0, 0, 0, 0)) (pc' := 169) (ls' := [some (.inl (some 52)), some (zi xo), some (zi y3725)]) (st' := [zi y3725, .inl (some 373)]) (by decide +kernel) (fun k q => by cases q) rfl ?_
        refine y_ial (i := L.length) (len := 1) (r := (0, 0, 0, 0)) (by decide +kernel) hg (tu373 hg) at373 (by omega) hs373 ?_
        refine y_ic (c := 2) (len := 1) (r := (0, 0, 0, 0)) (by decide +kernel) (by decide) (fun y3728 hy3728 => ?_)
        refine y_cT (c := .gt) (off := 6) (pc' := 177) (len := 3) (r := (0, 0, 0, 0)) (by decide +kernel) (acmpT (c := .gt) (by show _ < _; omega)) (by decide +kernel) ?_
        refine y_same (i := .aload_n 0) (len := 1) (r := (0, 0, 0, 0)) (pc' := 178) (ls' := [some (.inl (some 52)), some (zi xo), some (zi y3725)]) (st' := [.inl (some 52)]) (by decide +kernel) (fun k q => by cases q) rfl ?_
        refine y_get (j := 46) (len := 3) (r := (12, 18, 2, 1346)) (by decide +kernel) hg (t52 hg) at52 rfl rfl (g_r52 (f := 18) (T2 := 373) hg rfl (by decide)).1 ?_
        refine y_same (i := .iload_n 2) (len := 1) (r := (0, 0, 0, 0)) (pc' := 182) (ls' := [some (.inl (some 52)), some (zi xo), some (zi y3725)]) (st' := [zi y3725, .inl (some 373)]) (by decide +kernel) (fun k q => by cases q) rfl ?_
        refine y_ial (i := L.length) (len := 1) (r := (0, 0, 0, 0)) (by decide +kernel) hg (tu373 hg) at373 (by omega) hs373 ?_
        refine y_bi (c := 6) (len := 2) (r := (0, 0, 0, 0)) (by decide +kernel) (by decide) (fun y3729 hy3729 => ?_)
        refine y_cF (c := .eq) (off := 14) (len := 3) (r := (0, 0, 0, 0)) (by decide +kernel) (acmpF (c := .eq) (by show ¬ (_ = _); omega)) ?_
        refine y_same (i := .aload_n 0) (len := 1) (r := (0, 0, 0, 0)) (pc' := 189) (ls' := [some (.inl (some 52)), some (zi xo), some (zi y3725)]) (st' := [.inl (some 52)]) (by decide +kernel) (fun k q => by cases q) rfl ?_
        refine y_get (j := 46) (len := 3) (r := (12, 18, 2, 1346)) (by decide +kernel) hg (t52 hg) at52 rfl rfl (g_r52 (f := 18) (T2 := 373) hg rfl (by decide)).1 ?_
        refine y_same (i := .iload_n 2) (len := 1) (r := (0, 0, 0, 0)) (pc' := 193) (ls' := [some (.inl (some 52)), some (zi xo), some (zi y3725)]) (st' := [zi y3725, .inl (some 373)]) (by decide +kernel) (fun k q => by cases q) rfl ?_
        refine y_ial (i := L.length) (len := 1) (r := (0, 0, 0, 0)) (by decide +kernel) hg (tu373 hg) at373 (by omega) hs373 ?_
        refine y_bi (c := 7) (len := 2) (r := (0, 0, 0, 0)) (by decide +kernel) (by decide) (fun y3730 hy3730 => ?_)
        refine y_cF (c := .ne) (off := 9) (len := 3) (r := (0, 0, 0, 0)) (by decide +kernel) (acmpF (c := .ne) (by show _ = _; omega)) ?_
        refine y_same (i := .aload_n 0) (len := 1) (r := (0, 0, 0, 0)) (pc' := 200) (ls' := [some (.inl (some 52)), some (zi xo), some (zi y3725)]) (st' := [.inl (some 52)]) (by decide +kernel) (fun k q => by cases q) rfl ?_
        refine y_same (i := .iload_n 2) (len := 1) (r := (0, 0, 0, 0)) (pc' := 201) (ls' := [some (.inl (some 52)), some (zi xo), some (zi y3725)]) (st' := [zi y3725, .inl (some 52)]) (by decide +kernel) (fun k q => by cases q) rfl ?_
        refine y_ic (c := 1) (len := 1) (r := (0, 0, 0, 0)) (by decide +kernel) (by decide) (fun y3731 hy3731 => ?_)
        have tk3732 : tkM h S := tk_up tk (fun k j _ => rfl)
        refine y_cV (i := .invokevirtual 394) (len := 3) (r := (0, 237, 12, 1632)) (nL := 3) (k := 0) (n := 3) (hs := []) (args := [.inl (some 52), zi y3725, zi y3731]) (rest := []) (l0 := [some (.inl (some 52)), some (zi y3725), some (zi y3731)]) (by decide +kernel) (Or.inr (Or.inl ⟨_, rfl⟩)) rfl rfl rfl rfl (Nat.le_of_ble_eq_true rfl) (z52 hg) rfl (qV_le (by omega) (m_wts (d := 0) hg (by omega) (by omega) (by omega) (by omega) tk3732.1 (by first | omega | (simp only [List.length_cons]; omega)))) (fun h3732 hR3732 => ?_)
        obtain ⟨hg3732, a3732, b3732, c3732, F3732⟩ := hR3732
        have tp3732 := tk_push (i := L.length) (w := true) tk3732 a3732 b3732 (by omega) (by rw [if_pos rfl]; omega) c3732 F3732
        refine y_same (i := .aload_n 0) (len := 1) (r := (0, 0, 0, 0)) (pc' := 206) (ls' := [some (.inl (some 52)), some (zi xo), some (zi y3725)]) (st' := [.inl (some 52)]) (by decide +kernel) (fun k q => by cases q) rfl ?_
        refine y_same (i := .iload_n 2) (len := 1) (r := (0, 0, 0, 0)) (pc' := 207) (ls' := [some (.inl (some 52)), some (zi xo), some (zi y3725)]) (st' := [zi y3725, .inl (some 52)]) (by decide +kernel) (fun k q => by cases q) rfl ?_
        refine y_ic (c := 0) (len := 1) (r := (0, 0, 0, 0)) (by decide +kernel) (by decide) (fun y3733 hy3733 => ?_)
        have tk3734 : tkM h3732 ((L.length, true) :: S) := tk_up tp3732 (fun k j _ => rfl)
        refine y_cV (i := .invokevirtual 394) (len := 3) (r := (0, 237, 12, 1632)) (nL := 3) (k := 0) (n := 3) (hs := []) (args := [.inl (some 52), zi y3725, zi y3733]) (rest := []) (l0 := [some (.inl (some 52)), some (zi y3725), some (zi y3733)]) (by decide +kernel) (Or.inr (Or.inl ⟨_, rfl⟩)) rfl rfl rfl rfl (Nat.le_of_ble_eq_true rfl) (z52 hg3732) rfl (qV_le (by omega) (m_wts (d := 0) hg3732 (by omega) (by omega) (by omega) (by omega) tk3734.1 (by first | omega | (simp only [List.length_cons]; omega)))) (fun h3734 hR3734 => ?_)
        obtain ⟨hg3734, a3734, b3734, c3734, F3734⟩ := hR3734
        have tp3734 := tk_push (i := L.length) (w := false) tk3734 a3734 b3734 (by omega) (by rw [if_neg (by decide)]; omega) c3734 F3734
        refine y_goto (off := (-154)) (pc' := 57) (len := 3) (r := (0, 0, 0, 0)) (by decide +kernel) (by decide +kernel) ?_
        have eR : conF cyP false (g + 1) L E S = runF cyP false (g + 1) (L ++ [E]) ((L.length, false) :: ((L.length, true) :: S)) := by
          show (if E.2.1 = 9 then _ else runF cyP false (g + 1) (L ++ [E]) (toF E L.length S)) = _
          rw [if_neg (by omega), toF, if_neg (by omega), if_pos (by omega)]
        rw [eR]
        have I2 : pvI τ 0 h3734 (L ++ [E]) := ⟨hg3734, kx_up ip (((F3734 52 31 (by omega) (by omega)).trans (F3732 52 31 (by omega) (by omega)))), kx_up ml (((F3734 52 32 (by omega) (by omega)).trans (F3732 52 32 (by omega) (by omega)))), kx_up rs (((F3734 52 27 (by omega) (by omega)).trans (F3732 52 27 (by omega) (by omega)))), ci_up c26 (((F3734 52 26 (by omega) (by omega)).trans (F3732 52 26 (by omega) (by omega)))), fun k e hk => pmE_up (pE k e hk) hg3734 (fun k9 j hC => by have hk9 := (List.getElem?_eq_some_iff.mp hk).1; exact ((F3734 k9 j (by omega) (by omega)).trans (F3732 k9 j (by omega) (by omega))))⟩
        have D2 : ci_ h3734 52 29 (dns (L ++ [E])) := by rw [dns_app, if_neg (by omega)]; exact ci_up c29 (((F3734 52 29 (by omega) (by omega)).trans (F3732 52 29 (by omega) (by omega))))
        have A2 : dnA h3734 (L ++ [E]) := fun j k hk => ci_up (dA j k (by rw [dix_app, if_neg (by omega), List.append_nil] at hk; exact hk)) (((F3734 377 j (by omega) (by omega)).trans (F3732 377 j (by omega) (by omega))))
        have K2 := tp3734
        have SI : stI (L ++ [E]) ((L.length, false) :: ((L.length, true) :: S)) := by
          refine ⟨fun i w m => ?_, by have := sT; rw [sn_len]; simp only [List.length_cons]; omega⟩
          rcases List.mem_cons.mp m with m | m
          · cases m
            exact ⟨E, sn_get, by omega, by omega⟩
          rcases List.mem_cons.mp m with m | m
          · cases m
            exact ⟨E, sn_get, by omega, by omega⟩
          exact sI.1 i w m
        refine pw_57 (l2 := (some (zi y3725))) I2 (by omega) wl D2 A2 K2 SI (fun h1 E1 S1 I1 wl1 c1 d1 k1 s1 hl1 ⟨i1, w1, eb1⟩ hs1 => ?_)
        exact ih h1 (L ++ [E]) E1 S1 _ I1 wl1 c1 d1 k1 s1 (by rw [sn_len (L := L ++ [E])]; omega) (by rw [sn_len (L := L)] at hl1 hf; omega) (by first | (simp only [List.length_cons] at hs1; rw [sn_len]; omega) | (rw [sn_len]; omega))
    ·
      refine y_same (i := .aload_n 0) (len := 1) (r := (0, 0, 0, 0)) (pc' := 106) (ls' := [some (.inl (some 52)), some (zi xo), l2]) (st' := [.inl (some 52)]) (by decide +kernel) (fun k q => by cases q) rfl ?_
      refine y_get (j := 348) (len := 3) (r := (12, 26, 0, 1354)) (by decide +kernel) hg (t52 hg) at52 rfl rfl hn26 ?_
      refine y_ic (c := 1) (len := 1) (r := (0, 0, 0, 0)) (by decide +kernel) (by decide) (fun y3705 hy3705 => ?_)
      refine y_sub (len := 1) (r := (0, 0, 0, 0)) (by decide +kernel) (by omega) (by omega) (fun y3706 hy3706 => ?_)
      refine y_same (i := .istore_n 2) (len := 1) (r := (0, 0, 0, 0)) (pc' := 112) (ls' := [some (.inl (some 52)), some (zi xo), some (zi y3706)]) (st' := []) (by decide +kernel) (fun k q => by cases q) rfl ?_
      refine y_same (i := .aload_n 0) (len := 1) (r := (0, 0, 0, 0)) (pc' := 113) (ls' := [some (.inl (some 52)), some (zi xo), some (zi y3706)]) (st' := [.inl (some 52)]) (by decide +kernel) (fun k q => by cases q) rfl ?_
      refine y_get (j := 46) (len := 3) (r := (12, 18, 2, 1346)) (by decide +kernel) hg (t52 hg) at52 rfl rfl (g_r52 (f := 18) (T2 := 373) hg rfl (by decide)).1 ?_
      refine y_same (i := .iload_n 2) (len := 1) (r := (0, 0, 0, 0)) (pc' := 117) (ls' := [some (.inl (some 52)), some (zi xo), some (zi y3706)]) (st' := [zi y3706, .inl (some 373)]) (by decide +kernel) (fun k q => by cases q) rfl ?_
      refine y_ial (i := L.length) (len := 1) (r := (0, 0, 0, 0)) (by decide +kernel) hg (tu373 hg) at373 (by omega) hs373 ?_
      refine y_bi (c := 9) (len := 2) (r := (0, 0, 0, 0)) (by decide +kernel) (by decide) (fun y3707 hy3707 => ?_)
      refine y_cT (c := .ne) (off := 14) (pc' := 134) (len := 3) (r := (0, 0, 0, 0)) (by decide +kernel) (acmpT (c := .ne) (by show ¬ (_ = _); omega)) (by decide +kernel) ?_
      refine y_same (i := .aload_n 0) (len := 1) (r := (0, 0, 0, 0)) (pc' := 135) (ls' := [some (.inl (some 52)), some (zi xo), some (zi y3706)]) (st' := [.inl (some 52)]) (by decide +kernel) (fun k q => by cases q) rfl ?_
      refine y_get (j := 46) (len := 3) (r := (12, 18, 2, 1346)) (by decide +kernel) hg (t52 hg) at52 rfl rfl (g_r52 (f := 18) (T2 := 373) hg rfl (by decide)).1 ?_
      refine y_same (i := .iload_n 2) (len := 1) (r := (0, 0, 0, 0)) (pc' := 139) (ls' := [some (.inl (some 52)), some (zi xo), some (zi y3706)]) (st' := [zi y3706, .inl (some 373)]) (by decide +kernel) (fun k q => by cases q) rfl ?_
      refine y_ial (i := L.length) (len := 1) (r := (0, 0, 0, 0)) (by decide +kernel) hg (tu373 hg) at373 (by omega) hs373 ?_
      refine y_ic (c := 2) (len := 1) (r := (0, 0, 0, 0)) (by decide +kernel) (by decide) (fun y3708 hy3708 => ?_)
      refine y_cT (c := .ne) (off := 23) (pc' := 164) (len := 3) (r := (0, 0, 0, 0)) (by decide +kernel) (acmpT (c := .ne) (by show ¬ (_ = _); omega)) (by decide +kernel) ?_
      refine y_same (i := .aload_n 0) (len := 1) (r := (0, 0, 0, 0)) (pc' := 165) (ls' := [some (.inl (some 52)), some (zi xo), some (zi y3706)]) (st' := [.inl (some 52)]) (by decide +kernel) (fun k q => by cases q) rfl ?_
      refine y_get (j := 46) (len := 3) (r := (12, 18, 2, 1346)) (by decide +kernel) hg (t52 hg) at52 rfl rfl (g_r52 (f := 18) (T2 := 373) hg rfl (by decide)).1 ?_
      refine y_same (i := .iload_n 2) (len := 1) (r := (0, 0, 0, 0)) (pc' := 169) (ls' := [some (.inl (some 52)), some (zi xo), some (zi y3706)]) (st' := [zi y3706, .inl (some 373)]) (by decide +kernel) (fun k q => by cases q) rfl ?_
      refine y_ial (i := L.length) (len := 1) (r := (0, 0, 0, 0)) (by decide +kernel) hg (tu373 hg) at373 (by omega) hs373 ?_
      refine y_ic (c := 2) (len := 1) (r := (0, 0, 0, 0)) (by decide +kernel) (by decide) (fun y3709 hy3709 => ?_)
      refine y_cT (c := .gt) (off := 6) (pc' := 177) (len := 3) (r := (0, 0, 0, 0)) (by decide +kernel) (acmpT (c := .gt) (by show _ < _; omega)) (by decide +kernel) ?_
      refine y_same (i := .aload_n 0) (len := 1) (r := (0, 0, 0, 0)) (pc' := 178) (ls' := [some (.inl (some 52)), some (zi xo), some (zi y3706)]) (st' := [.inl (some 52)]) (by decide +kernel) (fun k q => by cases q) rfl ?_
      refine y_get (j := 46) (len := 3) (r := (12, 18, 2, 1346)) (by decide +kernel) hg (t52 hg) at52 rfl rfl (g_r52 (f := 18) (T2 := 373) hg rfl (by decide)).1 ?_
      refine y_same (i := .iload_n 2) (len := 1) (r := (0, 0, 0, 0)) (pc' := 182) (ls' := [some (.inl (some 52)), some (zi xo), some (zi y3706)]) (st' := [zi y3706, .inl (some 373)]) (by decide +kernel) (fun k q => by cases q) rfl ?_
      refine y_ial (i := L.length) (len := 1) (r := (0, 0, 0, 0)) (by decide +kernel) hg (tu373 hg) at373 (by omega) hs373 ?_
      refine y_bi (c := 6) (len := 2) (r := (0, 0, 0, 0)) (by decide +kernel) (by decide) (fun y3710 hy3710 => ?_)
      refine y_cF (c := .eq) (off := 14) (len := 3) (r := (0, 0, 0, 0)) (by decide +kernel) (acmpF (c := .eq) (by show ¬ (_ = _); omega)) ?_
      refine y_same (i := .aload_n 0) (len := 1) (r := (0, 0, 0, 0)) (pc' := 189) (ls' := [some (.inl (some 52)), some (zi xo), some (zi y3706)]) (st' := [.inl (some 52)]) (by decide +kernel) (fun k q => by cases q) rfl ?_
      refine y_get (j := 46) (len := 3) (r := (12, 18, 2, 1346)) (by decide +kernel) hg (t52 hg) at52 rfl rfl (g_r52 (f := 18) (T2 := 373) hg rfl (by decide)).1 ?_
      refine y_same (i := .iload_n 2) (len := 1) (r := (0, 0, 0, 0)) (pc' := 193) (ls' := [some (.inl (some 52)), some (zi xo), some (zi y3706)]) (st' := [zi y3706, .inl (some 373)]) (by decide +kernel) (fun k q => by cases q) rfl ?_
      refine y_ial (i := L.length) (len := 1) (r := (0, 0, 0, 0)) (by decide +kernel) hg (tu373 hg) at373 (by omega) hs373 ?_
      refine y_bi (c := 7) (len := 2) (r := (0, 0, 0, 0)) (by decide +kernel) (by decide) (fun y3711 hy3711 => ?_)
      refine y_cT (c := .ne) (off := 9) (pc' := 205) (len := 3) (r := (0, 0, 0, 0)) (by decide +kernel) (acmpT (c := .ne) (by show ¬ (_ = _); omega)) (by decide +kernel) ?_
      refine y_same (i := .aload_n 0) (len := 1) (r := (0, 0, 0, 0)) (pc' := 206) (ls' := [some (.inl (some 52)), some (zi xo), some (zi y3706)]) (st' := [.inl (some 52)]) (by decide +kernel) (fun k q => by cases q) rfl ?_
      refine y_same (i := .iload_n 2) (len := 1) (r := (0, 0, 0, 0)) (pc' := 207) (ls' := [some (.inl (some 52)), some (zi xo), some (zi y3706)]) (st' := [zi y3706, .inl (some 52)]) (by decide +kernel) (fun k q => by cases q) rfl ?_
      refine y_ic (c := 0) (len := 1) (r := (0, 0, 0, 0)) (by decide +kernel) (by decide) (fun y3712 hy3712 => ?_)
      have tk3713 : tkM h S := tk_up tk (fun k j _ => rfl)
      refine y_cV (i := .invokevirtual 394) (len := 3) (r := (0, 237, 12, 1632)) (nL := 3) (k := 0) (n := 3) (hs := []) (args := [.inl (some 52), zi y3706, zi y3712]) (rest := []) (l0 := [some (.inl (some 52)), some (zi y3706), some (zi y3712)]) (by decide +kernel) (Or.inr (Or.inl ⟨_, rfl⟩)) rfl rfl rfl rfl (Nat.le_of_ble_eq_true rfl) (z52 hg) rfl (qV_le (by omega) (m_wts (d := 0) hg (by omega) (by omega) (by omega) (by omega) tk3713.1 (by first | omega | (simp only [List.length_cons]; omega)))) (fun h3713 hR3713 => ?_)
      obtain ⟨hg3713, a3713, b3713, c3713, F3713⟩ := hR3713
      have tp3713 := tk_push (i := L.length) (w := false) tk3713 a3713 b3713 (by omega) (by rw [if_neg (by decide)]; omega) c3713 F3713
      refine y_goto (off := (-154)) (pc' := 57) (len := 3) (r := (0, 0, 0, 0)) (by decide +kernel) (by decide +kernel) ?_
      have eR : conF cyP false (g + 1) L E S = runF cyP false (g + 1) (L ++ [E]) ((L.length, false) :: S) := by
        show (if E.2.1 = 9 then _ else runF cyP false (g + 1) (L ++ [E]) (toF E L.length S)) = _
        rw [if_neg (by omega), toF, if_neg (by omega), if_neg (by omega)]
      rw [eR]
      have I2 : pvI τ 0 h3713 (L ++ [E]) := ⟨hg3713, kx_up ip ((F3713 52 31 (by omega) (by omega))), kx_up ml ((F3713 52 32 (by omega) (by omega))), kx_up rs ((F3713 52 27 (by omega) (by omega))), ci_up c26 ((F3713 52 26 (by omega) (by omega))), fun k e hk => pmE_up (pE k e hk) hg3713 (fun k9 j hC => by have hk9 := (List.getElem?_eq_some_iff.mp hk).1; exact (F3713 k9 j (by omega) (by omega)))⟩
      have D2 : ci_ h3713 52 29 (dns (L ++ [E])) := by rw [dns_app, if_neg (by omega)]; exact ci_up c29 ((F3713 52 29 (by omega) (by omega)))
      have A2 : dnA h3713 (L ++ [E]) := fun j k hk => ci_up (dA j k (by rw [dix_app, if_neg (by omega), List.append_nil] at hk; exact hk)) ((F3713 377 j (by omega) (by omega)))
      have K2 := tp3713
      have SI : stI (L ++ [E]) ((L.length, false) :: S) := by
        refine ⟨fun i w m => ?_, by have := sT; rw [sn_len]; simp only [List.length_cons]; omega⟩
        rcases List.mem_cons.mp m with m | m
        · cases m
          exact ⟨E, sn_get, by omega, by omega⟩
        exact sI.1 i w m
      refine pw_57 (l2 := (some (zi y3706))) I2 (by omega) wl D2 A2 K2 SI (fun h1 E1 S1 I1 wl1 c1 d1 k1 s1 hl1 ⟨i1, w1, eb1⟩ hs1 => ?_)
      exact ih h1 (L ++ [E]) E1 S1 _ I1 wl1 c1 d1 k1 s1 (by rw [sn_len (L := L ++ [E])]; omega) (by rw [sn_len (L := L)] at hl1 hf; omega) (by first | (simp only [List.length_cons] at hs1; rw [sn_len]; omega) | (rw [sn_len]; omega))
