/-! the reference: the first sequent -/
theorem m_c4 {d t p q : Nat} {τ : List Nat} {h : zh} {i : it4} {xp xt : Int32} (hg : hG τ h) (exp : xp.toInt = (p : Int)) (hp : p + 4 ≤ 92) (exq : xt.toInt = (q : Int)) (hq1 : 24 ≤ q) (hq2 : q + 4 ≤ 200) (ok : okV i) (qd : qdM h 55 p i) : qV (d + 2) 226 [some (.inl (some 52)), some (.inl (some 55)), some (zi xp), some (zi xt)] h t (fun h1 => hG τ h1 ∧ qdM h1 378 q i ∧ ∀ k j, (k ≠ 378 ∨ j < q ∨ q + 4 ≤ j) → hsl h1 k j = hsl h k j) := by
  obtain ⟨xa, xb, xc, xd, ⟨ha, hb, hc, hd⟩, ea, eb, ec, ed⟩ := qd
  refine qV_of ?_
  refine y_same (i := .aload_n 0) (len := 1) (r := (0, 0, 0, 0)) (pc' := 1) (ls' := [some (.inl (some 52)), some (.inl (some 55)), some (zi xp), some (zi xt)]) (st' := [.inl (some 52)]) (by decide +kernel) (fun k q => by cases q) rfl ?_
  refine y_get (j := 61) (len := 3) (r := (12, 23, 2, 1351)) (by decide +kernel) hg (t52 hg) at52 rfl rfl (g_r52 (f := 23) (T2 := 378) hg rfl (by decide)).1 ?_
  refine y_same (i := .iload_n 3) (len := 1) (r := (0, 0, 0, 0)) (pc' := 5) (ls' := [some (.inl (some 52)), some (.inl (some 55)), some (zi xp), some (zi xt)]) (st' := [zi xt, .inl (some 378)]) (by decide +kernel) (fun k q => by cases q) rfl ?_
  refine y_same (i := .aload_n 1) (len := 1) (r := (0, 0, 0, 0)) (pc' := 6) (ls' := [some (.inl (some 52)), some (.inl (some 55)), some (zi xp), some (zi xt)]) (st' := [.inl (some 55), zi xt, .inl (some 378)]) (by decide +kernel) (fun k q => by cases q) rfl ?_
  refine y_same (i := .iload_n 2) (len := 1) (r := (0, 0, 0, 0)) (pc' := 7) (ls' := [some (.inl (some 52)), some (.inl (some 55)), some (zi xp), some (zi xt)]) (st' := [zi xp, .inl (some 55), zi xt, .inl (some 378)]) (by decide +kernel) (fun k q => by cases q) rfl ?_
  refine y_ial (i := p) (len := 1) (r := (0, 0, 0, 0)) (by decide +kernel) hg (tv55 hg) av55 (by omega) ha ?_
  refine y_same (i := .aload_n 1) (len := 1) (r := (0, 0, 0, 0)) (pc' := 9) (ls' := [some (.inl (some 52)), some (.inl (some 55)), some (zi xp), some (zi xt)]) (st' := [.inl (some 55), zi xa, zi xt, .inl (some 378)]) (by decide +kernel) (fun k q => by cases q) rfl ?_
  refine y_same (i := .iload_n 2) (len := 1) (r := (0, 0, 0, 0)) (pc' := 10) (ls' := [some (.inl (some 52)), some (.inl (some 55)), some (zi xp), some (zi xt)]) (st' := [zi xp, .inl (some 55), zi xa, zi xt, .inl (some 378)]) (by decide +kernel) (fun k q => by cases q) rfl ?_
  refine y_ic (c := 1) (len := 1) (r := (0, 0, 0, 0)) (by decide +kernel) (by decide) (fun y3329 hy3329 => ?_)
  refine y_add (len := 1) (r := (0, 0, 0, 0)) (by decide +kernel) (by omega) (by omega) (fun y3330 hy3330 => ?_)
  refine y_ial (i := (p + 1)) (len := 1) (r := (0, 0, 0, 0)) (by decide +kernel) hg (tv55 hg) av55 (by omega) hb ?_
  refine y_same (i := .aload_n 1) (len := 1) (r := (0, 0, 0, 0)) (pc' := 14) (ls' := [some (.inl (some 52)), some (.inl (some 55)), some (zi xp), some (zi xt)]) (st' := [.inl (some 55), zi xb, zi xa, zi xt, .inl (some 378)]) (by decide +kernel) (fun k q => by cases q) rfl ?_
  refine y_same (i := .iload_n 2) (len := 1) (r := (0, 0, 0, 0)) (pc' := 15) (ls' := [some (.inl (some 52)), some (.inl (some 55)), some (zi xp), some (zi xt)]) (st' := [zi xp, .inl (some 55), zi xb, zi xa, zi xt, .inl (some 378)]) (by decide +kernel) (fun k q => by cases q) rfl ?_
  refine y_ic (c := 2) (len := 1) (r := (0, 0, 0, 0)) (by decide +kernel) (by decide) (fun y3331 hy3331 => ?_)
  refine y_add (len := 1) (r := (0, 0, 0, 0)) (by decide +kernel) (by omega) (by omega) (fun y3332 hy3332 => ?_)
  refine y_ial (i := (p + 2)) (len := 1) (r := (0, 0, 0, 0)) (by decide +kernel) hg (tv55 hg) av55 (by omega) hc ?_
  refine y_same (i := .aload_n 1) (len := 1) (r := (0, 0, 0, 0)) (pc' := 19) (ls' := [some (.inl (some 52)), some (.inl (some 55)), some (zi xp), some (zi xt)]) (st' := [.inl (some 55), zi xc, zi xb, zi xa, zi xt, .inl (some 378)]) (by decide +kernel) (fun k q => by cases q) rfl ?_
  refine y_same (i := .iload_n 2) (len := 1) (r := (0, 0, 0, 0)) (pc' := 20) (ls' := [some (.inl (some 52)), some (.inl (some 55)), some (zi xp), some (zi xt)]) (st' := [zi xp, .inl (some 55), zi xc, zi xb, zi xa, zi xt, .inl (some 378)]) (by decide +kernel) (fun k q => by cases q) rfl ?_
  refine y_ic (c := 3) (len := 1) (r := (0, 0, 0, 0)) (by decide +kernel) (by decide) (fun y3333 hy3333 => ?_)
  refine y_add (len := 1) (r := (0, 0, 0, 0)) (by decide +kernel) (by omega) (by omega) (fun y3334 hy3334 => ?_)
  refine y_ial (i := (p + 3)) (len := 1) (r := (0, 0, 0, 0)) (by decide +kernel) hg (tv55 hg) av55 (by omega) hd ?_
  refine y_cV (i := .invokestatic 151) (len := 3) (r := (1, 179, 12, 1549)) (nL := 6) (k := 0) (n := 6) (hs := []) (args := [.inl (some 378), zi xt, zi xa, zi xb, zi xc, zi xd]) (rest := []) (l0 := [some (.inl (some 378)), some (zi xt), some (zi xa), some (zi xb), some (zi xc), some (zi xd)]) (by decide +kernel) (Or.inl ⟨_, rfl⟩) rfl rfl rfl rfl (Nat.le_of_ble_eq_true rfl) rfl rfl (qV_le (by omega) (m_fur (d := 0) (p := q) (i := i) hg (rwT_d hg) (by omega) hq1 hq2 ok (by omega) (by omega) (by omega) (by omega))) (fun h3335 hR3335 => ?_)
  refine y_rV (len := 1) (r := (0, 0, 0, 0)) (nL := 4) (n9 := 4) (hs := []) (by decide +kernel) rfl ?_
  exact hR3335
theorem bgm_0 {d t : Nat} {τ : List Nat} {h0 : zh} {l2 l3 l4 l5 l6 l7 : Option zv} {P : zo × zh × Nat → Prop} (kk : ∀ (h : zh) (xi : Int32), hG τ h → (∀ j, j < 200 → kx_ h 378 j 0) → FM 378 h0 h → qX (d + 3) 225 22 [some (.inl (some 52)), some (zi xi), l2, l3, l4, l5, l6, l7] [] h t P) : ∀ (n : Nat) (h : zh) (i : Nat) (xi : Int32), hG τ h → (∀ j, j < i → kx_ h 378 j 0) → (∀ k j, k ≠ 378 → hsl h k j = hsl h0 k j) → xi.toInt = (i : Int) → i ≤ 200 → 200 ≤ i + n → qX (d + 3) 225 2 [some (.inl (some 52)), some (zi xi), l2, l3, l4, l5, l6, l7] [] h t P := by
  intro n
  induction n with
  | zero =>
    intro h i xi hg c1 F0 hxi hi hn
    refine y_same (i := .iload_n 1) (len := 1) (r := (0, 0, 0, 0)) (pc' := 3) (ls' := [some (.inl (some 52)), some (zi xi), l2, l3, l4, l5, l6, l7]) (st' := [zi xi]) (by decide +kernel) (fun k q => by cases q) rfl ?_
    refine y_si (c := 200) (len := 3) (r := (0, 0, 0, 0)) (by decide +kernel) (by decide) (fun y3348 hy3348 => ?_)
    refine y_cT (c := .ge) (off := 16) (pc' := 22) (len := 3) (r := (0, 0, 0, 0)) (by decide +kernel) (acmpT (c := .ge) (by show _ ≤ _; omega)) (by decide +kernel) ?_
    exact kk h _ hg (fun j hj => c1 j (by omega)) F0
  | succ n ih =>
    intro h i xi hg c1 F0 hxi hi hn
    rcases Nat.lt_or_ge i 200 with q | q
    · rcases (show i < 3 ∨ (3 ≤ i ∧ i < 24) ∨ 24 ≤ i by omega) with q1 | q1 | q1
      ·
        refine y_same (i := .iload_n 1) (len := 1) (r := (0, 0, 0, 0)) (pc' := 3) (ls' := [some (.inl (some 52)), some (zi xi), l2, l3, l4, l5, l6, l7]) (st' := [zi xi]) (by decide +kernel) (fun k q => by cases q) rfl ?_
        refine y_si (c := 200) (len := 3) (r := (0, 0, 0, 0)) (by decide +kernel) (by decide) (fun y3336 hy3336 => ?_)
        refine y_cF (c := .ge) (off := 16) (len := 3) (r := (0, 0, 0, 0)) (by decide +kernel) (acmpF (c := .ge) (by show _ < _; omega)) ?_
        refine y_same (i := .aload_n 0) (len := 1) (r := (0, 0, 0, 0)) (pc' := 10) (ls' := [some (.inl (some 52)), some (zi xi), l2, l3, l4, l5, l6, l7]) (st' := [.inl (some 52)]) (by decide +kernel) (fun k q => by cases q) rfl ?_
        refine y_get (j := 61) (len := 3) (r := (12, 23, 2, 1351)) (by decide +kernel) hg (t52 hg) at52 rfl rfl (g_r52 (f := 23) (T2 := 378) hg rfl (by decide)).1 ?_
        refine y_same (i := .iload_n 1) (len := 1) (r := (0, 0, 0, 0)) (pc' := 14) (ls' := [some (.inl (some 52)), some (zi xi), l2, l3, l4, l5, l6, l7]) (st' := [zi xi, .inl (some 378)]) (by decide +kernel) (fun k q => by cases q) rfl ?_
        refine y_ic (c := 0) (len := 1) (r := (0, 0, 0, 0)) (by decide +kernel) (by decide) (fun y3337 hy3337 => ?_)
        refine y_ias (i := i) (len := 1) (r := (0, 0, 0, 0)) (by decide +kernel) hg (tu378 hg) at378 rfl (by omega) (by omega) (srA (by omega)) (by omega) (by omega) (fun h3338 hg3338 hl3338 hs3338 ho3338 => ?_)
        refine y_inc (j := 1) (a := xi) (c := 1) (ls' := fun v => [some (.inl (some 52)), some v, l2, l3, l4, l5, l6, l7]) (len := 3) (r := (0, 0, 0, 0)) (by decide +kernel) rfl (fun _ => rfl) (by decide) (by omega) (by omega) (fun y3339 hy3339 => ?_)
        show qX (d + 3) 225 19 [some (.inl (some 52)), some (zi y3339), l2, l3, l4, l5, l6, l7] [] h3338 t _
        refine y_goto (off := (-17)) (pc' := 2) (len := 3) (r := (0, 0, 0, 0)) (by decide +kernel) (by decide +kernel) ?_
        refine ih h3338 (i + 1) y3339 hg3338 (fun j hj => ?_) (fun k j hk => (ho3338 k j (by omega)).trans (F0 k j hk)) (by omega) (by omega) (by omega)
        rcases Nat.lt_or_ge j i with q9 | q9
        · exact kx_up (c1 j q9) (ho3338 378 j (by omega))
        · obtain rfl : j = i := by omega
          exact ⟨_, hs3338, by omega⟩
      ·
        refine y_same (i := .iload_n 1) (len := 1) (r := (0, 0, 0, 0)) (pc' := 3) (ls' := [some (.inl (some 52)), some (zi xi), l2, l3, l4, l5, l6, l7]) (st' := [zi xi]) (by decide +kernel) (fun k q => by cases q) rfl ?_
        refine y_si (c := 200) (len := 3) (r := (0, 0, 0, 0)) (by decide +kernel) (by decide) (fun y3340 hy3340 => ?_)
        refine y_cF (c := .ge) (off := 16) (len := 3) (r := (0, 0, 0, 0)) (by decide +kernel) (acmpF (c := .ge) (by show _ < _; omega)) ?_
        refine y_same (i := .aload_n 0) (len := 1) (r := (0, 0, 0, 0)) (pc' := 10) (ls' := [some (.inl (some 52)), some (zi xi), l2, l3, l4, l5, l6, l7]) (st' := [.inl (some 52)]) (by decide +kernel) (fun k q => by cases q) rfl ?_
        refine y_get (j := 61) (len := 3) (r := (12, 23, 2, 1351)) (by decide +kernel) hg (t52 hg) at52 rfl rfl (g_r52 (f := 23) (T2 := 378) hg rfl (by decide)).1 ?_
        refine y_same (i := .iload_n 1) (len := 1) (r := (0, 0, 0, 0)) (pc' := 14) (ls' := [some (.inl (some 52)), some (zi xi), l2, l3, l4, l5, l6, l7]) (st' := [zi xi, .inl (some 378)]) (by decide +kernel) (fun k q => by cases q) rfl ?_
        refine y_ic (c := 0) (len := 1) (r := (0, 0, 0, 0)) (by decide +kernel) (by decide) (fun y3341 hy3341 => ?_)
        refine y_ias (i := i) (len := 1) (r := (0, 0, 0, 0)) (by decide +kernel) hg (tu378 hg) at378 rfl (by omega) (by omega) (srB (by omega) (by omega)) (qin_full _).1 (qin_full _).2 (fun h3342 hg3342 hl3342 hs3342 ho3342 => ?_)
        refine y_inc (j := 1) (a := xi) (c := 1) (ls' := fun v => [some (.inl (some 52)), some v, l2, l3, l4, l5, l6, l7]) (len := 3) (r := (0, 0, 0, 0)) (by decide +kernel) rfl (fun _ => rfl) (by decide) (by omega) (by omega) (fun y3343 hy3343 => ?_)
        show qX (d + 3) 225 19 [some (.inl (some 52)), some (zi y3343), l2, l3, l4, l5, l6, l7] [] h3342 t _
        refine y_goto (off := (-17)) (pc' := 2) (len := 3) (r := (0, 0, 0, 0)) (by decide +kernel) (by decide +kernel) ?_
        refine ih h3342 (i + 1) y3343 hg3342 (fun j hj => ?_) (fun k j hk => (ho3342 k j (by omega)).trans (F0 k j hk)) (by omega) (by omega) (by omega)
        rcases Nat.lt_or_ge j i with q9 | q9
        · exact kx_up (c1 j q9) (ho3342 378 j (by omega))
        · obtain rfl : j = i := by omega
          exact ⟨_, hs3342, by omega⟩
      ·
        refine y_same (i := .iload_n 1) (len := 1) (r := (0, 0, 0, 0)) (pc' := 3) (ls' := [some (.inl (some 52)), some (zi xi), l2, l3, l4, l5, l6, l7]) (st' := [zi xi]) (by decide +kernel) (fun k q => by cases q) rfl ?_
        refine y_si (c := 200) (len := 3) (r := (0, 0, 0, 0)) (by decide +kernel) (by decide) (fun y3344 hy3344 => ?_)
        refine y_cF (c := .ge) (off := 16) (len := 3) (r := (0, 0, 0, 0)) (by decide +kernel) (acmpF (c := .ge) (by show _ < _; omega)) ?_
        refine y_same (i := .aload_n 0) (len := 1) (r := (0, 0, 0, 0)) (pc' := 10) (ls' := [some (.inl (some 52)), some (zi xi), l2, l3, l4, l5, l6, l7]) (st' := [.inl (some 52)]) (by decide +kernel) (fun k q => by cases q) rfl ?_
        refine y_get (j := 61) (len := 3) (r := (12, 23, 2, 1351)) (by decide +kernel) hg (t52 hg) at52 rfl rfl (g_r52 (f := 23) (T2 := 378) hg rfl (by decide)).1 ?_
        refine y_same (i := .iload_n 1) (len := 1) (r := (0, 0, 0, 0)) (pc' := 14) (ls' := [some (.inl (some 52)), some (zi xi), l2, l3, l4, l5, l6, l7]) (st' := [zi xi, .inl (some 378)]) (by decide +kernel) (fun k q => by cases q) rfl ?_
        refine y_ic (c := 0) (len := 1) (r := (0, 0, 0, 0)) (by decide +kernel) (by decide) (fun y3345 hy3345 => ?_)
        refine y_ias (i := i) (len := 1) (r := (0, 0, 0, 0)) (by decide +kernel) hg (tu378 hg) at378 rfl (by omega) (by omega) (srC (by omega) (by omega)) (by omega) (by omega) (fun h3346 hg3346 hl3346 hs3346 ho3346 => ?_)
        refine y_inc (j := 1) (a := xi) (c := 1) (ls' := fun v => [some (.inl (some 52)), some v, l2, l3, l4, l5, l6, l7]) (len := 3) (r := (0, 0, 0, 0)) (by decide +kernel) rfl (fun _ => rfl) (by decide) (by omega) (by omega) (fun y3347 hy3347 => ?_)
        show qX (d + 3) 225 19 [some (.inl (some 52)), some (zi y3347), l2, l3, l4, l5, l6, l7] [] h3346 t _
        refine y_goto (off := (-17)) (pc' := 2) (len := 3) (r := (0, 0, 0, 0)) (by decide +kernel) (by decide +kernel) ?_
        refine ih h3346 (i + 1) y3347 hg3346 (fun j hj => ?_) (fun k j hk => (ho3346 k j (by omega)).trans (F0 k j hk)) (by omega) (by omega) (by omega)
        rcases Nat.lt_or_ge j i with q9 | q9
        · exact kx_up (c1 j q9) (ho3346 378 j (by omega))
        · obtain rfl : j = i := by omega
          exact ⟨_, hs3346, by omega⟩
    ·
      refine y_same (i := .iload_n 1) (len := 1) (r := (0, 0, 0, 0)) (pc' := 3) (ls' := [some (.inl (some 52)), some (zi xi), l2, l3, l4, l5, l6, l7]) (st' := [zi xi]) (by decide +kernel) (fun k q => by cases q) rfl ?_
      refine y_si (c := 200) (len := 3) (r := (0, 0, 0, 0)) (by decide +kernel) (by decide) (fun y3349 hy3349 => ?_)
      refine y_cT (c := .ge) (off := 16) (pc' := 22) (len := 3) (r := (0, 0, 0, 0)) (by decide +kernel) (acmpT (c := .ge) (by show _ ≤ _; omega)) (by decide +kernel) ?_
      exact kk h _ hg (fun j hj => c1 j (by omega)) F0
theorem bgm_a {d t : Nat} {τ : List Nat} {h0 : zh} {l : List it4} {l2 : Option zv} {l3 : Option zv} {l4 : Option zv} {l5 : Option zv} {l6 : Option zv} {l7 : Option zv} {xl : Int32} (el : xl.toInt = (l.length : Int)) (ll6 : l.length ≤ 6) (ok : ∀ i ∈ l, okV i) {P : zo × zh × Nat → Prop} (kk : ∀ (h : zh) (xk : Int32), hG τ h → (∀ (j : Nat) (i : it4), l[j]? = some i → qdM h 378 (24 + 4 * j) i) → (∀ k9 j, (k9 ≠ 378 ∨ j < (24 + 4 * 0) ∨ (24 + 4 * l.length) ≤ j) → hsl h k9 j = hsl h0 k9 j) → qX (d + 3) 225 59 [some (.inl (some 52)), some (zi xk), l2, l3, l4, l5, l6, l7] [] h t P) : ∀ (n : Nat) (h : zh) (k : Nat) (xk : Int32), (hG τ h) → (∀ (j : Nat) (i : it4), j < k → l[j]? = some i → qdM h 378 (24 + 4 * j) i) → (∀ k9 j, (k9 ≠ 378 ∨ j < (24 + 4 * 0) ∨ (24 + 4 * l.length) ≤ j) → hsl h k9 j = hsl h0 k9 j) → (hsl h 55 0 = some (zi xl)) → (∀ (j : Nat) (i : it4), l[j]? = some i → qdM h 55 (2 + 4 * j) i) → (xk.toInt = (k : Int)) → (k ≤ l.length) → (l.length < k + n) → qX (d + 3) 225 24 [some (.inl (some 52)), some (zi xk), l2, l3, l4, l5, l6, l7] [] h t P := by
  intro n
  induction n with
  | zero =>
    intro h k xk hg c1 F0 hl it hxk hk hn
    exfalso
    omega
  | succ n ih =>
    intro h k xk hg c1 F0 hl it hxk hk hn
    skip
    refine y_same (i := .iload_n 1) (len := 1) (r := (0, 0, 0, 0)) (pc' := 25) (ls' := [some (.inl (some 52)), some (zi xk), l2, l3, l4, l5, l6, l7]) (st' := [zi xk]) (by decide +kernel) (fun k q => by cases q) rfl ?_
    refine y_same (i := .aload_n 0) (len := 1) (r := (0, 0, 0, 0)) (pc' := 26) (ls' := [some (.inl (some 52)), some (zi xk), l2, l3, l4, l5, l6, l7]) (st' := [.inl (some 52), zi xk]) (by decide +kernel) (fun k q => by cases q) rfl ?_
    refine y_get (j := 20) (len := 3) (r := (12, 9, 2, 1337)) (by decide +kernel) hg (t52 hg) at52 rfl rfl (g_r52 (f := 9) (T2 := 55) hg rfl (by decide)).1 ?_
    refine y_ic (c := 0) (len := 1) (r := (0, 0, 0, 0)) (by decide +kernel) (by decide) (fun y3350 hy3350 => ?_)
    refine y_cI (i := .invokestatic 143) (len := 3) (r := (1, 166, 12, 1543)) (nL := 2) (k := 1) (n := 2) (hs := []) (args := [.inl (some 55), zi y3350]) (rest := [zi xk]) (l0 := [some (.inl (some 55)), some (zi y3350)]) (by decide +kernel) (Or.inl ⟨_, rfl⟩) rfl rfl rfl rfl (Nat.le_of_ble_eq_true rfl) rfl rfl (qI_le (by omega) (m_parts (d := 0) (s := 0) hg (by omega) (by omega) hl)) (fun y3351 qy3351 hRy3351 => ?_)
    obtain ⟨rfl, rfl⟩ := hRy3351
    rcases Decidable.em (xk.toInt ≥ xl.toInt) with q3352 | q3352
    ·
      refine y_cT (c := .ge) (off := 26) (pc' := 59) (len := 3) (r := (0, 0, 0, 0)) (by decide +kernel) (acmpT (c := .ge) (by show _ ≤ _; omega)) (by decide +kernel) ?_
      exact kk h _ hg (fun j i hi => c1 j i (by have := (List.getElem?_eq_some_iff.mp hi).1; omega) hi) F0
    ·
      refine y_cF (c := .ge) (off := 26) (len := 3) (r := (0, 0, 0, 0)) (by decide +kernel) (acmpF (c := .ge) (by show _ < _; omega)) ?_
      obtain ⟨ik, kik⟩ : ∃ i9, l[k]? = some i9 := ⟨_, List.getElem?_eq_getElem (by omega)⟩
      have okk := ok ik (List.mem_of_getElem? kik)
      have qk := it k ik kik
      refine y_same (i := .aload_n 0) (len := 1) (r := (0, 0, 0, 0)) (pc' := 37) (ls' := [some (.inl (some 52)), some (zi xk), l2, l3, l4, l5, l6, l7]) (st' := [.inl (some 52)]) (by decide +kernel) (fun k q => by cases q) rfl ?_
      refine y_same (i := .aload_n 0) (len := 1) (r := (0, 0, 0, 0)) (pc' := 38) (ls' := [some (.inl (some 52)), some (zi xk), l2, l3, l4, l5, l6, l7]) (st' := [.inl (some 52), .inl (some 52)]) (by decide +kernel) (fun k q => by cases q) rfl ?_
      refine y_get (j := 20) (len := 3) (r := (12, 9, 2, 1337)) (by decide +kernel) hg (t52 hg) at52 rfl rfl (g_r52 (f := 9) (T2 := 55) hg rfl (by decide)).1 ?_
      refine y_ic (c := 0) (len := 1) (r := (0, 0, 0, 0)) (by decide +kernel) (by decide) (fun y3353 hy3353 => ?_)
      refine y_same (i := .iload_n 1) (len := 1) (r := (0, 0, 0, 0)) (pc' := 43) (ls' := [some (.inl (some 52)), some (zi xk), l2, l3, l4, l5, l6, l7]) (st' := [zi xk, zi y3353, .inl (some 55), .inl (some 52)]) (by decide +kernel) (fun k q => by cases q) rfl ?_
      refine y_cI (i := .invokestatic 147) (len := 3) (r := (1, 168, 12, 1546)) (nL := 2) (k := 1) (n := 2) (hs := []) (args := [zi y3353, zi xk]) (rest := [.inl (some 55), .inl (some 52)]) (l0 := [some (zi y3353), some (zi xk)]) (by decide +kernel) (Or.inl ⟨_, rfl⟩) rfl rfl rfl rfl (Nat.le_of_ble_eq_true rfl) rfl rfl (qI_le (by omega) (m_partAt (d := 0) (s := 0) (k := k) (by omega) (by omega) (by omega) (by omega))) (fun y3354 qy3354 hRy3354 => ?_)
      obtain ⟨rfl, hy3354⟩ := hRy3354
      refine y_same (i := .iload_n 1) (len := 1) (r := (0, 0, 0, 0)) (pc' := 47) (ls' := [some (.inl (some 52)), some (zi xk), l2, l3, l4, l5, l6, l7]) (st' := [zi xk, zi y3354, .inl (some 55), .inl (some 52)]) (by decide +kernel) (fun k q => by cases q) rfl ?_
      refine y_cI (i := .invokestatic 249) (len := 3) (r := (1, 197, 12, 1644)) (nL := 1) (k := 1) (n := 1) (hs := []) (args := [zi xk]) (rest := [zi y3354, .inl (some 55), .inl (some 52)]) (l0 := [some (zi xk)]) (by decide +kernel) (Or.inl ⟨_, rfl⟩) rfl rfl rfl rfl (Nat.le_of_ble_eq_true rfl) rfl rfl (qI_le (by omega) (e_leftAt (d := 0) (by omega) (by omega))) (fun y3355 qy3355 hRy3355 => ?_)
      obtain ⟨rfl, hy3355⟩ := hRy3355
      refine y_cV (i := .invokevirtual 326) (len := 3) (r := (0, 226, 12, 1647)) (nL := 4) (k := 0) (n := 4) (hs := []) (args := [.inl (some 52), .inl (some 55), zi y3354, zi y3355]) (rest := []) (l0 := [some (.inl (some 52)), some (.inl (some 55)), some (zi y3354), some (zi y3355)]) (by decide +kernel) (Or.inr (Or.inl ⟨_, rfl⟩)) rfl rfl rfl rfl (Nat.le_of_ble_eq_true rfl) (z52 hg) rfl (qV_le (by omega) (m_c4 (d := 0) (p := (2 + 4 * k)) (q := (24 + 4 * k)) (i := ik) hg (by omega) (by omega) (by omega) (by omega) (by omega) okk (qdM_up qk (fun w hw => rfl)))) (fun h3356 hR3356 => ?_)
      obtain ⟨hg3356, qd, F3356⟩ := hR3356
      refine y_inc (j := 1) (a := xk) (c := 1) (ls' := fun v => [some (.inl (some 52)), some v, l2, l3, l4, l5, l6, l7]) (len := 3) (r := (0, 0, 0, 0)) (by decide +kernel) rfl (fun _ => rfl) (by decide) (by omega) (by omega) (fun y3357 hy3357 => ?_)
      show qX (d + 3) 225 56 [some (.inl (some 52)), some (zi y3357), l2, l3, l4, l5, l6, l7] [] h3356 t _
      refine y_goto (off := (-32)) (pc' := 24) (len := 3) (r := (0, 0, 0, 0)) (by decide +kernel) (by decide +kernel) ?_
      have c1n : ∀ (j : Nat) (i : it4), j < k + 1 → l[j]? = some i → qdM h3356 378 (24 + 4 * j) i := fun j i hj hi => by
        rcases Nat.lt_or_ge j k with q9 | q9
        · exact qdM_up (c1 j i q9 hi) (fun w hw => (F3356 378 ((24 + 4 * j) + w) (by omega)))
        · obtain rfl : j = k := by omega
          cases kik.symm.trans hi
          exact qd
      exact ih h3356 (k + 1) y3357 hg3356 c1n (fun k9 j hC => ((F3356 k9 j (by omega))).trans (F0 k9 j hC)) ((F3356 55 0 (by omega)).trans hl) (fun j i hi => qdM_up (it j i hi) (fun w hw => (F3356 55 (2 + 4 * j + w) (by omega)))) (by omega) (by omega) (by omega)
theorem bgm_b {d t : Nat} {τ : List Nat} {h0 : zh} {l : List it4} {l2 : Option zv} {l3 : Option zv} {l4 : Option zv} {l5 : Option zv} {l6 : Option zv} {l7 : Option zv} {xl : Int32} (el : xl.toInt = (l.length : Int)) (ll6 : l.length ≤ 6) (ok : ∀ i ∈ l, okV i) {P : zo × zh × Nat → Prop} (kk : ∀ (h : zh) (xk : Int32), hG τ h → (∀ (j : Nat) (i : it4), l[j]? = some i → qdM h 378 (80 + 4 * j) i) → (∀ k9 j, (k9 ≠ 378 ∨ j < (80 + 4 * 0) ∨ (80 + 4 * l.length) ≤ j) → hsl h k9 j = hsl h0 k9 j) → qX (d + 3) 225 96 [some (.inl (some 52)), some (zi xk), l2, l3, l4, l5, l6, l7] [] h t P) : ∀ (n : Nat) (h : zh) (k : Nat) (xk : Int32), (hG τ h) → (∀ (j : Nat) (i : it4), j < k → l[j]? = some i → qdM h 378 (80 + 4 * j) i) → (∀ k9 j, (k9 ≠ 378 ∨ j < (80 + 4 * 0) ∨ (80 + 4 * l.length) ≤ j) → hsl h k9 j = hsl h0 k9 j) → (hsl h 55 46 = some (zi xl)) → (∀ (j : Nat) (i : it4), l[j]? = some i → qdM h 55 (48 + 4 * j) i) → (xk.toInt = (k : Int)) → (k ≤ l.length) → (l.length < k + n) → qX (d + 3) 225 61 [some (.inl (some 52)), some (zi xk), l2, l3, l4, l5, l6, l7] [] h t P := by
  intro n
  induction n with
  | zero =>
    intro h k xk hg c1 F0 hl it hxk hk hn
    exfalso
    omega
  | succ n ih =>
    intro h k xk hg c1 F0 hl it hxk hk hn
    skip
    refine y_same (i := .iload_n 1) (len := 1) (r := (0, 0, 0, 0)) (pc' := 62) (ls' := [some (.inl (some 52)), some (zi xk), l2, l3, l4, l5, l6, l7]) (st' := [zi xk]) (by decide +kernel) (fun k q => by cases q) rfl ?_
    refine y_same (i := .aload_n 0) (len := 1) (r := (0, 0, 0, 0)) (pc' := 63) (ls' := [some (.inl (some 52)), some (zi xk), l2, l3, l4, l5, l6, l7]) (st' := [.inl (some 52), zi xk]) (by decide +kernel) (fun k q => by cases q) rfl ?_
    refine y_get (j := 20) (len := 3) (r := (12, 9, 2, 1337)) (by decide +kernel) hg (t52 hg) at52 rfl rfl (g_r52 (f := 9) (T2 := 55) hg rfl (by decide)).1 ?_
    refine y_ic (c := 1) (len := 1) (r := (0, 0, 0, 0)) (by decide +kernel) (by decide) (fun y3358 hy3358 => ?_)
    refine y_cI (i := .invokestatic 143) (len := 3) (r := (1, 166, 12, 1543)) (nL := 2) (k := 1) (n := 2) (hs := []) (args := [.inl (some 55), zi y3358]) (rest := [zi xk]) (l0 := [some (.inl (some 55)), some (zi y3358)]) (by decide +kernel) (Or.inl ⟨_, rfl⟩) rfl rfl rfl rfl (Nat.le_of_ble_eq_true rfl) rfl rfl (qI_le (by omega) (m_parts (d := 0) (s := 1) hg (by omega) (by omega) hl)) (fun y3359 qy3359 hRy3359 => ?_)
    obtain ⟨rfl, rfl⟩ := hRy3359
    rcases Decidable.em (xk.toInt ≥ xl.toInt) with q3360 | q3360
    ·
      refine y_cT (c := .ge) (off := 26) (pc' := 96) (len := 3) (r := (0, 0, 0, 0)) (by decide +kernel) (acmpT (c := .ge) (by show _ ≤ _; omega)) (by decide +kernel) ?_
      exact kk h _ hg (fun j i hi => c1 j i (by have := (List.getElem?_eq_some_iff.mp hi).1; omega) hi) F0
    ·
      refine y_cF (c := .ge) (off := 26) (len := 3) (r := (0, 0, 0, 0)) (by decide +kernel) (acmpF (c := .ge) (by show _ < _; omega)) ?_
      obtain ⟨ik, kik⟩ : ∃ i9, l[k]? = some i9 := ⟨_, List.getElem?_eq_getElem (by omega)⟩
      have okk := ok ik (List.mem_of_getElem? kik)
      have qk := it k ik kik
      refine y_same (i := .aload_n 0) (len := 1) (r := (0, 0, 0, 0)) (pc' := 74) (ls' := [some (.inl (some 52)), some (zi xk), l2, l3, l4, l5, l6, l7]) (st' := [.inl (some 52)]) (by decide +kernel) (fun k q => by cases q) rfl ?_
      refine y_same (i := .aload_n 0) (len := 1) (r := (0, 0, 0, 0)) (pc' := 75) (ls' := [some (.inl (some 52)), some (zi xk), l2, l3, l4, l5, l6, l7]) (st' := [.inl (some 52), .inl (some 52)]) (by decide +kernel) (fun k q => by cases q) rfl ?_
      refine y_get (j := 20) (len := 3) (r := (12, 9, 2, 1337)) (by decide +kernel) hg (t52 hg) at52 rfl rfl (g_r52 (f := 9) (T2 := 55) hg rfl (by decide)).1 ?_
      refine y_ic (c := 1) (len := 1) (r := (0, 0, 0, 0)) (by decide +kernel) (by decide) (fun y3361 hy3361 => ?_)
      refine y_same (i := .iload_n 1) (len := 1) (r := (0, 0, 0, 0)) (pc' := 80) (ls' := [some (.inl (some 52)), some (zi xk), l2, l3, l4, l5, l6, l7]) (st' := [zi xk, zi y3361, .inl (some 55), .inl (some 52)]) (by decide +kernel) (fun k q => by cases q) rfl ?_
      refine y_cI (i := .invokestatic 147) (len := 3) (r := (1, 168, 12, 1546)) (nL := 2) (k := 1) (n := 2) (hs := []) (args := [zi y3361, zi xk]) (rest := [.inl (some 55), .inl (some 52)]) (l0 := [some (zi y3361), some (zi xk)]) (by decide +kernel) (Or.inl ⟨_, rfl⟩) rfl rfl rfl rfl (Nat.le_of_ble_eq_true rfl) rfl rfl (qI_le (by omega) (m_partAt (d := 0) (s := 1) (k := k) (by omega) (by omega) (by omega) (by omega))) (fun y3362 qy3362 hRy3362 => ?_)
      obtain ⟨rfl, hy3362⟩ := hRy3362
      refine y_same (i := .iload_n 1) (len := 1) (r := (0, 0, 0, 0)) (pc' := 84) (ls' := [some (.inl (some 52)), some (zi xk), l2, l3, l4, l5, l6, l7]) (st' := [zi xk, zi y3362, .inl (some 55), .inl (some 52)]) (by decide +kernel) (fun k q => by cases q) rfl ?_
      refine y_cI (i := .invokestatic 256) (len := 3) (r := (1, 198, 12, 1651)) (nL := 1) (k := 1) (n := 1) (hs := []) (args := [zi xk]) (rest := [zi y3362, .inl (some 55), .inl (some 52)]) (l0 := [some (zi xk)]) (by decide +kernel) (Or.inl ⟨_, rfl⟩) rfl rfl rfl rfl (Nat.le_of_ble_eq_true rfl) rfl rfl (qI_le (by omega) (e_rightAt (d := 0) (by omega) (by omega))) (fun y3363 qy3363 hRy3363 => ?_)
      obtain ⟨rfl, hy3363⟩ := hRy3363
      refine y_cV (i := .invokevirtual 326) (len := 3) (r := (0, 226, 12, 1647)) (nL := 4) (k := 0) (n := 4) (hs := []) (args := [.inl (some 52), .inl (some 55), zi y3362, zi y3363]) (rest := []) (l0 := [some (.inl (some 52)), some (.inl (some 55)), some (zi y3362), some (zi y3363)]) (by decide +kernel) (Or.inr (Or.inl ⟨_, rfl⟩)) rfl rfl rfl rfl (Nat.le_of_ble_eq_true rfl) (z52 hg) rfl (qV_le (by omega) (m_c4 (d := 0) (p := (48 + 4 * k)) (q := (80 + 4 * k)) (i := ik) hg (by omega) (by omega) (by omega) (by omega) (by omega) okk (qdM_up qk (fun w hw => rfl)))) (fun h3364 hR3364 => ?_)
      obtain ⟨hg3364, qd, F3364⟩ := hR3364
      refine y_inc (j := 1) (a := xk) (c := 1) (ls' := fun v => [some (.inl (some 52)), some v, l2, l3, l4, l5, l6, l7]) (len := 3) (r := (0, 0, 0, 0)) (by decide +kernel) rfl (fun _ => rfl) (by decide) (by omega) (by omega) (fun y3365 hy3365 => ?_)
      show qX (d + 3) 225 93 [some (.inl (some 52)), some (zi y3365), l2, l3, l4, l5, l6, l7] [] h3364 t _
      refine y_goto (off := (-32)) (pc' := 61) (len := 3) (r := (0, 0, 0, 0)) (by decide +kernel) (by decide +kernel) ?_
      have c1n : ∀ (j : Nat) (i : it4), j < k + 1 → l[j]? = some i → qdM h3364 378 (80 + 4 * j) i := fun j i hj hi => by
        rcases Nat.lt_or_ge j k with q9 | q9
        · exact qdM_up (c1 j i q9 hi) (fun w hw => (F3364 378 ((80 + 4 * j) + w) (by omega)))
        · obtain rfl : j = k := by omega
          cases kik.symm.trans hi
          exact qd
      exact ih h3364 (k + 1) y3365 hg3364 c1n (fun k9 j hC => ((F3364 k9 j (by omega))).trans (F0 k9 j hC)) ((F3364 55 46 (by omega)).trans hl) (fun j i hi => qdM_up (it j i hi) (fun w hw => (F3364 55 (48 + 4 * j + w) (by omega)))) (by omega) (by omega) (by omega)
theorem bgm_c {d t all : Nat} {τ : List Nat} {h0 : zh} {l : List it4} {l4 : Option zv} {l5 : Option zv} {l6 : Option zv} {l7 : Option zv} {xo xa : Int32} (exo : xo.toInt = (l.length : Int)) (ll6 : l.length ≤ 6) (ok : ∀ i ∈ l, okV i) {P : zo × zh × Nat → Prop} (kk : ∀ (h : zh) (xk : Int32), hG τ h → (∀ (j : Nat) (i : it4), l[j]? = some i → qdM h 378 (136 + 4 * j) i) → (∀ k9 j, (k9 ≠ 378 ∨ j < (136 + 4 * 0) ∨ (136 + 4 * l.length) ≤ j) → hsl h k9 j = hsl h0 k9 j) → qX (d + 3) 225 172 [some (.inl (some 52)), some (zi xo), some (zi xa), some (zi xk), l4, l5, l6, l7] [] h t P) : ∀ (n : Nat) (h : zh) (k : Nat) (xk : Int32), (hG τ h) → (∀ (j : Nat) (i : it4), j < k → l[j]? = some i → qdM h 378 (136 + 4 * j) i) → (∀ k9 j, (k9 ≠ 378 ∨ j < (136 + 4 * 0) ∨ (136 + 4 * l.length) ≤ j) → hsl h k9 j = hsl h0 k9 j) → (∀ (j : Nat) (i : it4), l[j]? = some i → qdM h 55 (68 + 4 * j) i) → (xk.toInt = (k : Int)) → (k ≤ l.length) → (l.length < k + n) → qX (d + 3) 225 144 [some (.inl (some 52)), some (zi xo), some (zi xa), some (zi xk), l4, l5, l6, l7] [] h t P := by
  intro n
  induction n with
  | zero =>
    intro h k xk hg c1 F0 it hxk hk hn
    exfalso
    omega
  | succ n ih =>
    intro h k xk hg c1 F0 it hxk hk hn
    skip
    refine y_same (i := .iload_n 3) (len := 1) (r := (0, 0, 0, 0)) (pc' := 145) (ls' := [some (.inl (some 52)), some (zi xo), some (zi xa), some (zi xk), l4, l5, l6, l7]) (st' := [zi xk]) (by decide +kernel) (fun k q => by cases q) rfl ?_
    refine y_same (i := .iload_n 1) (len := 1) (r := (0, 0, 0, 0)) (pc' := 146) (ls' := [some (.inl (some 52)), some (zi xo), some (zi xa), some (zi xk), l4, l5, l6, l7]) (st' := [zi xo, zi xk]) (by decide +kernel) (fun k q => by cases q) rfl ?_
    rcases Decidable.em (xk.toInt ≥ xo.toInt) with q3366 | q3366
    ·
      refine y_cT (c := .ge) (off := 26) (pc' := 172) (len := 3) (r := (0, 0, 0, 0)) (by decide +kernel) (acmpT (c := .ge) (by show _ ≤ _; omega)) (by decide +kernel) ?_
      exact kk h _ hg (fun j i hi => c1 j i (by have := (List.getElem?_eq_some_iff.mp hi).1; omega) hi) F0
    ·
      refine y_cF (c := .ge) (off := 26) (len := 3) (r := (0, 0, 0, 0)) (by decide +kernel) (acmpF (c := .ge) (by show _ < _; omega)) ?_
      obtain ⟨ik, kik⟩ : ∃ i9, l[k]? = some i9 := ⟨_, List.getElem?_eq_getElem (by omega)⟩
      have okk := ok ik (List.mem_of_getElem? kik)
      have qk := it k ik kik
      refine y_same (i := .aload_n 0) (len := 1) (r := (0, 0, 0, 0)) (pc' := 150) (ls' := [some (.inl (some 52)), some (zi xo), some (zi xa), some (zi xk), l4, l5, l6, l7]) (st' := [.inl (some 52)]) (by decide +kernel) (fun k q => by cases q) rfl ?_
      refine y_same (i := .aload_n 0) (len := 1) (r := (0, 0, 0, 0)) (pc' := 151) (ls' := [some (.inl (some 52)), some (zi xo), some (zi xa), some (zi xk), l4, l5, l6, l7]) (st' := [.inl (some 52), .inl (some 52)]) (by decide +kernel) (fun k q => by cases q) rfl ?_
      refine y_get (j := 20) (len := 3) (r := (12, 9, 2, 1337)) (by decide +kernel) hg (t52 hg) at52 rfl rfl (g_r52 (f := 9) (T2 := 55) hg rfl (by decide)).1 ?_
      refine y_ic (c := 1) (len := 1) (r := (0, 0, 0, 0)) (by decide +kernel) (by decide) (fun y3367 hy3367 => ?_)
      refine y_same (i := .iload_n 3) (len := 1) (r := (0, 0, 0, 0)) (pc' := 156) (ls' := [some (.inl (some 52)), some (zi xo), some (zi xa), some (zi xk), l4, l5, l6, l7]) (st' := [zi xk, zi y3367, .inl (some 55), .inl (some 52)]) (by decide +kernel) (fun k q => by cases q) rfl ?_
      refine y_cI (i := .invokestatic 158) (len := 3) (r := (1, 169, 12, 1563)) (nL := 2) (k := 1) (n := 2) (hs := []) (args := [zi y3367, zi xk]) (rest := [.inl (some 55), .inl (some 52)]) (l0 := [some (zi y3367), some (zi xk)]) (by decide +kernel) (Or.inl ⟨_, rfl⟩) rfl rfl rfl rfl (Nat.le_of_ble_eq_true rfl) rfl rfl (qI_le (by omega) (m_claimAt (d := 0) (s := 1) (k := k) (by omega) (by omega) (by omega) (by omega))) (fun y3368 qy3368 hRy3368 => ?_)
      obtain ⟨rfl, hy3368⟩ := hRy3368
      refine y_same (i := .iload_n 3) (len := 1) (r := (0, 0, 0, 0)) (pc' := 160) (ls' := [some (.inl (some 52)), some (zi xo), some (zi xa), some (zi xk), l4, l5, l6, l7]) (st' := [zi xk, zi y3368, .inl (some 55), .inl (some 52)]) (by decide +kernel) (fun k q => by cases q) rfl ?_
      refine y_cI (i := .invokestatic 259) (len := 3) (r := (1, 199, 12, 1654)) (nL := 1) (k := 1) (n := 1) (hs := []) (args := [zi xk]) (rest := [zi y3368, .inl (some 55), .inl (some 52)]) (l0 := [some (zi xk)]) (by decide +kernel) (Or.inl ⟨_, rfl⟩) rfl rfl rfl rfl (Nat.le_of_ble_eq_true rfl) rfl rfl (qI_le (by omega) (e_claimIn (d := 0) (by omega) (by omega))) (fun y3369 qy3369 hRy3369 => ?_)
      obtain ⟨rfl, hy3369⟩ := hRy3369
      refine y_cV (i := .invokevirtual 326) (len := 3) (r := (0, 226, 12, 1647)) (nL := 4) (k := 0) (n := 4) (hs := []) (args := [.inl (some 52), .inl (some 55), zi y3368, zi y3369]) (rest := []) (l0 := [some (.inl (some 52)), some (.inl (some 55)), some (zi y3368), some (zi y3369)]) (by decide +kernel) (Or.inr (Or.inl ⟨_, rfl⟩)) rfl rfl rfl rfl (Nat.le_of_ble_eq_true rfl) (z52 hg) rfl (qV_le (by omega) (m_c4 (d := 0) (p := (68 + 4 * k)) (q := (136 + 4 * k)) (i := ik) hg (by omega) (by omega) (by omega) (by omega) (by omega) okk (qdM_up qk (fun w hw => rfl)))) (fun h3370 hR3370 => ?_)
      obtain ⟨hg3370, qd, F3370⟩ := hR3370
      refine y_inc (j := 3) (a := xk) (c := 1) (ls' := fun v => [some (.inl (some 52)), some (zi xo), some (zi xa), some v, l4, l5, l6, l7]) (len := 3) (r := (0, 0, 0, 0)) (by decide +kernel) rfl (fun _ => rfl) (by decide) (by omega) (by omega) (fun y3371 hy3371 => ?_)
      show qX (d + 3) 225 169 [some (.inl (some 52)), some (zi xo), some (zi xa), some (zi y3371), l4, l5, l6, l7] [] h3370 t _
      refine y_goto (off := (-25)) (pc' := 144) (len := 3) (r := (0, 0, 0, 0)) (by decide +kernel) (by decide +kernel) ?_
      have c1n : ∀ (j : Nat) (i : it4), j < k + 1 → l[j]? = some i → qdM h3370 378 (136 + 4 * j) i := fun j i hj hi => by
        rcases Nat.lt_or_ge j k with q9 | q9
        · exact qdM_up (c1 j i q9 hi) (fun w hw => (F3370 378 ((136 + 4 * j) + w) (by omega)))
        · obtain rfl : j = k := by omega
          cases kik.symm.trans hi
          exact qd
      exact ih h3370 (k + 1) y3371 hg3370 c1n (fun k9 j hC => ((F3370 k9 j (by omega))).trans (F0 k9 j hC)) (fun j i hi => qdM_up (it j i hi) (fun w hw => (F3370 55 (68 + 4 * j + w) (by omega)))) (by omega) (by omega) (by omega)
theorem bgm_d {d t own : Nat} {τ : List Nat} {h0 : zh} {l : List it4} {l4 : Option zv} {l5 : Option zv} {l6 : Option zv} {l7 : Option zv} {xo xa : Int32} (exo : xo.toInt = (own : Int)) (ho : own ≤ 6) (exa : xa.toInt = (l.length : Int)) (ll6 : l.length ≤ 6) (ok : ∀ i ∈ l, okV i) {P : zo × zh × Nat → Prop} (kk : ∀ (h : zh) (xk : Int32), hG τ h → (∀ (j : Nat) (i : it4), l[j]? = some i → qdM h 378 (136 + 4 * (own + j)) i) → (∀ k9 j, (k9 ≠ 378 ∨ j < (136 + 4 * (own + 0)) ∨ (136 + 4 * (own + l.length)) ≤ j) → hsl h k9 j = hsl h0 k9 j) → qX (d + 3) 225 204 [some (.inl (some 52)), some (zi xo), some (zi xa), some (zi xk), l4, l5, l6, l7] [] h t P) : ∀ (n : Nat) (h : zh) (k : Nat) (xk : Int32), (hG τ h) → (∀ (j : Nat) (i : it4), j < k → l[j]? = some i → qdM h 378 (136 + 4 * (own + j)) i) → (∀ k9 j, (k9 ≠ 378 ∨ j < (136 + 4 * (own + 0)) ∨ (136 + 4 * (own + l.length)) ≤ j) → hsl h k9 j = hsl h0 k9 j) → (∀ (j : Nat) (i : it4), l[j]? = some i → qdM h 55 (22 + 4 * j) i) → (xk.toInt = (k : Int)) → (k ≤ l.length) → (l.length < k + n) → qX (d + 3) 225 174 [some (.inl (some 52)), some (zi xo), some (zi xa), some (zi xk), l4, l5, l6, l7] [] h t P := by
  intro n
  induction n with
  | zero =>
    intro h k xk hg c1 F0 it hxk hk hn
    exfalso
    omega
  | succ n ih =>
    intro h k xk hg c1 F0 it hxk hk hn
    skip
    refine y_same (i := .iload_n 3) (len := 1) (r := (0, 0, 0, 0)) (pc' := 175) (ls' := [some (.inl (some 52)), some (zi xo), some (zi xa), some (zi xk), l4, l5, l6, l7]) (st' := [zi xk]) (by decide +kernel) (fun k q => by cases q) rfl ?_
    refine y_same (i := .iload_n 2) (len := 1) (r := (0, 0, 0, 0)) (pc' := 176) (ls' := [some (.inl (some 52)), some (zi xo), some (zi xa), some (zi xk), l4, l5, l6, l7]) (st' := [zi xa, zi xk]) (by decide +kernel) (fun k q => by cases q) rfl ?_
    rcases Decidable.em (xk.toInt ≥ xa.toInt) with q3372 | q3372
    ·
      refine y_cT (c := .ge) (off := 28) (pc' := 204) (len := 3) (r := (0, 0, 0, 0)) (by decide +kernel) (acmpT (c := .ge) (by show _ ≤ _; omega)) (by decide +kernel) ?_
      exact kk h _ hg (fun j i hi => c1 j i (by have := (List.getElem?_eq_some_iff.mp hi).1; omega) hi) F0
    ·
      refine y_cF (c := .ge) (off := 28) (len := 3) (r := (0, 0, 0, 0)) (by decide +kernel) (acmpF (c := .ge) (by show _ < _; omega)) ?_
      obtain ⟨ik, kik⟩ : ∃ i9, l[k]? = some i9 := ⟨_, List.getElem?_eq_getElem (by omega)⟩
      have okk := ok ik (List.mem_of_getElem? kik)
      have qk := it k ik kik
      refine y_same (i := .aload_n 0) (len := 1) (r := (0, 0, 0, 0)) (pc' := 180) (ls' := [some (.inl (some 52)), some (zi xo), some (zi xa), some (zi xk), l4, l5, l6, l7]) (st' := [.inl (some 52)]) (by decide +kernel) (fun k q => by cases q) rfl ?_
      refine y_same (i := .aload_n 0) (len := 1) (r := (0, 0, 0, 0)) (pc' := 181) (ls' := [some (.inl (some 52)), some (zi xo), some (zi xa), some (zi xk), l4, l5, l6, l7]) (st' := [.inl (some 52), .inl (some 52)]) (by decide +kernel) (fun k q => by cases q) rfl ?_
      refine y_get (j := 20) (len := 3) (r := (12, 9, 2, 1337)) (by decide +kernel) hg (t52 hg) at52 rfl rfl (g_r52 (f := 9) (T2 := 55) hg rfl (by decide)).1 ?_
      refine y_ic (c := 0) (len := 1) (r := (0, 0, 0, 0)) (by decide +kernel) (by decide) (fun y3373 hy3373 => ?_)
      refine y_same (i := .iload_n 3) (len := 1) (r := (0, 0, 0, 0)) (pc' := 186) (ls' := [some (.inl (some 52)), some (zi xo), some (zi xa), some (zi xk), l4, l5, l6, l7]) (st' := [zi xk, zi y3373, .inl (some 55), .inl (some 52)]) (by decide +kernel) (fun k q => by cases q) rfl ?_
      refine y_cI (i := .invokestatic 158) (len := 3) (r := (1, 169, 12, 1563)) (nL := 2) (k := 1) (n := 2) (hs := []) (args := [zi y3373, zi xk]) (rest := [.inl (some 55), .inl (some 52)]) (l0 := [some (zi y3373), some (zi xk)]) (by decide +kernel) (Or.inl ⟨_, rfl⟩) rfl rfl rfl rfl (Nat.le_of_ble_eq_true rfl) rfl rfl (qI_le (by omega) (m_claimAt (d := 0) (s := 0) (k := k) (by omega) (by omega) (by omega) (by omega))) (fun y3374 qy3374 hRy3374 => ?_)
      obtain ⟨rfl, hy3374⟩ := hRy3374
      refine y_same (i := .iload_n 1) (len := 1) (r := (0, 0, 0, 0)) (pc' := 190) (ls' := [some (.inl (some 52)), some (zi xo), some (zi xa), some (zi xk), l4, l5, l6, l7]) (st' := [zi xo, zi y3374, .inl (some 55), .inl (some 52)]) (by decide +kernel) (fun k q => by cases q) rfl ?_
      refine y_same (i := .iload_n 3) (len := 1) (r := (0, 0, 0, 0)) (pc' := 191) (ls' := [some (.inl (some 52)), some (zi xo), some (zi xa), some (zi xk), l4, l5, l6, l7]) (st' := [zi xk, zi xo, zi y3374, .inl (some 55), .inl (some 52)]) (by decide +kernel) (fun k q => by cases q) rfl ?_
      refine y_add (len := 1) (r := (0, 0, 0, 0)) (by decide +kernel) (by omega) (by omega) (fun y3375 hy3375 => ?_)
      refine y_cI (i := .invokestatic 259) (len := 3) (r := (1, 199, 12, 1654)) (nL := 1) (k := 1) (n := 1) (hs := []) (args := [zi y3375]) (rest := [zi y3374, .inl (some 55), .inl (some 52)]) (l0 := [some (zi y3375)]) (by decide +kernel) (Or.inl ⟨_, rfl⟩) rfl rfl rfl rfl (Nat.le_of_ble_eq_true rfl) rfl rfl (qI_le (by omega) (e_claimIn (d := 0) (by omega) (by omega))) (fun y3376 qy3376 hRy3376 => ?_)
      obtain ⟨rfl, hy3376⟩ := hRy3376
      refine y_cV (i := .invokevirtual 326) (len := 3) (r := (0, 226, 12, 1647)) (nL := 4) (k := 0) (n := 4) (hs := []) (args := [.inl (some 52), .inl (some 55), zi y3374, zi y3376]) (rest := []) (l0 := [some (.inl (some 52)), some (.inl (some 55)), some (zi y3374), some (zi y3376)]) (by decide +kernel) (Or.inr (Or.inl ⟨_, rfl⟩)) rfl rfl rfl rfl (Nat.le_of_ble_eq_true rfl) (z52 hg) rfl (qV_le (by omega) (m_c4 (d := 0) (p := (22 + 4 * k)) (q := (136 + 4 * (own + k))) (i := ik) hg (by omega) (by omega) (by omega) (by omega) (by omega) okk (qdM_up qk (fun w hw => rfl)))) (fun h3377 hR3377 => ?_)
      obtain ⟨hg3377, qd, F3377⟩ := hR3377
      refine y_inc (j := 3) (a := xk) (c := 1) (ls' := fun v => [some (.inl (some 52)), some (zi xo), some (zi xa), some v, l4, l5, l6, l7]) (len := 3) (r := (0, 0, 0, 0)) (by decide +kernel) rfl (fun _ => rfl) (by decide) (by omega) (by omega) (fun y3378 hy3378 => ?_)
      show qX (d + 3) 225 201 [some (.inl (some 52)), some (zi xo), some (zi xa), some (zi y3378), l4, l5, l6, l7] [] h3377 t _
      refine y_goto (off := (-27)) (pc' := 174) (len := 3) (r := (0, 0, 0, 0)) (by decide +kernel) (by decide +kernel) ?_
      have c1n : ∀ (j : Nat) (i : it4), j < k + 1 → l[j]? = some i → qdM h3377 378 (136 + 4 * (own + j)) i := fun j i hj hi => by
        rcases Nat.lt_or_ge j k with q9 | q9
        · exact qdM_up (c1 j i q9 hi) (fun w hw => (F3377 378 ((136 + 4 * (own + j)) + w) (by omega)))
        · obtain rfl : j = k := by omega
          cases kik.symm.trans hi
          exact qd
      exact ih h3377 (k + 1) y3378 hg3377 c1n (fun k9 j hC => ((F3377 k9 j (by omega))).trans (F0 k9 j hC)) (fun j i hi => qdM_up (it j i hi) (fun w hw => (F3377 55 (22 + 4 * j + w) (by omega)))) (by omega) (by omega) (by omega)
theorem bgm_e {d t own all : Nat} {τ : List Nat} {xo xa : Int32} (exo : xo.toInt = (own : Int)) (ho : own ≤ 6) (exa : xa.toInt = (all : Int)) (hall : all ≤ 6) : ∀ (m : Nat) (h : zh) (s : sqT) (k : Nat) (xk : Int32) (l4 l5 l6 l7 : Option zv), QM τ h 378 s → xk.toInt = (k : Int) → k + m = all → s.2.2.1.length = own + m → qX (d + 3) 225 215 [some (.inl (some 52)), some (zi xo), some (zi xa), some (zi xk), l4, l5, l6, l7] [] h t (rV (fun h1 => QM τ h1 378 (mB_ m own s) ∧ FM 378 h h1) t) := by
  intro m
  induction m with
  | zero =>
    intro h s k xk l4 l5 l6 l7 Q hxk hk hl
    refine y_same (i := .iload_n 3) (len := 1) (r := (0, 0, 0, 0)) (pc' := 216) (ls' := [some (.inl (some 52)), some (zi xo), some (zi xa), some (zi xk), l4, l5, l6, l7]) (st' := [zi xk]) (by decide +kernel) (fun k q => by cases q) rfl ?_
    refine y_same (i := .iload_n 2) (len := 1) (r := (0, 0, 0, 0)) (pc' := 217) (ls' := [some (.inl (some 52)), some (zi xo), some (zi xa), some (zi xk), l4, l5, l6, l7]) (st' := [zi xa, zi xk]) (by decide +kernel) (fun k q => by cases q) rfl ?_
    refine y_cT (c := .ge) (off := 89) (pc' := 306) (len := 3) (r := (0, 0, 0, 0)) (by decide +kernel) (acmpT (c := .ge) (by show _ ≤ _; omega)) (by decide +kernel) ?_
    refine y_rV (len := 1) (r := (0, 0, 0, 0)) (nL := 8) (n9 := 1) (hs := []) (by decide +kernel) rfl ?_
    exact ⟨Q, fun k j _ => rfl⟩
  | succ m ih =>
    intro h s k xk l4 l5 l6 l7 Q hxk hk hl
    refine y_same (i := .iload_n 3) (len := 1) (r := (0, 0, 0, 0)) (pc' := 216) (ls' := [some (.inl (some 52)), some (zi xo), some (zi xa), some (zi xk), l4, l5, l6, l7]) (st' := [zi xk]) (by decide +kernel) (fun k q => by cases q) rfl ?_
    refine y_same (i := .iload_n 2) (len := 1) (r := (0, 0, 0, 0)) (pc' := 217) (ls' := [some (.inl (some 52)), some (zi xo), some (zi xa), some (zi xk), l4, l5, l6, l7]) (st' := [zi xa, zi xk]) (by decide +kernel) (fun k q => by cases q) rfl ?_
    refine y_cF (c := .ge) (off := 89) (len := 3) (r := (0, 0, 0, 0)) (by decide +kernel) (acmpF (c := .ge) (by show _ < _; omega)) ?_
    obtain ⟨ic, kic⟩ : ∃ i9, s.2.2.1[own]? = some i9 := ⟨_, List.getElem?_eq_getElem (by have := qm_lenC Q; omega)⟩
    have hx9 := (List.getElem?_eq_some_iff.mp kic).1
    have oic := okQ_C Q.2.2.2 kic
    have pic := oic.1
    unfold okV at pic
    obtain ⟨aic, bic, cic, dic, ⟨haic, hbic, hcic, hdic⟩, eaic, ebic, ecic, edic⟩ := qm_itC Q kic
    refine y_same (i := .iload_n 1) (len := 1) (r := (0, 0, 0, 0)) (pc' := 221) (ls' := [some (.inl (some 52)), some (zi xo), some (zi xa), some (zi xk), l4, l5, l6, l7]) (st' := [zi xo]) (by decide +kernel) (fun k q => by cases q) rfl ?_
    refine y_cI (i := .invokestatic 259) (len := 3) (r := (1, 199, 12, 1654)) (nL := 1) (k := 1) (n := 1) (hs := []) (args := [zi xo]) (rest := []) (l0 := [some (zi xo)]) (by decide +kernel) (Or.inl ⟨_, rfl⟩) rfl rfl rfl rfl (Nat.le_of_ble_eq_true rfl) rfl rfl (qI_le (by omega) (e_claimIn (d := 0) (by omega) (by omega))) (fun y3379 qy3379 hRy3379 => ?_)
    obtain ⟨rfl, hy3379⟩ := hRy3379
    refine y_same (i := .istore 4) (len := 2) (r := (0, 0, 0, 0)) (pc' := 226) (ls' := [some (.inl (some 52)), some (zi xo), some (zi xa), some (zi xk), some (zi y3379), l5, l6, l7]) (st' := []) (by decide +kernel) (fun k q => by cases q) rfl ?_
    refine y_same (i := .aload_n 0) (len := 1) (r := (0, 0, 0, 0)) (pc' := 227) (ls' := [some (.inl (some 52)), some (zi xo), some (zi xa), some (zi xk), some (zi y3379), l5, l6, l7]) (st' := [.inl (some 52)]) (by decide +kernel) (fun k q => by cases q) rfl ?_
    refine y_get (j := 61) (len := 3) (r := (12, 23, 2, 1351)) (by decide +kernel) Q.1 (t52 Q.1) at52 rfl rfl (g_r52 (f := 23) (T2 := 378) Q.1 rfl (by decide)).1 ?_
    refine y_same (i := .iload 4) (len := 2) (r := (0, 0, 0, 0)) (pc' := 232) (ls' := [some (.inl (some 52)), some (zi xo), some (zi xa), some (zi xk), some (zi y3379), l5, l6, l7]) (st' := [zi y3379, .inl (some 378)]) (by decide +kernel) (fun k q => by cases q) rfl ?_
    refine y_ial (i := (136 + 4 * own)) (len := 1) (r := (0, 0, 0, 0)) (by decide +kernel) Q.1 (tu378 Q.1) at378 (by omega) haic ?_
    refine y_same (i := .istore 5) (len := 2) (r := (0, 0, 0, 0)) (pc' := 235) (ls' := [some (.inl (some 52)), some (zi xo), some (zi xa), some (zi xk), some (zi y3379), some (zi aic), l6, l7]) (st' := []) (by decide +kernel) (fun k q => by cases q) rfl ?_
    refine y_same (i := .aload_n 0) (len := 1) (r := (0, 0, 0, 0)) (pc' := 236) (ls' := [some (.inl (some 52)), some (zi xo), some (zi xa), some (zi xk), some (zi y3379), some (zi aic), l6, l7]) (st' := [.inl (some 52)]) (by decide +kernel) (fun k q => by cases q) rfl ?_
    refine y_get (j := 61) (len := 3) (r := (12, 23, 2, 1351)) (by decide +kernel) Q.1 (t52 Q.1) at52 rfl rfl (g_r52 (f := 23) (T2 := 378) Q.1 rfl (by decide)).1 ?_
    refine y_same (i := .iload 4) (len := 2) (r := (0, 0, 0, 0)) (pc' := 241) (ls' := [some (.inl (some 52)), some (zi xo), some (zi xa), some (zi xk), some (zi y3379), some (zi aic), l6, l7]) (st' := [zi y3379, .inl (some 378)]) (by decide +kernel) (fun k q => by cases q) rfl ?_
    refine y_ic (c := 1) (len := 1) (r := (0, 0, 0, 0)) (by decide +kernel) (by decide) (fun y3380 hy3380 => ?_)
    refine y_add (len := 1) (r := (0, 0, 0, 0)) (by decide +kernel) (by omega) (by omega) (fun y3381 hy3381 => ?_)
    refine y_ial (i := ((136 + 4 * own) + 1)) (len := 1) (r := (0, 0, 0, 0)) (by decide +kernel) Q.1 (tu378 Q.1) at378 (by omega) hbic ?_
    refine y_same (i := .istore 6) (len := 2) (r := (0, 0, 0, 0)) (pc' := 246) (ls' := [some (.inl (some 52)), some (zi xo), some (zi xa), some (zi xk), some (zi y3379), some (zi aic), some (zi bic), l7]) (st' := []) (by decide +kernel) (fun k q => by cases q) rfl ?_
    refine y_same (i := .aload_n 0) (len := 1) (r := (0, 0, 0, 0)) (pc' := 247) (ls' := [some (.inl (some 52)), some (zi xo), some (zi xa), some (zi xk), some (zi y3379), some (zi aic), some (zi bic), l7]) (st' := [.inl (some 52)]) (by decide +kernel) (fun k q => by cases q) rfl ?_
    refine y_get (j := 61) (len := 3) (r := (12, 23, 2, 1351)) (by decide +kernel) Q.1 (t52 Q.1) at52 rfl rfl (g_r52 (f := 23) (T2 := 378) Q.1 rfl (by decide)).1 ?_
    refine y_same (i := .iload 4) (len := 2) (r := (0, 0, 0, 0)) (pc' := 252) (ls' := [some (.inl (some 52)), some (zi xo), some (zi xa), some (zi xk), some (zi y3379), some (zi aic), some (zi bic), l7]) (st' := [zi y3379, .inl (some 378)]) (by decide +kernel) (fun k q => by cases q) rfl ?_
    refine y_ic (c := 2) (len := 1) (r := (0, 0, 0, 0)) (by decide +kernel) (by decide) (fun y3382 hy3382 => ?_)
    refine y_add (len := 1) (r := (0, 0, 0, 0)) (by decide +kernel) (by omega) (by omega) (fun y3383 hy3383 => ?_)
    refine y_ial (i := ((136 + 4 * own) + 2)) (len := 1) (r := (0, 0, 0, 0)) (by decide +kernel) Q.1 (tu378 Q.1) at378 (by omega) hcic ?_
    refine y_same (i := .istore 7) (len := 2) (r := (0, 0, 0, 0)) (pc' := 257) (ls' := [some (.inl (some 52)), some (zi xo), some (zi xa), some (zi xk), some (zi y3379), some (zi aic), some (zi bic), some (zi cic)]) (st' := []) (by decide +kernel) (fun k q => by cases q) rfl ?_
    refine y_same (i := .aload_n 0) (len := 1) (r := (0, 0, 0, 0)) (pc' := 258) (ls' := [some (.inl (some 52)), some (zi xo), some (zi xa), some (zi xk), some (zi y3379), some (zi aic), some (zi bic), some (zi cic)]) (st' := [.inl (some 52)]) (by decide +kernel) (fun k q => by cases q) rfl ?_
    refine y_get (j := 61) (len := 3) (r := (12, 23, 2, 1351)) (by decide +kernel) Q.1 (t52 Q.1) at52 rfl rfl (g_r52 (f := 23) (T2 := 378) Q.1 rfl (by decide)).1 ?_
    refine y_ic (c := 2) (len := 1) (r := (0, 0, 0, 0)) (by decide +kernel) (by decide) (fun y3384 hy3384 => ?_)
    refine y_si (c := 136) (len := 3) (r := (0, 0, 0, 0)) (by decide +kernel) (by decide) (fun y3385 hy3385 => ?_)
    refine y_same (i := .iload_n 1) (len := 1) (r := (0, 0, 0, 0)) (pc' := 266) (ls' := [some (.inl (some 52)), some (zi xo), some (zi xa), some (zi xk), some (zi y3379), some (zi aic), some (zi bic), some (zi cic)]) (st' := [zi xo, zi y3385, zi y3384, .inl (some 378)]) (by decide +kernel) (fun k q => by cases q) rfl ?_
    obtain ⟨z3387, hz3387, ez3387⟩ := Q.2.2.1.2.2.1
    have ez3387 : z3387.toInt = ((s.2.2.1.length : Nat) : Int) := ez3387
    have mz3387 := qm_lenC Q
    have mz3387 : s.2.2.1.length ≤ 14 := mz3387
    refine y_cV (i := .invokestatic 269) (len := 3) (r := (1, 207, 12, 1657)) (nL := 5) (k := 0) (n := 4) (hs := []) (args := [.inl (some 378), zi y3384, zi y3385, zi xo]) (rest := []) (l0 := [some (.inl (some 378)), some (zi y3384), some (zi y3385), some (zi xo), none]) (by decide +kernel) (Or.inl ⟨_, rfl⟩) rfl rfl rfl rfl (Nat.le_of_ble_eq_true rfl) rfl rfl (qV_le (by omega) (m_goC (d := 0) (k := own) Q (by omega) (by omega) (by omega) (by omega))) (fun h3386 hR3386 => ?_)
    obtain ⟨Q3386, F3386⟩ := hR3386
    refine y_same (i := .iload 5) (len := 2) (r := (0, 0, 0, 0)) (pc' := 271) (ls' := [some (.inl (some 52)), some (zi xo), some (zi xa), some (zi xk), some (zi y3379), some (zi aic), some (zi bic), some (zi cic)]) (st' := [zi aic]) (by decide +kernel) (fun k q => by cases q) rfl ?_
    refine y_ic (c := 1) (len := 1) (r := (0, 0, 0, 0)) (by decide +kernel) (by decide) (fun y3388 hy3388 => ?_)
    rcases Decidable.em (aic.toInt ≠ y3388.toInt) with q3389 | q3389
    ·
      refine y_cT (c := .ne) (off := 17) (pc' := 289) (len := 3) (r := (0, 0, 0, 0)) (by decide +kernel) (acmpT (c := .ne) (by show ¬ (_ = _); omega)) (by decide +kernel) ?_
      refine y_same (i := .aload_n 0) (len := 1) (r := (0, 0, 0, 0)) (pc' := 290) (ls' := [some (.inl (some 52)), some (zi xo), some (zi xa), some (zi xk), some (zi y3379), some (zi aic), some (zi bic), some (zi cic)]) (st' := [.inl (some 52)]) (by decide +kernel) (fun k q => by cases q) rfl ?_
      refine y_get (j := 61) (len := 3) (r := (12, 23, 2, 1351)) (by decide +kernel) Q3386.1 (t52 Q3386.1) at52 rfl rfl (g_r52 (f := 23) (T2 := 378) Q3386.1 rfl (by decide)).1 ?_
      refine y_same (i := .iload 6) (len := 2) (r := (0, 0, 0, 0)) (pc' := 295) (ls' := [some (.inl (some 52)), some (zi xo), some (zi xa), some (zi xk), some (zi y3379), some (zi aic), some (zi bic), some (zi cic)]) (st' := [zi bic, .inl (some 378)]) (by decide +kernel) (fun k q => by cases q) rfl ?_
      refine y_same (i := .iload 7) (len := 2) (r := (0, 0, 0, 0)) (pc' := 297) (ls' := [some (.inl (some 52)), some (zi xo), some (zi xa), some (zi xk), some (zi y3379), some (zi aic), some (zi bic), some (zi cic)]) (st' := [zi cic, zi bic, .inl (some 378)]) (by decide +kernel) (fun k q => by cases q) rfl ?_
      refine y_cV (i := .invokestatic 266) (len := 3) (r := (1, 201, 12, 1672)) (nL := 3) (k := 0) (n := 3) (hs := []) (args := [.inl (some 378), zi bic, zi cic]) (rest := []) (l0 := [some (.inl (some 378)), some (zi bic), some (zi cic)]) (by decide +kernel) (Or.inl ⟨_, rfl⟩) rfl rfl rfl rfl (Nat.le_of_ble_eq_true rfl) rfl rfl (qV_le (by omega) (m_dfs (d := 0) (x := ic.2.1.toNat) (y := ic.2.2.1.toNat) Q3386 (by omega) (by omega) (by omega) (by omega))) (fun h3390 hR3390 => ?_)
      obtain ⟨Q3390, F3390⟩ := hR3390
      rw [show ((ic.2.1.toNat : Nat) : Int) = ic.2.1 by omega, show ((ic.2.2.1.toNat : Nat) : Int) = ic.2.2.1 by omega] at Q3390
      refine y_inc (j := 3) (a := xk) (c := 1) (ls' := fun v => [some (.inl (some 52)), some (zi xo), some (zi xa), some v, some (zi y3379), some (zi aic), some (zi bic), some (zi cic)]) (len := 3) (r := (0, 0, 0, 0)) (by decide +kernel) rfl (fun _ => rfl) (by decide) (by omega) (by omega) (fun y3391 hy3391 => ?_)
      show qX (d + 3) 225 303 [some (.inl (some 52)), some (zi xo), some (zi xa), some (zi y3391), some (zi y3379), some (zi aic), some (zi bic), some (zi cic)] [] h3390 t _
      refine y_goto (off := (-88)) (pc' := 215) (len := 3) (r := (0, 0, 0, 0)) (by decide +kernel) (by decide +kernel) ?_
      have e9 : mB_ (m + 1) own s = mB_ m own ((s.1, s.2.1, s.2.2.1.eraseIdx own, dAdd s.2.2.2 ic.2.1 ic.2.2.1)) := by
        show (match s.2.2.1[own]? with
          | none => s
          | some c => mB_ m own (if c.1 = 1 then mkQ c.2.1 c.2.2.1 (s.1, s.2.1, s.2.2.1.eraseIdx own, s.2.2.2) else (s.1, s.2.1, s.2.2.1.eraseIdx own, dAdd s.2.2.2 c.2.1 c.2.2.1))) = _
        rw [kic]
        show mB_ m own (if ic.1 = 1 then _ else _) = _
        rw [if_neg (by omega)]
      rw [e9]
      have ln : ((s.1, s.2.1, s.2.2.1.eraseIdx own, dAdd s.2.2.2 ic.2.1 ic.2.2.1)).2.2.1.length + 1 = s.2.2.1.length := by
        show (s.2.2.1.eraseIdx own).length + 1 = _
        rw [er_len hx9]
        omega
      refine qX_V (ih h3390 ((s.1, s.2.1, s.2.2.1.eraseIdx own, dAdd s.2.2.2 ic.2.1 ic.2.2.1)) (k + 1) y3391 (some (zi y3379)) (some (zi aic)) (some (zi bic)) (some (zi cic)) Q3390 (by omega) (by omega) (by omega)) (fun h1 hR => ⟨hR.1, fun k j hC => (hR.2 k j hC).trans (((F3390 k j (by omega)).trans (F3386 k j (by omega))))⟩)
    ·
      refine y_cF (c := .ne) (off := 17) (len := 3) (r := (0, 0, 0, 0)) (by decide +kernel) (acmpF (c := .ne) (by show _ = _; omega)) ?_
      refine y_same (i := .aload_n 0) (len := 1) (r := (0, 0, 0, 0)) (pc' := 276) (ls' := [some (.inl (some 52)), some (zi xo), some (zi xa), some (zi xk), some (zi y3379), some (zi aic), some (zi bic), some (zi cic)]) (st' := [.inl (some 52)]) (by decide +kernel) (fun k q => by cases q) rfl ?_
      refine y_get (j := 61) (len := 3) (r := (12, 23, 2, 1351)) (by decide +kernel) Q3386.1 (t52 Q3386.1) at52 rfl rfl (g_r52 (f := 23) (T2 := 378) Q3386.1 rfl (by decide)).1 ?_
      refine y_same (i := .iload 6) (len := 2) (r := (0, 0, 0, 0)) (pc' := 281) (ls' := [some (.inl (some 52)), some (zi xo), some (zi xa), some (zi xk), some (zi y3379), some (zi aic), some (zi bic), some (zi cic)]) (st' := [zi bic, .inl (some 378)]) (by decide +kernel) (fun k q => by cases q) rfl ?_
      refine y_same (i := .iload 7) (len := 2) (r := (0, 0, 0, 0)) (pc' := 283) (ls' := [some (.inl (some 52)), some (zi xo), some (zi xa), some (zi xk), some (zi y3379), some (zi aic), some (zi bic), some (zi cic)]) (st' := [zi cic, zi bic, .inl (some 378)]) (by decide +kernel) (fun k q => by cases q) rfl ?_
      refine y_cV (i := .invokestatic 288) (len := 3) (r := (1, 206, 12, 1660)) (nL := 7) (k := 0) (n := 3) (hs := []) (args := [.inl (some 378), zi bic, zi cic]) (rest := []) (l0 := [some (.inl (some 378)), some (zi bic), some (zi cic), none, none, none, none]) (by decide +kernel) (Or.inl ⟨_, rfl⟩) rfl rfl rfl rfl (Nat.le_of_ble_eq_true rfl) rfl rfl (qV_le (by omega) (m_mk (d := 0) (x := ic.2.1) (y := ic.2.2.1) Q3386 (by omega) (by omega) (by omega) (by omega))) (fun h3392 hR3392 => ?_)
      obtain ⟨Q3392, F3392⟩ := hR3392
      refine y_goto (off := 14) (pc' := 300) (len := 3) (r := (0, 0, 0, 0)) (by decide +kernel) (by decide +kernel) ?_
      refine y_inc (j := 3) (a := xk) (c := 1) (ls' := fun v => [some (.inl (some 52)), some (zi xo), some (zi xa), some v, some (zi y3379), some (zi aic), some (zi bic), some (zi cic)]) (len := 3) (r := (0, 0, 0, 0)) (by decide +kernel) rfl (fun _ => rfl) (by decide) (by omega) (by omega) (fun y3393 hy3393 => ?_)
      show qX (d + 3) 225 303 [some (.inl (some 52)), some (zi xo), some (zi xa), some (zi y3393), some (zi y3379), some (zi aic), some (zi bic), some (zi cic)] [] h3392 t _
      refine y_goto (off := (-88)) (pc' := 215) (len := 3) (r := (0, 0, 0, 0)) (by decide +kernel) (by decide +kernel) ?_
      have e9 : mB_ (m + 1) own s = mB_ m own (mkQ ic.2.1 ic.2.2.1 (s.1, s.2.1, s.2.2.1.eraseIdx own, s.2.2.2)) := by
        show (match s.2.2.1[own]? with
          | none => s
          | some c => mB_ m own (if c.1 = 1 then mkQ c.2.1 c.2.2.1 (s.1, s.2.1, s.2.2.1.eraseIdx own, s.2.2.2) else (s.1, s.2.1, s.2.2.1.eraseIdx own, dAdd s.2.2.2 c.2.1 c.2.2.1))) = _
        rw [kic]
        show mB_ m own (if ic.1 = 1 then _ else _) = _
        rw [if_pos (by omega)]
      rw [e9]
      have ln : (mkQ ic.2.1 ic.2.2.1 (s.1, s.2.1, s.2.2.1.eraseIdx own, s.2.2.2)).2.2.1.length + 1 = s.2.2.1.length := by
        show ((s.2.2.1.eraseIdx own).map _).length + 1 = _
        rw [List.length_map, er_len hx9]
        omega
      refine qX_V (ih h3392 (mkQ ic.2.1 ic.2.2.1 (s.1, s.2.1, s.2.2.1.eraseIdx own, s.2.2.2)) (k + 1) y3393 (some (zi y3379)) (some (zi aic)) (some (zi bic)) (some (zi cic)) Q3392 (by omega) (by omega) (by omega)) (fun h1 hR => ⟨hR.1, fun k j hC => (hR.2 k j hC).trans (((F3392 k j (by omega)).trans (F3386 k j (by omega))))⟩)
theorem m_bg {d t : Nat} {τ : List Nat} {h : zh} {b : bsT} (hg : hG τ h) (bs : bsM h 55 b) (okb : okB b) : qV (d + 4) 225 [some (.inl (some 52)), none, none, none, none, none, none, none] h t (fun h1 => QM τ h1 378 (bgA b) ∧ FM 378 h h1) := by
  obtain ⟨⟨⟨xpa, hpa, epa⟩, ⟨xca, hca, eca⟩, ipa, ica⟩, ⟨xpb, hpb, epb⟩, ⟨xcb, hcb, ecb⟩, ipb, icb⟩ := bs
  obtain ⟨⟨oa, la⟩, ⟨ob, lb⟩, ⟨oca, lca⟩, ⟨ocb, lcb⟩⟩ := okb
  rw [← bgAB lca]
  refine qV_of ?_
  refine y_ic (c := 0) (len := 1) (r := (0, 0, 0, 0)) (by decide +kernel) (by decide) (fun y3394 hy3394 => ?_)
  refine y_same (i := .istore_n 1) (len := 1) (r := (0, 0, 0, 0)) (pc' := 2) (ls' := [some (.inl (some 52)), some (zi y3394), none, none, none, none, none, none]) (st' := []) (by decide +kernel) (fun k q => by cases q) rfl ?_
  refine bgm_0 (h0 := h) (fun h1 x1 g1 c1 F1 => ?_) 200 h 0 y3394 hg (fun j hj => absurd hj (Nat.not_lt_zero j)) (fun k j _ => rfl) (by omega) (by omega) (by omega)
  refine y_ic (c := 0) (len := 1) (r := (0, 0, 0, 0)) (by decide +kernel) (by decide) (fun y3395 hy3395 => ?_)
  refine y_same (i := .istore_n 1) (len := 1) (r := (0, 0, 0, 0)) (pc' := 24) (ls' := [some (.inl (some 52)), some (zi y3395), none, none, none, none, none, none]) (st' := []) (by decide +kernel) (fun k q => by cases q) rfl ?_
  refine bgm_a (l := b.1.1) (h0 := h1) epa (by omega) (fun i m => (oa i m).1) (fun h2 x2 g2 c2 F2 => ?_) (b.1.1.length + 1) h1 0 y3395 g1 (fun j _ hj => absurd hj (Nat.not_lt_zero j)) (fun _ _ _ => rfl) ((F1 55 0 (by omega)).trans hpa) (fun j i hj => qdM_up (ipa j i hj) (fun w hw => F1 55 _ (by omega))) (by omega) (by omega) (by omega)
  refine y_ic (c := 0) (len := 1) (r := (0, 0, 0, 0)) (by decide +kernel) (by decide) (fun y3396 hy3396 => ?_)
  refine y_same (i := .istore_n 1) (len := 1) (r := (0, 0, 0, 0)) (pc' := 61) (ls' := [some (.inl (some 52)), some (zi y3396), none, none, none, none, none, none]) (st' := []) (by decide +kernel) (fun k q => by cases q) rfl ?_
  have U2 : ∀ k j, k ≠ 378 → hsl h2 k j = hsl h k j := fun k j hk => (F2 k j (Or.inl hk)).trans (F1 k j hk)
  refine bgm_b (l := b.2.1) (h0 := h2) epb (by omega) (fun i m => (ob i m).1) (fun h3 x3 g3 c3 F3 => ?_) (b.2.1.length + 1) h2 0 y3396 g2 (fun j _ hj => absurd hj (Nat.not_lt_zero j)) (fun _ _ _ => rfl) ((U2 55 46 (by omega)).trans hpb) (fun j i hj => qdM_up (ipb j i hj) (fun w hw => U2 55 _ (by omega))) (by omega) (by omega) (by omega)
  have U3 : ∀ k j, k ≠ 378 → hsl h3 k j = hsl h k j := fun k j hk => (F3 k j (Or.inl hk)).trans (U2 k j hk)
  refine y_same (i := .aload_n 0) (len := 1) (r := (0, 0, 0, 0)) (pc' := 97) (ls' := [some (.inl (some 52)), some (zi x3), none, none, none, none, none, none]) (st' := [.inl (some 52)]) (by decide +kernel) (fun k q => by cases q) rfl ?_
  refine y_get (j := 61) (len := 3) (r := (12, 23, 2, 1351)) (by decide +kernel) g3 (t52 g3) at52 rfl rfl (g_r52 (f := 23) (T2 := 378) g3 rfl (by decide)).1 ?_
  refine y_ic (c := 0) (len := 1) (r := (0, 0, 0, 0)) (by decide +kernel) (by decide) (fun y3397 hy3397 => ?_)
  refine y_same (i := .aload_n 0) (len := 1) (r := (0, 0, 0, 0)) (pc' := 102) (ls' := [some (.inl (some 52)), some (zi x3), none, none, none, none, none, none]) (st' := [.inl (some 52), zi y3397, .inl (some 378)]) (by decide +kernel) (fun k q => by cases q) rfl ?_
  refine y_get (j := 20) (len := 3) (r := (12, 9, 2, 1337)) (by decide +kernel) g3 (t52 g3) at52 rfl rfl (g_r52 (f := 9) (T2 := 55) g3 rfl (by decide)).1 ?_
  refine y_ic (c := 0) (len := 1) (r := (0, 0, 0, 0)) (by decide +kernel) (by decide) (fun y3398 hy3398 => ?_)
  refine y_cI (i := .invokestatic 143) (len := 3) (r := (1, 166, 12, 1543)) (nL := 2) (k := 1) (n := 2) (hs := []) (args := [.inl (some 55), zi y3398]) (rest := [zi y3397, .inl (some 378)]) (l0 := [some (.inl (some 55)), some (zi y3398)]) (by decide +kernel) (Or.inl ⟨_, rfl⟩) rfl rfl rfl rfl (Nat.le_of_ble_eq_true rfl) rfl rfl (qI_le (by omega) (m_parts (d := 0) (s := 0) g3 (by omega) (by omega) ((U3 55 0 (by omega)).trans hpa))) (fun y3399 qy3399 hRy3399 => ?_)
  obtain ⟨rfl, rfl⟩ := hRy3399
  refine y_ias (i := 0) (len := 1) (r := (0, 0, 0, 0)) (by decide +kernel) g3 (tu378 g3) at378 rfl (by omega) (by omega) (srA (by omega)) (by omega) (by omega) (fun h3400 hg3400 hl3400 hs3400 ho3400 => ?_)
  refine y_same (i := .aload_n 0) (len := 1) (r := (0, 0, 0, 0)) (pc' := 111) (ls' := [some (.inl (some 52)), some (zi x3), none, none, none, none, none, none]) (st' := [.inl (some 52)]) (by decide +kernel) (fun k q => by cases q) rfl ?_
  refine y_get (j := 61) (len := 3) (r := (12, 23, 2, 1351)) (by decide +kernel) hg3400 (t52 hg3400) at52 rfl rfl (g_r52 (f := 23) (T2 := 378) hg3400 rfl (by decide)).1 ?_
  refine y_ic (c := 1) (len := 1) (r := (0, 0, 0, 0)) (by decide +kernel) (by decide) (fun y3401 hy3401 => ?_)
  refine y_same (i := .aload_n 0) (len := 1) (r := (0, 0, 0, 0)) (pc' := 116) (ls' := [some (.inl (some 52)), some (zi x3), none, none, none, none, none, none]) (st' := [.inl (some 52), zi y3401, .inl (some 378)]) (by decide +kernel) (fun k q => by cases q) rfl ?_
  refine y_get (j := 20) (len := 3) (r := (12, 9, 2, 1337)) (by decide +kernel) hg3400 (t52 hg3400) at52 rfl rfl (g_r52 (f := 9) (T2 := 55) hg3400 rfl (by decide)).1 ?_
  refine y_ic (c := 1) (len := 1) (r := (0, 0, 0, 0)) (by decide +kernel) (by decide) (fun y3402 hy3402 => ?_)
  have hv3404 := (ho3400 55 46 (Or.inl (by omega))).trans ((U3 55 46 (by omega)).trans hpb)
  refine y_cI (i := .invokestatic 143) (len := 3) (r := (1, 166, 12, 1543)) (nL := 2) (k := 1) (n := 2) (hs := []) (args := [.inl (some 55), zi y3402]) (rest := [zi y3401, .inl (some 378)]) (l0 := [some (.inl (some 55)), some (zi y3402)]) (by decide +kernel) (Or.inl ⟨_, rfl⟩) rfl rfl rfl rfl (Nat.le_of_ble_eq_true rfl) rfl rfl (qI_le (by omega) (m_parts (d := 0) (s := 1) hg3400 (by omega) (by omega) hv3404)) (fun y3403 qy3403 hRy3403 => ?_)
  obtain ⟨rfl, rfl⟩ := hRy3403
  refine y_ias (i := 1) (len := 1) (r := (0, 0, 0, 0)) (by decide +kernel) hg3400 (tu378 hg3400) at378 rfl (by omega) (by omega) (srA (by omega)) (by omega) (by omega) (fun h3405 hg3405 hl3405 hs3405 ho3405 => ?_)
  refine y_same (i := .aload_n 0) (len := 1) (r := (0, 0, 0, 0)) (pc' := 125) (ls' := [some (.inl (some 52)), some (zi x3), none, none, none, none, none, none]) (st' := [.inl (some 52)]) (by decide +kernel) (fun k q => by cases q) rfl ?_
  refine y_get (j := 20) (len := 3) (r := (12, 9, 2, 1337)) (by decide +kernel) hg3405 (t52 hg3405) at52 rfl rfl (g_r52 (f := 9) (T2 := 55) hg3405 rfl (by decide)).1 ?_
  refine y_ic (c := 1) (len := 1) (r := (0, 0, 0, 0)) (by decide +kernel) (by decide) (fun y3406 hy3406 => ?_)
  have hv3408 := (ho3400 55 47 (Or.inl (by omega))).trans ((U3 55 47 (by omega)).trans hcb)
  have hv3409 := (ho3405 55 47 (Or.inl (by omega))).trans hv3408
  refine y_cI (i := .invokestatic 155) (len := 3) (r := (1, 167, 12, 1560)) (nL := 2) (k := 1) (n := 2) (hs := []) (args := [.inl (some 55), zi y3406]) (rest := []) (l0 := [some (.inl (some 55)), some (zi y3406)]) (by decide +kernel) (Or.inl ⟨_, rfl⟩) rfl rfl rfl rfl (Nat.le_of_ble_eq_true rfl) rfl rfl (qI_le (by omega) (m_claims (d := 0) (s := 1) hg3405 (by omega) (by omega) hv3409)) (fun y3407 qy3407 hRy3407 => ?_)
  obtain ⟨rfl, rfl⟩ := hRy3407
  refine y_same (i := .istore_n 1) (len := 1) (r := (0, 0, 0, 0)) (pc' := 133) (ls' := [some (.inl (some 52)), some (zi xcb), none, none, none, none, none, none]) (st' := []) (by decide +kernel) (fun k q => by cases q) rfl ?_
  refine y_same (i := .aload_n 0) (len := 1) (r := (0, 0, 0, 0)) (pc' := 134) (ls' := [some (.inl (some 52)), some (zi xcb), none, none, none, none, none, none]) (st' := [.inl (some 52)]) (by decide +kernel) (fun k q => by cases q) rfl ?_
  refine y_get (j := 20) (len := 3) (r := (12, 9, 2, 1337)) (by decide +kernel) hg3405 (t52 hg3405) at52 rfl rfl (g_r52 (f := 9) (T2 := 55) hg3405 rfl (by decide)).1 ?_
  refine y_ic (c := 0) (len := 1) (r := (0, 0, 0, 0)) (by decide +kernel) (by decide) (fun y3410 hy3410 => ?_)
  have hv3412 := (ho3400 55 1 (Or.inl (by omega))).trans ((U3 55 1 (by omega)).trans hca)
  have hv3413 := (ho3405 55 1 (Or.inl (by omega))).trans hv3412
  refine y_cI (i := .invokestatic 155) (len := 3) (r := (1, 167, 12, 1560)) (nL := 2) (k := 1) (n := 2) (hs := []) (args := [.inl (some 55), zi y3410]) (rest := []) (l0 := [some (.inl (some 55)), some (zi y3410)]) (by decide +kernel) (Or.inl ⟨_, rfl⟩) rfl rfl rfl rfl (Nat.le_of_ble_eq_true rfl) rfl rfl (qI_le (by omega) (m_claims (d := 0) (s := 0) hg3405 (by omega) (by omega) hv3413)) (fun y3411 qy3411 hRy3411 => ?_)
  obtain ⟨rfl, rfl⟩ := hRy3411
  refine y_same (i := .istore_n 2) (len := 1) (r := (0, 0, 0, 0)) (pc' := 142) (ls' := [some (.inl (some 52)), some (zi xcb), some (zi xca), none, none, none, none, none]) (st' := []) (by decide +kernel) (fun k q => by cases q) rfl ?_
  refine y_ic (c := 0) (len := 1) (r := (0, 0, 0, 0)) (by decide +kernel) (by decide) (fun y3414 hy3414 => ?_)
  refine y_same (i := .istore_n 3) (len := 1) (r := (0, 0, 0, 0)) (pc' := 144) (ls' := [some (.inl (some 52)), some (zi xcb), some (zi xca), some (zi y3414), none, none, none, none]) (st' := []) (by decide +kernel) (fun k q => by cases q) rfl ?_
  have hv3420 := (ho3405 378 0 (Or.inr (by omega))).trans hs3400
  have E3 : ∀ k j, (k ≠ 378 ∨ 2 ≤ j) → hsl h3405 k j = hsl h3 k j := fun k j hC => ((ho3405 k j (by omega)).trans (ho3400 k j (by omega)))
  refine bgm_c (l := b.2.2) (all := b.1.2.length) (h0 := h3405) ecb (by omega) (fun i m => (ocb i m).1) (fun h4 x4 g4 c4 F4 => ?_) (b.2.2.length + 1) h3405 0 y3414 hg3405 (fun j _ hj => absurd hj (Nat.not_lt_zero j)) (fun _ _ _ => rfl) (fun j i hj => qdM_up (icb j i hj) (fun w hw => (E3 55 _ (by omega)).trans (U3 55 _ (by omega)))) (by omega) (by omega) (by omega)
  refine y_ic (c := 0) (len := 1) (r := (0, 0, 0, 0)) (by decide +kernel) (by decide) (fun y3415 hy3415 => ?_)
  refine y_same (i := .istore_n 3) (len := 1) (r := (0, 0, 0, 0)) (pc' := 174) (ls' := [some (.inl (some 52)), some (zi xcb), some (zi xca), some (zi y3415), none, none, none, none]) (st' := []) (by decide +kernel) (fun k q => by cases q) rfl ?_
  refine bgm_d (l := b.1.2) (own := b.2.2.length) (h0 := h4) ecb (by omega) eca (by omega) (fun i m => (oca i m).1) (fun h5 x5 g5 c5 F5 => ?_) (b.1.2.length + 1) h4 0 y3415 g4 (fun j _ hj => absurd hj (Nat.not_lt_zero j)) (fun _ _ _ => rfl) (fun j i hj => qdM_up (ica j i hj) (fun w hw => (F4 55 _ (by omega)).trans ((E3 55 _ (by omega)).trans (U3 55 _ (by omega))))) (by omega) (by omega) (by omega)
  refine y_same (i := .aload_n 0) (len := 1) (r := (0, 0, 0, 0)) (pc' := 205) (ls' := [some (.inl (some 52)), some (zi xcb), some (zi xca), some (zi x5), none, none, none, none]) (st' := [.inl (some 52)]) (by decide +kernel) (fun k q => by cases q) rfl ?_
  refine y_get (j := 61) (len := 3) (r := (12, 23, 2, 1351)) (by decide +kernel) g5 (t52 g5) at52 rfl rfl (g_r52 (f := 23) (T2 := 378) g5 rfl (by decide)).1 ?_
  refine y_ic (c := 2) (len := 1) (r := (0, 0, 0, 0)) (by decide +kernel) (by decide) (fun y3416 hy3416 => ?_)
  refine y_same (i := .iload_n 1) (len := 1) (r := (0, 0, 0, 0)) (pc' := 210) (ls' := [some (.inl (some 52)), some (zi xcb), some (zi xca), some (zi x5), none, none, none, none]) (st' := [zi xcb, zi y3416, .inl (some 378)]) (by decide +kernel) (fun k q => by cases q) rfl ?_
  refine y_same (i := .iload_n 2) (len := 1) (r := (0, 0, 0, 0)) (pc' := 211) (ls' := [some (.inl (some 52)), some (zi xcb), some (zi xca), some (zi x5), none, none, none, none]) (st' := [zi xca, zi xcb, zi y3416, .inl (some 378)]) (by decide +kernel) (fun k q => by cases q) rfl ?_
  refine y_add (len := 1) (r := (0, 0, 0, 0)) (by decide +kernel) (by omega) (by omega) (fun y3417 hy3417 => ?_)
  refine y_ias (i := 2) (len := 1) (r := (0, 0, 0, 0)) (by decide +kernel) g5 (tu378 g5) at378 rfl (by omega) (by omega) (srA (by omega)) (by omega) (by omega) (fun h3418 hg3418 hl3418 hs3418 ho3418 => ?_)
  refine y_ic (c := 0) (len := 1) (r := (0, 0, 0, 0)) (by decide +kernel) (by decide) (fun y3419 hy3419 => ?_)
  refine y_same (i := .istore_n 3) (len := 1) (r := (0, 0, 0, 0)) (pc' := 215) (ls' := [some (.inl (some 52)), some (zi xcb), some (zi xca), some (zi y3419), none, none, none, none]) (st' := []) (by decide +kernel) (fun k q => by cases q) rfl ?_
  have E5 : ∀ k j, (k ≠ 378 ∨ j ≠ 2) → hsl h3418 k j = hsl h5 k j := fun k j hC => (ho3418 k j (by omega))
  have Q5 : QM τ h3418 378 (b.1.1, b.2.1, b.2.2 ++ b.1.2, dNo) := by
    refine ⟨hg3418, rwT_d hg3418, ⟨⟨_, (E5 378 0 (by omega)).trans ((F5 378 0 (by omega)).trans ((F4 378 0 (by omega)).trans hv3420)), epa⟩, ⟨_, (E5 378 1 (by omega)).trans ((F5 378 1 (by omega)).trans ((F4 378 1 (by omega)).trans hs3405)), epb⟩, ⟨_, hs3418, ?_⟩, fun j i hj => ?_, fun j i hj => ?_, fun j i hj => ?_, fun x hx => ?_⟩, oa, ob, fun p m => (List.mem_append.mp m).elim (ocb p) (oca p), ?_⟩
    · show _ = (((b.2.2 ++ b.1.2).length : Nat) : Int)
      rw [List.length_append]
      omega
    · have hj9 := (List.getElem?_eq_some_iff.mp hj).1
      have hj9 : j < b.1.1.length := hj9
      exact qdM_up (c2 j i hj) (fun w hw => (E5 378 _ (by omega)).trans ((F5 378 _ (by omega)).trans ((F4 378 _ (by omega)).trans ((E3 378 _ (by omega)).trans (F3 378 _ (by omega))))))
    · have hj9 := (List.getElem?_eq_some_iff.mp hj).1
      have hj9 : j < b.2.1.length := hj9
      exact qdM_up (c3 j i hj) (fun w hw => (E5 378 _ (by omega)).trans ((F5 378 _ (by omega)).trans ((F4 378 _ (by omega)).trans (E3 378 _ (by omega)))))
    · have hj : (b.2.2 ++ b.1.2)[j]? = some i := hj
      rcases Nat.lt_or_ge j b.2.2.length with q | q
      · rw [List.getElem?_append_left q] at hj
        exact qdM_up (c4 j i hj) (fun w hw => (E5 378 _ (by omega)).trans (F5 378 _ (by omega)))
      · rw [List.getElem?_append_right q] at hj
        have e9 := c5 (j - b.2.2.length) i hj
        rw [show b.2.2.length + (j - b.2.2.length) = j by omega] at e9
        exact qdM_up e9 (fun w hw => E5 378 _ (by omega))
    · obtain ⟨v, e1, e2⟩ := c1 (3 + x) (by omega)
      exact ⟨v, (E5 378 _ (by omega)).trans ((F5 378 _ (by omega)).trans ((F4 378 _ (by omega)).trans ((E3 378 _ (by omega)).trans ((F3 378 _ (by omega)).trans ((F2 378 _ (by omega)).trans e1))))), bs_0 e2 (fun _ q => q.elim)⟩
    · exact ⟨fun a b q => q.elim, fun a b q => q⟩
  have ln : (b.2.2 ++ b.1.2).length = b.2.2.length + b.1.2.length := List.length_append
  refine qX_V (bgm_e (own := b.2.2.length) (all := b.1.2.length) ecb (by omega) eca (by omega) b.1.2.length h3418 (b.1.1, b.2.1, b.2.2 ++ b.1.2, dNo) 0 y3419 none none none none Q5 (by omega) (by omega) ln) (fun h9 hR => ⟨hR.1, fun k j hC => (hR.2 k j hC).trans ((E5 k j (Or.inl hC)).trans ((F5 k j (Or.inl hC)).trans ((F4 k j (Or.inl hC)).trans ((E3 k j (Or.inl hC)).trans (U3 k j hC)))))⟩)
