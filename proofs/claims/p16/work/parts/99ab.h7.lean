/-! the class's small heaps: a tree is taken -/
def stC (h : zh) : List Nat → Prop
  | [] => True
  | w :: s => ci_ h 48 s.length w ∧ stC h s
theorem stC_up {h h1 : zh} : ∀ {st : List Nat}, stC h st → (∀ j, j < st.length → hsl h1 48 j = hsl h 48 j) → stC h1 st
  | [], _, _ => trivial
  | w :: s, c, e => ⟨ci_up c.1 (e _ (Nat.lt_succ_self _)), stC_up c.2 (fun j hj => e j (Nat.lt_succ_of_lt hj))⟩
theorem tt_l {d t : Nat} {τ : List Nat} {h0 : zh} {H : hpT} {xx : Int32} (hw : hpW H) : ∀ (n : Nat) (h : zh) (st : List Nat) (u : usT) (xo : Int32) (xi : Int32) (i : Nat) (l4 : Option zv) (fu : Nat), (hG τ h) → (st.length + 2 * (10 - cu_ u) ≤ fu) → (hpC h H) → (usC h u) → (stC h st) → (∀ v ∈ st, v ≤ 10) → (∀ k j, (k ≠ 48 ∧ (k ≠ 43 ∨ j ≠ 5)) → hsl h k j = hsl h0 k j) → (xo.toInt = (st.length : Int)) → (xi.toInt = (i : Int)) → (i + (st.length + 2 * (10 - cu_ u)) ≤ 23) → (st.length ≤ 1 + cu_ u) → (st.length ≤ 11) → (st.length + 2 * (10 - cu_ u) < n) → qX (d + 1) 22 11 [some (.inl (some 43)), some (zi xx), some (zi xo), some (zi xi), l4] [] h t (rI (fun y9 h1 => hG τ h1 ∧ (∀ k j, (k ≠ 48 ∧ (k ≠ 43 ∨ j ≠ 5)) → hsl h1 k j = hsl h0 k j) ∧ ((∃ u', tkT H fu u st = some u' ∧ y9.toInt = 1 ∧ usC h1 u') ∨ (tkT H fu u st = none ∧ y9.toInt = 0))) t) := by
  intro n
  induction n with
  | zero =>
    intro h st u xo xi i l4 fu hg hfu hp uc sc sb F0 hxo hxi hi hl hl2 hn
    exfalso
    omega
  | succ n ih =>
    intro h st u xo xi i l4 fu hg hfu hp uc sc sb F0 hxo hxi hi hl hl2 hn
    have cl := cu_le (u := u)
    refine y_same (i := .iload_n 3) (len := 1) (r := (0, 0, 0, 0)) (pc' := 12) (ls' := [some (.inl (some 43)), some (zi xx), some (zi xo), some (zi xi), l4]) (st' := [zi xi]) (by decide +kernel) (fun k q => by cases q) rfl ?_
    refine y_same (i := .aload_n 0) (len := 1) (r := (0, 0, 0, 0)) (pc' := 13) (ls' := [some (.inl (some 43)), some (zi xx), some (zi xo), some (zi xi), l4]) (st' := [.inl (some 43), zi xi]) (by decide +kernel) (fun k q => by cases q) rfl ?_
    refine y_get (j := 24) (len := 3) (r := (1, 4, 2, 341)) (by decide +kernel) hg (tv43 hg) aw43 rfl rfl (g_rU (f := 4) (T2 := 48) hg (tv43 hg) aw43 rfl (by decide)) ?_
    refine y_aln (len := 1) (r := (0, 0, 0, 0)) (by decide +kernel) hg (tv48 hg) aw48 (by decide) (fun y3352 hy3352 => ?_)
    rcases Decidable.em (xi.toInt ≥ y3352.toInt) with q3353 | q3353
    ·
      refine y_cT (c := .ge) (off := 83) (pc' := 100) (len := 3) (r := (0, 0, 0, 0)) (by decide +kernel) (acmpT (c := .ge) (by show _ ≤ _; omega)) (by decide +kernel) ?_
      refine y_same (i := .iload_n 2) (len := 1) (r := (0, 0, 0, 0)) (pc' := 101) (ls' := [some (.inl (some 43)), some (zi xx), some (zi xo), some (zi xi), l4]) (st' := [zi xo]) (by decide +kernel) (fun k q => by cases q) rfl ?_
      rcases Decidable.em (xo.toInt ≠ 0) with q3354 | q3354
      ·
        refine y_iT (c := .ne) (off := 7) (pc' := 108) (len := 3) (r := (0, 0, 0, 0)) (by decide +kernel) (acmpT (c := .ne) (by show ¬ (_ = _); omega)) (by decide +kernel) ?_
        refine y_ic (c := 0) (len := 1) (r := (0, 0, 0, 0)) (by decide +kernel) (by decide) (fun y3355 hy3355 => ?_)
        refine y_rI (len := 1) (r := (0, 0, 0, 0)) (nL := 5) (k := 2) (n9 := 2) (hs := []) (by decide +kernel) rfl (zfit_b (by omega) (by omega)).2 ?_
        exfalso
        omega
      ·
        refine y_iF (c := .ne) (off := 7) (len := 3) (r := (0, 0, 0, 0)) (by decide +kernel) (acmpF (c := .ne) (by show _ = _; omega)) ?_
        refine y_ic (c := 1) (len := 1) (r := (0, 0, 0, 0)) (by decide +kernel) (by decide) (fun y3356 hy3356 => ?_)
        refine y_goto (off := 4) (pc' := 109) (len := 3) (r := (0, 0, 0, 0)) (by decide +kernel) (by decide +kernel) ?_
        refine y_rI (len := 1) (r := (0, 0, 0, 0)) (nL := 5) (k := 2) (n9 := 2) (hs := []) (by decide +kernel) rfl (zfit_b (by omega) (by omega)).2 ?_
        have st0 : st = [] := List.length_eq_zero_iff.mp (by omega)
        subst st0
        exact ⟨hg, F0, Or.inl ⟨u, tkT_e, by omega, uc⟩⟩
    ·
      refine y_cF (c := .ge) (off := 83) (len := 3) (r := (0, 0, 0, 0)) (by decide +kernel) (acmpF (c := .ge) (by show _ < _; omega)) ?_
      refine y_same (i := .iload_n 2) (len := 1) (r := (0, 0, 0, 0)) (pc' := 21) (ls' := [some (.inl (some 43)), some (zi xx), some (zi xo), some (zi xi), l4]) (st' := [zi xo]) (by decide +kernel) (fun k q => by cases q) rfl ?_
      rcases Decidable.em (xo.toInt ≤ 0) with q3357 | q3357
      ·
        refine y_iT (c := .le) (off := 79) (pc' := 100) (len := 3) (r := (0, 0, 0, 0)) (by decide +kernel) (acmpT (c := .le) (by show _ ≤ _; omega)) (by decide +kernel) ?_
        refine y_same (i := .iload_n 2) (len := 1) (r := (0, 0, 0, 0)) (pc' := 101) (ls' := [some (.inl (some 43)), some (zi xx), some (zi xo), some (zi xi), l4]) (st' := [zi xo]) (by decide +kernel) (fun k q => by cases q) rfl ?_
        rcases Decidable.em (xo.toInt ≠ 0) with q3358 | q3358
        ·
          refine y_iT (c := .ne) (off := 7) (pc' := 108) (len := 3) (r := (0, 0, 0, 0)) (by decide +kernel) (acmpT (c := .ne) (by show ¬ (_ = _); omega)) (by decide +kernel) ?_
          refine y_ic (c := 0) (len := 1) (r := (0, 0, 0, 0)) (by decide +kernel) (by decide) (fun y3359 hy3359 => ?_)
          refine y_rI (len := 1) (r := (0, 0, 0, 0)) (nL := 5) (k := 2) (n9 := 2) (hs := []) (by decide +kernel) rfl (zfit_b (by omega) (by omega)).2 ?_
          exfalso
          omega
        ·
          refine y_iF (c := .ne) (off := 7) (len := 3) (r := (0, 0, 0, 0)) (by decide +kernel) (acmpF (c := .ne) (by show _ = _; omega)) ?_
          refine y_ic (c := 1) (len := 1) (r := (0, 0, 0, 0)) (by decide +kernel) (by decide) (fun y3360 hy3360 => ?_)
          refine y_goto (off := 4) (pc' := 109) (len := 3) (r := (0, 0, 0, 0)) (by decide +kernel) (by decide +kernel) ?_
          refine y_rI (len := 1) (r := (0, 0, 0, 0)) (nL := 5) (k := 2) (n9 := 2) (hs := []) (by decide +kernel) rfl (zfit_b (by omega) (by omega)).2 ?_
          have st0 : st = [] := List.length_eq_zero_iff.mp (by omega)
          subst st0
          exact ⟨hg, F0, Or.inl ⟨u, tkT_e, by omega, uc⟩⟩
      ·
        refine y_iF (c := .le) (off := 79) (len := 3) (r := (0, 0, 0, 0)) (by decide +kernel) (acmpF (c := .le) (by show _ < _; omega)) ?_
        obtain ⟨w, s, rfl⟩ : ∃ w s, st = w :: s := by
          cases st with
          | nil =>
            rw [List.length_nil] at hxo
            omega
          | cons w s => exact ⟨w, s, rfl⟩
        have lw : (w :: s).length = s.length + 1 := rfl
        obtain ⟨⟨xw, hxw, exw⟩, sc2⟩ := sc
        have hw10 := sb w List.mem_cons_self
        have sb2 : ∀ v ∈ s, v ≤ 10 := fun v hv => sb v (List.mem_cons_of_mem _ hv)
        obtain ⟨m9, rfl⟩ : ∃ m, fu = m + 1 := ⟨fu - 1, by omega⟩
        refine y_inc (j := 2) (a := xo) (c := (-1)) (ls' := fun v => [some (.inl (some 43)), some (zi xx), some v, some (zi xi), l4]) (len := 3) (r := (0, 0, 0, 0)) (by decide +kernel) rfl (fun _ => rfl) (by decide) (by omega) (by omega) (fun y3361 hy3361 => ?_)
        show qX (d + 1) 22 27 [some (.inl (some 43)), some (zi xx), some (zi y3361), some (zi xi), l4] [] h t _
        refine y_same (i := .aload_n 0) (len := 1) (r := (0, 0, 0, 0)) (pc' := 28) (ls' := [some (.inl (some 43)), some (zi xx), some (zi y3361), some (zi xi), l4]) (st' := [.inl (some 43)]) (by decide +kernel) (fun k q => by cases q) rfl ?_
        refine y_get (j := 24) (len := 3) (r := (1, 4, 2, 341)) (by decide +kernel) hg (tv43 hg) aw43 rfl rfl (g_rU (f := 4) (T2 := 48) hg (tv43 hg) aw43 rfl (by decide)) ?_
        refine y_same (i := .iload_n 2) (len := 1) (r := (0, 0, 0, 0)) (pc' := 32) (ls' := [some (.inl (some 43)), some (zi xx), some (zi y3361), some (zi xi), l4]) (st' := [zi y3361, .inl (some 48)]) (by decide +kernel) (fun k q => by cases q) rfl ?_
        refine y_ial (i := s.length) (len := 1) (r := (0, 0, 0, 0)) (by decide +kernel) hg (tv48 hg) aw48 (by omega) hxw ?_
        refine y_same (i := .istore 4) (len := 2) (r := (0, 0, 0, 0)) (pc' := 35) (ls' := [some (.inl (some 43)), some (zi xx), some (zi y3361), some (zi xi), some (zi xw)]) (st' := []) (by decide +kernel) (fun k q => by cases q) rfl ?_
        refine y_same (i := .iload 4) (len := 2) (r := (0, 0, 0, 0)) (pc' := 37) (ls' := [some (.inl (some 43)), some (zi xx), some (zi y3361), some (zi xi), some (zi xw)]) (st' := [zi xw]) (by decide +kernel) (fun k q => by cases q) rfl ?_
        rcases Decidable.em (xw.toInt = 0) with q3362 | q3362
        ·
          refine y_iT (c := .eq) (off := 57) (pc' := 94) (len := 3) (r := (0, 0, 0, 0)) (by decide +kernel) (acmpT (c := .eq) (by show _ = _; omega)) (by decide +kernel) ?_
          refine y_inc (j := 3) (a := xi) (c := 1) (ls' := fun v => [some (.inl (some 43)), some (zi xx), some (zi y3361), some v, some (zi xw)]) (len := 3) (r := (0, 0, 0, 0)) (by decide +kernel) rfl (fun _ => rfl) (by decide) (by omega) (by omega) (fun y3363 hy3363 => ?_)
          show qX (d + 1) 22 97 [some (.inl (some 43)), some (zi xx), some (zi y3361), some (zi y3363), some (zi xw)] [] h t _
          refine y_goto (off := (-86)) (pc' := 11) (len := 3) (r := (0, 0, 0, 0)) (by decide +kernel) (by decide +kernel) ?_
          have hw0 : w = 0 := by omega
          subst hw0
          rw [tkT_0]
          exact ih h s u y3361 y3363 (i + 1) _ m9 hg (by omega) hp uc sc2 sb2 F0 (by omega) (by omega) (by omega) (by omega) (by omega) (by omega)
        ·
          refine y_iF (c := .eq) (off := 57) (len := 3) (r := (0, 0, 0, 0)) (by decide +kernel) (acmpF (c := .eq) (by show ¬ (_ = _); omega)) ?_
          refine y_same (i := .aload_n 0) (len := 1) (r := (0, 0, 0, 0)) (pc' := 41) (ls' := [some (.inl (some 43)), some (zi xx), some (zi y3361), some (zi xi), some (zi xw)]) (st' := [.inl (some 43)]) (by decide +kernel) (fun k q => by cases q) rfl ?_
          refine y_same (i := .iload 4) (len := 2) (r := (0, 0, 0, 0)) (pc' := 43) (ls' := [some (.inl (some 43)), some (zi xx), some (zi y3361), some (zi xi), some (zi xw)]) (st' := [zi xw, .inl (some 43)]) (by decide +kernel) (fun k q => by cases q) rfl ?_
          refine y_ic (c := 1) (len := 1) (r := (0, 0, 0, 0)) (by decide +kernel) (by decide) (fun y3364 hy3364 => ?_)
          refine y_cI (i := .invokevirtual 75) (len := 3) (r := (0, 20, 1, 1268)) (nL := 3) (k := 2) (n := 3) (hs := []) (args := [.inl (some 43), zi xw, zi y3364]) (rest := []) (l0 := [some (.inl (some 43)), some (zi xw), some (zi y3364)]) (by decide +kernel) (Or.inr (Or.inl ⟨_, rfl⟩)) rfl rfl rfl rfl (Nat.le_of_ble_eq_true rfl) (zO hg (tv43 hg) aw43 rfl) rfl (qI_le (by omega) (e_tkA (d := 0) (w := w) (k := 1) (u := u) hg hp uc (by omega) (by omega) (by omega))) (fun y3365 h3365 hRy3365 => ?_)
          rcases hRy3365 with ⟨u3365, tk3365, hg3365, hy3365, uc3365, F3365⟩ | ⟨tk3365, hy3365, hh3365⟩
          ·
            obtain ⟨t13365, t23365, t33365, t43365⟩ := tkA_some tk3365
            obtain ⟨⟨xa3365, ha3365, ea3365⟩, xb3365, hb3365, eb3365⟩ := (hp.1 w t13365 hw10).2 (by rw [t23365]; decide)
            refine y_iF (c := .eq) (off := 14) (len := 3) (r := (0, 0, 0, 0)) (by decide +kernel) (acmpF (c := .eq) (by show ¬ (_ = _); omega)) ?_
            refine y_same (i := .iload_n 2) (len := 1) (r := (0, 0, 0, 0)) (pc' := 51) (ls' := [some (.inl (some 43)), some (zi xx), some (zi y3361), some (zi xi), some (zi xw)]) (st' := [zi y3361]) (by decide +kernel) (fun k q => by cases q) rfl ?_
            refine y_ic (c := 2) (len := 1) (r := (0, 0, 0, 0)) (by decide +kernel) (by decide) (fun y3366 hy3366 => ?_)
            refine y_add (len := 1) (r := (0, 0, 0, 0)) (by decide +kernel) (by omega) (by omega) (fun y3367 hy3367 => ?_)
            refine y_same (i := .aload_n 0) (len := 1) (r := (0, 0, 0, 0)) (pc' := 54) (ls' := [some (.inl (some 43)), some (zi xx), some (zi y3361), some (zi xi), some (zi xw)]) (st' := [.inl (some 43), zi y3367]) (by decide +kernel) (fun k q => by cases q) rfl ?_
            refine y_get (j := 24) (len := 3) (r := (1, 4, 2, 341)) (by decide +kernel) hg3365 (tv43 hg3365) aw43 rfl rfl (g_rU (f := 4) (T2 := 48) hg3365 (tv43 hg3365) aw43 rfl (by decide)) ?_
            refine y_aln (len := 1) (r := (0, 0, 0, 0)) (by decide +kernel) hg3365 (tv48 hg3365) aw48 (by decide) (fun y3368 hy3368 => ?_)
            rcases Decidable.em (y3367.toInt ≤ y3368.toInt) with q3369 | q3369
            ·
              refine y_cT (c := .le) (off := 5) (pc' := 63) (len := 3) (r := (0, 0, 0, 0)) (by decide +kernel) (acmpT (c := .le) (by show _ ≤ _; omega)) (by decide +kernel) ?_
              refine y_same (i := .aload_n 0) (len := 1) (r := (0, 0, 0, 0)) (pc' := 64) (ls' := [some (.inl (some 43)), some (zi xx), some (zi y3361), some (zi xi), some (zi xw)]) (st' := [.inl (some 43)]) (by decide +kernel) (fun k q => by cases q) rfl ?_
              refine y_get (j := 24) (len := 3) (r := (1, 4, 2, 341)) (by decide +kernel) hg3365 (tv43 hg3365) aw43 rfl rfl (g_rU (f := 4) (T2 := 48) hg3365 (tv43 hg3365) aw43 rfl (by decide)) ?_
              refine y_same (i := .iload_n 2) (len := 1) (r := (0, 0, 0, 0)) (pc' := 68) (ls' := [some (.inl (some 43)), some (zi xx), some (zi y3361), some (zi xi), some (zi xw)]) (st' := [zi y3361, .inl (some 48)]) (by decide +kernel) (fun k q => by cases q) rfl ?_
              refine y_same (i := .aload_n 0) (len := 1) (r := (0, 0, 0, 0)) (pc' := 69) (ls' := [some (.inl (some 43)), some (zi xx), some (zi y3361), some (zi xi), some (zi xw)]) (st' := [.inl (some 43), zi y3361, .inl (some 48)]) (by decide +kernel) (fun k q => by cases q) rfl ?_
              refine y_get (j := 21) (len := 3) (r := (1, 3, 2, 340)) (by decide +kernel) hg3365 (tv43 hg3365) aw43 rfl rfl (g_rU (f := 3) (T2 := 47) hg3365 (tv43 hg3365) aw43 rfl (by decide)) ?_
              refine y_same (i := .iload 4) (len := 2) (r := (0, 0, 0, 0)) (pc' := 74) (ls' := [some (.inl (some 43)), some (zi xx), some (zi y3361), some (zi xi), some (zi xw)]) (st' := [zi xw, .inl (some 47), zi y3361, .inl (some 48)]) (by decide +kernel) (fun k q => by cases q) rfl ?_
              have hv3370 := (F3365 47 w (by omega)).trans hb3365
              refine y_ial (i := w) (len := 1) (r := (0, 0, 0, 0)) (by decide +kernel) hg3365 (tv47 hg3365) aw47 (by omega) hv3370 ?_
              refine y_ias (i := s.length) (len := 1) (r := (0, 0, 0, 0)) (by decide +kernel) hg3365 (tv48 hg3365) aw48 rfl (by omega) (by omega) (sr1 (by omega)) (qin_full _).1 (qin_full _).2 (fun h3371 hg3371 hl3371 hs3371 ho3371 => ?_)
              refine y_same (i := .aload_n 0) (len := 1) (r := (0, 0, 0, 0)) (pc' := 77) (ls' := [some (.inl (some 43)), some (zi xx), some (zi y3361), some (zi xi), some (zi xw)]) (st' := [.inl (some 43)]) (by decide +kernel) (fun k q => by cases q) rfl ?_
              refine y_get (j := 24) (len := 3) (r := (1, 4, 2, 341)) (by decide +kernel) hg3371 (tv43 hg3371) aw43 rfl rfl (g_rU (f := 4) (T2 := 48) hg3371 (tv43 hg3371) aw43 rfl (by decide)) ?_
              refine y_same (i := .iload_n 2) (len := 1) (r := (0, 0, 0, 0)) (pc' := 81) (ls' := [some (.inl (some 43)), some (zi xx), some (zi y3361), some (zi xi), some (zi xw)]) (st' := [zi y3361, .inl (some 48)]) (by decide +kernel) (fun k q => by cases q) rfl ?_
              refine y_ic (c := 1) (len := 1) (r := (0, 0, 0, 0)) (by decide +kernel) (by decide) (fun y3372 hy3372 => ?_)
              refine y_add (len := 1) (r := (0, 0, 0, 0)) (by decide +kernel) (by omega) (by omega) (fun y3373 hy3373 => ?_)
              refine y_same (i := .aload_n 0) (len := 1) (r := (0, 0, 0, 0)) (pc' := 84) (ls' := [some (.inl (some 43)), some (zi xx), some (zi y3361), some (zi xi), some (zi xw)]) (st' := [.inl (some 43), zi y3373, .inl (some 48)]) (by decide +kernel) (fun k q => by cases q) rfl ?_
              refine y_get (j := 18) (len := 3) (r := (1, 2, 2, 339)) (by decide +kernel) hg3371 (tv43 hg3371) aw43 rfl rfl (g_rU (f := 2) (T2 := 46) hg3371 (tv43 hg3371) aw43 rfl (by decide)) ?_
              refine y_same (i := .iload 4) (len := 2) (r := (0, 0, 0, 0)) (pc' := 89) (ls' := [some (.inl (some 43)), some (zi xx), some (zi y3361), some (zi xi), some (zi xw)]) (st' := [zi xw, .inl (some 46), zi y3373, .inl (some 48)]) (by decide +kernel) (fun k q => by cases q) rfl ?_
              have hv3374 := (F3365 46 w (by omega)).trans ha3365
              have hv3375 := (ho3371 46 w (Or.inl (by omega))).trans hv3374
              refine y_ial (i := w) (len := 1) (r := (0, 0, 0, 0)) (by decide +kernel) hg3371 (tv46 hg3371) aw46 (by omega) hv3375 ?_
              refine y_ias (i := (s.length + 1)) (len := 1) (r := (0, 0, 0, 0)) (by decide +kernel) hg3371 (tv48 hg3371) aw48 rfl (by omega) (by omega) (sr1 (by omega)) (qin_full _).1 (qin_full _).2 (fun h3376 hg3376 hl3376 hs3376 ho3376 => ?_)
              refine y_inc (j := 2) (a := y3361) (c := 2) (ls' := fun v => [some (.inl (some 43)), some (zi xx), some v, some (zi xi), some (zi xw)]) (len := 3) (r := (0, 0, 0, 0)) (by decide +kernel) rfl (fun _ => rfl) (by decide) (by omega) (by omega) (fun y3377 hy3377 => ?_)
              show qX (d + 1) 22 94 [some (.inl (some 43)), some (zi xx), some (zi y3377), some (zi xi), some (zi xw)] [] h3376 t _
              refine y_inc (j := 3) (a := xi) (c := 1) (ls' := fun v => [some (.inl (some 43)), some (zi xx), some (zi y3377), some v, some (zi xw)]) (len := 3) (r := (0, 0, 0, 0)) (by decide +kernel) rfl (fun _ => rfl) (by decide) (by omega) (by omega) (fun y3378 hy3378 => ?_)
              show qX (d + 1) 22 97 [some (.inl (some 43)), some (zi xx), some (zi y3377), some (zi y3378), some (zi xw)] [] h3376 t _
              refine y_goto (off := (-86)) (pc' := 11) (len := 3) (r := (0, 0, 0, 0)) (by decide +kernel) (by decide +kernel) ?_
              have hv3379 := (ho3376 48 (s.length) (Or.inr (by omega))).trans hs3371
              have hB := hw.2 w (by rw [t23365]; decide)
              have hw1 := hw.1
              have hc9 := cu_tk hw10 tk3365
              have cl9 := cu_le (u := u3365)
              rw [tkT_s (by omega) tk3365]
              have sc9 : stC h3376 (H.2.1 w :: H.2.2.1 w :: s) := ⟨⟨_, hs3376, ea3365⟩, ⟨_, hv3379, eb3365⟩, stC_up sc2 (fun j hj => ((ho3376 48 j (by omega)).trans ((ho3371 48 j (by omega)).trans (F3365 48 j (by omega)))))⟩
              have lw9 : (H.2.1 w :: H.2.2.1 w :: s).length = s.length + 2 := rfl
              refine ih h3376 (H.2.1 w :: H.2.2.1 w :: s) u3365 y3377 y3378 (i + 1) _ m9 hg3376 (by omega) (hpC_up hp (fun k j hC => ((ho3376 k j (by omega)).trans ((ho3371 k j (by omega)).trans (F3365 k j (by omega)))))) (usC_up uc3365 ((ho3376 43 5 (by omega)).trans (ho3371 43 5 (by omega)))) sc9 (fun v hv => ?_) (fun k j hC => (((ho3376 k j (by omega)).trans ((ho3371 k j (by omega)).trans (F3365 k j (by omega))))).trans (F0 k j hC)) (by omega) (by omega) (by omega) (by omega) (by omega) (by omega)
              rcases List.mem_cons.mp hv with e9 | e9
              · omega
              · rcases List.mem_cons.mp e9 with e9 | e9
                · omega
                · exact sb2 v e9
            ·
              exfalso
              omega
          ·
            subst hh3365
            refine y_iT (c := .eq) (off := 14) (pc' := 61) (len := 3) (r := (0, 0, 0, 0)) (by decide +kernel) (acmpT (c := .eq) (by show _ = _; omega)) (by decide +kernel) ?_
            refine y_ic (c := 0) (len := 1) (r := (0, 0, 0, 0)) (by decide +kernel) (by decide) (fun y3380 hy3380 => ?_)
            refine y_rI (len := 1) (r := (0, 0, 0, 0)) (nL := 5) (k := 2) (n9 := 2) (hs := []) (by decide +kernel) rfl (zfit_b (by omega) (by omega)).2 ?_
            exact ⟨hg, F0, Or.inr ⟨tkT_n (by omega) tk3365, by omega⟩⟩
theorem e_tt {d t x : Nat} {τ : List Nat} {h : zh} {H : hpT} {u : usT} {xx : Int32} (hg : hG τ h) (hp : hpC h H) (uc : usC h u) (hw : hpW H) (exx : xx.toInt = (x : Int)) (hx : x ≤ 10) : qI (d + 2) 22 [some (.inl (some 43)), some (zi xx), none, none, none] h t (fun y9 h1 => hG τ h1 ∧ (∀ k j, (k ≠ 48 ∧ (k ≠ 43 ∨ j ≠ 5)) → hsl h1 k j = hsl h k j) ∧ ((∃ u', tkT H 23 u [x] = some u' ∧ y9.toInt = 1 ∧ usC h1 u') ∨ (tkT H 23 u [x] = none ∧ y9.toInt = 0))) := by
  have cl := cu_le (u := u)
  refine qI_of ?_
  refine y_ic (c := 1) (len := 1) (r := (0, 0, 0, 0)) (by decide +kernel) (by decide) (fun y3381 hy3381 => ?_)
  refine y_same (i := .istore_n 2) (len := 1) (r := (0, 0, 0, 0)) (pc' := 2) (ls' := [some (.inl (some 43)), some (zi xx), some (zi y3381), none, none]) (st' := []) (by decide +kernel) (fun k q => by cases q) rfl ?_
  refine y_same (i := .aload_n 0) (len := 1) (r := (0, 0, 0, 0)) (pc' := 3) (ls' := [some (.inl (some 43)), some (zi xx), some (zi y3381), none, none]) (st' := [.inl (some 43)]) (by decide +kernel) (fun k q => by cases q) rfl ?_
  refine y_get (j := 24) (len := 3) (r := (1, 4, 2, 341)) (by decide +kernel) hg (tv43 hg) aw43 rfl rfl (g_rU (f := 4) (T2 := 48) hg (tv43 hg) aw43 rfl (by decide)) ?_
  refine y_ic (c := 0) (len := 1) (r := (0, 0, 0, 0)) (by decide +kernel) (by decide) (fun y3382 hy3382 => ?_)
  refine y_same (i := .iload_n 1) (len := 1) (r := (0, 0, 0, 0)) (pc' := 8) (ls' := [some (.inl (some 43)), some (zi xx), some (zi y3381), none, none]) (st' := [zi xx, zi y3382, .inl (some 48)]) (by decide +kernel) (fun k q => by cases q) rfl ?_
  refine y_ias (i := 0) (len := 1) (r := (0, 0, 0, 0)) (by decide +kernel) hg (tv48 hg) aw48 rfl (by omega) (by omega) (sr1 (by omega)) (qin_full _).1 (qin_full _).2 (fun h3383 hg3383 hl3383 hs3383 ho3383 => ?_)
  refine y_ic (c := 0) (len := 1) (r := (0, 0, 0, 0)) (by decide +kernel) (by decide) (fun y3384 hy3384 => ?_)
  refine y_same (i := .istore_n 3) (len := 1) (r := (0, 0, 0, 0)) (pc' := 11) (ls' := [some (.inl (some 43)), some (zi xx), some (zi y3381), some (zi y3384), none]) (st' := []) (by decide +kernel) (fun k q => by cases q) rfl ?_
  refine qX_I (tt_l (h0 := h) hw 22 h3383 [x] u y3381 y3384 0 _ 23 hg3383 (by simp only [List.length_cons, List.length_nil]; omega) (hpC_up hp (fun k j hC => (ho3383 k j (by omega)))) (usC_up uc (ho3383 43 5 (by omega))) ⟨⟨_, hs3383, exx⟩, trivial⟩ (fun v hv => by rw [List.mem_singleton.mp hv]; exact hx) (fun k j hC => (ho3383 k j (by omega))) (by simp only [List.length_cons, List.length_nil]; omega) (by omega) (by simp only [List.length_cons, List.length_nil]; omega) (by simp only [List.length_cons, List.length_nil]; omega) (by simp only [List.length_cons, List.length_nil]; omega) (by simp only [List.length_cons, List.length_nil]; omega)) (fun y h1 hR => hR)
