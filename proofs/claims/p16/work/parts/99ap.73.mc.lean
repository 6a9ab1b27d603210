/-! the reference: a STEP, perhaps CYCLE -/
def nvI (L : List enT) : Prop := ∀ e ∈ L, e.2.1 ≠ 0 → ∀ a, ¬ e.1.2.2.2 a a
theorem nv_vd {s : sqT} (n : ¬ vd_ s) : ∀ a, ¬ s.2.2.2 a a := fun a q => n (Or.inl ⟨a, a, q, rfl⟩)
def F4 (n : Nat) (h h1 : zh) : Prop := ∀ k j, k ≠ 68 → k ≠ 69 → (k ≠ 376 ∨ j ≠ n) → hsl h1 k j = hsl h k j
theorem F4_tr {n : Nat} {h h1 h2 : zh} (a : F4 n h h1) (b : F4 n h1 h2) : F4 n h h2 := fun k j h1 h2 h3 => (b k j h1 h2 h3).trans (a k j h1 h2 h3)
theorem cym_l {d t n : Nat} {τ : List Nat} {h0 : zh} {L : List enT} {s : sqT} {P : zo × zh × Nat → Prop} {xk : Int32} (hxk : xk.toInt = (n : Int)) (hn9 : n < 300) (Qn0 : QM τ h0 (71 + n) s) (pE0 : ∀ (k : Nat) (e : enT), L[k]? = some e → pmE τ h0 k e) (hL : L.length = n) (wl : ∀ e ∈ L, wfE e) (nv : nvI L) (ch : chI L) : ∀ (n9 : Nat) (h : zh) (kk : Int) (xa : Int32) (g : Prop) (xg : Int32), hG τ h → F4 n h0 h → kx_ h 376 n (-1) → kx_ h 52 32 0 → ((xg.toInt = 1 ∧ g) ∨ (xg.toInt = 0 ∧ ¬ g)) → xa.toInt = kk → (kk = -1 ∨ ∃ (j : Nat) (e : enT), kk = (j : Int) ∧ L[j]? = some e ∧ 3 ≤ e.2.1 ∧ e.2.1 ≤ 8 ∧ e.2.2.2.2.1 ≤ n9) → (∀ (h9 : zh) (l3 l4 : Option zv), F4 n h0 h9 → hG τ h9 → cyG L s n9 kk g → (∃ j : Nat, ci_ h9 376 n j) → qX (d + 5) 233 88 [some (.inl (some 52)), some (zi xk), some (.inl (some (71 + n))), l3, l4] [] h9 t P) → (∀ (h9 : zh) (l3 l4 : Option zv), F4 n h0 h9 → hG τ h9 → ¬ cyG L s n9 kk g → kx_ h9 376 n (-1) → qX (d + 5) 233 88 [some (.inl (some 52)), some (zi xk), some (.inl (some (71 + n))), l3, l4] [] h9 t P) → qX (d + 5) 233 17 [some (.inl (some 52)), some (zi xk), some (.inl (some ((71 + n)))), some (zi xg), some (zi xa)] [] h t P := by
  intro n9
  induction n9 with
  | zero =>
    intro h kk xa g xg hg F0 cq co hgn hxa hk kc kn
    obtain ⟨xq, hl376, eq⟩ := cq
    obtain ⟨xo, ho32, eo⟩ := co
    have hk0 : kk = -1 := hk.elim id (fun q => by obtain ⟨j, e, q1, q2, q3, q4, q5⟩ := q; have := (wl e (List.mem_of_getElem? q2)).2.1; omega)
    refine y_same (i := .iload 4) (len := 2) (r := (0, 0, 0, 0)) (pc' := 19) (ls' := [some (.inl (some 52)), some (zi xk), some (.inl (some ((71 + n)))), some (zi xg), some (zi xa)]) (st' := [zi xa]) (by decide +kernel) (fun k q => by cases q) rfl ?_
    refine y_ic (c := (-1)) (len := 1) (r := (0, 0, 0, 0)) (by decide +kernel) (by decide) (fun y3958 hy3958 => ?_)
    refine y_cT (c := .eq) (off := 68) (pc' := 88) (len := 3) (r := (0, 0, 0, 0)) (by decide +kernel) (acmpT (c := .eq) (by show _ = _; omega)) (by decide +kernel) ?_
    exact kn h (some (zi xg)) (some (zi xa)) F0 hg (fun q => q) ⟨_, hl376, by omega⟩
  | succ n9 ih =>
    intro h kk xa g xg hg F0 cq co hgn hxa hk kc kn
    obtain ⟨xq, hl376, eq⟩ := cq
    obtain ⟨xo, ho32, eo⟩ := co
    refine y_same (i := .iload 4) (len := 2) (r := (0, 0, 0, 0)) (pc' := 19) (ls' := [some (.inl (some 52)), some (zi xk), some (.inl (some ((71 + n)))), some (zi xg), some (zi xa)]) (st' := [zi xa]) (by decide +kernel) (fun k q => by cases q) rfl ?_
    refine y_ic (c := (-1)) (len := 1) (r := (0, 0, 0, 0)) (by decide +kernel) (by decide) (fun y3959 hy3959 => ?_)
    rcases Decidable.em (xa.toInt = y3959.toInt) with q3960 | q3960
    ·
      refine y_cT (c := .eq) (off := 68) (pc' := 88) (len := 3) (r := (0, 0, 0, 0)) (by decide +kernel) (acmpT (c := .eq) (by show _ = _; omega)) (by decide +kernel) ?_
      exact kn h (some (zi xg)) (some (zi xa)) (F4_tr F0 (fun k j9 h1 h2 h3 => rfl)) hg (cyG_neg (by omega)) ⟨_, hl376, by omega⟩
    ·
      refine y_cF (c := .eq) (off := 68) (len := 3) (r := (0, 0, 0, 0)) (by decide +kernel) (acmpF (c := .eq) (by show ¬ (_ = _); omega)) ?_
      refine y_same (i := .aload_n 0) (len := 1) (r := (0, 0, 0, 0)) (pc' := 24) (ls' := [some (.inl (some 52)), some (zi xk), some (.inl (some ((71 + n)))), some (zi xg), some (zi xa)]) (st' := [.inl (some 52)]) (by decide +kernel) (fun k q => by cases q) rfl ?_
      refine y_get (j := 363) (len := 3) (r := (12, 32, 1, 1360)) (by decide +kernel) hg (t52 hg) at52 rfl rfl ho32 ?_
      refine y_iF (c := .ne) (off := 61) (len := 3) (r := (0, 0, 0, 0)) (by decide +kernel) (acmpF (c := .ne) (by show _ = _; omega)) ?_
      refine y_same (i := .aload_n 0) (len := 1) (r := (0, 0, 0, 0)) (pc' := 31) (ls' := [some (.inl (some 52)), some (zi xk), some (.inl (some ((71 + n)))), some (zi xg), some (zi xa)]) (st' := [.inl (some 52)]) (by decide +kernel) (fun k q => by cases q) rfl ?_
      refine y_get (j := 55) (len := 3) (r := (12, 21, 2, 1349)) (by decide +kernel) hg (t52 hg) at52 rfl rfl (g_r52 (f := 21) (T2 := 376) hg rfl (by decide)).1 ?_
      refine y_same (i := .iload_n 1) (len := 1) (r := (0, 0, 0, 0)) (pc' := 35) (ls' := [some (.inl (some 52)), some (zi xk), some (.inl (some ((71 + n)))), some (zi xg), some (zi xa)]) (st' := [zi xk, .inl (some 376)]) (by decide +kernel) (fun k q => by cases q) rfl ?_
      refine y_ial (i := n) (len := 1) (r := (0, 0, 0, 0)) (by decide +kernel) hg (tu376 hg) at376 (by omega) hl376 ?_
      refine y_ic (c := (-1)) (len := 1) (r := (0, 0, 0, 0)) (by decide +kernel) (by decide) (fun y3961 hy3961 => ?_)
      refine y_cF (c := .ne) (off := 51) (len := 3) (r := (0, 0, 0, 0)) (by decide +kernel) (acmpF (c := .ne) (by show _ = _; omega)) ?_
      obtain ⟨j, e, rfl, ke, h3, h8, hrow⟩ : ∃ (j : Nat) (e : enT), kk = (j : Int) ∧ L[j]? = some e ∧ 3 ≤ e.2.1 ∧ e.2.1 ≤ 8 ∧ e.2.2.2.2.1 ≤ n9 + 1 := hk.elim (fun q => absurd q (by omega)) id
      have wf := wl e (List.mem_of_getElem? ke)
      have nDj := nv e (List.mem_of_getElem? ke) (by omega)
      have hj9 := (List.getElem?_eq_some_iff.mp ke).1
      have pj := pmE_up (pE0 j e ke) hg (fun k j9 hC => F0 k j9 (by omega) (by omega) (by omega))
      obtain ⟨c3, c2, c1, qj, c4, c5⟩ := pj
      have Qj := qj (by omega)
      have Qn := QM_up Qn0 hg (fun j9 => F0 (71 + n) j9 (by omega) (by omega) (by omega))
      have cs := cyG_s (x := s) (f := n9) (g := g) ke
      obtain ⟨xp, hp371, ep371⟩ := c1
      rcases hgn with ⟨vg, pg⟩ | ⟨vg, pg⟩
      ·
        refine y_same (i := .iload_n 3) (len := 1) (r := (0, 0, 0, 0)) (pc' := 41) (ls' := [some (.inl (some 52)), some (zi xk), some (.inl (some ((71 + n)))), some (zi xg), some (zi xa)]) (st' := [zi xg]) (by decide +kernel) (fun k q => by cases q) rfl ?_
        refine y_same (i := .aload_n 0) (len := 1) (r := (0, 0, 0, 0)) (pc' := 42) (ls' := [some (.inl (some 52)), some (zi xk), some (.inl (some ((71 + n)))), some (zi xg), some (zi xa)]) (st' := [.inl (some 52), zi xg]) (by decide +kernel) (fun k q => by cases q) rfl ?_
        refine y_same (i := .iload 4) (len := 2) (r := (0, 0, 0, 0)) (pc' := 44) (ls' := [some (.inl (some 52)), some (zi xk), some (.inl (some ((71 + n)))), some (zi xg), some (zi xa)]) (st' := [zi xa, .inl (some 52), zi xg]) (by decide +kernel) (fun k q => by cases q) rfl ?_
        refine y_cI (i := .invokevirtual 366) (len := 3) (r := (0, 232, 12, 1734)) (nL := 2) (k := 2) (n := 2) (hs := []) (args := [.inl (some 52), zi xa]) (rest := [zi xg]) (l0 := [some (.inl (some 52)), some (zi xa)]) (by decide +kernel) (Or.inr (Or.inl ⟨_, rfl⟩)) rfl rfl rfl rfl (Nat.le_of_ble_eq_true rfl) (z52 hg) rfl (qI_le (by omega) (m_lst (d := 0) wf h3 h8 (by omega) Qj c3 (c5 h3) (by omega))) (fun y3962 qy3962 hRy3962 => ?_)
        obtain ⟨rfl, hDy3962⟩ := hRy3962
        rcases hDy3962 with ⟨vy3962, by3962⟩ | ⟨vy3962, by3962⟩
        ·
          refine y_bp (i := .ior) (f := fun x y => x ||| y) (len := 1) (r := (0, 0, 0, 0)) (by decide +kernel) rfl rfl (fun y3963 hy3963 => ?_)
          have hy3963 : y3963 = xg ||| y3962 := hy3963
          have zy3963 : y3963.toInt = 1 := by rw [hy3963, nI_of_i (n := 1) vg, nI_of_i (n := 1) vy3962]; decide
          refine y_same (i := .istore_n 3) (len := 1) (r := (0, 0, 0, 0)) (pc' := 49) (ls' := [some (.inl (some 52)), some (zi xk), some (.inl (some ((71 + n)))), some (zi y3963), some (zi xa)]) (st' := []) (by decide +kernel) (fun k q => by cases q) rfl ?_
          refine y_same (i := .iload_n 3) (len := 1) (r := (0, 0, 0, 0)) (pc' := 50) (ls' := [some (.inl (some 52)), some (zi xk), some (.inl (some ((71 + n)))), some (zi y3963), some (zi xa)]) (st' := [zi y3963]) (by decide +kernel) (fun k q => by cases q) rfl ?_
          refine y_iF (c := .eq) (off := 26) (len := 3) (r := (0, 0, 0, 0)) (by decide +kernel) (acmpF (c := .eq) (by show ¬ (_ = _); omega)) ?_
          refine y_same (i := .aload_n 0) (len := 1) (r := (0, 0, 0, 0)) (pc' := 54) (ls' := [some (.inl (some 52)), some (zi xk), some (.inl (some ((71 + n)))), some (zi y3963), some (zi xa)]) (st' := [.inl (some 52)]) (by decide +kernel) (fun k q => by cases q) rfl ?_
          refine y_same (i := .aload_n 0) (len := 1) (r := (0, 0, 0, 0)) (pc' := 55) (ls' := [some (.inl (some 52)), some (zi xk), some (.inl (some ((71 + n)))), some (zi y3963), some (zi xa)]) (st' := [.inl (some 52), .inl (some 52)]) (by decide +kernel) (fun k q => by cases q) rfl ?_
          refine y_get (j := 37) (len := 3) (r := (12, 15, 2, 1343)) (by decide +kernel) hg (t52 hg) at52 rfl rfl (g_r52 (f := 15) (T2 := 70) hg rfl (by decide)).1 ?_
          refine y_same (i := .iload 4) (len := 2) (r := (0, 0, 0, 0)) (pc' := 60) (ls' := [some (.inl (some 52)), some (zi xk), some (.inl (some ((71 + n)))), some (zi y3963), some (zi xa)]) (st' := [zi xa, .inl (some 70), .inl (some 52)]) (by decide +kernel) (fun k q => by cases q) rfl ?_
          refine y_aal (i := j) (len := 1) (r := (0, 0, 0, 0)) (by decide +kernel) hg (tu70 hg) at70 rfl (by omega) (hg.2.2 j (by omega)) ?_
          refine y_same (i := .aload_n 2) (len := 1) (r := (0, 0, 0, 0)) (pc' := 62) (ls' := [some (.inl (some 52)), some (zi xk), some (.inl (some ((71 + n)))), some (zi y3963), some (zi xa)]) (st' := [.inl (some ((71 + n))), .inl (some ((71 + j))), .inl (some 52)]) (by decide +kernel) (fun k q => by cases q) rfl ?_
          refine y_cI (i := .invokevirtual 369) (len := 3) (r := (0, 224, 12, 1738)) (nL := 6) (k := 2) (n := 3) (hs := []) (args := [.inl (some 52), .inl (some ((71 + j))), .inl (some ((71 + n)))]) (rest := []) (l0 := [some (.inl (some 52)), some (.inl (some ((71 + j)))), some (.inl (some ((71 + n)))), none, none, none]) (by decide +kernel) (Or.inr (Or.inl ⟨_, rfl⟩)) rfl rfl rfl rfl (Nat.le_of_ble_eq_true rfl) (z52 hg) rfl (qI_le (by omega) (m_alk (d := 0) (by omega) (by omega) nDj Qj Qn)) (fun y3964 h3964 hRy3964 => ?_)
          obtain ⟨hg3964, F3964, hDy3964⟩ := hRy3964
          rcases hDy3964 with ⟨vy3964, by3964⟩ | ⟨vy3964, by3964⟩
          ·
            refine y_iF (c := .eq) (off := 11) (len := 3) (r := (0, 0, 0, 0)) (by decide +kernel) (acmpF (c := .eq) (by show ¬ (_ = _); omega)) ?_
            refine y_same (i := .aload_n 0) (len := 1) (r := (0, 0, 0, 0)) (pc' := 69) (ls' := [some (.inl (some 52)), some (zi xk), some (.inl (some ((71 + n)))), some (zi y3963), some (zi xa)]) (st' := [.inl (some 52)]) (by decide +kernel) (fun k q => by cases q) rfl ?_
            refine y_get (j := 55) (len := 3) (r := (12, 21, 2, 1349)) (by decide +kernel) hg3964 (t52 hg3964) at52 rfl rfl (g_r52 (f := 21) (T2 := 376) hg3964 rfl (by decide)).1 ?_
            refine y_same (i := .iload_n 1) (len := 1) (r := (0, 0, 0, 0)) (pc' := 73) (ls' := [some (.inl (some 52)), some (zi xk), some (.inl (some ((71 + n)))), some (zi y3963), some (zi xa)]) (st' := [zi xk, .inl (some 376)]) (by decide +kernel) (fun k q => by cases q) rfl ?_
            refine y_same (i := .iload 4) (len := 2) (r := (0, 0, 0, 0)) (pc' := 75) (ls' := [some (.inl (some 52)), some (zi xk), some (.inl (some ((71 + n)))), some (zi y3963), some (zi xa)]) (st' := [zi xa, zi xk, .inl (some 376)]) (by decide +kernel) (fun k q => by cases q) rfl ?_
            refine y_ias (i := n) (len := 1) (r := (0, 0, 0, 0)) (by decide +kernel) hg3964 (tu376 hg3964) at376 rfl (by omega) (by omega) (sr1 (by omega)) (by omega) (by omega) (fun h3965 hg3965 hl3965 hs3965 ho3965 => ?_)
            refine y_same (i := .aload_n 0) (len := 1) (r := (0, 0, 0, 0)) (pc' := 77) (ls' := [some (.inl (some 52)), some (zi xk), some (.inl (some ((71 + n)))), some (zi y3963), some (zi xa)]) (st' := [.inl (some 52)]) (by decide +kernel) (fun k q => by cases q) rfl ?_
            refine y_get (j := 40) (len := 3) (r := (12, 16, 2, 1344)) (by decide +kernel) hg3965 (t52 hg3965) at52 rfl rfl (g_r52 (f := 16) (T2 := 371) hg3965 rfl (by decide)).1 ?_
            refine y_same (i := .iload 4) (len := 2) (r := (0, 0, 0, 0)) (pc' := 82) (ls' := [some (.inl (some 52)), some (zi xk), some (.inl (some ((71 + n)))), some (zi y3963), some (zi xa)]) (st' := [zi xa, .inl (some 371)]) (by decide +kernel) (fun k q => by cases q) rfl ?_
            have hv3966 := (F3964 371 j (by omega) (by omega)).trans hp371
            have hv3967 := (ho3965 371 j (Or.inl (by omega))).trans hv3966
            refine y_ial (i := j) (len := 1) (r := (0, 0, 0, 0)) (by decide +kernel) hg3965 (tu371 hg3965) at371 (by omega) hv3967 ?_
            refine y_same (i := .istore 4) (len := 2) (r := (0, 0, 0, 0)) (pc' := 85) (ls' := [some (.inl (some 52)), some (zi xk), some (.inl (some ((71 + n)))), some (zi y3963), some (zi xp)]) (st' := []) (by decide +kernel) (fun k q => by cases q) rfl ?_
            refine y_goto (off := (-68)) (pc' := 17) (len := 3) (r := (0, 0, 0, 0)) (by decide +kernel) (by decide +kernel) ?_
            refine y_same (i := .iload 4) (len := 2) (r := (0, 0, 0, 0)) (pc' := 19) (ls' := [some (.inl (some 52)), some (zi xk), some (.inl (some ((71 + n)))), some (zi y3963), some (zi xp)]) (st' := [zi xp]) (by decide +kernel) (fun k q => by cases q) rfl ?_
            refine y_ic (c := (-1)) (len := 1) (r := (0, 0, 0, 0)) (by decide +kernel) (by decide) (fun y3968 hy3968 => ?_)
            rcases Decidable.em (xp.toInt = y3968.toInt) with q3969 | q3969
            ·
              refine y_cT (c := .eq) (off := 68) (pc' := 88) (len := 3) (r := (0, 0, 0, 0)) (by decide +kernel) (acmpT (c := .eq) (by show _ = _; omega)) (by decide +kernel) ?_
              exact kc h3965 (some (zi y3963)) (some (zi xp)) (F4_tr F0 (fun k j9 h1 h2 h3 => ((ho3965 k j9 (by omega)).trans (F3964 k j9 (by omega) (by omega))))) hg3965 (cs.mpr (Or.inl ⟨Or.inl pg, by3964⟩)) ⟨j, ⟨_, hs3965, by omega⟩⟩
            ·
              refine y_cF (c := .eq) (off := 68) (len := 3) (r := (0, 0, 0, 0)) (by decide +kernel) (acmpF (c := .eq) (by show ¬ (_ = _); omega)) ?_
              refine y_same (i := .aload_n 0) (len := 1) (r := (0, 0, 0, 0)) (pc' := 24) (ls' := [some (.inl (some 52)), some (zi xk), some (.inl (some ((71 + n)))), some (zi y3963), some (zi xp)]) (st' := [.inl (some 52)]) (by decide +kernel) (fun k q => by cases q) rfl ?_
              have hv3970 := (F3964 52 32 (by omega) (by omega)).trans ho32
              have hv3971 := (ho3965 52 32 (Or.inl (by omega))).trans hv3970
              refine y_get (j := 363) (len := 3) (r := (12, 32, 1, 1360)) (by decide +kernel) hg3965 (t52 hg3965) at52 rfl rfl hv3971 ?_
              refine y_iF (c := .ne) (off := 61) (len := 3) (r := (0, 0, 0, 0)) (by decide +kernel) (acmpF (c := .ne) (by show _ = _; omega)) ?_
              refine y_same (i := .aload_n 0) (len := 1) (r := (0, 0, 0, 0)) (pc' := 31) (ls' := [some (.inl (some 52)), some (zi xk), some (.inl (some ((71 + n)))), some (zi y3963), some (zi xp)]) (st' := [.inl (some 52)]) (by decide +kernel) (fun k q => by cases q) rfl ?_
              refine y_get (j := 55) (len := 3) (r := (12, 21, 2, 1349)) (by decide +kernel) hg3965 (t52 hg3965) at52 rfl rfl (g_r52 (f := 21) (T2 := 376) hg3965 rfl (by decide)).1 ?_
              refine y_same (i := .iload_n 1) (len := 1) (r := (0, 0, 0, 0)) (pc' := 35) (ls' := [some (.inl (some 52)), some (zi xk), some (.inl (some ((71 + n)))), some (zi y3963), some (zi xp)]) (st' := [zi xk, .inl (some 376)]) (by decide +kernel) (fun k q => by cases q) rfl ?_
              refine y_ial (i := n) (len := 1) (r := (0, 0, 0, 0)) (by decide +kernel) hg3965 (tu376 hg3965) at376 (by omega) hs3965 ?_
              refine y_ic (c := (-1)) (len := 1) (r := (0, 0, 0, 0)) (by decide +kernel) (by decide) (fun y3972 hy3972 => ?_)
              refine y_cT (c := .ne) (off := 51) (pc' := 88) (len := 3) (r := (0, 0, 0, 0)) (by decide +kernel) (acmpT (c := .ne) (by show ¬ (_ = _); omega)) (by decide +kernel) ?_
              exact kc h3965 (some (zi y3963)) (some (zi xp)) (F4_tr F0 (fun k j9 h1 h2 h3 => ((ho3965 k j9 (by omega)).trans (F3964 k j9 (by omega) (by omega))))) hg3965 (cs.mpr (Or.inl ⟨Or.inl pg, by3964⟩)) ⟨j, ⟨_, hs3965, by omega⟩⟩
          ·
            refine y_iT (c := .eq) (off := 11) (pc' := 76) (len := 3) (r := (0, 0, 0, 0)) (by decide +kernel) (acmpT (c := .eq) (by show _ = _; omega)) (by decide +kernel) ?_
            refine y_same (i := .aload_n 0) (len := 1) (r := (0, 0, 0, 0)) (pc' := 77) (ls' := [some (.inl (some 52)), some (zi xk), some (.inl (some ((71 + n)))), some (zi y3963), some (zi xa)]) (st' := [.inl (some 52)]) (by decide +kernel) (fun k q => by cases q) rfl ?_
            refine y_get (j := 40) (len := 3) (r := (12, 16, 2, 1344)) (by decide +kernel) hg3964 (t52 hg3964) at52 rfl rfl (g_r52 (f := 16) (T2 := 371) hg3964 rfl (by decide)).1 ?_
            refine y_same (i := .iload 4) (len := 2) (r := (0, 0, 0, 0)) (pc' := 82) (ls' := [some (.inl (some 52)), some (zi xk), some (.inl (some ((71 + n)))), some (zi y3963), some (zi xa)]) (st' := [zi xa, .inl (some 371)]) (by decide +kernel) (fun k q => by cases q) rfl ?_
            have hv3973 := (F3964 371 j (by omega) (by omega)).trans hp371
            refine y_ial (i := j) (len := 1) (r := (0, 0, 0, 0)) (by decide +kernel) hg3964 (tu371 hg3964) at371 (by omega) hv3973 ?_
            refine y_same (i := .istore 4) (len := 2) (r := (0, 0, 0, 0)) (pc' := 85) (ls' := [some (.inl (some 52)), some (zi xk), some (.inl (some ((71 + n)))), some (zi y3963), some (zi xp)]) (st' := []) (by decide +kernel) (fun k q => by cases q) rfl ?_
            refine y_goto (off := (-68)) (pc' := 17) (len := 3) (r := (0, 0, 0, 0)) (by decide +kernel) (by decide +kernel) ?_
            have hk2 : e.2.2.2.2.2 = -1 ∨ ∃ (j9 : Nat) (e9 : enT), e.2.2.2.2.2 = (j9 : Int) ∧ L[j9]? = some e9 ∧ 3 ≤ e9.2.1 ∧ e9.2.1 ≤ 8 ∧ e9.2.2.2.2.1 ≤ n9 := (ch j e ke).elim (fun q => Or.inl q.1) (fun q => by obtain ⟨i9, e9, q1, q2, q3, q4, q5, q6⟩ := q; exact Or.inr ⟨i9, e9, q1, q3, q5, q6, by omega⟩)
            have hv3974 := (F3964 376 n (by omega) (by omega)).trans hl376
            have hv3975 := (F3964 52 32 (by omega) (by omega)).trans ho32
            exact ih h3964 e.2.2.2.2.2 xp (g ∨ lst_ e) y3963 hg3964 (F4_tr F0 (fun k j9 h1 h2 h3 => (F3964 k j9 (by omega) (by omega)))) ⟨_, hv3974, by omega⟩ ⟨_, hv3975, by omega⟩ (Or.inl ⟨by omega, Or.inl pg⟩) (by omega) hk2 (fun h9 l3 l4 f9 g9 q9 c9 => kc h9 l3 l4 f9 g9 (cs.mpr (Or.inr q9)) c9) (fun h9 l3 l4 f9 g9 q7 c9 => kn h9 l3 l4 f9 g9 (fun q9 => (cs.mp q9).elim (fun q8 => by3964 q8.2) q7) c9)
        ·
          refine y_bp (i := .ior) (f := fun x y => x ||| y) (len := 1) (r := (0, 0, 0, 0)) (by decide +kernel) rfl rfl (fun y3976 hy3976 => ?_)
          have hy3976 : y3976 = xg ||| y3962 := hy3976
          have zy3976 : y3976.toInt = 1 := by rw [hy3976, nI_of_i (n := 1) vg, nI_of_i (n := 0) vy3962]; decide
          refine y_same (i := .istore_n 3) (len := 1) (r := (0, 0, 0, 0)) (pc' := 49) (ls' := [some (.inl (some 52)), some (zi xk), some (.inl (some ((71 + n)))), some (zi y3976), some (zi xa)]) (st' := []) (by decide +kernel) (fun k q => by cases q) rfl ?_
          refine y_same (i := .iload_n 3) (len := 1) (r := (0, 0, 0, 0)) (pc' := 50) (ls' := [some (.inl (some 52)), some (zi xk), some (.inl (some ((71 + n)))), some (zi y3976), some (zi xa)]) (st' := [zi y3976]) (by decide +kernel) (fun k q => by cases q) rfl ?_
          refine y_iF (c := .eq) (off := 26) (len := 3) (r := (0, 0, 0, 0)) (by decide +kernel) (acmpF (c := .eq) (by show ¬ (_ = _); omega)) ?_
          refine y_same (i := .aload_n 0) (len := 1) (r := (0, 0, 0, 0)) (pc' := 54) (ls' := [some (.inl (some 52)), some (zi xk), some (.inl (some ((71 + n)))), some (zi y3976), some (zi xa)]) (st' := [.inl (some 52)]) (by decide +kernel) (fun k q => by cases q) rfl ?_
          refine y_same (i := .aload_n 0) (len := 1) (r := (0, 0, 0, 0)) (pc' := 55) (ls' := [some (.inl (some 52)), some (zi xk), some (.inl (some ((71 + n)))), some (zi y3976), some (zi xa)]) (st' := [.inl (some 52), .inl (some 52)]) (by decide +kernel) (fun k q => by cases q) rfl ?_
          refine y_get (j := 37) (len := 3) (r := (12, 15, 2, 1343)) (by decide +kernel) hg (t52 hg) at52 rfl rfl (g_r52 (f := 15) (T2 := 70) hg rfl (by decide)).1 ?_
          refine y_same (i := .iload 4) (len := 2) (r := (0, 0, 0, 0)) (pc' := 60) (ls' := [some (.inl (some 52)), some (zi xk), some (.inl (some ((71 + n)))), some (zi y3976), some (zi xa)]) (st' := [zi xa, .inl (some 70), .inl (some 52)]) (by decide +kernel) (fun k q => by cases q) rfl ?_
          refine y_aal (i := j) (len := 1) (r := (0, 0, 0, 0)) (by decide +kernel) hg (tu70 hg) at70 rfl (by omega) (hg.2.2 j (by omega)) ?_
          refine y_same (i := .aload_n 2) (len := 1) (r := (0, 0, 0, 0)) (pc' := 62) (ls' := [some (.inl (some 52)), some (zi xk), some (.inl (some ((71 + n)))), some (zi y3976), some (zi xa)]) (st' := [.inl (some ((71 + n))), .inl (some ((71 + j))), .inl (some 52)]) (by decide +kernel) (fun k q => by cases q) rfl ?_
          refine y_cI (i := .invokevirtual 369) (len := 3) (r := (0, 224, 12, 1738)) (nL := 6) (k := 2) (n := 3) (hs := []) (args := [.inl (some 52), .inl (some ((71 + j))), .inl (some ((71 + n)))]) (rest := []) (l0 := [some (.inl (some 52)), some (.inl (some ((71 + j)))), some (.inl (some ((71 + n)))), none, none, none]) (by decide +kernel) (Or.inr (Or.inl ⟨_, rfl⟩)) rfl rfl rfl rfl (Nat.le_of_ble_eq_true rfl) (z52 hg) rfl (qI_le (by omega) (m_alk (d := 0) (by omega) (by omega) nDj Qj Qn)) (fun y3977 h3977 hRy3977 => ?_)
          obtain ⟨hg3977, F3977, hDy3977⟩ := hRy3977
          rcases hDy3977 with ⟨vy3977, by3977⟩ | ⟨vy3977, by3977⟩
          ·
            refine y_iF (c := .eq) (off := 11) (len := 3) (r := (0, 0, 0, 0)) (by decide +kernel) (acmpF (c := .eq) (by show ¬ (_ = _); omega)) ?_
            refine y_same (i := .aload_n 0) (len := 1) (r := (0, 0, 0, 0)) (pc' := 69) (ls' := [some (.inl (some 52)), some (zi xk), some (.inl (some ((71 + n)))), some (zi y3976), some (zi xa)]) (st' := [.inl (some 52)]) (by decide +kernel) (fun k q => by cases q) rfl ?_
            refine y_get (j := 55) (len := 3) (r := (12, 21, 2, 1349)) (by decide +kernel) hg3977 (t52 hg3977) at52 rfl rfl (g_r52 (f := 21) (T2 := 376) hg3977 rfl (by decide)).1 ?_
            refine y_same (i := .iload_n 1) (len := 1) (r := (0, 0, 0, 0)) (pc' := 73) (ls' := [some (.inl (some 52)), some (zi xk), some (.inl (some ((71 + n)))), some (zi y3976), some (zi xa)]) (st' := [zi xk, .inl (some 376)]) (by decide +kernel) (fun k q => by cases q) rfl ?_
            refine y_same (i := .iload 4) (len := 2) (r := (0, 0, 0, 0)) (pc' := 75) (ls' := [some (.inl (some 52)), some (zi xk), some (.inl (some ((71 + n)))), some (zi y3976), some (zi xa)]) (st' := [zi xa, zi xk, .inl (some 376)]) (by decide +kernel) (fun k q => by cases q) rfl ?_
            refine y_ias (i := n) (len := 1) (r := (0, 0, 0, 0)) (by decide +kernel) hg3977 (tu376 hg3977) at376 rfl (by omega) (by omega) (sr1 (by omega)) (by omega) (by omega) (fun h3978 hg3978 hl3978 hs3978 ho3978 => ?_)
            refine y_same (i := .aload_n 0) (len := 1) (r := (0, 0, 0, 0)) (pc' := 77) (ls' := [some (.inl (some 52)), some (zi xk), some (.inl (some ((71 + n)))), some (zi y3976), some (zi xa)]) (st' := [.inl (some 52)]) (by decide +kernel) (fun k q => by cases q) rfl ?_
            refine y_get (j := 40) (len := 3) (r := (12, 16, 2, 1344)) (by decide +kernel) hg3978 (t52 hg3978) at52 rfl rfl (g_r52 (f := 16) (T2 := 371) hg3978 rfl (by decide)).1 ?_
            refine y_same (i := .iload 4) (len := 2) (r := (0, 0, 0, 0)) (pc' := 82) (ls' := [some (.inl (some 52)), some (zi xk), some (.inl (some ((71 + n)))), some (zi y3976), some (zi xa)]) (st' := [zi xa, .inl (some 371)]) (by decide +kernel) (fun k q => by cases q) rfl ?_
            have hv3979 := (F3977 371 j (by omega) (by omega)).trans hp371
            have hv3980 := (ho3978 371 j (Or.inl (by omega))).trans hv3979
            refine y_ial (i := j) (len := 1) (r := (0, 0, 0, 0)) (by decide +kernel) hg3978 (tu371 hg3978) at371 (by omega) hv3980 ?_
            refine y_same (i := .istore 4) (len := 2) (r := (0, 0, 0, 0)) (pc' := 85) (ls' := [some (.inl (some 52)), some (zi xk), some (.inl (some ((71 + n)))), some (zi y3976), some (zi xp)]) (st' := []) (by decide +kernel) (fun k q => by cases q) rfl ?_
            refine y_goto (off := (-68)) (pc' := 17) (len := 3) (r := (0, 0, 0, 0)) (by decide +kernel) (by decide +kernel) ?_
            refine y_same (i := .iload 4) (len := 2) (r := (0, 0, 0, 0)) (pc' := 19) (ls' := [some (.inl (some 52)), some (zi xk), some (.inl (some ((71 + n)))), some (zi y3976), some (zi xp)]) (st' := [zi xp]) (by decide +kernel) (fun k q => by cases q) rfl ?_
            refine y_ic (c := (-1)) (len := 1) (r := (0, 0, 0, 0)) (by decide +kernel) (by decide) (fun y3981 hy3981 => ?_)
            rcases Decidable.em (xp.toInt = y3981.toInt) with q3982 | q3982
            ·
              refine y_cT (c := .eq) (off := 68) (pc' := 88) (len := 3) (r := (0, 0, 0, 0)) (by decide +kernel) (acmpT (c := .eq) (by show _ = _; omega)) (by decide +kernel) ?_
              exact kc h3978 (some (zi y3976)) (some (zi xp)) (F4_tr F0 (fun k j9 h1 h2 h3 => ((ho3978 k j9 (by omega)).trans (F3977 k j9 (by omega) (by omega))))) hg3978 (cs.mpr (Or.inl ⟨Or.inl pg, by3977⟩)) ⟨j, ⟨_, hs3978, by omega⟩⟩
            ·
              refine y_cF (c := .eq) (off := 68) (len := 3) (r := (0, 0, 0, 0)) (by decide +kernel) (acmpF (c := .eq) (by show ¬ (_ = _); omega)) ?_
              refine y_same (i := .aload_n 0) (len := 1) (r := (0, 0, 0, 0)) (pc' := 24) (ls' := [some (.inl (some 52)), some (zi xk), some (.inl (some ((71 + n)))), some (zi y3976), some (zi xp)]) (st' := [.inl (some 52)]) (by decide +kernel) (fun k q => by cases q) rfl ?_
              have hv3983 := (F3977 52 32 (by omega) (by omega)).trans ho32
              have hv3984 := (ho3978 52 32 (Or.inl (by omega))).trans hv3983
              refine y_get (j := 363) (len := 3) (r := (12, 32, 1, 1360)) (by decide +kernel) hg3978 (t52 hg3978) at52 rfl rfl hv3984 ?_
              refine y_iF (c := .ne) (off := 61) (len := 3) (r := (0, 0, 0, 0)) (by decide +kernel) (acmpF (c := .ne) (by show _ = _; omega)) ?_
              refine y_same (i := .aload_n 0) (len := 1) (r := (0, 0, 0, 0)) (pc' := 31) (ls' := [some (.inl (some 52)), some (zi xk), some (.inl (some ((71 + n)))), some (zi y3976), some (zi xp)]) (st' := [.inl (some 52)]) (by decide +kernel) (fun k q => by cases q) rfl ?_
              refine y_get (j := 55) (len := 3) (r := (12, 21, 2, 1349)) (by decide +kernel) hg3978 (t52 hg3978) at52 rfl rfl (g_r52 (f := 21) (T2 := 376) hg3978 rfl (by decide)).1 ?_
              refine y_same (i := .iload_n 1) (len := 1) (r := (0, 0, 0, 0)) (pc' := 35) (ls' := [some (.inl (some 52)), some (zi xk), some (.inl (some ((71 + n)))), some (zi y3976), some (zi xp)]) (st' := [zi xk, .inl (some 376)]) (by decide +kernel) (fun k q => by cases q) rfl ?_
              refine y_ial (i := n) (len := 1) (r := (0, 0, 0, 0)) (by decide +kernel) hg3978 (tu376 hg3978) at376 (by omega) hs3978 ?_
              refine y_ic (c := (-1)) (len := 1) (r := (0, 0, 0, 0)) (by decide +kernel) (by decide) (fun y3985 hy3985 => ?_)
              refine y_cT (c := .ne) (off := 51) (pc' := 88) (len := 3) (r := (0, 0, 0, 0)) (by decide +kernel) (acmpT (c := .ne) (by show ¬ (_ = _); omega)) (by decide +kernel) ?_
              exact kc h3978 (some (zi y3976)) (some (zi xp)) (F4_tr F0 (fun k j9 h1 h2 h3 => ((ho3978 k j9 (by omega)).trans (F3977 k j9 (by omega) (by omega))))) hg3978 (cs.mpr (Or.inl ⟨Or.inl pg, by3977⟩)) ⟨j, ⟨_, hs3978, by omega⟩⟩
          ·
            refine y_iT (c := .eq) (off := 11) (pc' := 76) (len := 3) (r := (0, 0, 0, 0)) (by decide +kernel) (acmpT (c := .eq) (by show _ = _; omega)) (by decide +kernel) ?_
            refine y_same (i := .aload_n 0) (len := 1) (r := (0, 0, 0, 0)) (pc' := 77) (ls' := [some (.inl (some 52)), some (zi xk), some (.inl (some ((71 + n)))), some (zi y3976), some (zi xa)]) (st' := [.inl (some 52)]) (by decide +kernel) (fun k q => by cases q) rfl ?_
            refine y_get (j := 40) (len := 3) (r := (12, 16, 2, 1344)) (by decide +kernel) hg3977 (t52 hg3977) at52 rfl rfl (g_r52 (f := 16) (T2 := 371) hg3977 rfl (by decide)).1 ?_
            refine y_same (i := .iload 4) (len := 2) (r := (0, 0, 0, 0)) (pc' := 82) (ls' := [some (.inl (some 52)), some (zi xk), some (.inl (some ((71 + n)))), some (zi y3976), some (zi xa)]) (st' := [zi xa, .inl (some 371)]) (by decide +kernel) (fun k q => by cases q) rfl ?_
            have hv3986 := (F3977 371 j (by omega) (by omega)).trans hp371
            refine y_ial (i := j) (len := 1) (r := (0, 0, 0, 0)) (by decide +kernel) hg3977 (tu371 hg3977) at371 (by omega) hv3986 ?_
            refine y_same (i := .istore 4) (len := 2) (r := (0, 0, 0, 0)) (pc' := 85) (ls' := [some (.inl (some 52)), some (zi xk), some (.inl (some ((71 + n)))), some (zi y3976), some (zi xp)]) (st' := []) (by decide +kernel) (fun k q => by cases q) rfl ?_
            refine y_goto (off := (-68)) (pc' := 17) (len := 3) (r := (0, 0, 0, 0)) (by decide +kernel) (by decide +kernel) ?_
            have hk2 : e.2.2.2.2.2 = -1 ∨ ∃ (j9 : Nat) (e9 : enT), e.2.2.2.2.2 = (j9 : Int) ∧ L[j9]? = some e9 ∧ 3 ≤ e9.2.1 ∧ e9.2.1 ≤ 8 ∧ e9.2.2.2.2.1 ≤ n9 := (ch j e ke).elim (fun q => Or.inl q.1) (fun q => by obtain ⟨i9, e9, q1, q2, q3, q4, q5, q6⟩ := q; exact Or.inr ⟨i9, e9, q1, q3, q5, q6, by omega⟩)
            have hv3987 := (F3977 376 n (by omega) (by omega)).trans hl376
            have hv3988 := (F3977 52 32 (by omega) (by omega)).trans ho32
            exact ih h3977 e.2.2.2.2.2 xp (g ∨ lst_ e) y3976 hg3977 (F4_tr F0 (fun k j9 h1 h2 h3 => (F3977 k j9 (by omega) (by omega)))) ⟨_, hv3987, by omega⟩ ⟨_, hv3988, by omega⟩ (Or.inl ⟨by omega, Or.inl pg⟩) (by omega) hk2 (fun h9 l3 l4 f9 g9 q9 c9 => kc h9 l3 l4 f9 g9 (cs.mpr (Or.inr q9)) c9) (fun h9 l3 l4 f9 g9 q7 c9 => kn h9 l3 l4 f9 g9 (fun q9 => (cs.mp q9).elim (fun q8 => by3977 q8.2) q7) c9)
      ·
        refine y_same (i := .iload_n 3) (len := 1) (r := (0, 0, 0, 0)) (pc' := 41) (ls' := [some (.inl (some 52)), some (zi xk), some (.inl (some ((71 + n)))), some (zi xg), some (zi xa)]) (st' := [zi xg]) (by decide +kernel) (fun k q => by cases q) rfl ?_
        refine y_same (i := .aload_n 0) (len := 1) (r := (0, 0, 0, 0)) (pc' := 42) (ls' := [some (.inl (some 52)), some (zi xk), some (.inl (some ((71 + n)))), some (zi xg), some (zi xa)]) (st' := [.inl (some 52), zi xg]) (by decide +kernel) (fun k q => by cases q) rfl ?_
        refine y_same (i := .iload 4) (len := 2) (r := (0, 0, 0, 0)) (pc' := 44) (ls' := [some (.inl (some 52)), some (zi xk), some (.inl (some ((71 + n)))), some (zi xg), some (zi xa)]) (st' := [zi xa, .inl (some 52), zi xg]) (by decide +kernel) (fun k q => by cases q) rfl ?_
        refine y_cI (i := .invokevirtual 366) (len := 3) (r := (0, 232, 12, 1734)) (nL := 2) (k := 2) (n := 2) (hs := []) (args := [.inl (some 52), zi xa]) (rest := [zi xg]) (l0 := [some (.inl (some 52)), some (zi xa)]) (by decide +kernel) (Or.inr (Or.inl ⟨_, rfl⟩)) rfl rfl rfl rfl (Nat.le_of_ble_eq_true rfl) (z52 hg) rfl (qI_le (by omega) (m_lst (d := 0) wf h3 h8 (by omega) Qj c3 (c5 h3) (by omega))) (fun y3989 qy3989 hRy3989 => ?_)
        obtain ⟨rfl, hDy3989⟩ := hRy3989
        rcases hDy3989 with ⟨vy3989, by3989⟩ | ⟨vy3989, by3989⟩
        ·
          refine y_bp (i := .ior) (f := fun x y => x ||| y) (len := 1) (r := (0, 0, 0, 0)) (by decide +kernel) rfl rfl (fun y3990 hy3990 => ?_)
          have hy3990 : y3990 = xg ||| y3989 := hy3990
          have zy3990 : y3990.toInt = 1 := by rw [hy3990, nI_of_i (n := 0) vg, nI_of_i (n := 1) vy3989]; decide
          refine y_same (i := .istore_n 3) (len := 1) (r := (0, 0, 0, 0)) (pc' := 49) (ls' := [some (.inl (some 52)), some (zi xk), some (.inl (some ((71 + n)))), some (zi y3990), some (zi xa)]) (st' := []) (by decide +kernel) (fun k q => by cases q) rfl ?_
          refine y_same (i := .iload_n 3) (len := 1) (r := (0, 0, 0, 0)) (pc' := 50) (ls' := [some (.inl (some 52)), some (zi xk), some (.inl (some ((71 + n)))), some (zi y3990), some (zi xa)]) (st' := [zi y3990]) (by decide +kernel) (fun k q => by cases q) rfl ?_
          refine y_iF (c := .eq) (off := 26) (len := 3) (r := (0, 0, 0, 0)) (by decide +kernel) (acmpF (c := .eq) (by show ¬ (_ = _); omega)) ?_
          refine y_same (i := .aload_n 0) (len := 1) (r := (0, 0, 0, 0)) (pc' := 54) (ls' := [some (.inl (some 52)), some (zi xk), some (.inl (some ((71 + n)))), some (zi y3990), some (zi xa)]) (st' := [.inl (some 52)]) (by decide +kernel) (fun k q => by cases q) rfl ?_
          refine y_same (i := .aload_n 0) (len := 1) (r := (0, 0, 0, 0)) (pc' := 55) (ls' := [some (.inl (some 52)), some (zi xk), some (.inl (some ((71 + n)))), some (zi y3990), some (zi xa)]) (st' := [.inl (some 52), .inl (some 52)]) (by decide +kernel) (fun k q => by cases q) rfl ?_
          refine y_get (j := 37) (len := 3) (r := (12, 15, 2, 1343)) (by decide +kernel) hg (t52 hg) at52 rfl rfl (g_r52 (f := 15) (T2 := 70) hg rfl (by decide)).1 ?_
          refine y_same (i := .iload 4) (len := 2) (r := (0, 0, 0, 0)) (pc' := 60) (ls' := [some (.inl (some 52)), some (zi xk), some (.inl (some ((71 + n)))), some (zi y3990), some (zi xa)]) (st' := [zi xa, .inl (some 70), .inl (some 52)]) (by decide +kernel) (fun k q => by cases q) rfl ?_
          refine y_aal (i := j) (len := 1) (r := (0, 0, 0, 0)) (by decide +kernel) hg (tu70 hg) at70 rfl (by omega) (hg.2.2 j (by omega)) ?_
          refine y_same (i := .aload_n 2) (len := 1) (r := (0, 0, 0, 0)) (pc' := 62) (ls' := [some (.inl (some 52)), some (zi xk), some (.inl (some ((71 + n)))), some (zi y3990), some (zi xa)]) (st' := [.inl (some ((71 + n))), .inl (some ((71 + j))), .inl (some 52)]) (by decide +kernel) (fun k q => by cases q) rfl ?_
          refine y_cI (i := .invokevirtual 369) (len := 3) (r := (0, 224, 12, 1738)) (nL := 6) (k := 2) (n := 3) (hs := []) (args := [.inl (some 52), .inl (some ((71 + j))), .inl (some ((71 + n)))]) (rest := []) (l0 := [some (.inl (some 52)), some (.inl (some ((71 + j)))), some (.inl (some ((71 + n)))), none, none, none]) (by decide +kernel) (Or.inr (Or.inl ⟨_, rfl⟩)) rfl rfl rfl rfl (Nat.le_of_ble_eq_true rfl) (z52 hg) rfl (qI_le (by omega) (m_alk (d := 0) (by omega) (by omega) nDj Qj Qn)) (fun y3991 h3991 hRy3991 => ?_)
          obtain ⟨hg3991, F3991, hDy3991⟩ := hRy3991
          rcases hDy3991 with ⟨vy3991, by3991⟩ | ⟨vy3991, by3991⟩
          ·
            refine y_iF (c := .eq) (off := 11) (len := 3) (r := (0, 0, 0, 0)) (by decide +kernel) (acmpF (c := .eq) (by show ¬ (_ = _); omega)) ?_
            refine y_same (i := .aload_n 0) (len := 1) (r := (0, 0, 0, 0)) (pc' := 69) (ls' := [some (.inl (some 52)), some (zi xk), some (.inl (some ((71 + n)))), some (zi y3990), some (zi xa)]) (st' := [.inl (some 52)]) (by decide +kernel) (fun k q => by cases q) rfl ?_
            refine y_get (j := 55) (len := 3) (r := (12, 21, 2, 1349)) (by decide +kernel) hg3991 (t52 hg3991) at52 rfl rfl (g_r52 (f := 21) (T2 := 376) hg3991 rfl (by decide)).1 ?_
            refine y_same (i := .iload_n 1) (len := 1) (r := (0, 0, 0, 0)) (pc' := 73) (ls' := [some (.inl (some 52)), some (zi xk), some (.inl (some ((71 + n)))), some (zi y3990), some (zi xa)]) (st' := [zi xk, .inl (some 376)]) (by decide +kernel) (fun k q => by cases q) rfl ?_
            refine y_same (i := .iload 4) (len := 2) (r := (0, 0, 0, 0)) (pc' := 75) (ls' := [some (.inl (some 52)), some (zi xk), some (.inl (some ((71 + n)))), some (zi y3990), some (zi xa)]) (st' := [zi xa, zi xk, .inl (some 376)]) (by decide +kernel) (fun k q => by cases q) rfl ?_
            refine y_ias (i := n) (len := 1) (r := (0, 0, 0, 0)) (by decide +kernel) hg3991 (tu376 hg3991) at376 rfl (by omega) (by omega) (sr1 (by omega)) (by omega) (by omega) (fun h3992 hg3992 hl3992 hs3992 ho3992 => ?_)
            refine y_same (i := .aload_n 0) (len := 1) (r := (0, 0, 0, 0)) (pc' := 77) (ls' := [some (.inl (some 52)), some (zi xk), some (.inl (some ((71 + n)))), some (zi y3990), some (zi xa)]) (st' := [.inl (some 52)]) (by decide +kernel) (fun k q => by cases q) rfl ?_
            refine y_get (j := 40) (len := 3) (r := (12, 16, 2, 1344)) (by decide +kernel) hg3992 (t52 hg3992) at52 rfl rfl (g_r52 (f := 16) (T2 := 371) hg3992 rfl (by decide)).1 ?_
            refine y_same (i := .iload 4) (len := 2) (r := (0, 0, 0, 0)) (pc' := 82) (ls' := [some (.inl (some 52)), some (zi xk), some (.inl (some ((71 + n)))), some (zi y3990), some (zi xa)]) (st' := [zi xa, .inl (some 371)]) (by decide +kernel) (fun k q => by cases q) rfl ?_
            have hv3993 := (F3991 371 j (by omega) (by omega)).trans hp371
            have hv3994 := (ho3992 371 j (Or.inl (by omega))).trans hv3993
            refine y_ial (i := j) (len := 1) (r := (0, 0, 0, 0)) (by decide +kernel) hg3992 (tu371 hg3992) at371 (by omega) hv3994 ?_
            refine y_same (i := .istore 4) (len := 2) (r := (0, 0, 0, 0)) (pc' := 85) (ls' := [some (.inl (some 52)), some (zi xk), some (.inl (some ((71 + n)))), some (zi y3990), some (zi xp)]) (st' := []) (by decide +kernel) (fun k q => by cases q) rfl ?_
            refine y_goto (off := (-68)) (pc' := 17) (len := 3) (r := (0, 0, 0, 0)) (by decide +kernel) (by decide +kernel) ?_
            refine y_same (i := .iload 4) (len := 2) (r := (0, 0, 0, 0)) (pc' := 19) (ls' := [some (.inl (some 52)), some (zi xk), some (.inl (some ((71 + n)))), some (zi y3990), some (zi xp)]) (st' := [zi xp]) (by decide +kernel) (fun k q => by cases q) rfl ?_
            refine y_ic (c := (-1)) (len := 1) (r := (0, 0, 0, 0)) (by decide +kernel) (by decide) (fun y3995 hy3995 => ?_)
            rcases Decidable.em (xp.toInt = y3995.toInt) with q3996 | q3996
            ·
              refine y_cT (c := .eq) (off := 68) (pc' := 88) (len := 3) (r := (0, 0, 0, 0)) (by decide +kernel) (acmpT (c := .eq) (by show _ = _; omega)) (by decide +kernel) ?_
              exact kc h3992 (some (zi y3990)) (some (zi xp)) (F4_tr F0 (fun k j9 h1 h2 h3 => ((ho3992 k j9 (by omega)).trans (F3991 k j9 (by omega) (by omega))))) hg3992 (cs.mpr (Or.inl ⟨Or.inr by3989, by3991⟩)) ⟨j, ⟨_, hs3992, by omega⟩⟩
            ·
              refine y_cF (c := .eq) (off := 68) (len := 3) (r := (0, 0, 0, 0)) (by decide +kernel) (acmpF (c := .eq) (by show ¬ (_ = _); omega)) ?_
              refine y_same (i := .aload_n 0) (len := 1) (r := (0, 0, 0, 0)) (pc' := 24) (ls' := [some (.inl (some 52)), some (zi xk), some (.inl (some ((71 + n)))), some (zi y3990), some (zi xp)]) (st' := [.inl (some 52)]) (by decide +kernel) (fun k q => by cases q) rfl ?_
              have hv3997 := (F3991 52 32 (by omega) (by omega)).trans ho32
              have hv3998 := (ho3992 52 32 (Or.inl (by omega))).trans hv3997
              refine y_get (j := 363) (len := 3) (r := (12, 32, 1, 1360)) (by decide +kernel) hg3992 (t52 hg3992) at52 rfl rfl hv3998 ?_
              refine y_iF (c := .ne) (off := 61) (len := 3) (r := (0, 0, 0, 0)) (by decide +kernel) (acmpF (c := .ne) (by show _ = _; omega)) ?_
              refine y_same (i := .aload_n 0) (len := 1) (r := (0, 0, 0, 0)) (pc' := 31) (ls' := [some (.inl (some 52)), some (zi xk), some (.inl (some ((71 + n)))), some (zi y3990), some (zi xp)]) (st' := [.inl (some 52)]) (by decide +kernel) (fun k q => by cases q) rfl ?_
              refine y_get (j := 55) (len := 3) (r := (12, 21, 2, 1349)) (by decide +kernel) hg3992 (t52 hg3992) at52 rfl rfl (g_r52 (f := 21) (T2 := 376) hg3992 rfl (by decide)).1 ?_
              refine y_same (i := .iload_n 1) (len := 1) (r := (0, 0, 0, 0)) (pc' := 35) (ls' := [some (.inl (some 52)), some (zi xk), some (.inl (some ((71 + n)))), some (zi y3990), some (zi xp)]) (st' := [zi xk, .inl (some 376)]) (by decide +kernel) (fun k q => by cases q) rfl ?_
              refine y_ial (i := n) (len := 1) (r := (0, 0, 0, 0)) (by decide +kernel) hg3992 (tu376 hg3992) at376 (by omega) hs3992 ?_
              refine y_ic (c := (-1)) (len := 1) (r := (0, 0, 0, 0)) (by decide +kernel) (by decide) (fun y3999 hy3999 => ?_)
              refine y_cT (c := .ne) (off := 51) (pc' := 88) (len := 3) (r := (0, 0, 0, 0)) (by decide +kernel) (acmpT (c := .ne) (by show ¬ (_ = _); omega)) (by decide +kernel) ?_
              exact kc h3992 (some (zi y3990)) (some (zi xp)) (F4_tr F0 (fun k j9 h1 h2 h3 => ((ho3992 k j9 (by omega)).trans (F3991 k j9 (by omega) (by omega))))) hg3992 (cs.mpr (Or.inl ⟨Or.inr by3989, by3991⟩)) ⟨j, ⟨_, hs3992, by omega⟩⟩
          ·
            refine y_iT (c := .eq) (off := 11) (pc' := 76) (len := 3) (r := (0, 0, 0, 0)) (by decide +kernel) (acmpT (c := .eq) (by show _ = _; omega)) (by decide +kernel) ?_
            refine y_same (i := .aload_n 0) (len := 1) (r := (0, 0, 0, 0)) (pc' := 77) (ls' := [some (.inl (some 52)), some (zi xk), some (.inl (some ((71 + n)))), some (zi y3990), some (zi xa)]) (st' := [.inl (some 52)]) (by decide +kernel) (fun k q => by cases q) rfl ?_
            refine y_get (j := 40) (len := 3) (r := (12, 16, 2, 1344)) (by decide +kernel) hg3991 (t52 hg3991) at52 rfl rfl (g_r52 (f := 16) (T2 := 371) hg3991 rfl (by decide)).1 ?_
            refine y_same (i := .iload 4) (len := 2) (r := (0, 0, 0, 0)) (pc' := 82) (ls' := [some (.inl (some 52)), some (zi xk), some (.inl (some ((71 + n)))), some (zi y3990), some (zi xa)]) (st' := [zi xa, .inl (some 371)]) (by decide +kernel) (fun k q => by cases q) rfl ?_
            have hv4000 := (F3991 371 j (by omega) (by omega)).trans hp371
            refine y_ial (i := j) (len := 1) (r := (0, 0, 0, 0)) (by decide +kernel) hg3991 (tu371 hg3991) at371 (by omega) hv4000 ?_
            refine y_same (i := .istore 4) (len := 2) (r := (0, 0, 0, 0)) (pc' := 85) (ls' := [some (.inl (some 52)), some (zi xk), some (.inl (some ((71 + n)))), some (zi y3990), some (zi xp)]) (st' := []) (by decide +kernel) (fun k q => by cases q) rfl ?_
            refine y_goto (off := (-68)) (pc' := 17) (len := 3) (r := (0, 0, 0, 0)) (by decide +kernel) (by decide +kernel) ?_
            have hk2 : e.2.2.2.2.2 = -1 ∨ ∃ (j9 : Nat) (e9 : enT), e.2.2.2.2.2 = (j9 : Int) ∧ L[j9]? = some e9 ∧ 3 ≤ e9.2.1 ∧ e9.2.1 ≤ 8 ∧ e9.2.2.2.2.1 ≤ n9 := (ch j e ke).elim (fun q => Or.inl q.1) (fun q => by obtain ⟨i9, e9, q1, q2, q3, q4, q5, q6⟩ := q; exact Or.inr ⟨i9, e9, q1, q3, q5, q6, by omega⟩)
            have hv4001 := (F3991 376 n (by omega) (by omega)).trans hl376
            have hv4002 := (F3991 52 32 (by omega) (by omega)).trans ho32
            exact ih h3991 e.2.2.2.2.2 xp (g ∨ lst_ e) y3990 hg3991 (F4_tr F0 (fun k j9 h1 h2 h3 => (F3991 k j9 (by omega) (by omega)))) ⟨_, hv4001, by omega⟩ ⟨_, hv4002, by omega⟩ (Or.inl ⟨by omega, Or.inr by3989⟩) (by omega) hk2 (fun h9 l3 l4 f9 g9 q9 c9 => kc h9 l3 l4 f9 g9 (cs.mpr (Or.inr q9)) c9) (fun h9 l3 l4 f9 g9 q7 c9 => kn h9 l3 l4 f9 g9 (fun q9 => (cs.mp q9).elim (fun q8 => by3991 q8.2) q7) c9)
        ·
          refine y_bp (i := .ior) (f := fun x y => x ||| y) (len := 1) (r := (0, 0, 0, 0)) (by decide +kernel) rfl rfl (fun y4003 hy4003 => ?_)
          have hy4003 : y4003 = xg ||| y3989 := hy4003
          have zy4003 : y4003.toInt = 0 := by rw [hy4003, nI_of_i (n := 0) vg, nI_of_i (n := 0) vy3989]; decide
          refine y_same (i := .istore_n 3) (len := 1) (r := (0, 0, 0, 0)) (pc' := 49) (ls' := [some (.inl (some 52)), some (zi xk), some (.inl (some ((71 + n)))), some (zi y4003), some (zi xa)]) (st' := []) (by decide +kernel) (fun k q => by cases q) rfl ?_
          refine y_same (i := .iload_n 3) (len := 1) (r := (0, 0, 0, 0)) (pc' := 50) (ls' := [some (.inl (some 52)), some (zi xk), some (.inl (some ((71 + n)))), some (zi y4003), some (zi xa)]) (st' := [zi y4003]) (by decide +kernel) (fun k q => by cases q) rfl ?_
          refine y_iT (c := .eq) (off := 26) (pc' := 76) (len := 3) (r := (0, 0, 0, 0)) (by decide +kernel) (acmpT (c := .eq) (by show _ = _; omega)) (by decide +kernel) ?_
          refine y_same (i := .aload_n 0) (len := 1) (r := (0, 0, 0, 0)) (pc' := 77) (ls' := [some (.inl (some 52)), some (zi xk), some (.inl (some ((71 + n)))), some (zi y4003), some (zi xa)]) (st' := [.inl (some 52)]) (by decide +kernel) (fun k q => by cases q) rfl ?_
          refine y_get (j := 40) (len := 3) (r := (12, 16, 2, 1344)) (by decide +kernel) hg (t52 hg) at52 rfl rfl (g_r52 (f := 16) (T2 := 371) hg rfl (by decide)).1 ?_
          refine y_same (i := .iload 4) (len := 2) (r := (0, 0, 0, 0)) (pc' := 82) (ls' := [some (.inl (some 52)), some (zi xk), some (.inl (some ((71 + n)))), some (zi y4003), some (zi xa)]) (st' := [zi xa, .inl (some 371)]) (by decide +kernel) (fun k q => by cases q) rfl ?_
          refine y_ial (i := j) (len := 1) (r := (0, 0, 0, 0)) (by decide +kernel) hg (tu371 hg) at371 (by omega) hp371 ?_
          refine y_same (i := .istore 4) (len := 2) (r := (0, 0, 0, 0)) (pc' := 85) (ls' := [some (.inl (some 52)), some (zi xk), some (.inl (some ((71 + n)))), some (zi y4003), some (zi xp)]) (st' := []) (by decide +kernel) (fun k q => by cases q) rfl ?_
          refine y_goto (off := (-68)) (pc' := 17) (len := 3) (r := (0, 0, 0, 0)) (by decide +kernel) (by decide +kernel) ?_
          have hk2 : e.2.2.2.2.2 = -1 ∨ ∃ (j9 : Nat) (e9 : enT), e.2.2.2.2.2 = (j9 : Int) ∧ L[j9]? = some e9 ∧ 3 ≤ e9.2.1 ∧ e9.2.1 ≤ 8 ∧ e9.2.2.2.2.1 ≤ n9 := (ch j e ke).elim (fun q => Or.inl q.1) (fun q => by obtain ⟨i9, e9, q1, q2, q3, q4, q5, q6⟩ := q; exact Or.inr ⟨i9, e9, q1, q3, q5, q6, by omega⟩)
          exact ih h e.2.2.2.2.2 xp (g ∨ lst_ e) y4003 hg (F4_tr F0 (fun k j9 h1 h2 h3 => rfl)) ⟨_, hl376, by omega⟩ ⟨_, ho32, by omega⟩ (Or.inr ⟨by omega, fun q => q.elim pg by3989⟩) (by omega) hk2 (fun h9 l3 l4 f9 g9 q9 c9 => kc h9 l3 l4 f9 g9 (cs.mpr (Or.inr q9)) c9) (fun h9 l3 l4 f9 g9 q7 c9 => kn h9 l3 l4 f9 g9 (fun q9 => (cs.mp q9).elim (fun q8 => (fun q => q.elim pg by3989) q8.1) q7) c9)
def F5 (n : Nat) (h h1 : zh) : Prop := ∀ k j, k ≠ 68 → k ≠ 69 → ((k ≠ 373 ∧ k ≠ 374 ∧ k ≠ 375 ∧ k ≠ 376) ∨ j ≠ n) → hsl h1 k j = hsl h k j
theorem F5_of {n : Nat} {h h1 h2 : zh} (a : F4 n h h1) (b : ∀ k j, ((k ≠ 373 ∧ k ≠ 374 ∧ k ≠ 375) ∨ j ≠ n) → hsl h2 k j = hsl h1 k j) : F5 n h h2 := fun k j h1 h2 h3 => (b k j (by omega)).trans (a k j h1 h2 (by omega))
theorem stq_c {d t n : Nat} {τ : List Nat} {h h9 : zh} {L : List enT} {s : sqT} {i : Int} {xk : Int32} {l3 l4 : Option zv} (hn9 : n < 300) (hxk : xk.toInt = (n : Int)) (Q9 : QM τ h9 (71 + n) s) (f9 : F4 n h h9) (cy : cyP L i s) (cq : ∃ j : Nat, ci_ h9 376 n j) : qX (d + 5) 233 88 [some (.inl (some 52)), some (zi xk), some (.inl (some ((71 + n)))), l3, l4] [] h9 t (rV (fun h1 => (cyP L i s ∧ hG τ h1 ∧ ci_ h1 373 n 1 ∧ F5 n h h1) ∨ (¬ cyP L i s ∧ dn_ false s ∧ hG τ h1 ∧ ci_ h1 373 n 2 ∧ F5 n h h1) ∨ (¬ cyP L i s ∧ ¬ dn_ false s ∧ hG τ h1 ∧ (∃ st r l : Nat, fnd_ s st r l ∧ ci_ h1 373 n st ∧ (st ≤ 8 → ci_ h1 374 n r) ∧ (st ≤ 7 → ci_ h1 375 n l)) ∧ F5 n h h1)) t) := by
  obtain ⟨j, xq, hl376, eq⟩ := cq
  obtain ⟨T, c0, tA, aT, hc0, pT⟩ := Q9.2.1
  refine y_same (i := .aload_n 0) (len := 1) (r := (0, 0, 0, 0)) (pc' := 89) (ls' := [some (.inl (some 52)), some (zi xk), some (.inl (some ((71 + n)))), l3, l4]) (st' := [.inl (some 52)]) (by decide +kernel) (fun k q => by cases q) rfl ?_
  refine y_get (j := 55) (len := 3) (r := (12, 21, 2, 1349)) (by decide +kernel) Q9.1 (t52 Q9.1) at52 rfl rfl (g_r52 (f := 21) (T2 := 376) Q9.1 rfl (by decide)).1 ?_
  refine y_same (i := .iload_n 1) (len := 1) (r := (0, 0, 0, 0)) (pc' := 93) (ls' := [some (.inl (some 52)), some (zi xk), some (.inl (some ((71 + n)))), l3, l4]) (st' := [zi xk, .inl (some 376)]) (by decide +kernel) (fun k q => by cases q) rfl ?_
  refine y_ial (i := n) (len := 1) (r := (0, 0, 0, 0)) (by decide +kernel) Q9.1 (tu376 Q9.1) at376 (by omega) hl376 ?_
  refine y_ic (c := (-1)) (len := 1) (r := (0, 0, 0, 0)) (by decide +kernel) (by decide) (fun y4004 hy4004 => ?_)
  refine y_cF (c := .eq) (off := 13) (len := 3) (r := (0, 0, 0, 0)) (by decide +kernel) (acmpF (c := .eq) (by show ¬ (_ = _); omega)) ?_
  refine y_same (i := .aload_n 0) (len := 1) (r := (0, 0, 0, 0)) (pc' := 99) (ls' := [some (.inl (some 52)), some (zi xk), some (.inl (some ((71 + n)))), l3, l4]) (st' := [.inl (some 52)]) (by decide +kernel) (fun k q => by cases q) rfl ?_
  refine y_get (j := 46) (len := 3) (r := (12, 18, 2, 1346)) (by decide +kernel) Q9.1 (t52 Q9.1) at52 rfl rfl (g_r52 (f := 18) (T2 := 373) Q9.1 rfl (by decide)).1 ?_
  refine y_same (i := .iload_n 1) (len := 1) (r := (0, 0, 0, 0)) (pc' := 103) (ls' := [some (.inl (some 52)), some (zi xk), some (.inl (some ((71 + n)))), l3, l4]) (st' := [zi xk, .inl (some 373)]) (by decide +kernel) (fun k q => by cases q) rfl ?_
  refine y_ic (c := 1) (len := 1) (r := (0, 0, 0, 0)) (by decide +kernel) (by decide) (fun y4005 hy4005 => ?_)
  refine y_ias (i := n) (len := 1) (r := (0, 0, 0, 0)) (by decide +kernel) Q9.1 (tu373 Q9.1) at373 rfl (by omega) (by omega) (sr1 (by omega)) (by omega) (by omega) (fun h4006 hg4006 hl4006 hs4006 ho4006 => ?_)
  have Q4006 := QM_up Q9 hg4006 (fun j => ho4006 (71 + n) j (by omega))
  refine y_goto (off := 110) (pc' := 215) (len := 3) (r := (0, 0, 0, 0)) (by decide +kernel) (by decide +kernel) ?_
  refine y_rV (len := 1) (r := (0, 0, 0, 0)) (nL := 5) (n9 := 2) (hs := []) (by decide +kernel) rfl ?_
  exact Or.inl ⟨cy, hg4006, ⟨_, hs4006, by omega⟩, F5_of f9 (fun k j hC => (ho4006 k j (by omega)))⟩
theorem stq_n {d t n : Nat} {τ : List Nat} {h h9 : zh} {L : List enT} {s : sqT} {i : Int} {xk : Int32} {l3 l4 : Option zv} (hn9 : n < 300) (hxk : xk.toInt = (n : Int)) (hr12 : s.2.1.length ≤ 12) (hl12 : s.1.length ≤ 12) (Q9 : QM τ h9 (71 + n) s) (f9 : F4 n h h9) (nc : ¬ cyP L i s) (cq : kx_ h9 376 n (-1)) (co : kx_ h9 52 32 0) : qX (d + 5) 233 88 [some (.inl (some 52)), some (zi xk), some (.inl (some ((71 + n)))), l3, l4] [] h9 t (rV (fun h1 => (cyP L i s ∧ hG τ h1 ∧ ci_ h1 373 n 1 ∧ F5 n h h1) ∨ (¬ cyP L i s ∧ dn_ false s ∧ hG τ h1 ∧ ci_ h1 373 n 2 ∧ F5 n h h1) ∨ (¬ cyP L i s ∧ ¬ dn_ false s ∧ hG τ h1 ∧ (∃ st r l : Nat, fnd_ s st r l ∧ ci_ h1 373 n st ∧ (st ≤ 8 → ci_ h1 374 n r) ∧ (st ≤ 7 → ci_ h1 375 n l)) ∧ F5 n h h1)) t) := by
  obtain ⟨xq, hl376, eq⟩ := cq
  obtain ⟨xo, ho32, eo⟩ := co
  obtain ⟨T, c0, tA, aT, hc0, pT⟩ := Q9.2.1
  refine y_same (i := .aload_n 0) (len := 1) (r := (0, 0, 0, 0)) (pc' := 89) (ls' := [some (.inl (some 52)), some (zi xk), some (.inl (some ((71 + n)))), l3, l4]) (st' := [.inl (some 52)]) (by decide +kernel) (fun k q => by cases q) rfl ?_
  refine y_get (j := 55) (len := 3) (r := (12, 21, 2, 1349)) (by decide +kernel) Q9.1 (t52 Q9.1) at52 rfl rfl (g_r52 (f := 21) (T2 := 376) Q9.1 rfl (by decide)).1 ?_
  refine y_same (i := .iload_n 1) (len := 1) (r := (0, 0, 0, 0)) (pc' := 93) (ls' := [some (.inl (some 52)), some (zi xk), some (.inl (some ((71 + n)))), l3, l4]) (st' := [zi xk, .inl (some 376)]) (by decide +kernel) (fun k q => by cases q) rfl ?_
  refine y_ial (i := n) (len := 1) (r := (0, 0, 0, 0)) (by decide +kernel) Q9.1 (tu376 Q9.1) at376 (by omega) hl376 ?_
  refine y_ic (c := (-1)) (len := 1) (r := (0, 0, 0, 0)) (by decide +kernel) (by decide) (fun y4007 hy4007 => ?_)
  refine y_cT (c := .eq) (off := 13) (pc' := 108) (len := 3) (r := (0, 0, 0, 0)) (by decide +kernel) (acmpT (c := .eq) (by show _ = _; omega)) (by decide +kernel) ?_
  refine y_same (i := .aload_n 2) (len := 1) (r := (0, 0, 0, 0)) (pc' := 109) (ls' := [some (.inl (some 52)), some (zi xk), some (.inl (some ((71 + n)))), l3, l4]) (st' := [.inl (some ((71 + n)))]) (by decide +kernel) (fun k q => by cases q) rfl ?_
  refine y_ic (c := 1) (len := 1) (r := (0, 0, 0, 0)) (by decide +kernel) (by decide) (fun y4008 hy4008 => ?_)
  obtain ⟨z4009, hz4009, ez4009⟩ := Q9.2.2.1.2.1
  have ez4009 : z4009.toInt = ((s.2.1.length : Nat) : Int) := ez4009
  have mz4009 := qm_lenR Q9
  have mz4009 : s.2.1.length ≤ 14 := mz4009
  refine y_ial (i := 1) (len := 1) (r := (0, 0, 0, 0)) (by decide +kernel) Q9.1 tA aT (by omega) hz4009 ?_
  rcases Decidable.em (z4009.toInt ≠ 0) with q4010 | q4010
  ·
    refine y_iT (c := .ne) (off := 32) (pc' := 143) (len := 3) (r := (0, 0, 0, 0)) (by decide +kernel) (acmpT (c := .ne) (by show ¬ (_ = _); omega)) (by decide +kernel) ?_
    refine y_same (i := .aload_n 0) (len := 1) (r := (0, 0, 0, 0)) (pc' := 144) (ls' := [some (.inl (some 52)), some (zi xk), some (.inl (some ((71 + n)))), l3, l4]) (st' := [.inl (some 52)]) (by decide +kernel) (fun k q => by cases q) rfl ?_
    refine y_get (j := 46) (len := 3) (r := (12, 18, 2, 1346)) (by decide +kernel) Q9.1 (t52 Q9.1) at52 rfl rfl (g_r52 (f := 18) (T2 := 373) Q9.1 rfl (by decide)).1 ?_
    refine y_same (i := .iload_n 1) (len := 1) (r := (0, 0, 0, 0)) (pc' := 148) (ls' := [some (.inl (some 52)), some (zi xk), some (.inl (some ((71 + n)))), l3, l4]) (st' := [zi xk, .inl (some 373)]) (by decide +kernel) (fun k q => by cases q) rfl ?_
    refine y_ic (c := 3) (len := 1) (r := (0, 0, 0, 0)) (by decide +kernel) (by decide) (fun y4011 hy4011 => ?_)
    refine y_ias (i := n) (len := 1) (r := (0, 0, 0, 0)) (by decide +kernel) Q9.1 (tu373 Q9.1) at373 rfl (by omega) (by omega) (sr1 (by omega)) (by omega) (by omega) (fun h4012 hg4012 hl4012 hs4012 ho4012 => ?_)
    have Q4012 := QM_up Q9 hg4012 (fun j => ho4012 (71 + n) j (by omega))
    refine qX_V (stm_l hn9 hxk hr12 hl12 6 h4012 3 Q4012 ⟨_, hs4012, by omega⟩ (by omega) (by omega) (fun v _ _ g1 g2 => absurd g2 (by omega)) (by omega)) (fun h1 hR => Or.inr (Or.inr ⟨nc, (fun q9 => by obtain ⟨z1, z2, z3⟩ := q9; have z1 := List.length_eq_zero_iff.mpr z1; have z2 := List.length_eq_zero_iff.mpr z2; have z3 := List.length_eq_zero_iff.mpr (z3.elim (fun q => absurd q (by decide)) id); omega), hR.1, hR.2.1, F5_of f9 (fun k j hC => (hR.2.2 k j hC).trans ((ho4012 k j (by omega))))⟩))
  ·
    refine y_iF (c := .ne) (off := 32) (len := 3) (r := (0, 0, 0, 0)) (by decide +kernel) (acmpF (c := .ne) (by show _ = _; omega)) ?_
    refine y_same (i := .aload_n 2) (len := 1) (r := (0, 0, 0, 0)) (pc' := 115) (ls' := [some (.inl (some 52)), some (zi xk), some (.inl (some ((71 + n)))), l3, l4]) (st' := [.inl (some ((71 + n)))]) (by decide +kernel) (fun k q => by cases q) rfl ?_
    refine y_ic (c := 2) (len := 1) (r := (0, 0, 0, 0)) (by decide +kernel) (by decide) (fun y4013 hy4013 => ?_)
    obtain ⟨z4014, hz4014, ez4014⟩ := Q9.2.2.1.2.2.1
    have ez4014 : z4014.toInt = ((s.2.2.1.length : Nat) : Int) := ez4014
    have mz4014 := qm_lenC Q9
    have mz4014 : s.2.2.1.length ≤ 14 := mz4014
    refine y_ial (i := 2) (len := 1) (r := (0, 0, 0, 0)) (by decide +kernel) Q9.1 tA aT (by omega) hz4014 ?_
    rcases Decidable.em (z4014.toInt ≠ 0) with q4015 | q4015
    ·
      refine y_iT (c := .ne) (off := 26) (pc' := 143) (len := 3) (r := (0, 0, 0, 0)) (by decide +kernel) (acmpT (c := .ne) (by show ¬ (_ = _); omega)) (by decide +kernel) ?_
      refine y_same (i := .aload_n 0) (len := 1) (r := (0, 0, 0, 0)) (pc' := 144) (ls' := [some (.inl (some 52)), some (zi xk), some (.inl (some ((71 + n)))), l3, l4]) (st' := [.inl (some 52)]) (by decide +kernel) (fun k q => by cases q) rfl ?_
      refine y_get (j := 46) (len := 3) (r := (12, 18, 2, 1346)) (by decide +kernel) Q9.1 (t52 Q9.1) at52 rfl rfl (g_r52 (f := 18) (T2 := 373) Q9.1 rfl (by decide)).1 ?_
      refine y_same (i := .iload_n 1) (len := 1) (r := (0, 0, 0, 0)) (pc' := 148) (ls' := [some (.inl (some 52)), some (zi xk), some (.inl (some ((71 + n)))), l3, l4]) (st' := [zi xk, .inl (some 373)]) (by decide +kernel) (fun k q => by cases q) rfl ?_
      refine y_ic (c := 3) (len := 1) (r := (0, 0, 0, 0)) (by decide +kernel) (by decide) (fun y4016 hy4016 => ?_)
      refine y_ias (i := n) (len := 1) (r := (0, 0, 0, 0)) (by decide +kernel) Q9.1 (tu373 Q9.1) at373 rfl (by omega) (by omega) (sr1 (by omega)) (by omega) (by omega) (fun h4017 hg4017 hl4017 hs4017 ho4017 => ?_)
      have Q4017 := QM_up Q9 hg4017 (fun j => ho4017 (71 + n) j (by omega))
      refine qX_V (stm_l hn9 hxk hr12 hl12 6 h4017 3 Q4017 ⟨_, hs4017, by omega⟩ (by omega) (by omega) (fun v _ _ g1 g2 => absurd g2 (by omega)) (by omega)) (fun h1 hR => Or.inr (Or.inr ⟨nc, (fun q9 => by obtain ⟨z1, z2, z3⟩ := q9; have z1 := List.length_eq_zero_iff.mpr z1; have z2 := List.length_eq_zero_iff.mpr z2; have z3 := List.length_eq_zero_iff.mpr (z3.elim (fun q => absurd q (by decide)) id); omega), hR.1, hR.2.1, F5_of f9 (fun k j hC => (hR.2.2 k j hC).trans ((ho4017 k j (by omega))))⟩))
    ·
      refine y_iF (c := .ne) (off := 26) (len := 3) (r := (0, 0, 0, 0)) (by decide +kernel) (acmpF (c := .ne) (by show _ = _; omega)) ?_
      refine y_same (i := .aload_n 0) (len := 1) (r := (0, 0, 0, 0)) (pc' := 121) (ls' := [some (.inl (some 52)), some (zi xk), some (.inl (some ((71 + n)))), l3, l4]) (st' := [.inl (some 52)]) (by decide +kernel) (fun k q => by cases q) rfl ?_
      refine y_get (j := 363) (len := 3) (r := (12, 32, 1, 1360)) (by decide +kernel) Q9.1 (t52 Q9.1) at52 rfl rfl ho32 ?_
      refine y_iF (c := .ne) (off := 9) (len := 3) (r := (0, 0, 0, 0)) (by decide +kernel) (acmpF (c := .ne) (by show _ = _; omega)) ?_
      refine y_same (i := .aload_n 2) (len := 1) (r := (0, 0, 0, 0)) (pc' := 128) (ls' := [some (.inl (some 52)), some (zi xk), some (.inl (some ((71 + n)))), l3, l4]) (st' := [.inl (some ((71 + n)))]) (by decide +kernel) (fun k q => by cases q) rfl ?_
      refine y_ic (c := 0) (len := 1) (r := (0, 0, 0, 0)) (by decide +kernel) (by decide) (fun y4018 hy4018 => ?_)
      obtain ⟨z4019, hz4019, ez4019⟩ := Q9.2.2.1.1
      have ez4019 : z4019.toInt = ((s.1.length : Nat) : Int) := ez4019
      have mz4019 := qm_lenL Q9
      have mz4019 : s.1.length ≤ 14 := mz4019
      refine y_ial (i := 0) (len := 1) (r := (0, 0, 0, 0)) (by decide +kernel) Q9.1 tA aT (by omega) hz4019 ?_
      rcases Decidable.em (z4019.toInt ≠ 0) with q4020 | q4020
      ·
        refine y_iT (c := .ne) (off := 13) (pc' := 143) (len := 3) (r := (0, 0, 0, 0)) (by decide +kernel) (acmpT (c := .ne) (by show ¬ (_ = _); omega)) (by decide +kernel) ?_
        refine y_same (i := .aload_n 0) (len := 1) (r := (0, 0, 0, 0)) (pc' := 144) (ls' := [some (.inl (some 52)), some (zi xk), some (.inl (some ((71 + n)))), l3, l4]) (st' := [.inl (some 52)]) (by decide +kernel) (fun k q => by cases q) rfl ?_
        refine y_get (j := 46) (len := 3) (r := (12, 18, 2, 1346)) (by decide +kernel) Q9.1 (t52 Q9.1) at52 rfl rfl (g_r52 (f := 18) (T2 := 373) Q9.1 rfl (by decide)).1 ?_
        refine y_same (i := .iload_n 1) (len := 1) (r := (0, 0, 0, 0)) (pc' := 148) (ls' := [some (.inl (some 52)), some (zi xk), some (.inl (some ((71 + n)))), l3, l4]) (st' := [zi xk, .inl (some 373)]) (by decide +kernel) (fun k q => by cases q) rfl ?_
        refine y_ic (c := 3) (len := 1) (r := (0, 0, 0, 0)) (by decide +kernel) (by decide) (fun y4021 hy4021 => ?_)
        refine y_ias (i := n) (len := 1) (r := (0, 0, 0, 0)) (by decide +kernel) Q9.1 (tu373 Q9.1) at373 rfl (by omega) (by omega) (sr1 (by omega)) (by omega) (by omega) (fun h4022 hg4022 hl4022 hs4022 ho4022 => ?_)
        have Q4022 := QM_up Q9 hg4022 (fun j => ho4022 (71 + n) j (by omega))
        refine qX_V (stm_l hn9 hxk hr12 hl12 6 h4022 3 Q4022 ⟨_, hs4022, by omega⟩ (by omega) (by omega) (fun v _ _ g1 g2 => absurd g2 (by omega)) (by omega)) (fun h1 hR => Or.inr (Or.inr ⟨nc, (fun q9 => by obtain ⟨z1, z2, z3⟩ := q9; have z1 := List.length_eq_zero_iff.mpr z1; have z2 := List.length_eq_zero_iff.mpr z2; have z3 := List.length_eq_zero_iff.mpr (z3.elim (fun q => absurd q (by decide)) id); omega), hR.1, hR.2.1, F5_of f9 (fun k j hC => (hR.2.2 k j hC).trans ((ho4022 k j (by omega))))⟩))
      ·
        refine y_iF (c := .ne) (off := 13) (len := 3) (r := (0, 0, 0, 0)) (by decide +kernel) (acmpF (c := .ne) (by show _ = _; omega)) ?_
        refine y_same (i := .aload_n 0) (len := 1) (r := (0, 0, 0, 0)) (pc' := 134) (ls' := [some (.inl (some 52)), some (zi xk), some (.inl (some ((71 + n)))), l3, l4]) (st' := [.inl (some 52)]) (by decide +kernel) (fun k q => by cases q) rfl ?_
        refine y_get (j := 46) (len := 3) (r := (12, 18, 2, 1346)) (by decide +kernel) Q9.1 (t52 Q9.1) at52 rfl rfl (g_r52 (f := 18) (T2 := 373) Q9.1 rfl (by decide)).1 ?_
        refine y_same (i := .iload_n 1) (len := 1) (r := (0, 0, 0, 0)) (pc' := 138) (ls' := [some (.inl (some 52)), some (zi xk), some (.inl (some ((71 + n)))), l3, l4]) (st' := [zi xk, .inl (some 373)]) (by decide +kernel) (fun k q => by cases q) rfl ?_
        refine y_ic (c := 2) (len := 1) (r := (0, 0, 0, 0)) (by decide +kernel) (by decide) (fun y4023 hy4023 => ?_)
        refine y_ias (i := n) (len := 1) (r := (0, 0, 0, 0)) (by decide +kernel) Q9.1 (tu373 Q9.1) at373 rfl (by omega) (by omega) (sr1 (by omega)) (by omega) (by omega) (fun h4024 hg4024 hl4024 hs4024 ho4024 => ?_)
        have Q4024 := QM_up Q9 hg4024 (fun j => ho4024 (71 + n) j (by omega))
        refine y_goto (off := 75) (pc' := 215) (len := 3) (r := (0, 0, 0, 0)) (by decide +kernel) (by decide +kernel) ?_
        refine y_rV (len := 1) (r := (0, 0, 0, 0)) (nL := 5) (n9 := 2) (hs := []) (by decide +kernel) rfl ?_
        exact Or.inr (Or.inl ⟨nc, ⟨List.length_eq_zero_iff.mp (by omega), List.length_eq_zero_iff.mp (by omega), Or.inr (List.length_eq_zero_iff.mp (by omega))⟩, hg4024, ⟨_, hs4024, by omega⟩, F5_of f9 (fun k j hC => (ho4024 k j (by omega)))⟩)
theorem m_stq {d t n : Nat} {τ : List Nat} {h : zh} {L : List enT} {s : sqT} {i : Int} {xk : Int32} (hxk : xk.toInt = (n : Int)) (hr12 : s.2.1.length ≤ 12) (hl12 : s.1.length ≤ 12) (hn9 : n < 300) (Qn0 : QM τ h (71 + n) s) (pE0 : ∀ (k : Nat) (e : enT), L[k]? = some e → pmE τ h k e) (hL : L.length = n) (wl : ∀ e ∈ L, wfE e) (nv : nvI L) (ch : chI L) (c1 : kx_ h 371 n i) (hi : i = -1 ∨ ∃ (j : Nat) (e : enT), i = (j : Int) ∧ L[j]? = some e ∧ 3 ≤ e.2.1 ∧ e.2.1 ≤ 8) (co : kx_ h 52 32 0) (cl : kx_ h 376 n (-1)) : qV (d + 6) 233 [some (.inl (some 52)), some (zi xk), none, none, none] h t (fun h1 => (cyP L i s ∧ hG τ h1 ∧ ci_ h1 373 n 1 ∧ F5 n h h1) ∨ (¬ cyP L i s ∧ dn_ false s ∧ hG τ h1 ∧ ci_ h1 373 n 2 ∧ F5 n h h1) ∨ (¬ cyP L i s ∧ ¬ dn_ false s ∧ hG τ h1 ∧ (∃ st r l : Nat, fnd_ s st r l ∧ ci_ h1 373 n st ∧ (st ≤ 8 → ci_ h1 374 n r) ∧ (st ≤ 7 → ci_ h1 375 n l)) ∧ F5 n h h1)) := by
  obtain ⟨xf, hf371, ef⟩ := c1
  refine qV_of ?_
  refine y_same (i := .aload_n 0) (len := 1) (r := (0, 0, 0, 0)) (pc' := 1) (ls' := [some (.inl (some 52)), some (zi xk), none, none, none]) (st' := [.inl (some 52)]) (by decide +kernel) (fun k q => by cases q) rfl ?_
  refine y_get (j := 37) (len := 3) (r := (12, 15, 2, 1343)) (by decide +kernel) Qn0.1 (t52 Qn0.1) at52 rfl rfl (g_r52 (f := 15) (T2 := 70) Qn0.1 rfl (by decide)).1 ?_
  refine y_same (i := .iload_n 1) (len := 1) (r := (0, 0, 0, 0)) (pc' := 5) (ls' := [some (.inl (some 52)), some (zi xk), none, none, none]) (st' := [zi xk, .inl (some 70)]) (by decide +kernel) (fun k q => by cases q) rfl ?_
  refine y_aal (i := n) (len := 1) (r := (0, 0, 0, 0)) (by decide +kernel) Qn0.1 (tu70 Qn0.1) at70 rfl (by omega) (Qn0.1.2.2 n (by omega)) ?_
  refine y_same (i := .astore_n 2) (len := 1) (r := (0, 0, 0, 0)) (pc' := 7) (ls' := [some (.inl (some 52)), some (zi xk), some (.inl (some ((71 + n)))), none, none]) (st' := []) (by decide +kernel) (fun k q => by cases q) rfl ?_
  refine y_ic (c := 0) (len := 1) (r := (0, 0, 0, 0)) (by decide +kernel) (by decide) (fun y4025 hy4025 => ?_)
  refine y_same (i := .istore_n 3) (len := 1) (r := (0, 0, 0, 0)) (pc' := 9) (ls' := [some (.inl (some 52)), some (zi xk), some (.inl (some ((71 + n)))), some (zi y4025), none]) (st' := []) (by decide +kernel) (fun k q => by cases q) rfl ?_
  refine y_same (i := .aload_n 0) (len := 1) (r := (0, 0, 0, 0)) (pc' := 10) (ls' := [some (.inl (some 52)), some (zi xk), some (.inl (some ((71 + n)))), some (zi y4025), none]) (st' := [.inl (some 52)]) (by decide +kernel) (fun k q => by cases q) rfl ?_
  refine y_get (j := 40) (len := 3) (r := (12, 16, 2, 1344)) (by decide +kernel) Qn0.1 (t52 Qn0.1) at52 rfl rfl (g_r52 (f := 16) (T2 := 371) Qn0.1 rfl (by decide)).1 ?_
  refine y_same (i := .iload_n 1) (len := 1) (r := (0, 0, 0, 0)) (pc' := 14) (ls' := [some (.inl (some 52)), some (zi xk), some (.inl (some ((71 + n)))), some (zi y4025), none]) (st' := [zi xk, .inl (some 371)]) (by decide +kernel) (fun k q => by cases q) rfl ?_
  refine y_ial (i := n) (len := 1) (r := (0, 0, 0, 0)) (by decide +kernel) Qn0.1 (tu371 Qn0.1) at371 (by omega) hf371 ?_
  refine y_same (i := .istore 4) (len := 2) (r := (0, 0, 0, 0)) (pc' := 17) (ls' := [some (.inl (some 52)), some (zi xk), some (.inl (some ((71 + n)))), some (zi y4025), some (zi xf)]) (st' := []) (by decide +kernel) (fun k q => by cases q) rfl ?_
  refine cym_l hxk hn9 Qn0 pE0 hL wl nv ch 40 h i xf False y4025 Qn0.1 (fun _ _ _ _ _ => rfl) cl co (Or.inr ⟨by omega, id⟩) (by omega) (hi.elim Or.inl (fun q => by obtain ⟨j, e, q1, q2, q3, q4⟩ := q; have := (wl e (List.mem_of_getElem? q2)).2.2.1; exact Or.inr ⟨j, e, q1, q2, q3, q4, this⟩)) (fun h9 l3 l4 f9 g9 q9 c9 => ?_) (fun h9 l3 l4 f9 g9 q9 c9 => ?_)
  · exact stq_c hn9 hxk (QM_up Qn0 g9 (fun j => f9 (71 + n) j (by omega) (by omega) (by omega))) f9 q9 c9
  · exact stq_n hn9 hxk hr12 hl12 (QM_up Qn0 g9 (fun j => f9 (71 + n) j (by omega) (by omega) (by omega))) f9 q9 c9 (kx_up co (f9 52 32 (by omega) (by omega) (by omega)))
