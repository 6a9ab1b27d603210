/-! the reference's flags -/
def pvS (τ : List Nat) (h h1 : zh) : Prop := ∃ τ1, oF (fun k j => k ≠ 68 ∧ k ≠ 69 ∧ (k < 71 ∨ 380 < k) ∧ (k ≠ 52 ∨ j < 26 ∨ 30 < j)) τ h τ1 h1
theorem pvs_l {τ0 : List Nat} {h0 : zh} {t : Nat} (hC : ∀ (mk : Nat) (c' : aK), c' ∈ actb mk → c'.2.2.1 ≤ 8 → cOK aJ mk c') {xv : Int32} : ∀ (m : Nat) (τ : List Nat) (h : zh), oF (fun k j => k ≠ 68 ∧ k ≠ 69 ∧ (k < 71 ∨ 380 < k) ∧ (k ≠ 52 ∨ j < 26 ∨ 30 < j)) τ0 h0 τ h → ∀ (n td dn : Nat) (l2 : Option zv), pI h n td dn → 301 ≤ n + m → qX 12 238 57 [some (.inl (some 52)), some (zi xv), l2] [] h t (rV (pvS τ0 h0) t) := by
  intro m
  induction m with
  | zero =>
    intro τ h O0 n td dn l2 hI hm
    have := hI.2.2.2.1
    omega
  | succ m ih =>
    intro τ h O0 n td dn l2 hI hm
    have hg := O0.2.1
    obtain ⟨⟨xs, hs, hxs⟩, ⟨xt, ht, hxt⟩, ⟨xd, hd, hxd⟩, hn3, htd, hdn, G, hent⟩ := hI
    rcases (show td = 0 ∨ 1 ≤ td by omega) with q0 | q0
    ·
      refine y_same (i := .aload_n 0) (len := 1) (r := (0, 0, 0, 0)) (pc' := 58) (ls' := [some (.inl (some 52)), some (zi xv), l2]) (st' := [.inl (some 52)]) (by decide +kernel) (fun k q => by cases q) rfl ?_
      refine y_get (j := 382) (len := 3) (r := (12, 30, 0, 1358)) (by decide +kernel) hg (t52 hg) at52 rfl rfl ht ?_
      refine y_iT (c := .le) (off := 153) (pc' := 214) (len := 3) (r := (0, 0, 0, 0)) (by decide +kernel) (acmpT (c := .le) (by show _ ≤ _; omega)) (by decide +kernel) ?_
      refine y_rV (len := 1) (r := (0, 0, 0, 0)) (nL := 3) (n9 := 2) (hs := []) (by decide +kernel) rfl ?_
      exact ⟨_, O0⟩
    · obtain ⟨xo, hxo, hoA, hoB⟩ := hent (td - 1) (by omega)
      rcases (show n = 0 ∨ n ≠ 0 by omega) with qn | qn
      · have hoA := hoA qn
        refine y_same (i := .aload_n 0) (len := 1) (r := (0, 0, 0, 0)) (pc' := 58) (ls' := [some (.inl (some 52)), some (zi xv), l2]) (st' := [.inl (some 52)]) (by decide +kernel) (fun k q => by cases q) rfl ?_
        refine y_get (j := 382) (len := 3) (r := (12, 30, 0, 1358)) (by decide +kernel) hg (t52 hg) at52 rfl rfl ht ?_
        refine y_iF (c := .le) (off := 153) (len := 3) (r := (0, 0, 0, 0)) (by decide +kernel) (acmpF (c := .le) (by show _ < _; omega)) ?_
        refine y_same (i := .aload_n 0) (len := 1) (r := (0, 0, 0, 0)) (pc' := 65) (ls' := [some (.inl (some 52)), some (zi xv), l2]) (st' := [.inl (some 52)]) (by decide +kernel) (fun k q => by cases q) rfl ?_
        refine y_same (i := .dup) (len := 1) (r := (0, 0, 0, 0)) (pc' := 66) (ls' := [some (.inl (some 52)), some (zi xv), l2]) (st' := [.inl (some 52), .inl (some 52)]) (by decide +kernel) (fun k q => by cases q) rfl ?_
        refine y_get (j := 382) (len := 3) (r := (12, 30, 0, 1358)) (by decide +kernel) hg (t52 hg) at52 rfl rfl ht ?_
        refine y_ic (c := 1) (len := 1) (r := (0, 0, 0, 0)) (by decide +kernel) (by decide) (fun y2212 hy2212 => ?_)
        refine y_sub (len := 1) (r := (0, 0, 0, 0)) (by decide +kernel) (by omega) (by omega) (fun y2213 hy2213 => ?_)
        refine y_put (j := 382) (lo := 0) (hi := 600) (len := 3) (r := (12, 30, 0, 1358)) (by decide +kernel) hg (t52 hg) at52 rfl rfl (by decide) rfl (by omega) (by omega) rfl (fun h2214 hg2214 hl2214 hs2214 ho2214 => ?_)
        have ho2214 : hO 52 30 h h2214 := ho2214
        have hs2214 : hsl h2214 52 30 = some (zi y2213) := hs2214
        refine y_same (i := .aload_n 0) (len := 1) (r := (0, 0, 0, 0)) (pc' := 75) (ls' := [some (.inl (some 52)), some (zi xv), l2]) (st' := [.inl (some 52)]) (by decide +kernel) (fun k q => by cases q) rfl ?_
        refine y_same (i := .aload_n 0) (len := 1) (r := (0, 0, 0, 0)) (pc' := 76) (ls' := [some (.inl (some 52)), some (zi xv), l2]) (st' := [.inl (some 52), .inl (some 52)]) (by decide +kernel) (fun k q => by cases q) rfl ?_
        refine y_get (j := 64) (len := 3) (r := (12, 24, 2, 1352)) (by decide +kernel) hg2214 (t52 hg2214) at52 rfl rfl (g_r52 (f := 24) (T2 := 379) hg2214 rfl (by decide)).1 ?_
        refine y_same (i := .aload_n 0) (len := 1) (r := (0, 0, 0, 0)) (pc' := 80) (ls' := [some (.inl (some 52)), some (zi xv), l2]) (st' := [.inl (some 52), .inl (some 379), .inl (some 52)]) (by decide +kernel) (fun k q => by cases q) rfl ?_
        refine y_get (j := 382) (len := 3) (r := (12, 30, 0, 1358)) (by decide +kernel) hg2214 (t52 hg2214) at52 rfl rfl hs2214 ?_
        have hv2215 := (ho2214 379 (td - 1) (Or.inl (by omega))).trans hxo
        refine y_ial (i := (td - 1)) (len := 1) (r := (0, 0, 0, 0)) (by decide +kernel) hg2214 (tu379 hg2214) at379 (by omega) hv2215 ?_
        refine y_same (i := .aload_n 0) (len := 1) (r := (0, 0, 0, 0)) (pc' := 85) (ls' := [some (.inl (some 52)), some (zi xv), l2]) (st' := [.inl (some 52), zi xo, .inl (some 52)]) (by decide +kernel) (fun k q => by cases q) rfl ?_
        refine y_get (j := 67) (len := 3) (r := (12, 25, 2, 1353)) (by decide +kernel) hg2214 (t52 hg2214) at52 rfl rfl (g_r52 (f := 25) (T2 := 380) hg2214 rfl (by decide)).1 ?_
        refine y_same (i := .aload_n 0) (len := 1) (r := (0, 0, 0, 0)) (pc' := 89) (ls' := [some (.inl (some 52)), some (zi xv), l2]) (st' := [.inl (some 52), .inl (some 380), zi xo, .inl (some 52)]) (by decide +kernel) (fun k q => by cases q) rfl ?_
        refine y_get (j := 382) (len := 3) (r := (12, 30, 0, 1358)) (by decide +kernel) hg2214 (t52 hg2214) at52 rfl rfl hs2214 ?_
        obtain ⟨v2216, hv2217, lv2216, uv2216⟩ := g_int (i := (td - 1)) hg2214 (tu380 hg2214) at380 (show (td - 1) < 600 by omega) (sr1 (by omega))
        refine y_ial (i := (td - 1)) (len := 1) (r := (0, 0, 0, 0)) (by decide +kernel) hg2214 (tu380 hg2214) at380 (by omega) hv2217 ?_
        have hv2219 := (ho2214 52 26 (Or.inr (by omega))).trans hs
        have Gc : Gv h2214 n := Gv_up2 G hg hn3 ⟨(aup_refl _), hg2214, fun k T j hk (hC : k ≠ 377 ∧ k ≠ 379 ∧ k ≠ 380 ∧ k ≠ 52) => (ho2214 k j (by omega))⟩
        refine y_cI (i := .invokevirtual 397) (len := 3) (r := (0, 231, 12, 1636)) (nL := 5) (k := 2) (n := 3) (hs := []) (args := [.inl (some 52), zi xo, zi v2216]) (rest := []) (l0 := [some (.inl (some 52)), some (zi xo), some (zi v2216), none, none]) (by decide +kernel) (Or.inr (Or.inl ⟨_, rfl⟩)) rfl rfl rfl rfl (Nat.le_of_ble_eq_true rfl) (z52 hg2214) rfl (e_comesA hC hg2214 Gc hv2219 hxs (by omega) (by omega)) (fun y2218 h2218 hRy2218 => ?_)
        obtain ⟨ly2218, uy2218, τ2218, O2218, f2218⟩ := hRy2218
        rcases Decidable.em (y2218.toInt ≠ 0) with q2220 | q2220
        ·
          refine y_iT (c := .ne) (off := 9) (pc' := 105) (len := 3) (r := (0, 0, 0, 0)) (by decide +kernel) (acmpT (c := .ne) (by show ¬ (_ = _); omega)) (by decide +kernel) ?_
          obtain ⟨hn9, ⟨x26, s26, e26⟩, G1⟩ := f2218 (by omega)
          refine y_same (i := .aload_n 0) (len := 1) (r := (0, 0, 0, 0)) (pc' := 106) (ls' := [some (.inl (some 52)), some (zi xv), l2]) (st' := [.inl (some 52)]) (by decide +kernel) (fun k q => by cases q) rfl ?_
          refine y_get (j := 348) (len := 3) (r := (12, 26, 0, 1354)) (by decide +kernel) O2218.2.1 (t52 O2218.2.1) at52 rfl rfl s26 ?_
          refine y_ic (c := 1) (len := 1) (r := (0, 0, 0, 0)) (by decide +kernel) (by decide) (fun y2221 hy2221 => ?_)
          refine y_sub (len := 1) (r := (0, 0, 0, 0)) (by decide +kernel) (by omega) (by omega) (fun y2222 hy2222 => ?_)
          refine y_same (i := .istore_n 2) (len := 1) (r := (0, 0, 0, 0)) (pc' := 112) (ls' := [some (.inl (some 52)), some (zi xv), some (zi y2222)]) (st' := []) (by decide +kernel) (fun k q => by cases q) rfl ?_
          refine y_same (i := .aload_n 0) (len := 1) (r := (0, 0, 0, 0)) (pc' := 113) (ls' := [some (.inl (some 52)), some (zi xv), some (zi y2222)]) (st' := [.inl (some 52)]) (by decide +kernel) (fun k q => by cases q) rfl ?_
          refine y_get (j := 46) (len := 3) (r := (12, 18, 2, 1346)) (by decide +kernel) O2218.2.1 (t52 O2218.2.1) at52 rfl rfl (g_r52 (f := 18) (T2 := 373) O2218.2.1 rfl (by decide)).1 ?_
          refine y_same (i := .iload_n 2) (len := 1) (r := (0, 0, 0, 0)) (pc' := 117) (ls' := [some (.inl (some 52)), some (zi xv), some (zi y2222)]) (st' := [zi y2222, .inl (some 373)]) (by decide +kernel) (fun k q => by cases q) rfl ?_
          obtain ⟨v2223, hv2224, lv2223, uv2223⟩ := g_int (i := n) O2218.2.1 (tu373 O2218.2.1) at373 (show n < 300 by omega) (sr1 (by omega))
          refine y_ial (i := n) (len := 1) (r := (0, 0, 0, 0)) (by decide +kernel) O2218.2.1 (tu373 O2218.2.1) at373 (by omega) hv2224 ?_
          refine y_bi (c := 9) (len := 2) (r := (0, 0, 0, 0)) (by decide +kernel) (by decide) (fun y2225 hy2225 => ?_)
          rcases Decidable.em (v2223.toInt ≠ y2225.toInt) with q2226 | q2226
          ·
            refine y_cT (c := .ne) (off := 14) (pc' := 134) (len := 3) (r := (0, 0, 0, 0)) (by decide +kernel) (acmpT (c := .ne) (by show ¬ (_ = _); omega)) (by decide +kernel) ?_
            refine y_same (i := .aload_n 0) (len := 1) (r := (0, 0, 0, 0)) (pc' := 135) (ls' := [some (.inl (some 52)), some (zi xv), some (zi y2222)]) (st' := [.inl (some 52)]) (by decide +kernel) (fun k q => by cases q) rfl ?_
            refine y_get (j := 46) (len := 3) (r := (12, 18, 2, 1346)) (by decide +kernel) O2218.2.1 (t52 O2218.2.1) at52 rfl rfl (g_r52 (f := 18) (T2 := 373) O2218.2.1 rfl (by decide)).1 ?_
            refine y_same (i := .iload_n 2) (len := 1) (r := (0, 0, 0, 0)) (pc' := 139) (ls' := [some (.inl (some 52)), some (zi xv), some (zi y2222)]) (st' := [zi y2222, .inl (some 373)]) (by decide +kernel) (fun k q => by cases q) rfl ?_
            refine y_ial (i := n) (len := 1) (r := (0, 0, 0, 0)) (by decide +kernel) O2218.2.1 (tu373 O2218.2.1) at373 (by omega) hv2224 ?_
            refine y_ic (c := 2) (len := 1) (r := (0, 0, 0, 0)) (by decide +kernel) (by decide) (fun y2227 hy2227 => ?_)
            rcases Decidable.em (v2223.toInt ≠ y2227.toInt) with q2228 | q2228
            ·
              refine y_cT (c := .ne) (off := 23) (pc' := 164) (len := 3) (r := (0, 0, 0, 0)) (by decide +kernel) (acmpT (c := .ne) (by show ¬ (_ = _); omega)) (by decide +kernel) ?_
              refine y_same (i := .aload_n 0) (len := 1) (r := (0, 0, 0, 0)) (pc' := 165) (ls' := [some (.inl (some 52)), some (zi xv), some (zi y2222)]) (st' := [.inl (some 52)]) (by decide +kernel) (fun k q => by cases q) rfl ?_
              refine y_get (j := 46) (len := 3) (r := (12, 18, 2, 1346)) (by decide +kernel) O2218.2.1 (t52 O2218.2.1) at52 rfl rfl (g_r52 (f := 18) (T2 := 373) O2218.2.1 rfl (by decide)).1 ?_
              refine y_same (i := .iload_n 2) (len := 1) (r := (0, 0, 0, 0)) (pc' := 169) (ls' := [some (.inl (some 52)), some (zi xv), some (zi y2222)]) (st' := [zi y2222, .inl (some 373)]) (by decide +kernel) (fun k q => by cases q) rfl ?_
              refine y_ial (i := n) (len := 1) (r := (0, 0, 0, 0)) (by decide +kernel) O2218.2.1 (tu373 O2218.2.1) at373 (by omega) hv2224 ?_
              refine y_ic (c := 2) (len := 1) (r := (0, 0, 0, 0)) (by decide +kernel) (by decide) (fun y2229 hy2229 => ?_)
              rcases Decidable.em (v2223.toInt > y2229.toInt) with q2230 | q2230
              ·
                refine y_cT (c := .gt) (off := 6) (pc' := 177) (len := 3) (r := (0, 0, 0, 0)) (by decide +kernel) (acmpT (c := .gt) (by show _ < _; omega)) (by decide +kernel) ?_
                refine y_same (i := .aload_n 0) (len := 1) (r := (0, 0, 0, 0)) (pc' := 178) (ls' := [some (.inl (some 52)), some (zi xv), some (zi y2222)]) (st' := [.inl (some 52)]) (by decide +kernel) (fun k q => by cases q) rfl ?_
                refine y_get (j := 46) (len := 3) (r := (12, 18, 2, 1346)) (by decide +kernel) O2218.2.1 (t52 O2218.2.1) at52 rfl rfl (g_r52 (f := 18) (T2 := 373) O2218.2.1 rfl (by decide)).1 ?_
                refine y_same (i := .iload_n 2) (len := 1) (r := (0, 0, 0, 0)) (pc' := 182) (ls' := [some (.inl (some 52)), some (zi xv), some (zi y2222)]) (st' := [zi y2222, .inl (some 373)]) (by decide +kernel) (fun k q => by cases q) rfl ?_
                refine y_ial (i := n) (len := 1) (r := (0, 0, 0, 0)) (by decide +kernel) O2218.2.1 (tu373 O2218.2.1) at373 (by omega) hv2224 ?_
                refine y_bi (c := 6) (len := 2) (r := (0, 0, 0, 0)) (by decide +kernel) (by decide) (fun y2231 hy2231 => ?_)
                rcases Decidable.em (v2223.toInt = y2231.toInt) with q2232 | q2232
                ·
                  refine y_cT (c := .eq) (off := 14) (pc' := 199) (len := 3) (r := (0, 0, 0, 0)) (by decide +kernel) (acmpT (c := .eq) (by show _ = _; omega)) (by decide +kernel) ?_
                  refine y_same (i := .aload_n 0) (len := 1) (r := (0, 0, 0, 0)) (pc' := 200) (ls' := [some (.inl (some 52)), some (zi xv), some (zi y2222)]) (st' := [.inl (some 52)]) (by decide +kernel) (fun k q => by cases q) rfl ?_
                  refine y_same (i := .iload_n 2) (len := 1) (r := (0, 0, 0, 0)) (pc' := 201) (ls' := [some (.inl (some 52)), some (zi xv), some (zi y2222)]) (st' := [zi y2222, .inl (some 52)]) (by decide +kernel) (fun k q => by cases q) rfl ?_
                  refine y_ic (c := 1) (len := 1) (r := (0, 0, 0, 0)) (by decide +kernel) (by decide) (fun y2233 hy2233 => ?_)
                  have hv2235 := (O2218.2.2 52 52 30 (t52 hg2214) (show 52 ≠ 68 ∧ 52 ≠ 69 ∧ 52 ≠ 378 ∧ 52 ≠ 71 + n ∧ ((52 ≠ 371 ∧ 52 ≠ 372 ∧ 52 ≠ 373 ∧ 52 ≠ 374 ∧ 52 ≠ 375 ∧ 52 ≠ 376) ∨ 30 ≠ n) ∧ (52 ≠ 52 ∨ 30 ≠ 26) by omega)).trans hs2214
                  refine y_cV (i := .invokevirtual 394) (len := 3) (r := (0, 237, 12, 1632)) (nL := 3) (k := 0) (n := 3) (hs := []) (args := [.inl (some 52), zi y2222, zi y2233]) (rest := []) (l0 := [some (.inl (some 52)), some (zi y2222), some (zi y2233)]) (by decide +kernel) (Or.inr (Or.inl ⟨_, rfl⟩)) rfl rfl rfl rfl (Nat.le_of_ble_eq_true rfl) (z52 O2218.2.1) rfl (e_waits (td := (td - 1)) O2218.2.1 (by omega) (by omega) (by omega) (by omega) hv2235 (by omega) (by omega)) (fun h2234 hR2234 => ?_)
                  obtain ⟨O2234, a2234, b2234, x2234, c2234, e2234⟩ := hR2234
                  refine y_same (i := .aload_n 0) (len := 1) (r := (0, 0, 0, 0)) (pc' := 206) (ls' := [some (.inl (some 52)), some (zi xv), some (zi y2222)]) (st' := [.inl (some 52)]) (by decide +kernel) (fun k q => by cases q) rfl ?_
                  refine y_same (i := .iload_n 2) (len := 1) (r := (0, 0, 0, 0)) (pc' := 207) (ls' := [some (.inl (some 52)), some (zi xv), some (zi y2222)]) (st' := [zi y2222, .inl (some 52)]) (by decide +kernel) (fun k q => by cases q) rfl ?_
                  refine y_ic (c := 0) (len := 1) (r := (0, 0, 0, 0)) (by decide +kernel) (by decide) (fun y2236 hy2236 => ?_)
                  refine y_cV (i := .invokevirtual 394) (len := 3) (r := (0, 237, 12, 1632)) (nL := 3) (k := 0) (n := 3) (hs := []) (args := [.inl (some 52), zi y2222, zi y2236]) (rest := []) (l0 := [some (.inl (some 52)), some (zi y2222), some (zi y2236)]) (by decide +kernel) (Or.inr (Or.inl ⟨_, rfl⟩)) rfl rfl rfl rfl (Nat.le_of_ble_eq_true rfl) (z52 O2234.2.1) rfl (e_waits (td := ((td - 1) + 1)) O2234.2.1 (by omega) (by omega) (by omega) (by omega) c2234 (by omega) (by omega)) (fun h2237 hR2237 => ?_)
                  obtain ⟨O2237, a2237, b2237, x2237, c2237, e2237⟩ := hR2237
                  refine y_goto (off := (-154)) (pc' := 57) (len := 3) (r := (0, 0, 0, 0)) (by decide +kernel) (by decide +kernel) ?_
                  have hv2238 := (O2234.2.2 52 52 26 (t52 O2218.2.1) (show ((52 ≠ 379 ∧ 52 ≠ 380) ∨ 26 ≠ (td - 1)) ∧ (52 ≠ 52 ∨ 26 ≠ 30) by omega)).trans s26
                  have hv2239 := (O2237.2.2 52 52 26 (t52 O2234.2.1) (show ((52 ≠ 379 ∧ 52 ≠ 380) ∨ 26 ≠ ((td - 1) + 1)) ∧ (52 ≠ 52 ∨ 26 ≠ 30) by omega)).trans hv2238
                  have hv2240 := (ho2214 52 29 (Or.inr (by omega))).trans hd
                  have hv2241 := (O2218.2.2 52 52 29 (t52 hg2214) (show 52 ≠ 68 ∧ 52 ≠ 69 ∧ 52 ≠ 378 ∧ 52 ≠ 71 + n ∧ ((52 ≠ 371 ∧ 52 ≠ 372 ∧ 52 ≠ 373 ∧ 52 ≠ 374 ∧ 52 ≠ 375 ∧ 52 ≠ 376) ∨ 29 ≠ n) ∧ (52 ≠ 52 ∨ 29 ≠ 26) by omega)).trans hv2240
                  have hv2242 := (O2234.2.2 52 52 29 (t52 O2218.2.1) (show ((52 ≠ 379 ∧ 52 ≠ 380) ∨ 29 ≠ (td - 1)) ∧ (52 ≠ 52 ∨ 29 ≠ 30) by omega)).trans hv2241
                  have hv2243 := (O2237.2.2 52 52 29 (t52 O2234.2.1) (show ((52 ≠ 379 ∧ 52 ≠ 380) ∨ 29 ≠ ((td - 1) + 1)) ∧ (52 ≠ 52 ∨ 29 ≠ 30) by omega)).trans hv2242
                  have hv2244 := (O2234.2.2 373 373 n (tu373 O2218.2.1) (show ((373 ≠ 379 ∧ 373 ≠ 380) ∨ n ≠ (td - 1)) ∧ (373 ≠ 52 ∨ n ≠ 30) by omega)).trans hv2224
                  have hv2245 := (O2237.2.2 373 373 n (tu373 O2234.2.1) (show ((373 ≠ 379 ∧ 373 ≠ 380) ∨ n ≠ ((td - 1) + 1)) ∧ (373 ≠ 52 ∨ n ≠ 30) by omega)).trans hv2244
                  have hv2246 := (O2237.2.2 379 379 (td - 1) (tu379 O2234.2.1) (show ((379 ≠ 379 ∧ 379 ≠ 380) ∨ (td - 1) ≠ ((td - 1) + 1)) ∧ (379 ≠ 52 ∨ (td - 1) ≠ 30) by omega)).trans a2234
                  have F : oF (fun k j => k ≠ 68 ∧ k ≠ 69 ∧ k ≠ 378 ∧ k ≠ 71 + n ∧ k ≠ 52 ∧ k ≠ 377 ∧ ((k ≠ 371 ∧ k ≠ 372 ∧ k ≠ 373 ∧ k ≠ 374 ∧ k ≠ 375 ∧ k ≠ 376) ∨ j ≠ n) ∧ ((k ≠ 379 ∧ k ≠ 380) ∨ j < td - 1)) τ h τ2218 h2237 := ⟨(aup_trans (aup_trans O2218.1 O2234.1) O2237.1), O2237.2.1, fun k T j hk (hC : k ≠ 68 ∧ k ≠ 69 ∧ k ≠ 378 ∧ k ≠ 71 + n ∧ k ≠ 52 ∧ k ≠ 377 ∧ ((k ≠ 371 ∧ k ≠ 372 ∧ k ≠ 373 ∧ k ≠ 374 ∧ k ≠ 375 ∧ k ≠ 376) ∨ j ≠ n) ∧ ((k ≠ 379 ∧ k ≠ 380) ∨ j < td - 1)) => ((O2237.2.2 k T j (O2234.1 _ _ (O2218.1 _ _ hk)) (show ((k ≠ 379 ∧ k ≠ 380) ∨ j ≠ ((td - 1) + 1)) ∧ (k ≠ 52 ∨ j ≠ 30) by omega)).trans ((O2234.2.2 k T j (O2218.1 _ _ hk) (show ((k ≠ 379 ∧ k ≠ 380) ∨ j ≠ (td - 1)) ∧ (k ≠ 52 ∨ j ≠ 30) by omega)).trans ((O2218.2.2 k T j hk (show k ≠ 68 ∧ k ≠ 69 ∧ k ≠ 378 ∧ k ≠ 71 + n ∧ ((k ≠ 371 ∧ k ≠ 372 ∧ k ≠ 373 ∧ k ≠ 374 ∧ k ≠ 375 ∧ k ≠ 376) ∨ j ≠ n) ∧ (k ≠ 52 ∨ j ≠ 26) by omega)).trans (ho2214 k j (by omega)))))⟩
                  have G2 : Gv h2237 (n + 1) := Gv_up2 G1 O2218.2.1 (by omega) ⟨(aup_trans O2234.1 O2237.1), O2237.2.1, fun k T j hk (hC : k ≠ 377 ∧ k ≠ 379 ∧ k ≠ 380 ∧ k ≠ 52) => ((O2237.2.2 k T j (O2234.1 _ _ hk) (show ((k ≠ 379 ∧ k ≠ 380) ∨ j ≠ ((td - 1) + 1)) ∧ (k ≠ 52 ∨ j ≠ 30) by omega)).trans (O2234.2.2 k T j hk (show ((k ≠ 379 ∧ k ≠ 380) ∨ j ≠ (td - 1)) ∧ (k ≠ 52 ∨ j ≠ 30) by omega)))⟩
                  have En : ∀ i, i < td - 1 → ent h2237 (n + 1) i := fun i hi => ent_up (hent i (by omega)) (by omega) (F.2.2 379 379 i (tu379 hg) (show 379 ≠ 68 ∧ 379 ≠ 69 ∧ 379 ≠ 378 ∧ 379 ≠ 71 + n ∧ 379 ≠ 52 ∧ 379 ≠ 377 ∧ ((379 ≠ 371 ∧ 379 ≠ 372 ∧ 379 ≠ 373 ∧ 379 ≠ 374 ∧ 379 ≠ 375 ∧ 379 ≠ 376) ∨ i ≠ n) ∧ ((379 ≠ 379 ∧ 379 ≠ 380) ∨ i < td - 1) by omega)) (fun j hj => F.2.2 373 373 j (tu373 hg) (show 373 ≠ 68 ∧ 373 ≠ 69 ∧ 373 ≠ 378 ∧ 373 ≠ 71 + n ∧ 373 ≠ 52 ∧ 373 ≠ 377 ∧ ((373 ≠ 371 ∧ 373 ≠ 372 ∧ 373 ≠ 373 ∧ 373 ≠ 374 ∧ 373 ≠ 375 ∧ 373 ≠ 376) ∨ j ≠ n) ∧ ((373 ≠ 379 ∧ 373 ≠ 380) ∨ j < td - 1) by omega))
                  have En2 : ∀ i, i < (((td - 1) + 1) + 1) → ent h2237 (n + 1) i := fun i hi => by
                    rcases (show i < td - 1 ∨ i = (td - 1) ∨ i = ((td - 1) + 1) by omega) with q | rfl | rfl
                    · exact En i q
                    · exact ent_new hv2246 (by omega) hv2245 (by omega) (by omega)
                    · exact ent_new a2237 (by omega) hv2245 (by omega) (by omega)
                  exact ih τ2218 h2237 ⟨aup_trans O0.1 (aup_trans (aup_trans O2218.1 O2234.1) O2237.1), O2237.2.1, fun k T j hk (hC : k ≠ 68 ∧ k ≠ 69 ∧ (k < 71 ∨ 380 < k) ∧ (k ≠ 52 ∨ j < 26 ∨ 30 < j)) => (((O2237.2.2 k T j (O2234.1 _ _ (O2218.1 _ _ (O0.1 _ _ hk))) (show ((k ≠ 379 ∧ k ≠ 380) ∨ j ≠ ((td - 1) + 1)) ∧ (k ≠ 52 ∨ j ≠ 30) by omega)).trans ((O2234.2.2 k T j (O2218.1 _ _ (O0.1 _ _ hk)) (show ((k ≠ 379 ∧ k ≠ 380) ∨ j ≠ (td - 1)) ∧ (k ≠ 52 ∨ j ≠ 30) by omega)).trans ((O2218.2.2 k T j (O0.1 _ _ hk) (show k ≠ 68 ∧ k ≠ 69 ∧ k ≠ 378 ∧ k ≠ 71 + n ∧ ((k ≠ 371 ∧ k ≠ 372 ∧ k ≠ 373 ∧ k ≠ 374 ∧ k ≠ 375 ∧ k ≠ 376) ∨ j ≠ n) ∧ (k ≠ 52 ∨ j ≠ 26) by omega)).trans (ho2214 k j (by omega)))))).trans (O0.2.2 k T j hk hC)⟩ (n + 1) ((((td - 1) + 1) + 1)) (dn) _ ⟨⟨_, hv2239, by omega⟩, ⟨_, c2237, by omega⟩, ⟨_, hv2243, by omega⟩, by omega, by omega, by omega, G2, En2⟩ (by omega)
                ·
                  refine y_cF (c := .eq) (off := 14) (len := 3) (r := (0, 0, 0, 0)) (by decide +kernel) (acmpF (c := .eq) (by show ¬ (_ = _); omega)) ?_
                  refine y_same (i := .aload_n 0) (len := 1) (r := (0, 0, 0, 0)) (pc' := 189) (ls' := [some (.inl (some 52)), some (zi xv), some (zi y2222)]) (st' := [.inl (some 52)]) (by decide +kernel) (fun k q => by cases q) rfl ?_
                  refine y_get (j := 46) (len := 3) (r := (12, 18, 2, 1346)) (by decide +kernel) O2218.2.1 (t52 O2218.2.1) at52 rfl rfl (g_r52 (f := 18) (T2 := 373) O2218.2.1 rfl (by decide)).1 ?_
                  refine y_same (i := .iload_n 2) (len := 1) (r := (0, 0, 0, 0)) (pc' := 193) (ls' := [some (.inl (some 52)), some (zi xv), some (zi y2222)]) (st' := [zi y2222, .inl (some 373)]) (by decide +kernel) (fun k q => by cases q) rfl ?_
                  refine y_ial (i := n) (len := 1) (r := (0, 0, 0, 0)) (by decide +kernel) O2218.2.1 (tu373 O2218.2.1) at373 (by omega) hv2224 ?_
                  refine y_bi (c := 7) (len := 2) (r := (0, 0, 0, 0)) (by decide +kernel) (by decide) (fun y2247 hy2247 => ?_)
                  rcases Decidable.em (v2223.toInt ≠ y2247.toInt) with q2248 | q2248
                  ·
                    refine y_cT (c := .ne) (off := 9) (pc' := 205) (len := 3) (r := (0, 0, 0, 0)) (by decide +kernel) (acmpT (c := .ne) (by show ¬ (_ = _); omega)) (by decide +kernel) ?_
                    refine y_same (i := .aload_n 0) (len := 1) (r := (0, 0, 0, 0)) (pc' := 206) (ls' := [some (.inl (some 52)), some (zi xv), some (zi y2222)]) (st' := [.inl (some 52)]) (by decide +kernel) (fun k q => by cases q) rfl ?_
                    refine y_same (i := .iload_n 2) (len := 1) (r := (0, 0, 0, 0)) (pc' := 207) (ls' := [some (.inl (some 52)), some (zi xv), some (zi y2222)]) (st' := [zi y2222, .inl (some 52)]) (by decide +kernel) (fun k q => by cases q) rfl ?_
                    refine y_ic (c := 0) (len := 1) (r := (0, 0, 0, 0)) (by decide +kernel) (by decide) (fun y2249 hy2249 => ?_)
                    have hv2251 := (O2218.2.2 52 52 30 (t52 hg2214) (show 52 ≠ 68 ∧ 52 ≠ 69 ∧ 52 ≠ 378 ∧ 52 ≠ 71 + n ∧ ((52 ≠ 371 ∧ 52 ≠ 372 ∧ 52 ≠ 373 ∧ 52 ≠ 374 ∧ 52 ≠ 375 ∧ 52 ≠ 376) ∨ 30 ≠ n) ∧ (52 ≠ 52 ∨ 30 ≠ 26) by omega)).trans hs2214
                    refine y_cV (i := .invokevirtual 394) (len := 3) (r := (0, 237, 12, 1632)) (nL := 3) (k := 0) (n := 3) (hs := []) (args := [.inl (some 52), zi y2222, zi y2249]) (rest := []) (l0 := [some (.inl (some 52)), some (zi y2222), some (zi y2249)]) (by decide +kernel) (Or.inr (Or.inl ⟨_, rfl⟩)) rfl rfl rfl rfl (Nat.le_of_ble_eq_true rfl) (z52 O2218.2.1) rfl (e_waits (td := (td - 1)) O2218.2.1 (by omega) (by omega) (by omega) (by omega) hv2251 (by omega) (by omega)) (fun h2250 hR2250 => ?_)
                    obtain ⟨O2250, a2250, b2250, x2250, c2250, e2250⟩ := hR2250
                    refine y_goto (off := (-154)) (pc' := 57) (len := 3) (r := (0, 0, 0, 0)) (by decide +kernel) (by decide +kernel) ?_
                    have hv2252 := (O2250.2.2 52 52 26 (t52 O2218.2.1) (show ((52 ≠ 379 ∧ 52 ≠ 380) ∨ 26 ≠ (td - 1)) ∧ (52 ≠ 52 ∨ 26 ≠ 30) by omega)).trans s26
                    have hv2253 := (ho2214 52 29 (Or.inr (by omega))).trans hd
                    have hv2254 := (O2218.2.2 52 52 29 (t52 hg2214) (show 52 ≠ 68 ∧ 52 ≠ 69 ∧ 52 ≠ 378 ∧ 52 ≠ 71 + n ∧ ((52 ≠ 371 ∧ 52 ≠ 372 ∧ 52 ≠ 373 ∧ 52 ≠ 374 ∧ 52 ≠ 375 ∧ 52 ≠ 376) ∨ 29 ≠ n) ∧ (52 ≠ 52 ∨ 29 ≠ 26) by omega)).trans hv2253
                    have hv2255 := (O2250.2.2 52 52 29 (t52 O2218.2.1) (show ((52 ≠ 379 ∧ 52 ≠ 380) ∨ 29 ≠ (td - 1)) ∧ (52 ≠ 52 ∨ 29 ≠ 30) by omega)).trans hv2254
                    have hv2256 := (O2250.2.2 373 373 n (tu373 O2218.2.1) (show ((373 ≠ 379 ∧ 373 ≠ 380) ∨ n ≠ (td - 1)) ∧ (373 ≠ 52 ∨ n ≠ 30) by omega)).trans hv2224
                    have F : oF (fun k j => k ≠ 68 ∧ k ≠ 69 ∧ k ≠ 378 ∧ k ≠ 71 + n ∧ k ≠ 52 ∧ k ≠ 377 ∧ ((k ≠ 371 ∧ k ≠ 372 ∧ k ≠ 373 ∧ k ≠ 374 ∧ k ≠ 375 ∧ k ≠ 376) ∨ j ≠ n) ∧ ((k ≠ 379 ∧ k ≠ 380) ∨ j < td - 1)) τ h τ2218 h2250 := ⟨(aup_trans O2218.1 O2250.1), O2250.2.1, fun k T j hk (hC : k ≠ 68 ∧ k ≠ 69 ∧ k ≠ 378 ∧ k ≠ 71 + n ∧ k ≠ 52 ∧ k ≠ 377 ∧ ((k ≠ 371 ∧ k ≠ 372 ∧ k ≠ 373 ∧ k ≠ 374 ∧ k ≠ 375 ∧ k ≠ 376) ∨ j ≠ n) ∧ ((k ≠ 379 ∧ k ≠ 380) ∨ j < td - 1)) => ((O2250.2.2 k T j (O2218.1 _ _ hk) (show ((k ≠ 379 ∧ k ≠ 380) ∨ j ≠ (td - 1)) ∧ (k ≠ 52 ∨ j ≠ 30) by omega)).trans ((O2218.2.2 k T j hk (show k ≠ 68 ∧ k ≠ 69 ∧ k ≠ 378 ∧ k ≠ 71 + n ∧ ((k ≠ 371 ∧ k ≠ 372 ∧ k ≠ 373 ∧ k ≠ 374 ∧ k ≠ 375 ∧ k ≠ 376) ∨ j ≠ n) ∧ (k ≠ 52 ∨ j ≠ 26) by omega)).trans (ho2214 k j (by omega))))⟩
                    have G2 : Gv h2250 (n + 1) := Gv_up2 G1 O2218.2.1 (by omega) ⟨O2250.1, O2250.2.1, fun k T j hk (hC : k ≠ 377 ∧ k ≠ 379 ∧ k ≠ 380 ∧ k ≠ 52) => (O2250.2.2 k T j hk (show ((k ≠ 379 ∧ k ≠ 380) ∨ j ≠ (td - 1)) ∧ (k ≠ 52 ∨ j ≠ 30) by omega))⟩
                    have En : ∀ i, i < td - 1 → ent h2250 (n + 1) i := fun i hi => ent_up (hent i (by omega)) (by omega) (F.2.2 379 379 i (tu379 hg) (show 379 ≠ 68 ∧ 379 ≠ 69 ∧ 379 ≠ 378 ∧ 379 ≠ 71 + n ∧ 379 ≠ 52 ∧ 379 ≠ 377 ∧ ((379 ≠ 371 ∧ 379 ≠ 372 ∧ 379 ≠ 373 ∧ 379 ≠ 374 ∧ 379 ≠ 375 ∧ 379 ≠ 376) ∨ i ≠ n) ∧ ((379 ≠ 379 ∧ 379 ≠ 380) ∨ i < td - 1) by omega)) (fun j hj => F.2.2 373 373 j (tu373 hg) (show 373 ≠ 68 ∧ 373 ≠ 69 ∧ 373 ≠ 378 ∧ 373 ≠ 71 + n ∧ 373 ≠ 52 ∧ 373 ≠ 377 ∧ ((373 ≠ 371 ∧ 373 ≠ 372 ∧ 373 ≠ 373 ∧ 373 ≠ 374 ∧ 373 ≠ 375 ∧ 373 ≠ 376) ∨ j ≠ n) ∧ ((373 ≠ 379 ∧ 373 ≠ 380) ∨ j < td - 1) by omega))
                    have En2 : ∀ i, i < ((td - 1) + 1) → ent h2250 (n + 1) i := fun i hi => by
                      rcases (show i < td - 1 ∨ i = (td - 1) by omega) with q | rfl
                      · exact En i q
                      · exact ent_new a2250 (by omega) hv2256 (by omega) (by omega)
                    exact ih τ2218 h2250 ⟨aup_trans O0.1 (aup_trans O2218.1 O2250.1), O2250.2.1, fun k T j hk (hC : k ≠ 68 ∧ k ≠ 69 ∧ (k < 71 ∨ 380 < k) ∧ (k ≠ 52 ∨ j < 26 ∨ 30 < j)) => (((O2250.2.2 k T j (O2218.1 _ _ (O0.1 _ _ hk)) (show ((k ≠ 379 ∧ k ≠ 380) ∨ j ≠ (td - 1)) ∧ (k ≠ 52 ∨ j ≠ 30) by omega)).trans ((O2218.2.2 k T j (O0.1 _ _ hk) (show k ≠ 68 ∧ k ≠ 69 ∧ k ≠ 378 ∧ k ≠ 71 + n ∧ ((k ≠ 371 ∧ k ≠ 372 ∧ k ≠ 373 ∧ k ≠ 374 ∧ k ≠ 375 ∧ k ≠ 376) ∨ j ≠ n) ∧ (k ≠ 52 ∨ j ≠ 26) by omega)).trans (ho2214 k j (by omega))))).trans (O0.2.2 k T j hk hC)⟩ (n + 1) (((td - 1) + 1)) (dn) _ ⟨⟨_, hv2252, by omega⟩, ⟨_, c2250, by omega⟩, ⟨_, hv2255, by omega⟩, by omega, by omega, by omega, G2, En2⟩ (by omega)
                  ·
                    refine y_cF (c := .ne) (off := 9) (len := 3) (r := (0, 0, 0, 0)) (by decide +kernel) (acmpF (c := .ne) (by show _ = _; omega)) ?_
                    refine y_same (i := .aload_n 0) (len := 1) (r := (0, 0, 0, 0)) (pc' := 200) (ls' := [some (.inl (some 52)), some (zi xv), some (zi y2222)]) (st' := [.inl (some 52)]) (by decide +kernel) (fun k q => by cases q) rfl ?_
                    refine y_same (i := .iload_n 2) (len := 1) (r := (0, 0, 0, 0)) (pc' := 201) (ls' := [some (.inl (some 52)), some (zi xv), some (zi y2222)]) (st' := [zi y2222, .inl (some 52)]) (by decide +kernel) (fun k q => by cases q) rfl ?_
                    refine y_ic (c := 1) (len := 1) (r := (0, 0, 0, 0)) (by decide +kernel) (by decide) (fun y2257 hy2257 => ?_)
                    have hv2259 := (O2218.2.2 52 52 30 (t52 hg2214) (show 52 ≠ 68 ∧ 52 ≠ 69 ∧ 52 ≠ 378 ∧ 52 ≠ 71 + n ∧ ((52 ≠ 371 ∧ 52 ≠ 372 ∧ 52 ≠ 373 ∧ 52 ≠ 374 ∧ 52 ≠ 375 ∧ 52 ≠ 376) ∨ 30 ≠ n) ∧ (52 ≠ 52 ∨ 30 ≠ 26) by omega)).trans hs2214
                    refine y_cV (i := .invokevirtual 394) (len := 3) (r := (0, 237, 12, 1632)) (nL := 3) (k := 0) (n := 3) (hs := []) (args := [.inl (some 52), zi y2222, zi y2257]) (rest := []) (l0 := [some (.inl (some 52)), some (zi y2222), some (zi y2257)]) (by decide +kernel) (Or.inr (Or.inl ⟨_, rfl⟩)) rfl rfl rfl rfl (Nat.le_of_ble_eq_true rfl) (z52 O2218.2.1) rfl (e_waits (td := (td - 1)) O2218.2.1 (by omega) (by omega) (by omega) (by omega) hv2259 (by omega) (by omega)) (fun h2258 hR2258 => ?_)
                    obtain ⟨O2258, a2258, b2258, x2258, c2258, e2258⟩ := hR2258
                    refine y_same (i := .aload_n 0) (len := 1) (r := (0, 0, 0, 0)) (pc' := 206) (ls' := [some (.inl (some 52)), some (zi xv), some (zi y2222)]) (st' := [.inl (some 52)]) (by decide +kernel) (fun k q => by cases q) rfl ?_
                    refine y_same (i := .iload_n 2) (len := 1) (r := (0, 0, 0, 0)) (pc' := 207) (ls' := [some (.inl (some 52)), some (zi xv), some (zi y2222)]) (st' := [zi y2222, .inl (some 52)]) (by decide +kernel) (fun k q => by cases q) rfl ?_
                    refine y_ic (c := 0) (len := 1) (r := (0, 0, 0, 0)) (by decide +kernel) (by decide) (fun y2260 hy2260 => ?_)
                    refine y_cV (i := .invokevirtual 394) (len := 3) (r := (0, 237, 12, 1632)) (nL := 3) (k := 0) (n := 3) (hs := []) (args := [.inl (some 52), zi y2222, zi y2260]) (rest := []) (l0 := [some (.inl (some 52)), some (zi y2222), some (zi y2260)]) (by decide +kernel) (Or.inr (Or.inl ⟨_, rfl⟩)) rfl rfl rfl rfl (Nat.le_of_ble_eq_true rfl) (z52 O2258.2.1) rfl (e_waits (td := ((td - 1) + 1)) O2258.2.1 (by omega) (by omega) (by omega) (by omega) c2258 (by omega) (by omega)) (fun h2261 hR2261 => ?_)
                    obtain ⟨O2261, a2261, b2261, x2261, c2261, e2261⟩ := hR2261
                    refine y_goto (off := (-154)) (pc' := 57) (len := 3) (r := (0, 0, 0, 0)) (by decide +kernel) (by decide +kernel) ?_
                    have hv2262 := (O2258.2.2 52 52 26 (t52 O2218.2.1) (show ((52 ≠ 379 ∧ 52 ≠ 380) ∨ 26 ≠ (td - 1)) ∧ (52 ≠ 52 ∨ 26 ≠ 30) by omega)).trans s26
                    have hv2263 := (O2261.2.2 52 52 26 (t52 O2258.2.1) (show ((52 ≠ 379 ∧ 52 ≠ 380) ∨ 26 ≠ ((td - 1) + 1)) ∧ (52 ≠ 52 ∨ 26 ≠ 30) by omega)).trans hv2262
                    have hv2264 := (ho2214 52 29 (Or.inr (by omega))).trans hd
                    have hv2265 := (O2218.2.2 52 52 29 (t52 hg2214) (show 52 ≠ 68 ∧ 52 ≠ 69 ∧ 52 ≠ 378 ∧ 52 ≠ 71 + n ∧ ((52 ≠ 371 ∧ 52 ≠ 372 ∧ 52 ≠ 373 ∧ 52 ≠ 374 ∧ 52 ≠ 375 ∧ 52 ≠ 376) ∨ 29 ≠ n) ∧ (52 ≠ 52 ∨ 29 ≠ 26) by omega)).trans hv2264
                    have hv2266 := (O2258.2.2 52 52 29 (t52 O2218.2.1) (show ((52 ≠ 379 ∧ 52 ≠ 380) ∨ 29 ≠ (td - 1)) ∧ (52 ≠ 52 ∨ 29 ≠ 30) by omega)).trans hv2265
                    have hv2267 := (O2261.2.2 52 52 29 (t52 O2258.2.1) (show ((52 ≠ 379 ∧ 52 ≠ 380) ∨ 29 ≠ ((td - 1) + 1)) ∧ (52 ≠ 52 ∨ 29 ≠ 30) by omega)).trans hv2266
                    have hv2268 := (O2258.2.2 373 373 n (tu373 O2218.2.1) (show ((373 ≠ 379 ∧ 373 ≠ 380) ∨ n ≠ (td - 1)) ∧ (373 ≠ 52 ∨ n ≠ 30) by omega)).trans hv2224
                    have hv2269 := (O2261.2.2 373 373 n (tu373 O2258.2.1) (show ((373 ≠ 379 ∧ 373 ≠ 380) ∨ n ≠ ((td - 1) + 1)) ∧ (373 ≠ 52 ∨ n ≠ 30) by omega)).trans hv2268
                    have hv2270 := (O2261.2.2 379 379 (td - 1) (tu379 O2258.2.1) (show ((379 ≠ 379 ∧ 379 ≠ 380) ∨ (td - 1) ≠ ((td - 1) + 1)) ∧ (379 ≠ 52 ∨ (td - 1) ≠ 30) by omega)).trans a2258
                    have F : oF (fun k j => k ≠ 68 ∧ k ≠ 69 ∧ k ≠ 378 ∧ k ≠ 71 + n ∧ k ≠ 52 ∧ k ≠ 377 ∧ ((k ≠ 371 ∧ k ≠ 372 ∧ k ≠ 373 ∧ k ≠ 374 ∧ k ≠ 375 ∧ k ≠ 376) ∨ j ≠ n) ∧ ((k ≠ 379 ∧ k ≠ 380) ∨ j < td - 1)) τ h τ2218 h2261 := ⟨(aup_trans (aup_trans O2218.1 O2258.1) O2261.1), O2261.2.1, fun k T j hk (hC : k ≠ 68 ∧ k ≠ 69 ∧ k ≠ 378 ∧ k ≠ 71 + n ∧ k ≠ 52 ∧ k ≠ 377 ∧ ((k ≠ 371 ∧ k ≠ 372 ∧ k ≠ 373 ∧ k ≠ 374 ∧ k ≠ 375 ∧ k ≠ 376) ∨ j ≠ n) ∧ ((k ≠ 379 ∧ k ≠ 380) ∨ j < td - 1)) => ((O2261.2.2 k T j (O2258.1 _ _ (O2218.1 _ _ hk)) (show ((k ≠ 379 ∧ k ≠ 380) ∨ j ≠ ((td - 1) + 1)) ∧ (k ≠ 52 ∨ j ≠ 30) by omega)).trans ((O2258.2.2 k T j (O2218.1 _ _ hk) (show ((k ≠ 379 ∧ k ≠ 380) ∨ j ≠ (td - 1)) ∧ (k ≠ 52 ∨ j ≠ 30) by omega)).trans ((O2218.2.2 k T j hk (show k ≠ 68 ∧ k ≠ 69 ∧ k ≠ 378 ∧ k ≠ 71 + n ∧ ((k ≠ 371 ∧ k ≠ 372 ∧ k ≠ 373 ∧ k ≠ 374 ∧ k ≠ 375 ∧ k ≠ 376) ∨ j ≠ n) ∧ (k ≠ 52 ∨ j ≠ 26) by omega)).trans (ho2214 k j (by omega)))))⟩
                    have G2 : Gv h2261 (n + 1) := Gv_up2 G1 O2218.2.1 (by omega) ⟨(aup_trans O2258.1 O2261.1), O2261.2.1, fun k T j hk (hC : k ≠ 377 ∧ k ≠ 379 ∧ k ≠ 380 ∧ k ≠ 52) => ((O2261.2.2 k T j (O2258.1 _ _ hk) (show ((k ≠ 379 ∧ k ≠ 380) ∨ j ≠ ((td - 1) + 1)) ∧ (k ≠ 52 ∨ j ≠ 30) by omega)).trans (O2258.2.2 k T j hk (show ((k ≠ 379 ∧ k ≠ 380) ∨ j ≠ (td - 1)) ∧ (k ≠ 52 ∨ j ≠ 30) by omega)))⟩
                    have En : ∀ i, i < td - 1 → ent h2261 (n + 1) i := fun i hi => ent_up (hent i (by omega)) (by omega) (F.2.2 379 379 i (tu379 hg) (show 379 ≠ 68 ∧ 379 ≠ 69 ∧ 379 ≠ 378 ∧ 379 ≠ 71 + n ∧ 379 ≠ 52 ∧ 379 ≠ 377 ∧ ((379 ≠ 371 ∧ 379 ≠ 372 ∧ 379 ≠ 373 ∧ 379 ≠ 374 ∧ 379 ≠ 375 ∧ 379 ≠ 376) ∨ i ≠ n) ∧ ((379 ≠ 379 ∧ 379 ≠ 380) ∨ i < td - 1) by omega)) (fun j hj => F.2.2 373 373 j (tu373 hg) (show 373 ≠ 68 ∧ 373 ≠ 69 ∧ 373 ≠ 378 ∧ 373 ≠ 71 + n ∧ 373 ≠ 52 ∧ 373 ≠ 377 ∧ ((373 ≠ 371 ∧ 373 ≠ 372 ∧ 373 ≠ 373 ∧ 373 ≠ 374 ∧ 373 ≠ 375 ∧ 373 ≠ 376) ∨ j ≠ n) ∧ ((373 ≠ 379 ∧ 373 ≠ 380) ∨ j < td - 1) by omega))
                    have En2 : ∀ i, i < (((td - 1) + 1) + 1) → ent h2261 (n + 1) i := fun i hi => by
                      rcases (show i < td - 1 ∨ i = (td - 1) ∨ i = ((td - 1) + 1) by omega) with q | rfl | rfl
                      · exact En i q
                      · exact ent_new hv2270 (by omega) hv2269 (by omega) (by omega)
                      · exact ent_new a2261 (by omega) hv2269 (by omega) (by omega)
                    exact ih τ2218 h2261 ⟨aup_trans O0.1 (aup_trans (aup_trans O2218.1 O2258.1) O2261.1), O2261.2.1, fun k T j hk (hC : k ≠ 68 ∧ k ≠ 69 ∧ (k < 71 ∨ 380 < k) ∧ (k ≠ 52 ∨ j < 26 ∨ 30 < j)) => (((O2261.2.2 k T j (O2258.1 _ _ (O2218.1 _ _ (O0.1 _ _ hk))) (show ((k ≠ 379 ∧ k ≠ 380) ∨ j ≠ ((td - 1) + 1)) ∧ (k ≠ 52 ∨ j ≠ 30) by omega)).trans ((O2258.2.2 k T j (O2218.1 _ _ (O0.1 _ _ hk)) (show ((k ≠ 379 ∧ k ≠ 380) ∨ j ≠ (td - 1)) ∧ (k ≠ 52 ∨ j ≠ 30) by omega)).trans ((O2218.2.2 k T j (O0.1 _ _ hk) (show k ≠ 68 ∧ k ≠ 69 ∧ k ≠ 378 ∧ k ≠ 71 + n ∧ ((k ≠ 371 ∧ k ≠ 372 ∧ k ≠ 373 ∧ k ≠ 374 ∧ k ≠ 375 ∧ k ≠ 376) ∨ j ≠ n) ∧ (k ≠ 52 ∨ j ≠ 26) by omega)).trans (ho2214 k j (by omega)))))).trans (O0.2.2 k T j hk hC)⟩ (n + 1) ((((td - 1) + 1) + 1)) (dn) _ ⟨⟨_, hv2263, by omega⟩, ⟨_, c2261, by omega⟩, ⟨_, hv2267, by omega⟩, by omega, by omega, by omega, G2, En2⟩ (by omega)
              ·
                refine y_cF (c := .gt) (off := 6) (len := 3) (r := (0, 0, 0, 0)) (by decide +kernel) (acmpF (c := .gt) (by show _ ≤ _; omega)) ?_
                refine y_goto (off := (-117)) (pc' := 57) (len := 3) (r := (0, 0, 0, 0)) (by decide +kernel) (by decide +kernel) ?_
                have hv2271 := (O2218.2.2 52 52 30 (t52 hg2214) (show 52 ≠ 68 ∧ 52 ≠ 69 ∧ 52 ≠ 378 ∧ 52 ≠ 71 + n ∧ ((52 ≠ 371 ∧ 52 ≠ 372 ∧ 52 ≠ 373 ∧ 52 ≠ 374 ∧ 52 ≠ 375 ∧ 52 ≠ 376) ∨ 30 ≠ n) ∧ (52 ≠ 52 ∨ 30 ≠ 26) by omega)).trans hs2214
                have hv2272 := (ho2214 52 29 (Or.inr (by omega))).trans hd
                have hv2273 := (O2218.2.2 52 52 29 (t52 hg2214) (show 52 ≠ 68 ∧ 52 ≠ 69 ∧ 52 ≠ 378 ∧ 52 ≠ 71 + n ∧ ((52 ≠ 371 ∧ 52 ≠ 372 ∧ 52 ≠ 373 ∧ 52 ≠ 374 ∧ 52 ≠ 375 ∧ 52 ≠ 376) ∨ 29 ≠ n) ∧ (52 ≠ 52 ∨ 29 ≠ 26) by omega)).trans hv2272
                have F : oF (fun k j => k ≠ 68 ∧ k ≠ 69 ∧ k ≠ 378 ∧ k ≠ 71 + n ∧ k ≠ 52 ∧ k ≠ 377 ∧ ((k ≠ 371 ∧ k ≠ 372 ∧ k ≠ 373 ∧ k ≠ 374 ∧ k ≠ 375 ∧ k ≠ 376) ∨ j ≠ n) ∧ ((k ≠ 379 ∧ k ≠ 380) ∨ j < td - 1)) τ h τ2218 h2218 := ⟨O2218.1, O2218.2.1, fun k T j hk (hC : k ≠ 68 ∧ k ≠ 69 ∧ k ≠ 378 ∧ k ≠ 71 + n ∧ k ≠ 52 ∧ k ≠ 377 ∧ ((k ≠ 371 ∧ k ≠ 372 ∧ k ≠ 373 ∧ k ≠ 374 ∧ k ≠ 375 ∧ k ≠ 376) ∨ j ≠ n) ∧ ((k ≠ 379 ∧ k ≠ 380) ∨ j < td - 1)) => ((O2218.2.2 k T j hk (show k ≠ 68 ∧ k ≠ 69 ∧ k ≠ 378 ∧ k ≠ 71 + n ∧ ((k ≠ 371 ∧ k ≠ 372 ∧ k ≠ 373 ∧ k ≠ 374 ∧ k ≠ 375 ∧ k ≠ 376) ∨ j ≠ n) ∧ (k ≠ 52 ∨ j ≠ 26) by omega)).trans (ho2214 k j (by omega)))⟩
                have G2 : Gv h2218 (n + 1) := Gv_up2 G1 O2218.2.1 (by omega) ⟨(aup_refl _), O2218.2.1, fun k T j hk (hC : k ≠ 377 ∧ k ≠ 379 ∧ k ≠ 380 ∧ k ≠ 52) => rfl⟩
                have En : ∀ i, i < td - 1 → ent h2218 (n + 1) i := fun i hi => ent_up (hent i (by omega)) (by omega) (F.2.2 379 379 i (tu379 hg) (show 379 ≠ 68 ∧ 379 ≠ 69 ∧ 379 ≠ 378 ∧ 379 ≠ 71 + n ∧ 379 ≠ 52 ∧ 379 ≠ 377 ∧ ((379 ≠ 371 ∧ 379 ≠ 372 ∧ 379 ≠ 373 ∧ 379 ≠ 374 ∧ 379 ≠ 375 ∧ 379 ≠ 376) ∨ i ≠ n) ∧ ((379 ≠ 379 ∧ 379 ≠ 380) ∨ i < td - 1) by omega)) (fun j hj => F.2.2 373 373 j (tu373 hg) (show 373 ≠ 68 ∧ 373 ≠ 69 ∧ 373 ≠ 378 ∧ 373 ≠ 71 + n ∧ 373 ≠ 52 ∧ 373 ≠ 377 ∧ ((373 ≠ 371 ∧ 373 ≠ 372 ∧ 373 ≠ 373 ∧ 373 ≠ 374 ∧ 373 ≠ 375 ∧ 373 ≠ 376) ∨ j ≠ n) ∧ ((373 ≠ 379 ∧ 373 ≠ 380) ∨ j < td - 1) by omega))
                exact ih τ2218 h2218 ⟨aup_trans O0.1 O2218.1, O2218.2.1, fun k T j hk (hC : k ≠ 68 ∧ k ≠ 69 ∧ (k < 71 ∨ 380 < k) ∧ (k ≠ 52 ∨ j < 26 ∨ 30 < j)) => (((O2218.2.2 k T j (O0.1 _ _ hk) (show k ≠ 68 ∧ k ≠ 69 ∧ k ≠ 378 ∧ k ≠ 71 + n ∧ ((k ≠ 371 ∧ k ≠ 372 ∧ k ≠ 373 ∧ k ≠ 374 ∧ k ≠ 375 ∧ k ≠ 376) ∨ j ≠ n) ∧ (k ≠ 52 ∨ j ≠ 26) by omega)).trans (ho2214 k j (by omega)))).trans (O0.2.2 k T j hk hC)⟩ (n + 1) ((td - 1)) (dn) _ ⟨⟨_, s26, by omega⟩, ⟨_, hv2271, by omega⟩, ⟨_, hv2273, by omega⟩, by omega, by omega, by omega, G2, En⟩ (by omega)
            ·
              refine y_cF (c := .ne) (off := 23) (len := 3) (r := (0, 0, 0, 0)) (by decide +kernel) (acmpF (c := .ne) (by show _ = _; omega)) ?_
              refine y_same (i := .aload_n 0) (len := 1) (r := (0, 0, 0, 0)) (pc' := 145) (ls' := [some (.inl (some 52)), some (zi xv), some (zi y2222)]) (st' := [.inl (some 52)]) (by decide +kernel) (fun k q => by cases q) rfl ?_
              refine y_get (j := 58) (len := 3) (r := (12, 22, 2, 1350)) (by decide +kernel) O2218.2.1 (t52 O2218.2.1) at52 rfl rfl (g_r52 (f := 22) (T2 := 377) O2218.2.1 rfl (by decide)).1 ?_
              refine y_same (i := .aload_n 0) (len := 1) (r := (0, 0, 0, 0)) (pc' := 149) (ls' := [some (.inl (some 52)), some (zi xv), some (zi y2222)]) (st' := [.inl (some 52), .inl (some 377)]) (by decide +kernel) (fun k q => by cases q) rfl ?_
              have hv2274 := (ho2214 52 29 (Or.inr (by omega))).trans hd
              have hv2275 := (O2218.2.2 52 52 29 (t52 hg2214) (show 52 ≠ 68 ∧ 52 ≠ 69 ∧ 52 ≠ 378 ∧ 52 ≠ 71 + n ∧ ((52 ≠ 371 ∧ 52 ≠ 372 ∧ 52 ≠ 373 ∧ 52 ≠ 374 ∧ 52 ≠ 375 ∧ 52 ≠ 376) ∨ 29 ≠ n) ∧ (52 ≠ 52 ∨ 29 ≠ 26) by omega)).trans hv2274
              refine y_get (j := 385) (len := 3) (r := (12, 29, 0, 1357)) (by decide +kernel) O2218.2.1 (t52 O2218.2.1) at52 rfl rfl hv2275 ?_
              refine y_same (i := .iload_n 2) (len := 1) (r := (0, 0, 0, 0)) (pc' := 153) (ls' := [some (.inl (some 52)), some (zi xv), some (zi y2222)]) (st' := [zi y2222, zi xd, .inl (some 377)]) (by decide +kernel) (fun k q => by cases q) rfl ?_
              refine y_ias (i := dn) (len := 1) (r := (0, 0, 0, 0)) (by decide +kernel) O2218.2.1 (tu377 O2218.2.1) at377 rfl (by omega) (by omega) (sr1 (by omega)) (by omega) (by omega) (fun h2276 hg2276 hl2276 hs2276 ho2276 => ?_)
              refine y_same (i := .aload_n 0) (len := 1) (r := (0, 0, 0, 0)) (pc' := 155) (ls' := [some (.inl (some 52)), some (zi xv), some (zi y2222)]) (st' := [.inl (some 52)]) (by decide +kernel) (fun k q => by cases q) rfl ?_
              refine y_same (i := .dup) (len := 1) (r := (0, 0, 0, 0)) (pc' := 156) (ls' := [some (.inl (some 52)), some (zi xv), some (zi y2222)]) (st' := [.inl (some 52), .inl (some 52)]) (by decide +kernel) (fun k q => by cases q) rfl ?_
              have hv2277 := (ho2276 52 29 (Or.inl (by omega))).trans hv2275
              refine y_get (j := 385) (len := 3) (r := (12, 29, 0, 1357)) (by decide +kernel) hg2276 (t52 hg2276) at52 rfl rfl hv2277 ?_
              refine y_ic (c := 1) (len := 1) (r := (0, 0, 0, 0)) (by decide +kernel) (by decide) (fun y2278 hy2278 => ?_)
              refine y_add (len := 1) (r := (0, 0, 0, 0)) (by decide +kernel) (by omega) (by omega) (fun y2279 hy2279 => ?_)
              refine y_put (j := 385) (lo := 0) (hi := 300) (len := 3) (r := (12, 29, 0, 1357)) (by decide +kernel) hg2276 (t52 hg2276) at52 rfl rfl (by decide) rfl (by omega) (by omega) rfl (fun h2280 hg2280 hl2280 hs2280 ho2280 => ?_)
              have ho2280 : hO 52 29 h2276 h2280 := ho2280
              have hs2280 : hsl h2280 52 29 = some (zi y2279) := hs2280
              refine y_same (i := .aload_n 0) (len := 1) (r := (0, 0, 0, 0)) (pc' := 165) (ls' := [some (.inl (some 52)), some (zi xv), some (zi y2222)]) (st' := [.inl (some 52)]) (by decide +kernel) (fun k q => by cases q) rfl ?_
              refine y_get (j := 46) (len := 3) (r := (12, 18, 2, 1346)) (by decide +kernel) hg2280 (t52 hg2280) at52 rfl rfl (g_r52 (f := 18) (T2 := 373) hg2280 rfl (by decide)).1 ?_
              refine y_same (i := .iload_n 2) (len := 1) (r := (0, 0, 0, 0)) (pc' := 169) (ls' := [some (.inl (some 52)), some (zi xv), some (zi y2222)]) (st' := [zi y2222, .inl (some 373)]) (by decide +kernel) (fun k q => by cases q) rfl ?_
              have hv2281 := (ho2276 373 n (Or.inl (by omega))).trans hv2224
              have hv2282 := (ho2280 373 n (Or.inl (by omega))).trans hv2281
              refine y_ial (i := n) (len := 1) (r := (0, 0, 0, 0)) (by decide +kernel) hg2280 (tu373 hg2280) at373 (by omega) hv2282 ?_
              refine y_ic (c := 2) (len := 1) (r := (0, 0, 0, 0)) (by decide +kernel) (by decide) (fun y2283 hy2283 => ?_)
              rcases Decidable.em (v2223.toInt > y2283.toInt) with q2284 | q2284
              ·
                refine y_cT (c := .gt) (off := 6) (pc' := 177) (len := 3) (r := (0, 0, 0, 0)) (by decide +kernel) (acmpT (c := .gt) (by show _ < _; omega)) (by decide +kernel) ?_
                refine y_same (i := .aload_n 0) (len := 1) (r := (0, 0, 0, 0)) (pc' := 178) (ls' := [some (.inl (some 52)), some (zi xv), some (zi y2222)]) (st' := [.inl (some 52)]) (by decide +kernel) (fun k q => by cases q) rfl ?_
                refine y_get (j := 46) (len := 3) (r := (12, 18, 2, 1346)) (by decide +kernel) hg2280 (t52 hg2280) at52 rfl rfl (g_r52 (f := 18) (T2 := 373) hg2280 rfl (by decide)).1 ?_
                refine y_same (i := .iload_n 2) (len := 1) (r := (0, 0, 0, 0)) (pc' := 182) (ls' := [some (.inl (some 52)), some (zi xv), some (zi y2222)]) (st' := [zi y2222, .inl (some 373)]) (by decide +kernel) (fun k q => by cases q) rfl ?_
                refine y_ial (i := n) (len := 1) (r := (0, 0, 0, 0)) (by decide +kernel) hg2280 (tu373 hg2280) at373 (by omega) hv2282 ?_
                refine y_bi (c := 6) (len := 2) (r := (0, 0, 0, 0)) (by decide +kernel) (by decide) (fun y2285 hy2285 => ?_)
                rcases Decidable.em (v2223.toInt = y2285.toInt) with q2286 | q2286
                ·
                  refine y_cT (c := .eq) (off := 14) (pc' := 199) (len := 3) (r := (0, 0, 0, 0)) (by decide +kernel) (acmpT (c := .eq) (by show _ = _; omega)) (by decide +kernel) ?_
                  refine y_same (i := .aload_n 0) (len := 1) (r := (0, 0, 0, 0)) (pc' := 200) (ls' := [some (.inl (some 52)), some (zi xv), some (zi y2222)]) (st' := [.inl (some 52)]) (by decide +kernel) (fun k q => by cases q) rfl ?_
                  refine y_same (i := .iload_n 2) (len := 1) (r := (0, 0, 0, 0)) (pc' := 201) (ls' := [some (.inl (some 52)), some (zi xv), some (zi y2222)]) (st' := [zi y2222, .inl (some 52)]) (by decide +kernel) (fun k q => by cases q) rfl ?_
                  refine y_ic (c := 1) (len := 1) (r := (0, 0, 0, 0)) (by decide +kernel) (by decide) (fun y2287 hy2287 => ?_)
                  have hv2289 := (O2218.2.2 52 52 30 (t52 hg2214) (show 52 ≠ 68 ∧ 52 ≠ 69 ∧ 52 ≠ 378 ∧ 52 ≠ 71 + n ∧ ((52 ≠ 371 ∧ 52 ≠ 372 ∧ 52 ≠ 373 ∧ 52 ≠ 374 ∧ 52 ≠ 375 ∧ 52 ≠ 376) ∨ 30 ≠ n) ∧ (52 ≠ 52 ∨ 30 ≠ 26) by omega)).trans hs2214
                  have hv2290 := (ho2276 52 30 (Or.inl (by omega))).trans hv2289
                  have hv2291 := (ho2280 52 30 (Or.inr (by omega))).trans hv2290
                  refine y_cV (i := .invokevirtual 394) (len := 3) (r := (0, 237, 12, 1632)) (nL := 3) (k := 0) (n := 3) (hs := []) (args := [.inl (some 52), zi y2222, zi y2287]) (rest := []) (l0 := [some (.inl (some 52)), some (zi y2222), some (zi y2287)]) (by decide +kernel) (Or.inr (Or.inl ⟨_, rfl⟩)) rfl rfl rfl rfl (Nat.le_of_ble_eq_true rfl) (z52 hg2280) rfl (e_waits (td := (td - 1)) hg2280 (by omega) (by omega) (by omega) (by omega) hv2291 (by omega) (by omega)) (fun h2288 hR2288 => ?_)
                  obtain ⟨O2288, a2288, b2288, x2288, c2288, e2288⟩ := hR2288
                  refine y_same (i := .aload_n 0) (len := 1) (r := (0, 0, 0, 0)) (pc' := 206) (ls' := [some (.inl (some 52)), some (zi xv), some (zi y2222)]) (st' := [.inl (some 52)]) (by decide +kernel) (fun k q => by cases q) rfl ?_
                  refine y_same (i := .iload_n 2) (len := 1) (r := (0, 0, 0, 0)) (pc' := 207) (ls' := [some (.inl (some 52)), some (zi xv), some (zi y2222)]) (st' := [zi y2222, .inl (some 52)]) (by decide +kernel) (fun k q => by cases q) rfl ?_
                  refine y_ic (c := 0) (len := 1) (r := (0, 0, 0, 0)) (by decide +kernel) (by decide) (fun y2292 hy2292 => ?_)
                  refine y_cV (i := .invokevirtual 394) (len := 3) (r := (0, 237, 12, 1632)) (nL := 3) (k := 0) (n := 3) (hs := []) (args := [.inl (some 52), zi y2222, zi y2292]) (rest := []) (l0 := [some (.inl (some 52)), some (zi y2222), some (zi y2292)]) (by decide +kernel) (Or.inr (Or.inl ⟨_, rfl⟩)) rfl rfl rfl rfl (Nat.le_of_ble_eq_true rfl) (z52 O2288.2.1) rfl (e_waits (td := ((td - 1) + 1)) O2288.2.1 (by omega) (by omega) (by omega) (by omega) c2288 (by omega) (by omega)) (fun h2293 hR2293 => ?_)
                  obtain ⟨O2293, a2293, b2293, x2293, c2293, e2293⟩ := hR2293
                  refine y_goto (off := (-154)) (pc' := 57) (len := 3) (r := (0, 0, 0, 0)) (by decide +kernel) (by decide +kernel) ?_
                  have hv2294 := (ho2276 52 26 (Or.inl (by omega))).trans s26
                  have hv2295 := (ho2280 52 26 (Or.inr (by omega))).trans hv2294
                  have hv2296 := (O2288.2.2 52 52 26 (t52 hg2280) (show ((52 ≠ 379 ∧ 52 ≠ 380) ∨ 26 ≠ (td - 1)) ∧ (52 ≠ 52 ∨ 26 ≠ 30) by omega)).trans hv2295
                  have hv2297 := (O2293.2.2 52 52 26 (t52 O2288.2.1) (show ((52 ≠ 379 ∧ 52 ≠ 380) ∨ 26 ≠ ((td - 1) + 1)) ∧ (52 ≠ 52 ∨ 26 ≠ 30) by omega)).trans hv2296
                  have hv2298 := (O2288.2.2 52 52 29 (t52 hg2280) (show ((52 ≠ 379 ∧ 52 ≠ 380) ∨ 29 ≠ (td - 1)) ∧ (52 ≠ 52 ∨ 29 ≠ 30) by omega)).trans hs2280
                  have hv2299 := (O2293.2.2 52 52 29 (t52 O2288.2.1) (show ((52 ≠ 379 ∧ 52 ≠ 380) ∨ 29 ≠ ((td - 1) + 1)) ∧ (52 ≠ 52 ∨ 29 ≠ 30) by omega)).trans hv2298
                  have hv2300 := (O2288.2.2 373 373 n (tu373 hg2280) (show ((373 ≠ 379 ∧ 373 ≠ 380) ∨ n ≠ (td - 1)) ∧ (373 ≠ 52 ∨ n ≠ 30) by omega)).trans hv2282
                  have hv2301 := (O2293.2.2 373 373 n (tu373 O2288.2.1) (show ((373 ≠ 379 ∧ 373 ≠ 380) ∨ n ≠ ((td - 1) + 1)) ∧ (373 ≠ 52 ∨ n ≠ 30) by omega)).trans hv2300
                  have hv2302 := (O2293.2.2 379 379 (td - 1) (tu379 O2288.2.1) (show ((379 ≠ 379 ∧ 379 ≠ 380) ∨ (td - 1) ≠ ((td - 1) + 1)) ∧ (379 ≠ 52 ∨ (td - 1) ≠ 30) by omega)).trans a2288
                  have F : oF (fun k j => k ≠ 68 ∧ k ≠ 69 ∧ k ≠ 378 ∧ k ≠ 71 + n ∧ k ≠ 52 ∧ k ≠ 377 ∧ ((k ≠ 371 ∧ k ≠ 372 ∧ k ≠ 373 ∧ k ≠ 374 ∧ k ≠ 375 ∧ k ≠ 376) ∨ j ≠ n) ∧ ((k ≠ 379 ∧ k ≠ 380) ∨ j < td - 1)) τ h τ2218 h2293 := ⟨(aup_trans (aup_trans O2218.1 O2288.1) O2293.1), O2293.2.1, fun k T j hk (hC : k ≠ 68 ∧ k ≠ 69 ∧ k ≠ 378 ∧ k ≠ 71 + n ∧ k ≠ 52 ∧ k ≠ 377 ∧ ((k ≠ 371 ∧ k ≠ 372 ∧ k ≠ 373 ∧ k ≠ 374 ∧ k ≠ 375 ∧ k ≠ 376) ∨ j ≠ n) ∧ ((k ≠ 379 ∧ k ≠ 380) ∨ j < td - 1)) => ((O2293.2.2 k T j (O2288.1 _ _ (O2218.1 _ _ hk)) (show ((k ≠ 379 ∧ k ≠ 380) ∨ j ≠ ((td - 1) + 1)) ∧ (k ≠ 52 ∨ j ≠ 30) by omega)).trans ((O2288.2.2 k T j (O2218.1 _ _ hk) (show ((k ≠ 379 ∧ k ≠ 380) ∨ j ≠ (td - 1)) ∧ (k ≠ 52 ∨ j ≠ 30) by omega)).trans ((ho2280 k j (by omega)).trans ((ho2276 k j (by omega)).trans ((O2218.2.2 k T j hk (show k ≠ 68 ∧ k ≠ 69 ∧ k ≠ 378 ∧ k ≠ 71 + n ∧ ((k ≠ 371 ∧ k ≠ 372 ∧ k ≠ 373 ∧ k ≠ 374 ∧ k ≠ 375 ∧ k ≠ 376) ∨ j ≠ n) ∧ (k ≠ 52 ∨ j ≠ 26) by omega)).trans (ho2214 k j (by omega)))))))⟩
                  have G2 : Gv h2293 (n + 1) := Gv_up2 G1 O2218.2.1 (by omega) ⟨(aup_trans O2288.1 O2293.1), O2293.2.1, fun k T j hk (hC : k ≠ 377 ∧ k ≠ 379 ∧ k ≠ 380 ∧ k ≠ 52) => ((O2293.2.2 k T j (O2288.1 _ _ hk) (show ((k ≠ 379 ∧ k ≠ 380) ∨ j ≠ ((td - 1) + 1)) ∧ (k ≠ 52 ∨ j ≠ 30) by omega)).trans ((O2288.2.2 k T j hk (show ((k ≠ 379 ∧ k ≠ 380) ∨ j ≠ (td - 1)) ∧ (k ≠ 52 ∨ j ≠ 30) by omega)).trans ((ho2280 k j (by omega)).trans (ho2276 k j (by omega)))))⟩
                  have En : ∀ i, i < td - 1 → ent h2293 (n + 1) i := fun i hi => ent_up (hent i (by omega)) (by omega) (F.2.2 379 379 i (tu379 hg) (show 379 ≠ 68 ∧ 379 ≠ 69 ∧ 379 ≠ 378 ∧ 379 ≠ 71 + n ∧ 379 ≠ 52 ∧ 379 ≠ 377 ∧ ((379 ≠ 371 ∧ 379 ≠ 372 ∧ 379 ≠ 373 ∧ 379 ≠ 374 ∧ 379 ≠ 375 ∧ 379 ≠ 376) ∨ i ≠ n) ∧ ((379 ≠ 379 ∧ 379 ≠ 380) ∨ i < td - 1) by omega)) (fun j hj => F.2.2 373 373 j (tu373 hg) (show 373 ≠ 68 ∧ 373 ≠ 69 ∧ 373 ≠ 378 ∧ 373 ≠ 71 + n ∧ 373 ≠ 52 ∧ 373 ≠ 377 ∧ ((373 ≠ 371 ∧ 373 ≠ 372 ∧ 373 ≠ 373 ∧ 373 ≠ 374 ∧ 373 ≠ 375 ∧ 373 ≠ 376) ∨ j ≠ n) ∧ ((373 ≠ 379 ∧ 373 ≠ 380) ∨ j < td - 1) by omega))
                  have En2 : ∀ i, i < (((td - 1) + 1) + 1) → ent h2293 (n + 1) i := fun i hi => by
                    rcases (show i < td - 1 ∨ i = (td - 1) ∨ i = ((td - 1) + 1) by omega) with q | rfl | rfl
                    · exact En i q
                    · exact ent_new hv2302 (by omega) hv2301 (by omega) (by omega)
                    · exact ent_new a2293 (by omega) hv2301 (by omega) (by omega)
                  exact ih τ2218 h2293 ⟨aup_trans O0.1 (aup_trans (aup_trans O2218.1 O2288.1) O2293.1), O2293.2.1, fun k T j hk (hC : k ≠ 68 ∧ k ≠ 69 ∧ (k < 71 ∨ 380 < k) ∧ (k ≠ 52 ∨ j < 26 ∨ 30 < j)) => (((O2293.2.2 k T j (O2288.1 _ _ (O2218.1 _ _ (O0.1 _ _ hk))) (show ((k ≠ 379 ∧ k ≠ 380) ∨ j ≠ ((td - 1) + 1)) ∧ (k ≠ 52 ∨ j ≠ 30) by omega)).trans ((O2288.2.2 k T j (O2218.1 _ _ (O0.1 _ _ hk)) (show ((k ≠ 379 ∧ k ≠ 380) ∨ j ≠ (td - 1)) ∧ (k ≠ 52 ∨ j ≠ 30) by omega)).trans ((ho2280 k j (by omega)).trans ((ho2276 k j (by omega)).trans ((O2218.2.2 k T j (O0.1 _ _ hk) (show k ≠ 68 ∧ k ≠ 69 ∧ k ≠ 378 ∧ k ≠ 71 + n ∧ ((k ≠ 371 ∧ k ≠ 372 ∧ k ≠ 373 ∧ k ≠ 374 ∧ k ≠ 375 ∧ k ≠ 376) ∨ j ≠ n) ∧ (k ≠ 52 ∨ j ≠ 26) by omega)).trans (ho2214 k j (by omega)))))))).trans (O0.2.2 k T j hk hC)⟩ (n + 1) ((((td - 1) + 1) + 1)) ((dn + 1)) _ ⟨⟨_, hv2297, by omega⟩, ⟨_, c2293, by omega⟩, ⟨_, hv2299, by omega⟩, by omega, by omega, by omega, G2, En2⟩ (by omega)
                ·
                  refine y_cF (c := .eq) (off := 14) (len := 3) (r := (0, 0, 0, 0)) (by decide +kernel) (acmpF (c := .eq) (by show ¬ (_ = _); omega)) ?_
                  refine y_same (i := .aload_n 0) (len := 1) (r := (0, 0, 0, 0)) (pc' := 189) (ls' := [some (.inl (some 52)), some (zi xv), some (zi y2222)]) (st' := [.inl (some 52)]) (by decide +kernel) (fun k q => by cases q) rfl ?_
                  refine y_get (j := 46) (len := 3) (r := (12, 18, 2, 1346)) (by decide +kernel) hg2280 (t52 hg2280) at52 rfl rfl (g_r52 (f := 18) (T2 := 373) hg2280 rfl (by decide)).1 ?_
                  refine y_same (i := .iload_n 2) (len := 1) (r := (0, 0, 0, 0)) (pc' := 193) (ls' := [some (.inl (some 52)), some (zi xv), some (zi y2222)]) (st' := [zi y2222, .inl (some 373)]) (by decide +kernel) (fun k q => by cases q) rfl ?_
                  refine y_ial (i := n) (len := 1) (r := (0, 0, 0, 0)) (by decide +kernel) hg2280 (tu373 hg2280) at373 (by omega) hv2282 ?_
                  refine y_bi (c := 7) (len := 2) (r := (0, 0, 0, 0)) (by decide +kernel) (by decide) (fun y2303 hy2303 => ?_)
                  rcases Decidable.em (v2223.toInt ≠ y2303.toInt) with q2304 | q2304
                  ·
                    refine y_cT (c := .ne) (off := 9) (pc' := 205) (len := 3) (r := (0, 0, 0, 0)) (by decide +kernel) (acmpT (c := .ne) (by show ¬ (_ = _); omega)) (by decide +kernel) ?_
                    refine y_same (i := .aload_n 0) (len := 1) (r := (0, 0, 0, 0)) (pc' := 206) (ls' := [some (.inl (some 52)), some (zi xv), some (zi y2222)]) (st' := [.inl (some 52)]) (by decide +kernel) (fun k q => by cases q) rfl ?_
                    refine y_same (i := .iload_n 2) (len := 1) (r := (0, 0, 0, 0)) (pc' := 207) (ls' := [some (.inl (some 52)), some (zi xv), some (zi y2222)]) (st' := [zi y2222, .inl (some 52)]) (by decide +kernel) (fun k q => by cases q) rfl ?_
                    refine y_ic (c := 0) (len := 1) (r := (0, 0, 0, 0)) (by decide +kernel) (by decide) (fun y2305 hy2305 => ?_)
                    have hv2307 := (O2218.2.2 52 52 30 (t52 hg2214) (show 52 ≠ 68 ∧ 52 ≠ 69 ∧ 52 ≠ 378 ∧ 52 ≠ 71 + n ∧ ((52 ≠ 371 ∧ 52 ≠ 372 ∧ 52 ≠ 373 ∧ 52 ≠ 374 ∧ 52 ≠ 375 ∧ 52 ≠ 376) ∨ 30 ≠ n) ∧ (52 ≠ 52 ∨ 30 ≠ 26) by omega)).trans hs2214
                    have hv2308 := (ho2276 52 30 (Or.inl (by omega))).trans hv2307
                    have hv2309 := (ho2280 52 30 (Or.inr (by omega))).trans hv2308
                    refine y_cV (i := .invokevirtual 394) (len := 3) (r := (0, 237, 12, 1632)) (nL := 3) (k := 0) (n := 3) (hs := []) (args := [.inl (some 52), zi y2222, zi y2305]) (rest := []) (l0 := [some (.inl (some 52)), some (zi y2222), some (zi y2305)]) (by decide +kernel) (Or.inr (Or.inl ⟨_, rfl⟩)) rfl rfl rfl rfl (Nat.le_of_ble_eq_true rfl) (z52 hg2280) rfl (e_waits (td := (td - 1)) hg2280 (by omega) (by omega) (by omega) (by omega) hv2309 (by omega) (by omega)) (fun h2306 hR2306 => ?_)
                    obtain ⟨O2306, a2306, b2306, x2306, c2306, e2306⟩ := hR2306
                    refine y_goto (off := (-154)) (pc' := 57) (len := 3) (r := (0, 0, 0, 0)) (by decide +kernel) (by decide +kernel) ?_
                    have hv2310 := (ho2276 52 26 (Or.inl (by omega))).trans s26
                    have hv2311 := (ho2280 52 26 (Or.inr (by omega))).trans hv2310
                    have hv2312 := (O2306.2.2 52 52 26 (t52 hg2280) (show ((52 ≠ 379 ∧ 52 ≠ 380) ∨ 26 ≠ (td - 1)) ∧ (52 ≠ 52 ∨ 26 ≠ 30) by omega)).trans hv2311
                    have hv2313 := (O2306.2.2 52 52 29 (t52 hg2280) (show ((52 ≠ 379 ∧ 52 ≠ 380) ∨ 29 ≠ (td - 1)) ∧ (52 ≠ 52 ∨ 29 ≠ 30) by omega)).trans hs2280
                    have hv2314 := (O2306.2.2 373 373 n (tu373 hg2280) (show ((373 ≠ 379 ∧ 373 ≠ 380) ∨ n ≠ (td - 1)) ∧ (373 ≠ 52 ∨ n ≠ 30) by omega)).trans hv2282
                    have F : oF (fun k j => k ≠ 68 ∧ k ≠ 69 ∧ k ≠ 378 ∧ k ≠ 71 + n ∧ k ≠ 52 ∧ k ≠ 377 ∧ ((k ≠ 371 ∧ k ≠ 372 ∧ k ≠ 373 ∧ k ≠ 374 ∧ k ≠ 375 ∧ k ≠ 376) ∨ j ≠ n) ∧ ((k ≠ 379 ∧ k ≠ 380) ∨ j < td - 1)) τ h τ2218 h2306 := ⟨(aup_trans O2218.1 O2306.1), O2306.2.1, fun k T j hk (hC : k ≠ 68 ∧ k ≠ 69 ∧ k ≠ 378 ∧ k ≠ 71 + n ∧ k ≠ 52 ∧ k ≠ 377 ∧ ((k ≠ 371 ∧ k ≠ 372 ∧ k ≠ 373 ∧ k ≠ 374 ∧ k ≠ 375 ∧ k ≠ 376) ∨ j ≠ n) ∧ ((k ≠ 379 ∧ k ≠ 380) ∨ j < td - 1)) => ((O2306.2.2 k T j (O2218.1 _ _ hk) (show ((k ≠ 379 ∧ k ≠ 380) ∨ j ≠ (td - 1)) ∧ (k ≠ 52 ∨ j ≠ 30) by omega)).trans ((ho2280 k j (by omega)).trans ((ho2276 k j (by omega)).trans ((O2218.2.2 k T j hk (show k ≠ 68 ∧ k ≠ 69 ∧ k ≠ 378 ∧ k ≠ 71 + n ∧ ((k ≠ 371 ∧ k ≠ 372 ∧ k ≠ 373 ∧ k ≠ 374 ∧ k ≠ 375 ∧ k ≠ 376) ∨ j ≠ n) ∧ (k ≠ 52 ∨ j ≠ 26) by omega)).trans (ho2214 k j (by omega))))))⟩
                    have G2 : Gv h2306 (n + 1) := Gv_up2 G1 O2218.2.1 (by omega) ⟨O2306.1, O2306.2.1, fun k T j hk (hC : k ≠ 377 ∧ k ≠ 379 ∧ k ≠ 380 ∧ k ≠ 52) => ((O2306.2.2 k T j hk (show ((k ≠ 379 ∧ k ≠ 380) ∨ j ≠ (td - 1)) ∧ (k ≠ 52 ∨ j ≠ 30) by omega)).trans ((ho2280 k j (by omega)).trans (ho2276 k j (by omega))))⟩
                    have En : ∀ i, i < td - 1 → ent h2306 (n + 1) i := fun i hi => ent_up (hent i (by omega)) (by omega) (F.2.2 379 379 i (tu379 hg) (show 379 ≠ 68 ∧ 379 ≠ 69 ∧ 379 ≠ 378 ∧ 379 ≠ 71 + n ∧ 379 ≠ 52 ∧ 379 ≠ 377 ∧ ((379 ≠ 371 ∧ 379 ≠ 372 ∧ 379 ≠ 373 ∧ 379 ≠ 374 ∧ 379 ≠ 375 ∧ 379 ≠ 376) ∨ i ≠ n) ∧ ((379 ≠ 379 ∧ 379 ≠ 380) ∨ i < td - 1) by omega)) (fun j hj => F.2.2 373 373 j (tu373 hg) (show 373 ≠ 68 ∧ 373 ≠ 69 ∧ 373 ≠ 378 ∧ 373 ≠ 71 + n ∧ 373 ≠ 52 ∧ 373 ≠ 377 ∧ ((373 ≠ 371 ∧ 373 ≠ 372 ∧ 373 ≠ 373 ∧ 373 ≠ 374 ∧ 373 ≠ 375 ∧ 373 ≠ 376) ∨ j ≠ n) ∧ ((373 ≠ 379 ∧ 373 ≠ 380) ∨ j < td - 1) by omega))
                    have En2 : ∀ i, i < ((td - 1) + 1) → ent h2306 (n + 1) i := fun i hi => by
                      rcases (show i < td - 1 ∨ i = (td - 1) by omega) with q | rfl
                      · exact En i q
                      · exact ent_new a2306 (by omega) hv2314 (by omega) (by omega)
                    exact ih τ2218 h2306 ⟨aup_trans O0.1 (aup_trans O2218.1 O2306.1), O2306.2.1, fun k T j hk (hC : k ≠ 68 ∧ k ≠ 69 ∧ (k < 71 ∨ 380 < k) ∧ (k ≠ 52 ∨ j < 26 ∨ 30 < j)) => (((O2306.2.2 k T j (O2218.1 _ _ (O0.1 _ _ hk)) (show ((k ≠ 379 ∧ k ≠ 380) ∨ j ≠ (td - 1)) ∧ (k ≠ 52 ∨ j ≠ 30) by omega)).trans ((ho2280 k j (by omega)).trans ((ho2276 k j (by omega)).trans ((O2218.2.2 k T j (O0.1 _ _ hk) (show k ≠ 68 ∧ k ≠ 69 ∧ k ≠ 378 ∧ k ≠ 71 + n ∧ ((k ≠ 371 ∧ k ≠ 372 ∧ k ≠ 373 ∧ k ≠ 374 ∧ k ≠ 375 ∧ k ≠ 376) ∨ j ≠ n) ∧ (k ≠ 52 ∨ j ≠ 26) by omega)).trans (ho2214 k j (by omega))))))).trans (O0.2.2 k T j hk hC)⟩ (n + 1) (((td - 1) + 1)) ((dn + 1)) _ ⟨⟨_, hv2312, by omega⟩, ⟨_, c2306, by omega⟩, ⟨_, hv2313, by omega⟩, by omega, by omega, by omega, G2, En2⟩ (by omega)
                  ·
                    refine y_cF (c := .ne) (off := 9) (len := 3) (r := (0, 0, 0, 0)) (by decide +kernel) (acmpF (c := .ne) (by show _ = _; omega)) ?_
                    refine y_same (i := .aload_n 0) (len := 1) (r := (0, 0, 0, 0)) (pc' := 200) (ls' := [some (.inl (some 52)), some (zi xv), some (zi y2222)]) (st' := [.inl (some 52)]) (by decide +kernel) (fun k q => by cases q) rfl ?_
                    refine y_same (i := .iload_n 2) (len := 1) (r := (0, 0, 0, 0)) (pc' := 201) (ls' := [some (.inl (some 52)), some (zi xv), some (zi y2222)]) (st' := [zi y2222, .inl (some 52)]) (by decide +kernel) (fun k q => by cases q) rfl ?_
                    refine y_ic (c := 1) (len := 1) (r := (0, 0, 0, 0)) (by decide +kernel) (by decide) (fun y2315 hy2315 => ?_)
                    have hv2317 := (O2218.2.2 52 52 30 (t52 hg2214) (show 52 ≠ 68 ∧ 52 ≠ 69 ∧ 52 ≠ 378 ∧ 52 ≠ 71 + n ∧ ((52 ≠ 371 ∧ 52 ≠ 372 ∧ 52 ≠ 373 ∧ 52 ≠ 374 ∧ 52 ≠ 375 ∧ 52 ≠ 376) ∨ 30 ≠ n) ∧ (52 ≠ 52 ∨ 30 ≠ 26) by omega)).trans hs2214
                    have hv2318 := (ho2276 52 30 (Or.inl (by omega))).trans hv2317
                    have hv2319 := (ho2280 52 30 (Or.inr (by omega))).trans hv2318
                    refine y_cV (i := .invokevirtual 394) (len := 3) (r := (0, 237, 12, 1632)) (nL := 3) (k := 0) (n := 3) (hs := []) (args := [.inl (some 52), zi y2222, zi y2315]) (rest := []) (l0 := [some (.inl (some 52)), some (zi y2222), some (zi y2315)]) (by decide +kernel) (Or.inr (Or.inl ⟨_, rfl⟩)) rfl rfl rfl rfl (Nat.le_of_ble_eq_true rfl) (z52 hg2280) rfl (e_waits (td := (td - 1)) hg2280 (by omega) (by omega) (by omega) (by omega) hv2319 (by omega) (by omega)) (fun h2316 hR2316 => ?_)
                    obtain ⟨O2316, a2316, b2316, x2316, c2316, e2316⟩ := hR2316
                    refine y_same (i := .aload_n 0) (len := 1) (r := (0, 0, 0, 0)) (pc' := 206) (ls' := [some (.inl (some 52)), some (zi xv), some (zi y2222)]) (st' := [.inl (some 52)]) (by decide +kernel) (fun k q => by cases q) rfl ?_
                    refine y_same (i := .iload_n 2) (len := 1) (r := (0, 0, 0, 0)) (pc' := 207) (ls' := [some (.inl (some 52)), some (zi xv), some (zi y2222)]) (st' := [zi y2222, .inl (some 52)]) (by decide +kernel) (fun k q => by cases q) rfl ?_
                    refine y_ic (c := 0) (len := 1) (r := (0, 0, 0, 0)) (by decide +kernel) (by decide) (fun y2320 hy2320 => ?_)
                    refine y_cV (i := .invokevirtual 394) (len := 3) (r := (0, 237, 12, 1632)) (nL := 3) (k := 0) (n := 3) (hs := []) (args := [.inl (some 52), zi y2222, zi y2320]) (rest := []) (l0 := [some (.inl (some 52)), some (zi y2222), some (zi y2320)]) (by decide +kernel) (Or.inr (Or.inl ⟨_, rfl⟩)) rfl rfl rfl rfl (Nat.le_of_ble_eq_true rfl) (z52 O2316.2.1) rfl (e_waits (td := ((td - 1) + 1)) O2316.2.1 (by omega) (by omega) (by omega) (by omega) c2316 (by omega) (by omega)) (fun h2321 hR2321 => ?_)
                    obtain ⟨O2321, a2321, b2321, x2321, c2321, e2321⟩ := hR2321
                    refine y_goto (off := (-154)) (pc' := 57) (len := 3) (r := (0, 0, 0, 0)) (by decide +kernel) (by decide +kernel) ?_
                    have hv2322 := (ho2276 52 26 (Or.inl (by omega))).trans s26
                    have hv2323 := (ho2280 52 26 (Or.inr (by omega))).trans hv2322
                    have hv2324 := (O2316.2.2 52 52 26 (t52 hg2280) (show ((52 ≠ 379 ∧ 52 ≠ 380) ∨ 26 ≠ (td - 1)) ∧ (52 ≠ 52 ∨ 26 ≠ 30) by omega)).trans hv2323
                    have hv2325 := (O2321.2.2 52 52 26 (t52 O2316.2.1) (show ((52 ≠ 379 ∧ 52 ≠ 380) ∨ 26 ≠ ((td - 1) + 1)) ∧ (52 ≠ 52 ∨ 26 ≠ 30) by omega)).trans hv2324
                    have hv2326 := (O2316.2.2 52 52 29 (t52 hg2280) (show ((52 ≠ 379 ∧ 52 ≠ 380) ∨ 29 ≠ (td - 1)) ∧ (52 ≠ 52 ∨ 29 ≠ 30) by omega)).trans hs2280
                    have hv2327 := (O2321.2.2 52 52 29 (t52 O2316.2.1) (show ((52 ≠ 379 ∧ 52 ≠ 380) ∨ 29 ≠ ((td - 1) + 1)) ∧ (52 ≠ 52 ∨ 29 ≠ 30) by omega)).trans hv2326
                    have hv2328 := (O2316.2.2 373 373 n (tu373 hg2280) (show ((373 ≠ 379 ∧ 373 ≠ 380) ∨ n ≠ (td - 1)) ∧ (373 ≠ 52 ∨ n ≠ 30) by omega)).trans hv2282
                    have hv2329 := (O2321.2.2 373 373 n (tu373 O2316.2.1) (show ((373 ≠ 379 ∧ 373 ≠ 380) ∨ n ≠ ((td - 1) + 1)) ∧ (373 ≠ 52 ∨ n ≠ 30) by omega)).trans hv2328
                    have hv2330 := (O2321.2.2 379 379 (td - 1) (tu379 O2316.2.1) (show ((379 ≠ 379 ∧ 379 ≠ 380) ∨ (td - 1) ≠ ((td - 1) + 1)) ∧ (379 ≠ 52 ∨ (td - 1) ≠ 30) by omega)).trans a2316
                    have F : oF (fun k j => k ≠ 68 ∧ k ≠ 69 ∧ k ≠ 378 ∧ k ≠ 71 + n ∧ k ≠ 52 ∧ k ≠ 377 ∧ ((k ≠ 371 ∧ k ≠ 372 ∧ k ≠ 373 ∧ k ≠ 374 ∧ k ≠ 375 ∧ k ≠ 376) ∨ j ≠ n) ∧ ((k ≠ 379 ∧ k ≠ 380) ∨ j < td - 1)) τ h τ2218 h2321 := ⟨(aup_trans (aup_trans O2218.1 O2316.1) O2321.1), O2321.2.1, fun k T j hk (hC : k ≠ 68 ∧ k ≠ 69 ∧ k ≠ 378 ∧ k ≠ 71 + n ∧ k ≠ 52 ∧ k ≠ 377 ∧ ((k ≠ 371 ∧ k ≠ 372 ∧ k ≠ 373 ∧ k ≠ 374 ∧ k ≠ 375 ∧ k ≠ 376) ∨ j ≠ n) ∧ ((k ≠ 379 ∧ k ≠ 380) ∨ j < td - 1)) => ((O2321.2.2 k T j (O2316.1 _ _ (O2218.1 _ _ hk)) (show ((k ≠ 379 ∧ k ≠ 380) ∨ j ≠ ((td - 1) + 1)) ∧ (k ≠ 52 ∨ j ≠ 30) by omega)).trans ((O2316.2.2 k T j (O2218.1 _ _ hk) (show ((k ≠ 379 ∧ k ≠ 380) ∨ j ≠ (td - 1)) ∧ (k ≠ 52 ∨ j ≠ 30) by omega)).trans ((ho2280 k j (by omega)).trans ((ho2276 k j (by omega)).trans ((O2218.2.2 k T j hk (show k ≠ 68 ∧ k ≠ 69 ∧ k ≠ 378 ∧ k ≠ 71 + n ∧ ((k ≠ 371 ∧ k ≠ 372 ∧ k ≠ 373 ∧ k ≠ 374 ∧ k ≠ 375 ∧ k ≠ 376) ∨ j ≠ n) ∧ (k ≠ 52 ∨ j ≠ 26) by omega)).trans (ho2214 k j (by omega)))))))⟩
                    have G2 : Gv h2321 (n + 1) := Gv_up2 G1 O2218.2.1 (by omega) ⟨(aup_trans O2316.1 O2321.1), O2321.2.1, fun k T j hk (hC : k ≠ 377 ∧ k ≠ 379 ∧ k ≠ 380 ∧ k ≠ 52) => ((O2321.2.2 k T j (O2316.1 _ _ hk) (show ((k ≠ 379 ∧ k ≠ 380) ∨ j ≠ ((td - 1) + 1)) ∧ (k ≠ 52 ∨ j ≠ 30) by omega)).trans ((O2316.2.2 k T j hk (show ((k ≠ 379 ∧ k ≠ 380) ∨ j ≠ (td - 1)) ∧ (k ≠ 52 ∨ j ≠ 30) by omega)).trans ((ho2280 k j (by omega)).trans (ho2276 k j (by omega)))))⟩
                    have En : ∀ i, i < td - 1 → ent h2321 (n + 1) i := fun i hi => ent_up (hent i (by omega)) (by omega) (F.2.2 379 379 i (tu379 hg) (show 379 ≠ 68 ∧ 379 ≠ 69 ∧ 379 ≠ 378 ∧ 379 ≠ 71 + n ∧ 379 ≠ 52 ∧ 379 ≠ 377 ∧ ((379 ≠ 371 ∧ 379 ≠ 372 ∧ 379 ≠ 373 ∧ 379 ≠ 374 ∧ 379 ≠ 375 ∧ 379 ≠ 376) ∨ i ≠ n) ∧ ((379 ≠ 379 ∧ 379 ≠ 380) ∨ i < td - 1) by omega)) (fun j hj => F.2.2 373 373 j (tu373 hg) (show 373 ≠ 68 ∧ 373 ≠ 69 ∧ 373 ≠ 378 ∧ 373 ≠ 71 + n ∧ 373 ≠ 52 ∧ 373 ≠ 377 ∧ ((373 ≠ 371 ∧ 373 ≠ 372 ∧ 373 ≠ 373 ∧ 373 ≠ 374 ∧ 373 ≠ 375 ∧ 373 ≠ 376) ∨ j ≠ n) ∧ ((373 ≠ 379 ∧ 373 ≠ 380) ∨ j < td - 1) by omega))
                    have En2 : ∀ i, i < (((td - 1) + 1) + 1) → ent h2321 (n + 1) i := fun i hi => by
                      rcases (show i < td - 1 ∨ i = (td - 1) ∨ i = ((td - 1) + 1) by omega) with q | rfl | rfl
                      · exact En i q
                      · exact ent_new hv2330 (by omega) hv2329 (by omega) (by omega)
                      · exact ent_new a2321 (by omega) hv2329 (by omega) (by omega)
                    exact ih τ2218 h2321 ⟨aup_trans O0.1 (aup_trans (aup_trans O2218.1 O2316.1) O2321.1), O2321.2.1, fun k T j hk (hC : k ≠ 68 ∧ k ≠ 69 ∧ (k < 71 ∨ 380 < k) ∧ (k ≠ 52 ∨ j < 26 ∨ 30 < j)) => (((O2321.2.2 k T j (O2316.1 _ _ (O2218.1 _ _ (O0.1 _ _ hk))) (show ((k ≠ 379 ∧ k ≠ 380) ∨ j ≠ ((td - 1) + 1)) ∧ (k ≠ 52 ∨ j ≠ 30) by omega)).trans ((O2316.2.2 k T j (O2218.1 _ _ (O0.1 _ _ hk)) (show ((k ≠ 379 ∧ k ≠ 380) ∨ j ≠ (td - 1)) ∧ (k ≠ 52 ∨ j ≠ 30) by omega)).trans ((ho2280 k j (by omega)).trans ((ho2276 k j (by omega)).trans ((O2218.2.2 k T j (O0.1 _ _ hk) (show k ≠ 68 ∧ k ≠ 69 ∧ k ≠ 378 ∧ k ≠ 71 + n ∧ ((k ≠ 371 ∧ k ≠ 372 ∧ k ≠ 373 ∧ k ≠ 374 ∧ k ≠ 375 ∧ k ≠ 376) ∨ j ≠ n) ∧ (k ≠ 52 ∨ j ≠ 26) by omega)).trans (ho2214 k j (by omega)))))))).trans (O0.2.2 k T j hk hC)⟩ (n + 1) ((((td - 1) + 1) + 1)) ((dn + 1)) _ ⟨⟨_, hv2325, by omega⟩, ⟨_, c2321, by omega⟩, ⟨_, hv2327, by omega⟩, by omega, by omega, by omega, G2, En2⟩ (by omega)
              ·
                refine y_cF (c := .gt) (off := 6) (len := 3) (r := (0, 0, 0, 0)) (by decide +kernel) (acmpF (c := .gt) (by show _ ≤ _; omega)) ?_
                refine y_goto (off := (-117)) (pc' := 57) (len := 3) (r := (0, 0, 0, 0)) (by decide +kernel) (by decide +kernel) ?_
                have hv2331 := (ho2276 52 26 (Or.inl (by omega))).trans s26
                have hv2332 := (ho2280 52 26 (Or.inr (by omega))).trans hv2331
                have hv2333 := (O2218.2.2 52 52 30 (t52 hg2214) (show 52 ≠ 68 ∧ 52 ≠ 69 ∧ 52 ≠ 378 ∧ 52 ≠ 71 + n ∧ ((52 ≠ 371 ∧ 52 ≠ 372 ∧ 52 ≠ 373 ∧ 52 ≠ 374 ∧ 52 ≠ 375 ∧ 52 ≠ 376) ∨ 30 ≠ n) ∧ (52 ≠ 52 ∨ 30 ≠ 26) by omega)).trans hs2214
                have hv2334 := (ho2276 52 30 (Or.inl (by omega))).trans hv2333
                have hv2335 := (ho2280 52 30 (Or.inr (by omega))).trans hv2334
                have F : oF (fun k j => k ≠ 68 ∧ k ≠ 69 ∧ k ≠ 378 ∧ k ≠ 71 + n ∧ k ≠ 52 ∧ k ≠ 377 ∧ ((k ≠ 371 ∧ k ≠ 372 ∧ k ≠ 373 ∧ k ≠ 374 ∧ k ≠ 375 ∧ k ≠ 376) ∨ j ≠ n) ∧ ((k ≠ 379 ∧ k ≠ 380) ∨ j < td - 1)) τ h τ2218 h2280 := ⟨O2218.1, hg2280, fun k T j hk (hC : k ≠ 68 ∧ k ≠ 69 ∧ k ≠ 378 ∧ k ≠ 71 + n ∧ k ≠ 52 ∧ k ≠ 377 ∧ ((k ≠ 371 ∧ k ≠ 372 ∧ k ≠ 373 ∧ k ≠ 374 ∧ k ≠ 375 ∧ k ≠ 376) ∨ j ≠ n) ∧ ((k ≠ 379 ∧ k ≠ 380) ∨ j < td - 1)) => ((ho2280 k j (by omega)).trans ((ho2276 k j (by omega)).trans ((O2218.2.2 k T j hk (show k ≠ 68 ∧ k ≠ 69 ∧ k ≠ 378 ∧ k ≠ 71 + n ∧ ((k ≠ 371 ∧ k ≠ 372 ∧ k ≠ 373 ∧ k ≠ 374 ∧ k ≠ 375 ∧ k ≠ 376) ∨ j ≠ n) ∧ (k ≠ 52 ∨ j ≠ 26) by omega)).trans (ho2214 k j (by omega)))))⟩
                have G2 : Gv h2280 (n + 1) := Gv_up2 G1 O2218.2.1 (by omega) ⟨(aup_refl _), hg2280, fun k T j hk (hC : k ≠ 377 ∧ k ≠ 379 ∧ k ≠ 380 ∧ k ≠ 52) => ((ho2280 k j (by omega)).trans (ho2276 k j (by omega)))⟩
                have En : ∀ i, i < td - 1 → ent h2280 (n + 1) i := fun i hi => ent_up (hent i (by omega)) (by omega) (F.2.2 379 379 i (tu379 hg) (show 379 ≠ 68 ∧ 379 ≠ 69 ∧ 379 ≠ 378 ∧ 379 ≠ 71 + n ∧ 379 ≠ 52 ∧ 379 ≠ 377 ∧ ((379 ≠ 371 ∧ 379 ≠ 372 ∧ 379 ≠ 373 ∧ 379 ≠ 374 ∧ 379 ≠ 375 ∧ 379 ≠ 376) ∨ i ≠ n) ∧ ((379 ≠ 379 ∧ 379 ≠ 380) ∨ i < td - 1) by omega)) (fun j hj => F.2.2 373 373 j (tu373 hg) (show 373 ≠ 68 ∧ 373 ≠ 69 ∧ 373 ≠ 378 ∧ 373 ≠ 71 + n ∧ 373 ≠ 52 ∧ 373 ≠ 377 ∧ ((373 ≠ 371 ∧ 373 ≠ 372 ∧ 373 ≠ 373 ∧ 373 ≠ 374 ∧ 373 ≠ 375 ∧ 373 ≠ 376) ∨ j ≠ n) ∧ ((373 ≠ 379 ∧ 373 ≠ 380) ∨ j < td - 1) by omega))
                exact ih τ2218 h2280 ⟨aup_trans O0.1 O2218.1, hg2280, fun k T j hk (hC : k ≠ 68 ∧ k ≠ 69 ∧ (k < 71 ∨ 380 < k) ∧ (k ≠ 52 ∨ j < 26 ∨ 30 < j)) => (((ho2280 k j (by omega)).trans ((ho2276 k j (by omega)).trans ((O2218.2.2 k T j (O0.1 _ _ hk) (show k ≠ 68 ∧ k ≠ 69 ∧ k ≠ 378 ∧ k ≠ 71 + n ∧ ((k ≠ 371 ∧ k ≠ 372 ∧ k ≠ 373 ∧ k ≠ 374 ∧ k ≠ 375 ∧ k ≠ 376) ∨ j ≠ n) ∧ (k ≠ 52 ∨ j ≠ 26) by omega)).trans (ho2214 k j (by omega)))))).trans (O0.2.2 k T j hk hC)⟩ (n + 1) ((td - 1)) ((dn + 1)) _ ⟨⟨_, hv2332, by omega⟩, ⟨_, hv2335, by omega⟩, ⟨_, hs2280, by omega⟩, by omega, by omega, by omega, G2, En⟩ (by omega)
          ·
            refine y_cF (c := .ne) (off := 14) (len := 3) (r := (0, 0, 0, 0)) (by decide +kernel) (acmpF (c := .ne) (by show _ = _; omega)) ?_
            refine y_same (i := .aload_n 0) (len := 1) (r := (0, 0, 0, 0)) (pc' := 124) (ls' := [some (.inl (some 52)), some (zi xv), some (zi y2222)]) (st' := [.inl (some 52)]) (by decide +kernel) (fun k q => by cases q) rfl ?_
            refine y_ic (c := 0) (len := 1) (r := (0, 0, 0, 0)) (by decide +kernel) (by decide) (fun y2336 hy2336 => ?_)
            refine y_put (j := 391) (lo := (-2147483648)) (hi := 2147483647) (len := 3) (r := (12, 27, 0, 1355)) (by decide +kernel) O2218.2.1 (t52 O2218.2.1) at52 rfl rfl (by decide) rfl (qin_full _).1 (qin_full _).2 rfl (fun h2337 hg2337 hl2337 hs2337 ho2337 => ?_)
            have ho2337 : hO 52 27 h2218 h2337 := ho2337
            have hs2337 : hsl h2337 52 27 = some (zi y2336) := hs2337
            refine y_same (i := .aload_n 0) (len := 1) (r := (0, 0, 0, 0)) (pc' := 129) (ls' := [some (.inl (some 52)), some (zi xv), some (zi y2222)]) (st' := [.inl (some 52)]) (by decide +kernel) (fun k q => by cases q) rfl ?_
            refine y_same (i := .iload_n 2) (len := 1) (r := (0, 0, 0, 0)) (pc' := 130) (ls' := [some (.inl (some 52)), some (zi xv), some (zi y2222)]) (st' := [zi y2222, .inl (some 52)]) (by decide +kernel) (fun k q => by cases q) rfl ?_
            refine y_put (j := 388) (lo := (-2147483648)) (hi := 2147483647) (len := 3) (r := (12, 28, 0, 1356)) (by decide +kernel) hg2337 (t52 hg2337) at52 rfl rfl (by decide) rfl (qin_full _).1 (qin_full _).2 rfl (fun h2338 hg2338 hl2338 hs2338 ho2338 => ?_)
            have ho2338 : hO 52 28 h2337 h2338 := ho2338
            have hs2338 : hsl h2338 52 28 = some (zi y2222) := hs2338
            refine y_rV (len := 1) (r := (0, 0, 0, 0)) (nL := 3) (n9 := 2) (hs := []) (by decide +kernel) rfl ?_
            exact ⟨_, ⟨aup_trans O0.1 O2218.1, hg2338, fun k T j hk (hC : k ≠ 68 ∧ k ≠ 69 ∧ (k < 71 ∨ 380 < k) ∧ (k ≠ 52 ∨ j < 26 ∨ 30 < j)) => (((ho2338 k j (by omega)).trans ((ho2337 k j (by omega)).trans ((O2218.2.2 k T j (O0.1 _ _ hk) (show k ≠ 68 ∧ k ≠ 69 ∧ k ≠ 378 ∧ k ≠ 71 + n ∧ ((k ≠ 371 ∧ k ≠ 372 ∧ k ≠ 373 ∧ k ≠ 374 ∧ k ≠ 375 ∧ k ≠ 376) ∨ j ≠ n) ∧ (k ≠ 52 ∨ j ≠ 26) by omega)).trans (ho2214 k j (by omega)))))).trans (O0.2.2 k T j hk hC)⟩⟩
        ·
          refine y_iF (c := .ne) (off := 9) (len := 3) (r := (0, 0, 0, 0)) (by decide +kernel) (acmpF (c := .ne) (by show _ = _; omega)) ?_
          refine y_same (i := .aload_n 0) (len := 1) (r := (0, 0, 0, 0)) (pc' := 100) (ls' := [some (.inl (some 52)), some (zi xv), l2]) (st' := [.inl (some 52)]) (by decide +kernel) (fun k q => by cases q) rfl ?_
          refine y_ic (c := 2) (len := 1) (r := (0, 0, 0, 0)) (by decide +kernel) (by decide) (fun y2339 hy2339 => ?_)
          refine y_put (j := 391) (lo := (-2147483648)) (hi := 2147483647) (len := 3) (r := (12, 27, 0, 1355)) (by decide +kernel) O2218.2.1 (t52 O2218.2.1) at52 rfl rfl (by decide) rfl (qin_full _).1 (qin_full _).2 rfl (fun h2340 hg2340 hl2340 hs2340 ho2340 => ?_)
          have ho2340 : hO 52 27 h2218 h2340 := ho2340
          have hs2340 : hsl h2340 52 27 = some (zi y2339) := hs2340
          refine y_rV (len := 1) (r := (0, 0, 0, 0)) (nL := 3) (n9 := 2) (hs := []) (by decide +kernel) rfl ?_
          exact ⟨_, ⟨aup_trans O0.1 O2218.1, hg2340, fun k T j hk (hC : k ≠ 68 ∧ k ≠ 69 ∧ (k < 71 ∨ 380 < k) ∧ (k ≠ 52 ∨ j < 26 ∨ 30 < j)) => (((ho2340 k j (by omega)).trans ((O2218.2.2 k T j (O0.1 _ _ hk) (show k ≠ 68 ∧ k ≠ 69 ∧ k ≠ 378 ∧ k ≠ 71 + n ∧ ((k ≠ 371 ∧ k ≠ 372 ∧ k ≠ 373 ∧ k ≠ 374 ∧ k ≠ 375 ∧ k ≠ 376) ∨ j ≠ n) ∧ (k ≠ 52 ∨ j ≠ 26) by omega)).trans (ho2214 k j (by omega))))).trans (O0.2.2 k T j hk hC)⟩⟩
      · obtain ⟨ho0, ho1, xu, hxu, h3, h8⟩ := hoB qn
        obtain ⟨o, ho⟩ : ∃ o : Nat, xo.toInt = (o : Int) := ⟨xo.toInt.toNat, by omega⟩
        rw [show xo.toInt.toNat = o by omega] at hxu
        refine y_same (i := .aload_n 0) (len := 1) (r := (0, 0, 0, 0)) (pc' := 58) (ls' := [some (.inl (some 52)), some (zi xv), l2]) (st' := [.inl (some 52)]) (by decide +kernel) (fun k q => by cases q) rfl ?_
        refine y_get (j := 382) (len := 3) (r := (12, 30, 0, 1358)) (by decide +kernel) hg (t52 hg) at52 rfl rfl ht ?_
        refine y_iF (c := .le) (off := 153) (len := 3) (r := (0, 0, 0, 0)) (by decide +kernel) (acmpF (c := .le) (by show _ < _; omega)) ?_
        refine y_same (i := .aload_n 0) (len := 1) (r := (0, 0, 0, 0)) (pc' := 65) (ls' := [some (.inl (some 52)), some (zi xv), l2]) (st' := [.inl (some 52)]) (by decide +kernel) (fun k q => by cases q) rfl ?_
        refine y_same (i := .dup) (len := 1) (r := (0, 0, 0, 0)) (pc' := 66) (ls' := [some (.inl (some 52)), some (zi xv), l2]) (st' := [.inl (some 52), .inl (some 52)]) (by decide +kernel) (fun k q => by cases q) rfl ?_
        refine y_get (j := 382) (len := 3) (r := (12, 30, 0, 1358)) (by decide +kernel) hg (t52 hg) at52 rfl rfl ht ?_
        refine y_ic (c := 1) (len := 1) (r := (0, 0, 0, 0)) (by decide +kernel) (by decide) (fun y2341 hy2341 => ?_)
        refine y_sub (len := 1) (r := (0, 0, 0, 0)) (by decide +kernel) (by omega) (by omega) (fun y2342 hy2342 => ?_)
        refine y_put (j := 382) (lo := 0) (hi := 600) (len := 3) (r := (12, 30, 0, 1358)) (by decide +kernel) hg (t52 hg) at52 rfl rfl (by decide) rfl (by omega) (by omega) rfl (fun h2343 hg2343 hl2343 hs2343 ho2343 => ?_)
        have ho2343 : hO 52 30 h h2343 := ho2343
        have hs2343 : hsl h2343 52 30 = some (zi y2342) := hs2343
        refine y_same (i := .aload_n 0) (len := 1) (r := (0, 0, 0, 0)) (pc' := 75) (ls' := [some (.inl (some 52)), some (zi xv), l2]) (st' := [.inl (some 52)]) (by decide +kernel) (fun k q => by cases q) rfl ?_
        refine y_same (i := .aload_n 0) (len := 1) (r := (0, 0, 0, 0)) (pc' := 76) (ls' := [some (.inl (some 52)), some (zi xv), l2]) (st' := [.inl (some 52), .inl (some 52)]) (by decide +kernel) (fun k q => by cases q) rfl ?_
        refine y_get (j := 64) (len := 3) (r := (12, 24, 2, 1352)) (by decide +kernel) hg2343 (t52 hg2343) at52 rfl rfl (g_r52 (f := 24) (T2 := 379) hg2343 rfl (by decide)).1 ?_
        refine y_same (i := .aload_n 0) (len := 1) (r := (0, 0, 0, 0)) (pc' := 80) (ls' := [some (.inl (some 52)), some (zi xv), l2]) (st' := [.inl (some 52), .inl (some 379), .inl (some 52)]) (by decide +kernel) (fun k q => by cases q) rfl ?_
        refine y_get (j := 382) (len := 3) (r := (12, 30, 0, 1358)) (by decide +kernel) hg2343 (t52 hg2343) at52 rfl rfl hs2343 ?_
        have hv2344 := (ho2343 379 (td - 1) (Or.inl (by omega))).trans hxo
        refine y_ial (i := (td - 1)) (len := 1) (r := (0, 0, 0, 0)) (by decide +kernel) hg2343 (tu379 hg2343) at379 (by omega) hv2344 ?_
        refine y_same (i := .aload_n 0) (len := 1) (r := (0, 0, 0, 0)) (pc' := 85) (ls' := [some (.inl (some 52)), some (zi xv), l2]) (st' := [.inl (some 52), zi xo, .inl (some 52)]) (by decide +kernel) (fun k q => by cases q) rfl ?_
        refine y_get (j := 67) (len := 3) (r := (12, 25, 2, 1353)) (by decide +kernel) hg2343 (t52 hg2343) at52 rfl rfl (g_r52 (f := 25) (T2 := 380) hg2343 rfl (by decide)).1 ?_
        refine y_same (i := .aload_n 0) (len := 1) (r := (0, 0, 0, 0)) (pc' := 89) (ls' := [some (.inl (some 52)), some (zi xv), l2]) (st' := [.inl (some 52), .inl (some 380), zi xo, .inl (some 52)]) (by decide +kernel) (fun k q => by cases q) rfl ?_
        refine y_get (j := 382) (len := 3) (r := (12, 30, 0, 1358)) (by decide +kernel) hg2343 (t52 hg2343) at52 rfl rfl hs2343 ?_
        obtain ⟨v2345, hv2346, lv2345, uv2345⟩ := g_int (i := (td - 1)) hg2343 (tu380 hg2343) at380 (show (td - 1) < 600 by omega) (sr1 (by omega))
        refine y_ial (i := (td - 1)) (len := 1) (r := (0, 0, 0, 0)) (by decide +kernel) hg2343 (tu380 hg2343) at380 (by omega) hv2346 ?_
        have hv2348 := (ho2343 52 26 (Or.inr (by omega))).trans hs
        have Gc : Gv h2343 n := Gv_up2 G hg hn3 ⟨(aup_refl _), hg2343, fun k T j hk (hC : k ≠ 377 ∧ k ≠ 379 ∧ k ≠ 380 ∧ k ≠ 52) => (ho2343 k j (by omega))⟩
        have hv2349 := (ho2343 373 o (Or.inl (by omega))).trans hxu
        refine y_cI (i := .invokevirtual 397) (len := 3) (r := (0, 231, 12, 1636)) (nL := 5) (k := 2) (n := 3) (hs := []) (args := [.inl (some 52), zi xo, zi v2345]) (rest := []) (l0 := [some (.inl (some 52)), some (zi xo), some (zi v2345), none, none]) (by decide +kernel) (Or.inr (Or.inl ⟨_, rfl⟩)) rfl rfl rfl rfl (Nat.le_of_ble_eq_true rfl) (z52 hg2343) rfl (e_comesB hC hg2343 Gc hv2348 hxs hn3 (o := o) (by omega) (by omega) (by omega) (by omega) hv2349 h3 h8) (fun y2347 h2347 hRy2347 => ?_)
        obtain ⟨ly2347, uy2347, τ2347, O2347, f2347⟩ := hRy2347
        rcases Decidable.em (y2347.toInt ≠ 0) with q2350 | q2350
        ·
          refine y_iT (c := .ne) (off := 9) (pc' := 105) (len := 3) (r := (0, 0, 0, 0)) (by decide +kernel) (acmpT (c := .ne) (by show ¬ (_ = _); omega)) (by decide +kernel) ?_
          obtain ⟨hn9, ⟨x26, s26, e26⟩, G1⟩ := f2347 (by omega)
          refine y_same (i := .aload_n 0) (len := 1) (r := (0, 0, 0, 0)) (pc' := 106) (ls' := [some (.inl (some 52)), some (zi xv), l2]) (st' := [.inl (some 52)]) (by decide +kernel) (fun k q => by cases q) rfl ?_
          refine y_get (j := 348) (len := 3) (r := (12, 26, 0, 1354)) (by decide +kernel) O2347.2.1 (t52 O2347.2.1) at52 rfl rfl s26 ?_
          refine y_ic (c := 1) (len := 1) (r := (0, 0, 0, 0)) (by decide +kernel) (by decide) (fun y2351 hy2351 => ?_)
          refine y_sub (len := 1) (r := (0, 0, 0, 0)) (by decide +kernel) (by omega) (by omega) (fun y2352 hy2352 => ?_)
          refine y_same (i := .istore_n 2) (len := 1) (r := (0, 0, 0, 0)) (pc' := 112) (ls' := [some (.inl (some 52)), some (zi xv), some (zi y2352)]) (st' := []) (by decide +kernel) (fun k q => by cases q) rfl ?_
          refine y_same (i := .aload_n 0) (len := 1) (r := (0, 0, 0, 0)) (pc' := 113) (ls' := [some (.inl (some 52)), some (zi xv), some (zi y2352)]) (st' := [.inl (some 52)]) (by decide +kernel) (fun k q => by cases q) rfl ?_
          refine y_get (j := 46) (len := 3) (r := (12, 18, 2, 1346)) (by decide +kernel) O2347.2.1 (t52 O2347.2.1) at52 rfl rfl (g_r52 (f := 18) (T2 := 373) O2347.2.1 rfl (by decide)).1 ?_
          refine y_same (i := .iload_n 2) (len := 1) (r := (0, 0, 0, 0)) (pc' := 117) (ls' := [some (.inl (some 52)), some (zi xv), some (zi y2352)]) (st' := [zi y2352, .inl (some 373)]) (by decide +kernel) (fun k q => by cases q) rfl ?_
          obtain ⟨v2353, hv2354, lv2353, uv2353⟩ := g_int (i := n) O2347.2.1 (tu373 O2347.2.1) at373 (show n < 300 by omega) (sr1 (by omega))
          refine y_ial (i := n) (len := 1) (r := (0, 0, 0, 0)) (by decide +kernel) O2347.2.1 (tu373 O2347.2.1) at373 (by omega) hv2354 ?_
          refine y_bi (c := 9) (len := 2) (r := (0, 0, 0, 0)) (by decide +kernel) (by decide) (fun y2355 hy2355 => ?_)
          rcases Decidable.em (v2353.toInt ≠ y2355.toInt) with q2356 | q2356
          ·
            refine y_cT (c := .ne) (off := 14) (pc' := 134) (len := 3) (r := (0, 0, 0, 0)) (by decide +kernel) (acmpT (c := .ne) (by show ¬ (_ = _); omega)) (by decide +kernel) ?_
            refine y_same (i := .aload_n 0) (len := 1) (r := (0, 0, 0, 0)) (pc' := 135) (ls' := [some (.inl (some 52)), some (zi xv), some (zi y2352)]) (st' := [.inl (some 52)]) (by decide +kernel) (fun k q => by cases q) rfl ?_
            refine y_get (j := 46) (len := 3) (r := (12, 18, 2, 1346)) (by decide +kernel) O2347.2.1 (t52 O2347.2.1) at52 rfl rfl (g_r52 (f := 18) (T2 := 373) O2347.2.1 rfl (by decide)).1 ?_
            refine y_same (i := .iload_n 2) (len := 1) (r := (0, 0, 0, 0)) (pc' := 139) (ls' := [some (.inl (some 52)), some (zi xv), some (zi y2352)]) (st' := [zi y2352, .inl (some 373)]) (by decide +kernel) (fun k q => by cases q) rfl ?_
            refine y_ial (i := n) (len := 1) (r := (0, 0, 0, 0)) (by decide +kernel) O2347.2.1 (tu373 O2347.2.1) at373 (by omega) hv2354 ?_
            refine y_ic (c := 2) (len := 1) (r := (0, 0, 0, 0)) (by decide +kernel) (by decide) (fun y2357 hy2357 => ?_)
            rcases Decidable.em (v2353.toInt ≠ y2357.toInt) with q2358 | q2358
            ·
              refine y_cT (c := .ne) (off := 23) (pc' := 164) (len := 3) (r := (0, 0, 0, 0)) (by decide +kernel) (acmpT (c := .ne) (by show ¬ (_ = _); omega)) (by decide +kernel) ?_
              refine y_same (i := .aload_n 0) (len := 1) (r := (0, 0, 0, 0)) (pc' := 165) (ls' := [some (.inl (some 52)), some (zi xv), some (zi y2352)]) (st' := [.inl (some 52)]) (by decide +kernel) (fun k q => by cases q) rfl ?_
              refine y_get (j := 46) (len := 3) (r := (12, 18, 2, 1346)) (by decide +kernel) O2347.2.1 (t52 O2347.2.1) at52 rfl rfl (g_r52 (f := 18) (T2 := 373) O2347.2.1 rfl (by decide)).1 ?_
              refine y_same (i := .iload_n 2) (len := 1) (r := (0, 0, 0, 0)) (pc' := 169) (ls' := [some (.inl (some 52)), some (zi xv), some (zi y2352)]) (st' := [zi y2352, .inl (some 373)]) (by decide +kernel) (fun k q => by cases q) rfl ?_
              refine y_ial (i := n) (len := 1) (r := (0, 0, 0, 0)) (by decide +kernel) O2347.2.1 (tu373 O2347.2.1) at373 (by omega) hv2354 ?_
              refine y_ic (c := 2) (len := 1) (r := (0, 0, 0, 0)) (by decide +kernel) (by decide) (fun y2359 hy2359 => ?_)
              rcases Decidable.em (v2353.toInt > y2359.toInt) with q2360 | q2360
              ·
                refine y_cT (c := .gt) (off := 6) (pc' := 177) (len := 3) (r := (0, 0, 0, 0)) (by decide +kernel) (acmpT (c := .gt) (by show _ < _; omega)) (by decide +kernel) ?_
                refine y_same (i := .aload_n 0) (len := 1) (r := (0, 0, 0, 0)) (pc' := 178) (ls' := [some (.inl (some 52)), some (zi xv), some (zi y2352)]) (st' := [.inl (some 52)]) (by decide +kernel) (fun k q => by cases q) rfl ?_
                refine y_get (j := 46) (len := 3) (r := (12, 18, 2, 1346)) (by decide +kernel) O2347.2.1 (t52 O2347.2.1) at52 rfl rfl (g_r52 (f := 18) (T2 := 373) O2347.2.1 rfl (by decide)).1 ?_
                refine y_same (i := .iload_n 2) (len := 1) (r := (0, 0, 0, 0)) (pc' := 182) (ls' := [some (.inl (some 52)), some (zi xv), some (zi y2352)]) (st' := [zi y2352, .inl (some 373)]) (by decide +kernel) (fun k q => by cases q) rfl ?_
                refine y_ial (i := n) (len := 1) (r := (0, 0, 0, 0)) (by decide +kernel) O2347.2.1 (tu373 O2347.2.1) at373 (by omega) hv2354 ?_
                refine y_bi (c := 6) (len := 2) (r := (0, 0, 0, 0)) (by decide +kernel) (by decide) (fun y2361 hy2361 => ?_)
                rcases Decidable.em (v2353.toInt = y2361.toInt) with q2362 | q2362
                ·
                  refine y_cT (c := .eq) (off := 14) (pc' := 199) (len := 3) (r := (0, 0, 0, 0)) (by decide +kernel) (acmpT (c := .eq) (by show _ = _; omega)) (by decide +kernel) ?_
                  refine y_same (i := .aload_n 0) (len := 1) (r := (0, 0, 0, 0)) (pc' := 200) (ls' := [some (.inl (some 52)), some (zi xv), some (zi y2352)]) (st' := [.inl (some 52)]) (by decide +kernel) (fun k q => by cases q) rfl ?_
                  refine y_same (i := .iload_n 2) (len := 1) (r := (0, 0, 0, 0)) (pc' := 201) (ls' := [some (.inl (some 52)), some (zi xv), some (zi y2352)]) (st' := [zi y2352, .inl (some 52)]) (by decide +kernel) (fun k q => by cases q) rfl ?_
                  refine y_ic (c := 1) (len := 1) (r := (0, 0, 0, 0)) (by decide +kernel) (by decide) (fun y2363 hy2363 => ?_)
                  have hv2365 := (O2347.2.2 52 52 30 (t52 hg2343) (show 52 ≠ 68 ∧ 52 ≠ 69 ∧ 52 ≠ 378 ∧ 52 ≠ 71 + n ∧ ((52 ≠ 371 ∧ 52 ≠ 372 ∧ 52 ≠ 373 ∧ 52 ≠ 374 ∧ 52 ≠ 375 ∧ 52 ≠ 376) ∨ 30 ≠ n) ∧ (52 ≠ 52 ∨ 30 ≠ 26) by omega)).trans hs2343
                  refine y_cV (i := .invokevirtual 394) (len := 3) (r := (0, 237, 12, 1632)) (nL := 3) (k := 0) (n := 3) (hs := []) (args := [.inl (some 52), zi y2352, zi y2363]) (rest := []) (l0 := [some (.inl (some 52)), some (zi y2352), some (zi y2363)]) (by decide +kernel) (Or.inr (Or.inl ⟨_, rfl⟩)) rfl rfl rfl rfl (Nat.le_of_ble_eq_true rfl) (z52 O2347.2.1) rfl (e_waits (td := (td - 1)) O2347.2.1 (by omega) (by omega) (by omega) (by omega) hv2365 (by omega) (by omega)) (fun h2364 hR2364 => ?_)
                  obtain ⟨O2364, a2364, b2364, x2364, c2364, e2364⟩ := hR2364
                  refine y_same (i := .aload_n 0) (len := 1) (r := (0, 0, 0, 0)) (pc' := 206) (ls' := [some (.inl (some 52)), some (zi xv), some (zi y2352)]) (st' := [.inl (some 52)]) (by decide +kernel) (fun k q => by cases q) rfl ?_
                  refine y_same (i := .iload_n 2) (len := 1) (r := (0, 0, 0, 0)) (pc' := 207) (ls' := [some (.inl (some 52)), some (zi xv), some (zi y2352)]) (st' := [zi y2352, .inl (some 52)]) (by decide +kernel) (fun k q => by cases q) rfl ?_
                  refine y_ic (c := 0) (len := 1) (r := (0, 0, 0, 0)) (by decide +kernel) (by decide) (fun y2366 hy2366 => ?_)
                  refine y_cV (i := .invokevirtual 394) (len := 3) (r := (0, 237, 12, 1632)) (nL := 3) (k := 0) (n := 3) (hs := []) (args := [.inl (some 52), zi y2352, zi y2366]) (rest := []) (l0 := [some (.inl (some 52)), some (zi y2352), some (zi y2366)]) (by decide +kernel) (Or.inr (Or.inl ⟨_, rfl⟩)) rfl rfl rfl rfl (Nat.le_of_ble_eq_true rfl) (z52 O2364.2.1) rfl (e_waits (td := ((td - 1) + 1)) O2364.2.1 (by omega) (by omega) (by omega) (by omega) c2364 (by omega) (by omega)) (fun h2367 hR2367 => ?_)
                  obtain ⟨O2367, a2367, b2367, x2367, c2367, e2367⟩ := hR2367
                  refine y_goto (off := (-154)) (pc' := 57) (len := 3) (r := (0, 0, 0, 0)) (by decide +kernel) (by decide +kernel) ?_
                  have hv2368 := (O2364.2.2 52 52 26 (t52 O2347.2.1) (show ((52 ≠ 379 ∧ 52 ≠ 380) ∨ 26 ≠ (td - 1)) ∧ (52 ≠ 52 ∨ 26 ≠ 30) by omega)).trans s26
                  have hv2369 := (O2367.2.2 52 52 26 (t52 O2364.2.1) (show ((52 ≠ 379 ∧ 52 ≠ 380) ∨ 26 ≠ ((td - 1) + 1)) ∧ (52 ≠ 52 ∨ 26 ≠ 30) by omega)).trans hv2368
                  have hv2370 := (ho2343 52 29 (Or.inr (by omega))).trans hd
                  have hv2371 := (O2347.2.2 52 52 29 (t52 hg2343) (show 52 ≠ 68 ∧ 52 ≠ 69 ∧ 52 ≠ 378 ∧ 52 ≠ 71 + n ∧ ((52 ≠ 371 ∧ 52 ≠ 372 ∧ 52 ≠ 373 ∧ 52 ≠ 374 ∧ 52 ≠ 375 ∧ 52 ≠ 376) ∨ 29 ≠ n) ∧ (52 ≠ 52 ∨ 29 ≠ 26) by omega)).trans hv2370
                  have hv2372 := (O2364.2.2 52 52 29 (t52 O2347.2.1) (show ((52 ≠ 379 ∧ 52 ≠ 380) ∨ 29 ≠ (td - 1)) ∧ (52 ≠ 52 ∨ 29 ≠ 30) by omega)).trans hv2371
                  have hv2373 := (O2367.2.2 52 52 29 (t52 O2364.2.1) (show ((52 ≠ 379 ∧ 52 ≠ 380) ∨ 29 ≠ ((td - 1) + 1)) ∧ (52 ≠ 52 ∨ 29 ≠ 30) by omega)).trans hv2372
                  have hv2374 := (O2364.2.2 373 373 n (tu373 O2347.2.1) (show ((373 ≠ 379 ∧ 373 ≠ 380) ∨ n ≠ (td - 1)) ∧ (373 ≠ 52 ∨ n ≠ 30) by omega)).trans hv2354
                  have hv2375 := (O2367.2.2 373 373 n (tu373 O2364.2.1) (show ((373 ≠ 379 ∧ 373 ≠ 380) ∨ n ≠ ((td - 1) + 1)) ∧ (373 ≠ 52 ∨ n ≠ 30) by omega)).trans hv2374
                  have hv2376 := (O2367.2.2 379 379 (td - 1) (tu379 O2364.2.1) (show ((379 ≠ 379 ∧ 379 ≠ 380) ∨ (td - 1) ≠ ((td - 1) + 1)) ∧ (379 ≠ 52 ∨ (td - 1) ≠ 30) by omega)).trans a2364
                  have F : oF (fun k j => k ≠ 68 ∧ k ≠ 69 ∧ k ≠ 378 ∧ k ≠ 71 + n ∧ k ≠ 52 ∧ k ≠ 377 ∧ ((k ≠ 371 ∧ k ≠ 372 ∧ k ≠ 373 ∧ k ≠ 374 ∧ k ≠ 375 ∧ k ≠ 376) ∨ j ≠ n) ∧ ((k ≠ 379 ∧ k ≠ 380) ∨ j < td - 1)) τ h τ2347 h2367 := ⟨(aup_trans (aup_trans O2347.1 O2364.1) O2367.1), O2367.2.1, fun k T j hk (hC : k ≠ 68 ∧ k ≠ 69 ∧ k ≠ 378 ∧ k ≠ 71 + n ∧ k ≠ 52 ∧ k ≠ 377 ∧ ((k ≠ 371 ∧ k ≠ 372 ∧ k ≠ 373 ∧ k ≠ 374 ∧ k ≠ 375 ∧ k ≠ 376) ∨ j ≠ n) ∧ ((k ≠ 379 ∧ k ≠ 380) ∨ j < td - 1)) => ((O2367.2.2 k T j (O2364.1 _ _ (O2347.1 _ _ hk)) (show ((k ≠ 379 ∧ k ≠ 380) ∨ j ≠ ((td - 1) + 1)) ∧ (k ≠ 52 ∨ j ≠ 30) by omega)).trans ((O2364.2.2 k T j (O2347.1 _ _ hk) (show ((k ≠ 379 ∧ k ≠ 380) ∨ j ≠ (td - 1)) ∧ (k ≠ 52 ∨ j ≠ 30) by omega)).trans ((O2347.2.2 k T j hk (show k ≠ 68 ∧ k ≠ 69 ∧ k ≠ 378 ∧ k ≠ 71 + n ∧ ((k ≠ 371 ∧ k ≠ 372 ∧ k ≠ 373 ∧ k ≠ 374 ∧ k ≠ 375 ∧ k ≠ 376) ∨ j ≠ n) ∧ (k ≠ 52 ∨ j ≠ 26) by omega)).trans (ho2343 k j (by omega)))))⟩
                  have G2 : Gv h2367 (n + 1) := Gv_up2 G1 O2347.2.1 (by omega) ⟨(aup_trans O2364.1 O2367.1), O2367.2.1, fun k T j hk (hC : k ≠ 377 ∧ k ≠ 379 ∧ k ≠ 380 ∧ k ≠ 52) => ((O2367.2.2 k T j (O2364.1 _ _ hk) (show ((k ≠ 379 ∧ k ≠ 380) ∨ j ≠ ((td - 1) + 1)) ∧ (k ≠ 52 ∨ j ≠ 30) by omega)).trans (O2364.2.2 k T j hk (show ((k ≠ 379 ∧ k ≠ 380) ∨ j ≠ (td - 1)) ∧ (k ≠ 52 ∨ j ≠ 30) by omega)))⟩
                  have En : ∀ i, i < td - 1 → ent h2367 (n + 1) i := fun i hi => ent_up (hent i (by omega)) (by omega) (F.2.2 379 379 i (tu379 hg) (show 379 ≠ 68 ∧ 379 ≠ 69 ∧ 379 ≠ 378 ∧ 379 ≠ 71 + n ∧ 379 ≠ 52 ∧ 379 ≠ 377 ∧ ((379 ≠ 371 ∧ 379 ≠ 372 ∧ 379 ≠ 373 ∧ 379 ≠ 374 ∧ 379 ≠ 375 ∧ 379 ≠ 376) ∨ i ≠ n) ∧ ((379 ≠ 379 ∧ 379 ≠ 380) ∨ i < td - 1) by omega)) (fun j hj => F.2.2 373 373 j (tu373 hg) (show 373 ≠ 68 ∧ 373 ≠ 69 ∧ 373 ≠ 378 ∧ 373 ≠ 71 + n ∧ 373 ≠ 52 ∧ 373 ≠ 377 ∧ ((373 ≠ 371 ∧ 373 ≠ 372 ∧ 373 ≠ 373 ∧ 373 ≠ 374 ∧ 373 ≠ 375 ∧ 373 ≠ 376) ∨ j ≠ n) ∧ ((373 ≠ 379 ∧ 373 ≠ 380) ∨ j < td - 1) by omega))
                  have En2 : ∀ i, i < (((td - 1) + 1) + 1) → ent h2367 (n + 1) i := fun i hi => by
                    rcases (show i < td - 1 ∨ i = (td - 1) ∨ i = ((td - 1) + 1) by omega) with q | rfl | rfl
                    · exact En i q
                    · exact ent_new hv2376 (by omega) hv2375 (by omega) (by omega)
                    · exact ent_new a2367 (by omega) hv2375 (by omega) (by omega)
                  exact ih τ2347 h2367 ⟨aup_trans O0.1 (aup_trans (aup_trans O2347.1 O2364.1) O2367.1), O2367.2.1, fun k T j hk (hC : k ≠ 68 ∧ k ≠ 69 ∧ (k < 71 ∨ 380 < k) ∧ (k ≠ 52 ∨ j < 26 ∨ 30 < j)) => (((O2367.2.2 k T j (O2364.1 _ _ (O2347.1 _ _ (O0.1 _ _ hk))) (show ((k ≠ 379 ∧ k ≠ 380) ∨ j ≠ ((td - 1) + 1)) ∧ (k ≠ 52 ∨ j ≠ 30) by omega)).trans ((O2364.2.2 k T j (O2347.1 _ _ (O0.1 _ _ hk)) (show ((k ≠ 379 ∧ k ≠ 380) ∨ j ≠ (td - 1)) ∧ (k ≠ 52 ∨ j ≠ 30) by omega)).trans ((O2347.2.2 k T j (O0.1 _ _ hk) (show k ≠ 68 ∧ k ≠ 69 ∧ k ≠ 378 ∧ k ≠ 71 + n ∧ ((k ≠ 371 ∧ k ≠ 372 ∧ k ≠ 373 ∧ k ≠ 374 ∧ k ≠ 375 ∧ k ≠ 376) ∨ j ≠ n) ∧ (k ≠ 52 ∨ j ≠ 26) by omega)).trans (ho2343 k j (by omega)))))).trans (O0.2.2 k T j hk hC)⟩ (n + 1) ((((td - 1) + 1) + 1)) (dn) _ ⟨⟨_, hv2369, by omega⟩, ⟨_, c2367, by omega⟩, ⟨_, hv2373, by omega⟩, by omega, by omega, by omega, G2, En2⟩ (by omega)
                ·
                  refine y_cF (c := .eq) (off := 14) (len := 3) (r := (0, 0, 0, 0)) (by decide +kernel) (acmpF (c := .eq) (by show ¬ (_ = _); omega)) ?_
                  refine y_same (i := .aload_n 0) (len := 1) (r := (0, 0, 0, 0)) (pc' := 189) (ls' := [some (.inl (some 52)), some (zi xv), some (zi y2352)]) (st' := [.inl (some 52)]) (by decide +kernel) (fun k q => by cases q) rfl ?_
                  refine y_get (j := 46) (len := 3) (r := (12, 18, 2, 1346)) (by decide +kernel) O2347.2.1 (t52 O2347.2.1) at52 rfl rfl (g_r52 (f := 18) (T2 := 373) O2347.2.1 rfl (by decide)).1 ?_
                  refine y_same (i := .iload_n 2) (len := 1) (r := (0, 0, 0, 0)) (pc' := 193) (ls' := [some (.inl (some 52)), some (zi xv), some (zi y2352)]) (st' := [zi y2352, .inl (some 373)]) (by decide +kernel) (fun k q => by cases q) rfl ?_
                  refine y_ial (i := n) (len := 1) (r := (0, 0, 0, 0)) (by decide +kernel) O2347.2.1 (tu373 O2347.2.1) at373 (by omega) hv2354 ?_
                  refine y_bi (c := 7) (len := 2) (r := (0, 0, 0, 0)) (by decide +kernel) (by decide) (fun y2377 hy2377 => ?_)
                  rcases Decidable.em (v2353.toInt ≠ y2377.toInt) with q2378 | q2378
                  ·
                    refine y_cT (c := .ne) (off := 9) (pc' := 205) (len := 3) (r := (0, 0, 0, 0)) (by decide +kernel) (acmpT (c := .ne) (by show ¬ (_ = _); omega)) (by decide +kernel) ?_
                    refine y_same (i := .aload_n 0) (len := 1) (r := (0, 0, 0, 0)) (pc' := 206) (ls' := [some (.inl (some 52)), some (zi xv), some (zi y2352)]) (st' := [.inl (some 52)]) (by decide +kernel) (fun k q => by cases q) rfl ?_
                    refine y_same (i := .iload_n 2) (len := 1) (r := (0, 0, 0, 0)) (pc' := 207) (ls' := [some (.inl (some 52)), some (zi xv), some (zi y2352)]) (st' := [zi y2352, .inl (some 52)]) (by decide +kernel) (fun k q => by cases q) rfl ?_
                    refine y_ic (c := 0) (len := 1) (r := (0, 0, 0, 0)) (by decide +kernel) (by decide) (fun y2379 hy2379 => ?_)
                    have hv2381 := (O2347.2.2 52 52 30 (t52 hg2343) (show 52 ≠ 68 ∧ 52 ≠ 69 ∧ 52 ≠ 378 ∧ 52 ≠ 71 + n ∧ ((52 ≠ 371 ∧ 52 ≠ 372 ∧ 52 ≠ 373 ∧ 52 ≠ 374 ∧ 52 ≠ 375 ∧ 52 ≠ 376) ∨ 30 ≠ n) ∧ (52 ≠ 52 ∨ 30 ≠ 26) by omega)).trans hs2343
                    refine y_cV (i := .invokevirtual 394) (len := 3) (r := (0, 237, 12, 1632)) (nL := 3) (k := 0) (n := 3) (hs := []) (args := [.inl (some 52), zi y2352, zi y2379]) (rest := []) (l0 := [some (.inl (some 52)), some (zi y2352), some (zi y2379)]) (by decide +kernel) (Or.inr (Or.inl ⟨_, rfl⟩)) rfl rfl rfl rfl (Nat.le_of_ble_eq_true rfl) (z52 O2347.2.1) rfl (e_waits (td := (td - 1)) O2347.2.1 (by omega) (by omega) (by omega) (by omega) hv2381 (by omega) (by omega)) (fun h2380 hR2380 => ?_)
                    obtain ⟨O2380, a2380, b2380, x2380, c2380, e2380⟩ := hR2380
                    refine y_goto (off := (-154)) (pc' := 57) (len := 3) (r := (0, 0, 0, 0)) (by decide +kernel) (by decide +kernel) ?_
                    have hv2382 := (O2380.2.2 52 52 26 (t52 O2347.2.1) (show ((52 ≠ 379 ∧ 52 ≠ 380) ∨ 26 ≠ (td - 1)) ∧ (52 ≠ 52 ∨ 26 ≠ 30) by omega)).trans s26
                    have hv2383 := (ho2343 52 29 (Or.inr (by omega))).trans hd
                    have hv2384 := (O2347.2.2 52 52 29 (t52 hg2343) (show 52 ≠ 68 ∧ 52 ≠ 69 ∧ 52 ≠ 378 ∧ 52 ≠ 71 + n ∧ ((52 ≠ 371 ∧ 52 ≠ 372 ∧ 52 ≠ 373 ∧ 52 ≠ 374 ∧ 52 ≠ 375 ∧ 52 ≠ 376) ∨ 29 ≠ n) ∧ (52 ≠ 52 ∨ 29 ≠ 26) by omega)).trans hv2383
                    have hv2385 := (O2380.2.2 52 52 29 (t52 O2347.2.1) (show ((52 ≠ 379 ∧ 52 ≠ 380) ∨ 29 ≠ (td - 1)) ∧ (52 ≠ 52 ∨ 29 ≠ 30) by omega)).trans hv2384
                    have hv2386 := (O2380.2.2 373 373 n (tu373 O2347.2.1) (show ((373 ≠ 379 ∧ 373 ≠ 380) ∨ n ≠ (td - 1)) ∧ (373 ≠ 52 ∨ n ≠ 30) by omega)).trans hv2354
                    have F : oF (fun k j => k ≠ 68 ∧ k ≠ 69 ∧ k ≠ 378 ∧ k ≠ 71 + n ∧ k ≠ 52 ∧ k ≠ 377 ∧ ((k ≠ 371 ∧ k ≠ 372 ∧ k ≠ 373 ∧ k ≠ 374 ∧ k ≠ 375 ∧ k ≠ 376) ∨ j ≠ n) ∧ ((k ≠ 379 ∧ k ≠ 380) ∨ j < td - 1)) τ h τ2347 h2380 := ⟨(aup_trans O2347.1 O2380.1), O2380.2.1, fun k T j hk (hC : k ≠ 68 ∧ k ≠ 69 ∧ k ≠ 378 ∧ k ≠ 71 + n ∧ k ≠ 52 ∧ k ≠ 377 ∧ ((k ≠ 371 ∧ k ≠ 372 ∧ k ≠ 373 ∧ k ≠ 374 ∧ k ≠ 375 ∧ k ≠ 376) ∨ j ≠ n) ∧ ((k ≠ 379 ∧ k ≠ 380) ∨ j < td - 1)) => ((O2380.2.2 k T j (O2347.1 _ _ hk) (show ((k ≠ 379 ∧ k ≠ 380) ∨ j ≠ (td - 1)) ∧ (k ≠ 52 ∨ j ≠ 30) by omega)).trans ((O2347.2.2 k T j hk (show k ≠ 68 ∧ k ≠ 69 ∧ k ≠ 378 ∧ k ≠ 71 + n ∧ ((k ≠ 371 ∧ k ≠ 372 ∧ k ≠ 373 ∧ k ≠ 374 ∧ k ≠ 375 ∧ k ≠ 376) ∨ j ≠ n) ∧ (k ≠ 52 ∨ j ≠ 26) by omega)).trans (ho2343 k j (by omega))))⟩
                    have G2 : Gv h2380 (n + 1) := Gv_up2 G1 O2347.2.1 (by omega) ⟨O2380.1, O2380.2.1, fun k T j hk (hC : k ≠ 377 ∧ k ≠ 379 ∧ k ≠ 380 ∧ k ≠ 52) => (O2380.2.2 k T j hk (show ((k ≠ 379 ∧ k ≠ 380) ∨ j ≠ (td - 1)) ∧ (k ≠ 52 ∨ j ≠ 30) by omega))⟩
                    have En : ∀ i, i < td - 1 → ent h2380 (n + 1) i := fun i hi => ent_up (hent i (by omega)) (by omega) (F.2.2 379 379 i (tu379 hg) (show 379 ≠ 68 ∧ 379 ≠ 69 ∧ 379 ≠ 378 ∧ 379 ≠ 71 + n ∧ 379 ≠ 52 ∧ 379 ≠ 377 ∧ ((379 ≠ 371 ∧ 379 ≠ 372 ∧ 379 ≠ 373 ∧ 379 ≠ 374 ∧ 379 ≠ 375 ∧ 379 ≠ 376) ∨ i ≠ n) ∧ ((379 ≠ 379 ∧ 379 ≠ 380) ∨ i < td - 1) by omega)) (fun j hj => F.2.2 373 373 j (tu373 hg) (show 373 ≠ 68 ∧ 373 ≠ 69 ∧ 373 ≠ 378 ∧ 373 ≠ 71 + n ∧ 373 ≠ 52 ∧ 373 ≠ 377 ∧ ((373 ≠ 371 ∧ 373 ≠ 372 ∧ 373 ≠ 373 ∧ 373 ≠ 374 ∧ 373 ≠ 375 ∧ 373 ≠ 376) ∨ j ≠ n) ∧ ((373 ≠ 379 ∧ 373 ≠ 380) ∨ j < td - 1) by omega))
                    have En2 : ∀ i, i < ((td - 1) + 1) → ent h2380 (n + 1) i := fun i hi => by
                      rcases (show i < td - 1 ∨ i = (td - 1) by omega) with q | rfl
                      · exact En i q
                      · exact ent_new a2380 (by omega) hv2386 (by omega) (by omega)
                    exact ih τ2347 h2380 ⟨aup_trans O0.1 (aup_trans O2347.1 O2380.1), O2380.2.1, fun k T j hk (hC : k ≠ 68 ∧ k ≠ 69 ∧ (k < 71 ∨ 380 < k) ∧ (k ≠ 52 ∨ j < 26 ∨ 30 < j)) => (((O2380.2.2 k T j (O2347.1 _ _ (O0.1 _ _ hk)) (show ((k ≠ 379 ∧ k ≠ 380) ∨ j ≠ (td - 1)) ∧ (k ≠ 52 ∨ j ≠ 30) by omega)).trans ((O2347.2.2 k T j (O0.1 _ _ hk) (show k ≠ 68 ∧ k ≠ 69 ∧ k ≠ 378 ∧ k ≠ 71 + n ∧ ((k ≠ 371 ∧ k ≠ 372 ∧ k ≠ 373 ∧ k ≠ 374 ∧ k ≠ 375 ∧ k ≠ 376) ∨ j ≠ n) ∧ (k ≠ 52 ∨ j ≠ 26) by omega)).trans (ho2343 k j (by omega))))).trans (O0.2.2 k T j hk hC)⟩ (n + 1) (((td - 1) + 1)) (dn) _ ⟨⟨_, hv2382, by omega⟩, ⟨_, c2380, by omega⟩, ⟨_, hv2385, by omega⟩, by omega, by omega, by omega, G2, En2⟩ (by omega)
                  ·
                    refine y_cF (c := .ne) (off := 9) (len := 3) (r := (0, 0, 0, 0)) (by decide +kernel) (acmpF (c := .ne) (by show _ = _; omega)) ?_
                    refine y_same (i := .aload_n 0) (len := 1) (r := (0, 0, 0, 0)) (pc' := 200) (ls' := [some (.inl (some 52)), some (zi xv), some (zi y2352)]) (st' := [.inl (some 52)]) (by decide +kernel) (fun k q => by cases q) rfl ?_
                    refine y_same (i := .iload_n 2) (len := 1) (r := (0, 0, 0, 0)) (pc' := 201) (ls' := [some (.inl (some 52)), some (zi xv), some (zi y2352)]) (st' := [zi y2352, .inl (some 52)]) (by decide +kernel) (fun k q => by cases q) rfl ?_
                    refine y_ic (c := 1) (len := 1) (r := (0, 0, 0, 0)) (by decide +kernel) (by decide) (fun y2387 hy2387 => ?_)
                    have hv2389 := (O2347.2.2 52 52 30 (t52 hg2343) (show 52 ≠ 68 ∧ 52 ≠ 69 ∧ 52 ≠ 378 ∧ 52 ≠ 71 + n ∧ ((52 ≠ 371 ∧ 52 ≠ 372 ∧ 52 ≠ 373 ∧ 52 ≠ 374 ∧ 52 ≠ 375 ∧ 52 ≠ 376) ∨ 30 ≠ n) ∧ (52 ≠ 52 ∨ 30 ≠ 26) by omega)).trans hs2343
                    refine y_cV (i := .invokevirtual 394) (len := 3) (r := (0, 237, 12, 1632)) (nL := 3) (k := 0) (n := 3) (hs := []) (args := [.inl (some 52), zi y2352, zi y2387]) (rest := []) (l0 := [some (.inl (some 52)), some (zi y2352), some (zi y2387)]) (by decide +kernel) (Or.inr (Or.inl ⟨_, rfl⟩)) rfl rfl rfl rfl (Nat.le_of_ble_eq_true rfl) (z52 O2347.2.1) rfl (e_waits (td := (td - 1)) O2347.2.1 (by omega) (by omega) (by omega) (by omega) hv2389 (by omega) (by omega)) (fun h2388 hR2388 => ?_)
                    obtain ⟨O2388, a2388, b2388, x2388, c2388, e2388⟩ := hR2388
                    refine y_same (i := .aload_n 0) (len := 1) (r := (0, 0, 0, 0)) (pc' := 206) (ls' := [some (.inl (some 52)), some (zi xv), some (zi y2352)]) (st' := [.inl (some 52)]) (by decide +kernel) (fun k q => by cases q) rfl ?_
                    refine y_same (i := .iload_n 2) (len := 1) (r := (0, 0, 0, 0)) (pc' := 207) (ls' := [some (.inl (some 52)), some (zi xv), some (zi y2352)]) (st' := [zi y2352, .inl (some 52)]) (by decide +kernel) (fun k q => by cases q) rfl ?_
                    refine y_ic (c := 0) (len := 1) (r := (0, 0, 0, 0)) (by decide +kernel) (by decide) (fun y2390 hy2390 => ?_)
                    refine y_cV (i := .invokevirtual 394) (len := 3) (r := (0, 237, 12, 1632)) (nL := 3) (k := 0) (n := 3) (hs := []) (args := [.inl (some 52), zi y2352, zi y2390]) (rest := []) (l0 := [some (.inl (some 52)), some (zi y2352), some (zi y2390)]) (by decide +kernel) (Or.inr (Or.inl ⟨_, rfl⟩)) rfl rfl rfl rfl (Nat.le_of_ble_eq_true rfl) (z52 O2388.2.1) rfl (e_waits (td := ((td - 1) + 1)) O2388.2.1 (by omega) (by omega) (by omega) (by omega) c2388 (by omega) (by omega)) (fun h2391 hR2391 => ?_)
                    obtain ⟨O2391, a2391, b2391, x2391, c2391, e2391⟩ := hR2391
                    refine y_goto (off := (-154)) (pc' := 57) (len := 3) (r := (0, 0, 0, 0)) (by decide +kernel) (by decide +kernel) ?_
                    have hv2392 := (O2388.2.2 52 52 26 (t52 O2347.2.1) (show ((52 ≠ 379 ∧ 52 ≠ 380) ∨ 26 ≠ (td - 1)) ∧ (52 ≠ 52 ∨ 26 ≠ 30) by omega)).trans s26
                    have hv2393 := (O2391.2.2 52 52 26 (t52 O2388.2.1) (show ((52 ≠ 379 ∧ 52 ≠ 380) ∨ 26 ≠ ((td - 1) + 1)) ∧ (52 ≠ 52 ∨ 26 ≠ 30) by omega)).trans hv2392
                    have hv2394 := (ho2343 52 29 (Or.inr (by omega))).trans hd
                    have hv2395 := (O2347.2.2 52 52 29 (t52 hg2343) (show 52 ≠ 68 ∧ 52 ≠ 69 ∧ 52 ≠ 378 ∧ 52 ≠ 71 + n ∧ ((52 ≠ 371 ∧ 52 ≠ 372 ∧ 52 ≠ 373 ∧ 52 ≠ 374 ∧ 52 ≠ 375 ∧ 52 ≠ 376) ∨ 29 ≠ n) ∧ (52 ≠ 52 ∨ 29 ≠ 26) by omega)).trans hv2394
                    have hv2396 := (O2388.2.2 52 52 29 (t52 O2347.2.1) (show ((52 ≠ 379 ∧ 52 ≠ 380) ∨ 29 ≠ (td - 1)) ∧ (52 ≠ 52 ∨ 29 ≠ 30) by omega)).trans hv2395
                    have hv2397 := (O2391.2.2 52 52 29 (t52 O2388.2.1) (show ((52 ≠ 379 ∧ 52 ≠ 380) ∨ 29 ≠ ((td - 1) + 1)) ∧ (52 ≠ 52 ∨ 29 ≠ 30) by omega)).trans hv2396
                    have hv2398 := (O2388.2.2 373 373 n (tu373 O2347.2.1) (show ((373 ≠ 379 ∧ 373 ≠ 380) ∨ n ≠ (td - 1)) ∧ (373 ≠ 52 ∨ n ≠ 30) by omega)).trans hv2354
                    have hv2399 := (O2391.2.2 373 373 n (tu373 O2388.2.1) (show ((373 ≠ 379 ∧ 373 ≠ 380) ∨ n ≠ ((td - 1) + 1)) ∧ (373 ≠ 52 ∨ n ≠ 30) by omega)).trans hv2398
                    have hv2400 := (O2391.2.2 379 379 (td - 1) (tu379 O2388.2.1) (show ((379 ≠ 379 ∧ 379 ≠ 380) ∨ (td - 1) ≠ ((td - 1) + 1)) ∧ (379 ≠ 52 ∨ (td - 1) ≠ 30) by omega)).trans a2388
                    have F : oF (fun k j => k ≠ 68 ∧ k ≠ 69 ∧ k ≠ 378 ∧ k ≠ 71 + n ∧ k ≠ 52 ∧ k ≠ 377 ∧ ((k ≠ 371 ∧ k ≠ 372 ∧ k ≠ 373 ∧ k ≠ 374 ∧ k ≠ 375 ∧ k ≠ 376) ∨ j ≠ n) ∧ ((k ≠ 379 ∧ k ≠ 380) ∨ j < td - 1)) τ h τ2347 h2391 := ⟨(aup_trans (aup_trans O2347.1 O2388.1) O2391.1), O2391.2.1, fun k T j hk (hC : k ≠ 68 ∧ k ≠ 69 ∧ k ≠ 378 ∧ k ≠ 71 + n ∧ k ≠ 52 ∧ k ≠ 377 ∧ ((k ≠ 371 ∧ k ≠ 372 ∧ k ≠ 373 ∧ k ≠ 374 ∧ k ≠ 375 ∧ k ≠ 376) ∨ j ≠ n) ∧ ((k ≠ 379 ∧ k ≠ 380) ∨ j < td - 1)) => ((O2391.2.2 k T j (O2388.1 _ _ (O2347.1 _ _ hk)) (show ((k ≠ 379 ∧ k ≠ 380) ∨ j ≠ ((td - 1) + 1)) ∧ (k ≠ 52 ∨ j ≠ 30) by omega)).trans ((O2388.2.2 k T j (O2347.1 _ _ hk) (show ((k ≠ 379 ∧ k ≠ 380) ∨ j ≠ (td - 1)) ∧ (k ≠ 52 ∨ j ≠ 30) by omega)).trans ((O2347.2.2 k T j hk (show k ≠ 68 ∧ k ≠ 69 ∧ k ≠ 378 ∧ k ≠ 71 + n ∧ ((k ≠ 371 ∧ k ≠ 372 ∧ k ≠ 373 ∧ k ≠ 374 ∧ k ≠ 375 ∧ k ≠ 376) ∨ j ≠ n) ∧ (k ≠ 52 ∨ j ≠ 26) by omega)).trans (ho2343 k j (by omega)))))⟩
                    have G2 : Gv h2391 (n + 1) := Gv_up2 G1 O2347.2.1 (by omega) ⟨(aup_trans O2388.1 O2391.1), O2391.2.1, fun k T j hk (hC : k ≠ 377 ∧ k ≠ 379 ∧ k ≠ 380 ∧ k ≠ 52) => ((O2391.2.2 k T j (O2388.1 _ _ hk) (show ((k ≠ 379 ∧ k ≠ 380) ∨ j ≠ ((td - 1) + 1)) ∧ (k ≠ 52 ∨ j ≠ 30) by omega)).trans (O2388.2.2 k T j hk (show ((k ≠ 379 ∧ k ≠ 380) ∨ j ≠ (td - 1)) ∧ (k ≠ 52 ∨ j ≠ 30) by omega)))⟩
                    have En : ∀ i, i < td - 1 → ent h2391 (n + 1) i := fun i hi => ent_up (hent i (by omega)) (by omega) (F.2.2 379 379 i (tu379 hg) (show 379 ≠ 68 ∧ 379 ≠ 69 ∧ 379 ≠ 378 ∧ 379 ≠ 71 + n ∧ 379 ≠ 52 ∧ 379 ≠ 377 ∧ ((379 ≠ 371 ∧ 379 ≠ 372 ∧ 379 ≠ 373 ∧ 379 ≠ 374 ∧ 379 ≠ 375 ∧ 379 ≠ 376) ∨ i ≠ n) ∧ ((379 ≠ 379 ∧ 379 ≠ 380) ∨ i < td - 1) by omega)) (fun j hj => F.2.2 373 373 j (tu373 hg) (show 373 ≠ 68 ∧ 373 ≠ 69 ∧ 373 ≠ 378 ∧ 373 ≠ 71 + n ∧ 373 ≠ 52 ∧ 373 ≠ 377 ∧ ((373 ≠ 371 ∧ 373 ≠ 372 ∧ 373 ≠ 373 ∧ 373 ≠ 374 ∧ 373 ≠ 375 ∧ 373 ≠ 376) ∨ j ≠ n) ∧ ((373 ≠ 379 ∧ 373 ≠ 380) ∨ j < td - 1) by omega))
                    have En2 : ∀ i, i < (((td - 1) + 1) + 1) → ent h2391 (n + 1) i := fun i hi => by
                      rcases (show i < td - 1 ∨ i = (td - 1) ∨ i = ((td - 1) + 1) by omega) with q | rfl | rfl
                      · exact En i q
                      · exact ent_new hv2400 (by omega) hv2399 (by omega) (by omega)
                      · exact ent_new a2391 (by omega) hv2399 (by omega) (by omega)
                    exact ih τ2347 h2391 ⟨aup_trans O0.1 (aup_trans (aup_trans O2347.1 O2388.1) O2391.1), O2391.2.1, fun k T j hk (hC : k ≠ 68 ∧ k ≠ 69 ∧ (k < 71 ∨ 380 < k) ∧ (k ≠ 52 ∨ j < 26 ∨ 30 < j)) => (((O2391.2.2 k T j (O2388.1 _ _ (O2347.1 _ _ (O0.1 _ _ hk))) (show ((k ≠ 379 ∧ k ≠ 380) ∨ j ≠ ((td - 1) + 1)) ∧ (k ≠ 52 ∨ j ≠ 30) by omega)).trans ((O2388.2.2 k T j (O2347.1 _ _ (O0.1 _ _ hk)) (show ((k ≠ 379 ∧ k ≠ 380) ∨ j ≠ (td - 1)) ∧ (k ≠ 52 ∨ j ≠ 30) by omega)).trans ((O2347.2.2 k T j (O0.1 _ _ hk) (show k ≠ 68 ∧ k ≠ 69 ∧ k ≠ 378 ∧ k ≠ 71 + n ∧ ((k ≠ 371 ∧ k ≠ 372 ∧ k ≠ 373 ∧ k ≠ 374 ∧ k ≠ 375 ∧ k ≠ 376) ∨ j ≠ n) ∧ (k ≠ 52 ∨ j ≠ 26) by omega)).trans (ho2343 k j (by omega)))))).trans (O0.2.2 k T j hk hC)⟩ (n + 1) ((((td - 1) + 1) + 1)) (dn) _ ⟨⟨_, hv2393, by omega⟩, ⟨_, c2391, by omega⟩, ⟨_, hv2397, by omega⟩, by omega, by omega, by omega, G2, En2⟩ (by omega)
              ·
                refine y_cF (c := .gt) (off := 6) (len := 3) (r := (0, 0, 0, 0)) (by decide +kernel) (acmpF (c := .gt) (by show _ ≤ _; omega)) ?_
                refine y_goto (off := (-117)) (pc' := 57) (len := 3) (r := (0, 0, 0, 0)) (by decide +kernel) (by decide +kernel) ?_
                have hv2401 := (O2347.2.2 52 52 30 (t52 hg2343) (show 52 ≠ 68 ∧ 52 ≠ 69 ∧ 52 ≠ 378 ∧ 52 ≠ 71 + n ∧ ((52 ≠ 371 ∧ 52 ≠ 372 ∧ 52 ≠ 373 ∧ 52 ≠ 374 ∧ 52 ≠ 375 ∧ 52 ≠ 376) ∨ 30 ≠ n) ∧ (52 ≠ 52 ∨ 30 ≠ 26) by omega)).trans hs2343
                have hv2402 := (ho2343 52 29 (Or.inr (by omega))).trans hd
                have hv2403 := (O2347.2.2 52 52 29 (t52 hg2343) (show 52 ≠ 68 ∧ 52 ≠ 69 ∧ 52 ≠ 378 ∧ 52 ≠ 71 + n ∧ ((52 ≠ 371 ∧ 52 ≠ 372 ∧ 52 ≠ 373 ∧ 52 ≠ 374 ∧ 52 ≠ 375 ∧ 52 ≠ 376) ∨ 29 ≠ n) ∧ (52 ≠ 52 ∨ 29 ≠ 26) by omega)).trans hv2402
                have F : oF (fun k j => k ≠ 68 ∧ k ≠ 69 ∧ k ≠ 378 ∧ k ≠ 71 + n ∧ k ≠ 52 ∧ k ≠ 377 ∧ ((k ≠ 371 ∧ k ≠ 372 ∧ k ≠ 373 ∧ k ≠ 374 ∧ k ≠ 375 ∧ k ≠ 376) ∨ j ≠ n) ∧ ((k ≠ 379 ∧ k ≠ 380) ∨ j < td - 1)) τ h τ2347 h2347 := ⟨O2347.1, O2347.2.1, fun k T j hk (hC : k ≠ 68 ∧ k ≠ 69 ∧ k ≠ 378 ∧ k ≠ 71 + n ∧ k ≠ 52 ∧ k ≠ 377 ∧ ((k ≠ 371 ∧ k ≠ 372 ∧ k ≠ 373 ∧ k ≠ 374 ∧ k ≠ 375 ∧ k ≠ 376) ∨ j ≠ n) ∧ ((k ≠ 379 ∧ k ≠ 380) ∨ j < td - 1)) => ((O2347.2.2 k T j hk (show k ≠ 68 ∧ k ≠ 69 ∧ k ≠ 378 ∧ k ≠ 71 + n ∧ ((k ≠ 371 ∧ k ≠ 372 ∧ k ≠ 373 ∧ k ≠ 374 ∧ k ≠ 375 ∧ k ≠ 376) ∨ j ≠ n) ∧ (k ≠ 52 ∨ j ≠ 26) by omega)).trans (ho2343 k j (by omega)))⟩
                have G2 : Gv h2347 (n + 1) := Gv_up2 G1 O2347.2.1 (by omega) ⟨(aup_refl _), O2347.2.1, fun k T j hk (hC : k ≠ 377 ∧ k ≠ 379 ∧ k ≠ 380 ∧ k ≠ 52) => rfl⟩
                have En : ∀ i, i < td - 1 → ent h2347 (n + 1) i := fun i hi => ent_up (hent i (by omega)) (by omega) (F.2.2 379 379 i (tu379 hg) (show 379 ≠ 68 ∧ 379 ≠ 69 ∧ 379 ≠ 378 ∧ 379 ≠ 71 + n ∧ 379 ≠ 52 ∧ 379 ≠ 377 ∧ ((379 ≠ 371 ∧ 379 ≠ 372 ∧ 379 ≠ 373 ∧ 379 ≠ 374 ∧ 379 ≠ 375 ∧ 379 ≠ 376) ∨ i ≠ n) ∧ ((379 ≠ 379 ∧ 379 ≠ 380) ∨ i < td - 1) by omega)) (fun j hj => F.2.2 373 373 j (tu373 hg) (show 373 ≠ 68 ∧ 373 ≠ 69 ∧ 373 ≠ 378 ∧ 373 ≠ 71 + n ∧ 373 ≠ 52 ∧ 373 ≠ 377 ∧ ((373 ≠ 371 ∧ 373 ≠ 372 ∧ 373 ≠ 373 ∧ 373 ≠ 374 ∧ 373 ≠ 375 ∧ 373 ≠ 376) ∨ j ≠ n) ∧ ((373 ≠ 379 ∧ 373 ≠ 380) ∨ j < td - 1) by omega))
                exact ih τ2347 h2347 ⟨aup_trans O0.1 O2347.1, O2347.2.1, fun k T j hk (hC : k ≠ 68 ∧ k ≠ 69 ∧ (k < 71 ∨ 380 < k) ∧ (k ≠ 52 ∨ j < 26 ∨ 30 < j)) => (((O2347.2.2 k T j (O0.1 _ _ hk) (show k ≠ 68 ∧ k ≠ 69 ∧ k ≠ 378 ∧ k ≠ 71 + n ∧ ((k ≠ 371 ∧ k ≠ 372 ∧ k ≠ 373 ∧ k ≠ 374 ∧ k ≠ 375 ∧ k ≠ 376) ∨ j ≠ n) ∧ (k ≠ 52 ∨ j ≠ 26) by omega)).trans (ho2343 k j (by omega)))).trans (O0.2.2 k T j hk hC)⟩ (n + 1) ((td - 1)) (dn) _ ⟨⟨_, s26, by omega⟩, ⟨_, hv2401, by omega⟩, ⟨_, hv2403, by omega⟩, by omega, by omega, by omega, G2, En⟩ (by omega)
            ·
              refine y_cF (c := .ne) (off := 23) (len := 3) (r := (0, 0, 0, 0)) (by decide +kernel) (acmpF (c := .ne) (by show _ = _; omega)) ?_
              refine y_same (i := .aload_n 0) (len := 1) (r := (0, 0, 0, 0)) (pc' := 145) (ls' := [some (.inl (some 52)), some (zi xv), some (zi y2352)]) (st' := [.inl (some 52)]) (by decide +kernel) (fun k q => by cases q) rfl ?_
              refine y_get (j := 58) (len := 3) (r := (12, 22, 2, 1350)) (by decide +kernel) O2347.2.1 (t52 O2347.2.1) at52 rfl rfl (g_r52 (f := 22) (T2 := 377) O2347.2.1 rfl (by decide)).1 ?_
              refine y_same (i := .aload_n 0) (len := 1) (r := (0, 0, 0, 0)) (pc' := 149) (ls' := [some (.inl (some 52)), some (zi xv), some (zi y2352)]) (st' := [.inl (some 52), .inl (some 377)]) (by decide +kernel) (fun k q => by cases q) rfl ?_
              have hv2404 := (ho2343 52 29 (Or.inr (by omega))).trans hd
              have hv2405 := (O2347.2.2 52 52 29 (t52 hg2343) (show 52 ≠ 68 ∧ 52 ≠ 69 ∧ 52 ≠ 378 ∧ 52 ≠ 71 + n ∧ ((52 ≠ 371 ∧ 52 ≠ 372 ∧ 52 ≠ 373 ∧ 52 ≠ 374 ∧ 52 ≠ 375 ∧ 52 ≠ 376) ∨ 29 ≠ n) ∧ (52 ≠ 52 ∨ 29 ≠ 26) by omega)).trans hv2404
              refine y_get (j := 385) (len := 3) (r := (12, 29, 0, 1357)) (by decide +kernel) O2347.2.1 (t52 O2347.2.1) at52 rfl rfl hv2405 ?_
              refine y_same (i := .iload_n 2) (len := 1) (r := (0, 0, 0, 0)) (pc' := 153) (ls' := [some (.inl (some 52)), some (zi xv), some (zi y2352)]) (st' := [zi y2352, zi xd, .inl (some 377)]) (by decide +kernel) (fun k q => by cases q) rfl ?_
              refine y_ias (i := dn) (len := 1) (r := (0, 0, 0, 0)) (by decide +kernel) O2347.2.1 (tu377 O2347.2.1) at377 rfl (by omega) (by omega) (sr1 (by omega)) (by omega) (by omega) (fun h2406 hg2406 hl2406 hs2406 ho2406 => ?_)
              refine y_same (i := .aload_n 0) (len := 1) (r := (0, 0, 0, 0)) (pc' := 155) (ls' := [some (.inl (some 52)), some (zi xv), some (zi y2352)]) (st' := [.inl (some 52)]) (by decide +kernel) (fun k q => by cases q) rfl ?_
              refine y_same (i := .dup) (len := 1) (r := (0, 0, 0, 0)) (pc' := 156) (ls' := [some (.inl (some 52)), some (zi xv), some (zi y2352)]) (st' := [.inl (some 52), .inl (some 52)]) (by decide +kernel) (fun k q => by cases q) rfl ?_
              have hv2407 := (ho2406 52 29 (Or.inl (by omega))).trans hv2405
              refine y_get (j := 385) (len := 3) (r := (12, 29, 0, 1357)) (by decide +kernel) hg2406 (t52 hg2406) at52 rfl rfl hv2407 ?_
              refine y_ic (c := 1) (len := 1) (r := (0, 0, 0, 0)) (by decide +kernel) (by decide) (fun y2408 hy2408 => ?_)
              refine y_add (len := 1) (r := (0, 0, 0, 0)) (by decide +kernel) (by omega) (by omega) (fun y2409 hy2409 => ?_)
              refine y_put (j := 385) (lo := 0) (hi := 300) (len := 3) (r := (12, 29, 0, 1357)) (by decide +kernel) hg2406 (t52 hg2406) at52 rfl rfl (by decide) rfl (by omega) (by omega) rfl (fun h2410 hg2410 hl2410 hs2410 ho2410 => ?_)
              have ho2410 : hO 52 29 h2406 h2410 := ho2410
              have hs2410 : hsl h2410 52 29 = some (zi y2409) := hs2410
              refine y_same (i := .aload_n 0) (len := 1) (r := (0, 0, 0, 0)) (pc' := 165) (ls' := [some (.inl (some 52)), some (zi xv), some (zi y2352)]) (st' := [.inl (some 52)]) (by decide +kernel) (fun k q => by cases q) rfl ?_
              refine y_get (j := 46) (len := 3) (r := (12, 18, 2, 1346)) (by decide +kernel) hg2410 (t52 hg2410) at52 rfl rfl (g_r52 (f := 18) (T2 := 373) hg2410 rfl (by decide)).1 ?_
              refine y_same (i := .iload_n 2) (len := 1) (r := (0, 0, 0, 0)) (pc' := 169) (ls' := [some (.inl (some 52)), some (zi xv), some (zi y2352)]) (st' := [zi y2352, .inl (some 373)]) (by decide +kernel) (fun k q => by cases q) rfl ?_
              have hv2411 := (ho2406 373 n (Or.inl (by omega))).trans hv2354
              have hv2412 := (ho2410 373 n (Or.inl (by omega))).trans hv2411
              refine y_ial (i := n) (len := 1) (r := (0, 0, 0, 0)) (by decide +kernel) hg2410 (tu373 hg2410) at373 (by omega) hv2412 ?_
              refine y_ic (c := 2) (len := 1) (r := (0, 0, 0, 0)) (by decide +kernel) (by decide) (fun y2413 hy2413 => ?_)
              rcases Decidable.em (v2353.toInt > y2413.toInt) with q2414 | q2414
              ·
                refine y_cT (c := .gt) (off := 6) (pc' := 177) (len := 3) (r := (0, 0, 0, 0)) (by decide +kernel) (acmpT (c := .gt) (by show _ < _; omega)) (by decide +kernel) ?_
                refine y_same (i := .aload_n 0) (len := 1) (r := (0, 0, 0, 0)) (pc' := 178) (ls' := [some (.inl (some 52)), some (zi xv), some (zi y2352)]) (st' := [.inl (some 52)]) (by decide +kernel) (fun k q => by cases q) rfl ?_
                refine y_get (j := 46) (len := 3) (r := (12, 18, 2, 1346)) (by decide +kernel) hg2410 (t52 hg2410) at52 rfl rfl (g_r52 (f := 18) (T2 := 373) hg2410 rfl (by decide)).1 ?_
                refine y_same (i := .iload_n 2) (len := 1) (r := (0, 0, 0, 0)) (pc' := 182) (ls' := [some (.inl (some 52)), some (zi xv), some (zi y2352)]) (st' := [zi y2352, .inl (some 373)]) (by decide +kernel) (fun k q => by cases q) rfl ?_
                refine y_ial (i := n) (len := 1) (r := (0, 0, 0, 0)) (by decide +kernel) hg2410 (tu373 hg2410) at373 (by omega) hv2412 ?_
                refine y_bi (c := 6) (len := 2) (r := (0, 0, 0, 0)) (by decide +kernel) (by decide) (fun y2415 hy2415 => ?_)
                rcases Decidable.em (v2353.toInt = y2415.toInt) with q2416 | q2416
                ·
                  refine y_cT (c := .eq) (off := 14) (pc' := 199) (len := 3) (r := (0, 0, 0, 0)) (by decide +kernel) (acmpT (c := .eq) (by show _ = _; omega)) (by decide +kernel) ?_
                  refine y_same (i := .aload_n 0) (len := 1) (r := (0, 0, 0, 0)) (pc' := 200) (ls' := [some (.inl (some 52)), some (zi xv), some (zi y2352)]) (st' := [.inl (some 52)]) (by decide +kernel) (fun k q => by cases q) rfl ?_
                  refine y_same (i := .iload_n 2) (len := 1) (r := (0, 0, 0, 0)) (pc' := 201) (ls' := [some (.inl (some 52)), some (zi xv), some (zi y2352)]) (st' := [zi y2352, .inl (some 52)]) (by decide +kernel) (fun k q => by cases q) rfl ?_
                  refine y_ic (c := 1) (len := 1) (r := (0, 0, 0, 0)) (by decide +kernel) (by decide) (fun y2417 hy2417 => ?_)
                  have hv2419 := (O2347.2.2 52 52 30 (t52 hg2343) (show 52 ≠ 68 ∧ 52 ≠ 69 ∧ 52 ≠ 378 ∧ 52 ≠ 71 + n ∧ ((52 ≠ 371 ∧ 52 ≠ 372 ∧ 52 ≠ 373 ∧ 52 ≠ 374 ∧ 52 ≠ 375 ∧ 52 ≠ 376) ∨ 30 ≠ n) ∧ (52 ≠ 52 ∨ 30 ≠ 26) by omega)).trans hs2343
                  have hv2420 := (ho2406 52 30 (Or.inl (by omega))).trans hv2419
                  have hv2421 := (ho2410 52 30 (Or.inr (by omega))).trans hv2420
                  refine y_cV (i := .invokevirtual 394) (len := 3) (r := (0, 237, 12, 1632)) (nL := 3) (k := 0) (n := 3) (hs := []) (args := [.inl (some 52), zi y2352, zi y2417]) (rest := []) (l0 := [some (.inl (some 52)), some (zi y2352), some (zi y2417)]) (by decide +kernel) (Or.inr (Or.inl ⟨_, rfl⟩)) rfl rfl rfl rfl (Nat.le_of_ble_eq_true rfl) (z52 hg2410) rfl (e_waits (td := (td - 1)) hg2410 (by omega) (by omega) (by omega) (by omega) hv2421 (by omega) (by omega)) (fun h2418 hR2418 => ?_)
                  obtain ⟨O2418, a2418, b2418, x2418, c2418, e2418⟩ := hR2418
                  refine y_same (i := .aload_n 0) (len := 1) (r := (0, 0, 0, 0)) (pc' := 206) (ls' := [some (.inl (some 52)), some (zi xv), some (zi y2352)]) (st' := [.inl (some 52)]) (by decide +kernel) (fun k q => by cases q) rfl ?_
                  refine y_same (i := .iload_n 2) (len := 1) (r := (0, 0, 0, 0)) (pc' := 207) (ls' := [some (.inl (some 52)), some (zi xv), some (zi y2352)]) (st' := [zi y2352, .inl (some 52)]) (by decide +kernel) (fun k q => by cases q) rfl ?_
                  refine y_ic (c := 0) (len := 1) (r := (0, 0, 0, 0)) (by decide +kernel) (by decide) (fun y2422 hy2422 => ?_)
                  refine y_cV (i := .invokevirtual 394) (len := 3) (r := (0, 237, 12, 1632)) (nL := 3) (k := 0) (n := 3) (hs := []) (args := [.inl (some 52), zi y2352, zi y2422]) (rest := []) (l0 := [some (.inl (some 52)), some (zi y2352), some (zi y2422)]) (by decide +kernel) (Or.inr (Or.inl ⟨_, rfl⟩)) rfl rfl rfl rfl (Nat.le_of_ble_eq_true rfl) (z52 O2418.2.1) rfl (e_waits (td := ((td - 1) + 1)) O2418.2.1 (by omega) (by omega) (by omega) (by omega) c2418 (by omega) (by omega)) (fun h2423 hR2423 => ?_)
                  obtain ⟨O2423, a2423, b2423, x2423, c2423, e2423⟩ := hR2423
                  refine y_goto (off := (-154)) (pc' := 57) (len := 3) (r := (0, 0, 0, 0)) (by decide +kernel) (by decide +kernel) ?_
                  have hv2424 := (ho2406 52 26 (Or.inl (by omega))).trans s26
                  have hv2425 := (ho2410 52 26 (Or.inr (by omega))).trans hv2424
                  have hv2426 := (O2418.2.2 52 52 26 (t52 hg2410) (show ((52 ≠ 379 ∧ 52 ≠ 380) ∨ 26 ≠ (td - 1)) ∧ (52 ≠ 52 ∨ 26 ≠ 30) by omega)).trans hv2425
                  have hv2427 := (O2423.2.2 52 52 26 (t52 O2418.2.1) (show ((52 ≠ 379 ∧ 52 ≠ 380) ∨ 26 ≠ ((td - 1) + 1)) ∧ (52 ≠ 52 ∨ 26 ≠ 30) by omega)).trans hv2426
                  have hv2428 := (O2418.2.2 52 52 29 (t52 hg2410) (show ((52 ≠ 379 ∧ 52 ≠ 380) ∨ 29 ≠ (td - 1)) ∧ (52 ≠ 52 ∨ 29 ≠ 30) by omega)).trans hs2410
                  have hv2429 := (O2423.2.2 52 52 29 (t52 O2418.2.1) (show ((52 ≠ 379 ∧ 52 ≠ 380) ∨ 29 ≠ ((td - 1) + 1)) ∧ (52 ≠ 52 ∨ 29 ≠ 30) by omega)).trans hv2428
                  have hv2430 := (O2418.2.2 373 373 n (tu373 hg2410) (show ((373 ≠ 379 ∧ 373 ≠ 380) ∨ n ≠ (td - 1)) ∧ (373 ≠ 52 ∨ n ≠ 30) by omega)).trans hv2412
                  have hv2431 := (O2423.2.2 373 373 n (tu373 O2418.2.1) (show ((373 ≠ 379 ∧ 373 ≠ 380) ∨ n ≠ ((td - 1) + 1)) ∧ (373 ≠ 52 ∨ n ≠ 30) by omega)).trans hv2430
                  have hv2432 := (O2423.2.2 379 379 (td - 1) (tu379 O2418.2.1) (show ((379 ≠ 379 ∧ 379 ≠ 380) ∨ (td - 1) ≠ ((td - 1) + 1)) ∧ (379 ≠ 52 ∨ (td - 1) ≠ 30) by omega)).trans a2418
                  have F : oF (fun k j => k ≠ 68 ∧ k ≠ 69 ∧ k ≠ 378 ∧ k ≠ 71 + n ∧ k ≠ 52 ∧ k ≠ 377 ∧ ((k ≠ 371 ∧ k ≠ 372 ∧ k ≠ 373 ∧ k ≠ 374 ∧ k ≠ 375 ∧ k ≠ 376) ∨ j ≠ n) ∧ ((k ≠ 379 ∧ k ≠ 380) ∨ j < td - 1)) τ h τ2347 h2423 := ⟨(aup_trans (aup_trans O2347.1 O2418.1) O2423.1), O2423.2.1, fun k T j hk (hC : k ≠ 68 ∧ k ≠ 69 ∧ k ≠ 378 ∧ k ≠ 71 + n ∧ k ≠ 52 ∧ k ≠ 377 ∧ ((k ≠ 371 ∧ k ≠ 372 ∧ k ≠ 373 ∧ k ≠ 374 ∧ k ≠ 375 ∧ k ≠ 376) ∨ j ≠ n) ∧ ((k ≠ 379 ∧ k ≠ 380) ∨ j < td - 1)) => ((O2423.2.2 k T j (O2418.1 _ _ (O2347.1 _ _ hk)) (show ((k ≠ 379 ∧ k ≠ 380) ∨ j ≠ ((td - 1) + 1)) ∧ (k ≠ 52 ∨ j ≠ 30) by omega)).trans ((O2418.2.2 k T j (O2347.1 _ _ hk) (show ((k ≠ 379 ∧ k ≠ 380) ∨ j ≠ (td - 1)) ∧ (k ≠ 52 ∨ j ≠ 30) by omega)).trans ((ho2410 k j (by omega)).trans ((ho2406 k j (by omega)).trans ((O2347.2.2 k T j hk (show k ≠ 68 ∧ k ≠ 69 ∧ k ≠ 378 ∧ k ≠ 71 + n ∧ ((k ≠ 371 ∧ k ≠ 372 ∧ k ≠ 373 ∧ k ≠ 374 ∧ k ≠ 375 ∧ k ≠ 376) ∨ j ≠ n) ∧ (k ≠ 52 ∨ j ≠ 26) by omega)).trans (ho2343 k j (by omega)))))))⟩
                  have G2 : Gv h2423 (n + 1) := Gv_up2 G1 O2347.2.1 (by omega) ⟨(aup_trans O2418.1 O2423.1), O2423.2.1, fun k T j hk (hC : k ≠ 377 ∧ k ≠ 379 ∧ k ≠ 380 ∧ k ≠ 52) => ((O2423.2.2 k T j (O2418.1 _ _ hk) (show ((k ≠ 379 ∧ k ≠ 380) ∨ j ≠ ((td - 1) + 1)) ∧ (k ≠ 52 ∨ j ≠ 30) by omega)).trans ((O2418.2.2 k T j hk (show ((k ≠ 379 ∧ k ≠ 380) ∨ j ≠ (td - 1)) ∧ (k ≠ 52 ∨ j ≠ 30) by omega)).trans ((ho2410 k j (by omega)).trans (ho2406 k j (by omega)))))⟩
                  have En : ∀ i, i < td - 1 → ent h2423 (n + 1) i := fun i hi => ent_up (hent i (by omega)) (by omega) (F.2.2 379 379 i (tu379 hg) (show 379 ≠ 68 ∧ 379 ≠ 69 ∧ 379 ≠ 378 ∧ 379 ≠ 71 + n ∧ 379 ≠ 52 ∧ 379 ≠ 377 ∧ ((379 ≠ 371 ∧ 379 ≠ 372 ∧ 379 ≠ 373 ∧ 379 ≠ 374 ∧ 379 ≠ 375 ∧ 379 ≠ 376) ∨ i ≠ n) ∧ ((379 ≠ 379 ∧ 379 ≠ 380) ∨ i < td - 1) by omega)) (fun j hj => F.2.2 373 373 j (tu373 hg) (show 373 ≠ 68 ∧ 373 ≠ 69 ∧ 373 ≠ 378 ∧ 373 ≠ 71 + n ∧ 373 ≠ 52 ∧ 373 ≠ 377 ∧ ((373 ≠ 371 ∧ 373 ≠ 372 ∧ 373 ≠ 373 ∧ 373 ≠ 374 ∧ 373 ≠ 375 ∧ 373 ≠ 376) ∨ j ≠ n) ∧ ((373 ≠ 379 ∧ 373 ≠ 380) ∨ j < td - 1) by omega))
                  have En2 : ∀ i, i < (((td - 1) + 1) + 1) → ent h2423 (n + 1) i := fun i hi => by
                    rcases (show i < td - 1 ∨ i = (td - 1) ∨ i = ((td - 1) + 1) by omega) with q | rfl | rfl
                    · exact En i q
                    · exact ent_new hv2432 (by omega) hv2431 (by omega) (by omega)
                    · exact ent_new a2423 (by omega) hv2431 (by omega) (by omega)
                  exact ih τ2347 h2423 ⟨aup_trans O0.1 (aup_trans (aup_trans O2347.1 O2418.1) O2423.1), O2423.2.1, fun k T j hk (hC : k ≠ 68 ∧ k ≠ 69 ∧ (k < 71 ∨ 380 < k) ∧ (k ≠ 52 ∨ j < 26 ∨ 30 < j)) => (((O2423.2.2 k T j (O2418.1 _ _ (O2347.1 _ _ (O0.1 _ _ hk))) (show ((k ≠ 379 ∧ k ≠ 380) ∨ j ≠ ((td - 1) + 1)) ∧ (k ≠ 52 ∨ j ≠ 30) by omega)).trans ((O2418.2.2 k T j (O2347.1 _ _ (O0.1 _ _ hk)) (show ((k ≠ 379 ∧ k ≠ 380) ∨ j ≠ (td - 1)) ∧ (k ≠ 52 ∨ j ≠ 30) by omega)).trans ((ho2410 k j (by omega)).trans ((ho2406 k j (by omega)).trans ((O2347.2.2 k T j (O0.1 _ _ hk) (show k ≠ 68 ∧ k ≠ 69 ∧ k ≠ 378 ∧ k ≠ 71 + n ∧ ((k ≠ 371 ∧ k ≠ 372 ∧ k ≠ 373 ∧ k ≠ 374 ∧ k ≠ 375 ∧ k ≠ 376) ∨ j ≠ n) ∧ (k ≠ 52 ∨ j ≠ 26) by omega)).trans (ho2343 k j (by omega)))))))).trans (O0.2.2 k T j hk hC)⟩ (n + 1) ((((td - 1) + 1) + 1)) ((dn + 1)) _ ⟨⟨_, hv2427, by omega⟩, ⟨_, c2423, by omega⟩, ⟨_, hv2429, by omega⟩, by omega, by omega, by omega, G2, En2⟩ (by omega)
                ·
                  refine y_cF (c := .eq) (off := 14) (len := 3) (r := (0, 0, 0, 0)) (by decide +kernel) (acmpF (c := .eq) (by show ¬ (_ = _); omega)) ?_
                  refine y_same (i := .aload_n 0) (len := 1) (r := (0, 0, 0, 0)) (pc' := 189) (ls' := [some (.inl (some 52)), some (zi xv), some (zi y2352)]) (st' := [.inl (some 52)]) (by decide +kernel) (fun k q => by cases q) rfl ?_
                  refine y_get (j := 46) (len := 3) (r := (12, 18, 2, 1346)) (by decide +kernel) hg2410 (t52 hg2410) at52 rfl rfl (g_r52 (f := 18) (T2 := 373) hg2410 rfl (by decide)).1 ?_
                  refine y_same (i := .iload_n 2) (len := 1) (r := (0, 0, 0, 0)) (pc' := 193) (ls' := [some (.inl (some 52)), some (zi xv), some (zi y2352)]) (st' := [zi y2352, .inl (some 373)]) (by decide +kernel) (fun k q => by cases q) rfl ?_
                  refine y_ial (i := n) (len := 1) (r := (0, 0, 0, 0)) (by decide +kernel) hg2410 (tu373 hg2410) at373 (by omega) hv2412 ?_
                  refine y_bi (c := 7) (len := 2) (r := (0, 0, 0, 0)) (by decide +kernel) (by decide) (fun y2433 hy2433 => ?_)
                  rcases Decidable.em (v2353.toInt ≠ y2433.toInt) with q2434 | q2434
                  ·
                    refine y_cT (c := .ne) (off := 9) (pc' := 205) (len := 3) (r := (0, 0, 0, 0)) (by decide +kernel) (acmpT (c := .ne) (by show ¬ (_ = _); omega)) (by decide +kernel) ?_
                    refine y_same (i := .aload_n 0) (len := 1) (r := (0, 0, 0, 0)) (pc' := 206) (ls' := [some (.inl (some 52)), some (zi xv), some (zi y2352)]) (st' := [.inl (some 52)]) (by decide +kernel) (fun k q => by cases q) rfl ?_
                    refine y_same (i := .iload_n 2) (len := 1) (r := (0, 0, 0, 0)) (pc' := 207) (ls' := [some (.inl (some 52)), some (zi xv), some (zi y2352)]) (st' := [zi y2352, .inl (some 52)]) (by decide +kernel) (fun k q => by cases q) rfl ?_
                    refine y_ic (c := 0) (len := 1) (r := (0, 0, 0, 0)) (by decide +kernel) (by decide) (fun y2435 hy2435 => ?_)
                    have hv2437 := (O2347.2.2 52 52 30 (t52 hg2343) (show 52 ≠ 68 ∧ 52 ≠ 69 ∧ 52 ≠ 378 ∧ 52 ≠ 71 + n ∧ ((52 ≠ 371 ∧ 52 ≠ 372 ∧ 52 ≠ 373 ∧ 52 ≠ 374 ∧ 52 ≠ 375 ∧ 52 ≠ 376) ∨ 30 ≠ n) ∧ (52 ≠ 52 ∨ 30 ≠ 26) by omega)).trans hs2343
                    have hv2438 := (ho2406 52 30 (Or.inl (by omega))).trans hv2437
                    have hv2439 := (ho2410 52 30 (Or.inr (by omega))).trans hv2438
                    refine y_cV (i := .invokevirtual 394) (len := 3) (r := (0, 237, 12, 1632)) (nL := 3) (k := 0) (n := 3) (hs := []) (args := [.inl (some 52), zi y2352, zi y2435]) (rest := []) (l0 := [some (.inl (some 52)), some (zi y2352), some (zi y2435)]) (by decide +kernel) (Or.inr (Or.inl ⟨_, rfl⟩)) rfl rfl rfl rfl (Nat.le_of_ble_eq_true rfl) (z52 hg2410) rfl (e_waits (td := (td - 1)) hg2410 (by omega) (by omega) (by omega) (by omega) hv2439 (by omega) (by omega)) (fun h2436 hR2436 => ?_)
                    obtain ⟨O2436, a2436, b2436, x2436, c2436, e2436⟩ := hR2436
                    refine y_goto (off := (-154)) (pc' := 57) (len := 3) (r := (0, 0, 0, 0)) (by decide +kernel) (by decide +kernel) ?_
                    have hv2440 := (ho2406 52 26 (Or.inl (by omega))).trans s26
                    have hv2441 := (ho2410 52 26 (Or.inr (by omega))).trans hv2440
                    have hv2442 := (O2436.2.2 52 52 26 (t52 hg2410) (show ((52 ≠ 379 ∧ 52 ≠ 380) ∨ 26 ≠ (td - 1)) ∧ (52 ≠ 52 ∨ 26 ≠ 30) by omega)).trans hv2441
                    have hv2443 := (O2436.2.2 52 52 29 (t52 hg2410) (show ((52 ≠ 379 ∧ 52 ≠ 380) ∨ 29 ≠ (td - 1)) ∧ (52 ≠ 52 ∨ 29 ≠ 30) by omega)).trans hs2410
                    have hv2444 := (O2436.2.2 373 373 n (tu373 hg2410) (show ((373 ≠ 379 ∧ 373 ≠ 380) ∨ n ≠ (td - 1)) ∧ (373 ≠ 52 ∨ n ≠ 30) by omega)).trans hv2412
                    have F : oF (fun k j => k ≠ 68 ∧ k ≠ 69 ∧ k ≠ 378 ∧ k ≠ 71 + n ∧ k ≠ 52 ∧ k ≠ 377 ∧ ((k ≠ 371 ∧ k ≠ 372 ∧ k ≠ 373 ∧ k ≠ 374 ∧ k ≠ 375 ∧ k ≠ 376) ∨ j ≠ n) ∧ ((k ≠ 379 ∧ k ≠ 380) ∨ j < td - 1)) τ h τ2347 h2436 := ⟨(aup_trans O2347.1 O2436.1), O2436.2.1, fun k T j hk (hC : k ≠ 68 ∧ k ≠ 69 ∧ k ≠ 378 ∧ k ≠ 71 + n ∧ k ≠ 52 ∧ k ≠ 377 ∧ ((k ≠ 371 ∧ k ≠ 372 ∧ k ≠ 373 ∧ k ≠ 374 ∧ k ≠ 375 ∧ k ≠ 376) ∨ j ≠ n) ∧ ((k ≠ 379 ∧ k ≠ 380) ∨ j < td - 1)) => ((O2436.2.2 k T j (O2347.1 _ _ hk) (show ((k ≠ 379 ∧ k ≠ 380) ∨ j ≠ (td - 1)) ∧ (k ≠ 52 ∨ j ≠ 30) by omega)).trans ((ho2410 k j (by omega)).trans ((ho2406 k j (by omega)).trans ((O2347.2.2 k T j hk (show k ≠ 68 ∧ k ≠ 69 ∧ k ≠ 378 ∧ k ≠ 71 + n ∧ ((k ≠ 371 ∧ k ≠ 372 ∧ k ≠ 373 ∧ k ≠ 374 ∧ k ≠ 375 ∧ k ≠ 376) ∨ j ≠ n) ∧ (k ≠ 52 ∨ j ≠ 26) by omega)).trans (ho2343 k j (by omega))))))⟩
                    have G2 : Gv h2436 (n + 1) := Gv_up2 G1 O2347.2.1 (by omega) ⟨O2436.1, O2436.2.1, fun k T j hk (hC : k ≠ 377 ∧ k ≠ 379 ∧ k ≠ 380 ∧ k ≠ 52) => ((O2436.2.2 k T j hk (show ((k ≠ 379 ∧ k ≠ 380) ∨ j ≠ (td - 1)) ∧ (k ≠ 52 ∨ j ≠ 30) by omega)).trans ((ho2410 k j (by omega)).trans (ho2406 k j (by omega))))⟩
                    have En : ∀ i, i < td - 1 → ent h2436 (n + 1) i := fun i hi => ent_up (hent i (by omega)) (by omega) (F.2.2 379 379 i (tu379 hg) (show 379 ≠ 68 ∧ 379 ≠ 69 ∧ 379 ≠ 378 ∧ 379 ≠ 71 + n ∧ 379 ≠ 52 ∧ 379 ≠ 377 ∧ ((379 ≠ 371 ∧ 379 ≠ 372 ∧ 379 ≠ 373 ∧ 379 ≠ 374 ∧ 379 ≠ 375 ∧ 379 ≠ 376) ∨ i ≠ n) ∧ ((379 ≠ 379 ∧ 379 ≠ 380) ∨ i < td - 1) by omega)) (fun j hj => F.2.2 373 373 j (tu373 hg) (show 373 ≠ 68 ∧ 373 ≠ 69 ∧ 373 ≠ 378 ∧ 373 ≠ 71 + n ∧ 373 ≠ 52 ∧ 373 ≠ 377 ∧ ((373 ≠ 371 ∧ 373 ≠ 372 ∧ 373 ≠ 373 ∧ 373 ≠ 374 ∧ 373 ≠ 375 ∧ 373 ≠ 376) ∨ j ≠ n) ∧ ((373 ≠ 379 ∧ 373 ≠ 380) ∨ j < td - 1) by omega))
                    have En2 : ∀ i, i < ((td - 1) + 1) → ent h2436 (n + 1) i := fun i hi => by
                      rcases (show i < td - 1 ∨ i = (td - 1) by omega) with q | rfl
                      · exact En i q
                      · exact ent_new a2436 (by omega) hv2444 (by omega) (by omega)
                    exact ih τ2347 h2436 ⟨aup_trans O0.1 (aup_trans O2347.1 O2436.1), O2436.2.1, fun k T j hk (hC : k ≠ 68 ∧ k ≠ 69 ∧ (k < 71 ∨ 380 < k) ∧ (k ≠ 52 ∨ j < 26 ∨ 30 < j)) => (((O2436.2.2 k T j (O2347.1 _ _ (O0.1 _ _ hk)) (show ((k ≠ 379 ∧ k ≠ 380) ∨ j ≠ (td - 1)) ∧ (k ≠ 52 ∨ j ≠ 30) by omega)).trans ((ho2410 k j (by omega)).trans ((ho2406 k j (by omega)).trans ((O2347.2.2 k T j (O0.1 _ _ hk) (show k ≠ 68 ∧ k ≠ 69 ∧ k ≠ 378 ∧ k ≠ 71 + n ∧ ((k ≠ 371 ∧ k ≠ 372 ∧ k ≠ 373 ∧ k ≠ 374 ∧ k ≠ 375 ∧ k ≠ 376) ∨ j ≠ n) ∧ (k ≠ 52 ∨ j ≠ 26) by omega)).trans (ho2343 k j (by omega))))))).trans (O0.2.2 k T j hk hC)⟩ (n + 1) (((td - 1) + 1)) ((dn + 1)) _ ⟨⟨_, hv2442, by omega⟩, ⟨_, c2436, by omega⟩, ⟨_, hv2443, by omega⟩, by omega, by omega, by omega, G2, En2⟩ (by omega)
                  ·
                    refine y_cF (c := .ne) (off := 9) (len := 3) (r := (0, 0, 0, 0)) (by decide +kernel) (acmpF (c := .ne) (by show _ = _; omega)) ?_
                    refine y_same (i := .aload_n 0) (len := 1) (r := (0, 0, 0, 0)) (pc' := 200) (ls' := [some (.inl (some 52)), some (zi xv), some (zi y2352)]) (st' := [.inl (some 52)]) (by decide +kernel) (fun k q => by cases q) rfl ?_
                    refine y_same (i := .iload_n 2) (len := 1) (r := (0, 0, 0, 0)) (pc' := 201) (ls' := [some (.inl (some 52)), some (zi xv), some (zi y2352)]) (st' := [zi y2352, .inl (some 52)]) (by decide +kernel) (fun k q => by cases q) rfl ?_
                    refine y_ic (c := 1) (len := 1) (r := (0, 0, 0, 0)) (by decide +kernel) (by decide) (fun y2445 hy2445 => ?_)
                    have hv2447 := (O2347.2.2 52 52 30 (t52 hg2343) (show 52 ≠ 68 ∧ 52 ≠ 69 ∧ 52 ≠ 378 ∧ 52 ≠ 71 + n ∧ ((52 ≠ 371 ∧ 52 ≠ 372 ∧ 52 ≠ 373 ∧ 52 ≠ 374 ∧ 52 ≠ 375 ∧ 52 ≠ 376) ∨ 30 ≠ n) ∧ (52 ≠ 52 ∨ 30 ≠ 26) by omega)).trans hs2343
                    have hv2448 := (ho2406 52 30 (Or.inl (by omega))).trans hv2447
                    have hv2449 := (ho2410 52 30 (Or.inr (by omega))).trans hv2448
                    refine y_cV (i := .invokevirtual 394) (len := 3) (r := (0, 237, 12, 1632)) (nL := 3) (k := 0) (n := 3) (hs := []) (args := [.inl (some 52), zi y2352, zi y2445]) (rest := []) (l0 := [some (.inl (some 52)), some (zi y2352), some (zi y2445)]) (by decide +kernel) (Or.inr (Or.inl ⟨_, rfl⟩)) rfl rfl rfl rfl (Nat.le_of_ble_eq_true rfl) (z52 hg2410) rfl (e_waits (td := (td - 1)) hg2410 (by omega) (by omega) (by omega) (by omega) hv2449 (by omega) (by omega)) (fun h2446 hR2446 => ?_)
                    obtain ⟨O2446, a2446, b2446, x2446, c2446, e2446⟩ := hR2446
                    refine y_same (i := .aload_n 0) (len := 1) (r := (0, 0, 0, 0)) (pc' := 206) (ls' := [some (.inl (some 52)), some (zi xv), some (zi y2352)]) (st' := [.inl (some 52)]) (by decide +kernel) (fun k q => by cases q) rfl ?_
                    refine y_same (i := .iload_n 2) (len := 1) (r := (0, 0, 0, 0)) (pc' := 207) (ls' := [some (.inl (some 52)), some (zi xv), some (zi y2352)]) (st' := [zi y2352, .inl (some 52)]) (by decide +kernel) (fun k q => by cases q) rfl ?_
                    refine y_ic (c := 0) (len := 1) (r := (0, 0, 0, 0)) (by decide +kernel) (by decide) (fun y2450 hy2450 => ?_)
                    refine y_cV (i := .invokevirtual 394) (len := 3) (r := (0, 237, 12, 1632)) (nL := 3) (k := 0) (n := 3) (hs := []) (args := [.inl (some 52), zi y2352, zi y2450]) (rest := []) (l0 := [some (.inl (some 52)), some (zi y2352), some (zi y2450)]) (by decide +kernel) (Or.inr (Or.inl ⟨_, rfl⟩)) rfl rfl rfl rfl (Nat.le_of_ble_eq_true rfl) (z52 O2446.2.1) rfl (e_waits (td := ((td - 1) + 1)) O2446.2.1 (by omega) (by omega) (by omega) (by omega) c2446 (by omega) (by omega)) (fun h2451 hR2451 => ?_)
                    obtain ⟨O2451, a2451, b2451, x2451, c2451, e2451⟩ := hR2451
                    refine y_goto (off := (-154)) (pc' := 57) (len := 3) (r := (0, 0, 0, 0)) (by decide +kernel) (by decide +kernel) ?_
                    have hv2452 := (ho2406 52 26 (Or.inl (by omega))).trans s26
                    have hv2453 := (ho2410 52 26 (Or.inr (by omega))).trans hv2452
                    have hv2454 := (O2446.2.2 52 52 26 (t52 hg2410) (show ((52 ≠ 379 ∧ 52 ≠ 380) ∨ 26 ≠ (td - 1)) ∧ (52 ≠ 52 ∨ 26 ≠ 30) by omega)).trans hv2453
                    have hv2455 := (O2451.2.2 52 52 26 (t52 O2446.2.1) (show ((52 ≠ 379 ∧ 52 ≠ 380) ∨ 26 ≠ ((td - 1) + 1)) ∧ (52 ≠ 52 ∨ 26 ≠ 30) by omega)).trans hv2454
                    have hv2456 := (O2446.2.2 52 52 29 (t52 hg2410) (show ((52 ≠ 379 ∧ 52 ≠ 380) ∨ 29 ≠ (td - 1)) ∧ (52 ≠ 52 ∨ 29 ≠ 30) by omega)).trans hs2410
                    have hv2457 := (O2451.2.2 52 52 29 (t52 O2446.2.1) (show ((52 ≠ 379 ∧ 52 ≠ 380) ∨ 29 ≠ ((td - 1) + 1)) ∧ (52 ≠ 52 ∨ 29 ≠ 30) by omega)).trans hv2456
                    have hv2458 := (O2446.2.2 373 373 n (tu373 hg2410) (show ((373 ≠ 379 ∧ 373 ≠ 380) ∨ n ≠ (td - 1)) ∧ (373 ≠ 52 ∨ n ≠ 30) by omega)).trans hv2412
                    have hv2459 := (O2451.2.2 373 373 n (tu373 O2446.2.1) (show ((373 ≠ 379 ∧ 373 ≠ 380) ∨ n ≠ ((td - 1) + 1)) ∧ (373 ≠ 52 ∨ n ≠ 30) by omega)).trans hv2458
                    have hv2460 := (O2451.2.2 379 379 (td - 1) (tu379 O2446.2.1) (show ((379 ≠ 379 ∧ 379 ≠ 380) ∨ (td - 1) ≠ ((td - 1) + 1)) ∧ (379 ≠ 52 ∨ (td - 1) ≠ 30) by omega)).trans a2446
                    have F : oF (fun k j => k ≠ 68 ∧ k ≠ 69 ∧ k ≠ 378 ∧ k ≠ 71 + n ∧ k ≠ 52 ∧ k ≠ 377 ∧ ((k ≠ 371 ∧ k ≠ 372 ∧ k ≠ 373 ∧ k ≠ 374 ∧ k ≠ 375 ∧ k ≠ 376) ∨ j ≠ n) ∧ ((k ≠ 379 ∧ k ≠ 380) ∨ j < td - 1)) τ h τ2347 h2451 := ⟨(aup_trans (aup_trans O2347.1 O2446.1) O2451.1), O2451.2.1, fun k T j hk (hC : k ≠ 68 ∧ k ≠ 69 ∧ k ≠ 378 ∧ k ≠ 71 + n ∧ k ≠ 52 ∧ k ≠ 377 ∧ ((k ≠ 371 ∧ k ≠ 372 ∧ k ≠ 373 ∧ k ≠ 374 ∧ k ≠ 375 ∧ k ≠ 376) ∨ j ≠ n) ∧ ((k ≠ 379 ∧ k ≠ 380) ∨ j < td - 1)) => ((O2451.2.2 k T j (O2446.1 _ _ (O2347.1 _ _ hk)) (show ((k ≠ 379 ∧ k ≠ 380) ∨ j ≠ ((td - 1) + 1)) ∧ (k ≠ 52 ∨ j ≠ 30) by omega)).trans ((O2446.2.2 k T j (O2347.1 _ _ hk) (show ((k ≠ 379 ∧ k ≠ 380) ∨ j ≠ (td - 1)) ∧ (k ≠ 52 ∨ j ≠ 30) by omega)).trans ((ho2410 k j (by omega)).trans ((ho2406 k j (by omega)).trans ((O2347.2.2 k T j hk (show k ≠ 68 ∧ k ≠ 69 ∧ k ≠ 378 ∧ k ≠ 71 + n ∧ ((k ≠ 371 ∧ k ≠ 372 ∧ k ≠ 373 ∧ k ≠ 374 ∧ k ≠ 375 ∧ k ≠ 376) ∨ j ≠ n) ∧ (k ≠ 52 ∨ j ≠ 26) by omega)).trans (ho2343 k j (by omega)))))))⟩
                    have G2 : Gv h2451 (n + 1) := Gv_up2 G1 O2347.2.1 (by omega) ⟨(aup_trans O2446.1 O2451.1), O2451.2.1, fun k T j hk (hC : k ≠ 377 ∧ k ≠ 379 ∧ k ≠ 380 ∧ k ≠ 52) => ((O2451.2.2 k T j (O2446.1 _ _ hk) (show ((k ≠ 379 ∧ k ≠ 380) ∨ j ≠ ((td - 1) + 1)) ∧ (k ≠ 52 ∨ j ≠ 30) by omega)).trans ((O2446.2.2 k T j hk (show ((k ≠ 379 ∧ k ≠ 380) ∨ j ≠ (td - 1)) ∧ (k ≠ 52 ∨ j ≠ 30) by omega)).trans ((ho2410 k j (by omega)).trans (ho2406 k j (by omega)))))⟩
                    have En : ∀ i, i < td - 1 → ent h2451 (n + 1) i := fun i hi => ent_up (hent i (by omega)) (by omega) (F.2.2 379 379 i (tu379 hg) (show 379 ≠ 68 ∧ 379 ≠ 69 ∧ 379 ≠ 378 ∧ 379 ≠ 71 + n ∧ 379 ≠ 52 ∧ 379 ≠ 377 ∧ ((379 ≠ 371 ∧ 379 ≠ 372 ∧ 379 ≠ 373 ∧ 379 ≠ 374 ∧ 379 ≠ 375 ∧ 379 ≠ 376) ∨ i ≠ n) ∧ ((379 ≠ 379 ∧ 379 ≠ 380) ∨ i < td - 1) by omega)) (fun j hj => F.2.2 373 373 j (tu373 hg) (show 373 ≠ 68 ∧ 373 ≠ 69 ∧ 373 ≠ 378 ∧ 373 ≠ 71 + n ∧ 373 ≠ 52 ∧ 373 ≠ 377 ∧ ((373 ≠ 371 ∧ 373 ≠ 372 ∧ 373 ≠ 373 ∧ 373 ≠ 374 ∧ 373 ≠ 375 ∧ 373 ≠ 376) ∨ j ≠ n) ∧ ((373 ≠ 379 ∧ 373 ≠ 380) ∨ j < td - 1) by omega))
                    have En2 : ∀ i, i < (((td - 1) + 1) + 1) → ent h2451 (n + 1) i := fun i hi => by
                      rcases (show i < td - 1 ∨ i = (td - 1) ∨ i = ((td - 1) + 1) by omega) with q | rfl | rfl
                      · exact En i q
                      · exact ent_new hv2460 (by omega) hv2459 (by omega) (by omega)
                      · exact ent_new a2451 (by omega) hv2459 (by omega) (by omega)
                    exact ih τ2347 h2451 ⟨aup_trans O0.1 (aup_trans (aup_trans O2347.1 O2446.1) O2451.1), O2451.2.1, fun k T j hk (hC : k ≠ 68 ∧ k ≠ 69 ∧ (k < 71 ∨ 380 < k) ∧ (k ≠ 52 ∨ j < 26 ∨ 30 < j)) => (((O2451.2.2 k T j (O2446.1 _ _ (O2347.1 _ _ (O0.1 _ _ hk))) (show ((k ≠ 379 ∧ k ≠ 380) ∨ j ≠ ((td - 1) + 1)) ∧ (k ≠ 52 ∨ j ≠ 30) by omega)).trans ((O2446.2.2 k T j (O2347.1 _ _ (O0.1 _ _ hk)) (show ((k ≠ 379 ∧ k ≠ 380) ∨ j ≠ (td - 1)) ∧ (k ≠ 52 ∨ j ≠ 30) by omega)).trans ((ho2410 k j (by omega)).trans ((ho2406 k j (by omega)).trans ((O2347.2.2 k T j (O0.1 _ _ hk) (show k ≠ 68 ∧ k ≠ 69 ∧ k ≠ 378 ∧ k ≠ 71 + n ∧ ((k ≠ 371 ∧ k ≠ 372 ∧ k ≠ 373 ∧ k ≠ 374 ∧ k ≠ 375 ∧ k ≠ 376) ∨ j ≠ n) ∧ (k ≠ 52 ∨ j ≠ 26) by omega)).trans (ho2343 k j (by omega)))))))).trans (O0.2.2 k T j hk hC)⟩ (n + 1) ((((td - 1) + 1) + 1)) ((dn + 1)) _ ⟨⟨_, hv2455, by omega⟩, ⟨_, c2451, by omega⟩, ⟨_, hv2457, by omega⟩, by omega, by omega, by omega, G2, En2⟩ (by omega)
              ·
                refine y_cF (c := .gt) (off := 6) (len := 3) (r := (0, 0, 0, 0)) (by decide +kernel) (acmpF (c := .gt) (by show _ ≤ _; omega)) ?_
                refine y_goto (off := (-117)) (pc' := 57) (len := 3) (r := (0, 0, 0, 0)) (by decide +kernel) (by decide +kernel) ?_
                have hv2461 := (ho2406 52 26 (Or.inl (by omega))).trans s26
                have hv2462 := (ho2410 52 26 (Or.inr (by omega))).trans hv2461
                have hv2463 := (O2347.2.2 52 52 30 (t52 hg2343) (show 52 ≠ 68 ∧ 52 ≠ 69 ∧ 52 ≠ 378 ∧ 52 ≠ 71 + n ∧ ((52 ≠ 371 ∧ 52 ≠ 372 ∧ 52 ≠ 373 ∧ 52 ≠ 374 ∧ 52 ≠ 375 ∧ 52 ≠ 376) ∨ 30 ≠ n) ∧ (52 ≠ 52 ∨ 30 ≠ 26) by omega)).trans hs2343
                have hv2464 := (ho2406 52 30 (Or.inl (by omega))).trans hv2463
                have hv2465 := (ho2410 52 30 (Or.inr (by omega))).trans hv2464
                have F : oF (fun k j => k ≠ 68 ∧ k ≠ 69 ∧ k ≠ 378 ∧ k ≠ 71 + n ∧ k ≠ 52 ∧ k ≠ 377 ∧ ((k ≠ 371 ∧ k ≠ 372 ∧ k ≠ 373 ∧ k ≠ 374 ∧ k ≠ 375 ∧ k ≠ 376) ∨ j ≠ n) ∧ ((k ≠ 379 ∧ k ≠ 380) ∨ j < td - 1)) τ h τ2347 h2410 := ⟨O2347.1, hg2410, fun k T j hk (hC : k ≠ 68 ∧ k ≠ 69 ∧ k ≠ 378 ∧ k ≠ 71 + n ∧ k ≠ 52 ∧ k ≠ 377 ∧ ((k ≠ 371 ∧ k ≠ 372 ∧ k ≠ 373 ∧ k ≠ 374 ∧ k ≠ 375 ∧ k ≠ 376) ∨ j ≠ n) ∧ ((k ≠ 379 ∧ k ≠ 380) ∨ j < td - 1)) => ((ho2410 k j (by omega)).trans ((ho2406 k j (by omega)).trans ((O2347.2.2 k T j hk (show k ≠ 68 ∧ k ≠ 69 ∧ k ≠ 378 ∧ k ≠ 71 + n ∧ ((k ≠ 371 ∧ k ≠ 372 ∧ k ≠ 373 ∧ k ≠ 374 ∧ k ≠ 375 ∧ k ≠ 376) ∨ j ≠ n) ∧ (k ≠ 52 ∨ j ≠ 26) by omega)).trans (ho2343 k j (by omega)))))⟩
                have G2 : Gv h2410 (n + 1) := Gv_up2 G1 O2347.2.1 (by omega) ⟨(aup_refl _), hg2410, fun k T j hk (hC : k ≠ 377 ∧ k ≠ 379 ∧ k ≠ 380 ∧ k ≠ 52) => ((ho2410 k j (by omega)).trans (ho2406 k j (by omega)))⟩
                have En : ∀ i, i < td - 1 → ent h2410 (n + 1) i := fun i hi => ent_up (hent i (by omega)) (by omega) (F.2.2 379 379 i (tu379 hg) (show 379 ≠ 68 ∧ 379 ≠ 69 ∧ 379 ≠ 378 ∧ 379 ≠ 71 + n ∧ 379 ≠ 52 ∧ 379 ≠ 377 ∧ ((379 ≠ 371 ∧ 379 ≠ 372 ∧ 379 ≠ 373 ∧ 379 ≠ 374 ∧ 379 ≠ 375 ∧ 379 ≠ 376) ∨ i ≠ n) ∧ ((379 ≠ 379 ∧ 379 ≠ 380) ∨ i < td - 1) by omega)) (fun j hj => F.2.2 373 373 j (tu373 hg) (show 373 ≠ 68 ∧ 373 ≠ 69 ∧ 373 ≠ 378 ∧ 373 ≠ 71 + n ∧ 373 ≠ 52 ∧ 373 ≠ 377 ∧ ((373 ≠ 371 ∧ 373 ≠ 372 ∧ 373 ≠ 373 ∧ 373 ≠ 374 ∧ 373 ≠ 375 ∧ 373 ≠ 376) ∨ j ≠ n) ∧ ((373 ≠ 379 ∧ 373 ≠ 380) ∨ j < td - 1) by omega))
                exact ih τ2347 h2410 ⟨aup_trans O0.1 O2347.1, hg2410, fun k T j hk (hC : k ≠ 68 ∧ k ≠ 69 ∧ (k < 71 ∨ 380 < k) ∧ (k ≠ 52 ∨ j < 26 ∨ 30 < j)) => (((ho2410 k j (by omega)).trans ((ho2406 k j (by omega)).trans ((O2347.2.2 k T j (O0.1 _ _ hk) (show k ≠ 68 ∧ k ≠ 69 ∧ k ≠ 378 ∧ k ≠ 71 + n ∧ ((k ≠ 371 ∧ k ≠ 372 ∧ k ≠ 373 ∧ k ≠ 374 ∧ k ≠ 375 ∧ k ≠ 376) ∨ j ≠ n) ∧ (k ≠ 52 ∨ j ≠ 26) by omega)).trans (ho2343 k j (by omega)))))).trans (O0.2.2 k T j hk hC)⟩ (n + 1) ((td - 1)) ((dn + 1)) _ ⟨⟨_, hv2462, by omega⟩, ⟨_, hv2465, by omega⟩, ⟨_, hs2410, by omega⟩, by omega, by omega, by omega, G2, En⟩ (by omega)
          ·
            refine y_cF (c := .ne) (off := 14) (len := 3) (r := (0, 0, 0, 0)) (by decide +kernel) (acmpF (c := .ne) (by show _ = _; omega)) ?_
            refine y_same (i := .aload_n 0) (len := 1) (r := (0, 0, 0, 0)) (pc' := 124) (ls' := [some (.inl (some 52)), some (zi xv), some (zi y2352)]) (st' := [.inl (some 52)]) (by decide +kernel) (fun k q => by cases q) rfl ?_
            refine y_ic (c := 0) (len := 1) (r := (0, 0, 0, 0)) (by decide +kernel) (by decide) (fun y2466 hy2466 => ?_)
            refine y_put (j := 391) (lo := (-2147483648)) (hi := 2147483647) (len := 3) (r := (12, 27, 0, 1355)) (by decide +kernel) O2347.2.1 (t52 O2347.2.1) at52 rfl rfl (by decide) rfl (qin_full _).1 (qin_full _).2 rfl (fun h2467 hg2467 hl2467 hs2467 ho2467 => ?_)
            have ho2467 : hO 52 27 h2347 h2467 := ho2467
            have hs2467 : hsl h2467 52 27 = some (zi y2466) := hs2467
            refine y_same (i := .aload_n 0) (len := 1) (r := (0, 0, 0, 0)) (pc' := 129) (ls' := [some (.inl (some 52)), some (zi xv), some (zi y2352)]) (st' := [.inl (some 52)]) (by decide +kernel) (fun k q => by cases q) rfl ?_
            refine y_same (i := .iload_n 2) (len := 1) (r := (0, 0, 0, 0)) (pc' := 130) (ls' := [some (.inl (some 52)), some (zi xv), some (zi y2352)]) (st' := [zi y2352, .inl (some 52)]) (by decide +kernel) (fun k q => by cases q) rfl ?_
            refine y_put (j := 388) (lo := (-2147483648)) (hi := 2147483647) (len := 3) (r := (12, 28, 0, 1356)) (by decide +kernel) hg2467 (t52 hg2467) at52 rfl rfl (by decide) rfl (qin_full _).1 (qin_full _).2 rfl (fun h2468 hg2468 hl2468 hs2468 ho2468 => ?_)
            have ho2468 : hO 52 28 h2467 h2468 := ho2468
            have hs2468 : hsl h2468 52 28 = some (zi y2352) := hs2468
            refine y_rV (len := 1) (r := (0, 0, 0, 0)) (nL := 3) (n9 := 2) (hs := []) (by decide +kernel) rfl ?_
            exact ⟨_, ⟨aup_trans O0.1 O2347.1, hg2468, fun k T j hk (hC : k ≠ 68 ∧ k ≠ 69 ∧ (k < 71 ∨ 380 < k) ∧ (k ≠ 52 ∨ j < 26 ∨ 30 < j)) => (((ho2468 k j (by omega)).trans ((ho2467 k j (by omega)).trans ((O2347.2.2 k T j (O0.1 _ _ hk) (show k ≠ 68 ∧ k ≠ 69 ∧ k ≠ 378 ∧ k ≠ 71 + n ∧ ((k ≠ 371 ∧ k ≠ 372 ∧ k ≠ 373 ∧ k ≠ 374 ∧ k ≠ 375 ∧ k ≠ 376) ∨ j ≠ n) ∧ (k ≠ 52 ∨ j ≠ 26) by omega)).trans (ho2343 k j (by omega)))))).trans (O0.2.2 k T j hk hC)⟩⟩
        ·
          refine y_iF (c := .ne) (off := 9) (len := 3) (r := (0, 0, 0, 0)) (by decide +kernel) (acmpF (c := .ne) (by show _ = _; omega)) ?_
          refine y_same (i := .aload_n 0) (len := 1) (r := (0, 0, 0, 0)) (pc' := 100) (ls' := [some (.inl (some 52)), some (zi xv), l2]) (st' := [.inl (some 52)]) (by decide +kernel) (fun k q => by cases q) rfl ?_
          refine y_ic (c := 2) (len := 1) (r := (0, 0, 0, 0)) (by decide +kernel) (by decide) (fun y2469 hy2469 => ?_)
          refine y_put (j := 391) (lo := (-2147483648)) (hi := 2147483647) (len := 3) (r := (12, 27, 0, 1355)) (by decide +kernel) O2347.2.1 (t52 O2347.2.1) at52 rfl rfl (by decide) rfl (qin_full _).1 (qin_full _).2 rfl (fun h2470 hg2470 hl2470 hs2470 ho2470 => ?_)
          have ho2470 : hO 52 27 h2347 h2470 := ho2470
          have hs2470 : hsl h2470 52 27 = some (zi y2469) := hs2470
          refine y_rV (len := 1) (r := (0, 0, 0, 0)) (nL := 3) (n9 := 2) (hs := []) (by decide +kernel) rfl ?_
          exact ⟨_, ⟨aup_trans O0.1 O2347.1, hg2470, fun k T j hk (hC : k ≠ 68 ∧ k ≠ 69 ∧ (k < 71 ∨ 380 < k) ∧ (k ≠ 52 ∨ j < 26 ∨ 30 < j)) => (((ho2470 k j (by omega)).trans ((O2347.2.2 k T j (O0.1 _ _ hk) (show k ≠ 68 ∧ k ≠ 69 ∧ k ≠ 378 ∧ k ≠ 71 + n ∧ ((k ≠ 371 ∧ k ≠ 372 ∧ k ≠ 373 ∧ k ≠ 374 ∧ k ≠ 375 ∧ k ≠ 376) ∨ j ≠ n) ∧ (k ≠ 52 ∨ j ≠ 26) by omega)).trans (ho2343 k j (by omega))))).trans (O0.2.2 k T j hk hC)⟩⟩
theorem pvs_0 {τ : List Nat} {h : zh} {t : Nat} (hC : ∀ (mk : Nat) (c' : aK), c' ∈ actb mk → c'.2.2.1 ≤ 8 → cOK aJ mk c') {xv : Int32} (hg : hG τ h) (hv1 : 0 ≤ xv.toInt) (hv2 : xv.toInt ≤ 1) : qV 13 238 [some (.inl (some 52)), some (zi xv), none] h t (fun h1 => ∃ x : Int32, hsl h1 52 32 = some (zi x) ∧ x.toInt = xv.toInt) := by
  obtain ⟨xp, hp31, lp31, up31⟩ := g_int (i := 31) (lo := 0) (hi := 1) hg (t52 hg) at52 (by decide) rfl
  obtain ⟨xo, ho32, lo32, uo32⟩ := g_int (i := 32) (lo := 0) (hi := 1) hg (t52 hg) at52 (by decide) rfl
  refine qV_of ?_
  refine y_same (i := .aload_n 0) (len := 1) (r := (0, 0, 0, 0)) (pc' := 1) (ls' := [some (.inl (some 52)), some (zi xv), none]) (st' := [.inl (some 52)]) (by decide +kernel) (fun k q => by cases q) rfl ?_
  refine y_get (j := 220) (len := 3) (r := (12, 31, 1, 1359)) (by decide +kernel) hg (t52 hg) at52 rfl rfl hp31 ?_
  rcases Decidable.em (xp.toInt = 0) with q2471 | q2471
  ·
    refine y_iT (c := .eq) (off := 12) (pc' := 16) (len := 3) (r := (0, 0, 0, 0)) (by decide +kernel) (acmpT (c := .eq) (by show _ = _; omega)) (by decide +kernel) ?_
    refine y_same (i := .aload_n 0) (len := 1) (r := (0, 0, 0, 0)) (pc' := 17) (ls' := [some (.inl (some 52)), some (zi xv), none]) (st' := [.inl (some 52)]) (by decide +kernel) (fun k q => by cases q) rfl ?_
    refine y_ic (c := 1) (len := 1) (r := (0, 0, 0, 0)) (by decide +kernel) (by decide) (fun y2472 hy2472 => ?_)
    refine y_put (j := 220) (lo := 0) (hi := 1) (len := 3) (r := (12, 31, 1, 1359)) (by decide +kernel) hg (t52 hg) at52 rfl rfl (by decide) rfl (by omega) (by omega) (zfit_b (by omega) (by omega)).1 (fun h2473 hg2473 hl2473 hs2473 ho2473 => ?_)
    have ho2473 : hO 52 31 h h2473 := ho2473
    have hs2473 : hsl h2473 52 31 = some (zi y2472) := hs2473
    refine y_same (i := .aload_n 0) (len := 1) (r := (0, 0, 0, 0)) (pc' := 22) (ls' := [some (.inl (some 52)), some (zi xv), none]) (st' := [.inl (some 52)]) (by decide +kernel) (fun k q => by cases q) rfl ?_
    refine y_same (i := .iload_n 1) (len := 1) (r := (0, 0, 0, 0)) (pc' := 23) (ls' := [some (.inl (some 52)), some (zi xv), none]) (st' := [zi xv, .inl (some 52)]) (by decide +kernel) (fun k q => by cases q) rfl ?_
    refine y_put (j := 363) (lo := 0) (hi := 1) (len := 3) (r := (12, 32, 1, 1360)) (by decide +kernel) hg2473 (t52 hg2473) at52 rfl rfl (by decide) rfl (by omega) (by omega) (zfit_b (by omega) (by omega)).1 (fun h2474 hg2474 hl2474 hs2474 ho2474 => ?_)
    have ho2474 : hO 52 32 h2473 h2474 := ho2474
    have hs2474 : hsl h2474 52 32 = some (zi xv) := hs2474
    refine y_same (i := .aload_n 0) (len := 1) (r := (0, 0, 0, 0)) (pc' := 27) (ls' := [some (.inl (some 52)), some (zi xv), none]) (st' := [.inl (some 52)]) (by decide +kernel) (fun k q => by cases q) rfl ?_
    refine y_ic (c := 0) (len := 1) (r := (0, 0, 0, 0)) (by decide +kernel) (by decide) (fun y2475 hy2475 => ?_)
    refine y_put (j := 348) (lo := 0) (hi := 300) (len := 3) (r := (12, 26, 0, 1354)) (by decide +kernel) hg2474 (t52 hg2474) at52 rfl rfl (by decide) rfl (by omega) (by omega) rfl (fun h2476 hg2476 hl2476 hs2476 ho2476 => ?_)
    have ho2476 : hO 52 26 h2474 h2476 := ho2476
    have hs2476 : hsl h2476 52 26 = some (zi y2475) := hs2476
    refine y_same (i := .aload_n 0) (len := 1) (r := (0, 0, 0, 0)) (pc' := 32) (ls' := [some (.inl (some 52)), some (zi xv), none]) (st' := [.inl (some 52)]) (by decide +kernel) (fun k q => by cases q) rfl ?_
    refine y_ic (c := 0) (len := 1) (r := (0, 0, 0, 0)) (by decide +kernel) (by decide) (fun y2477 hy2477 => ?_)
    refine y_put (j := 385) (lo := 0) (hi := 300) (len := 3) (r := (12, 29, 0, 1357)) (by decide +kernel) hg2476 (t52 hg2476) at52 rfl rfl (by decide) rfl (by omega) (by omega) rfl (fun h2478 hg2478 hl2478 hs2478 ho2478 => ?_)
    have ho2478 : hO 52 29 h2476 h2478 := ho2478
    have hs2478 : hsl h2478 52 29 = some (zi y2477) := hs2478
    refine y_same (i := .aload_n 0) (len := 1) (r := (0, 0, 0, 0)) (pc' := 37) (ls' := [some (.inl (some 52)), some (zi xv), none]) (st' := [.inl (some 52)]) (by decide +kernel) (fun k q => by cases q) rfl ?_
    refine y_ic (c := 0) (len := 1) (r := (0, 0, 0, 0)) (by decide +kernel) (by decide) (fun y2479 hy2479 => ?_)
    refine y_put (j := 382) (lo := 0) (hi := 600) (len := 3) (r := (12, 30, 0, 1358)) (by decide +kernel) hg2478 (t52 hg2478) at52 rfl rfl (by decide) rfl (by omega) (by omega) rfl (fun h2480 hg2480 hl2480 hs2480 ho2480 => ?_)
    have ho2480 : hO 52 30 h2478 h2480 := ho2480
    have hs2480 : hsl h2480 52 30 = some (zi y2479) := hs2480
    refine y_same (i := .aload_n 0) (len := 1) (r := (0, 0, 0, 0)) (pc' := 42) (ls' := [some (.inl (some 52)), some (zi xv), none]) (st' := [.inl (some 52)]) (by decide +kernel) (fun k q => by cases q) rfl ?_
    refine y_ic (c := (-1)) (len := 1) (r := (0, 0, 0, 0)) (by decide +kernel) (by decide) (fun y2481 hy2481 => ?_)
    refine y_put (j := 388) (lo := (-2147483648)) (hi := 2147483647) (len := 3) (r := (12, 28, 0, 1356)) (by decide +kernel) hg2480 (t52 hg2480) at52 rfl rfl (by decide) rfl (qin_full _).1 (qin_full _).2 rfl (fun h2482 hg2482 hl2482 hs2482 ho2482 => ?_)
    have ho2482 : hO 52 28 h2480 h2482 := ho2482
    have hs2482 : hsl h2482 52 28 = some (zi y2481) := hs2482
    refine y_same (i := .aload_n 0) (len := 1) (r := (0, 0, 0, 0)) (pc' := 47) (ls' := [some (.inl (some 52)), some (zi xv), none]) (st' := [.inl (some 52)]) (by decide +kernel) (fun k q => by cases q) rfl ?_
    refine y_ic (c := 1) (len := 1) (r := (0, 0, 0, 0)) (by decide +kernel) (by decide) (fun y2483 hy2483 => ?_)
    refine y_put (j := 391) (lo := (-2147483648)) (hi := 2147483647) (len := 3) (r := (12, 27, 0, 1355)) (by decide +kernel) hg2482 (t52 hg2482) at52 rfl rfl (by decide) rfl (qin_full _).1 (qin_full _).2 rfl (fun h2484 hg2484 hl2484 hs2484 ho2484 => ?_)
    have ho2484 : hO 52 27 h2482 h2484 := ho2484
    have hs2484 : hsl h2484 52 27 = some (zi y2483) := hs2484
    refine y_same (i := .aload_n 0) (len := 1) (r := (0, 0, 0, 0)) (pc' := 52) (ls' := [some (.inl (some 52)), some (zi xv), none]) (st' := [.inl (some 52)]) (by decide +kernel) (fun k q => by cases q) rfl ?_
    refine y_ic (c := (-1)) (len := 1) (r := (0, 0, 0, 0)) (by decide +kernel) (by decide) (fun y2485 hy2485 => ?_)
    refine y_ic (c := 0) (len := 1) (r := (0, 0, 0, 0)) (by decide +kernel) (by decide) (fun y2486 hy2486 => ?_)
    have hv2488 := (ho2482 52 30 (Or.inr (by omega))).trans hs2480
    have hv2489 := (ho2484 52 30 (Or.inr (by omega))).trans hv2488
    refine y_cV (i := .invokevirtual 394) (len := 3) (r := (0, 237, 12, 1632)) (nL := 3) (k := 0) (n := 3) (hs := []) (args := [.inl (some 52), zi y2485, zi y2486]) (rest := []) (l0 := [some (.inl (some 52)), some (zi y2485), some (zi y2486)]) (by decide +kernel) (Or.inr (Or.inl ⟨_, rfl⟩)) rfl rfl rfl rfl (Nat.le_of_ble_eq_true rfl) (z52 hg2484) rfl (e_waits (td := 0) hg2484 (by omega) (by omega) (by omega) (by omega) hv2489 (by omega) (by omega)) (fun h2487 hR2487 => ?_)
    obtain ⟨O2487, a2487, b2487, x2487, c2487, e2487⟩ := hR2487
    have hv2490 := (ho2478 52 26 (Or.inr (by omega))).trans hs2476
    have hv2491 := (ho2480 52 26 (Or.inr (by omega))).trans hv2490
    have hv2492 := (ho2482 52 26 (Or.inr (by omega))).trans hv2491
    have hv2493 := (ho2484 52 26 (Or.inr (by omega))).trans hv2492
    have hv2494 := (O2487.2.2 52 52 26 (t52 hg2484) (show ((52 ≠ 379 ∧ 52 ≠ 380) ∨ 26 ≠ 0) ∧ (52 ≠ 52 ∨ 26 ≠ 30) by omega)).trans hv2493
    have hv2495 := (ho2480 52 29 (Or.inr (by omega))).trans hs2478
    have hv2496 := (ho2482 52 29 (Or.inr (by omega))).trans hv2495
    have hv2497 := (ho2484 52 29 (Or.inr (by omega))).trans hv2496
    have hv2498 := (O2487.2.2 52 52 29 (t52 hg2484) (show ((52 ≠ 379 ∧ 52 ≠ 380) ∨ 29 ≠ 0) ∧ (52 ≠ 52 ∨ 29 ≠ 30) by omega)).trans hv2497
    have hv2499 := (ho2476 52 32 (Or.inr (by omega))).trans hs2474
    have hv2500 := (ho2478 52 32 (Or.inr (by omega))).trans hv2499
    have hv2501 := (ho2480 52 32 (Or.inr (by omega))).trans hv2500
    have hv2502 := (ho2482 52 32 (Or.inr (by omega))).trans hv2501
    have hv2503 := (ho2484 52 32 (Or.inr (by omega))).trans hv2502
    have hv2504 := (O2487.2.2 52 52 32 (t52 hg2484) (show ((52 ≠ 379 ∧ 52 ≠ 380) ∨ 32 ≠ 0) ∧ (52 ≠ 52 ∨ 32 ≠ 30) by omega)).trans hv2503
    refine qX_V (pvs_l hC 301 τ h2487 (oF_refl O2487.2.1) 0 (0 + 1) 0 _ ⟨⟨_, hv2494, by omega⟩, ⟨_, c2487, by omega⟩, ⟨_, hv2498, by omega⟩, by omega, by omega, by omega, ⟨fun j hj => by omega, fun j hj => by omega⟩, fun i hi => ⟨_, (show i = 0 by omega) ▸ a2487, fun _ => by omega, fun h9 => absurd rfl h9⟩⟩ (by omega)) (fun h1 hR => ?_)
    obtain ⟨τ9, O9⟩ := hR
    exact ⟨_, (O9.2.2 52 52 32 (t52 O2487.2.1) (show 52 ≠ 68 ∧ 52 ≠ 69 ∧ (52 < 71 ∨ 380 < 52) ∧ (52 ≠ 52 ∨ 32 < 26 ∨ 30 < 32) by omega)).trans hv2504, rfl⟩
  ·
    refine y_iF (c := .eq) (off := 12) (len := 3) (r := (0, 0, 0, 0)) (by decide +kernel) (acmpF (c := .eq) (by show ¬ (_ = _); omega)) ?_
    refine y_same (i := .aload_n 0) (len := 1) (r := (0, 0, 0, 0)) (pc' := 8) (ls' := [some (.inl (some 52)), some (zi xv), none]) (st' := [.inl (some 52)]) (by decide +kernel) (fun k q => by cases q) rfl ?_
    refine y_get (j := 363) (len := 3) (r := (12, 32, 1, 1360)) (by decide +kernel) hg (t52 hg) at52 rfl rfl ho32 ?_
    refine y_same (i := .iload_n 1) (len := 1) (r := (0, 0, 0, 0)) (pc' := 12) (ls' := [some (.inl (some 52)), some (zi xv), none]) (st' := [zi xv, zi xo]) (by decide +kernel) (fun k q => by cases q) rfl ?_
    rcases Decidable.em (xo.toInt ≠ xv.toInt) with q2505 | q2505
    ·
      refine y_cT (c := .ne) (off := 4) (pc' := 16) (len := 3) (r := (0, 0, 0, 0)) (by decide +kernel) (acmpT (c := .ne) (by show ¬ (_ = _); omega)) (by decide +kernel) ?_
      refine y_same (i := .aload_n 0) (len := 1) (r := (0, 0, 0, 0)) (pc' := 17) (ls' := [some (.inl (some 52)), some (zi xv), none]) (st' := [.inl (some 52)]) (by decide +kernel) (fun k q => by cases q) rfl ?_
      refine y_ic (c := 1) (len := 1) (r := (0, 0, 0, 0)) (by decide +kernel) (by decide) (fun y2506 hy2506 => ?_)
      refine y_put (j := 220) (lo := 0) (hi := 1) (len := 3) (r := (12, 31, 1, 1359)) (by decide +kernel) hg (t52 hg) at52 rfl rfl (by decide) rfl (by omega) (by omega) (zfit_b (by omega) (by omega)).1 (fun h2507 hg2507 hl2507 hs2507 ho2507 => ?_)
      have ho2507 : hO 52 31 h h2507 := ho2507
      have hs2507 : hsl h2507 52 31 = some (zi y2506) := hs2507
      refine y_same (i := .aload_n 0) (len := 1) (r := (0, 0, 0, 0)) (pc' := 22) (ls' := [some (.inl (some 52)), some (zi xv), none]) (st' := [.inl (some 52)]) (by decide +kernel) (fun k q => by cases q) rfl ?_
      refine y_same (i := .iload_n 1) (len := 1) (r := (0, 0, 0, 0)) (pc' := 23) (ls' := [some (.inl (some 52)), some (zi xv), none]) (st' := [zi xv, .inl (some 52)]) (by decide +kernel) (fun k q => by cases q) rfl ?_
      refine y_put (j := 363) (lo := 0) (hi := 1) (len := 3) (r := (12, 32, 1, 1360)) (by decide +kernel) hg2507 (t52 hg2507) at52 rfl rfl (by decide) rfl (by omega) (by omega) (zfit_b (by omega) (by omega)).1 (fun h2508 hg2508 hl2508 hs2508 ho2508 => ?_)
      have ho2508 : hO 52 32 h2507 h2508 := ho2508
      have hs2508 : hsl h2508 52 32 = some (zi xv) := hs2508
      refine y_same (i := .aload_n 0) (len := 1) (r := (0, 0, 0, 0)) (pc' := 27) (ls' := [some (.inl (some 52)), some (zi xv), none]) (st' := [.inl (some 52)]) (by decide +kernel) (fun k q => by cases q) rfl ?_
      refine y_ic (c := 0) (len := 1) (r := (0, 0, 0, 0)) (by decide +kernel) (by decide) (fun y2509 hy2509 => ?_)
      refine y_put (j := 348) (lo := 0) (hi := 300) (len := 3) (r := (12, 26, 0, 1354)) (by decide +kernel) hg2508 (t52 hg2508) at52 rfl rfl (by decide) rfl (by omega) (by omega) rfl (fun h2510 hg2510 hl2510 hs2510 ho2510 => ?_)
      have ho2510 : hO 52 26 h2508 h2510 := ho2510
      have hs2510 : hsl h2510 52 26 = some (zi y2509) := hs2510
      refine y_same (i := .aload_n 0) (len := 1) (r := (0, 0, 0, 0)) (pc' := 32) (ls' := [some (.inl (some 52)), some (zi xv), none]) (st' := [.inl (some 52)]) (by decide +kernel) (fun k q => by cases q) rfl ?_
      refine y_ic (c := 0) (len := 1) (r := (0, 0, 0, 0)) (by decide +kernel) (by decide) (fun y2511 hy2511 => ?_)
      refine y_put (j := 385) (lo := 0) (hi := 300) (len := 3) (r := (12, 29, 0, 1357)) (by decide +kernel) hg2510 (t52 hg2510) at52 rfl rfl (by decide) rfl (by omega) (by omega) rfl (fun h2512 hg2512 hl2512 hs2512 ho2512 => ?_)
      have ho2512 : hO 52 29 h2510 h2512 := ho2512
      have hs2512 : hsl h2512 52 29 = some (zi y2511) := hs2512
      refine y_same (i := .aload_n 0) (len := 1) (r := (0, 0, 0, 0)) (pc' := 37) (ls' := [some (.inl (some 52)), some (zi xv), none]) (st' := [.inl (some 52)]) (by decide +kernel) (fun k q => by cases q) rfl ?_
      refine y_ic (c := 0) (len := 1) (r := (0, 0, 0, 0)) (by decide +kernel) (by decide) (fun y2513 hy2513 => ?_)
      refine y_put (j := 382) (lo := 0) (hi := 600) (len := 3) (r := (12, 30, 0, 1358)) (by decide +kernel) hg2512 (t52 hg2512) at52 rfl rfl (by decide) rfl (by omega) (by omega) rfl (fun h2514 hg2514 hl2514 hs2514 ho2514 => ?_)
      have ho2514 : hO 52 30 h2512 h2514 := ho2514
      have hs2514 : hsl h2514 52 30 = some (zi y2513) := hs2514
      refine y_same (i := .aload_n 0) (len := 1) (r := (0, 0, 0, 0)) (pc' := 42) (ls' := [some (.inl (some 52)), some (zi xv), none]) (st' := [.inl (some 52)]) (by decide +kernel) (fun k q => by cases q) rfl ?_
      refine y_ic (c := (-1)) (len := 1) (r := (0, 0, 0, 0)) (by decide +kernel) (by decide) (fun y2515 hy2515 => ?_)
      refine y_put (j := 388) (lo := (-2147483648)) (hi := 2147483647) (len := 3) (r := (12, 28, 0, 1356)) (by decide +kernel) hg2514 (t52 hg2514) at52 rfl rfl (by decide) rfl (qin_full _).1 (qin_full _).2 rfl (fun h2516 hg2516 hl2516 hs2516 ho2516 => ?_)
      have ho2516 : hO 52 28 h2514 h2516 := ho2516
      have hs2516 : hsl h2516 52 28 = some (zi y2515) := hs2516
      refine y_same (i := .aload_n 0) (len := 1) (r := (0, 0, 0, 0)) (pc' := 47) (ls' := [some (.inl (some 52)), some (zi xv), none]) (st' := [.inl (some 52)]) (by decide +kernel) (fun k q => by cases q) rfl ?_
      refine y_ic (c := 1) (len := 1) (r := (0, 0, 0, 0)) (by decide +kernel) (by decide) (fun y2517 hy2517 => ?_)
      refine y_put (j := 391) (lo := (-2147483648)) (hi := 2147483647) (len := 3) (r := (12, 27, 0, 1355)) (by decide +kernel) hg2516 (t52 hg2516) at52 rfl rfl (by decide) rfl (qin_full _).1 (qin_full _).2 rfl (fun h2518 hg2518 hl2518 hs2518 ho2518 => ?_)
      have ho2518 : hO 52 27 h2516 h2518 := ho2518
      have hs2518 : hsl h2518 52 27 = some (zi y2517) := hs2518
      refine y_same (i := .aload_n 0) (len := 1) (r := (0, 0, 0, 0)) (pc' := 52) (ls' := [some (.inl (some 52)), some (zi xv), none]) (st' := [.inl (some 52)]) (by decide +kernel) (fun k q => by cases q) rfl ?_
      refine y_ic (c := (-1)) (len := 1) (r := (0, 0, 0, 0)) (by decide +kernel) (by decide) (fun y2519 hy2519 => ?_)
      refine y_ic (c := 0) (len := 1) (r := (0, 0, 0, 0)) (by decide +kernel) (by decide) (fun y2520 hy2520 => ?_)
      have hv2522 := (ho2516 52 30 (Or.inr (by omega))).trans hs2514
      have hv2523 := (ho2518 52 30 (Or.inr (by omega))).trans hv2522
      refine y_cV (i := .invokevirtual 394) (len := 3) (r := (0, 237, 12, 1632)) (nL := 3) (k := 0) (n := 3) (hs := []) (args := [.inl (some 52), zi y2519, zi y2520]) (rest := []) (l0 := [some (.inl (some 52)), some (zi y2519), some (zi y2520)]) (by decide +kernel) (Or.inr (Or.inl ⟨_, rfl⟩)) rfl rfl rfl rfl (Nat.le_of_ble_eq_true rfl) (z52 hg2518) rfl (e_waits (td := 0) hg2518 (by omega) (by omega) (by omega) (by omega) hv2523 (by omega) (by omega)) (fun h2521 hR2521 => ?_)
      obtain ⟨O2521, a2521, b2521, x2521, c2521, e2521⟩ := hR2521
      have hv2524 := (ho2512 52 26 (Or.inr (by omega))).trans hs2510
      have hv2525 := (ho2514 52 26 (Or.inr (by omega))).trans hv2524
      have hv2526 := (ho2516 52 26 (Or.inr (by omega))).trans hv2525
      have hv2527 := (ho2518 52 26 (Or.inr (by omega))).trans hv2526
      have hv2528 := (O2521.2.2 52 52 26 (t52 hg2518) (show ((52 ≠ 379 ∧ 52 ≠ 380) ∨ 26 ≠ 0) ∧ (52 ≠ 52 ∨ 26 ≠ 30) by omega)).trans hv2527
      have hv2529 := (ho2514 52 29 (Or.inr (by omega))).trans hs2512
      have hv2530 := (ho2516 52 29 (Or.inr (by omega))).trans hv2529
      have hv2531 := (ho2518 52 29 (Or.inr (by omega))).trans hv2530
      have hv2532 := (O2521.2.2 52 52 29 (t52 hg2518) (show ((52 ≠ 379 ∧ 52 ≠ 380) ∨ 29 ≠ 0) ∧ (52 ≠ 52 ∨ 29 ≠ 30) by omega)).trans hv2531
      have hv2533 := (ho2510 52 32 (Or.inr (by omega))).trans hs2508
      have hv2534 := (ho2512 52 32 (Or.inr (by omega))).trans hv2533
      have hv2535 := (ho2514 52 32 (Or.inr (by omega))).trans hv2534
      have hv2536 := (ho2516 52 32 (Or.inr (by omega))).trans hv2535
      have hv2537 := (ho2518 52 32 (Or.inr (by omega))).trans hv2536
      have hv2538 := (O2521.2.2 52 52 32 (t52 hg2518) (show ((52 ≠ 379 ∧ 52 ≠ 380) ∨ 32 ≠ 0) ∧ (52 ≠ 52 ∨ 32 ≠ 30) by omega)).trans hv2537
      refine qX_V (pvs_l hC 301 τ h2521 (oF_refl O2521.2.1) 0 (0 + 1) 0 _ ⟨⟨_, hv2528, by omega⟩, ⟨_, c2521, by omega⟩, ⟨_, hv2532, by omega⟩, by omega, by omega, by omega, ⟨fun j hj => by omega, fun j hj => by omega⟩, fun i hi => ⟨_, (show i = 0 by omega) ▸ a2521, fun _ => by omega, fun h9 => absurd rfl h9⟩⟩ (by omega)) (fun h1 hR => ?_)
      obtain ⟨τ9, O9⟩ := hR
      exact ⟨_, (O9.2.2 52 52 32 (t52 O2521.2.1) (show 52 ≠ 68 ∧ 52 ≠ 69 ∧ (52 < 71 ∨ 380 < 52) ∧ (52 ≠ 52 ∨ 32 < 26 ∨ 30 < 32) by omega)).trans hv2538, rfl⟩
    ·
      refine y_cF (c := .ne) (off := 4) (len := 3) (r := (0, 0, 0, 0)) (by decide +kernel) (acmpF (c := .ne) (by show _ = _; omega)) ?_
      refine y_rV (len := 1) (r := (0, 0, 0, 0)) (nL := 3) (n9 := 2) (hs := []) (by decide +kernel) rfl ?_
      exact ⟨_, ho32, by omega⟩
