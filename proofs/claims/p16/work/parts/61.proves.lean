/-! the proof as a whole -/
theorem e_waits {τ : List Nat} {h : zh} {d t td : Nat} {xf xw xt : Int32} (hg : hG τ h) (hf1 : -1 ≤ xf.toInt) (hf2 : xf.toInt ≤ 299) (hw1 : 0 ≤ xw.toInt) (hw2 : xw.toInt ≤ 1) (ht : hsl h 52 30 = some (zi xt)) (hxt : xt.toInt = (td : Int)) (htd : td < 600) : qV (d + 1) 237 [some (.inl (some 52)), some (zi xf), some (zi xw)] h t (fun h1 => oF (fun k j => ((k ≠ 379 ∧ k ≠ 380) ∨ j ≠ td) ∧ (k ≠ 52 ∨ j ≠ 30)) τ h τ h1 ∧ hsl h1 379 td = some (zi xf) ∧ hsl h1 380 td = some (zi xw) ∧ ∃ x : Int32, hsl h1 52 30 = some (zi x) ∧ x.toInt = (td : Int) + 1) := by
  refine qV_of ?_
  refine y_same (i := .aload_n 0) (len := 1) (r := (0, 0, 0, 0)) (pc' := 1) (ls' := [some (.inl (some 52)), some (zi xf), some (zi xw)]) (st' := [.inl (some 52)]) (by decide +kernel) (fun k q => by cases q) rfl ?_
  refine y_get (j := 64) (len := 3) (r := (12, 24, 2, 1352)) (by decide +kernel) hg (t52 hg) at52 rfl rfl (g_r52 (f := 24) (T2 := 379) hg rfl (by decide)).1 ?_
  refine y_same (i := .aload_n 0) (len := 1) (r := (0, 0, 0, 0)) (pc' := 5) (ls' := [some (.inl (some 52)), some (zi xf), some (zi xw)]) (st' := [.inl (some 52), .inl (some 379)]) (by decide +kernel) (fun k q => by cases q) rfl ?_
  refine y_get (j := 382) (len := 3) (r := (12, 30, 0, 1358)) (by decide +kernel) hg (t52 hg) at52 rfl rfl ht ?_
  refine y_same (i := .iload_n 1) (len := 1) (r := (0, 0, 0, 0)) (pc' := 9) (ls' := [some (.inl (some 52)), some (zi xf), some (zi xw)]) (st' := [zi xf, zi xt, .inl (some 379)]) (by decide +kernel) (fun k q => by cases q) rfl ?_
  refine y_ias (i := td) (len := 1) (r := (0, 0, 0, 0)) (by decide +kernel) hg (tu379 hg) at379 rfl (by omega) (by omega) (sr1 (by omega)) (by omega) (by omega) (fun h290 hg290 hl290 hs290 ho290 => ?_)
  refine y_same (i := .aload_n 0) (len := 1) (r := (0, 0, 0, 0)) (pc' := 11) (ls' := [some (.inl (some 52)), some (zi xf), some (zi xw)]) (st' := [.inl (some 52)]) (by decide +kernel) (fun k q => by cases q) rfl ?_
  refine y_get (j := 67) (len := 3) (r := (12, 25, 2, 1353)) (by decide +kernel) hg290 (t52 hg290) at52 rfl rfl (g_r52 (f := 25) (T2 := 380) hg290 rfl (by decide)).1 ?_
  refine y_same (i := .aload_n 0) (len := 1) (r := (0, 0, 0, 0)) (pc' := 15) (ls' := [some (.inl (some 52)), some (zi xf), some (zi xw)]) (st' := [.inl (some 52), .inl (some 380)]) (by decide +kernel) (fun k q => by cases q) rfl ?_
  have hv291 := (ho290 52 30 (Or.inl (by omega))).trans ht
  refine y_get (j := 382) (len := 3) (r := (12, 30, 0, 1358)) (by decide +kernel) hg290 (t52 hg290) at52 rfl rfl hv291 ?_
  refine y_same (i := .iload_n 2) (len := 1) (r := (0, 0, 0, 0)) (pc' := 19) (ls' := [some (.inl (some 52)), some (zi xf), some (zi xw)]) (st' := [zi xw, zi xt, .inl (some 380)]) (by decide +kernel) (fun k q => by cases q) rfl ?_
  refine y_ias (i := td) (len := 1) (r := (0, 0, 0, 0)) (by decide +kernel) hg290 (tu380 hg290) at380 rfl (by omega) (by omega) (sr1 (by omega)) (by omega) (by omega) (fun h292 hg292 hl292 hs292 ho292 => ?_)
  refine y_same (i := .aload_n 0) (len := 1) (r := (0, 0, 0, 0)) (pc' := 21) (ls' := [some (.inl (some 52)), some (zi xf), some (zi xw)]) (st' := [.inl (some 52)]) (by decide +kernel) (fun k q => by cases q) rfl ?_
  refine y_same (i := .dup) (len := 1) (r := (0, 0, 0, 0)) (pc' := 22) (ls' := [some (.inl (some 52)), some (zi xf), some (zi xw)]) (st' := [.inl (some 52), .inl (some 52)]) (by decide +kernel) (fun k q => by cases q) rfl ?_
  have hv293 := (ho292 52 30 (Or.inl (by omega))).trans hv291
  refine y_get (j := 382) (len := 3) (r := (12, 30, 0, 1358)) (by decide +kernel) hg292 (t52 hg292) at52 rfl rfl hv293 ?_
  refine y_ic (c := 1) (len := 1) (r := (0, 0, 0, 0)) (by decide +kernel) (by decide) (fun y294 hy294 => ?_)
  refine y_add (len := 1) (r := (0, 0, 0, 0)) (by decide +kernel) (by omega) (by omega) (fun y295 hy295 => ?_)
  refine y_put (j := 382) (lo := 0) (hi := 600) (len := 3) (r := (12, 30, 0, 1358)) (by decide +kernel) hg292 (t52 hg292) at52 rfl rfl (by decide) rfl (by omega) (by omega) rfl (fun h296 hg296 hl296 hs296 ho296 => ?_)
  have ho296 : hO 52 30 h292 h296 := ho296
  have hs296 : hsl h296 52 30 = some (zi y295) := hs296
  refine y_rV (len := 1) (r := (0, 0, 0, 0)) (nL := 3) (n9 := 3) (hs := []) (by decide +kernel) rfl ?_
  have hv297 := (ho292 379 td (Or.inl (by omega))).trans hs290
  have hv298 := (ho296 379 td (Or.inl (by omega))).trans hv297
  have hv299 := (ho296 380 td (Or.inl (by omega))).trans hs292
  exact ⟨⟨(aup_refl _), hg296, fun k T j hk (hC : ((k ≠ 379 ∧ k ≠ 380) ∨ j ≠ td) ∧ (k ≠ 52 ∨ j ≠ 30)) => ((ho296 k j (by omega)).trans ((ho292 k j (by omega)).trans (ho290 k j (by omega))))⟩, hv298, hv299, y295, hs296, by omega⟩
/-- one that waits -/
def ent (h : zh) (n i : Nat) : Prop := ∃ xo : Int32, hsl h 379 i = some (zi xo) ∧ (n = 0 → xo.toInt = -1) ∧ (n ≠ 0 → 0 ≤ xo.toInt ∧ xo.toInt < (n : Int) ∧ ∃ xs : Int32, hsl h 373 xo.toInt.toNat = some (zi xs) ∧ 3 ≤ xs.toInt ∧ xs.toInt ≤ 8)
theorem ent_up {h h1 : zh} {n i : Nat} (e : ent h n i) (hn : n ≠ 0) (e1 : hsl h1 379 i = hsl h 379 i) (e2 : ∀ j, j < n → hsl h1 373 j = hsl h 373 j) : ent h1 (n + 1) i := by
  obtain ⟨xo, a, -, b⟩ := e
  obtain ⟨b1, b2, xs, b3, b4, b5⟩ := b hn
  exact ⟨xo, e1.trans a, fun h9 => by omega, fun _ => ⟨b1, by omega, xs, (e2 _ (by omega)).trans b3, b4, b5⟩⟩
theorem ent_new {h : zh} {n i : Nat} {xo xs : Int32} (a : hsl h 379 i = some (zi xo)) (hx : xo.toInt = (n : Int)) (b : hsl h 373 n = some (zi xs)) (h3 : 3 ≤ xs.toInt) (h8 : xs.toInt ≤ 8) : ent h (n + 1) i := by
  refine ⟨xo, a, fun h9 => by omega, fun _ => ⟨by omega, by omega, xs, ?_, h3, h8⟩⟩
  rw [show xo.toInt.toNat = n by omega]
  exact b
theorem Gv_up2 {τ τ1 : List Nat} {h h1 : zh} {n : Nat} (g : Gv h n) (hg : hG τ h) (hn : n ≤ 300) (F : oF (fun k j => k ≠ 377 ∧ k ≠ 379 ∧ k ≠ 380 ∧ k ≠ 52) τ h τ1 h1) : Gv h1 n := by
  refine ⟨fun j hj => ?_, fun j hj => ?_⟩
  · obtain ⟨x, e, l⟩ := g.1 j hj
    exact ⟨x, (F.2.2 371 371 j (tu371 hg) (show 371 ≠ 377 ∧ 371 ≠ 379 ∧ 371 ≠ 380 ∧ 371 ≠ 52 by omega)).trans e, l⟩
  · exact stOK_up (g.2 j hj) (F.2.2 373 373 j (tu373 hg) (show 373 ≠ 377 ∧ 373 ≠ 379 ∧ 373 ≠ 380 ∧ 373 ≠ 52 by omega)) (F.2.2 374 374 j (tu374 hg) (show 374 ≠ 377 ∧ 374 ≠ 379 ∧ 374 ≠ 380 ∧ 374 ≠ 52 by omega)) (F.2.2 375 375 j (tu375 hg) (show 375 ≠ 377 ∧ 375 ≠ 379 ∧ 375 ≠ 380 ∧ 375 ≠ 52 by omega)) (F.2.2 (71 + j) 1012 0 (tuR hg (by omega)) (show (71 + j) ≠ 377 ∧ (71 + j) ≠ 379 ∧ (71 + j) ≠ 380 ∧ (71 + j) ≠ 52 by omega)) (F.2.2 (71 + j) 1012 1 (tuR hg (by omega)) (show (71 + j) ≠ 377 ∧ (71 + j) ≠ 379 ∧ (71 + j) ≠ 380 ∧ (71 + j) ≠ 52 by omega))
def pI (h : zh) (n td dn : Nat) : Prop := (∃ x : Int32, hsl h 52 26 = some (zi x) ∧ x.toInt = (n : Int)) ∧ (∃ x : Int32, hsl h 52 30 = some (zi x) ∧ x.toInt = (td : Int)) ∧ (∃ x : Int32, hsl h 52 29 = some (zi x) ∧ x.toInt = (dn : Int)) ∧ n ≤ 300 ∧ td ≤ n + 1 ∧ dn ≤ n ∧ Gv h n ∧ ∀ i, i < td → ent h n i
def pvR (τ : List Nat) (h h1 : zh) : Prop := ∃ τ1, oF (fun k j => k ≠ 68 ∧ k ≠ 69 ∧ (k < 71 ∨ 380 < k) ∧ (k ≠ 52 ∨ j < 26 ∨ 32 < j)) τ h τ1 h1
theorem pv_l {τ0 : List Nat} {h0 : zh} {t : Nat} (hC : ∀ (mk : Nat) (c' : aK), c' ∈ actb mk → c'.2.2.1 ≤ 8 → cOK aJ mk c') {xv : Int32} : ∀ (m : Nat) (τ : List Nat) (h : zh), oF (fun k j => k ≠ 68 ∧ k ≠ 69 ∧ (k < 71 ∨ 380 < k) ∧ (k ≠ 52 ∨ j < 26 ∨ 32 < j)) τ0 h0 τ h → ∀ (n td dn : Nat) (l2 : Option zv), pI h n td dn → 301 ≤ n + m → qX 12 238 57 [some (.inl (some 52)), some (zi xv), l2] [] h t (rV (pvR τ0 h0) t) := by
  intro m
  induction m with
  | zero =>
    intro τ h O0 n td dn l2 hI hm
    have := hI.2.2.2.1
    omega
  | succ m ih =>
    intro τ h O0 n td dn l2 hI hm
    have hg := O0.2.1
    obtain ⟨⟨xs, hs, hxs⟩, ⟨xt, ht, hxt⟩, ⟨xd, hd, hxd⟩, hn3, htd, hdn, G, hent⟩ := hI
    rcases (show td = 0 ∨ 1 ≤ td by omega) with q0 | q0
    ·
      refine y_same (i := .aload_n 0) (len := 1) (r := (0, 0, 0, 0)) (pc' := 58) (ls' := [some (.inl (some 52)), some (zi xv), l2]) (st' := [.inl (some 52)]) (by decide +kernel) (fun k q => by cases q) rfl ?_
      refine y_get (j := 382) (len := 3) (r := (12, 30, 0, 1358)) (by decide +kernel) hg (t52 hg) at52 rfl rfl ht ?_
      refine y_iT (c := .le) (off := 153) (pc' := 214) (len := 3) (r := (0, 0, 0, 0)) (by decide +kernel) (acmpT (c := .le) (by show _ ≤ _; omega)) (by decide +kernel) ?_
      refine y_rV (len := 1) (r := (0, 0, 0, 0)) (nL := 3) (n9 := 2) (hs := []) (by decide +kernel) rfl ?_
      exact ⟨_, O0⟩
    · obtain ⟨xo, hxo, hoA, hoB⟩ := hent (td - 1) (by omega)
      rcases (show n = 0 ∨ n ≠ 0 by omega) with qn | qn
      · have hoA := hoA qn
        refine y_same (i := .aload_n 0) (len := 1) (r := (0, 0, 0, 0)) (pc' := 58) (ls' := [some (.inl (some 52)), some (zi xv), l2]) (st' := [.inl (some 52)]) (by decide +kernel) (fun k q => by cases q) rfl ?_
        refine y_get (j := 382) (len := 3) (r := (12, 30, 0, 1358)) (by decide +kernel) hg (t52 hg) at52 rfl rfl ht ?_
        refine y_iF (c := .le) (off := 153) (len := 3) (r := (0, 0, 0, 0)) (by decide +kernel) (acmpF (c := .le) (by show _ < _; omega)) ?_
        refine y_same (i := .aload_n 0) (len := 1) (r := (0, 0, 0, 0)) (pc' := 65) (ls' := [some (.inl (some 52)), some (zi xv), l2]) (st' := [.inl (some 52)]) (by decide +kernel) (fun k q => by cases q) rfl ?_
        refine y_same (i := .dup) (len := 1) (r := (0, 0, 0, 0)) (pc' := 66) (ls' := [some (.inl (some 52)), some (zi xv), l2]) (st' := [.inl (some 52), .inl (some 52)]) (by decide +kernel) (fun k q => by cases q) rfl ?_
        refine y_get (j := 382) (len := 3) (r := (12, 30, 0, 1358)) (by decide +kernel) hg (t52 hg) at52 rfl rfl ht ?_
        refine y_ic (c := 1) (len := 1) (r := (0, 0, 0, 0)) (by decide +kernel) (by decide) (fun y300 hy300 => ?_)
        refine y_sub (len := 1) (r := (0, 0, 0, 0)) (by decide +kernel) (by omega) (by omega) (fun y301 hy301 => ?_)
        refine y_put (j := 382) (lo := 0) (hi := 600) (len := 3) (r := (12, 30, 0, 1358)) (by decide +kernel) hg (t52 hg) at52 rfl rfl (by decide) rfl (by omega) (by omega) rfl (fun h302 hg302 hl302 hs302 ho302 => ?_)
        have ho302 : hO 52 30 h h302 := ho302
        have hs302 : hsl h302 52 30 = some (zi y301) := hs302
        refine y_same (i := .aload_n 0) (len := 1) (r := (0, 0, 0, 0)) (pc' := 75) (ls' := [some (.inl (some 52)), some (zi xv), l2]) (st' := [.inl (some 52)]) (by decide +kernel) (fun k q => by cases q) rfl ?_
        refine y_same (i := .aload_n 0) (len := 1) (r := (0, 0, 0, 0)) (pc' := 76) (ls' := [some (.inl (some 52)), some (zi xv), l2]) (st' := [.inl (some 52), .inl (some 52)]) (by decide +kernel) (fun k q => by cases q) rfl ?_
        refine y_get (j := 64) (len := 3) (r := (12, 24, 2, 1352)) (by decide +kernel) hg302 (t52 hg302) at52 rfl rfl (g_r52 (f := 24) (T2 := 379) hg302 rfl (by decide)).1 ?_
        refine y_same (i := .aload_n 0) (len := 1) (r := (0, 0, 0, 0)) (pc' := 80) (ls' := [some (.inl (some 52)), some (zi xv), l2]) (st' := [.inl (some 52), .inl (some 379), .inl (some 52)]) (by decide +kernel) (fun k q => by cases q) rfl ?_
        refine y_get (j := 382) (len := 3) (r := (12, 30, 0, 1358)) (by decide +kernel) hg302 (t52 hg302) at52 rfl rfl hs302 ?_
        have hv303 := (ho302 379 (td - 1) (Or.inl (by omega))).trans hxo
        refine y_ial (i := (td - 1)) (len := 1) (r := (0, 0, 0, 0)) (by decide +kernel) hg302 (tu379 hg302) at379 (by omega) hv303 ?_
        refine y_same (i := .aload_n 0) (len := 1) (r := (0, 0, 0, 0)) (pc' := 85) (ls' := [some (.inl (some 52)), some (zi xv), l2]) (st' := [.inl (some 52), zi xo, .inl (some 52)]) (by decide +kernel) (fun k q => by cases q) rfl ?_
        refine y_get (j := 67) (len := 3) (r := (12, 25, 2, 1353)) (by decide +kernel) hg302 (t52 hg302) at52 rfl rfl (g_r52 (f := 25) (T2 := 380) hg302 rfl (by decide)).1 ?_
        refine y_same (i := .aload_n 0) (len := 1) (r := (0, 0, 0, 0)) (pc' := 89) (ls' := [some (.inl (some 52)), some (zi xv), l2]) (st' := [.inl (some 52), .inl (some 380), zi xo, .inl (some 52)]) (by decide +kernel) (fun k q => by cases q) rfl ?_
        refine y_get (j := 382) (len := 3) (r := (12, 30, 0, 1358)) (by decide +kernel) hg302 (t52 hg302) at52 rfl rfl hs302 ?_
        obtain ⟨v304, hv305, lv304, uv304⟩ := g_int (i := (td - 1)) hg302 (tu380 hg302) at380 (show (td - 1) < 600 by omega) (sr1 (by omega))
        refine y_ial (i := (td - 1)) (len := 1) (r := (0, 0, 0, 0)) (by decide +kernel) hg302 (tu380 hg302) at380 (by omega) hv305 ?_
        have hv307 := (ho302 52 26 (Or.inr (by omega))).trans hs
        have Gc : Gv h302 n := Gv_up2 G hg hn3 ⟨(aup_refl _), hg302, fun k T j hk (hC : k ≠ 377 ∧ k ≠ 379 ∧ k ≠ 380 ∧ k ≠ 52) => (ho302 k j (by omega))⟩
        refine y_cI (i := .invokevirtual 397) (len := 3) (r := (0, 231, 12, 1636)) (nL := 5) (k := 2) (n := 3) (hs := []) (args := [.inl (some 52), zi xo, zi v304]) (rest := []) (l0 := [some (.inl (some 52)), some (zi xo), some (zi v304), none, none]) (by decide +kernel) (Or.inr (Or.inl ⟨_, rfl⟩)) rfl rfl rfl rfl (Nat.le_of_ble_eq_true rfl) (z52 hg302) rfl (e_comesA hC hg302 Gc hv307 hxs (by omega) (by omega)) (fun y306 h306 hRy306 => ?_)
        obtain ⟨ly306, uy306, τ306, O306, f306⟩ := hRy306
        rcases Decidable.em (y306.toInt ≠ 0) with q308 | q308
        ·
          refine y_iT (c := .ne) (off := 9) (pc' := 105) (len := 3) (r := (0, 0, 0, 0)) (by decide +kernel) (acmpT (c := .ne) (by show ¬ (_ = _); omega)) (by decide +kernel) ?_
          obtain ⟨hn9, ⟨x26, s26, e26⟩, G1⟩ := f306 (by omega)
          refine y_same (i := .aload_n 0) (len := 1) (r := (0, 0, 0, 0)) (pc' := 106) (ls' := [some (.inl (some 52)), some (zi xv), l2]) (st' := [.inl (some 52)]) (by decide +kernel) (fun k q => by cases q) rfl ?_
          refine y_get (j := 348) (len := 3) (r := (12, 26, 0, 1354)) (by decide +kernel) O306.2.1 (t52 O306.2.1) at52 rfl rfl s26 ?_
          refine y_ic (c := 1) (len := 1) (r := (0, 0, 0, 0)) (by decide +kernel) (by decide) (fun y309 hy309 => ?_)
          refine y_sub (len := 1) (r := (0, 0, 0, 0)) (by decide +kernel) (by omega) (by omega) (fun y310 hy310 => ?_)
          refine y_same (i := .istore_n 2) (len := 1) (r := (0, 0, 0, 0)) (pc' := 112) (ls' := [some (.inl (some 52)), some (zi xv), some (zi y310)]) (st' := []) (by decide +kernel) (fun k q => by cases q) rfl ?_
          refine y_same (i := .aload_n 0) (len := 1) (r := (0, 0, 0, 0)) (pc' := 113) (ls' := [some (.inl (some 52)), some (zi xv), some (zi y310)]) (st' := [.inl (some 52)]) (by decide +kernel) (fun k q => by cases q) rfl ?_
          refine y_get (j := 46) (len := 3) (r := (12, 18, 2, 1346)) (by decide +kernel) O306.2.1 (t52 O306.2.1) at52 rfl rfl (g_r52 (f := 18) (T2 := 373) O306.2.1 rfl (by decide)).1 ?_
          refine y_same (i := .iload_n 2) (len := 1) (r := (0, 0, 0, 0)) (pc' := 117) (ls' := [some (.inl (some 52)), some (zi xv), some (zi y310)]) (st' := [zi y310, .inl (some 373)]) (by decide +kernel) (fun k q => by cases q) rfl ?_
          obtain ⟨v311, hv312, lv311, uv311⟩ := g_int (i := n) O306.2.1 (tu373 O306.2.1) at373 (show n < 300 by omega) (sr1 (by omega))
          refine y_ial (i := n) (len := 1) (r := (0, 0, 0, 0)) (by decide +kernel) O306.2.1 (tu373 O306.2.1) at373 (by omega) hv312 ?_
          refine y_bi (c := 9) (len := 2) (r := (0, 0, 0, 0)) (by decide +kernel) (by decide) (fun y313 hy313 => ?_)
          rcases Decidable.em (v311.toInt ≠ y313.toInt) with q314 | q314
          ·
            refine y_cT (c := .ne) (off := 14) (pc' := 134) (len := 3) (r := (0, 0, 0, 0)) (by decide +kernel) (acmpT (c := .ne) (by show ¬ (_ = _); omega)) (by decide +kernel) ?_
            refine y_same (i := .aload_n 0) (len := 1) (r := (0, 0, 0, 0)) (pc' := 135) (ls' := [some (.inl (some 52)), some (zi xv), some (zi y310)]) (st' := [.inl (some 52)]) (by decide +kernel) (fun k q => by cases q) rfl ?_
            refine y_get (j := 46) (len := 3) (r := (12, 18, 2, 1346)) (by decide +kernel) O306.2.1 (t52 O306.2.1) at52 rfl rfl (g_r52 (f := 18) (T2 := 373) O306.2.1 rfl (by decide)).1 ?_
            refine y_same (i := .iload_n 2) (len := 1) (r := (0, 0, 0, 0)) (pc' := 139) (ls' := [some (.inl (some 52)), some (zi xv), some (zi y310)]) (st' := [zi y310, .inl (some 373)]) (by decide +kernel) (fun k q => by cases q) rfl ?_
            refine y_ial (i := n) (len := 1) (r := (0, 0, 0, 0)) (by decide +kernel) O306.2.1 (tu373 O306.2.1) at373 (by omega) hv312 ?_
            refine y_ic (c := 2) (len := 1) (r := (0, 0, 0, 0)) (by decide +kernel) (by decide) (fun y315 hy315 => ?_)
            rcases Decidable.em (v311.toInt ≠ y315.toInt) with q316 | q316
            ·
              refine y_cT (c := .ne) (off := 23) (pc' := 164) (len := 3) (r := (0, 0, 0, 0)) (by decide +kernel) (acmpT (c := .ne) (by show ¬ (_ = _); omega)) (by decide +kernel) ?_
              refine y_same (i := .aload_n 0) (len := 1) (r := (0, 0, 0, 0)) (pc' := 165) (ls' := [some (.inl (some 52)), some (zi xv), some (zi y310)]) (st' := [.inl (some 52)]) (by decide +kernel) (fun k q => by cases q) rfl ?_
              refine y_get (j := 46) (len := 3) (r := (12, 18, 2, 1346)) (by decide +kernel) O306.2.1 (t52 O306.2.1) at52 rfl rfl (g_r52 (f := 18) (T2 := 373) O306.2.1 rfl (by decide)).1 ?_
              refine y_same (i := .iload_n 2) (len := 1) (r := (0, 0, 0, 0)) (pc' := 169) (ls' := [some (.inl (some 52)), some (zi xv), some (zi y310)]) (st' := [zi y310, .inl (some 373)]) (by decide +kernel) (fun k q => by cases q) rfl ?_
              refine y_ial (i := n) (len := 1) (r := (0, 0, 0, 0)) (by decide +kernel) O306.2.1 (tu373 O306.2.1) at373 (by omega) hv312 ?_
              refine y_ic (c := 2) (len := 1) (r := (0, 0, 0, 0)) (by decide +kernel) (by decide) (fun y317 hy317 => ?_)
              rcases Decidable.em (v311.toInt > y317.toInt) with q318 | q318
              ·
                refine y_cT (c := .gt) (off := 6) (pc' := 177) (len := 3) (r := (0, 0, 0, 0)) (by decide +kernel) (acmpT (c := .gt) (by show _ < _; omega)) (by decide +kernel) ?_
                refine y_same (i := .aload_n 0) (len := 1) (r := (0, 0, 0, 0)) (pc' := 178) (ls' := [some (.inl (some 52)), some (zi xv), some (zi y310)]) (st' := [.inl (some 52)]) (by decide +kernel) (fun k q => by cases q) rfl ?_
                refine y_get (j := 46) (len := 3) (r := (12, 18, 2, 1346)) (by decide +kernel) O306.2.1 (t52 O306.2.1) at52 rfl rfl (g_r52 (f := 18) (T2 := 373) O306.2.1 rfl (by decide)).1 ?_
                refine y_same (i := .iload_n 2) (len := 1) (r := (0, 0, 0, 0)) (pc' := 182) (ls' := [some (.inl (some 52)), some (zi xv), some (zi y310)]) (st' := [zi y310, .inl (some 373)]) (by decide +kernel) (fun k q => by cases q) rfl ?_
                refine y_ial (i := n) (len := 1) (r := (0, 0, 0, 0)) (by decide +kernel) O306.2.1 (tu373 O306.2.1) at373 (by omega) hv312 ?_
                refine y_bi (c := 6) (len := 2) (r := (0, 0, 0, 0)) (by decide +kernel) (by decide) (fun y319 hy319 => ?_)
                rcases Decidable.em (v311.toInt = y319.toInt) with q320 | q320
                ·
                  refine y_cT (c := .eq) (off := 14) (pc' := 199) (len := 3) (r := (0, 0, 0, 0)) (by decide +kernel) (acmpT (c := .eq) (by show _ = _; omega)) (by decide +kernel) ?_
                  refine y_same (i := .aload_n 0) (len := 1) (r := (0, 0, 0, 0)) (pc' := 200) (ls' := [some (.inl (some 52)), some (zi xv), some (zi y310)]) (st' := [.inl (some 52)]) (by decide +kernel) (fun k q => by cases q) rfl ?_
                  refine y_same (i := .iload_n 2) (len := 1) (r := (0, 0, 0, 0)) (pc' := 201) (ls' := [some (.inl (some 52)), some (zi xv), some (zi y310)]) (st' := [zi y310, .inl (some 52)]) (by decide +kernel) (fun k q => by cases q) rfl ?_
                  refine y_ic (c := 1) (len := 1) (r := (0, 0, 0, 0)) (by decide +kernel) (by decide) (fun y321 hy321 => ?_)
                  have hv323 := (O306.2.2 52 52 30 (t52 hg302) (show 52 ≠ 68 ∧ 52 ≠ 69 ∧ 52 ≠ 378 ∧ 52 ≠ 71 + n ∧ ((52 ≠ 371 ∧ 52 ≠ 372 ∧ 52 ≠ 373 ∧ 52 ≠ 374 ∧ 52 ≠ 375 ∧ 52 ≠ 376) ∨ 30 ≠ n) ∧ (52 ≠ 52 ∨ 30 ≠ 26) by omega)).trans hs302
                  refine y_cV (i := .invokevirtual 394) (len := 3) (r := (0, 237, 12, 1632)) (nL := 3) (k := 0) (n := 3) (hs := []) (args := [.inl (some 52), zi y310, zi y321]) (rest := []) (l0 := [some (.inl (some 52)), some (zi y310), some (zi y321)]) (by decide +kernel) (Or.inr (Or.inl ⟨_, rfl⟩)) rfl rfl rfl rfl (Nat.le_of_ble_eq_true rfl) (z52 O306.2.1) rfl (e_waits (td := (td - 1)) O306.2.1 (by omega) (by omega) (by omega) (by omega) hv323 (by omega) (by omega)) (fun h322 hR322 => ?_)
                  obtain ⟨O322, a322, b322, x322, c322, e322⟩ := hR322
                  refine y_same (i := .aload_n 0) (len := 1) (r := (0, 0, 0, 0)) (pc' := 206) (ls' := [some (.inl (some 52)), some (zi xv), some (zi y310)]) (st' := [.inl (some 52)]) (by decide +kernel) (fun k q => by cases q) rfl ?_
                  refine y_same (i := .iload_n 2) (len := 1) (r := (0, 0, 0, 0)) (pc' := 207) (ls' := [some (.inl (some 52)), some (zi xv), some (zi y310)]) (st' := [zi y310, .inl (some 52)]) (by decide +kernel) (fun k q => by cases q) rfl ?_
                  refine y_ic (c := 0) (len := 1) (r := (0, 0, 0, 0)) (by decide +kernel) (by decide) (fun y324 hy324 => ?_)
                  refine y_cV (i := .invokevirtual 394) (len := 3) (r := (0, 237, 12, 1632)) (nL := 3) (k := 0) (n := 3) (hs := []) (args := [.inl (some 52), zi y310, zi y324]) (rest := []) (l0 := [some (.inl (some 52)), some (zi y310), some (zi y324)]) (by decide +kernel) (Or.inr (Or.inl ⟨_, rfl⟩)) rfl rfl rfl rfl (Nat.le_of_ble_eq_true rfl) (z52 O322.2.1) rfl (e_waits (td := ((td - 1) + 1)) O322.2.1 (by omega) (by omega) (by omega) (by omega) c322 (by omega) (by omega)) (fun h325 hR325 => ?_)
                  obtain ⟨O325, a325, b325, x325, c325, e325⟩ := hR325
                  refine y_goto (off := (-154)) (pc' := 57) (len := 3) (r := (0, 0, 0, 0)) (by decide +kernel) (by decide +kernel) ?_
                  have hv326 := (O322.2.2 52 52 26 (t52 O306.2.1) (show ((52 ≠ 379 ∧ 52 ≠ 380) ∨ 26 ≠ (td - 1)) ∧ (52 ≠ 52 ∨ 26 ≠ 30) by omega)).trans s26
                  have hv327 := (O325.2.2 52 52 26 (t52 O322.2.1) (show ((52 ≠ 379 ∧ 52 ≠ 380) ∨ 26 ≠ ((td - 1) + 1)) ∧ (52 ≠ 52 ∨ 26 ≠ 30) by omega)).trans hv326
                  have hv328 := (ho302 52 29 (Or.inr (by omega))).trans hd
                  have hv329 := (O306.2.2 52 52 29 (t52 hg302) (show 52 ≠ 68 ∧ 52 ≠ 69 ∧ 52 ≠ 378 ∧ 52 ≠ 71 + n ∧ ((52 ≠ 371 ∧ 52 ≠ 372 ∧ 52 ≠ 373 ∧ 52 ≠ 374 ∧ 52 ≠ 375 ∧ 52 ≠ 376) ∨ 29 ≠ n) ∧ (52 ≠ 52 ∨ 29 ≠ 26) by omega)).trans hv328
                  have hv330 := (O322.2.2 52 52 29 (t52 O306.2.1) (show ((52 ≠ 379 ∧ 52 ≠ 380) ∨ 29 ≠ (td - 1)) ∧ (52 ≠ 52 ∨ 29 ≠ 30) by omega)).trans hv329
                  have hv331 := (O325.2.2 52 52 29 (t52 O322.2.1) (show ((52 ≠ 379 ∧ 52 ≠ 380) ∨ 29 ≠ ((td - 1) + 1)) ∧ (52 ≠ 52 ∨ 29 ≠ 30) by omega)).trans hv330
                  have hv332 := (O322.2.2 373 373 n (tu373 O306.2.1) (show ((373 ≠ 379 ∧ 373 ≠ 380) ∨ n ≠ (td - 1)) ∧ (373 ≠ 52 ∨ n ≠ 30) by omega)).trans hv312
                  have hv333 := (O325.2.2 373 373 n (tu373 O322.2.1) (show ((373 ≠ 379 ∧ 373 ≠ 380) ∨ n ≠ ((td - 1) + 1)) ∧ (373 ≠ 52 ∨ n ≠ 30) by omega)).trans hv332
                  have hv334 := (O325.2.2 379 379 (td - 1) (tu379 O322.2.1) (show ((379 ≠ 379 ∧ 379 ≠ 380) ∨ (td - 1) ≠ ((td - 1) + 1)) ∧ (379 ≠ 52 ∨ (td - 1) ≠ 30) by omega)).trans a322
                  have F : oF (fun k j => k ≠ 68 ∧ k ≠ 69 ∧ k ≠ 378 ∧ k ≠ 71 + n ∧ k ≠ 52 ∧ k ≠ 377 ∧ ((k ≠ 371 ∧ k ≠ 372 ∧ k ≠ 373 ∧ k ≠ 374 ∧ k ≠ 375 ∧ k ≠ 376) ∨ j ≠ n) ∧ ((k ≠ 379 ∧ k ≠ 380) ∨ j < td - 1)) τ h τ306 h325 := ⟨(aup_trans (aup_trans O306.1 O322.1) O325.1), O325.2.1, fun k T j hk (hC : k ≠ 68 ∧ k ≠ 69 ∧ k ≠ 378 ∧ k ≠ 71 + n ∧ k ≠ 52 ∧ k ≠ 377 ∧ ((k ≠ 371 ∧ k ≠ 372 ∧ k ≠ 373 ∧ k ≠ 374 ∧ k ≠ 375 ∧ k ≠ 376) ∨ j ≠ n) ∧ ((k ≠ 379 ∧ k ≠ 380) ∨ j < td - 1)) => ((O325.2.2 k T j (O322.1 _ _ (O306.1 _ _ hk)) (show ((k ≠ 379 ∧ k ≠ 380) ∨ j ≠ ((td - 1) + 1)) ∧ (k ≠ 52 ∨ j ≠ 30) by omega)).trans ((O322.2.2 k T j (O306.1 _ _ hk) (show ((k ≠ 379 ∧ k ≠ 380) ∨ j ≠ (td - 1)) ∧ (k ≠ 52 ∨ j ≠ 30) by omega)).trans ((O306.2.2 k T j hk (show k ≠ 68 ∧ k ≠ 69 ∧ k ≠ 378 ∧ k ≠ 71 + n ∧ ((k ≠ 371 ∧ k ≠ 372 ∧ k ≠ 373 ∧ k ≠ 374 ∧ k ≠ 375 ∧ k ≠ 376) ∨ j ≠ n) ∧ (k ≠ 52 ∨ j ≠ 26) by omega)).trans (ho302 k j (by omega)))))⟩
                  have G2 : Gv h325 (n + 1) := Gv_up2 G1 O306.2.1 (by omega) ⟨(aup_trans O322.1 O325.1), O325.2.1, fun k T j hk (hC : k ≠ 377 ∧ k ≠ 379 ∧ k ≠ 380 ∧ k ≠ 52) => ((O325.2.2 k T j (O322.1 _ _ hk) (show ((k ≠ 379 ∧ k ≠ 380) ∨ j ≠ ((td - 1) + 1)) ∧ (k ≠ 52 ∨ j ≠ 30) by omega)).trans (O322.2.2 k T j hk (show ((k ≠ 379 ∧ k ≠ 380) ∨ j ≠ (td - 1)) ∧ (k ≠ 52 ∨ j ≠ 30) by omega)))⟩
                  have En : ∀ i, i < td - 1 → ent h325 (n + 1) i := fun i hi => ent_up (hent i (by omega)) (by omega) (F.2.2 379 379 i (tu379 hg) (show 379 ≠ 68 ∧ 379 ≠ 69 ∧ 379 ≠ 378 ∧ 379 ≠ 71 + n ∧ 379 ≠ 52 ∧ 379 ≠ 377 ∧ ((379 ≠ 371 ∧ 379 ≠ 372 ∧ 379 ≠ 373 ∧ 379 ≠ 374 ∧ 379 ≠ 375 ∧ 379 ≠ 376) ∨ i ≠ n) ∧ ((379 ≠ 379 ∧ 379 ≠ 380) ∨ i < td - 1) by omega)) (fun j hj => F.2.2 373 373 j (tu373 hg) (show 373 ≠ 68 ∧ 373 ≠ 69 ∧ 373 ≠ 378 ∧ 373 ≠ 71 + n ∧ 373 ≠ 52 ∧ 373 ≠ 377 ∧ ((373 ≠ 371 ∧ 373 ≠ 372 ∧ 373 ≠ 373 ∧ 373 ≠ 374 ∧ 373 ≠ 375 ∧ 373 ≠ 376) ∨ j ≠ n) ∧ ((373 ≠ 379 ∧ 373 ≠ 380) ∨ j < td - 1) by omega))
                  have En2 : ∀ i, i < (((td - 1) + 1) + 1) → ent h325 (n + 1) i := fun i hi => by
                    rcases (show i < td - 1 ∨ i = (td - 1) ∨ i = ((td - 1) + 1) by omega) with q | rfl | rfl
                    · exact En i q
                    · exact ent_new hv334 (by omega) hv333 (by omega) (by omega)
                    · exact ent_new a325 (by omega) hv333 (by omega) (by omega)
                  exact ih τ306 h325 ⟨aup_trans O0.1 (aup_trans (aup_trans O306.1 O322.1) O325.1), O325.2.1, fun k T j hk (hC : k ≠ 68 ∧ k ≠ 69 ∧ (k < 71 ∨ 380 < k) ∧ (k ≠ 52 ∨ j < 26 ∨ 32 < j)) => (((O325.2.2 k T j (O322.1 _ _ (O306.1 _ _ (O0.1 _ _ hk))) (show ((k ≠ 379 ∧ k ≠ 380) ∨ j ≠ ((td - 1) + 1)) ∧ (k ≠ 52 ∨ j ≠ 30) by omega)).trans ((O322.2.2 k T j (O306.1 _ _ (O0.1 _ _ hk)) (show ((k ≠ 379 ∧ k ≠ 380) ∨ j ≠ (td - 1)) ∧ (k ≠ 52 ∨ j ≠ 30) by omega)).trans ((O306.2.2 k T j (O0.1 _ _ hk) (show k ≠ 68 ∧ k ≠ 69 ∧ k ≠ 378 ∧ k ≠ 71 + n ∧ ((k ≠ 371 ∧ k ≠ 372 ∧ k ≠ 373 ∧ k ≠ 374 ∧ k ≠ 375 ∧ k ≠ 376) ∨ j ≠ n) ∧ (k ≠ 52 ∨ j ≠ 26) by omega)).trans (ho302 k j (by omega)))))).trans (O0.2.2 k T j hk hC)⟩ (n + 1) ((((td - 1) + 1) + 1)) (dn) _ ⟨⟨_, hv327, by omega⟩, ⟨_, c325, by omega⟩, ⟨_, hv331, by omega⟩, by omega, by omega, by omega, G2, En2⟩ (by omega)
                ·
                  refine y_cF (c := .eq) (off := 14) (len := 3) (r := (0, 0, 0, 0)) (by decide +kernel) (acmpF (c := .eq) (by show ¬ (_ = _); omega)) ?_
                  refine y_same (i := .aload_n 0) (len := 1) (r := (0, 0, 0, 0)) (pc' := 189) (ls' := [some (.inl (some 52)), some (zi xv), some (zi y310)]) (st' := [.inl (some 52)]) (by decide +kernel) (fun k q => by cases q) rfl ?_
                  refine y_get (j := 46) (len := 3) (r := (12, 18, 2, 1346)) (by decide +kernel) O306.2.1 (t52 O306.2.1) at52 rfl rfl (g_r52 (f := 18) (T2 := 373) O306.2.1 rfl (by decide)).1 ?_
                  refine y_same (i := .iload_n 2) (len := 1) (r := (0, 0, 0, 0)) (pc' := 193) (ls' := [some (.inl (some 52)), some (zi xv), some (zi y310)]) (st' := [zi y310, .inl (some 373)]) (by decide +kernel) (fun k q => by cases q) rfl ?_
                  refine y_ial (i := n) (len := 1) (r := (0, 0, 0, 0)) (by decide +kernel) O306.2.1 (tu373 O306.2.1) at373 (by omega) hv312 ?_
                  refine y_bi (c := 7) (len := 2) (r := (0, 0, 0, 0)) (by decide +kernel) (by decide) (fun y335 hy335 => ?_)
                  rcases Decidable.em (v311.toInt ≠ y335.toInt) with q336 | q336
                  ·
                    refine y_cT (c := .ne) (off := 9) (pc' := 205) (len := 3) (r := (0, 0, 0, 0)) (by decide +kernel) (acmpT (c := .ne) (by show ¬ (_ = _); omega)) (by decide +kernel) ?_
                    refine y_same (i := .aload_n 0) (len := 1) (r := (0, 0, 0, 0)) (pc' := 206) (ls' := [some (.inl (some 52)), some (zi xv), some (zi y310)]) (st' := [.inl (some 52)]) (by decide +kernel) (fun k q => by cases q) rfl ?_
                    refine y_same (i := .iload_n 2) (len := 1) (r := (0, 0, 0, 0)) (pc' := 207) (ls' := [some (.inl (some 52)), some (zi xv), some (zi y310)]) (st' := [zi y310, .inl (some 52)]) (by decide +kernel) (fun k q => by cases q) rfl ?_
                    refine y_ic (c := 0) (len := 1) (r := (0, 0, 0, 0)) (by decide +kernel) (by decide) (fun y337 hy337 => ?_)
                    have hv339 := (O306.2.2 52 52 30 (t52 hg302) (show 52 ≠ 68 ∧ 52 ≠ 69 ∧ 52 ≠ 378 ∧ 52 ≠ 71 + n ∧ ((52 ≠ 371 ∧ 52 ≠ 372 ∧ 52 ≠ 373 ∧ 52 ≠ 374 ∧ 52 ≠ 375 ∧ 52 ≠ 376) ∨ 30 ≠ n) ∧ (52 ≠ 52 ∨ 30 ≠ 26) by omega)).trans hs302
                    refine y_cV (i := .invokevirtual 394) (len := 3) (r := (0, 237, 12, 1632)) (nL := 3) (k := 0) (n := 3) (hs := []) (args := [.inl (some 52), zi y310, zi y337]) (rest := []) (l0 := [some (.inl (some 52)), some (zi y310), some (zi y337)]) (by decide +kernel) (Or.inr (Or.inl ⟨_, rfl⟩)) rfl rfl rfl rfl (Nat.le_of_ble_eq_true rfl) (z52 O306.2.1) rfl (e_waits (td := (td - 1)) O306.2.1 (by omega) (by omega) (by omega) (by omega) hv339 (by omega) (by omega)) (fun h338 hR338 => ?_)
                    obtain ⟨O338, a338, b338, x338, c338, e338⟩ := hR338
                    refine y_goto (off := (-154)) (pc' := 57) (len := 3) (r := (0, 0, 0, 0)) (by decide +kernel) (by decide +kernel) ?_
                    have hv340 := (O338.2.2 52 52 26 (t52 O306.2.1) (show ((52 ≠ 379 ∧ 52 ≠ 380) ∨ 26 ≠ (td - 1)) ∧ (52 ≠ 52 ∨ 26 ≠ 30) by omega)).trans s26
                    have hv341 := (ho302 52 29 (Or.inr (by omega))).trans hd
                    have hv342 := (O306.2.2 52 52 29 (t52 hg302) (show 52 ≠ 68 ∧ 52 ≠ 69 ∧ 52 ≠ 378 ∧ 52 ≠ 71 + n ∧ ((52 ≠ 371 ∧ 52 ≠ 372 ∧ 52 ≠ 373 ∧ 52 ≠ 374 ∧ 52 ≠ 375 ∧ 52 ≠ 376) ∨ 29 ≠ n) ∧ (52 ≠ 52 ∨ 29 ≠ 26) by omega)).trans hv341
                    have hv343 := (O338.2.2 52 52 29 (t52 O306.2.1) (show ((52 ≠ 379 ∧ 52 ≠ 380) ∨ 29 ≠ (td - 1)) ∧ (52 ≠ 52 ∨ 29 ≠ 30) by omega)).trans hv342
                    have hv344 := (O338.2.2 373 373 n (tu373 O306.2.1) (show ((373 ≠ 379 ∧ 373 ≠ 380) ∨ n ≠ (td - 1)) ∧ (373 ≠ 52 ∨ n ≠ 30) by omega)).trans hv312
                    have F : oF (fun k j => k ≠ 68 ∧ k ≠ 69 ∧ k ≠ 378 ∧ k ≠ 71 + n ∧ k ≠ 52 ∧ k ≠ 377 ∧ ((k ≠ 371 ∧ k ≠ 372 ∧ k ≠ 373 ∧ k ≠ 374 ∧ k ≠ 375 ∧ k ≠ 376) ∨ j ≠ n) ∧ ((k ≠ 379 ∧ k ≠ 380) ∨ j < td - 1)) τ h τ306 h338 := ⟨(aup_trans O306.1 O338.1), O338.2.1, fun k T j hk (hC : k ≠ 68 ∧ k ≠ 69 ∧ k ≠ 378 ∧ k ≠ 71 + n ∧ k ≠ 52 ∧ k ≠ 377 ∧ ((k ≠ 371 ∧ k ≠ 372 ∧ k ≠ 373 ∧ k ≠ 374 ∧ k ≠ 375 ∧ k ≠ 376) ∨ j ≠ n) ∧ ((k ≠ 379 ∧ k ≠ 380) ∨ j < td - 1)) => ((O338.2.2 k T j (O306.1 _ _ hk) (show ((k ≠ 379 ∧ k ≠ 380) ∨ j ≠ (td - 1)) ∧ (k ≠ 52 ∨ j ≠ 30) by omega)).trans ((O306.2.2 k T j hk (show k ≠ 68 ∧ k ≠ 69 ∧ k ≠ 378 ∧ k ≠ 71 + n ∧ ((k ≠ 371 ∧ k ≠ 372 ∧ k ≠ 373 ∧ k ≠ 374 ∧ k ≠ 375 ∧ k ≠ 376) ∨ j ≠ n) ∧ (k ≠ 52 ∨ j ≠ 26) by omega)).trans (ho302 k j (by omega))))⟩
                    have G2 : Gv h338 (n + 1) := Gv_up2 G1 O306.2.1 (by omega) ⟨O338.1, O338.2.1, fun k T j hk (hC : k ≠ 377 ∧ k ≠ 379 ∧ k ≠ 380 ∧ k ≠ 52) => (O338.2.2 k T j hk (show ((k ≠ 379 ∧ k ≠ 380) ∨ j ≠ (td - 1)) ∧ (k ≠ 52 ∨ j ≠ 30) by omega))⟩
                    have En : ∀ i, i < td - 1 → ent h338 (n + 1) i := fun i hi => ent_up (hent i (by omega)) (by omega) (F.2.2 379 379 i (tu379 hg) (show 379 ≠ 68 ∧ 379 ≠ 69 ∧ 379 ≠ 378 ∧ 379 ≠ 71 + n ∧ 379 ≠ 52 ∧ 379 ≠ 377 ∧ ((379 ≠ 371 ∧ 379 ≠ 372 ∧ 379 ≠ 373 ∧ 379 ≠ 374 ∧ 379 ≠ 375 ∧ 379 ≠ 376) ∨ i ≠ n) ∧ ((379 ≠ 379 ∧ 379 ≠ 380) ∨ i < td - 1) by omega)) (fun j hj => F.2.2 373 373 j (tu373 hg) (show 373 ≠ 68 ∧ 373 ≠ 69 ∧ 373 ≠ 378 ∧ 373 ≠ 71 + n ∧ 373 ≠ 52 ∧ 373 ≠ 377 ∧ ((373 ≠ 371 ∧ 373 ≠ 372 ∧ 373 ≠ 373 ∧ 373 ≠ 374 ∧ 373 ≠ 375 ∧ 373 ≠ 376) ∨ j ≠ n) ∧ ((373 ≠ 379 ∧ 373 ≠ 380) ∨ j < td - 1) by omega))
                    have En2 : ∀ i, i < ((td - 1) + 1) → ent h338 (n + 1) i := fun i hi => by
                      rcases (show i < td - 1 ∨ i = (td - 1) by omega) with q | rfl
                      · exact En i q
                      · exact ent_new a338 (by omega) hv344 (by omega) (by omega)
                    exact ih τ306 h338 ⟨aup_trans O0.1 (aup_trans O306.1 O338.1), O338.2.1, fun k T j hk (hC : k ≠ 68 ∧ k ≠ 69 ∧ (k < 71 ∨ 380 < k) ∧ (k ≠ 52 ∨ j < 26 ∨ 32 < j)) => (((O338.2.2 k T j (O306.1 _ _ (O0.1 _ _ hk)) (show ((k ≠ 379 ∧ k ≠ 380) ∨ j ≠ (td - 1)) ∧ (k ≠ 52 ∨ j ≠ 30) by omega)).trans ((O306.2.2 k T j (O0.1 _ _ hk) (show k ≠ 68 ∧ k ≠ 69 ∧ k ≠ 378 ∧ k ≠ 71 + n ∧ ((k ≠ 371 ∧ k ≠ 372 ∧ k ≠ 373 ∧ k ≠ 374 ∧ k ≠ 375 ∧ k ≠ 376) ∨ j ≠ n) ∧ (k ≠ 52 ∨ j ≠ 26) by omega)).trans (ho302 k j (by omega))))).trans (O0.2.2 k T j hk hC)⟩ (n + 1) (((td - 1) + 1)) (dn) _ ⟨⟨_, hv340, by omega⟩, ⟨_, c338, by omega⟩, ⟨_, hv343, by omega⟩, by omega, by omega, by omega, G2, En2⟩ (by omega)
                  ·
                    refine y_cF (c := .ne) (off := 9) (len := 3) (r := (0, 0, 0, 0)) (by decide +kernel) (acmpF (c := .ne) (by show _ = _; omega)) ?_
                    refine y_same (i := .aload_n 0) (len := 1) (r := (0, 0, 0, 0)) (pc' := 200) (ls' := [some (.inl (some 52)), some (zi xv), some (zi y310)]) (st' := [.inl (some 52)]) (by decide +kernel) (fun k q => by cases q) rfl ?_
                    refine y_same (i := .iload_n 2) (len := 1) (r := (0, 0, 0, 0)) (pc' := 201) (ls' := [some (.inl (some 52)), some (zi xv), some (zi y310)]) (st' := [zi y310, .inl (some 52)]) (by decide +kernel) (fun k q => by cases q) rfl ?_
                    refine y_ic (c := 1) (len := 1) (r := (0, 0, 0, 0)) (by decide +kernel) (by decide) (fun y345 hy345 => ?_)
                    have hv347 := (O306.2.2 52 52 30 (t52 hg302) (show 52 ≠ 68 ∧ 52 ≠ 69 ∧ 52 ≠ 378 ∧ 52 ≠ 71 + n ∧ ((52 ≠ 371 ∧ 52 ≠ 372 ∧ 52 ≠ 373 ∧ 52 ≠ 374 ∧ 52 ≠ 375 ∧ 52 ≠ 376) ∨ 30 ≠ n) ∧ (52 ≠ 52 ∨ 30 ≠ 26) by omega)).trans hs302
                    refine y_cV (i := .invokevirtual 394) (len := 3) (r := (0, 237, 12, 1632)) (nL := 3) (k := 0) (n := 3) (hs := []) (args := [.inl (some 52), zi y310, zi y345]) (rest := []) (l0 := [some (.inl (some 52)), some (zi y310), some (zi y345)]) (by decide +kernel) (Or.inr (Or.inl ⟨_, rfl⟩)) rfl rfl rfl rfl (Nat.le_of_ble_eq_true rfl) (z52 O306.2.1) rfl (e_waits (td := (td - 1)) O306.2.1 (by omega) (by omega) (by omega) (by omega) hv347 (by omega) (by omega)) (fun h346 hR346 => ?_)
                    obtain ⟨O346, a346, b346, x346, c346, e346⟩ := hR346
                    refine y_same (i := .aload_n 0) (len := 1) (r := (0, 0, 0, 0)) (pc' := 206) (ls' := [some (.inl (some 52)), some (zi xv), some (zi y310)]) (st' := [.inl (some 52)]) (by decide +kernel) (fun k q => by cases q) rfl ?_
                    refine y_same (i := .iload_n 2) (len := 1) (r := (0, 0, 0, 0)) (pc' := 207) (ls' := [some (.inl (some 52)), some (zi xv), some (zi y310)]) (st' := [zi y310, .inl (some 52)]) (by decide +kernel) (fun k q => by cases q) rfl ?_
                    refine y_ic (c := 0) (len := 1) (r := (0, 0, 0, 0)) (by decide +kernel) (by decide) (fun y348 hy348 => ?_)
                    refine y_cV (i := .invokevirtual 394) (len := 3) (r := (0, 237, 12, 1632)) (nL := 3) (k := 0) (n := 3) (hs := []) (args := [.inl (some 52), zi y310, zi y348]) (rest := []) (l0 := [some (.inl (some 52)), some (zi y310), some (zi y348)]) (by decide +kernel) (Or.inr (Or.inl ⟨_, rfl⟩)) rfl rfl rfl rfl (Nat.le_of_ble_eq_true rfl) (z52 O346.2.1) rfl (e_waits (td := ((td - 1) + 1)) O346.2.1 (by omega) (by omega) (by omega) (by omega) c346 (by omega) (by omega)) (fun h349 hR349 => ?_)
                    obtain ⟨O349, a349, b349, x349, c349, e349⟩ := hR349
                    refine y_goto (off := (-154)) (pc' := 57) (len := 3) (r := (0, 0, 0, 0)) (by decide +kernel) (by decide +kernel) ?_
                    have hv350 := (O346.2.2 52 52 26 (t52 O306.2.1) (show ((52 ≠ 379 ∧ 52 ≠ 380) ∨ 26 ≠ (td - 1)) ∧ (52 ≠ 52 ∨ 26 ≠ 30) by omega)).trans s26
                    have hv351 := (O349.2.2 52 52 26 (t52 O346.2.1) (show ((52 ≠ 379 ∧ 52 ≠ 380) ∨ 26 ≠ ((td - 1) + 1)) ∧ (52 ≠ 52 ∨ 26 ≠ 30) by omega)).trans hv350
                    have hv352 := (ho302 52 29 (Or.inr (by omega))).trans hd
                    have hv353 := (O306.2.2 52 52 29 (t52 hg302) (show 52 ≠ 68 ∧ 52 ≠ 69 ∧ 52 ≠ 378 ∧ 52 ≠ 71 + n ∧ ((52 ≠ 371 ∧ 52 ≠ 372 ∧ 52 ≠ 373 ∧ 52 ≠ 374 ∧ 52 ≠ 375 ∧ 52 ≠ 376) ∨ 29 ≠ n) ∧ (52 ≠ 52 ∨ 29 ≠ 26) by omega)).trans hv352
                    have hv354 := (O346.2.2 52 52 29 (t52 O306.2.1) (show ((52 ≠ 379 ∧ 52 ≠ 380) ∨ 29 ≠ (td - 1)) ∧ (52 ≠ 52 ∨ 29 ≠ 30) by omega)).trans hv353
                    have hv355 := (O349.2.2 52 52 29 (t52 O346.2.1) (show ((52 ≠ 379 ∧ 52 ≠ 380) ∨ 29 ≠ ((td - 1) + 1)) ∧ (52 ≠ 52 ∨ 29 ≠ 30) by omega)).trans hv354
                    have hv356 := (O346.2.2 373 373 n (tu373 O306.2.1) (show ((373 ≠ 379 ∧ 373 ≠ 380) ∨ n ≠ (td - 1)) ∧ (373 ≠ 52 ∨ n ≠ 30) by omega)).trans hv312
                    have hv357 := (O349.2.2 373 373 n (tu373 O346.2.1) (show ((373 ≠ 379 ∧ 373 ≠ 380) ∨ n ≠ ((td - 1) + 1)) ∧ (373 ≠ 52 ∨ n ≠ 30) by omega)).trans hv356
                    have hv358 := (O349.2.2 379 379 (td - 1) (tu379 O346.2.1) (show ((379 ≠ 379 ∧ 379 ≠ 380) ∨ (td - 1) ≠ ((td - 1) + 1)) ∧ (379 ≠ 52 ∨ (td - 1) ≠ 30) by omega)).trans a346
                    have F : oF (fun k j => k ≠ 68 ∧ k ≠ 69 ∧ k ≠ 378 ∧ k ≠ 71 + n ∧ k ≠ 52 ∧ k ≠ 377 ∧ ((k ≠ 371 ∧ k ≠ 372 ∧ k ≠ 373 ∧ k ≠ 374 ∧ k ≠ 375 ∧ k ≠ 376) ∨ j ≠ n) ∧ ((k ≠ 379 ∧ k ≠ 380) ∨ j < td - 1)) τ h τ306 h349 := ⟨(aup_trans (aup_trans O306.1 O346.1) O349.1), O349.2.1, fun k T j hk (hC : k ≠ 68 ∧ k ≠ 69 ∧ k ≠ 378 ∧ k ≠ 71 + n ∧ k ≠ 52 ∧ k ≠ 377 ∧ ((k ≠ 371 ∧ k ≠ 372 ∧ k ≠ 373 ∧ k ≠ 374 ∧ k ≠ 375 ∧ k ≠ 376) ∨ j ≠ n) ∧ ((k ≠ 379 ∧ k ≠ 380) ∨ j < td - 1)) => ((O349.2.2 k T j (O346.1 _ _ (O306.1 _ _ hk)) (show ((k ≠ 379 ∧ k ≠ 380) ∨ j ≠ ((td - 1) + 1)) ∧ (k ≠ 52 ∨ j ≠ 30) by omega)).trans ((O346.2.2 k T j (O306.1 _ _ hk) (show ((k ≠ 379 ∧ k ≠ 380) ∨ j ≠ (td - 1)) ∧ (k ≠ 52 ∨ j ≠ 30) by omega)).trans ((O306.2.2 k T j hk (show k ≠ 68 ∧ k ≠ 69 ∧ k ≠ 378 ∧ k ≠ 71 + n ∧ ((k ≠ 371 ∧ k ≠ 372 ∧ k ≠ 373 ∧ k ≠ 374 ∧ k ≠ 375 ∧ k ≠ 376) ∨ j ≠ n) ∧ (k ≠ 52 ∨ j ≠ 26) by omega)).trans (ho302 k j (by omega)))))⟩
                    have G2 : Gv h349 (n + 1) := Gv_up2 G1 O306.2.1 (by omega) ⟨(aup_trans O346.1 O349.1), O349.2.1, fun k T j hk (hC : k ≠ 377 ∧ k ≠ 379 ∧ k ≠ 380 ∧ k ≠ 52) => ((O349.2.2 k T j (O346.1 _ _ hk) (show ((k ≠ 379 ∧ k ≠ 380) ∨ j ≠ ((td - 1) + 1)) ∧ (k ≠ 52 ∨ j ≠ 30) by omega)).trans (O346.2.2 k T j hk (show ((k ≠ 379 ∧ k ≠ 380) ∨ j ≠ (td - 1)) ∧ (k ≠ 52 ∨ j ≠ 30) by omega)))⟩
                    have En : ∀ i, i < td - 1 → ent h349 (n + 1) i := fun i hi => ent_up (hent i (by omega)) (by omega) (F.2.2 379 379 i (tu379 hg) (show 379 ≠ 68 ∧ 379 ≠ 69 ∧ 379 ≠ 378 ∧ 379 ≠ 71 + n ∧ 379 ≠ 52 ∧ 379 ≠ 377 ∧ ((379 ≠ 371 ∧ 379 ≠ 372 ∧ 379 ≠ 373 ∧ 379 ≠ 374 ∧ 379 ≠ 375 ∧ 379 ≠ 376) ∨ i ≠ n) ∧ ((379 ≠ 379 ∧ 379 ≠ 380) ∨ i < td - 1) by omega)) (fun j hj => F.2.2 373 373 j (tu373 hg) (show 373 ≠ 68 ∧ 373 ≠ 69 ∧ 373 ≠ 378 ∧ 373 ≠ 71 + n ∧ 373 ≠ 52 ∧ 373 ≠ 377 ∧ ((373 ≠ 371 ∧ 373 ≠ 372 ∧ 373 ≠ 373 ∧ 373 ≠ 374 ∧ 373 ≠ 375 ∧ 373 ≠ 376) ∨ j ≠ n) ∧ ((373 ≠ 379 ∧ 373 ≠ 380) ∨ j < td - 1) by omega))
                    have En2 : ∀ i, i < (((td - 1) + 1) + 1) → ent h349 (n + 1) i := fun i hi => by
                      rcases (show i < td - 1 ∨ i = (td - 1) ∨ i = ((td - 1) + 1) by omega) with q | rfl | rfl
                      · exact En i q
                      · exact ent_new hv358 (by omega) hv357 (by omega) (by omega)
                      · exact ent_new a349 (by omega) hv357 (by omega) (by omega)
                    exact ih τ306 h349 ⟨aup_trans O0.1 (aup_trans (aup_trans O306.1 O346.1) O349.1), O349.2.1, fun k T j hk (hC : k ≠ 68 ∧ k ≠ 69 ∧ (k < 71 ∨ 380 < k) ∧ (k ≠ 52 ∨ j < 26 ∨ 32 < j)) => (((O349.2.2 k T j (O346.1 _ _ (O306.1 _ _ (O0.1 _ _ hk))) (show ((k ≠ 379 ∧ k ≠ 380) ∨ j ≠ ((td - 1) + 1)) ∧ (k ≠ 52 ∨ j ≠ 30) by omega)).trans ((O346.2.2 k T j (O306.1 _ _ (O0.1 _ _ hk)) (show ((k ≠ 379 ∧ k ≠ 380) ∨ j ≠ (td - 1)) ∧ (k ≠ 52 ∨ j ≠ 30) by omega)).trans ((O306.2.2 k T j (O0.1 _ _ hk) (show k ≠ 68 ∧ k ≠ 69 ∧ k ≠ 378 ∧ k ≠ 71 + n ∧ ((k ≠ 371 ∧ k ≠ 372 ∧ k ≠ 373 ∧ k ≠ 374 ∧ k ≠ 375 ∧ k ≠ 376) ∨ j ≠ n) ∧ (k ≠ 52 ∨ j ≠ 26) by omega)).trans (ho302 k j (by omega)))))).trans (O0.2.2 k T j hk hC)⟩ (n + 1) ((((td - 1) + 1) + 1)) (dn) _ ⟨⟨_, hv351, by omega⟩, ⟨_, c349, by omega⟩, ⟨_, hv355, by omega⟩, by omega, by omega, by omega, G2, En2⟩ (by omega)
              ·
                refine y_cF (c := .gt) (off := 6) (len := 3) (r := (0, 0, 0, 0)) (by decide +kernel) (acmpF (c := .gt) (by show _ ≤ _; omega)) ?_
                refine y_goto (off := (-117)) (pc' := 57) (len := 3) (r := (0, 0, 0, 0)) (by decide +kernel) (by decide +kernel) ?_
                have hv359 := (O306.2.2 52 52 30 (t52 hg302) (show 52 ≠ 68 ∧ 52 ≠ 69 ∧ 52 ≠ 378 ∧ 52 ≠ 71 + n ∧ ((52 ≠ 371 ∧ 52 ≠ 372 ∧ 52 ≠ 373 ∧ 52 ≠ 374 ∧ 52 ≠ 375 ∧ 52 ≠ 376) ∨ 30 ≠ n) ∧ (52 ≠ 52 ∨ 30 ≠ 26) by omega)).trans hs302
                have hv360 := (ho302 52 29 (Or.inr (by omega))).trans hd
                have hv361 := (O306.2.2 52 52 29 (t52 hg302) (show 52 ≠ 68 ∧ 52 ≠ 69 ∧ 52 ≠ 378 ∧ 52 ≠ 71 + n ∧ ((52 ≠ 371 ∧ 52 ≠ 372 ∧ 52 ≠ 373 ∧ 52 ≠ 374 ∧ 52 ≠ 375 ∧ 52 ≠ 376) ∨ 29 ≠ n) ∧ (52 ≠ 52 ∨ 29 ≠ 26) by omega)).trans hv360
                have F : oF (fun k j => k ≠ 68 ∧ k ≠ 69 ∧ k ≠ 378 ∧ k ≠ 71 + n ∧ k ≠ 52 ∧ k ≠ 377 ∧ ((k ≠ 371 ∧ k ≠ 372 ∧ k ≠ 373 ∧ k ≠ 374 ∧ k ≠ 375 ∧ k ≠ 376) ∨ j ≠ n) ∧ ((k ≠ 379 ∧ k ≠ 380) ∨ j < td - 1)) τ h τ306 h306 := ⟨O306.1, O306.2.1, fun k T j hk (hC : k ≠ 68 ∧ k ≠ 69 ∧ k ≠ 378 ∧ k ≠ 71 + n ∧ k ≠ 52 ∧ k ≠ 377 ∧ ((k ≠ 371 ∧ k ≠ 372 ∧ k ≠ 373 ∧ k ≠ 374 ∧ k ≠ 375 ∧ k ≠ 376) ∨ j ≠ n) ∧ ((k ≠ 379 ∧ k ≠ 380) ∨ j < td - 1)) => ((O306.2.2 k T j hk (show k ≠ 68 ∧ k ≠ 69 ∧ k ≠ 378 ∧ k ≠ 71 + n ∧ ((k ≠ 371 ∧ k ≠ 372 ∧ k ≠ 373 ∧ k ≠ 374 ∧ k ≠ 375 ∧ k ≠ 376) ∨ j ≠ n) ∧ (k ≠ 52 ∨ j ≠ 26) by omega)).trans (ho302 k j (by omega)))⟩
                have G2 : Gv h306 (n + 1) := Gv_up2 G1 O306.2.1 (by omega) ⟨(aup_refl _), O306.2.1, fun k T j hk (hC : k ≠ 377 ∧ k ≠ 379 ∧ k ≠ 380 ∧ k ≠ 52) => rfl⟩
                have En : ∀ i, i < td - 1 → ent h306 (n + 1) i := fun i hi => ent_up (hent i (by omega)) (by omega) (F.2.2 379 379 i (tu379 hg) (show 379 ≠ 68 ∧ 379 ≠ 69 ∧ 379 ≠ 378 ∧ 379 ≠ 71 + n ∧ 379 ≠ 52 ∧ 379 ≠ 377 ∧ ((379 ≠ 371 ∧ 379 ≠ 372 ∧ 379 ≠ 373 ∧ 379 ≠ 374 ∧ 379 ≠ 375 ∧ 379 ≠ 376) ∨ i ≠ n) ∧ ((379 ≠ 379 ∧ 379 ≠ 380) ∨ i < td - 1) by omega)) (fun j hj => F.2.2 373 373 j (tu373 hg) (show 373 ≠ 68 ∧ 373 ≠ 69 ∧ 373 ≠ 378 ∧ 373 ≠ 71 + n ∧ 373 ≠ 52 ∧ 373 ≠ 377 ∧ ((373 ≠ 371 ∧ 373 ≠ 372 ∧ 373 ≠ 373 ∧ 373 ≠ 374 ∧ 373 ≠ 375 ∧ 373 ≠ 376) ∨ j ≠ n) ∧ ((373 ≠ 379 ∧ 373 ≠ 380) ∨ j < td - 1) by omega))
                exact ih τ306 h306 ⟨aup_trans O0.1 O306.1, O306.2.1, fun k T j hk (hC : k ≠ 68 ∧ k ≠ 69 ∧ (k < 71 ∨ 380 < k) ∧ (k ≠ 52 ∨ j < 26 ∨ 32 < j)) => (((O306.2.2 k T j (O0.1 _ _ hk) (show k ≠ 68 ∧ k ≠ 69 ∧ k ≠ 378 ∧ k ≠ 71 + n ∧ ((k ≠ 371 ∧ k ≠ 372 ∧ k ≠ 373 ∧ k ≠ 374 ∧ k ≠ 375 ∧ k ≠ 376) ∨ j ≠ n) ∧ (k ≠ 52 ∨ j ≠ 26) by omega)).trans (ho302 k j (by omega)))).trans (O0.2.2 k T j hk hC)⟩ (n + 1) ((td - 1)) (dn) _ ⟨⟨_, s26, by omega⟩, ⟨_, hv359, by omega⟩, ⟨_, hv361, by omega⟩, by omega, by omega, by omega, G2, En⟩ (by omega)
            ·
              refine y_cF (c := .ne) (off := 23) (len := 3) (r := (0, 0, 0, 0)) (by decide +kernel) (acmpF (c := .ne) (by show _ = _; omega)) ?_
              refine y_same (i := .aload_n 0) (len := 1) (r := (0, 0, 0, 0)) (pc' := 145) (ls' := [some (.inl (some 52)), some (zi xv), some (zi y310)]) (st' := [.inl (some 52)]) (by decide +kernel) (fun k q => by cases q) rfl ?_
              refine y_get (j := 58) (len := 3) (r := (12, 22, 2, 1350)) (by decide +kernel) O306.2.1 (t52 O306.2.1) at52 rfl rfl (g_r52 (f := 22) (T2 := 377) O306.2.1 rfl (by decide)).1 ?_
              refine y_same (i := .aload_n 0) (len := 1) (r := (0, 0, 0, 0)) (pc' := 149) (ls' := [some (.inl (some 52)), some (zi xv), some (zi y310)]) (st' := [.inl (some 52), .inl (some 377)]) (by decide +kernel) (fun k q => by cases q) rfl ?_
              have hv362 := (ho302 52 29 (Or.inr (by omega))).trans hd
              have hv363 := (O306.2.2 52 52 29 (t52 hg302) (show 52 ≠ 68 ∧ 52 ≠ 69 ∧ 52 ≠ 378 ∧ 52 ≠ 71 + n ∧ ((52 ≠ 371 ∧ 52 ≠ 372 ∧ 52 ≠ 373 ∧ 52 ≠ 374 ∧ 52 ≠ 375 ∧ 52 ≠ 376) ∨ 29 ≠ n) ∧ (52 ≠ 52 ∨ 29 ≠ 26) by omega)).trans hv362
              refine y_get (j := 385) (len := 3) (r := (12, 29, 0, 1357)) (by decide +kernel) O306.2.1 (t52 O306.2.1) at52 rfl rfl hv363 ?_
              refine y_same (i := .iload_n 2) (len := 1) (r := (0, 0, 0, 0)) (pc' := 153) (ls' := [some (.inl (some 52)), some (zi xv), some (zi y310)]) (st' := [zi y310, zi xd, .inl (some 377)]) (by decide +kernel) (fun k q => by cases q) rfl ?_
              refine y_ias (i := dn) (len := 1) (r := (0, 0, 0, 0)) (by decide +kernel) O306.2.1 (tu377 O306.2.1) at377 rfl (by omega) (by omega) (sr1 (by omega)) (by omega) (by omega) (fun h364 hg364 hl364 hs364 ho364 => ?_)
              refine y_same (i := .aload_n 0) (len := 1) (r := (0, 0, 0, 0)) (pc' := 155) (ls' := [some (.inl (some 52)), some (zi xv), some (zi y310)]) (st' := [.inl (some 52)]) (by decide +kernel) (fun k q => by cases q) rfl ?_
              refine y_same (i := .dup) (len := 1) (r := (0, 0, 0, 0)) (pc' := 156) (ls' := [some (.inl (some 52)), some (zi xv), some (zi y310)]) (st' := [.inl (some 52), .inl (some 52)]) (by decide +kernel) (fun k q => by cases q) rfl ?_
              have hv365 := (ho364 52 29 (Or.inl (by omega))).trans hv363
              refine y_get (j := 385) (len := 3) (r := (12, 29, 0, 1357)) (by decide +kernel) hg364 (t52 hg364) at52 rfl rfl hv365 ?_
              refine y_ic (c := 1) (len := 1) (r := (0, 0, 0, 0)) (by decide +kernel) (by decide) (fun y366 hy366 => ?_)
              refine y_add (len := 1) (r := (0, 0, 0, 0)) (by decide +kernel) (by omega) (by omega) (fun y367 hy367 => ?_)
              refine y_put (j := 385) (lo := 0) (hi := 300) (len := 3) (r := (12, 29, 0, 1357)) (by decide +kernel) hg364 (t52 hg364) at52 rfl rfl (by decide) rfl (by omega) (by omega) rfl (fun h368 hg368 hl368 hs368 ho368 => ?_)
              have ho368 : hO 52 29 h364 h368 := ho368
              have hs368 : hsl h368 52 29 = some (zi y367) := hs368
              refine y_same (i := .aload_n 0) (len := 1) (r := (0, 0, 0, 0)) (pc' := 165) (ls' := [some (.inl (some 52)), some (zi xv), some (zi y310)]) (st' := [.inl (some 52)]) (by decide +kernel) (fun k q => by cases q) rfl ?_
              refine y_get (j := 46) (len := 3) (r := (12, 18, 2, 1346)) (by decide +kernel) hg368 (t52 hg368) at52 rfl rfl (g_r52 (f := 18) (T2 := 373) hg368 rfl (by decide)).1 ?_
              refine y_same (i := .iload_n 2) (len := 1) (r := (0, 0, 0, 0)) (pc' := 169) (ls' := [some (.inl (some 52)), some (zi xv), some (zi y310)]) (st' := [zi y310, .inl (some 373)]) (by decide +kernel) (fun k q => by cases q) rfl ?_
              have hv369 := (ho364 373 n (Or.inl (by omega))).trans hv312
              have hv370 := (ho368 373 n (Or.inl (by omega))).trans hv369
              refine y_ial (i := n) (len := 1) (r := (0, 0, 0, 0)) (by decide +kernel) hg368 (tu373 hg368) at373 (by omega) hv370 ?_
              refine y_ic (c := 2) (len := 1) (r := (0, 0, 0, 0)) (by decide +kernel) (by decide) (fun y371 hy371 => ?_)
              rcases Decidable.em (v311.toInt > y371.toInt) with q372 | q372
              ·
                refine y_cT (c := .gt) (off := 6) (pc' := 177) (len := 3) (r := (0, 0, 0, 0)) (by decide +kernel) (acmpT (c := .gt) (by show _ < _; omega)) (by decide +kernel) ?_
                refine y_same (i := .aload_n 0) (len := 1) (r := (0, 0, 0, 0)) (pc' := 178) (ls' := [some (.inl (some 52)), some (zi xv), some (zi y310)]) (st' := [.inl (some 52)]) (by decide +kernel) (fun k q => by cases q) rfl ?_
                refine y_get (j := 46) (len := 3) (r := (12, 18, 2, 1346)) (by decide +kernel) hg368 (t52 hg368) at52 rfl rfl (g_r52 (f := 18) (T2 := 373) hg368 rfl (by decide)).1 ?_
                refine y_same (i := .iload_n 2) (len := 1) (r := (0, 0, 0, 0)) (pc' := 182) (ls' := [some (.inl (some 52)), some (zi xv), some (zi y310)]) (st' := [zi y310, .inl (some 373)]) (by decide +kernel) (fun k q => by cases q) rfl ?_
                refine y_ial (i := n) (len := 1) (r := (0, 0, 0, 0)) (by decide +kernel) hg368 (tu373 hg368) at373 (by omega) hv370 ?_
                refine y_bi (c := 6) (len := 2) (r := (0, 0, 0, 0)) (by decide +kernel) (by decide) (fun y373 hy373 => ?_)
                rcases Decidable.em (v311.toInt = y373.toInt) with q374 | q374
                ·
                  refine y_cT (c := .eq) (off := 14) (pc' := 199) (len := 3) (r := (0, 0, 0, 0)) (by decide +kernel) (acmpT (c := .eq) (by show _ = _; omega)) (by decide +kernel) ?_
                  refine y_same (i := .aload_n 0) (len := 1) (r := (0, 0, 0, 0)) (pc' := 200) (ls' := [some (.inl (some 52)), some (zi xv), some (zi y310)]) (st' := [.inl (some 52)]) (by decide +kernel) (fun k q => by cases q) rfl ?_
                  refine y_same (i := .iload_n 2) (len := 1) (r := (0, 0, 0, 0)) (pc' := 201) (ls' := [some (.inl (some 52)), some (zi xv), some (zi y310)]) (st' := [zi y310, .inl (some 52)]) (by decide +kernel) (fun k q => by cases q) rfl ?_
                  refine y_ic (c := 1) (len := 1) (r := (0, 0, 0, 0)) (by decide +kernel) (by decide) (fun y375 hy375 => ?_)
                  have hv377 := (O306.2.2 52 52 30 (t52 hg302) (show 52 ≠ 68 ∧ 52 ≠ 69 ∧ 52 ≠ 378 ∧ 52 ≠ 71 + n ∧ ((52 ≠ 371 ∧ 52 ≠ 372 ∧ 52 ≠ 373 ∧ 52 ≠ 374 ∧ 52 ≠ 375 ∧ 52 ≠ 376) ∨ 30 ≠ n) ∧ (52 ≠ 52 ∨ 30 ≠ 26) by omega)).trans hs302
                  have hv378 := (ho364 52 30 (Or.inl (by omega))).trans hv377
                  have hv379 := (ho368 52 30 (Or.inr (by omega))).trans hv378
                  refine y_cV (i := .invokevirtual 394) (len := 3) (r := (0, 237, 12, 1632)) (nL := 3) (k := 0) (n := 3) (hs := []) (args := [.inl (some 52), zi y310, zi y375]) (rest := []) (l0 := [some (.inl (some 52)), some (zi y310), some (zi y375)]) (by decide +kernel) (Or.inr (Or.inl ⟨_, rfl⟩)) rfl rfl rfl rfl (Nat.le_of_ble_eq_true rfl) (z52 hg368) rfl (e_waits (td := (td - 1)) hg368 (by omega) (by omega) (by omega) (by omega) hv379 (by omega) (by omega)) (fun h376 hR376 => ?_)
                  obtain ⟨O376, a376, b376, x376, c376, e376⟩ := hR376
                  refine y_same (i := .aload_n 0) (len := 1) (r := (0, 0, 0, 0)) (pc' := 206) (ls' := [some (.inl (some 52)), some (zi xv), some (zi y310)]) (st' := [.inl (some 52)]) (by decide +kernel) (fun k q => by cases q) rfl ?_
                  refine y_same (i := .iload_n 2) (len := 1) (r := (0, 0, 0, 0)) (pc' := 207) (ls' := [some (.inl (some 52)), some (zi xv), some (zi y310)]) (st' := [zi y310, .inl (some 52)]) (by decide +kernel) (fun k q => by cases q) rfl ?_
                  refine y_ic (c := 0) (len := 1) (r := (0, 0, 0, 0)) (by decide +kernel) (by decide) (fun y380 hy380 => ?_)
                  refine y_cV (i := .invokevirtual 394) (len := 3) (r := (0, 237, 12, 1632)) (nL := 3) (k := 0) (n := 3) (hs := []) (args := [.inl (some 52), zi y310, zi y380]) (rest := []) (l0 := [some (.inl (some 52)), some (zi y310), some (zi y380)]) (by decide +kernel) (Or.inr (Or.inl ⟨_, rfl⟩)) rfl rfl rfl rfl (Nat.le_of_ble_eq_true rfl) (z52 O376.2.1) rfl (e_waits (td := ((td - 1) + 1)) O376.2.1 (by omega) (by omega) (by omega) (by omega) c376 (by omega) (by omega)) (fun h381 hR381 => ?_)
                  obtain ⟨O381, a381, b381, x381, c381, e381⟩ := hR381
                  refine y_goto (off := (-154)) (pc' := 57) (len := 3) (r := (0, 0, 0, 0)) (by decide +kernel) (by decide +kernel) ?_
                  have hv382 := (ho364 52 26 (Or.inl (by omega))).trans s26
                  have hv383 := (ho368 52 26 (Or.inr (by omega))).trans hv382
                  have hv384 := (O376.2.2 52 52 26 (t52 hg368) (show ((52 ≠ 379 ∧ 52 ≠ 380) ∨ 26 ≠ (td - 1)) ∧ (52 ≠ 52 ∨ 26 ≠ 30) by omega)).trans hv383
                  have hv385 := (O381.2.2 52 52 26 (t52 O376.2.1) (show ((52 ≠ 379 ∧ 52 ≠ 380) ∨ 26 ≠ ((td - 1) + 1)) ∧ (52 ≠ 52 ∨ 26 ≠ 30) by omega)).trans hv384
                  have hv386 := (O376.2.2 52 52 29 (t52 hg368) (show ((52 ≠ 379 ∧ 52 ≠ 380) ∨ 29 ≠ (td - 1)) ∧ (52 ≠ 52 ∨ 29 ≠ 30) by omega)).trans hs368
                  have hv387 := (O381.2.2 52 52 29 (t52 O376.2.1) (show ((52 ≠ 379 ∧ 52 ≠ 380) ∨ 29 ≠ ((td - 1) + 1)) ∧ (52 ≠ 52 ∨ 29 ≠ 30) by omega)).trans hv386
                  have hv388 := (O376.2.2 373 373 n (tu373 hg368) (show ((373 ≠ 379 ∧ 373 ≠ 380) ∨ n ≠ (td - 1)) ∧ (373 ≠ 52 ∨ n ≠ 30) by omega)).trans hv370
                  have hv389 := (O381.2.2 373 373 n (tu373 O376.2.1) (show ((373 ≠ 379 ∧ 373 ≠ 380) ∨ n ≠ ((td - 1) + 1)) ∧ (373 ≠ 52 ∨ n ≠ 30) by omega)).trans hv388
                  have hv390 := (O381.2.2 379 379 (td - 1) (tu379 O376.2.1) (show ((379 ≠ 379 ∧ 379 ≠ 380) ∨ (td - 1) ≠ ((td - 1) + 1)) ∧ (379 ≠ 52 ∨ (td - 1) ≠ 30) by omega)).trans a376
                  have F : oF (fun k j => k ≠ 68 ∧ k ≠ 69 ∧ k ≠ 378 ∧ k ≠ 71 + n ∧ k ≠ 52 ∧ k ≠ 377 ∧ ((k ≠ 371 ∧ k ≠ 372 ∧ k ≠ 373 ∧ k ≠ 374 ∧ k ≠ 375 ∧ k ≠ 376) ∨ j ≠ n) ∧ ((k ≠ 379 ∧ k ≠ 380) ∨ j < td - 1)) τ h τ306 h381 := ⟨(aup_trans (aup_trans O306.1 O376.1) O381.1), O381.2.1, fun k T j hk (hC : k ≠ 68 ∧ k ≠ 69 ∧ k ≠ 378 ∧ k ≠ 71 + n ∧ k ≠ 52 ∧ k ≠ 377 ∧ ((k ≠ 371 ∧ k ≠ 372 ∧ k ≠ 373 ∧ k ≠ 374 ∧ k ≠ 375 ∧ k ≠ 376) ∨ j ≠ n) ∧ ((k ≠ 379 ∧ k ≠ 380) ∨ j < td - 1)) => ((O381.2.2 k T j (O376.1 _ _ (O306.1 _ _ hk)) (show ((k ≠ 379 ∧ k ≠ 380) ∨ j ≠ ((td - 1) + 1)) ∧ (k ≠ 52 ∨ j ≠ 30) by omega)).trans ((O376.2.2 k T j (O306.1 _ _ hk) (show ((k ≠ 379 ∧ k ≠ 380) ∨ j ≠ (td - 1)) ∧ (k ≠ 52 ∨ j ≠ 30) by omega)).trans ((ho368 k j (by omega)).trans ((ho364 k j (by omega)).trans ((O306.2.2 k T j hk (show k ≠ 68 ∧ k ≠ 69 ∧ k ≠ 378 ∧ k ≠ 71 + n ∧ ((k ≠ 371 ∧ k ≠ 372 ∧ k ≠ 373 ∧ k ≠ 374 ∧ k ≠ 375 ∧ k ≠ 376) ∨ j ≠ n) ∧ (k ≠ 52 ∨ j ≠ 26) by omega)).trans (ho302 k j (by omega)))))))⟩
                  have G2 : Gv h381 (n + 1) := Gv_up2 G1 O306.2.1 (by omega) ⟨(aup_trans O376.1 O381.1), O381.2.1, fun k T j hk (hC : k ≠ 377 ∧ k ≠ 379 ∧ k ≠ 380 ∧ k ≠ 52) => ((O381.2.2 k T j (O376.1 _ _ hk) (show ((k ≠ 379 ∧ k ≠ 380) ∨ j ≠ ((td - 1) + 1)) ∧ (k ≠ 52 ∨ j ≠ 30) by omega)).trans ((O376.2.2 k T j hk (show ((k ≠ 379 ∧ k ≠ 380) ∨ j ≠ (td - 1)) ∧ (k ≠ 52 ∨ j ≠ 30) by omega)).trans ((ho368 k j (by omega)).trans (ho364 k j (by omega)))))⟩
                  have En : ∀ i, i < td - 1 → ent h381 (n + 1) i := fun i hi => ent_up (hent i (by omega)) (by omega) (F.2.2 379 379 i (tu379 hg) (show 379 ≠ 68 ∧ 379 ≠ 69 ∧ 379 ≠ 378 ∧ 379 ≠ 71 + n ∧ 379 ≠ 52 ∧ 379 ≠ 377 ∧ ((379 ≠ 371 ∧ 379 ≠ 372 ∧ 379 ≠ 373 ∧ 379 ≠ 374 ∧ 379 ≠ 375 ∧ 379 ≠ 376) ∨ i ≠ n) ∧ ((379 ≠ 379 ∧ 379 ≠ 380) ∨ i < td - 1) by omega)) (fun j hj => F.2.2 373 373 j (tu373 hg) (show 373 ≠ 68 ∧ 373 ≠ 69 ∧ 373 ≠ 378 ∧ 373 ≠ 71 + n ∧ 373 ≠ 52 ∧ 373 ≠ 377 ∧ ((373 ≠ 371 ∧ 373 ≠ 372 ∧ 373 ≠ 373 ∧ 373 ≠ 374 ∧ 373 ≠ 375 ∧ 373 ≠ 376) ∨ j ≠ n) ∧ ((373 ≠ 379 ∧ 373 ≠ 380) ∨ j < td - 1) by omega))
                  have En2 : ∀ i, i < (((td - 1) + 1) + 1) → ent h381 (n + 1) i := fun i hi => by
                    rcases (show i < td - 1 ∨ i = (td - 1) ∨ i = ((td - 1) + 1) by omega) with q | rfl | rfl
                    · exact En i q
                    · exact ent_new hv390 (by omega) hv389 (by omega) (by omega)
                    · exact ent_new a381 (by omega) hv389 (by omega) (by omega)
                  exact ih τ306 h381 ⟨aup_trans O0.1 (aup_trans (aup_trans O306.1 O376.1) O381.1), O381.2.1, fun k T j hk (hC : k ≠ 68 ∧ k ≠ 69 ∧ (k < 71 ∨ 380 < k) ∧ (k ≠ 52 ∨ j < 26 ∨ 32 < j)) => (((O381.2.2 k T j (O376.1 _ _ (O306.1 _ _ (O0.1 _ _ hk))) (show ((k ≠ 379 ∧ k ≠ 380) ∨ j ≠ ((td - 1) + 1)) ∧ (k ≠ 52 ∨ j ≠ 30) by omega)).trans ((O376.2.2 k T j (O306.1 _ _ (O0.1 _ _ hk)) (show ((k ≠ 379 ∧ k ≠ 380) ∨ j ≠ (td - 1)) ∧ (k ≠ 52 ∨ j ≠ 30) by omega)).trans ((ho368 k j (by omega)).trans ((ho364 k j (by omega)).trans ((O306.2.2 k T j (O0.1 _ _ hk) (show k ≠ 68 ∧ k ≠ 69 ∧ k ≠ 378 ∧ k ≠ 71 + n ∧ ((k ≠ 371 ∧ k ≠ 372 ∧ k ≠ 373 ∧ k ≠ 374 ∧ k ≠ 375 ∧ k ≠ 376) ∨ j ≠ n) ∧ (k ≠ 52 ∨ j ≠ 26) by omega)).trans (ho302 k j (by omega)))))))).trans (O0.2.2 k T j hk hC)⟩ (n + 1) ((((td - 1) + 1) + 1)) ((dn + 1)) _ ⟨⟨_, hv385, by omega⟩, ⟨_, c381, by omega⟩, ⟨_, hv387, by omega⟩, by omega, by omega, by omega, G2, En2⟩ (by omega)
                ·
                  refine y_cF (c := .eq) (off := 14) (len := 3) (r := (0, 0, 0, 0)) (by decide +kernel) (acmpF (c := .eq) (by show ¬ (_ = _); omega)) ?_
                  refine y_same (i := .aload_n 0) (len := 1) (r := (0, 0, 0, 0)) (pc' := 189) (ls' := [some (.inl (some 52)), some (zi xv), some (zi y310)]) (st' := [.inl (some 52)]) (by decide +kernel) (fun k q => by cases q) rfl ?_
                  refine y_get (j := 46) (len := 3) (r := (12, 18, 2, 1346)) (by decide +kernel) hg368 (t52 hg368) at52 rfl rfl (g_r52 (f := 18) (T2 := 373) hg368 rfl (by decide)).1 ?_
                  refine y_same (i := .iload_n 2) (len := 1) (r := (0, 0, 0, 0)) (pc' := 193) (ls' := [some (.inl (some 52)), some (zi xv), some (zi y310)]) (st' := [zi y310, .inl (some 373)]) (by decide +kernel) (fun k q => by cases q) rfl ?_
                  refine y_ial (i := n) (len := 1) (r := (0, 0, 0, 0)) (by decide +kernel) hg368 (tu373 hg368) at373 (by omega) hv370 ?_
                  refine y_bi (c := 7) (len := 2) (r := (0, 0, 0, 0)) (by decide +kernel) (by decide) (fun y391 hy391 => ?_)
                  rcases Decidable.em (v311.toInt ≠ y391.toInt) with q392 | q392
                  ·
                    refine y_cT (c := .ne) (off := 9) (pc' := 205) (len := 3) (r := (0, 0, 0, 0)) (by decide +kernel) (acmpT (c := .ne) (by show ¬ (_ = _); omega)) (by decide +kernel) ?_
                    refine y_same (i := .aload_n 0) (len := 1) (r := (0, 0, 0, 0)) (pc' := 206) (ls' := [some (.inl (some 52)), some (zi xv), some (zi y310)]) (st' := [.inl (some 52)]) (by decide +kernel) (fun k q => by cases q) rfl ?_
                    refine y_same (i := .iload_n 2) (len := 1) (r := (0, 0, 0, 0)) (pc' := 207) (ls' := [some (.inl (some 52)), some (zi xv), some (zi y310)]) (st' := [zi y310, .inl (some 52)]) (by decide +kernel) (fun k q => by cases q) rfl ?_
                    refine y_ic (c := 0) (len := 1) (r := (0, 0, 0, 0)) (by decide +kernel) (by decide) (fun y393 hy393 => ?_)
                    have hv395 := (O306.2.2 52 52 30 (t52 hg302) (show 52 ≠ 68 ∧ 52 ≠ 69 ∧ 52 ≠ 378 ∧ 52 ≠ 71 + n ∧ ((52 ≠ 371 ∧ 52 ≠ 372 ∧ 52 ≠ 373 ∧ 52 ≠ 374 ∧ 52 ≠ 375 ∧ 52 ≠ 376) ∨ 30 ≠ n) ∧ (52 ≠ 52 ∨ 30 ≠ 26) by omega)).trans hs302
                    have hv396 := (ho364 52 30 (Or.inl (by omega))).trans hv395
                    have hv397 := (ho368 52 30 (Or.inr (by omega))).trans hv396
                    refine y_cV (i := .invokevirtual 394) (len := 3) (r := (0, 237, 12, 1632)) (nL := 3) (k := 0) (n := 3) (hs := []) (args := [.inl (some 52), zi y310, zi y393]) (rest := []) (l0 := [some (.inl (some 52)), some (zi y310), some (zi y393)]) (by decide +kernel) (Or.inr (Or.inl ⟨_, rfl⟩)) rfl rfl rfl rfl (Nat.le_of_ble_eq_true rfl) (z52 hg368) rfl (e_waits (td := (td - 1)) hg368 (by omega) (by omega) (by omega) (by omega) hv397 (by omega) (by omega)) (fun h394 hR394 => ?_)
                    obtain ⟨O394, a394, b394, x394, c394, e394⟩ := hR394
                    refine y_goto (off := (-154)) (pc' := 57) (len := 3) (r := (0, 0, 0, 0)) (by decide +kernel) (by decide +kernel) ?_
                    have hv398 := (ho364 52 26 (Or.inl (by omega))).trans s26
                    have hv399 := (ho368 52 26 (Or.inr (by omega))).trans hv398
                    have hv400 := (O394.2.2 52 52 26 (t52 hg368) (show ((52 ≠ 379 ∧ 52 ≠ 380) ∨ 26 ≠ (td - 1)) ∧ (52 ≠ 52 ∨ 26 ≠ 30) by omega)).trans hv399
                    have hv401 := (O394.2.2 52 52 29 (t52 hg368) (show ((52 ≠ 379 ∧ 52 ≠ 380) ∨ 29 ≠ (td - 1)) ∧ (52 ≠ 52 ∨ 29 ≠ 30) by omega)).trans hs368
                    have hv402 := (O394.2.2 373 373 n (tu373 hg368) (show ((373 ≠ 379 ∧ 373 ≠ 380) ∨ n ≠ (td - 1)) ∧ (373 ≠ 52 ∨ n ≠ 30) by omega)).trans hv370
                    have F : oF (fun k j => k ≠ 68 ∧ k ≠ 69 ∧ k ≠ 378 ∧ k ≠ 71 + n ∧ k ≠ 52 ∧ k ≠ 377 ∧ ((k ≠ 371 ∧ k ≠ 372 ∧ k ≠ 373 ∧ k ≠ 374 ∧ k ≠ 375 ∧ k ≠ 376) ∨ j ≠ n) ∧ ((k ≠ 379 ∧ k ≠ 380) ∨ j < td - 1)) τ h τ306 h394 := ⟨(aup_trans O306.1 O394.1), O394.2.1, fun k T j hk (hC : k ≠ 68 ∧ k ≠ 69 ∧ k ≠ 378 ∧ k ≠ 71 + n ∧ k ≠ 52 ∧ k ≠ 377 ∧ ((k ≠ 371 ∧ k ≠ 372 ∧ k ≠ 373 ∧ k ≠ 374 ∧ k ≠ 375 ∧ k ≠ 376) ∨ j ≠ n) ∧ ((k ≠ 379 ∧ k ≠ 380) ∨ j < td - 1)) => ((O394.2.2 k T j (O306.1 _ _ hk) (show ((k ≠ 379 ∧ k ≠ 380) ∨ j ≠ (td - 1)) ∧ (k ≠ 52 ∨ j ≠ 30) by omega)).trans ((ho368 k j (by omega)).trans ((ho364 k j (by omega)).trans ((O306.2.2 k T j hk (show k ≠ 68 ∧ k ≠ 69 ∧ k ≠ 378 ∧ k ≠ 71 + n ∧ ((k ≠ 371 ∧ k ≠ 372 ∧ k ≠ 373 ∧ k ≠ 374 ∧ k ≠ 375 ∧ k ≠ 376) ∨ j ≠ n) ∧ (k ≠ 52 ∨ j ≠ 26) by omega)).trans (ho302 k j (by omega))))))⟩
                    have G2 : Gv h394 (n + 1) := Gv_up2 G1 O306.2.1 (by omega) ⟨O394.1, O394.2.1, fun k T j hk (hC : k ≠ 377 ∧ k ≠ 379 ∧ k ≠ 380 ∧ k ≠ 52) => ((O394.2.2 k T j hk (show ((k ≠ 379 ∧ k ≠ 380) ∨ j ≠ (td - 1)) ∧ (k ≠ 52 ∨ j ≠ 30) by omega)).trans ((ho368 k j (by omega)).trans (ho364 k j (by omega))))⟩
                    have En : ∀ i, i < td - 1 → ent h394 (n + 1) i := fun i hi => ent_up (hent i (by omega)) (by omega) (F.2.2 379 379 i (tu379 hg) (show 379 ≠ 68 ∧ 379 ≠ 69 ∧ 379 ≠ 378 ∧ 379 ≠ 71 + n ∧ 379 ≠ 52 ∧ 379 ≠ 377 ∧ ((379 ≠ 371 ∧ 379 ≠ 372 ∧ 379 ≠ 373 ∧ 379 ≠ 374 ∧ 379 ≠ 375 ∧ 379 ≠ 376) ∨ i ≠ n) ∧ ((379 ≠ 379 ∧ 379 ≠ 380) ∨ i < td - 1) by omega)) (fun j hj => F.2.2 373 373 j (tu373 hg) (show 373 ≠ 68 ∧ 373 ≠ 69 ∧ 373 ≠ 378 ∧ 373 ≠ 71 + n ∧ 373 ≠ 52 ∧ 373 ≠ 377 ∧ ((373 ≠ 371 ∧ 373 ≠ 372 ∧ 373 ≠ 373 ∧ 373 ≠ 374 ∧ 373 ≠ 375 ∧ 373 ≠ 376) ∨ j ≠ n) ∧ ((373 ≠ 379 ∧ 373 ≠ 380) ∨ j < td - 1) by omega))
                    have En2 : ∀ i, i < ((td - 1) + 1) → ent h394 (n + 1) i := fun i hi => by
                      rcases (show i < td - 1 ∨ i = (td - 1) by omega) with q | rfl
                      · exact En i q
                      · exact ent_new a394 (by omega) hv402 (by omega) (by omega)
                    exact ih τ306 h394 ⟨aup_trans O0.1 (aup_trans O306.1 O394.1), O394.2.1, fun k T j hk (hC : k ≠ 68 ∧ k ≠ 69 ∧ (k < 71 ∨ 380 < k) ∧ (k ≠ 52 ∨ j < 26 ∨ 32 < j)) => (((O394.2.2 k T j (O306.1 _ _ (O0.1 _ _ hk)) (show ((k ≠ 379 ∧ k ≠ 380) ∨ j ≠ (td - 1)) ∧ (k ≠ 52 ∨ j ≠ 30) by omega)).trans ((ho368 k j (by omega)).trans ((ho364 k j (by omega)).trans ((O306.2.2 k T j (O0.1 _ _ hk) (show k ≠ 68 ∧ k ≠ 69 ∧ k ≠ 378 ∧ k ≠ 71 + n ∧ ((k ≠ 371 ∧ k ≠ 372 ∧ k ≠ 373 ∧ k ≠ 374 ∧ k ≠ 375 ∧ k ≠ 376) ∨ j ≠ n) ∧ (k ≠ 52 ∨ j ≠ 26) by omega)).trans (ho302 k j (by omega))))))).trans (O0.2.2 k T j hk hC)⟩ (n + 1) (((td - 1) + 1)) ((dn + 1)) _ ⟨⟨_, hv400, by omega⟩, ⟨_, c394, by omega⟩, ⟨_, hv401, by omega⟩, by omega, by omega, by omega, G2, En2⟩ (by omega)
                  ·
                    refine y_cF (c := .ne) (off := 9) (len := 3) (r := (0, 0, 0, 0)) (by decide +kernel) (acmpF (c := .ne) (by show _ = _; omega)) ?_
                    refine y_same (i := .aload_n 0) (len := 1) (r := (0, 0, 0, 0)) (pc' := 200) (ls' := [some (.inl (some 52)), some (zi xv), some (zi y310)]) (st' := [.inl (some 52)]) (by decide +kernel) (fun k q => by cases q) rfl ?_
                    refine y_same (i := .iload_n 2) (len := 1) (r := (0, 0, 0, 0)) (pc' := 201) (ls' := [some (.inl (some 52)), some (zi xv), some (zi y310)]) (st' := [zi y310, .inl (some 52)]) (by decide +kernel) (fun k q => by cases q) rfl ?_
                    refine y_ic (c := 1) (len := 1) (r := (0, 0, 0, 0)) (by decide +kernel) (by decide) (fun y403 hy403 => ?_)
                    have hv405 := (O306.2.2 52 52 30 (t52 hg302) (show 52 ≠ 68 ∧ 52 ≠ 69 ∧ 52 ≠ 378 ∧ 52 ≠ 71 + n ∧ ((52 ≠ 371 ∧ 52 ≠ 372 ∧ 52 ≠ 373 ∧ 52 ≠ 374 ∧ 52 ≠ 375 ∧ 52 ≠ 376) ∨ 30 ≠ n) ∧ (52 ≠ 52 ∨ 30 ≠ 26) by omega)).trans hs302
                    have hv406 := (ho364 52 30 (Or.inl (by omega))).trans hv405
                    have hv407 := (ho368 52 30 (Or.inr (by omega))).trans hv406
                    refine y_cV (i := .invokevirtual 394) (len := 3) (r := (0, 237, 12, 1632)) (nL := 3) (k := 0) (n := 3) (hs := []) (args := [.inl (some 52), zi y310, zi y403]) (rest := []) (l0 := [some (.inl (some 52)), some (zi y310), some (zi y403)]) (by decide +kernel) (Or.inr (Or.inl ⟨_, rfl⟩)) rfl rfl rfl rfl (Nat.le_of_ble_eq_true rfl) (z52 hg368) rfl (e_waits (td := (td - 1)) hg368 (by omega) (by omega) (by omega) (by omega) hv407 (by omega) (by omega)) (fun h404 hR404 => ?_)
                    obtain ⟨O404, a404, b404, x404, c404, e404⟩ := hR404
                    refine y_same (i := .aload_n 0) (len := 1) (r := (0, 0, 0, 0)) (pc' := 206) (ls' := [some (.inl (some 52)), some (zi xv), some (zi y310)]) (st' := [.inl (some 52)]) (by decide +kernel) (fun k q => by cases q) rfl ?_
                    refine y_same (i := .iload_n 2) (len := 1) (r := (0, 0, 0, 0)) (pc' := 207) (ls' := [some (.inl (some 52)), some (zi xv), some (zi y310)]) (st' := [zi y310, .inl (some 52)]) (by decide +kernel) (fun k q => by cases q) rfl ?_
                    refine y_ic (c := 0) (len := 1) (r := (0, 0, 0, 0)) (by decide +kernel) (by decide) (fun y408 hy408 => ?_)
                    refine y_cV (i := .invokevirtual 394) (len := 3) (r := (0, 237, 12, 1632)) (nL := 3) (k := 0) (n := 3) (hs := []) (args := [.inl (some 52), zi y310, zi y408]) (rest := []) (l0 := [some (.inl (some 52)), some (zi y310), some (zi y408)]) (by decide +kernel) (Or.inr (Or.inl ⟨_, rfl⟩)) rfl rfl rfl rfl (Nat.le_of_ble_eq_true rfl) (z52 O404.2.1) rfl (e_waits (td := ((td - 1) + 1)) O404.2.1 (by omega) (by omega) (by omega) (by omega) c404 (by omega) (by omega)) (fun h409 hR409 => ?_)
                    obtain ⟨O409, a409, b409, x409, c409, e409⟩ := hR409
                    refine y_goto (off := (-154)) (pc' := 57) (len := 3) (r := (0, 0, 0, 0)) (by decide +kernel) (by decide +kernel) ?_
                    have hv410 := (ho364 52 26 (Or.inl (by omega))).trans s26
                    have hv411 := (ho368 52 26 (Or.inr (by omega))).trans hv410
                    have hv412 := (O404.2.2 52 52 26 (t52 hg368) (show ((52 ≠ 379 ∧ 52 ≠ 380) ∨ 26 ≠ (td - 1)) ∧ (52 ≠ 52 ∨ 26 ≠ 30) by omega)).trans hv411
                    have hv413 := (O409.2.2 52 52 26 (t52 O404.2.1) (show ((52 ≠ 379 ∧ 52 ≠ 380) ∨ 26 ≠ ((td - 1) + 1)) ∧ (52 ≠ 52 ∨ 26 ≠ 30) by omega)).trans hv412
                    have hv414 := (O404.2.2 52 52 29 (t52 hg368) (show ((52 ≠ 379 ∧ 52 ≠ 380) ∨ 29 ≠ (td - 1)) ∧ (52 ≠ 52 ∨ 29 ≠ 30) by omega)).trans hs368
                    have hv415 := (O409.2.2 52 52 29 (t52 O404.2.1) (show ((52 ≠ 379 ∧ 52 ≠ 380) ∨ 29 ≠ ((td - 1) + 1)) ∧ (52 ≠ 52 ∨ 29 ≠ 30) by omega)).trans hv414
                    have hv416 := (O404.2.2 373 373 n (tu373 hg368) (show ((373 ≠ 379 ∧ 373 ≠ 380) ∨ n ≠ (td - 1)) ∧ (373 ≠ 52 ∨ n ≠ 30) by omega)).trans hv370
                    have hv417 := (O409.2.2 373 373 n (tu373 O404.2.1) (show ((373 ≠ 379 ∧ 373 ≠ 380) ∨ n ≠ ((td - 1) + 1)) ∧ (373 ≠ 52 ∨ n ≠ 30) by omega)).trans hv416
                    have hv418 := (O409.2.2 379 379 (td - 1) (tu379 O404.2.1) (show ((379 ≠ 379 ∧ 379 ≠ 380) ∨ (td - 1) ≠ ((td - 1) + 1)) ∧ (379 ≠ 52 ∨ (td - 1) ≠ 30) by omega)).trans a404
                    have F : oF (fun k j => k ≠ 68 ∧ k ≠ 69 ∧ k ≠ 378 ∧ k ≠ 71 + n ∧ k ≠ 52 ∧ k ≠ 377 ∧ ((k ≠ 371 ∧ k ≠ 372 ∧ k ≠ 373 ∧ k ≠ 374 ∧ k ≠ 375 ∧ k ≠ 376) ∨ j ≠ n) ∧ ((k ≠ 379 ∧ k ≠ 380) ∨ j < td - 1)) τ h τ306 h409 := ⟨(aup_trans (aup_trans O306.1 O404.1) O409.1), O409.2.1, fun k T j hk (hC : k ≠ 68 ∧ k ≠ 69 ∧ k ≠ 378 ∧ k ≠ 71 + n ∧ k ≠ 52 ∧ k ≠ 377 ∧ ((k ≠ 371 ∧ k ≠ 372 ∧ k ≠ 373 ∧ k ≠ 374 ∧ k ≠ 375 ∧ k ≠ 376) ∨ j ≠ n) ∧ ((k ≠ 379 ∧ k ≠ 380) ∨ j < td - 1)) => ((O409.2.2 k T j (O404.1 _ _ (O306.1 _ _ hk)) (show ((k ≠ 379 ∧ k ≠ 380) ∨ j ≠ ((td - 1) + 1)) ∧ (k ≠ 52 ∨ j ≠ 30) by omega)).trans ((O404.2.2 k T j (O306.1 _ _ hk) (show ((k ≠ 379 ∧ k ≠ 380) ∨ j ≠ (td - 1)) ∧ (k ≠ 52 ∨ j ≠ 30) by omega)).trans ((ho368 k j (by omega)).trans ((ho364 k j (by omega)).trans ((O306.2.2 k T j hk (show k ≠ 68 ∧ k ≠ 69 ∧ k ≠ 378 ∧ k ≠ 71 + n ∧ ((k ≠ 371 ∧ k ≠ 372 ∧ k ≠ 373 ∧ k ≠ 374 ∧ k ≠ 375 ∧ k ≠ 376) ∨ j ≠ n) ∧ (k ≠ 52 ∨ j ≠ 26) by omega)).trans (ho302 k j (by omega)))))))⟩
                    have G2 : Gv h409 (n + 1) := Gv_up2 G1 O306.2.1 (by omega) ⟨(aup_trans O404.1 O409.1), O409.2.1, fun k T j hk (hC : k ≠ 377 ∧ k ≠ 379 ∧ k ≠ 380 ∧ k ≠ 52) => ((O409.2.2 k T j (O404.1 _ _ hk) (show ((k ≠ 379 ∧ k ≠ 380) ∨ j ≠ ((td - 1) + 1)) ∧ (k ≠ 52 ∨ j ≠ 30) by omega)).trans ((O404.2.2 k T j hk (show ((k ≠ 379 ∧ k ≠ 380) ∨ j ≠ (td - 1)) ∧ (k ≠ 52 ∨ j ≠ 30) by omega)).trans ((ho368 k j (by omega)).trans (ho364 k j (by omega)))))⟩
                    have En : ∀ i, i < td - 1 → ent h409 (n + 1) i := fun i hi => ent_up (hent i (by omega)) (by omega) (F.2.2 379 379 i (tu379 hg) (show 379 ≠ 68 ∧ 379 ≠ 69 ∧ 379 ≠ 378 ∧ 379 ≠ 71 + n ∧ 379 ≠ 52 ∧ 379 ≠ 377 ∧ ((379 ≠ 371 ∧ 379 ≠ 372 ∧ 379 ≠ 373 ∧ 379 ≠ 374 ∧ 379 ≠ 375 ∧ 379 ≠ 376) ∨ i ≠ n) ∧ ((379 ≠ 379 ∧ 379 ≠ 380) ∨ i < td - 1) by omega)) (fun j hj => F.2.2 373 373 j (tu373 hg) (show 373 ≠ 68 ∧ 373 ≠ 69 ∧ 373 ≠ 378 ∧ 373 ≠ 71 + n ∧ 373 ≠ 52 ∧ 373 ≠ 377 ∧ ((373 ≠ 371 ∧ 373 ≠ 372 ∧ 373 ≠ 373 ∧ 373 ≠ 374 ∧ 373 ≠ 375 ∧ 373 ≠ 376) ∨ j ≠ n) ∧ ((373 ≠ 379 ∧ 373 ≠ 380) ∨ j < td - 1) by omega))
                    have En2 : ∀ i, i < (((td - 1) + 1) + 1) → ent h409 (n + 1) i := fun i hi => by
                      rcases (show i < td - 1 ∨ i = (td - 1) ∨ i = ((td - 1) + 1) by omega) with q | rfl | rfl
                      · exact En i q
                      · exact ent_new hv418 (by omega) hv417 (by omega) (by omega)
                      · exact ent_new a409 (by omega) hv417 (by omega) (by omega)
                    exact ih τ306 h409 ⟨aup_trans O0.1 (aup_trans (aup_trans O306.1 O404.1) O409.1), O409.2.1, fun k T j hk (hC : k ≠ 68 ∧ k ≠ 69 ∧ (k < 71 ∨ 380 < k) ∧ (k ≠ 52 ∨ j < 26 ∨ 32 < j)) => (((O409.2.2 k T j (O404.1 _ _ (O306.1 _ _ (O0.1 _ _ hk))) (show ((k ≠ 379 ∧ k ≠ 380) ∨ j ≠ ((td - 1) + 1)) ∧ (k ≠ 52 ∨ j ≠ 30) by omega)).trans ((O404.2.2 k T j (O306.1 _ _ (O0.1 _ _ hk)) (show ((k ≠ 379 ∧ k ≠ 380) ∨ j ≠ (td - 1)) ∧ (k ≠ 52 ∨ j ≠ 30) by omega)).trans ((ho368 k j (by omega)).trans ((ho364 k j (by omega)).trans ((O306.2.2 k T j (O0.1 _ _ hk) (show k ≠ 68 ∧ k ≠ 69 ∧ k ≠ 378 ∧ k ≠ 71 + n ∧ ((k ≠ 371 ∧ k ≠ 372 ∧ k ≠ 373 ∧ k ≠ 374 ∧ k ≠ 375 ∧ k ≠ 376) ∨ j ≠ n) ∧ (k ≠ 52 ∨ j ≠ 26) by omega)).trans (ho302 k j (by omega)))))))).trans (O0.2.2 k T j hk hC)⟩ (n + 1) ((((td - 1) + 1) + 1)) ((dn + 1)) _ ⟨⟨_, hv413, by omega⟩, ⟨_, c409, by omega⟩, ⟨_, hv415, by omega⟩, by omega, by omega, by omega, G2, En2⟩ (by omega)
              ·
                refine y_cF (c := .gt) (off := 6) (len := 3) (r := (0, 0, 0, 0)) (by decide +kernel) (acmpF (c := .gt) (by show _ ≤ _; omega)) ?_
                refine y_goto (off := (-117)) (pc' := 57) (len := 3) (r := (0, 0, 0, 0)) (by decide +kernel) (by decide +kernel) ?_
                have hv419 := (ho364 52 26 (Or.inl (by omega))).trans s26
                have hv420 := (ho368 52 26 (Or.inr (by omega))).trans hv419
                have hv421 := (O306.2.2 52 52 30 (t52 hg302) (show 52 ≠ 68 ∧ 52 ≠ 69 ∧ 52 ≠ 378 ∧ 52 ≠ 71 + n ∧ ((52 ≠ 371 ∧ 52 ≠ 372 ∧ 52 ≠ 373 ∧ 52 ≠ 374 ∧ 52 ≠ 375 ∧ 52 ≠ 376) ∨ 30 ≠ n) ∧ (52 ≠ 52 ∨ 30 ≠ 26) by omega)).trans hs302
                have hv422 := (ho364 52 30 (Or.inl (by omega))).trans hv421
                have hv423 := (ho368 52 30 (Or.inr (by omega))).trans hv422
                have F : oF (fun k j => k ≠ 68 ∧ k ≠ 69 ∧ k ≠ 378 ∧ k ≠ 71 + n ∧ k ≠ 52 ∧ k ≠ 377 ∧ ((k ≠ 371 ∧ k ≠ 372 ∧ k ≠ 373 ∧ k ≠ 374 ∧ k ≠ 375 ∧ k ≠ 376) ∨ j ≠ n) ∧ ((k ≠ 379 ∧ k ≠ 380) ∨ j < td - 1)) τ h τ306 h368 := ⟨O306.1, hg368, fun k T j hk (hC : k ≠ 68 ∧ k ≠ 69 ∧ k ≠ 378 ∧ k ≠ 71 + n ∧ k ≠ 52 ∧ k ≠ 377 ∧ ((k ≠ 371 ∧ k ≠ 372 ∧ k ≠ 373 ∧ k ≠ 374 ∧ k ≠ 375 ∧ k ≠ 376) ∨ j ≠ n) ∧ ((k ≠ 379 ∧ k ≠ 380) ∨ j < td - 1)) => ((ho368 k j (by omega)).trans ((ho364 k j (by omega)).trans ((O306.2.2 k T j hk (show k ≠ 68 ∧ k ≠ 69 ∧ k ≠ 378 ∧ k ≠ 71 + n ∧ ((k ≠ 371 ∧ k ≠ 372 ∧ k ≠ 373 ∧ k ≠ 374 ∧ k ≠ 375 ∧ k ≠ 376) ∨ j ≠ n) ∧ (k ≠ 52 ∨ j ≠ 26) by omega)).trans (ho302 k j (by omega)))))⟩
                have G2 : Gv h368 (n + 1) := Gv_up2 G1 O306.2.1 (by omega) ⟨(aup_refl _), hg368, fun k T j hk (hC : k ≠ 377 ∧ k ≠ 379 ∧ k ≠ 380 ∧ k ≠ 52) => ((ho368 k j (by omega)).trans (ho364 k j (by omega)))⟩
                have En : ∀ i, i < td - 1 → ent h368 (n + 1) i := fun i hi => ent_up (hent i (by omega)) (by omega) (F.2.2 379 379 i (tu379 hg) (show 379 ≠ 68 ∧ 379 ≠ 69 ∧ 379 ≠ 378 ∧ 379 ≠ 71 + n ∧ 379 ≠ 52 ∧ 379 ≠ 377 ∧ ((379 ≠ 371 ∧ 379 ≠ 372 ∧ 379 ≠ 373 ∧ 379 ≠ 374 ∧ 379 ≠ 375 ∧ 379 ≠ 376) ∨ i ≠ n) ∧ ((379 ≠ 379 ∧ 379 ≠ 380) ∨ i < td - 1) by omega)) (fun j hj => F.2.2 373 373 j (tu373 hg) (show 373 ≠ 68 ∧ 373 ≠ 69 ∧ 373 ≠ 378 ∧ 373 ≠ 71 + n ∧ 373 ≠ 52 ∧ 373 ≠ 377 ∧ ((373 ≠ 371 ∧ 373 ≠ 372 ∧ 373 ≠ 373 ∧ 373 ≠ 374 ∧ 373 ≠ 375 ∧ 373 ≠ 376) ∨ j ≠ n) ∧ ((373 ≠ 379 ∧ 373 ≠ 380) ∨ j < td - 1) by omega))
                exact ih τ306 h368 ⟨aup_trans O0.1 O306.1, hg368, fun k T j hk (hC : k ≠ 68 ∧ k ≠ 69 ∧ (k < 71 ∨ 380 < k) ∧ (k ≠ 52 ∨ j < 26 ∨ 32 < j)) => (((ho368 k j (by omega)).trans ((ho364 k j (by omega)).trans ((O306.2.2 k T j (O0.1 _ _ hk) (show k ≠ 68 ∧ k ≠ 69 ∧ k ≠ 378 ∧ k ≠ 71 + n ∧ ((k ≠ 371 ∧ k ≠ 372 ∧ k ≠ 373 ∧ k ≠ 374 ∧ k ≠ 375 ∧ k ≠ 376) ∨ j ≠ n) ∧ (k ≠ 52 ∨ j ≠ 26) by omega)).trans (ho302 k j (by omega)))))).trans (O0.2.2 k T j hk hC)⟩ (n + 1) ((td - 1)) ((dn + 1)) _ ⟨⟨_, hv420, by omega⟩, ⟨_, hv423, by omega⟩, ⟨_, hs368, by omega⟩, by omega, by omega, by omega, G2, En⟩ (by omega)
          ·
            refine y_cF (c := .ne) (off := 14) (len := 3) (r := (0, 0, 0, 0)) (by decide +kernel) (acmpF (c := .ne) (by show _ = _; omega)) ?_
            refine y_same (i := .aload_n 0) (len := 1) (r := (0, 0, 0, 0)) (pc' := 124) (ls' := [some (.inl (some 52)), some (zi xv), some (zi y310)]) (st' := [.inl (some 52)]) (by decide +kernel) (fun k q => by cases q) rfl ?_
            refine y_ic (c := 0) (len := 1) (r := (0, 0, 0, 0)) (by decide +kernel) (by decide) (fun y424 hy424 => ?_)
            refine y_put (j := 391) (lo := (-2147483648)) (hi := 2147483647) (len := 3) (r := (12, 27, 0, 1355)) (by decide +kernel) O306.2.1 (t52 O306.2.1) at52 rfl rfl (by decide) rfl (qin_full _).1 (qin_full _).2 rfl (fun h425 hg425 hl425 hs425 ho425 => ?_)
            have ho425 : hO 52 27 h306 h425 := ho425
            have hs425 : hsl h425 52 27 = some (zi y424) := hs425
            refine y_same (i := .aload_n 0) (len := 1) (r := (0, 0, 0, 0)) (pc' := 129) (ls' := [some (.inl (some 52)), some (zi xv), some (zi y310)]) (st' := [.inl (some 52)]) (by decide +kernel) (fun k q => by cases q) rfl ?_
            refine y_same (i := .iload_n 2) (len := 1) (r := (0, 0, 0, 0)) (pc' := 130) (ls' := [some (.inl (some 52)), some (zi xv), some (zi y310)]) (st' := [zi y310, .inl (some 52)]) (by decide +kernel) (fun k q => by cases q) rfl ?_
            refine y_put (j := 388) (lo := (-2147483648)) (hi := 2147483647) (len := 3) (r := (12, 28, 0, 1356)) (by decide +kernel) hg425 (t52 hg425) at52 rfl rfl (by decide) rfl (qin_full _).1 (qin_full _).2 rfl (fun h426 hg426 hl426 hs426 ho426 => ?_)
            have ho426 : hO 52 28 h425 h426 := ho426
            have hs426 : hsl h426 52 28 = some (zi y310) := hs426
            refine y_rV (len := 1) (r := (0, 0, 0, 0)) (nL := 3) (n9 := 2) (hs := []) (by decide +kernel) rfl ?_
            exact ⟨_, ⟨aup_trans O0.1 O306.1, hg426, fun k T j hk (hC : k ≠ 68 ∧ k ≠ 69 ∧ (k < 71 ∨ 380 < k) ∧ (k ≠ 52 ∨ j < 26 ∨ 32 < j)) => (((ho426 k j (by omega)).trans ((ho425 k j (by omega)).trans ((O306.2.2 k T j (O0.1 _ _ hk) (show k ≠ 68 ∧ k ≠ 69 ∧ k ≠ 378 ∧ k ≠ 71 + n ∧ ((k ≠ 371 ∧ k ≠ 372 ∧ k ≠ 373 ∧ k ≠ 374 ∧ k ≠ 375 ∧ k ≠ 376) ∨ j ≠ n) ∧ (k ≠ 52 ∨ j ≠ 26) by omega)).trans (ho302 k j (by omega)))))).trans (O0.2.2 k T j hk hC)⟩⟩
        ·
          refine y_iF (c := .ne) (off := 9) (len := 3) (r := (0, 0, 0, 0)) (by decide +kernel) (acmpF (c := .ne) (by show _ = _; omega)) ?_
          refine y_same (i := .aload_n 0) (len := 1) (r := (0, 0, 0, 0)) (pc' := 100) (ls' := [some (.inl (some 52)), some (zi xv), l2]) (st' := [.inl (some 52)]) (by decide +kernel) (fun k q => by cases q) rfl ?_
          refine y_ic (c := 2) (len := 1) (r := (0, 0, 0, 0)) (by decide +kernel) (by decide) (fun y427 hy427 => ?_)
          refine y_put (j := 391) (lo := (-2147483648)) (hi := 2147483647) (len := 3) (r := (12, 27, 0, 1355)) (by decide +kernel) O306.2.1 (t52 O306.2.1) at52 rfl rfl (by decide) rfl (qin_full _).1 (qin_full _).2 rfl (fun h428 hg428 hl428 hs428 ho428 => ?_)
          have ho428 : hO 52 27 h306 h428 := ho428
          have hs428 : hsl h428 52 27 = some (zi y427) := hs428
          refine y_rV (len := 1) (r := (0, 0, 0, 0)) (nL := 3) (n9 := 2) (hs := []) (by decide +kernel) rfl ?_
          exact ⟨_, ⟨aup_trans O0.1 O306.1, hg428, fun k T j hk (hC : k ≠ 68 ∧ k ≠ 69 ∧ (k < 71 ∨ 380 < k) ∧ (k ≠ 52 ∨ j < 26 ∨ 32 < j)) => (((ho428 k j (by omega)).trans ((O306.2.2 k T j (O0.1 _ _ hk) (show k ≠ 68 ∧ k ≠ 69 ∧ k ≠ 378 ∧ k ≠ 71 + n ∧ ((k ≠ 371 ∧ k ≠ 372 ∧ k ≠ 373 ∧ k ≠ 374 ∧ k ≠ 375 ∧ k ≠ 376) ∨ j ≠ n) ∧ (k ≠ 52 ∨ j ≠ 26) by omega)).trans (ho302 k j (by omega))))).trans (O0.2.2 k T j hk hC)⟩⟩
      · obtain ⟨ho0, ho1, xu, hxu, h3, h8⟩ := hoB qn
        obtain ⟨o, ho⟩ : ∃ o : Nat, xo.toInt = (o : Int) := ⟨xo.toInt.toNat, by omega⟩
        rw [show xo.toInt.toNat = o by omega] at hxu
        refine y_same (i := .aload_n 0) (len := 1) (r := (0, 0, 0, 0)) (pc' := 58) (ls' := [some (.inl (some 52)), some (zi xv), l2]) (st' := [.inl (some 52)]) (by decide +kernel) (fun k q => by cases q) rfl ?_
        refine y_get (j := 382) (len := 3) (r := (12, 30, 0, 1358)) (by decide +kernel) hg (t52 hg) at52 rfl rfl ht ?_
        refine y_iF (c := .le) (off := 153) (len := 3) (r := (0, 0, 0, 0)) (by decide +kernel) (acmpF (c := .le) (by show _ < _; omega)) ?_
        refine y_same (i := .aload_n 0) (len := 1) (r := (0, 0, 0, 0)) (pc' := 65) (ls' := [some (.inl (some 52)), some (zi xv), l2]) (st' := [.inl (some 52)]) (by decide +kernel) (fun k q => by cases q) rfl ?_
        refine y_same (i := .dup) (len := 1) (r := (0, 0, 0, 0)) (pc' := 66) (ls' := [some (.inl (some 52)), some (zi xv), l2]) (st' := [.inl (some 52), .inl (some 52)]) (by decide +kernel) (fun k q => by cases q) rfl ?_
        refine y_get (j := 382) (len := 3) (r := (12, 30, 0, 1358)) (by decide +kernel) hg (t52 hg) at52 rfl rfl ht ?_
        refine y_ic (c := 1) (len := 1) (r := (0, 0, 0, 0)) (by decide +kernel) (by decide) (fun y429 hy429 => ?_)
        refine y_sub (len := 1) (r := (0, 0, 0, 0)) (by decide +kernel) (by omega) (by omega) (fun y430 hy430 => ?_)
        refine y_put (j := 382) (lo := 0) (hi := 600) (len := 3) (r := (12, 30, 0, 1358)) (by decide +kernel) hg (t52 hg) at52 rfl rfl (by decide) rfl (by omega) (by omega) rfl (fun h431 hg431 hl431 hs431 ho431 => ?_)
        have ho431 : hO 52 30 h h431 := ho431
        have hs431 : hsl h431 52 30 = some (zi y430) := hs431
        refine y_same (i := .aload_n 0) (len := 1) (r := (0, 0, 0, 0)) (pc' := 75) (ls' := [some (.inl (some 52)), some (zi xv), l2]) (st' := [.inl (some 52)]) (by decide +kernel) (fun k q => by cases q) rfl ?_
        refine y_same (i := .aload_n 0) (len := 1) (r := (0, 0, 0, 0)) (pc' := 76) (ls' := [some (.inl (some 52)), some (zi xv), l2]) (st' := [.inl (some 52), .inl (some 52)]) (by decide +kernel) (fun k q => by cases q) rfl ?_
        refine y_get (j := 64) (len := 3) (r := (12, 24, 2, 1352)) (by decide +kernel) hg431 (t52 hg431) at52 rfl rfl (g_r52 (f := 24) (T2 := 379) hg431 rfl (by decide)).1 ?_
        refine y_same (i := .aload_n 0) (len := 1) (r := (0, 0, 0, 0)) (pc' := 80) (ls' := [some (.inl (some 52)), some (zi xv), l2]) (st' := [.inl (some 52), .inl (some 379), .inl (some 52)]) (by decide +kernel) (fun k q => by cases q) rfl ?_
        refine y_get (j := 382) (len := 3) (r := (12, 30, 0, 1358)) (by decide +kernel) hg431 (t52 hg431) at52 rfl rfl hs431 ?_
        have hv432 := (ho431 379 (td - 1) (Or.inl (by omega))).trans hxo
        refine y_ial (i := (td - 1)) (len := 1) (r := (0, 0, 0, 0)) (by decide +kernel) hg431 (tu379 hg431) at379 (by omega) hv432 ?_
        refine y_same (i := .aload_n 0) (len := 1) (r := (0, 0, 0, 0)) (pc' := 85) (ls' := [some (.inl (some 52)), some (zi xv), l2]) (st' := [.inl (some 52), zi xo, .inl (some 52)]) (by decide +kernel) (fun k q => by cases q) rfl ?_
        refine y_get (j := 67) (len := 3) (r := (12, 25, 2, 1353)) (by decide +kernel) hg431 (t52 hg431) at52 rfl rfl (g_r52 (f := 25) (T2 := 380) hg431 rfl (by decide)).1 ?_
        refine y_same (i := .aload_n 0) (len := 1) (r := (0, 0, 0, 0)) (pc' := 89) (ls' := [some (.inl (some 52)), some (zi xv), l2]) (st' := [.inl (some 52), .inl (some 380), zi xo, .inl (some 52)]) (by decide +kernel) (fun k q => by cases q) rfl ?_
        refine y_get (j := 382) (len := 3) (r := (12, 30, 0, 1358)) (by decide +kernel) hg431 (t52 hg431) at52 rfl rfl hs431 ?_
        obtain ⟨v433, hv434, lv433, uv433⟩ := g_int (i := (td - 1)) hg431 (tu380 hg431) at380 (show (td - 1) < 600 by omega) (sr1 (by omega))
        refine y_ial (i := (td - 1)) (len := 1) (r := (0, 0, 0, 0)) (by decide +kernel) hg431 (tu380 hg431) at380 (by omega) hv434 ?_
        have hv436 := (ho431 52 26 (Or.inr (by omega))).trans hs
        have Gc : Gv h431 n := Gv_up2 G hg hn3 ⟨(aup_refl _), hg431, fun k T j hk (hC : k ≠ 377 ∧ k ≠ 379 ∧ k ≠ 380 ∧ k ≠ 52) => (ho431 k j (by omega))⟩
        have hv437 := (ho431 373 o (Or.inl (by omega))).trans hxu
        refine y_cI (i := .invokevirtual 397) (len := 3) (r := (0, 231, 12, 1636)) (nL := 5) (k := 2) (n := 3) (hs := []) (args := [.inl (some 52), zi xo, zi v433]) (rest := []) (l0 := [some (.inl (some 52)), some (zi xo), some (zi v433), none, none]) (by decide +kernel) (Or.inr (Or.inl ⟨_, rfl⟩)) rfl rfl rfl rfl (Nat.le_of_ble_eq_true rfl) (z52 hg431) rfl (e_comesB hC hg431 Gc hv436 hxs hn3 (o := o) (by omega) (by omega) (by omega) (by omega) hv437 h3 h8) (fun y435 h435 hRy435 => ?_)
        obtain ⟨ly435, uy435, τ435, O435, f435⟩ := hRy435
        rcases Decidable.em (y435.toInt ≠ 0) with q438 | q438
        ·
          refine y_iT (c := .ne) (off := 9) (pc' := 105) (len := 3) (r := (0, 0, 0, 0)) (by decide +kernel) (acmpT (c := .ne) (by show ¬ (_ = _); omega)) (by decide +kernel) ?_
          obtain ⟨hn9, ⟨x26, s26, e26⟩, G1⟩ := f435 (by omega)
          refine y_same (i := .aload_n 0) (len := 1) (r := (0, 0, 0, 0)) (pc' := 106) (ls' := [some (.inl (some 52)), some (zi xv), l2]) (st' := [.inl (some 52)]) (by decide +kernel) (fun k q => by cases q) rfl ?_
          refine y_get (j := 348) (len := 3) (r := (12, 26, 0, 1354)) (by decide +kernel) O435.2.1 (t52 O435.2.1) at52 rfl rfl s26 ?_
          refine y_ic (c := 1) (len := 1) (r := (0, 0, 0, 0)) (by decide +kernel) (by decide) (fun y439 hy439 => ?_)
          refine y_sub (len := 1) (r := (0, 0, 0, 0)) (by decide +kernel) (by omega) (by omega) (fun y440 hy440 => ?_)
          refine y_same (i := .istore_n 2) (len := 1) (r := (0, 0, 0, 0)) (pc' := 112) (ls' := [some (.inl (some 52)), some (zi xv), some (zi y440)]) (st' := []) (by decide +kernel) (fun k q => by cases q) rfl ?_
          refine y_same (i := .aload_n 0) (len := 1) (r := (0, 0, 0, 0)) (pc' := 113) (ls' := [some (.inl (some 52)), some (zi xv), some (zi y440)]) (st' := [.inl (some 52)]) (by decide +kernel) (fun k q => by cases q) rfl ?_
          refine y_get (j := 46) (len := 3) (r := (12, 18, 2, 1346)) (by decide +kernel) O435.2.1 (t52 O435.2.1) at52 rfl rfl (g_r52 (f := 18) (T2 := 373) O435.2.1 rfl (by decide)).1 ?_
          refine y_same (i := .iload_n 2) (len := 1) (r := (0, 0, 0, 0)) (pc' := 117) (ls' := [some (.inl (some 52)), some (zi xv), some (zi y440)]) (st' := [zi y440, .inl (some 373)]) (by decide +kernel) (fun k q => by cases q) rfl ?_
          obtain ⟨v441, hv442, lv441, uv441⟩ := g_int (i := n) O435.2.1 (tu373 O435.2.1) at373 (show n < 300 by omega) (sr1 (by omega))
          refine y_ial (i := n) (len := 1) (r := (0, 0, 0, 0)) (by decide +kernel) O435.2.1 (tu373 O435.2.1) at373 (by omega) hv442 ?_
          refine y_bi (c := 9) (len := 2) (r := (0, 0, 0, 0)) (by decide +kernel) (by decide) (fun y443 hy443 => ?_)
          rcases Decidable.em (v441.toInt ≠ y443.toInt) with q444 | q444
          ·
            refine y_cT (c := .ne) (off := 14) (pc' := 134) (len := 3) (r := (0, 0, 0, 0)) (by decide +kernel) (acmpT (c := .ne) (by show ¬ (_ = _); omega)) (by decide +kernel) ?_
            refine y_same (i := .aload_n 0) (len := 1) (r := (0, 0, 0, 0)) (pc' := 135) (ls' := [some (.inl (some 52)), some (zi xv), some (zi y440)]) (st' := [.inl (some 52)]) (by decide +kernel) (fun k q => by cases q) rfl ?_
            refine y_get (j := 46) (len := 3) (r := (12, 18, 2, 1346)) (by decide +kernel) O435.2.1 (t52 O435.2.1) at52 rfl rfl (g_r52 (f := 18) (T2 := 373) O435.2.1 rfl (by decide)).1 ?_
            refine y_same (i := .iload_n 2) (len := 1) (r := (0, 0, 0, 0)) (pc' := 139) (ls' := [some (.inl (some 52)), some (zi xv), some (zi y440)]) (st' := [zi y440, .inl (some 373)]) (by decide +kernel) (fun k q => by cases q) rfl ?_
            refine y_ial (i := n) (len := 1) (r := (0, 0, 0, 0)) (by decide +kernel) O435.2.1 (tu373 O435.2.1) at373 (by omega) hv442 ?_
            refine y_ic (c := 2) (len := 1) (r := (0, 0, 0, 0)) (by decide +kernel) (by decide) (fun y445 hy445 => ?_)
            rcases Decidable.em (v441.toInt ≠ y445.toInt) with q446 | q446
            ·
              refine y_cT (c := .ne) (off := 23) (pc' := 164) (len := 3) (r := (0, 0, 0, 0)) (by decide +kernel) (acmpT (c := .ne) (by show ¬ (_ = _); omega)) (by decide +kernel) ?_
              refine y_same (i := .aload_n 0) (len := 1) (r := (0, 0, 0, 0)) (pc' := 165) (ls' := [some (.inl (some 52)), some (zi xv), some (zi y440)]) (st' := [.inl (some 52)]) (by decide +kernel) (fun k q => by cases q) rfl ?_
              refine y_get (j := 46) (len := 3) (r := (12, 18, 2, 1346)) (by decide +kernel) O435.2.1 (t52 O435.2.1) at52 rfl rfl (g_r52 (f := 18) (T2 := 373) O435.2.1 rfl (by decide)).1 ?_
              refine y_same (i := .iload_n 2) (len := 1) (r := (0, 0, 0, 0)) (pc' := 169) (ls' := [some (.inl (some 52)), some (zi xv), some (zi y440)]) (st' := [zi y440, .inl (some 373)]) (by decide +kernel) (fun k q => by cases q) rfl ?_
              refine y_ial (i := n) (len := 1) (r := (0, 0, 0, 0)) (by decide +kernel) O435.2.1 (tu373 O435.2.1) at373 (by omega) hv442 ?_
              refine y_ic (c := 2) (len := 1) (r := (0, 0, 0, 0)) (by decide +kernel) (by decide) (fun y447 hy447 => ?_)
              rcases Decidable.em (v441.toInt > y447.toInt) with q448 | q448
              ·
                refine y_cT (c := .gt) (off := 6) (pc' := 177) (len := 3) (r := (0, 0, 0, 0)) (by decide +kernel) (acmpT (c := .gt) (by show _ < _; omega)) (by decide +kernel) ?_
                refine y_same (i := .aload_n 0) (len := 1) (r := (0, 0, 0, 0)) (pc' := 178) (ls' := [some (.inl (some 52)), some (zi xv), some (zi y440)]) (st' := [.inl (some 52)]) (by decide +kernel) (fun k q => by cases q) rfl ?_
                refine y_get (j := 46) (len := 3) (r := (12, 18, 2, 1346)) (by decide +kernel) O435.2.1 (t52 O435.2.1) at52 rfl rfl (g_r52 (f := 18) (T2 := 373) O435.2.1 rfl (by decide)).1 ?_
                refine y_same (i := .iload_n 2) (len := 1) (r := (0, 0, 0, 0)) (pc' := 182) (ls' := [some (.inl (some 52)), some (zi xv), some (zi y440)]) (st' := [zi y440, .inl (some 373)]) (by decide +kernel) (fun k q => by cases q) rfl ?_
                refine y_ial (i := n) (len := 1) (r := (0, 0, 0, 0)) (by decide +kernel) O435.2.1 (tu373 O435.2.1) at373 (by omega) hv442 ?_
                refine y_bi (c := 6) (len := 2) (r := (0, 0, 0, 0)) (by decide +kernel) (by decide) (fun y449 hy449 => ?_)
                rcases Decidable.em (v441.toInt = y449.toInt) with q450 | q450
                ·
                  refine y_cT (c := .eq) (off := 14) (pc' := 199) (len := 3) (r := (0, 0, 0, 0)) (by decide +kernel) (acmpT (c := .eq) (by show _ = _; omega)) (by decide +kernel) ?_
                  refine y_same (i := .aload_n 0) (len := 1) (r := (0, 0, 0, 0)) (pc' := 200) (ls' := [some (.inl (some 52)), some (zi xv), some (zi y440)]) (st' := [.inl (some 52)]) (by decide +kernel) (fun k q => by cases q) rfl ?_
                  refine y_same (i := .iload_n 2) (len := 1) (r := (0, 0, 0, 0)) (pc' := 201) (ls' := [some (.inl (some 52)), some (zi xv), some (zi y440)]) (st' := [zi y440, .inl (some 52)]) (by decide +kernel) (fun k q => by cases q) rfl ?_
                  refine y_ic (c := 1) (len := 1) (r := (0, 0, 0, 0)) (by decide +kernel) (by decide) (fun y451 hy451 => ?_)
                  have hv453 := (O435.2.2 52 52 30 (t52 hg431) (show 52 ≠ 68 ∧ 52 ≠ 69 ∧ 52 ≠ 378 ∧ 52 ≠ 71 + n ∧ ((52 ≠ 371 ∧ 52 ≠ 372 ∧ 52 ≠ 373 ∧ 52 ≠ 374 ∧ 52 ≠ 375 ∧ 52 ≠ 376) ∨ 30 ≠ n) ∧ (52 ≠ 52 ∨ 30 ≠ 26) by omega)).trans hs431
                  refine y_cV (i := .invokevirtual 394) (len := 3) (r := (0, 237, 12, 1632)) (nL := 3) (k := 0) (n := 3) (hs := []) (args := [.inl (some 52), zi y440, zi y451]) (rest := []) (l0 := [some (.inl (some 52)), some (zi y440), some (zi y451)]) (by decide +kernel) (Or.inr (Or.inl ⟨_, rfl⟩)) rfl rfl rfl rfl (Nat.le_of_ble_eq_true rfl) (z52 O435.2.1) rfl (e_waits (td := (td - 1)) O435.2.1 (by omega) (by omega) (by omega) (by omega) hv453 (by omega) (by omega)) (fun h452 hR452 => ?_)
                  obtain ⟨O452, a452, b452, x452, c452, e452⟩ := hR452
                  refine y_same (i := .aload_n 0) (len := 1) (r := (0, 0, 0, 0)) (pc' := 206) (ls' := [some (.inl (some 52)), some (zi xv), some (zi y440)]) (st' := [.inl (some 52)]) (by decide +kernel) (fun k q => by cases q) rfl ?_
                  refine y_same (i := .iload_n 2) (len := 1) (r := (0, 0, 0, 0)) (pc' := 207) (ls' := [some (.inl (some 52)), some (zi xv), some (zi y440)]) (st' := [zi y440, .inl (some 52)]) (by decide +kernel) (fun k q => by cases q) rfl ?_
                  refine y_ic (c := 0) (len := 1) (r := (0, 0, 0, 0)) (by decide +kernel) (by decide) (fun y454 hy454 => ?_)
                  refine y_cV (i := .invokevirtual 394) (len := 3) (r := (0, 237, 12, 1632)) (nL := 3) (k := 0) (n := 3) (hs := []) (args := [.inl (some 52), zi y440, zi y454]) (rest := []) (l0 := [some (.inl (some 52)), some (zi y440), some (zi y454)]) (by decide +kernel) (Or.inr (Or.inl ⟨_, rfl⟩)) rfl rfl rfl rfl (Nat.le_of_ble_eq_true rfl) (z52 O452.2.1) rfl (e_waits (td := ((td - 1) + 1)) O452.2.1 (by omega) (by omega) (by omega) (by omega) c452 (by omega) (by omega)) (fun h455 hR455 => ?_)
                  obtain ⟨O455, a455, b455, x455, c455, e455⟩ := hR455
                  refine y_goto (off := (-154)) (pc' := 57) (len := 3) (r := (0, 0, 0, 0)) (by decide +kernel) (by decide +kernel) ?_
                  have hv456 := (O452.2.2 52 52 26 (t52 O435.2.1) (show ((52 ≠ 379 ∧ 52 ≠ 380) ∨ 26 ≠ (td - 1)) ∧ (52 ≠ 52 ∨ 26 ≠ 30) by omega)).trans s26
                  have hv457 := (O455.2.2 52 52 26 (t52 O452.2.1) (show ((52 ≠ 379 ∧ 52 ≠ 380) ∨ 26 ≠ ((td - 1) + 1)) ∧ (52 ≠ 52 ∨ 26 ≠ 30) by omega)).trans hv456
                  have hv458 := (ho431 52 29 (Or.inr (by omega))).trans hd
                  have hv459 := (O435.2.2 52 52 29 (t52 hg431) (show 52 ≠ 68 ∧ 52 ≠ 69 ∧ 52 ≠ 378 ∧ 52 ≠ 71 + n ∧ ((52 ≠ 371 ∧ 52 ≠ 372 ∧ 52 ≠ 373 ∧ 52 ≠ 374 ∧ 52 ≠ 375 ∧ 52 ≠ 376) ∨ 29 ≠ n) ∧ (52 ≠ 52 ∨ 29 ≠ 26) by omega)).trans hv458
                  have hv460 := (O452.2.2 52 52 29 (t52 O435.2.1) (show ((52 ≠ 379 ∧ 52 ≠ 380) ∨ 29 ≠ (td - 1)) ∧ (52 ≠ 52 ∨ 29 ≠ 30) by omega)).trans hv459
                  have hv461 := (O455.2.2 52 52 29 (t52 O452.2.1) (show ((52 ≠ 379 ∧ 52 ≠ 380) ∨ 29 ≠ ((td - 1) + 1)) ∧ (52 ≠ 52 ∨ 29 ≠ 30) by omega)).trans hv460
                  have hv462 := (O452.2.2 373 373 n (tu373 O435.2.1) (show ((373 ≠ 379 ∧ 373 ≠ 380) ∨ n ≠ (td - 1)) ∧ (373 ≠ 52 ∨ n ≠ 30) by omega)).trans hv442
                  have hv463 := (O455.2.2 373 373 n (tu373 O452.2.1) (show ((373 ≠ 379 ∧ 373 ≠ 380) ∨ n ≠ ((td - 1) + 1)) ∧ (373 ≠ 52 ∨ n ≠ 30) by omega)).trans hv462
                  have hv464 := (O455.2.2 379 379 (td - 1) (tu379 O452.2.1) (show ((379 ≠ 379 ∧ 379 ≠ 380) ∨ (td - 1) ≠ ((td - 1) + 1)) ∧ (379 ≠ 52 ∨ (td - 1) ≠ 30) by omega)).trans a452
                  have F : oF (fun k j => k ≠ 68 ∧ k ≠ 69 ∧ k ≠ 378 ∧ k ≠ 71 + n ∧ k ≠ 52 ∧ k ≠ 377 ∧ ((k ≠ 371 ∧ k ≠ 372 ∧ k ≠ 373 ∧ k ≠ 374 ∧ k ≠ 375 ∧ k ≠ 376) ∨ j ≠ n) ∧ ((k ≠ 379 ∧ k ≠ 380) ∨ j < td - 1)) τ h τ435 h455 := ⟨(aup_trans (aup_trans O435.1 O452.1) O455.1), O455.2.1, fun k T j hk (hC : k ≠ 68 ∧ k ≠ 69 ∧ k ≠ 378 ∧ k ≠ 71 + n ∧ k ≠ 52 ∧ k ≠ 377 ∧ ((k ≠ 371 ∧ k ≠ 372 ∧ k ≠ 373 ∧ k ≠ 374 ∧ k ≠ 375 ∧ k ≠ 376) ∨ j ≠ n) ∧ ((k ≠ 379 ∧ k ≠ 380) ∨ j < td - 1)) => ((O455.2.2 k T j (O452.1 _ _ (O435.1 _ _ hk)) (show ((k ≠ 379 ∧ k ≠ 380) ∨ j ≠ ((td - 1) + 1)) ∧ (k ≠ 52 ∨ j ≠ 30) by omega)).trans ((O452.2.2 k T j (O435.1 _ _ hk) (show ((k ≠ 379 ∧ k ≠ 380) ∨ j ≠ (td - 1)) ∧ (k ≠ 52 ∨ j ≠ 30) by omega)).trans ((O435.2.2 k T j hk (show k ≠ 68 ∧ k ≠ 69 ∧ k ≠ 378 ∧ k ≠ 71 + n ∧ ((k ≠ 371 ∧ k ≠ 372 ∧ k ≠ 373 ∧ k ≠ 374 ∧ k ≠ 375 ∧ k ≠ 376) ∨ j ≠ n) ∧ (k ≠ 52 ∨ j ≠ 26) by omega)).trans (ho431 k j (by omega)))))⟩
                  have G2 : Gv h455 (n + 1) := Gv_up2 G1 O435.2.1 (by omega) ⟨(aup_trans O452.1 O455.1), O455.2.1, fun k T j hk (hC : k ≠ 377 ∧ k ≠ 379 ∧ k ≠ 380 ∧ k ≠ 52) => ((O455.2.2 k T j (O452.1 _ _ hk) (show ((k ≠ 379 ∧ k ≠ 380) ∨ j ≠ ((td - 1) + 1)) ∧ (k ≠ 52 ∨ j ≠ 30) by omega)).trans (O452.2.2 k T j hk (show ((k ≠ 379 ∧ k ≠ 380) ∨ j ≠ (td - 1)) ∧ (k ≠ 52 ∨ j ≠ 30) by omega)))⟩
                  have En : ∀ i, i < td - 1 → ent h455 (n + 1) i := fun i hi => ent_up (hent i (by omega)) (by omega) (F.2.2 379 379 i (tu379 hg) (show 379 ≠ 68 ∧ 379 ≠ 69 ∧ 379 ≠ 378 ∧ 379 ≠ 71 + n ∧ 379 ≠ 52 ∧ 379 ≠ 377 ∧ ((379 ≠ 371 ∧ 379 ≠ 372 ∧ 379 ≠ 373 ∧ 379 ≠ 374 ∧ 379 ≠ 375 ∧ 379 ≠ 376) ∨ i ≠ n) ∧ ((379 ≠ 379 ∧ 379 ≠ 380) ∨ i < td - 1) by omega)) (fun j hj => F.2.2 373 373 j (tu373 hg) (show 373 ≠ 68 ∧ 373 ≠ 69 ∧ 373 ≠ 378 ∧ 373 ≠ 71 + n ∧ 373 ≠ 52 ∧ 373 ≠ 377 ∧ ((373 ≠ 371 ∧ 373 ≠ 372 ∧ 373 ≠ 373 ∧ 373 ≠ 374 ∧ 373 ≠ 375 ∧ 373 ≠ 376) ∨ j ≠ n) ∧ ((373 ≠ 379 ∧ 373 ≠ 380) ∨ j < td - 1) by omega))
                  have En2 : ∀ i, i < (((td - 1) + 1) + 1) → ent h455 (n + 1) i := fun i hi => by
                    rcases (show i < td - 1 ∨ i = (td - 1) ∨ i = ((td - 1) + 1) by omega) with q | rfl | rfl
                    · exact En i q
                    · exact ent_new hv464 (by omega) hv463 (by omega) (by omega)
                    · exact ent_new a455 (by omega) hv463 (by omega) (by omega)
                  exact ih τ435 h455 ⟨aup_trans O0.1 (aup_trans (aup_trans O435.1 O452.1) O455.1), O455.2.1, fun k T j hk (hC : k ≠ 68 ∧ k ≠ 69 ∧ (k < 71 ∨ 380 < k) ∧ (k ≠ 52 ∨ j < 26 ∨ 32 < j)) => (((O455.2.2 k T j (O452.1 _ _ (O435.1 _ _ (O0.1 _ _ hk))) (show ((k ≠ 379 ∧ k ≠ 380) ∨ j ≠ ((td - 1) + 1)) ∧ (k ≠ 52 ∨ j ≠ 30) by omega)).trans ((O452.2.2 k T j (O435.1 _ _ (O0.1 _ _ hk)) (show ((k ≠ 379 ∧ k ≠ 380) ∨ j ≠ (td - 1)) ∧ (k ≠ 52 ∨ j ≠ 30) by omega)).trans ((O435.2.2 k T j (O0.1 _ _ hk) (show k ≠ 68 ∧ k ≠ 69 ∧ k ≠ 378 ∧ k ≠ 71 + n ∧ ((k ≠ 371 ∧ k ≠ 372 ∧ k ≠ 373 ∧ k ≠ 374 ∧ k ≠ 375 ∧ k ≠ 376) ∨ j ≠ n) ∧ (k ≠ 52 ∨ j ≠ 26) by omega)).trans (ho431 k j (by omega)))))).trans (O0.2.2 k T j hk hC)⟩ (n + 1) ((((td - 1) + 1) + 1)) (dn) _ ⟨⟨_, hv457, by omega⟩, ⟨_, c455, by omega⟩, ⟨_, hv461, by omega⟩, by omega, by omega, by omega, G2, En2⟩ (by omega)
                ·
                  refine y_cF (c := .eq) (off := 14) (len := 3) (r := (0, 0, 0, 0)) (by decide +kernel) (acmpF (c := .eq) (by show ¬ (_ = _); omega)) ?_
                  refine y_same (i := .aload_n 0) (len := 1) (r := (0, 0, 0, 0)) (pc' := 189) (ls' := [some (.inl (some 52)), some (zi xv), some (zi y440)]) (st' := [.inl (some 52)]) (by decide +kernel) (fun k q => by cases q) rfl ?_
                  refine y_get (j := 46) (len := 3) (r := (12, 18, 2, 1346)) (by decide +kernel) O435.2.1 (t52 O435.2.1) at52 rfl rfl (g_r52 (f := 18) (T2 := 373) O435.2.1 rfl (by decide)).1 ?_
                  refine y_same (i := .iload_n 2) (len := 1) (r := (0, 0, 0, 0)) (pc' := 193) (ls' := [some (.inl (some 52)), some (zi xv), some (zi y440)]) (st' := [zi y440, .inl (some 373)]) (by decide +kernel) (fun k q => by cases q) rfl ?_
                  refine y_ial (i := n) (len := 1) (r := (0, 0, 0, 0)) (by decide +kernel) O435.2.1 (tu373 O435.2.1) at373 (by omega) hv442 ?_
                  refine y_bi (c := 7) (len := 2) (r := (0, 0, 0, 0)) (by decide +kernel) (by decide) (fun y465 hy465 => ?_)
                  rcases Decidable.em (v441.toInt ≠ y465.toInt) with q466 | q466
                  ·
                    refine y_cT (c := .ne) (off := 9) (pc' := 205) (len := 3) (r := (0, 0, 0, 0)) (by decide +kernel) (acmpT (c := .ne) (by show ¬ (_ = _); omega)) (by decide +kernel) ?_
                    refine y_same (i := .aload_n 0) (len := 1) (r := (0, 0, 0, 0)) (pc' := 206) (ls' := [some (.inl (some 52)), some (zi xv), some (zi y440)]) (st' := [.inl (some 52)]) (by decide +kernel) (fun k q => by cases q) rfl ?_
                    refine y_same (i := .iload_n 2) (len := 1) (r := (0, 0, 0, 0)) (pc' := 207) (ls' := [some (.inl (some 52)), some (zi xv), some (zi y440)]) (st' := [zi y440, .inl (some 52)]) (by decide +kernel) (fun k q => by cases q) rfl ?_
                    refine y_ic (c := 0) (len := 1) (r := (0, 0, 0, 0)) (by decide +kernel) (by decide) (fun y467 hy467 => ?_)
                    have hv469 := (O435.2.2 52 52 30 (t52 hg431) (show 52 ≠ 68 ∧ 52 ≠ 69 ∧ 52 ≠ 378 ∧ 52 ≠ 71 + n ∧ ((52 ≠ 371 ∧ 52 ≠ 372 ∧ 52 ≠ 373 ∧ 52 ≠ 374 ∧ 52 ≠ 375 ∧ 52 ≠ 376) ∨ 30 ≠ n) ∧ (52 ≠ 52 ∨ 30 ≠ 26) by omega)).trans hs431
                    refine y_cV (i := .invokevirtual 394) (len := 3) (r := (0, 237, 12, 1632)) (nL := 3) (k := 0) (n := 3) (hs := []) (args := [.inl (some 52), zi y440, zi y467]) (rest := []) (l0 := [some (.inl (some 52)), some (zi y440), some (zi y467)]) (by decide +kernel) (Or.inr (Or.inl ⟨_, rfl⟩)) rfl rfl rfl rfl (Nat.le_of_ble_eq_true rfl) (z52 O435.2.1) rfl (e_waits (td := (td - 1)) O435.2.1 (by omega) (by omega) (by omega) (by omega) hv469 (by omega) (by omega)) (fun h468 hR468 => ?_)
                    obtain ⟨O468, a468, b468, x468, c468, e468⟩ := hR468
                    refine y_goto (off := (-154)) (pc' := 57) (len := 3) (r := (0, 0, 0, 0)) (by decide +kernel) (by decide +kernel) ?_
                    have hv470 := (O468.2.2 52 52 26 (t52 O435.2.1) (show ((52 ≠ 379 ∧ 52 ≠ 380) ∨ 26 ≠ (td - 1)) ∧ (52 ≠ 52 ∨ 26 ≠ 30) by omega)).trans s26
                    have hv471 := (ho431 52 29 (Or.inr (by omega))).trans hd
                    have hv472 := (O435.2.2 52 52 29 (t52 hg431) (show 52 ≠ 68 ∧ 52 ≠ 69 ∧ 52 ≠ 378 ∧ 52 ≠ 71 + n ∧ ((52 ≠ 371 ∧ 52 ≠ 372 ∧ 52 ≠ 373 ∧ 52 ≠ 374 ∧ 52 ≠ 375 ∧ 52 ≠ 376) ∨ 29 ≠ n) ∧ (52 ≠ 52 ∨ 29 ≠ 26) by omega)).trans hv471
                    have hv473 := (O468.2.2 52 52 29 (t52 O435.2.1) (show ((52 ≠ 379 ∧ 52 ≠ 380) ∨ 29 ≠ (td - 1)) ∧ (52 ≠ 52 ∨ 29 ≠ 30) by omega)).trans hv472
                    have hv474 := (O468.2.2 373 373 n (tu373 O435.2.1) (show ((373 ≠ 379 ∧ 373 ≠ 380) ∨ n ≠ (td - 1)) ∧ (373 ≠ 52 ∨ n ≠ 30) by omega)).trans hv442
                    have F : oF (fun k j => k ≠ 68 ∧ k ≠ 69 ∧ k ≠ 378 ∧ k ≠ 71 + n ∧ k ≠ 52 ∧ k ≠ 377 ∧ ((k ≠ 371 ∧ k ≠ 372 ∧ k ≠ 373 ∧ k ≠ 374 ∧ k ≠ 375 ∧ k ≠ 376) ∨ j ≠ n) ∧ ((k ≠ 379 ∧ k ≠ 380) ∨ j < td - 1)) τ h τ435 h468 := ⟨(aup_trans O435.1 O468.1), O468.2.1, fun k T j hk (hC : k ≠ 68 ∧ k ≠ 69 ∧ k ≠ 378 ∧ k ≠ 71 + n ∧ k ≠ 52 ∧ k ≠ 377 ∧ ((k ≠ 371 ∧ k ≠ 372 ∧ k ≠ 373 ∧ k ≠ 374 ∧ k ≠ 375 ∧ k ≠ 376) ∨ j ≠ n) ∧ ((k ≠ 379 ∧ k ≠ 380) ∨ j < td - 1)) => ((O468.2.2 k T j (O435.1 _ _ hk) (show ((k ≠ 379 ∧ k ≠ 380) ∨ j ≠ (td - 1)) ∧ (k ≠ 52 ∨ j ≠ 30) by omega)).trans ((O435.2.2 k T j hk (show k ≠ 68 ∧ k ≠ 69 ∧ k ≠ 378 ∧ k ≠ 71 + n ∧ ((k ≠ 371 ∧ k ≠ 372 ∧ k ≠ 373 ∧ k ≠ 374 ∧ k ≠ 375 ∧ k ≠ 376) ∨ j ≠ n) ∧ (k ≠ 52 ∨ j ≠ 26) by omega)).trans (ho431 k j (by omega))))⟩
                    have G2 : Gv h468 (n + 1) := Gv_up2 G1 O435.2.1 (by omega) ⟨O468.1, O468.2.1, fun k T j hk (hC : k ≠ 377 ∧ k ≠ 379 ∧ k ≠ 380 ∧ k ≠ 52) => (O468.2.2 k T j hk (show ((k ≠ 379 ∧ k ≠ 380) ∨ j ≠ (td - 1)) ∧ (k ≠ 52 ∨ j ≠ 30) by omega))⟩
                    have En : ∀ i, i < td - 1 → ent h468 (n + 1) i := fun i hi => ent_up (hent i (by omega)) (by omega) (F.2.2 379 379 i (tu379 hg) (show 379 ≠ 68 ∧ 379 ≠ 69 ∧ 379 ≠ 378 ∧ 379 ≠ 71 + n ∧ 379 ≠ 52 ∧ 379 ≠ 377 ∧ ((379 ≠ 371 ∧ 379 ≠ 372 ∧ 379 ≠ 373 ∧ 379 ≠ 374 ∧ 379 ≠ 375 ∧ 379 ≠ 376) ∨ i ≠ n) ∧ ((379 ≠ 379 ∧ 379 ≠ 380) ∨ i < td - 1) by omega)) (fun j hj => F.2.2 373 373 j (tu373 hg) (show 373 ≠ 68 ∧ 373 ≠ 69 ∧ 373 ≠ 378 ∧ 373 ≠ 71 + n ∧ 373 ≠ 52 ∧ 373 ≠ 377 ∧ ((373 ≠ 371 ∧ 373 ≠ 372 ∧ 373 ≠ 373 ∧ 373 ≠ 374 ∧ 373 ≠ 375 ∧ 373 ≠ 376) ∨ j ≠ n) ∧ ((373 ≠ 379 ∧ 373 ≠ 380) ∨ j < td - 1) by omega))
                    have En2 : ∀ i, i < ((td - 1) + 1) → ent h468 (n + 1) i := fun i hi => by
                      rcases (show i < td - 1 ∨ i = (td - 1) by omega) with q | rfl
                      · exact En i q
                      · exact ent_new a468 (by omega) hv474 (by omega) (by omega)
                    exact ih τ435 h468 ⟨aup_trans O0.1 (aup_trans O435.1 O468.1), O468.2.1, fun k T j hk (hC : k ≠ 68 ∧ k ≠ 69 ∧ (k < 71 ∨ 380 < k) ∧ (k ≠ 52 ∨ j < 26 ∨ 32 < j)) => (((O468.2.2 k T j (O435.1 _ _ (O0.1 _ _ hk)) (show ((k ≠ 379 ∧ k ≠ 380) ∨ j ≠ (td - 1)) ∧ (k ≠ 52 ∨ j ≠ 30) by omega)).trans ((O435.2.2 k T j (O0.1 _ _ hk) (show k ≠ 68 ∧ k ≠ 69 ∧ k ≠ 378 ∧ k ≠ 71 + n ∧ ((k ≠ 371 ∧ k ≠ 372 ∧ k ≠ 373 ∧ k ≠ 374 ∧ k ≠ 375 ∧ k ≠ 376) ∨ j ≠ n) ∧ (k ≠ 52 ∨ j ≠ 26) by omega)).trans (ho431 k j (by omega))))).trans (O0.2.2 k T j hk hC)⟩ (n + 1) (((td - 1) + 1)) (dn) _ ⟨⟨_, hv470, by omega⟩, ⟨_, c468, by omega⟩, ⟨_, hv473, by omega⟩, by omega, by omega, by omega, G2, En2⟩ (by omega)
                  ·
                    refine y_cF (c := .ne) (off := 9) (len := 3) (r := (0, 0, 0, 0)) (by decide +kernel) (acmpF (c := .ne) (by show _ = _; omega)) ?_
                    refine y_same (i := .aload_n 0) (len := 1) (r := (0, 0, 0, 0)) (pc' := 200) (ls' := [some (.inl (some 52)), some (zi xv), some (zi y440)]) (st' := [.inl (some 52)]) (by decide +kernel) (fun k q => by cases q) rfl ?_
                    refine y_same (i := .iload_n 2) (len := 1) (r := (0, 0, 0, 0)) (pc' := 201) (ls' := [some (.inl (some 52)), some (zi xv), some (zi y440)]) (st' := [zi y440, .inl (some 52)]) (by decide +kernel) (fun k q => by cases q) rfl ?_
                    refine y_ic (c := 1) (len := 1) (r := (0, 0, 0, 0)) (by decide +kernel) (by decide) (fun y475 hy475 => ?_)
                    have hv477 := (O435.2.2 52 52 30 (t52 hg431) (show 52 ≠ 68 ∧ 52 ≠ 69 ∧ 52 ≠ 378 ∧ 52 ≠ 71 + n ∧ ((52 ≠ 371 ∧ 52 ≠ 372 ∧ 52 ≠ 373 ∧ 52 ≠ 374 ∧ 52 ≠ 375 ∧ 52 ≠ 376) ∨ 30 ≠ n) ∧ (52 ≠ 52 ∨ 30 ≠ 26) by omega)).trans hs431
                    refine y_cV (i := .invokevirtual 394) (len := 3) (r := (0, 237, 12, 1632)) (nL := 3) (k := 0) (n := 3) (hs := []) (args := [.inl (some 52), zi y440, zi y475]) (rest := []) (l0 := [some (.inl (some 52)), some (zi y440), some (zi y475)]) (by decide +kernel) (Or.inr (Or.inl ⟨_, rfl⟩)) rfl rfl rfl rfl (Nat.le_of_ble_eq_true rfl) (z52 O435.2.1) rfl (e_waits (td := (td - 1)) O435.2.1 (by omega) (by omega) (by omega) (by omega) hv477 (by omega) (by omega)) (fun h476 hR476 => ?_)
                    obtain ⟨O476, a476, b476, x476, c476, e476⟩ := hR476
                    refine y_same (i := .aload_n 0) (len := 1) (r := (0, 0, 0, 0)) (pc' := 206) (ls' := [some (.inl (some 52)), some (zi xv), some (zi y440)]) (st' := [.inl (some 52)]) (by decide +kernel) (fun k q => by cases q) rfl ?_
                    refine y_same (i := .iload_n 2) (len := 1) (r := (0, 0, 0, 0)) (pc' := 207) (ls' := [some (.inl (some 52)), some (zi xv), some (zi y440)]) (st' := [zi y440, .inl (some 52)]) (by decide +kernel) (fun k q => by cases q) rfl ?_
                    refine y_ic (c := 0) (len := 1) (r := (0, 0, 0, 0)) (by decide +kernel) (by decide) (fun y478 hy478 => ?_)
                    refine y_cV (i := .invokevirtual 394) (len := 3) (r := (0, 237, 12, 1632)) (nL := 3) (k := 0) (n := 3) (hs := []) (args := [.inl (some 52), zi y440, zi y478]) (rest := []) (l0 := [some (.inl (some 52)), some (zi y440), some (zi y478)]) (by decide +kernel) (Or.inr (Or.inl ⟨_, rfl⟩)) rfl rfl rfl rfl (Nat.le_of_ble_eq_true rfl) (z52 O476.2.1) rfl (e_waits (td := ((td - 1) + 1)) O476.2.1 (by omega) (by omega) (by omega) (by omega) c476 (by omega) (by omega)) (fun h479 hR479 => ?_)
                    obtain ⟨O479, a479, b479, x479, c479, e479⟩ := hR479
                    refine y_goto (off := (-154)) (pc' := 57) (len := 3) (r := (0, 0, 0, 0)) (by decide +kernel) (by decide +kernel) ?_
                    have hv480 := (O476.2.2 52 52 26 (t52 O435.2.1) (show ((52 ≠ 379 ∧ 52 ≠ 380) ∨ 26 ≠ (td - 1)) ∧ (52 ≠ 52 ∨ 26 ≠ 30) by omega)).trans s26
                    have hv481 := (O479.2.2 52 52 26 (t52 O476.2.1) (show ((52 ≠ 379 ∧ 52 ≠ 380) ∨ 26 ≠ ((td - 1) + 1)) ∧ (52 ≠ 52 ∨ 26 ≠ 30) by omega)).trans hv480
                    have hv482 := (ho431 52 29 (Or.inr (by omega))).trans hd
                    have hv483 := (O435.2.2 52 52 29 (t52 hg431) (show 52 ≠ 68 ∧ 52 ≠ 69 ∧ 52 ≠ 378 ∧ 52 ≠ 71 + n ∧ ((52 ≠ 371 ∧ 52 ≠ 372 ∧ 52 ≠ 373 ∧ 52 ≠ 374 ∧ 52 ≠ 375 ∧ 52 ≠ 376) ∨ 29 ≠ n) ∧ (52 ≠ 52 ∨ 29 ≠ 26) by omega)).trans hv482
                    have hv484 := (O476.2.2 52 52 29 (t52 O435.2.1) (show ((52 ≠ 379 ∧ 52 ≠ 380) ∨ 29 ≠ (td - 1)) ∧ (52 ≠ 52 ∨ 29 ≠ 30) by omega)).trans hv483
                    have hv485 := (O479.2.2 52 52 29 (t52 O476.2.1) (show ((52 ≠ 379 ∧ 52 ≠ 380) ∨ 29 ≠ ((td - 1) + 1)) ∧ (52 ≠ 52 ∨ 29 ≠ 30) by omega)).trans hv484
                    have hv486 := (O476.2.2 373 373 n (tu373 O435.2.1) (show ((373 ≠ 379 ∧ 373 ≠ 380) ∨ n ≠ (td - 1)) ∧ (373 ≠ 52 ∨ n ≠ 30) by omega)).trans hv442
                    have hv487 := (O479.2.2 373 373 n (tu373 O476.2.1) (show ((373 ≠ 379 ∧ 373 ≠ 380) ∨ n ≠ ((td - 1) + 1)) ∧ (373 ≠ 52 ∨ n ≠ 30) by omega)).trans hv486
                    have hv488 := (O479.2.2 379 379 (td - 1) (tu379 O476.2.1) (show ((379 ≠ 379 ∧ 379 ≠ 380) ∨ (td - 1) ≠ ((td - 1) + 1)) ∧ (379 ≠ 52 ∨ (td - 1) ≠ 30) by omega)).trans a476
                    have F : oF (fun k j => k ≠ 68 ∧ k ≠ 69 ∧ k ≠ 378 ∧ k ≠ 71 + n ∧ k ≠ 52 ∧ k ≠ 377 ∧ ((k ≠ 371 ∧ k ≠ 372 ∧ k ≠ 373 ∧ k ≠ 374 ∧ k ≠ 375 ∧ k ≠ 376) ∨ j ≠ n) ∧ ((k ≠ 379 ∧ k ≠ 380) ∨ j < td - 1)) τ h τ435 h479 := ⟨(aup_trans (aup_trans O435.1 O476.1) O479.1), O479.2.1, fun k T j hk (hC : k ≠ 68 ∧ k ≠ 69 ∧ k ≠ 378 ∧ k ≠ 71 + n ∧ k ≠ 52 ∧ k ≠ 377 ∧ ((k ≠ 371 ∧ k ≠ 372 ∧ k ≠ 373 ∧ k ≠ 374 ∧ k ≠ 375 ∧ k ≠ 376) ∨ j ≠ n) ∧ ((k ≠ 379 ∧ k ≠ 380) ∨ j < td - 1)) => ((O479.2.2 k T j (O476.1 _ _ (O435.1 _ _ hk)) (show ((k ≠ 379 ∧ k ≠ 380) ∨ j ≠ ((td - 1) + 1)) ∧ (k ≠ 52 ∨ j ≠ 30) by omega)).trans ((O476.2.2 k T j (O435.1 _ _ hk) (show ((k ≠ 379 ∧ k ≠ 380) ∨ j ≠ (td - 1)) ∧ (k ≠ 52 ∨ j ≠ 30) by omega)).trans ((O435.2.2 k T j hk (show k ≠ 68 ∧ k ≠ 69 ∧ k ≠ 378 ∧ k ≠ 71 + n ∧ ((k ≠ 371 ∧ k ≠ 372 ∧ k ≠ 373 ∧ k ≠ 374 ∧ k ≠ 375 ∧ k ≠ 376) ∨ j ≠ n) ∧ (k ≠ 52 ∨ j ≠ 26) by omega)).trans (ho431 k j (by omega)))))⟩
                    have G2 : Gv h479 (n + 1) := Gv_up2 G1 O435.2.1 (by omega) ⟨(aup_trans O476.1 O479.1), O479.2.1, fun k T j hk (hC : k ≠ 377 ∧ k ≠ 379 ∧ k ≠ 380 ∧ k ≠ 52) => ((O479.2.2 k T j (O476.1 _ _ hk) (show ((k ≠ 379 ∧ k ≠ 380) ∨ j ≠ ((td - 1) + 1)) ∧ (k ≠ 52 ∨ j ≠ 30) by omega)).trans (O476.2.2 k T j hk (show ((k ≠ 379 ∧ k ≠ 380) ∨ j ≠ (td - 1)) ∧ (k ≠ 52 ∨ j ≠ 30) by omega)))⟩
                    have En : ∀ i, i < td - 1 → ent h479 (n + 1) i := fun i hi => ent_up (hent i (by omega)) (by omega) (F.2.2 379 379 i (tu379 hg) (show 379 ≠ 68 ∧ 379 ≠ 69 ∧ 379 ≠ 378 ∧ 379 ≠ 71 + n ∧ 379 ≠ 52 ∧ 379 ≠ 377 ∧ ((379 ≠ 371 ∧ 379 ≠ 372 ∧ 379 ≠ 373 ∧ 379 ≠ 374 ∧ 379 ≠ 375 ∧ 379 ≠ 376) ∨ i ≠ n) ∧ ((379 ≠ 379 ∧ 379 ≠ 380) ∨ i < td - 1) by omega)) (fun j hj => F.2.2 373 373 j (tu373 hg) (show 373 ≠ 68 ∧ 373 ≠ 69 ∧ 373 ≠ 378 ∧ 373 ≠ 71 + n ∧ 373 ≠ 52 ∧ 373 ≠ 377 ∧ ((373 ≠ 371 ∧ 373 ≠ 372 ∧ 373 ≠ 373 ∧ 373 ≠ 374 ∧ 373 ≠ 375 ∧ 373 ≠ 376) ∨ j ≠ n) ∧ ((373 ≠ 379 ∧ 373 ≠ 380) ∨ j < td - 1) by omega))
                    have En2 : ∀ i, i < (((td - 1) + 1) + 1) → ent h479 (n + 1) i := fun i hi => by
                      rcases (show i < td - 1 ∨ i = (td - 1) ∨ i = ((td - 1) + 1) by omega) with q | rfl | rfl
                      · exact En i q
                      · exact ent_new hv488 (by omega) hv487 (by omega) (by omega)
                      · exact ent_new a479 (by omega) hv487 (by omega) (by omega)
                    exact ih τ435 h479 ⟨aup_trans O0.1 (aup_trans (aup_trans O435.1 O476.1) O479.1), O479.2.1, fun k T j hk (hC : k ≠ 68 ∧ k ≠ 69 ∧ (k < 71 ∨ 380 < k) ∧ (k ≠ 52 ∨ j < 26 ∨ 32 < j)) => (((O479.2.2 k T j (O476.1 _ _ (O435.1 _ _ (O0.1 _ _ hk))) (show ((k ≠ 379 ∧ k ≠ 380) ∨ j ≠ ((td - 1) + 1)) ∧ (k ≠ 52 ∨ j ≠ 30) by omega)).trans ((O476.2.2 k T j (O435.1 _ _ (O0.1 _ _ hk)) (show ((k ≠ 379 ∧ k ≠ 380) ∨ j ≠ (td - 1)) ∧ (k ≠ 52 ∨ j ≠ 30) by omega)).trans ((O435.2.2 k T j (O0.1 _ _ hk) (show k ≠ 68 ∧ k ≠ 69 ∧ k ≠ 378 ∧ k ≠ 71 + n ∧ ((k ≠ 371 ∧ k ≠ 372 ∧ k ≠ 373 ∧ k ≠ 374 ∧ k ≠ 375 ∧ k ≠ 376) ∨ j ≠ n) ∧ (k ≠ 52 ∨ j ≠ 26) by omega)).trans (ho431 k j (by omega)))))).trans (O0.2.2 k T j hk hC)⟩ (n + 1) ((((td - 1) + 1) + 1)) (dn) _ ⟨⟨_, hv481, by omega⟩, ⟨_, c479, by omega⟩, ⟨_, hv485, by omega⟩, by omega, by omega, by omega, G2, En2⟩ (by omega)
              ·
                refine y_cF (c := .gt) (off := 6) (len := 3) (r := (0, 0, 0, 0)) (by decide +kernel) (acmpF (c := .gt) (by show _ ≤ _; omega)) ?_
                refine y_goto (off := (-117)) (pc' := 57) (len := 3) (r := (0, 0, 0, 0)) (by decide +kernel) (by decide +kernel) ?_
                have hv489 := (O435.2.2 52 52 30 (t52 hg431) (show 52 ≠ 68 ∧ 52 ≠ 69 ∧ 52 ≠ 378 ∧ 52 ≠ 71 + n ∧ ((52 ≠ 371 ∧ 52 ≠ 372 ∧ 52 ≠ 373 ∧ 52 ≠ 374 ∧ 52 ≠ 375 ∧ 52 ≠ 376) ∨ 30 ≠ n) ∧ (52 ≠ 52 ∨ 30 ≠ 26) by omega)).trans hs431
                have hv490 := (ho431 52 29 (Or.inr (by omega))).trans hd
                have hv491 := (O435.2.2 52 52 29 (t52 hg431) (show 52 ≠ 68 ∧ 52 ≠ 69 ∧ 52 ≠ 378 ∧ 52 ≠ 71 + n ∧ ((52 ≠ 371 ∧ 52 ≠ 372 ∧ 52 ≠ 373 ∧ 52 ≠ 374 ∧ 52 ≠ 375 ∧ 52 ≠ 376) ∨ 29 ≠ n) ∧ (52 ≠ 52 ∨ 29 ≠ 26) by omega)).trans hv490
                have F : oF (fun k j => k ≠ 68 ∧ k ≠ 69 ∧ k ≠ 378 ∧ k ≠ 71 + n ∧ k ≠ 52 ∧ k ≠ 377 ∧ ((k ≠ 371 ∧ k ≠ 372 ∧ k ≠ 373 ∧ k ≠ 374 ∧ k ≠ 375 ∧ k ≠ 376) ∨ j ≠ n) ∧ ((k ≠ 379 ∧ k ≠ 380) ∨ j < td - 1)) τ h τ435 h435 := ⟨O435.1, O435.2.1, fun k T j hk (hC : k ≠ 68 ∧ k ≠ 69 ∧ k ≠ 378 ∧ k ≠ 71 + n ∧ k ≠ 52 ∧ k ≠ 377 ∧ ((k ≠ 371 ∧ k ≠ 372 ∧ k ≠ 373 ∧ k ≠ 374 ∧ k ≠ 375 ∧ k ≠ 376) ∨ j ≠ n) ∧ ((k ≠ 379 ∧ k ≠ 380) ∨ j < td - 1)) => ((O435.2.2 k T j hk (show k ≠ 68 ∧ k ≠ 69 ∧ k ≠ 378 ∧ k ≠ 71 + n ∧ ((k ≠ 371 ∧ k ≠ 372 ∧ k ≠ 373 ∧ k ≠ 374 ∧ k ≠ 375 ∧ k ≠ 376) ∨ j ≠ n) ∧ (k ≠ 52 ∨ j ≠ 26) by omega)).trans (ho431 k j (by omega)))⟩
                have G2 : Gv h435 (n + 1) := Gv_up2 G1 O435.2.1 (by omega) ⟨(aup_refl _), O435.2.1, fun k T j hk (hC : k ≠ 377 ∧ k ≠ 379 ∧ k ≠ 380 ∧ k ≠ 52) => rfl⟩
                have En : ∀ i, i < td - 1 → ent h435 (n + 1) i := fun i hi => ent_up (hent i (by omega)) (by omega) (F.2.2 379 379 i (tu379 hg) (show 379 ≠ 68 ∧ 379 ≠ 69 ∧ 379 ≠ 378 ∧ 379 ≠ 71 + n ∧ 379 ≠ 52 ∧ 379 ≠ 377 ∧ ((379 ≠ 371 ∧ 379 ≠ 372 ∧ 379 ≠ 373 ∧ 379 ≠ 374 ∧ 379 ≠ 375 ∧ 379 ≠ 376) ∨ i ≠ n) ∧ ((379 ≠ 379 ∧ 379 ≠ 380) ∨ i < td - 1) by omega)) (fun j hj => F.2.2 373 373 j (tu373 hg) (show 373 ≠ 68 ∧ 373 ≠ 69 ∧ 373 ≠ 378 ∧ 373 ≠ 71 + n ∧ 373 ≠ 52 ∧ 373 ≠ 377 ∧ ((373 ≠ 371 ∧ 373 ≠ 372 ∧ 373 ≠ 373 ∧ 373 ≠ 374 ∧ 373 ≠ 375 ∧ 373 ≠ 376) ∨ j ≠ n) ∧ ((373 ≠ 379 ∧ 373 ≠ 380) ∨ j < td - 1) by omega))
                exact ih τ435 h435 ⟨aup_trans O0.1 O435.1, O435.2.1, fun k T j hk (hC : k ≠ 68 ∧ k ≠ 69 ∧ (k < 71 ∨ 380 < k) ∧ (k ≠ 52 ∨ j < 26 ∨ 32 < j)) => (((O435.2.2 k T j (O0.1 _ _ hk) (show k ≠ 68 ∧ k ≠ 69 ∧ k ≠ 378 ∧ k ≠ 71 + n ∧ ((k ≠ 371 ∧ k ≠ 372 ∧ k ≠ 373 ∧ k ≠ 374 ∧ k ≠ 375 ∧ k ≠ 376) ∨ j ≠ n) ∧ (k ≠ 52 ∨ j ≠ 26) by omega)).trans (ho431 k j (by omega)))).trans (O0.2.2 k T j hk hC)⟩ (n + 1) ((td - 1)) (dn) _ ⟨⟨_, s26, by omega⟩, ⟨_, hv489, by omega⟩, ⟨_, hv491, by omega⟩, by omega, by omega, by omega, G2, En⟩ (by omega)
            ·
              refine y_cF (c := .ne) (off := 23) (len := 3) (r := (0, 0, 0, 0)) (by decide +kernel) (acmpF (c := .ne) (by show _ = _; omega)) ?_
              refine y_same (i := .aload_n 0) (len := 1) (r := (0, 0, 0, 0)) (pc' := 145) (ls' := [some (.inl (some 52)), some (zi xv), some (zi y440)]) (st' := [.inl (some 52)]) (by decide +kernel) (fun k q => by cases q) rfl ?_
              refine y_get (j := 58) (len := 3) (r := (12, 22, 2, 1350)) (by decide +kernel) O435.2.1 (t52 O435.2.1) at52 rfl rfl (g_r52 (f := 22) (T2 := 377) O435.2.1 rfl (by decide)).1 ?_
              refine y_same (i := .aload_n 0) (len := 1) (r := (0, 0, 0, 0)) (pc' := 149) (ls' := [some (.inl (some 52)), some (zi xv), some (zi y440)]) (st' := [.inl (some 52), .inl (some 377)]) (by decide +kernel) (fun k q => by cases q) rfl ?_
              have hv492 := (ho431 52 29 (Or.inr (by omega))).trans hd
              have hv493 := (O435.2.2 52 52 29 (t52 hg431) (show 52 ≠ 68 ∧ 52 ≠ 69 ∧ 52 ≠ 378 ∧ 52 ≠ 71 + n ∧ ((52 ≠ 371 ∧ 52 ≠ 372 ∧ 52 ≠ 373 ∧ 52 ≠ 374 ∧ 52 ≠ 375 ∧ 52 ≠ 376) ∨ 29 ≠ n) ∧ (52 ≠ 52 ∨ 29 ≠ 26) by omega)).trans hv492
              refine y_get (j := 385) (len := 3) (r := (12, 29, 0, 1357)) (by decide +kernel) O435.2.1 (t52 O435.2.1) at52 rfl rfl hv493 ?_
              refine y_same (i := .iload_n 2) (len := 1) (r := (0, 0, 0, 0)) (pc' := 153) (ls' := [some (.inl (some 52)), some (zi xv), some (zi y440)]) (st' := [zi y440, zi xd, .inl (some 377)]) (by decide +kernel) (fun k q => by cases q) rfl ?_
              refine y_ias (i := dn) (len := 1) (r := (0, 0, 0, 0)) (by decide +kernel) O435.2.1 (tu377 O435.2.1) at377 rfl (by omega) (by omega) (sr1 (by omega)) (by omega) (by omega) (fun h494 hg494 hl494 hs494 ho494 => ?_)
              refine y_same (i := .aload_n 0) (len := 1) (r := (0, 0, 0, 0)) (pc' := 155) (ls' := [some (.inl (some 52)), some (zi xv), some (zi y440)]) (st' := [.inl (some 52)]) (by decide +kernel) (fun k q => by cases q) rfl ?_
              refine y_same (i := .dup) (len := 1) (r := (0, 0, 0, 0)) (pc' := 156) (ls' := [some (.inl (some 52)), some (zi xv), some (zi y440)]) (st' := [.inl (some 52), .inl (some 52)]) (by decide +kernel) (fun k q => by cases q) rfl ?_
              have hv495 := (ho494 52 29 (Or.inl (by omega))).trans hv493
              refine y_get (j := 385) (len := 3) (r := (12, 29, 0, 1357)) (by decide +kernel) hg494 (t52 hg494) at52 rfl rfl hv495 ?_
              refine y_ic (c := 1) (len := 1) (r := (0, 0, 0, 0)) (by decide +kernel) (by decide) (fun y496 hy496 => ?_)
              refine y_add (len := 1) (r := (0, 0, 0, 0)) (by decide +kernel) (by omega) (by omega) (fun y497 hy497 => ?_)
              refine y_put (j := 385) (lo := 0) (hi := 300) (len := 3) (r := (12, 29, 0, 1357)) (by decide +kernel) hg494 (t52 hg494) at52 rfl rfl (by decide) rfl (by omega) (by omega) rfl (fun h498 hg498 hl498 hs498 ho498 => ?_)
              have ho498 : hO 52 29 h494 h498 := ho498
              have hs498 : hsl h498 52 29 = some (zi y497) := hs498
              refine y_same (i := .aload_n 0) (len := 1) (r := (0, 0, 0, 0)) (pc' := 165) (ls' := [some (.inl (some 52)), some (zi xv), some (zi y440)]) (st' := [.inl (some 52)]) (by decide +kernel) (fun k q => by cases q) rfl ?_
              refine y_get (j := 46) (len := 3) (r := (12, 18, 2, 1346)) (by decide +kernel) hg498 (t52 hg498) at52 rfl rfl (g_r52 (f := 18) (T2 := 373) hg498 rfl (by decide)).1 ?_
              refine y_same (i := .iload_n 2) (len := 1) (r := (0, 0, 0, 0)) (pc' := 169) (ls' := [some (.inl (some 52)), some (zi xv), some (zi y440)]) (st' := [zi y440, .inl (some 373)]) (by decide +kernel) (fun k q => by cases q) rfl ?_
              have hv499 := (ho494 373 n (Or.inl (by omega))).trans hv442
              have hv500 := (ho498 373 n (Or.inl (by omega))).trans hv499
              refine y_ial (i := n) (len := 1) (r := (0, 0, 0, 0)) (by decide +kernel) hg498 (tu373 hg498) at373 (by omega) hv500 ?_
              refine y_ic (c := 2) (len := 1) (r := (0, 0, 0, 0)) (by decide +kernel) (by decide) (fun y501 hy501 => ?_)
              rcases Decidable.em (v441.toInt > y501.toInt) with q502 | q502
              ·
                refine y_cT (c := .gt) (off := 6) (pc' := 177) (len := 3) (r := (0, 0, 0, 0)) (by decide +kernel) (acmpT (c := .gt) (by show _ < _; omega)) (by decide +kernel) ?_
                refine y_same (i := .aload_n 0) (len := 1) (r := (0, 0, 0, 0)) (pc' := 178) (ls' := [some (.inl (some 52)), some (zi xv), some (zi y440)]) (st' := [.inl (some 52)]) (by decide +kernel) (fun k q => by cases q) rfl ?_
                refine y_get (j := 46) (len := 3) (r := (12, 18, 2, 1346)) (by decide +kernel) hg498 (t52 hg498) at52 rfl rfl (g_r52 (f := 18) (T2 := 373) hg498 rfl (by decide)).1 ?_
                refine y_same (i := .iload_n 2) (len := 1) (r := (0, 0, 0, 0)) (pc' := 182) (ls' := [some (.inl (some 52)), some (zi xv), some (zi y440)]) (st' := [zi y440, .inl (some 373)]) (by decide +kernel) (fun k q => by cases q) rfl ?_
                refine y_ial (i := n) (len := 1) (r := (0, 0, 0, 0)) (by decide +kernel) hg498 (tu373 hg498) at373 (by omega) hv500 ?_
                refine y_bi (c := 6) (len := 2) (r := (0, 0, 0, 0)) (by decide +kernel) (by decide) (fun y503 hy503 => ?_)
                rcases Decidable.em (v441.toInt = y503.toInt) with q504 | q504
                ·
                  refine y_cT (c := .eq) (off := 14) (pc' := 199) (len := 3) (r := (0, 0, 0, 0)) (by decide +kernel) (acmpT (c := .eq) (by show _ = _; omega)) (by decide +kernel) ?_
                  refine y_same (i := .aload_n 0) (len := 1) (r := (0, 0, 0, 0)) (pc' := 200) (ls' := [some (.inl (some 52)), some (zi xv), some (zi y440)]) (st' := [.inl (some 52)]) (by decide +kernel) (fun k q => by cases q) rfl ?_
                  refine y_same (i := .iload_n 2) (len := 1) (r := (0, 0, 0, 0)) (pc' := 201) (ls' := [some (.inl (some 52)), some (zi xv), some (zi y440)]) (st' := [zi y440, .inl (some 52)]) (by decide +kernel) (fun k q => by cases q) rfl ?_
                  refine y_ic (c := 1) (len := 1) (r := (0, 0, 0, 0)) (by decide +kernel) (by decide) (fun y505 hy505 => ?_)
                  have hv507 := (O435.2.2 52 52 30 (t52 hg431) (show 52 ≠ 68 ∧ 52 ≠ 69 ∧ 52 ≠ 378 ∧ 52 ≠ 71 + n ∧ ((52 ≠ 371 ∧ 52 ≠ 372 ∧ 52 ≠ 373 ∧ 52 ≠ 374 ∧ 52 ≠ 375 ∧ 52 ≠ 376) ∨ 30 ≠ n) ∧ (52 ≠ 52 ∨ 30 ≠ 26) by omega)).trans hs431
                  have hv508 := (ho494 52 30 (Or.inl (by omega))).trans hv507
                  have hv509 := (ho498 52 30 (Or.inr (by omega))).trans hv508
                  refine y_cV (i := .invokevirtual 394) (len := 3) (r := (0, 237, 12, 1632)) (nL := 3) (k := 0) (n := 3) (hs := []) (args := [.inl (some 52), zi y440, zi y505]) (rest := []) (l0 := [some (.inl (some 52)), some (zi y440), some (zi y505)]) (by decide +kernel) (Or.inr (Or.inl ⟨_, rfl⟩)) rfl rfl rfl rfl (Nat.le_of_ble_eq_true rfl) (z52 hg498) rfl (e_waits (td := (td - 1)) hg498 (by omega) (by omega) (by omega) (by omega) hv509 (by omega) (by omega)) (fun h506 hR506 => ?_)
                  obtain ⟨O506, a506, b506, x506, c506, e506⟩ := hR506
                  refine y_same (i := .aload_n 0) (len := 1) (r := (0, 0, 0, 0)) (pc' := 206) (ls' := [some (.inl (some 52)), some (zi xv), some (zi y440)]) (st' := [.inl (some 52)]) (by decide +kernel) (fun k q => by cases q) rfl ?_
                  refine y_same (i := .iload_n 2) (len := 1) (r := (0, 0, 0, 0)) (pc' := 207) (ls' := [some (.inl (some 52)), some (zi xv), some (zi y440)]) (st' := [zi y440, .inl (some 52)]) (by decide +kernel) (fun k q => by cases q) rfl ?_
                  refine y_ic (c := 0) (len := 1) (r := (0, 0, 0, 0)) (by decide +kernel) (by decide) (fun y510 hy510 => ?_)
                  refine y_cV (i := .invokevirtual 394) (len := 3) (r := (0, 237, 12, 1632)) (nL := 3) (k := 0) (n := 3) (hs := []) (args := [.inl (some 52), zi y440, zi y510]) (rest := []) (l0 := [some (.inl (some 52)), some (zi y440), some (zi y510)]) (by decide +kernel) (Or.inr (Or.inl ⟨_, rfl⟩)) rfl rfl rfl rfl (Nat.le_of_ble_eq_true rfl) (z52 O506.2.1) rfl (e_waits (td := ((td - 1) + 1)) O506.2.1 (by omega) (by omega) (by omega) (by omega) c506 (by omega) (by omega)) (fun h511 hR511 => ?_)
                  obtain ⟨O511, a511, b511, x511, c511, e511⟩ := hR511
                  refine y_goto (off := (-154)) (pc' := 57) (len := 3) (r := (0, 0, 0, 0)) (by decide +kernel) (by decide +kernel) ?_
                  have hv512 := (ho494 52 26 (Or.inl (by omega))).trans s26
                  have hv513 := (ho498 52 26 (Or.inr (by omega))).trans hv512
                  have hv514 := (O506.2.2 52 52 26 (t52 hg498) (show ((52 ≠ 379 ∧ 52 ≠ 380) ∨ 26 ≠ (td - 1)) ∧ (52 ≠ 52 ∨ 26 ≠ 30) by omega)).trans hv513
                  have hv515 := (O511.2.2 52 52 26 (t52 O506.2.1) (show ((52 ≠ 379 ∧ 52 ≠ 380) ∨ 26 ≠ ((td - 1) + 1)) ∧ (52 ≠ 52 ∨ 26 ≠ 30) by omega)).trans hv514
                  have hv516 := (O506.2.2 52 52 29 (t52 hg498) (show ((52 ≠ 379 ∧ 52 ≠ 380) ∨ 29 ≠ (td - 1)) ∧ (52 ≠ 52 ∨ 29 ≠ 30) by omega)).trans hs498
                  have hv517 := (O511.2.2 52 52 29 (t52 O506.2.1) (show ((52 ≠ 379 ∧ 52 ≠ 380) ∨ 29 ≠ ((td - 1) + 1)) ∧ (52 ≠ 52 ∨ 29 ≠ 30) by omega)).trans hv516
                  have hv518 := (O506.2.2 373 373 n (tu373 hg498) (show ((373 ≠ 379 ∧ 373 ≠ 380) ∨ n ≠ (td - 1)) ∧ (373 ≠ 52 ∨ n ≠ 30) by omega)).trans hv500
                  have hv519 := (O511.2.2 373 373 n (tu373 O506.2.1) (show ((373 ≠ 379 ∧ 373 ≠ 380) ∨ n ≠ ((td - 1) + 1)) ∧ (373 ≠ 52 ∨ n ≠ 30) by omega)).trans hv518
                  have hv520 := (O511.2.2 379 379 (td - 1) (tu379 O506.2.1) (show ((379 ≠ 379 ∧ 379 ≠ 380) ∨ (td - 1) ≠ ((td - 1) + 1)) ∧ (379 ≠ 52 ∨ (td - 1) ≠ 30) by omega)).trans a506
                  have F : oF (fun k j => k ≠ 68 ∧ k ≠ 69 ∧ k ≠ 378 ∧ k ≠ 71 + n ∧ k ≠ 52 ∧ k ≠ 377 ∧ ((k ≠ 371 ∧ k ≠ 372 ∧ k ≠ 373 ∧ k ≠ 374 ∧ k ≠ 375 ∧ k ≠ 376) ∨ j ≠ n) ∧ ((k ≠ 379 ∧ k ≠ 380) ∨ j < td - 1)) τ h τ435 h511 := ⟨(aup_trans (aup_trans O435.1 O506.1) O511.1), O511.2.1, fun k T j hk (hC : k ≠ 68 ∧ k ≠ 69 ∧ k ≠ 378 ∧ k ≠ 71 + n ∧ k ≠ 52 ∧ k ≠ 377 ∧ ((k ≠ 371 ∧ k ≠ 372 ∧ k ≠ 373 ∧ k ≠ 374 ∧ k ≠ 375 ∧ k ≠ 376) ∨ j ≠ n) ∧ ((k ≠ 379 ∧ k ≠ 380) ∨ j < td - 1)) => ((O511.2.2 k T j (O506.1 _ _ (O435.1 _ _ hk)) (show ((k ≠ 379 ∧ k ≠ 380) ∨ j ≠ ((td - 1) + 1)) ∧ (k ≠ 52 ∨ j ≠ 30) by omega)).trans ((O506.2.2 k T j (O435.1 _ _ hk) (show ((k ≠ 379 ∧ k ≠ 380) ∨ j ≠ (td - 1)) ∧ (k ≠ 52 ∨ j ≠ 30) by omega)).trans ((ho498 k j (by omega)).trans ((ho494 k j (by omega)).trans ((O435.2.2 k T j hk (show k ≠ 68 ∧ k ≠ 69 ∧ k ≠ 378 ∧ k ≠ 71 + n ∧ ((k ≠ 371 ∧ k ≠ 372 ∧ k ≠ 373 ∧ k ≠ 374 ∧ k ≠ 375 ∧ k ≠ 376) ∨ j ≠ n) ∧ (k ≠ 52 ∨ j ≠ 26) by omega)).trans (ho431 k j (by omega)))))))⟩
                  have G2 : Gv h511 (n + 1) := Gv_up2 G1 O435.2.1 (by omega) ⟨(aup_trans O506.1 O511.1), O511.2.1, fun k T j hk (hC : k ≠ 377 ∧ k ≠ 379 ∧ k ≠ 380 ∧ k ≠ 52) => ((O511.2.2 k T j (O506.1 _ _ hk) (show ((k ≠ 379 ∧ k ≠ 380) ∨ j ≠ ((td - 1) + 1)) ∧ (k ≠ 52 ∨ j ≠ 30) by omega)).trans ((O506.2.2 k T j hk (show ((k ≠ 379 ∧ k ≠ 380) ∨ j ≠ (td - 1)) ∧ (k ≠ 52 ∨ j ≠ 30) by omega)).trans ((ho498 k j (by omega)).trans (ho494 k j (by omega)))))⟩
                  have En : ∀ i, i < td - 1 → ent h511 (n + 1) i := fun i hi => ent_up (hent i (by omega)) (by omega) (F.2.2 379 379 i (tu379 hg) (show 379 ≠ 68 ∧ 379 ≠ 69 ∧ 379 ≠ 378 ∧ 379 ≠ 71 + n ∧ 379 ≠ 52 ∧ 379 ≠ 377 ∧ ((379 ≠ 371 ∧ 379 ≠ 372 ∧ 379 ≠ 373 ∧ 379 ≠ 374 ∧ 379 ≠ 375 ∧ 379 ≠ 376) ∨ i ≠ n) ∧ ((379 ≠ 379 ∧ 379 ≠ 380) ∨ i < td - 1) by omega)) (fun j hj => F.2.2 373 373 j (tu373 hg) (show 373 ≠ 68 ∧ 373 ≠ 69 ∧ 373 ≠ 378 ∧ 373 ≠ 71 + n ∧ 373 ≠ 52 ∧ 373 ≠ 377 ∧ ((373 ≠ 371 ∧ 373 ≠ 372 ∧ 373 ≠ 373 ∧ 373 ≠ 374 ∧ 373 ≠ 375 ∧ 373 ≠ 376) ∨ j ≠ n) ∧ ((373 ≠ 379 ∧ 373 ≠ 380) ∨ j < td - 1) by omega))
                  have En2 : ∀ i, i < (((td - 1) + 1) + 1) → ent h511 (n + 1) i := fun i hi => by
                    rcases (show i < td - 1 ∨ i = (td - 1) ∨ i = ((td - 1) + 1) by omega) with q | rfl | rfl
                    · exact En i q
                    · exact ent_new hv520 (by omega) hv519 (by omega) (by omega)
                    · exact ent_new a511 (by omega) hv519 (by omega) (by omega)
                  exact ih τ435 h511 ⟨aup_trans O0.1 (aup_trans (aup_trans O435.1 O506.1) O511.1), O511.2.1, fun k T j hk (hC : k ≠ 68 ∧ k ≠ 69 ∧ (k < 71 ∨ 380 < k) ∧ (k ≠ 52 ∨ j < 26 ∨ 32 < j)) => (((O511.2.2 k T j (O506.1 _ _ (O435.1 _ _ (O0.1 _ _ hk))) (show ((k ≠ 379 ∧ k ≠ 380) ∨ j ≠ ((td - 1) + 1)) ∧ (k ≠ 52 ∨ j ≠ 30) by omega)).trans ((O506.2.2 k T j (O435.1 _ _ (O0.1 _ _ hk)) (show ((k ≠ 379 ∧ k ≠ 380) ∨ j ≠ (td - 1)) ∧ (k ≠ 52 ∨ j ≠ 30) by omega)).trans ((ho498 k j (by omega)).trans ((ho494 k j (by omega)).trans ((O435.2.2 k T j (O0.1 _ _ hk) (show k ≠ 68 ∧ k ≠ 69 ∧ k ≠ 378 ∧ k ≠ 71 + n ∧ ((k ≠ 371 ∧ k ≠ 372 ∧ k ≠ 373 ∧ k ≠ 374 ∧ k ≠ 375 ∧ k ≠ 376) ∨ j ≠ n) ∧ (k ≠ 52 ∨ j ≠ 26) by omega)).trans (ho431 k j (by omega)))))))).trans (O0.2.2 k T j hk hC)⟩ (n + 1) ((((td - 1) + 1) + 1)) ((dn + 1)) _ ⟨⟨_, hv515, by omega⟩, ⟨_, c511, by omega⟩, ⟨_, hv517, by omega⟩, by omega, by omega, by omega, G2, En2⟩ (by omega)
                ·
                  refine y_cF (c := .eq) (off := 14) (len := 3) (r := (0, 0, 0, 0)) (by decide +kernel) (acmpF (c := .eq) (by show ¬ (_ = _); omega)) ?_
                  refine y_same (i := .aload_n 0) (len := 1) (r := (0, 0, 0, 0)) (pc' := 189) (ls' := [some (.inl (some 52)), some (zi xv), some (zi y440)]) (st' := [.inl (some 52)]) (by decide +kernel) (fun k q => by cases q) rfl ?_
                  refine y_get (j := 46) (len := 3) (r := (12, 18, 2, 1346)) (by decide +kernel) hg498 (t52 hg498) at52 rfl rfl (g_r52 (f := 18) (T2 := 373) hg498 rfl (by decide)).1 ?_
                  refine y_same (i := .iload_n 2) (len := 1) (r := (0, 0, 0, 0)) (pc' := 193) (ls' := [some (.inl (some 52)), some (zi xv), some (zi y440)]) (st' := [zi y440, .inl (some 373)]) (by decide +kernel) (fun k q => by cases q) rfl ?_
                  refine y_ial (i := n) (len := 1) (r := (0, 0, 0, 0)) (by decide +kernel) hg498 (tu373 hg498) at373 (by omega) hv500 ?_
                  refine y_bi (c := 7) (len := 2) (r := (0, 0, 0, 0)) (by decide +kernel) (by decide) (fun y521 hy521 => ?_)
                  rcases Decidable.em (v441.toInt ≠ y521.toInt) with q522 | q522
                  ·
                    refine y_cT (c := .ne) (off := 9) (pc' := 205) (len := 3) (r := (0, 0, 0, 0)) (by decide +kernel) (acmpT (c := .ne) (by show ¬ (_ = _); omega)) (by decide +kernel) ?_
                    refine y_same (i := .aload_n 0) (len := 1) (r := (0, 0, 0, 0)) (pc' := 206) (ls' := [some (.inl (some 52)), some (zi xv), some (zi y440)]) (st' := [.inl (some 52)]) (by decide +kernel) (fun k q => by cases q) rfl ?_
                    refine y_same (i := .iload_n 2) (len := 1) (r := (0, 0, 0, 0)) (pc' := 207) (ls' := [some (.inl (some 52)), some (zi xv), some (zi y440)]) (st' := [zi y440, .inl (some 52)]) (by decide +kernel) (fun k q => by cases q) rfl ?_
                    refine y_ic (c := 0) (len := 1) (r := (0, 0, 0, 0)) (by decide +kernel) (by decide) (fun y523 hy523 => ?_)
                    have hv525 := (O435.2.2 52 52 30 (t52 hg431) (show 52 ≠ 68 ∧ 52 ≠ 69 ∧ 52 ≠ 378 ∧ 52 ≠ 71 + n ∧ ((52 ≠ 371 ∧ 52 ≠ 372 ∧ 52 ≠ 373 ∧ 52 ≠ 374 ∧ 52 ≠ 375 ∧ 52 ≠ 376) ∨ 30 ≠ n) ∧ (52 ≠ 52 ∨ 30 ≠ 26) by omega)).trans hs431
                    have hv526 := (ho494 52 30 (Or.inl (by omega))).trans hv525
                    have hv527 := (ho498 52 30 (Or.inr (by omega))).trans hv526
                    refine y_cV (i := .invokevirtual 394) (len := 3) (r := (0, 237, 12, 1632)) (nL := 3) (k := 0) (n := 3) (hs := []) (args := [.inl (some 52), zi y440, zi y523]) (rest := []) (l0 := [some (.inl (some 52)), some (zi y440), some (zi y523)]) (by decide +kernel) (Or.inr (Or.inl ⟨_, rfl⟩)) rfl rfl rfl rfl (Nat.le_of_ble_eq_true rfl) (z52 hg498) rfl (e_waits (td := (td - 1)) hg498 (by omega) (by omega) (by omega) (by omega) hv527 (by omega) (by omega)) (fun h524 hR524 => ?_)
                    obtain ⟨O524, a524, b524, x524, c524, e524⟩ := hR524
                    refine y_goto (off := (-154)) (pc' := 57) (len := 3) (r := (0, 0, 0, 0)) (by decide +kernel) (by decide +kernel) ?_
                    have hv528 := (ho494 52 26 (Or.inl (by omega))).trans s26
                    have hv529 := (ho498 52 26 (Or.inr (by omega))).trans hv528
                    have hv530 := (O524.2.2 52 52 26 (t52 hg498) (show ((52 ≠ 379 ∧ 52 ≠ 380) ∨ 26 ≠ (td - 1)) ∧ (52 ≠ 52 ∨ 26 ≠ 30) by omega)).trans hv529
                    have hv531 := (O524.2.2 52 52 29 (t52 hg498) (show ((52 ≠ 379 ∧ 52 ≠ 380) ∨ 29 ≠ (td - 1)) ∧ (52 ≠ 52 ∨ 29 ≠ 30) by omega)).trans hs498
                    have hv532 := (O524.2.2 373 373 n (tu373 hg498) (show ((373 ≠ 379 ∧ 373 ≠ 380) ∨ n ≠ (td - 1)) ∧ (373 ≠ 52 ∨ n ≠ 30) by omega)).trans hv500
                    have F : oF (fun k j => k ≠ 68 ∧ k ≠ 69 ∧ k ≠ 378 ∧ k ≠ 71 + n ∧ k ≠ 52 ∧ k ≠ 377 ∧ ((k ≠ 371 ∧ k ≠ 372 ∧ k ≠ 373 ∧ k ≠ 374 ∧ k ≠ 375 ∧ k ≠ 376) ∨ j ≠ n) ∧ ((k ≠ 379 ∧ k ≠ 380) ∨ j < td - 1)) τ h τ435 h524 := ⟨(aup_trans O435.1 O524.1), O524.2.1, fun k T j hk (hC : k ≠ 68 ∧ k ≠ 69 ∧ k ≠ 378 ∧ k ≠ 71 + n ∧ k ≠ 52 ∧ k ≠ 377 ∧ ((k ≠ 371 ∧ k ≠ 372 ∧ k ≠ 373 ∧ k ≠ 374 ∧ k ≠ 375 ∧ k ≠ 376) ∨ j ≠ n) ∧ ((k ≠ 379 ∧ k ≠ 380) ∨ j < td - 1)) => ((O524.2.2 k T j (O435.1 _ _ hk) (show ((k ≠ 379 ∧ k ≠ 380) ∨ j ≠ (td - 1)) ∧ (k ≠ 52 ∨ j ≠ 30) by omega)).trans ((ho498 k j (by omega)).trans ((ho494 k j (by omega)).trans ((O435.2.2 k T j hk (show k ≠ 68 ∧ k ≠ 69 ∧ k ≠ 378 ∧ k ≠ 71 + n ∧ ((k ≠ 371 ∧ k ≠ 372 ∧ k ≠ 373 ∧ k ≠ 374 ∧ k ≠ 375 ∧ k ≠ 376) ∨ j ≠ n) ∧ (k ≠ 52 ∨ j ≠ 26) by omega)).trans (ho431 k j (by omega))))))⟩
                    have G2 : Gv h524 (n + 1) := Gv_up2 G1 O435.2.1 (by omega) ⟨O524.1, O524.2.1, fun k T j hk (hC : k ≠ 377 ∧ k ≠ 379 ∧ k ≠ 380 ∧ k ≠ 52) => ((O524.2.2 k T j hk (show ((k ≠ 379 ∧ k ≠ 380) ∨ j ≠ (td - 1)) ∧ (k ≠ 52 ∨ j ≠ 30) by omega)).trans ((ho498 k j (by omega)).trans (ho494 k j (by omega))))⟩
                    have En : ∀ i, i < td - 1 → ent h524 (n + 1) i := fun i hi => ent_up (hent i (by omega)) (by omega) (F.2.2 379 379 i (tu379 hg) (show 379 ≠ 68 ∧ 379 ≠ 69 ∧ 379 ≠ 378 ∧ 379 ≠ 71 + n ∧ 379 ≠ 52 ∧ 379 ≠ 377 ∧ ((379 ≠ 371 ∧ 379 ≠ 372 ∧ 379 ≠ 373 ∧ 379 ≠ 374 ∧ 379 ≠ 375 ∧ 379 ≠ 376) ∨ i ≠ n) ∧ ((379 ≠ 379 ∧ 379 ≠ 380) ∨ i < td - 1) by omega)) (fun j hj => F.2.2 373 373 j (tu373 hg) (show 373 ≠ 68 ∧ 373 ≠ 69 ∧ 373 ≠ 378 ∧ 373 ≠ 71 + n ∧ 373 ≠ 52 ∧ 373 ≠ 377 ∧ ((373 ≠ 371 ∧ 373 ≠ 372 ∧ 373 ≠ 373 ∧ 373 ≠ 374 ∧ 373 ≠ 375 ∧ 373 ≠ 376) ∨ j ≠ n) ∧ ((373 ≠ 379 ∧ 373 ≠ 380) ∨ j < td - 1) by omega))
                    have En2 : ∀ i, i < ((td - 1) + 1) → ent h524 (n + 1) i := fun i hi => by
                      rcases (show i < td - 1 ∨ i = (td - 1) by omega) with q | rfl
                      · exact En i q
                      · exact ent_new a524 (by omega) hv532 (by omega) (by omega)
                    exact ih τ435 h524 ⟨aup_trans O0.1 (aup_trans O435.1 O524.1), O524.2.1, fun k T j hk (hC : k ≠ 68 ∧ k ≠ 69 ∧ (k < 71 ∨ 380 < k) ∧ (k ≠ 52 ∨ j < 26 ∨ 32 < j)) => (((O524.2.2 k T j (O435.1 _ _ (O0.1 _ _ hk)) (show ((k ≠ 379 ∧ k ≠ 380) ∨ j ≠ (td - 1)) ∧ (k ≠ 52 ∨ j ≠ 30) by omega)).trans ((ho498 k j (by omega)).trans ((ho494 k j (by omega)).trans ((O435.2.2 k T j (O0.1 _ _ hk) (show k ≠ 68 ∧ k ≠ 69 ∧ k ≠ 378 ∧ k ≠ 71 + n ∧ ((k ≠ 371 ∧ k ≠ 372 ∧ k ≠ 373 ∧ k ≠ 374 ∧ k ≠ 375 ∧ k ≠ 376) ∨ j ≠ n) ∧ (k ≠ 52 ∨ j ≠ 26) by omega)).trans (ho431 k j (by omega))))))).trans (O0.2.2 k T j hk hC)⟩ (n + 1) (((td - 1) + 1)) ((dn + 1)) _ ⟨⟨_, hv530, by omega⟩, ⟨_, c524, by omega⟩, ⟨_, hv531, by omega⟩, by omega, by omega, by omega, G2, En2⟩ (by omega)
                  ·
                    refine y_cF (c := .ne) (off := 9) (len := 3) (r := (0, 0, 0, 0)) (by decide +kernel) (acmpF (c := .ne) (by show _ = _; omega)) ?_
                    refine y_same (i := .aload_n 0) (len := 1) (r := (0, 0, 0, 0)) (pc' := 200) (ls' := [some (.inl (some 52)), some (zi xv), some (zi y440)]) (st' := [.inl (some 52)]) (by decide +kernel) (fun k q => by cases q) rfl ?_
                    refine y_same (i := .iload_n 2) (len := 1) (r := (0, 0, 0, 0)) (pc' := 201) (ls' := [some (.inl (some 52)), some (zi xv), some (zi y440)]) (st' := [zi y440, .inl (some 52)]) (by decide +kernel) (fun k q => by cases q) rfl ?_
                    refine y_ic (c := 1) (len := 1) (r := (0, 0, 0, 0)) (by decide +kernel) (by decide) (fun y533 hy533 => ?_)
                    have hv535 := (O435.2.2 52 52 30 (t52 hg431) (show 52 ≠ 68 ∧ 52 ≠ 69 ∧ 52 ≠ 378 ∧ 52 ≠ 71 + n ∧ ((52 ≠ 371 ∧ 52 ≠ 372 ∧ 52 ≠ 373 ∧ 52 ≠ 374 ∧ 52 ≠ 375 ∧ 52 ≠ 376) ∨ 30 ≠ n) ∧ (52 ≠ 52 ∨ 30 ≠ 26) by omega)).trans hs431
                    have hv536 := (ho494 52 30 (Or.inl (by omega))).trans hv535
                    have hv537 := (ho498 52 30 (Or.inr (by omega))).trans hv536
                    refine y_cV (i := .invokevirtual 394) (len := 3) (r := (0, 237, 12, 1632)) (nL := 3) (k := 0) (n := 3) (hs := []) (args := [.inl (some 52), zi y440, zi y533]) (rest := []) (l0 := [some (.inl (some 52)), some (zi y440), some (zi y533)]) (by decide +kernel) (Or.inr (Or.inl ⟨_, rfl⟩)) rfl rfl rfl rfl (Nat.le_of_ble_eq_true rfl) (z52 hg498) rfl (e_waits (td := (td - 1)) hg498 (by omega) (by omega) (by omega) (by omega) hv537 (by omega) (by omega)) (fun h534 hR534 => ?_)
                    obtain ⟨O534, a534, b534, x534, c534, e534⟩ := hR534
                    refine y_same (i := .aload_n 0) (len := 1) (r := (0, 0, 0, 0)) (pc' := 206) (ls' := [some (.inl (some 52)), some (zi xv), some (zi y440)]) (st' := [.inl (some 52)]) (by decide +kernel) (fun k q => by cases q) rfl ?_
                    refine y_same (i := .iload_n 2) (len := 1) (r := (0, 0, 0, 0)) (pc' := 207) (ls' := [some (.inl (some 52)), some (zi xv), some (zi y440)]) (st' := [zi y440, .inl (some 52)]) (by decide +kernel) (fun k q => by cases q) rfl ?_
                    refine y_ic (c := 0) (len := 1) (r := (0, 0, 0, 0)) (by decide +kernel) (by decide) (fun y538 hy538 => ?_)
                    refine y_cV (i := .invokevirtual 394) (len := 3) (r := (0, 237, 12, 1632)) (nL := 3) (k := 0) (n := 3) (hs := []) (args := [.inl (some 52), zi y440, zi y538]) (rest := []) (l0 := [some (.inl (some 52)), some (zi y440), some (zi y538)]) (by decide +kernel) (Or.inr (Or.inl ⟨_, rfl⟩)) rfl rfl rfl rfl (Nat.le_of_ble_eq_true rfl) (z52 O534.2.1) rfl (e_waits (td := ((td - 1) + 1)) O534.2.1 (by omega) (by omega) (by omega) (by omega) c534 (by omega) (by omega)) (fun h539 hR539 => ?_)
                    obtain ⟨O539, a539, b539, x539, c539, e539⟩ := hR539
                    refine y_goto (off := (-154)) (pc' := 57) (len := 3) (r := (0, 0, 0, 0)) (by decide +kernel) (by decide +kernel) ?_
                    have hv540 := (ho494 52 26 (Or.inl (by omega))).trans s26
                    have hv541 := (ho498 52 26 (Or.inr (by omega))).trans hv540
                    have hv542 := (O534.2.2 52 52 26 (t52 hg498) (show ((52 ≠ 379 ∧ 52 ≠ 380) ∨ 26 ≠ (td - 1)) ∧ (52 ≠ 52 ∨ 26 ≠ 30) by omega)).trans hv541
                    have hv543 := (O539.2.2 52 52 26 (t52 O534.2.1) (show ((52 ≠ 379 ∧ 52 ≠ 380) ∨ 26 ≠ ((td - 1) + 1)) ∧ (52 ≠ 52 ∨ 26 ≠ 30) by omega)).trans hv542
                    have hv544 := (O534.2.2 52 52 29 (t52 hg498) (show ((52 ≠ 379 ∧ 52 ≠ 380) ∨ 29 ≠ (td - 1)) ∧ (52 ≠ 52 ∨ 29 ≠ 30) by omega)).trans hs498
                    have hv545 := (O539.2.2 52 52 29 (t52 O534.2.1) (show ((52 ≠ 379 ∧ 52 ≠ 380) ∨ 29 ≠ ((td - 1) + 1)) ∧ (52 ≠ 52 ∨ 29 ≠ 30) by omega)).trans hv544
                    have hv546 := (O534.2.2 373 373 n (tu373 hg498) (show ((373 ≠ 379 ∧ 373 ≠ 380) ∨ n ≠ (td - 1)) ∧ (373 ≠ 52 ∨ n ≠ 30) by omega)).trans hv500
                    have hv547 := (O539.2.2 373 373 n (tu373 O534.2.1) (show ((373 ≠ 379 ∧ 373 ≠ 380) ∨ n ≠ ((td - 1) + 1)) ∧ (373 ≠ 52 ∨ n ≠ 30) by omega)).trans hv546
                    have hv548 := (O539.2.2 379 379 (td - 1) (tu379 O534.2.1) (show ((379 ≠ 379 ∧ 379 ≠ 380) ∨ (td - 1) ≠ ((td - 1) + 1)) ∧ (379 ≠ 52 ∨ (td - 1) ≠ 30) by omega)).trans a534
                    have F : oF (fun k j => k ≠ 68 ∧ k ≠ 69 ∧ k ≠ 378 ∧ k ≠ 71 + n ∧ k ≠ 52 ∧ k ≠ 377 ∧ ((k ≠ 371 ∧ k ≠ 372 ∧ k ≠ 373 ∧ k ≠ 374 ∧ k ≠ 375 ∧ k ≠ 376) ∨ j ≠ n) ∧ ((k ≠ 379 ∧ k ≠ 380) ∨ j < td - 1)) τ h τ435 h539 := ⟨(aup_trans (aup_trans O435.1 O534.1) O539.1), O539.2.1, fun k T j hk (hC : k ≠ 68 ∧ k ≠ 69 ∧ k ≠ 378 ∧ k ≠ 71 + n ∧ k ≠ 52 ∧ k ≠ 377 ∧ ((k ≠ 371 ∧ k ≠ 372 ∧ k ≠ 373 ∧ k ≠ 374 ∧ k ≠ 375 ∧ k ≠ 376) ∨ j ≠ n) ∧ ((k ≠ 379 ∧ k ≠ 380) ∨ j < td - 1)) => ((O539.2.2 k T j (O534.1 _ _ (O435.1 _ _ hk)) (show ((k ≠ 379 ∧ k ≠ 380) ∨ j ≠ ((td - 1) + 1)) ∧ (k ≠ 52 ∨ j ≠ 30) by omega)).trans ((O534.2.2 k T j (O435.1 _ _ hk) (show ((k ≠ 379 ∧ k ≠ 380) ∨ j ≠ (td - 1)) ∧ (k ≠ 52 ∨ j ≠ 30) by omega)).trans ((ho498 k j (by omega)).trans ((ho494 k j (by omega)).trans ((O435.2.2 k T j hk (show k ≠ 68 ∧ k ≠ 69 ∧ k ≠ 378 ∧ k ≠ 71 + n ∧ ((k ≠ 371 ∧ k ≠ 372 ∧ k ≠ 373 ∧ k ≠ 374 ∧ k ≠ 375 ∧ k ≠ 376) ∨ j ≠ n) ∧ (k ≠ 52 ∨ j ≠ 26) by omega)).trans (ho431 k j (by omega)))))))⟩
                    have G2 : Gv h539 (n + 1) := Gv_up2 G1 O435.2.1 (by omega) ⟨(aup_trans O534.1 O539.1), O539.2.1, fun k T j hk (hC : k ≠ 377 ∧ k ≠ 379 ∧ k ≠ 380 ∧ k ≠ 52) => ((O539.2.2 k T j (O534.1 _ _ hk) (show ((k ≠ 379 ∧ k ≠ 380) ∨ j ≠ ((td - 1) + 1)) ∧ (k ≠ 52 ∨ j ≠ 30) by omega)).trans ((O534.2.2 k T j hk (show ((k ≠ 379 ∧ k ≠ 380) ∨ j ≠ (td - 1)) ∧ (k ≠ 52 ∨ j ≠ 30) by omega)).trans ((ho498 k j (by omega)).trans (ho494 k j (by omega)))))⟩
                    have En : ∀ i, i < td - 1 → ent h539 (n + 1) i := fun i hi => ent_up (hent i (by omega)) (by omega) (F.2.2 379 379 i (tu379 hg) (show 379 ≠ 68 ∧ 379 ≠ 69 ∧ 379 ≠ 378 ∧ 379 ≠ 71 + n ∧ 379 ≠ 52 ∧ 379 ≠ 377 ∧ ((379 ≠ 371 ∧ 379 ≠ 372 ∧ 379 ≠ 373 ∧ 379 ≠ 374 ∧ 379 ≠ 375 ∧ 379 ≠ 376) ∨ i ≠ n) ∧ ((379 ≠ 379 ∧ 379 ≠ 380) ∨ i < td - 1) by omega)) (fun j hj => F.2.2 373 373 j (tu373 hg) (show 373 ≠ 68 ∧ 373 ≠ 69 ∧ 373 ≠ 378 ∧ 373 ≠ 71 + n ∧ 373 ≠ 52 ∧ 373 ≠ 377 ∧ ((373 ≠ 371 ∧ 373 ≠ 372 ∧ 373 ≠ 373 ∧ 373 ≠ 374 ∧ 373 ≠ 375 ∧ 373 ≠ 376) ∨ j ≠ n) ∧ ((373 ≠ 379 ∧ 373 ≠ 380) ∨ j < td - 1) by omega))
                    have En2 : ∀ i, i < (((td - 1) + 1) + 1) → ent h539 (n + 1) i := fun i hi => by
                      rcases (show i < td - 1 ∨ i = (td - 1) ∨ i = ((td - 1) + 1) by omega) with q | rfl | rfl
                      · exact En i q
                      · exact ent_new hv548 (by omega) hv547 (by omega) (by omega)
                      · exact ent_new a539 (by omega) hv547 (by omega) (by omega)
                    exact ih τ435 h539 ⟨aup_trans O0.1 (aup_trans (aup_trans O435.1 O534.1) O539.1), O539.2.1, fun k T j hk (hC : k ≠ 68 ∧ k ≠ 69 ∧ (k < 71 ∨ 380 < k) ∧ (k ≠ 52 ∨ j < 26 ∨ 32 < j)) => (((O539.2.2 k T j (O534.1 _ _ (O435.1 _ _ (O0.1 _ _ hk))) (show ((k ≠ 379 ∧ k ≠ 380) ∨ j ≠ ((td - 1) + 1)) ∧ (k ≠ 52 ∨ j ≠ 30) by omega)).trans ((O534.2.2 k T j (O435.1 _ _ (O0.1 _ _ hk)) (show ((k ≠ 379 ∧ k ≠ 380) ∨ j ≠ (td - 1)) ∧ (k ≠ 52 ∨ j ≠ 30) by omega)).trans ((ho498 k j (by omega)).trans ((ho494 k j (by omega)).trans ((O435.2.2 k T j (O0.1 _ _ hk) (show k ≠ 68 ∧ k ≠ 69 ∧ k ≠ 378 ∧ k ≠ 71 + n ∧ ((k ≠ 371 ∧ k ≠ 372 ∧ k ≠ 373 ∧ k ≠ 374 ∧ k ≠ 375 ∧ k ≠ 376) ∨ j ≠ n) ∧ (k ≠ 52 ∨ j ≠ 26) by omega)).trans (ho431 k j (by omega)))))))).trans (O0.2.2 k T j hk hC)⟩ (n + 1) ((((td - 1) + 1) + 1)) ((dn + 1)) _ ⟨⟨_, hv543, by omega⟩, ⟨_, c539, by omega⟩, ⟨_, hv545, by omega⟩, by omega, by omega, by omega, G2, En2⟩ (by omega)
              ·
                refine y_cF (c := .gt) (off := 6) (len := 3) (r := (0, 0, 0, 0)) (by decide +kernel) (acmpF (c := .gt) (by show _ ≤ _; omega)) ?_
                refine y_goto (off := (-117)) (pc' := 57) (len := 3) (r := (0, 0, 0, 0)) (by decide +kernel) (by decide +kernel) ?_
                have hv549 := (ho494 52 26 (Or.inl (by omega))).trans s26
                have hv550 := (ho498 52 26 (Or.inr (by omega))).trans hv549
                have hv551 := (O435.2.2 52 52 30 (t52 hg431) (show 52 ≠ 68 ∧ 52 ≠ 69 ∧ 52 ≠ 378 ∧ 52 ≠ 71 + n ∧ ((52 ≠ 371 ∧ 52 ≠ 372 ∧ 52 ≠ 373 ∧ 52 ≠ 374 ∧ 52 ≠ 375 ∧ 52 ≠ 376) ∨ 30 ≠ n) ∧ (52 ≠ 52 ∨ 30 ≠ 26) by omega)).trans hs431
                have hv552 := (ho494 52 30 (Or.inl (by omega))).trans hv551
                have hv553 := (ho498 52 30 (Or.inr (by omega))).trans hv552
                have F : oF (fun k j => k ≠ 68 ∧ k ≠ 69 ∧ k ≠ 378 ∧ k ≠ 71 + n ∧ k ≠ 52 ∧ k ≠ 377 ∧ ((k ≠ 371 ∧ k ≠ 372 ∧ k ≠ 373 ∧ k ≠ 374 ∧ k ≠ 375 ∧ k ≠ 376) ∨ j ≠ n) ∧ ((k ≠ 379 ∧ k ≠ 380) ∨ j < td - 1)) τ h τ435 h498 := ⟨O435.1, hg498, fun k T j hk (hC : k ≠ 68 ∧ k ≠ 69 ∧ k ≠ 378 ∧ k ≠ 71 + n ∧ k ≠ 52 ∧ k ≠ 377 ∧ ((k ≠ 371 ∧ k ≠ 372 ∧ k ≠ 373 ∧ k ≠ 374 ∧ k ≠ 375 ∧ k ≠ 376) ∨ j ≠ n) ∧ ((k ≠ 379 ∧ k ≠ 380) ∨ j < td - 1)) => ((ho498 k j (by omega)).trans ((ho494 k j (by omega)).trans ((O435.2.2 k T j hk (show k ≠ 68 ∧ k ≠ 69 ∧ k ≠ 378 ∧ k ≠ 71 + n ∧ ((k ≠ 371 ∧ k ≠ 372 ∧ k ≠ 373 ∧ k ≠ 374 ∧ k ≠ 375 ∧ k ≠ 376) ∨ j ≠ n) ∧ (k ≠ 52 ∨ j ≠ 26) by omega)).trans (ho431 k j (by omega)))))⟩
                have G2 : Gv h498 (n + 1) := Gv_up2 G1 O435.2.1 (by omega) ⟨(aup_refl _), hg498, fun k T j hk (hC : k ≠ 377 ∧ k ≠ 379 ∧ k ≠ 380 ∧ k ≠ 52) => ((ho498 k j (by omega)).trans (ho494 k j (by omega)))⟩
                have En : ∀ i, i < td - 1 → ent h498 (n + 1) i := fun i hi => ent_up (hent i (by omega)) (by omega) (F.2.2 379 379 i (tu379 hg) (show 379 ≠ 68 ∧ 379 ≠ 69 ∧ 379 ≠ 378 ∧ 379 ≠ 71 + n ∧ 379 ≠ 52 ∧ 379 ≠ 377 ∧ ((379 ≠ 371 ∧ 379 ≠ 372 ∧ 379 ≠ 373 ∧ 379 ≠ 374 ∧ 379 ≠ 375 ∧ 379 ≠ 376) ∨ i ≠ n) ∧ ((379 ≠ 379 ∧ 379 ≠ 380) ∨ i < td - 1) by omega)) (fun j hj => F.2.2 373 373 j (tu373 hg) (show 373 ≠ 68 ∧ 373 ≠ 69 ∧ 373 ≠ 378 ∧ 373 ≠ 71 + n ∧ 373 ≠ 52 ∧ 373 ≠ 377 ∧ ((373 ≠ 371 ∧ 373 ≠ 372 ∧ 373 ≠ 373 ∧ 373 ≠ 374 ∧ 373 ≠ 375 ∧ 373 ≠ 376) ∨ j ≠ n) ∧ ((373 ≠ 379 ∧ 373 ≠ 380) ∨ j < td - 1) by omega))
                exact ih τ435 h498 ⟨aup_trans O0.1 O435.1, hg498, fun k T j hk (hC : k ≠ 68 ∧ k ≠ 69 ∧ (k < 71 ∨ 380 < k) ∧ (k ≠ 52 ∨ j < 26 ∨ 32 < j)) => (((ho498 k j (by omega)).trans ((ho494 k j (by omega)).trans ((O435.2.2 k T j (O0.1 _ _ hk) (show k ≠ 68 ∧ k ≠ 69 ∧ k ≠ 378 ∧ k ≠ 71 + n ∧ ((k ≠ 371 ∧ k ≠ 372 ∧ k ≠ 373 ∧ k ≠ 374 ∧ k ≠ 375 ∧ k ≠ 376) ∨ j ≠ n) ∧ (k ≠ 52 ∨ j ≠ 26) by omega)).trans (ho431 k j (by omega)))))).trans (O0.2.2 k T j hk hC)⟩ (n + 1) ((td - 1)) ((dn + 1)) _ ⟨⟨_, hv550, by omega⟩, ⟨_, hv553, by omega⟩, ⟨_, hs498, by omega⟩, by omega, by omega, by omega, G2, En⟩ (by omega)
          ·
            refine y_cF (c := .ne) (off := 14) (len := 3) (r := (0, 0, 0, 0)) (by decide +kernel) (acmpF (c := .ne) (by show _ = _; omega)) ?_
            refine y_same (i := .aload_n 0) (len := 1) (r := (0, 0, 0, 0)) (pc' := 124) (ls' := [some (.inl (some 52)), some (zi xv), some (zi y440)]) (st' := [.inl (some 52)]) (by decide +kernel) (fun k q => by cases q) rfl ?_
            refine y_ic (c := 0) (len := 1) (r := (0, 0, 0, 0)) (by decide +kernel) (by decide) (fun y554 hy554 => ?_)
            refine y_put (j := 391) (lo := (-2147483648)) (hi := 2147483647) (len := 3) (r := (12, 27, 0, 1355)) (by decide +kernel) O435.2.1 (t52 O435.2.1) at52 rfl rfl (by decide) rfl (qin_full _).1 (qin_full _).2 rfl (fun h555 hg555 hl555 hs555 ho555 => ?_)
            have ho555 : hO 52 27 h435 h555 := ho555
            have hs555 : hsl h555 52 27 = some (zi y554) := hs555
            refine y_same (i := .aload_n 0) (len := 1) (r := (0, 0, 0, 0)) (pc' := 129) (ls' := [some (.inl (some 52)), some (zi xv), some (zi y440)]) (st' := [.inl (some 52)]) (by decide +kernel) (fun k q => by cases q) rfl ?_
            refine y_same (i := .iload_n 2) (len := 1) (r := (0, 0, 0, 0)) (pc' := 130) (ls' := [some (.inl (some 52)), some (zi xv), some (zi y440)]) (st' := [zi y440, .inl (some 52)]) (by decide +kernel) (fun k q => by cases q) rfl ?_
            refine y_put (j := 388) (lo := (-2147483648)) (hi := 2147483647) (len := 3) (r := (12, 28, 0, 1356)) (by decide +kernel) hg555 (t52 hg555) at52 rfl rfl (by decide) rfl (qin_full _).1 (qin_full _).2 rfl (fun h556 hg556 hl556 hs556 ho556 => ?_)
            have ho556 : hO 52 28 h555 h556 := ho556
            have hs556 : hsl h556 52 28 = some (zi y440) := hs556
            refine y_rV (len := 1) (r := (0, 0, 0, 0)) (nL := 3) (n9 := 2) (hs := []) (by decide +kernel) rfl ?_
            exact ⟨_, ⟨aup_trans O0.1 O435.1, hg556, fun k T j hk (hC : k ≠ 68 ∧ k ≠ 69 ∧ (k < 71 ∨ 380 < k) ∧ (k ≠ 52 ∨ j < 26 ∨ 32 < j)) => (((ho556 k j (by omega)).trans ((ho555 k j (by omega)).trans ((O435.2.2 k T j (O0.1 _ _ hk) (show k ≠ 68 ∧ k ≠ 69 ∧ k ≠ 378 ∧ k ≠ 71 + n ∧ ((k ≠ 371 ∧ k ≠ 372 ∧ k ≠ 373 ∧ k ≠ 374 ∧ k ≠ 375 ∧ k ≠ 376) ∨ j ≠ n) ∧ (k ≠ 52 ∨ j ≠ 26) by omega)).trans (ho431 k j (by omega)))))).trans (O0.2.2 k T j hk hC)⟩⟩
        ·
          refine y_iF (c := .ne) (off := 9) (len := 3) (r := (0, 0, 0, 0)) (by decide +kernel) (acmpF (c := .ne) (by show _ = _; omega)) ?_
          refine y_same (i := .aload_n 0) (len := 1) (r := (0, 0, 0, 0)) (pc' := 100) (ls' := [some (.inl (some 52)), some (zi xv), l2]) (st' := [.inl (some 52)]) (by decide +kernel) (fun k q => by cases q) rfl ?_
          refine y_ic (c := 2) (len := 1) (r := (0, 0, 0, 0)) (by decide +kernel) (by decide) (fun y557 hy557 => ?_)
          refine y_put (j := 391) (lo := (-2147483648)) (hi := 2147483647) (len := 3) (r := (12, 27, 0, 1355)) (by decide +kernel) O435.2.1 (t52 O435.2.1) at52 rfl rfl (by decide) rfl (qin_full _).1 (qin_full _).2 rfl (fun h558 hg558 hl558 hs558 ho558 => ?_)
          have ho558 : hO 52 27 h435 h558 := ho558
          have hs558 : hsl h558 52 27 = some (zi y557) := hs558
          refine y_rV (len := 1) (r := (0, 0, 0, 0)) (nL := 3) (n9 := 2) (hs := []) (by decide +kernel) rfl ?_
          exact ⟨_, ⟨aup_trans O0.1 O435.1, hg558, fun k T j hk (hC : k ≠ 68 ∧ k ≠ 69 ∧ (k < 71 ∨ 380 < k) ∧ (k ≠ 52 ∨ j < 26 ∨ 32 < j)) => (((ho558 k j (by omega)).trans ((O435.2.2 k T j (O0.1 _ _ hk) (show k ≠ 68 ∧ k ≠ 69 ∧ k ≠ 378 ∧ k ≠ 71 + n ∧ ((k ≠ 371 ∧ k ≠ 372 ∧ k ≠ 373 ∧ k ≠ 374 ∧ k ≠ 375 ∧ k ≠ 376) ∨ j ≠ n) ∧ (k ≠ 52 ∨ j ≠ 26) by omega)).trans (ho431 k j (by omega))))).trans (O0.2.2 k T j hk hC)⟩⟩
theorem e_proves {τ : List Nat} {h : zh} {t : Nat} (hC : ∀ (mk : Nat) (c' : aK), c' ∈ actb mk → c'.2.2.1 ≤ 8 → cOK aJ mk c') {xv : Int32} (hg : hG τ h) (hv1 : 0 ≤ xv.toInt) (hv2 : xv.toInt ≤ 1) : qV 13 238 [some (.inl (some 52)), some (zi xv), none] h t (pvR τ h) := by
  refine qV_of ?_
  refine y_same (i := .aload_n 0) (len := 1) (r := (0, 0, 0, 0)) (pc' := 1) (ls' := [some (.inl (some 52)), some (zi xv), none]) (st' := [.inl (some 52)]) (by decide +kernel) (fun k q => by cases q) rfl ?_
  obtain ⟨v559, hv560, lv559, uv559⟩ := g_int (i := 31) (lo := 0) (hi := 1) hg (t52 hg) at52 (by decide) rfl
  refine y_get (j := 220) (len := 3) (r := (12, 31, 1, 1359)) (by decide +kernel) hg (t52 hg) at52 rfl rfl hv560 ?_
  rcases Decidable.em (v559.toInt = 0) with q561 | q561
  ·
    refine y_iT (c := .eq) (off := 12) (pc' := 16) (len := 3) (r := (0, 0, 0, 0)) (by decide +kernel) (acmpT (c := .eq) (by show _ = _; omega)) (by decide +kernel) ?_
    refine y_same (i := .aload_n 0) (len := 1) (r := (0, 0, 0, 0)) (pc' := 17) (ls' := [some (.inl (some 52)), some (zi xv), none]) (st' := [.inl (some 52)]) (by decide +kernel) (fun k q => by cases q) rfl ?_
    refine y_ic (c := 1) (len := 1) (r := (0, 0, 0, 0)) (by decide +kernel) (by decide) (fun y562 hy562 => ?_)
    refine y_put (j := 220) (lo := 0) (hi := 1) (len := 3) (r := (12, 31, 1, 1359)) (by decide +kernel) hg (t52 hg) at52 rfl rfl (by decide) rfl (by omega) (by omega) (zfit_b (by omega) (by omega)).1 (fun h563 hg563 hl563 hs563 ho563 => ?_)
    have ho563 : hO 52 31 h h563 := ho563
    have hs563 : hsl h563 52 31 = some (zi y562) := hs563
    refine y_same (i := .aload_n 0) (len := 1) (r := (0, 0, 0, 0)) (pc' := 22) (ls' := [some (.inl (some 52)), some (zi xv), none]) (st' := [.inl (some 52)]) (by decide +kernel) (fun k q => by cases q) rfl ?_
    refine y_same (i := .iload_n 1) (len := 1) (r := (0, 0, 0, 0)) (pc' := 23) (ls' := [some (.inl (some 52)), some (zi xv), none]) (st' := [zi xv, .inl (some 52)]) (by decide +kernel) (fun k q => by cases q) rfl ?_
    refine y_put (j := 363) (lo := 0) (hi := 1) (len := 3) (r := (12, 32, 1, 1360)) (by decide +kernel) hg563 (t52 hg563) at52 rfl rfl (by decide) rfl (by omega) (by omega) (zfit_b (by omega) (by omega)).1 (fun h564 hg564 hl564 hs564 ho564 => ?_)
    have ho564 : hO 52 32 h563 h564 := ho564
    have hs564 : hsl h564 52 32 = some (zi xv) := hs564
    refine y_same (i := .aload_n 0) (len := 1) (r := (0, 0, 0, 0)) (pc' := 27) (ls' := [some (.inl (some 52)), some (zi xv), none]) (st' := [.inl (some 52)]) (by decide +kernel) (fun k q => by cases q) rfl ?_
    refine y_ic (c := 0) (len := 1) (r := (0, 0, 0, 0)) (by decide +kernel) (by decide) (fun y565 hy565 => ?_)
    refine y_put (j := 348) (lo := 0) (hi := 300) (len := 3) (r := (12, 26, 0, 1354)) (by decide +kernel) hg564 (t52 hg564) at52 rfl rfl (by decide) rfl (by omega) (by omega) rfl (fun h566 hg566 hl566 hs566 ho566 => ?_)
    have ho566 : hO 52 26 h564 h566 := ho566
    have hs566 : hsl h566 52 26 = some (zi y565) := hs566
    refine y_same (i := .aload_n 0) (len := 1) (r := (0, 0, 0, 0)) (pc' := 32) (ls' := [some (.inl (some 52)), some (zi xv), none]) (st' := [.inl (some 52)]) (by decide +kernel) (fun k q => by cases q) rfl ?_
    refine y_ic (c := 0) (len := 1) (r := (0, 0, 0, 0)) (by decide +kernel) (by decide) (fun y567 hy567 => ?_)
    refine y_put (j := 385) (lo := 0) (hi := 300) (len := 3) (r := (12, 29, 0, 1357)) (by decide +kernel) hg566 (t52 hg566) at52 rfl rfl (by decide) rfl (by omega) (by omega) rfl (fun h568 hg568 hl568 hs568 ho568 => ?_)
    have ho568 : hO 52 29 h566 h568 := ho568
    have hs568 : hsl h568 52 29 = some (zi y567) := hs568
    refine y_same (i := .aload_n 0) (len := 1) (r := (0, 0, 0, 0)) (pc' := 37) (ls' := [some (.inl (some 52)), some (zi xv), none]) (st' := [.inl (some 52)]) (by decide +kernel) (fun k q => by cases q) rfl ?_
    refine y_ic (c := 0) (len := 1) (r := (0, 0, 0, 0)) (by decide +kernel) (by decide) (fun y569 hy569 => ?_)
    refine y_put (j := 382) (lo := 0) (hi := 600) (len := 3) (r := (12, 30, 0, 1358)) (by decide +kernel) hg568 (t52 hg568) at52 rfl rfl (by decide) rfl (by omega) (by omega) rfl (fun h570 hg570 hl570 hs570 ho570 => ?_)
    have ho570 : hO 52 30 h568 h570 := ho570
    have hs570 : hsl h570 52 30 = some (zi y569) := hs570
    refine y_same (i := .aload_n 0) (len := 1) (r := (0, 0, 0, 0)) (pc' := 42) (ls' := [some (.inl (some 52)), some (zi xv), none]) (st' := [.inl (some 52)]) (by decide +kernel) (fun k q => by cases q) rfl ?_
    refine y_ic (c := (-1)) (len := 1) (r := (0, 0, 0, 0)) (by decide +kernel) (by decide) (fun y571 hy571 => ?_)
    refine y_put (j := 388) (lo := (-2147483648)) (hi := 2147483647) (len := 3) (r := (12, 28, 0, 1356)) (by decide +kernel) hg570 (t52 hg570) at52 rfl rfl (by decide) rfl (qin_full _).1 (qin_full _).2 rfl (fun h572 hg572 hl572 hs572 ho572 => ?_)
    have ho572 : hO 52 28 h570 h572 := ho572
    have hs572 : hsl h572 52 28 = some (zi y571) := hs572
    refine y_same (i := .aload_n 0) (len := 1) (r := (0, 0, 0, 0)) (pc' := 47) (ls' := [some (.inl (some 52)), some (zi xv), none]) (st' := [.inl (some 52)]) (by decide +kernel) (fun k q => by cases q) rfl ?_
    refine y_ic (c := 1) (len := 1) (r := (0, 0, 0, 0)) (by decide +kernel) (by decide) (fun y573 hy573 => ?_)
    refine y_put (j := 391) (lo := (-2147483648)) (hi := 2147483647) (len := 3) (r := (12, 27, 0, 1355)) (by decide +kernel) hg572 (t52 hg572) at52 rfl rfl (by decide) rfl (qin_full _).1 (qin_full _).2 rfl (fun h574 hg574 hl574 hs574 ho574 => ?_)
    have ho574 : hO 52 27 h572 h574 := ho574
    have hs574 : hsl h574 52 27 = some (zi y573) := hs574
    refine y_same (i := .aload_n 0) (len := 1) (r := (0, 0, 0, 0)) (pc' := 52) (ls' := [some (.inl (some 52)), some (zi xv), none]) (st' := [.inl (some 52)]) (by decide +kernel) (fun k q => by cases q) rfl ?_
    refine y_ic (c := (-1)) (len := 1) (r := (0, 0, 0, 0)) (by decide +kernel) (by decide) (fun y575 hy575 => ?_)
    refine y_ic (c := 0) (len := 1) (r := (0, 0, 0, 0)) (by decide +kernel) (by decide) (fun y576 hy576 => ?_)
    have hv578 := (ho572 52 30 (Or.inr (by omega))).trans hs570
    have hv579 := (ho574 52 30 (Or.inr (by omega))).trans hv578
    refine y_cV (i := .invokevirtual 394) (len := 3) (r := (0, 237, 12, 1632)) (nL := 3) (k := 0) (n := 3) (hs := []) (args := [.inl (some 52), zi y575, zi y576]) (rest := []) (l0 := [some (.inl (some 52)), some (zi y575), some (zi y576)]) (by decide +kernel) (Or.inr (Or.inl ⟨_, rfl⟩)) rfl rfl rfl rfl (Nat.le_of_ble_eq_true rfl) (z52 hg574) rfl (e_waits (td := 0) hg574 (by omega) (by omega) (by omega) (by omega) hv579 (by omega) (by omega)) (fun h577 hR577 => ?_)
    obtain ⟨O577, a577, b577, x577, c577, e577⟩ := hR577
    have hv580 := (ho568 52 26 (Or.inr (by omega))).trans hs566
    have hv581 := (ho570 52 26 (Or.inr (by omega))).trans hv580
    have hv582 := (ho572 52 26 (Or.inr (by omega))).trans hv581
    have hv583 := (ho574 52 26 (Or.inr (by omega))).trans hv582
    have hv584 := (O577.2.2 52 52 26 (t52 hg574) (show ((52 ≠ 379 ∧ 52 ≠ 380) ∨ 26 ≠ 0) ∧ (52 ≠ 52 ∨ 26 ≠ 30) by omega)).trans hv583
    have hv585 := (ho570 52 29 (Or.inr (by omega))).trans hs568
    have hv586 := (ho572 52 29 (Or.inr (by omega))).trans hv585
    have hv587 := (ho574 52 29 (Or.inr (by omega))).trans hv586
    have hv588 := (O577.2.2 52 52 29 (t52 hg574) (show ((52 ≠ 379 ∧ 52 ≠ 380) ∨ 29 ≠ 0) ∧ (52 ≠ 52 ∨ 29 ≠ 30) by omega)).trans hv587
    exact pv_l hC 301 τ h577 ⟨O577.1, O577.2.1, fun k T j hk (hC : k ≠ 68 ∧ k ≠ 69 ∧ (k < 71 ∨ 380 < k) ∧ (k ≠ 52 ∨ j < 26 ∨ 32 < j)) => ((O577.2.2 k T j hk (show ((k ≠ 379 ∧ k ≠ 380) ∨ j ≠ 0) ∧ (k ≠ 52 ∨ j ≠ 30) by omega)).trans ((ho574 k j (by omega)).trans ((ho572 k j (by omega)).trans ((ho570 k j (by omega)).trans ((ho568 k j (by omega)).trans ((ho566 k j (by omega)).trans ((ho564 k j (by omega)).trans (ho563 k j (by omega)))))))))⟩ 0 (0 + 1) 0 _ ⟨⟨_, hv584, by omega⟩, ⟨_, c577, by omega⟩, ⟨_, hv588, by omega⟩, by omega, by omega, by omega, ⟨fun j hj => by omega, fun j hj => by omega⟩, fun i hi => ⟨_, (show i = 0 by omega) ▸ a577, fun _ => by omega, fun h9 => absurd rfl h9⟩⟩ (by omega)
  ·
    refine y_iF (c := .eq) (off := 12) (len := 3) (r := (0, 0, 0, 0)) (by decide +kernel) (acmpF (c := .eq) (by show ¬ (_ = _); omega)) ?_
    refine y_same (i := .aload_n 0) (len := 1) (r := (0, 0, 0, 0)) (pc' := 8) (ls' := [some (.inl (some 52)), some (zi xv), none]) (st' := [.inl (some 52)]) (by decide +kernel) (fun k q => by cases q) rfl ?_
    obtain ⟨v589, hv590, lv589, uv589⟩ := g_int (i := 32) (lo := 0) (hi := 1) hg (t52 hg) at52 (by decide) rfl
    refine y_get (j := 363) (len := 3) (r := (12, 32, 1, 1360)) (by decide +kernel) hg (t52 hg) at52 rfl rfl hv590 ?_
    refine y_same (i := .iload_n 1) (len := 1) (r := (0, 0, 0, 0)) (pc' := 12) (ls' := [some (.inl (some 52)), some (zi xv), none]) (st' := [zi xv, zi v589]) (by decide +kernel) (fun k q => by cases q) rfl ?_
    rcases Decidable.em (v589.toInt ≠ xv.toInt) with q591 | q591
    ·
      refine y_cT (c := .ne) (off := 4) (pc' := 16) (len := 3) (r := (0, 0, 0, 0)) (by decide +kernel) (acmpT (c := .ne) (by show ¬ (_ = _); omega)) (by decide +kernel) ?_
      refine y_same (i := .aload_n 0) (len := 1) (r := (0, 0, 0, 0)) (pc' := 17) (ls' := [some (.inl (some 52)), some (zi xv), none]) (st' := [.inl (some 52)]) (by decide +kernel) (fun k q => by cases q) rfl ?_
      refine y_ic (c := 1) (len := 1) (r := (0, 0, 0, 0)) (by decide +kernel) (by decide) (fun y592 hy592 => ?_)
      refine y_put (j := 220) (lo := 0) (hi := 1) (len := 3) (r := (12, 31, 1, 1359)) (by decide +kernel) hg (t52 hg) at52 rfl rfl (by decide) rfl (by omega) (by omega) (zfit_b (by omega) (by omega)).1 (fun h593 hg593 hl593 hs593 ho593 => ?_)
      have ho593 : hO 52 31 h h593 := ho593
      have hs593 : hsl h593 52 31 = some (zi y592) := hs593
      refine y_same (i := .aload_n 0) (len := 1) (r := (0, 0, 0, 0)) (pc' := 22) (ls' := [some (.inl (some 52)), some (zi xv), none]) (st' := [.inl (some 52)]) (by decide +kernel) (fun k q => by cases q) rfl ?_
      refine y_same (i := .iload_n 1) (len := 1) (r := (0, 0, 0, 0)) (pc' := 23) (ls' := [some (.inl (some 52)), some (zi xv), none]) (st' := [zi xv, .inl (some 52)]) (by decide +kernel) (fun k q => by cases q) rfl ?_
      refine y_put (j := 363) (lo := 0) (hi := 1) (len := 3) (r := (12, 32, 1, 1360)) (by decide +kernel) hg593 (t52 hg593) at52 rfl rfl (by decide) rfl (by omega) (by omega) (zfit_b (by omega) (by omega)).1 (fun h594 hg594 hl594 hs594 ho594 => ?_)
      have ho594 : hO 52 32 h593 h594 := ho594
      have hs594 : hsl h594 52 32 = some (zi xv) := hs594
      refine y_same (i := .aload_n 0) (len := 1) (r := (0, 0, 0, 0)) (pc' := 27) (ls' := [some (.inl (some 52)), some (zi xv), none]) (st' := [.inl (some 52)]) (by decide +kernel) (fun k q => by cases q) rfl ?_
      refine y_ic (c := 0) (len := 1) (r := (0, 0, 0, 0)) (by decide +kernel) (by decide) (fun y595 hy595 => ?_)
      refine y_put (j := 348) (lo := 0) (hi := 300) (len := 3) (r := (12, 26, 0, 1354)) (by decide +kernel) hg594 (t52 hg594) at52 rfl rfl (by decide) rfl (by omega) (by omega) rfl (fun h596 hg596 hl596 hs596 ho596 => ?_)
      have ho596 : hO 52 26 h594 h596 := ho596
      have hs596 : hsl h596 52 26 = some (zi y595) := hs596
      refine y_same (i := .aload_n 0) (len := 1) (r := (0, 0, 0, 0)) (pc' := 32) (ls' := [some (.inl (some 52)), some (zi xv), none]) (st' := [.inl (some 52)]) (by decide +kernel) (fun k q => by cases q) rfl ?_
      refine y_ic (c := 0) (len := 1) (r := (0, 0, 0, 0)) (by decide +kernel) (by decide) (fun y597 hy597 => ?_)
      refine y_put (j := 385) (lo := 0) (hi := 300) (len := 3) (r := (12, 29, 0, 1357)) (by decide +kernel) hg596 (t52 hg596) at52 rfl rfl (by decide) rfl (by omega) (by omega) rfl (fun h598 hg598 hl598 hs598 ho598 => ?_)
      have ho598 : hO 52 29 h596 h598 := ho598
      have hs598 : hsl h598 52 29 = some (zi y597) := hs598
      refine y_same (i := .aload_n 0) (len := 1) (r := (0, 0, 0, 0)) (pc' := 37) (ls' := [some (.inl (some 52)), some (zi xv), none]) (st' := [.inl (some 52)]) (by decide +kernel) (fun k q => by cases q) rfl ?_
      refine y_ic (c := 0) (len := 1) (r := (0, 0, 0, 0)) (by decide +kernel) (by decide) (fun y599 hy599 => ?_)
      refine y_put (j := 382) (lo := 0) (hi := 600) (len := 3) (r := (12, 30, 0, 1358)) (by decide +kernel) hg598 (t52 hg598) at52 rfl rfl (by decide) rfl (by omega) (by omega) rfl (fun h600 hg600 hl600 hs600 ho600 => ?_)
      have ho600 : hO 52 30 h598 h600 := ho600
      have hs600 : hsl h600 52 30 = some (zi y599) := hs600
      refine y_same (i := .aload_n 0) (len := 1) (r := (0, 0, 0, 0)) (pc' := 42) (ls' := [some (.inl (some 52)), some (zi xv), none]) (st' := [.inl (some 52)]) (by decide +kernel) (fun k q => by cases q) rfl ?_
      refine y_ic (c := (-1)) (len := 1) (r := (0, 0, 0, 0)) (by decide +kernel) (by decide) (fun y601 hy601 => ?_)
      refine y_put (j := 388) (lo := (-2147483648)) (hi := 2147483647) (len := 3) (r := (12, 28, 0, 1356)) (by decide +kernel) hg600 (t52 hg600) at52 rfl rfl (by decide) rfl (qin_full _).1 (qin_full _).2 rfl (fun h602 hg602 hl602 hs602 ho602 => ?_)
      have ho602 : hO 52 28 h600 h602 := ho602
      have hs602 : hsl h602 52 28 = some (zi y601) := hs602
      refine y_same (i := .aload_n 0) (len := 1) (r := (0, 0, 0, 0)) (pc' := 47) (ls' := [some (.inl (some 52)), some (zi xv), none]) (st' := [.inl (some 52)]) (by decide +kernel) (fun k q => by cases q) rfl ?_
      refine y_ic (c := 1) (len := 1) (r := (0, 0, 0, 0)) (by decide +kernel) (by decide) (fun y603 hy603 => ?_)
      refine y_put (j := 391) (lo := (-2147483648)) (hi := 2147483647) (len := 3) (r := (12, 27, 0, 1355)) (by decide +kernel) hg602 (t52 hg602) at52 rfl rfl (by decide) rfl (qin_full _).1 (qin_full _).2 rfl (fun h604 hg604 hl604 hs604 ho604 => ?_)
      have ho604 : hO 52 27 h602 h604 := ho604
      have hs604 : hsl h604 52 27 = some (zi y603) := hs604
      refine y_same (i := .aload_n 0) (len := 1) (r := (0, 0, 0, 0)) (pc' := 52) (ls' := [some (.inl (some 52)), some (zi xv), none]) (st' := [.inl (some 52)]) (by decide +kernel) (fun k q => by cases q) rfl ?_
      refine y_ic (c := (-1)) (len := 1) (r := (0, 0, 0, 0)) (by decide +kernel) (by decide) (fun y605 hy605 => ?_)
      refine y_ic (c := 0) (len := 1) (r := (0, 0, 0, 0)) (by decide +kernel) (by decide) (fun y606 hy606 => ?_)
      have hv608 := (ho602 52 30 (Or.inr (by omega))).trans hs600
      have hv609 := (ho604 52 30 (Or.inr (by omega))).trans hv608
      refine y_cV (i := .invokevirtual 394) (len := 3) (r := (0, 237, 12, 1632)) (nL := 3) (k := 0) (n := 3) (hs := []) (args := [.inl (some 52), zi y605, zi y606]) (rest := []) (l0 := [some (.inl (some 52)), some (zi y605), some (zi y606)]) (by decide +kernel) (Or.inr (Or.inl ⟨_, rfl⟩)) rfl rfl rfl rfl (Nat.le_of_ble_eq_true rfl) (z52 hg604) rfl (e_waits (td := 0) hg604 (by omega) (by omega) (by omega) (by omega) hv609 (by omega) (by omega)) (fun h607 hR607 => ?_)
      obtain ⟨O607, a607, b607, x607, c607, e607⟩ := hR607
      have hv610 := (ho598 52 26 (Or.inr (by omega))).trans hs596
      have hv611 := (ho600 52 26 (Or.inr (by omega))).trans hv610
      have hv612 := (ho602 52 26 (Or.inr (by omega))).trans hv611
      have hv613 := (ho604 52 26 (Or.inr (by omega))).trans hv612
      have hv614 := (O607.2.2 52 52 26 (t52 hg604) (show ((52 ≠ 379 ∧ 52 ≠ 380) ∨ 26 ≠ 0) ∧ (52 ≠ 52 ∨ 26 ≠ 30) by omega)).trans hv613
      have hv615 := (ho600 52 29 (Or.inr (by omega))).trans hs598
      have hv616 := (ho602 52 29 (Or.inr (by omega))).trans hv615
      have hv617 := (ho604 52 29 (Or.inr (by omega))).trans hv616
      have hv618 := (O607.2.2 52 52 29 (t52 hg604) (show ((52 ≠ 379 ∧ 52 ≠ 380) ∨ 29 ≠ 0) ∧ (52 ≠ 52 ∨ 29 ≠ 30) by omega)).trans hv617
      exact pv_l hC 301 τ h607 ⟨O607.1, O607.2.1, fun k T j hk (hC : k ≠ 68 ∧ k ≠ 69 ∧ (k < 71 ∨ 380 < k) ∧ (k ≠ 52 ∨ j < 26 ∨ 32 < j)) => ((O607.2.2 k T j hk (show ((k ≠ 379 ∧ k ≠ 380) ∨ j ≠ 0) ∧ (k ≠ 52 ∨ j ≠ 30) by omega)).trans ((ho604 k j (by omega)).trans ((ho602 k j (by omega)).trans ((ho600 k j (by omega)).trans ((ho598 k j (by omega)).trans ((ho596 k j (by omega)).trans ((ho594 k j (by omega)).trans (ho593 k j (by omega)))))))))⟩ 0 (0 + 1) 0 _ ⟨⟨_, hv614, by omega⟩, ⟨_, c607, by omega⟩, ⟨_, hv618, by omega⟩, by omega, by omega, by omega, ⟨fun j hj => by omega, fun j hj => by omega⟩, fun i hi => ⟨_, (show i = 0 by omega) ▸ a607, fun _ => by omega, fun h9 => absurd rfl h9⟩⟩ (by omega)
    ·
      refine y_cF (c := .ne) (off := 4) (len := 3) (r := (0, 0, 0, 0)) (by decide +kernel) (acmpF (c := .ne) (by show _ = _; omega)) ?_
      refine y_rV (len := 1) (r := (0, 0, 0, 0)) (nL := 3) (n9 := 2) (hs := []) (by decide +kernel) rfl ?_
      exact ⟨_, oF_refl hg⟩
