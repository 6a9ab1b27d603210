/-! a part goes, told exactly -/
theorem qX_V {d mi pc t : Nat} {ls : List (Option zv)} {st : List zv} {h : zh} {R R' : zh → Prop} (k : qX d mi pc ls st h t (rV R t)) (hi : ∀ h1, R h1 → R' h1) : qX d mi pc ls st h t (rV R' t) := by
  obtain ⟨x, k, h1, rfl, hR⟩ := k
  exact ⟨_, k, h1, rfl, hi _ hR⟩
theorem qX_I {d mi pc t : Nat} {ls : List (Option zv)} {st : List zv} {h : zh} {R R' : Int32 → zh → Prop} (k : qX d mi pc ls st h t (rI R t)) (hi : ∀ y h1, R y h1 → R' y h1) : qX d mi pc ls st h t (rI R' t) := by
  obtain ⟨x, k, y, h1, rfl, hR⟩ := k
  exact ⟨_, k, y, h1, rfl, hi _ _ hR⟩
theorem qV_imp {d mj t : Nat} {l0 : List (Option zv)} {h : zh} {R R' : zh → Prop} (k : qV d mj l0 h t R) (hi : ∀ h1, R h1 → R' h1) : qV d mj l0 h t R' := by
  obtain ⟨h1, k, hR⟩ := k
  exact ⟨h1, k, hi _ hR⟩
theorem qI_imp {d mj t : Nat} {l0 : List (Option zv)} {h : zh} {R R' : Int32 → zh → Prop} (k : qI d mj l0 h t R) (hi : ∀ y h1, R y h1 → R' y h1) : qI d mj l0 h t R' := by
  obtain ⟨y, h1, k, hR⟩ := k
  exact ⟨y, h1, k, hi _ _ hR⟩
theorem goes_loop {d t c f R m : Nat} {τ : List Nat} {xc xf xk xm : Int32} (hR : τ[R]? = some 1012) (hxc : xc.toInt = (c : Int)) (hc : c < 3) (hxf : xf.toInt = (f : Int)) (hf : 24 ≤ f) (hf2 : f ≤ 144) (hxm : xm.toInt = (m : Int)) (hm9 : m ≤ 13) (hmw : f + 4 * m ≤ 188) : ∀ (n : Nat) (h : zh) (i : Nat) (xi : Int32), hG τ h → hsl h R c = some (zi xm) → xi.toInt = (i : Int) → 24 ≤ i → i < 1000 → f + 4 * m ≤ i + n → qX (d + 1) 207 14 [some (.inl (some R)), some (zi xc), some (zi xf), some (zi xk), some (zi xi)] [] h t (rV (fun h1 => hG τ h1 ∧ h1.length = h.length ∧ ∀ k j, (k ≠ R ∨ j < 24) → hsl h1 k j = hsl h k j) t)
  | 0, h, i, xi, hg, hm, hxi, hi, hi2, hn => by
    refine y_same (i := .iload 4) (len := 2) (r := (0, 0, 0, 0)) (pc' := 16) (ls' := [some (.inl (some R)), some (zi xc), some (zi xf), some (zi xk), some (zi xi)]) (st' := [zi xi]) (by decide +kernel) (fun k q => by cases q) rfl ?_
    refine y_same (i := .iload_n 2) (len := 1) (r := (0, 0, 0, 0)) (pc' := 17) (ls' := [some (.inl (some R)), some (zi xc), some (zi xf), some (zi xk), some (zi xi)]) (st' := [zi xf, zi xi]) (by decide +kernel) (fun k q => by cases q) rfl ?_
    refine y_ic (c := 4) (len := 1) (r := (0, 0, 0, 0)) (by decide +kernel) (by decide) (fun y98 hy98 => ?_)
    refine y_same (i := .aload_n 0) (len := 1) (r := (0, 0, 0, 0)) (pc' := 19) (ls' := [some (.inl (some R)), some (zi xc), some (zi xf), some (zi xk), some (zi xi)]) (st' := [.inl (some R), zi y98, zi xf, zi xi]) (by decide +kernel) (fun k q => by cases q) rfl ?_
    refine y_same (i := .iload_n 1) (len := 1) (r := (0, 0, 0, 0)) (pc' := 20) (ls' := [some (.inl (some R)), some (zi xc), some (zi xf), some (zi xk), some (zi xi)]) (st' := [zi xc, .inl (some R), zi y98, zi xf, zi xi]) (by decide +kernel) (fun k q => by cases q) rfl ?_
    refine y_ial (i := c) (len := 1) (r := (0, 0, 0, 0)) (by decide +kernel) hg hR at1012 (by omega) hm ?_
    refine y_mul (c := 4) (len := 1) (r := (0, 0, 0, 0)) (by decide +kernel) (by omega) (by omega) (by omega) (fun y99 hy99 => ?_)
    refine y_add (len := 1) (r := (0, 0, 0, 0)) (by decide +kernel) (by omega) (by omega) (fun y100 hy100 => ?_)
    refine y_cT (c := .ge) (off := 19) (pc' := 42) (len := 3) (r := (0, 0, 0, 0)) (by decide +kernel) (acmpT (c := .ge) (by show _ ≤ _; omega)) (by decide +kernel) ?_
    refine y_same (i := .aload_n 0) (len := 1) (r := (0, 0, 0, 0)) (pc' := 43) (ls' := [some (.inl (some R)), some (zi xc), some (zi xf), some (zi xk), some (zi xi)]) (st' := [.inl (some R)]) (by decide +kernel) (fun k q => by cases q) rfl ?_
    refine y_same (i := .iload_n 2) (len := 1) (r := (0, 0, 0, 0)) (pc' := 44) (ls' := [some (.inl (some R)), some (zi xc), some (zi xf), some (zi xk), some (zi xi)]) (st' := [zi xf, .inl (some R)]) (by decide +kernel) (fun k q => by cases q) rfl ?_
    refine y_ic (c := 4) (len := 1) (r := (0, 0, 0, 0)) (by decide +kernel) (by decide) (fun y101 hy101 => ?_)
    refine y_same (i := .aload_n 0) (len := 1) (r := (0, 0, 0, 0)) (pc' := 46) (ls' := [some (.inl (some R)), some (zi xc), some (zi xf), some (zi xk), some (zi xi)]) (st' := [.inl (some R), zi y101, zi xf, .inl (some R)]) (by decide +kernel) (fun k q => by cases q) rfl ?_
    refine y_same (i := .iload_n 1) (len := 1) (r := (0, 0, 0, 0)) (pc' := 47) (ls' := [some (.inl (some R)), some (zi xc), some (zi xf), some (zi xk), some (zi xi)]) (st' := [zi xc, .inl (some R), zi y101, zi xf, .inl (some R)]) (by decide +kernel) (fun k q => by cases q) rfl ?_
    refine y_ial (i := c) (len := 1) (r := (0, 0, 0, 0)) (by decide +kernel) hg hR at1012 (by omega) hm ?_
    refine y_mul (c := 4) (len := 1) (r := (0, 0, 0, 0)) (by decide +kernel) (by omega) (by omega) (by omega) (fun y102 hy102 => ?_)
    refine y_add (len := 1) (r := (0, 0, 0, 0)) (by decide +kernel) (by omega) (by omega) (fun y103 hy103 => ?_)
    refine y_ic (c := 0) (len := 1) (r := (0, 0, 0, 0)) (by decide +kernel) (by decide) (fun y104 hy104 => ?_)
    refine y_ic (c := 0) (len := 1) (r := (0, 0, 0, 0)) (by decide +kernel) (by decide) (fun y105 hy105 => ?_)
    refine y_ic (c := 0) (len := 1) (r := (0, 0, 0, 0)) (by decide +kernel) (by decide) (fun y106 hy106 => ?_)
    refine y_ic (c := 0) (len := 1) (r := (0, 0, 0, 0)) (by decide +kernel) (by decide) (fun y107 hy107 => ?_)
    refine y_cV (i := .invokestatic 151) (len := 3) (r := (1, 179, 12, 1549)) (nL := 6) (k := 0) (n := 6) (hs := []) (args := [.inl (some R), zi y103, zi y104, zi y105, zi y106, zi y107]) (rest := []) (l0 := [some (.inl (some R)), some (zi y103), some (zi y104), some (zi y105), some (zi y106), some (zi y107)]) (by decide +kernel) (Or.inl ⟨_, rfl⟩) rfl rfl rfl rfl (Nat.le_of_ble_eq_true rfl) rfl rfl (e_four (p := (f + (4 * m))) hg hR (by omega) (by omega) (by omega) ⟨by omega, by omega⟩ ⟨by omega, by omega⟩ ⟨by omega, by omega⟩ ⟨by omega, by omega⟩) (fun h108 hR108 => ?_)
    obtain ⟨hg108, hl108, ho108⟩ := hR108
    refine y_rV (len := 1) (r := (0, 0, 0, 0)) (nL := 5) (n9 := 4) (hs := []) (by decide +kernel) rfl ?_
    exact ⟨hg108, by omega, fun k j hkj => ho108 k j hkj⟩
  | n + 1, h, i, xi, hg, hm, hxi, hi, hi2, hn => by
    rcases Nat.lt_or_ge i (f + 4 * m) with hc9 | hc9
    ·
      refine y_same (i := .iload 4) (len := 2) (r := (0, 0, 0, 0)) (pc' := 16) (ls' := [some (.inl (some R)), some (zi xc), some (zi xf), some (zi xk), some (zi xi)]) (st' := [zi xi]) (by decide +kernel) (fun k q => by cases q) rfl ?_
      refine y_same (i := .iload_n 2) (len := 1) (r := (0, 0, 0, 0)) (pc' := 17) (ls' := [some (.inl (some R)), some (zi xc), some (zi xf), some (zi xk), some (zi xi)]) (st' := [zi xf, zi xi]) (by decide +kernel) (fun k q => by cases q) rfl ?_
      refine y_ic (c := 4) (len := 1) (r := (0, 0, 0, 0)) (by decide +kernel) (by decide) (fun y89 hy89 => ?_)
      refine y_same (i := .aload_n 0) (len := 1) (r := (0, 0, 0, 0)) (pc' := 19) (ls' := [some (.inl (some R)), some (zi xc), some (zi xf), some (zi xk), some (zi xi)]) (st' := [.inl (some R), zi y89, zi xf, zi xi]) (by decide +kernel) (fun k q => by cases q) rfl ?_
      refine y_same (i := .iload_n 1) (len := 1) (r := (0, 0, 0, 0)) (pc' := 20) (ls' := [some (.inl (some R)), some (zi xc), some (zi xf), some (zi xk), some (zi xi)]) (st' := [zi xc, .inl (some R), zi y89, zi xf, zi xi]) (by decide +kernel) (fun k q => by cases q) rfl ?_
      refine y_ial (i := c) (len := 1) (r := (0, 0, 0, 0)) (by decide +kernel) hg hR at1012 (by omega) hm ?_
      refine y_mul (c := 4) (len := 1) (r := (0, 0, 0, 0)) (by decide +kernel) (by omega) (by omega) (by omega) (fun y90 hy90 => ?_)
      refine y_add (len := 1) (r := (0, 0, 0, 0)) (by decide +kernel) (by omega) (by omega) (fun y91 hy91 => ?_)
      refine y_cF (c := .ge) (off := 19) (len := 3) (r := (0, 0, 0, 0)) (by decide +kernel) (acmpF (c := .ge) (by show _ < _; omega)) ?_
      refine y_same (i := .aload_n 0) (len := 1) (r := (0, 0, 0, 0)) (pc' := 27) (ls' := [some (.inl (some R)), some (zi xc), some (zi xf), some (zi xk), some (zi xi)]) (st' := [.inl (some R)]) (by decide +kernel) (fun k q => by cases q) rfl ?_
      refine y_same (i := .iload 4) (len := 2) (r := (0, 0, 0, 0)) (pc' := 29) (ls' := [some (.inl (some R)), some (zi xc), some (zi xf), some (zi xk), some (zi xi)]) (st' := [zi xi, .inl (some R)]) (by decide +kernel) (fun k q => by cases q) rfl ?_
      refine y_same (i := .aload_n 0) (len := 1) (r := (0, 0, 0, 0)) (pc' := 30) (ls' := [some (.inl (some R)), some (zi xc), some (zi xf), some (zi xk), some (zi xi)]) (st' := [.inl (some R), zi xi, .inl (some R)]) (by decide +kernel) (fun k q => by cases q) rfl ?_
      refine y_same (i := .iload 4) (len := 2) (r := (0, 0, 0, 0)) (pc' := 32) (ls' := [some (.inl (some R)), some (zi xc), some (zi xf), some (zi xk), some (zi xi)]) (st' := [zi xi, .inl (some R), zi xi, .inl (some R)]) (by decide +kernel) (fun k q => by cases q) rfl ?_
      refine y_ic (c := 4) (len := 1) (r := (0, 0, 0, 0)) (by decide +kernel) (by decide) (fun y92 hy92 => ?_)
      refine y_add (len := 1) (r := (0, 0, 0, 0)) (by decide +kernel) (by omega) (by omega) (fun y93 hy93 => ?_)
      obtain ⟨v94, hv95, lv94, uv94⟩ := g_int (i := (i + 4)) hg hR at1012 (show (i + 4) < 200 by omega) (srC (by omega) (by omega))
      refine y_ial (i := (i + 4)) (len := 1) (r := (0, 0, 0, 0)) (by decide +kernel) hg hR at1012 (by omega) hv95 ?_
      refine y_ias (i := i) (len := 1) (r := (0, 0, 0, 0)) (by decide +kernel) hg hR at1012 rfl (by omega) (by omega) (srC (by omega) (by omega)) (by omega) (by omega) (fun h96 hg96 hl96 hs96 ho96 => ?_)
      refine y_inc (j := 4) (a := xi) (c := 1) (ls' := fun v => [some (.inl (some R)), some (zi xc), some (zi xf), some (zi xk), some v]) (len := 3) (r := (0, 0, 0, 0)) (by decide +kernel) rfl (fun _ => rfl) (by decide) (by omega) (by omega) (fun y97 hy97 => ?_)
      show qX (d + 1) 207 39 [some (.inl (some R)), some (zi xc), some (zi xf), some (zi xk), some (zi y97)] [] h96 t _
      refine y_goto (off := (-25)) (pc' := 14) (len := 3) (r := (0, 0, 0, 0)) (by decide +kernel) (by decide +kernel) ?_
      refine qX_V (goes_loop hR hxc hc hxf hf hf2 hxm hm9 hmw n h96 (i + 1) y97 hg96 ((ho96 R c (Or.inr (by omega))).trans hm) (by omega) (by omega) (by omega) (by omega)) (fun h1 hR1 => ?_)
      obtain ⟨q1, q2, q3⟩ := hR1
      exact ⟨q1, by omega, fun k j hkj => (q3 k j hkj).trans (ho96 k j (by omega))⟩
    ·
      refine y_same (i := .iload 4) (len := 2) (r := (0, 0, 0, 0)) (pc' := 16) (ls' := [some (.inl (some R)), some (zi xc), some (zi xf), some (zi xk), some (zi xi)]) (st' := [zi xi]) (by decide +kernel) (fun k q => by cases q) rfl ?_
      refine y_same (i := .iload_n 2) (len := 1) (r := (0, 0, 0, 0)) (pc' := 17) (ls' := [some (.inl (some R)), some (zi xc), some (zi xf), some (zi xk), some (zi xi)]) (st' := [zi xf, zi xi]) (by decide +kernel) (fun k q => by cases q) rfl ?_
      refine y_ic (c := 4) (len := 1) (r := (0, 0, 0, 0)) (by decide +kernel) (by decide) (fun y98 hy98 => ?_)
      refine y_same (i := .aload_n 0) (len := 1) (r := (0, 0, 0, 0)) (pc' := 19) (ls' := [some (.inl (some R)), some (zi xc), some (zi xf), some (zi xk), some (zi xi)]) (st' := [.inl (some R), zi y98, zi xf, zi xi]) (by decide +kernel) (fun k q => by cases q) rfl ?_
      refine y_same (i := .iload_n 1) (len := 1) (r := (0, 0, 0, 0)) (pc' := 20) (ls' := [some (.inl (some R)), some (zi xc), some (zi xf), some (zi xk), some (zi xi)]) (st' := [zi xc, .inl (some R), zi y98, zi xf, zi xi]) (by decide +kernel) (fun k q => by cases q) rfl ?_
      refine y_ial (i := c) (len := 1) (r := (0, 0, 0, 0)) (by decide +kernel) hg hR at1012 (by omega) hm ?_
      refine y_mul (c := 4) (len := 1) (r := (0, 0, 0, 0)) (by decide +kernel) (by omega) (by omega) (by omega) (fun y99 hy99 => ?_)
      refine y_add (len := 1) (r := (0, 0, 0, 0)) (by decide +kernel) (by omega) (by omega) (fun y100 hy100 => ?_)
      refine y_cT (c := .ge) (off := 19) (pc' := 42) (len := 3) (r := (0, 0, 0, 0)) (by decide +kernel) (acmpT (c := .ge) (by show _ ≤ _; omega)) (by decide +kernel) ?_
      refine y_same (i := .aload_n 0) (len := 1) (r := (0, 0, 0, 0)) (pc' := 43) (ls' := [some (.inl (some R)), some (zi xc), some (zi xf), some (zi xk), some (zi xi)]) (st' := [.inl (some R)]) (by decide +kernel) (fun k q => by cases q) rfl ?_
      refine y_same (i := .iload_n 2) (len := 1) (r := (0, 0, 0, 0)) (pc' := 44) (ls' := [some (.inl (some R)), some (zi xc), some (zi xf), some (zi xk), some (zi xi)]) (st' := [zi xf, .inl (some R)]) (by decide +kernel) (fun k q => by cases q) rfl ?_
      refine y_ic (c := 4) (len := 1) (r := (0, 0, 0, 0)) (by decide +kernel) (by decide) (fun y101 hy101 => ?_)
      refine y_same (i := .aload_n 0) (len := 1) (r := (0, 0, 0, 0)) (pc' := 46) (ls' := [some (.inl (some R)), some (zi xc), some (zi xf), some (zi xk), some (zi xi)]) (st' := [.inl (some R), zi y101, zi xf, .inl (some R)]) (by decide +kernel) (fun k q => by cases q) rfl ?_
      refine y_same (i := .iload_n 1) (len := 1) (r := (0, 0, 0, 0)) (pc' := 47) (ls' := [some (.inl (some R)), some (zi xc), some (zi xf), some (zi xk), some (zi xi)]) (st' := [zi xc, .inl (some R), zi y101, zi xf, .inl (some R)]) (by decide +kernel) (fun k q => by cases q) rfl ?_
      refine y_ial (i := c) (len := 1) (r := (0, 0, 0, 0)) (by decide +kernel) hg hR at1012 (by omega) hm ?_
      refine y_mul (c := 4) (len := 1) (r := (0, 0, 0, 0)) (by decide +kernel) (by omega) (by omega) (by omega) (fun y102 hy102 => ?_)
      refine y_add (len := 1) (r := (0, 0, 0, 0)) (by decide +kernel) (by omega) (by omega) (fun y103 hy103 => ?_)
      refine y_ic (c := 0) (len := 1) (r := (0, 0, 0, 0)) (by decide +kernel) (by decide) (fun y104 hy104 => ?_)
      refine y_ic (c := 0) (len := 1) (r := (0, 0, 0, 0)) (by decide +kernel) (by decide) (fun y105 hy105 => ?_)
      refine y_ic (c := 0) (len := 1) (r := (0, 0, 0, 0)) (by decide +kernel) (by decide) (fun y106 hy106 => ?_)
      refine y_ic (c := 0) (len := 1) (r := (0, 0, 0, 0)) (by decide +kernel) (by decide) (fun y107 hy107 => ?_)
      refine y_cV (i := .invokestatic 151) (len := 3) (r := (1, 179, 12, 1549)) (nL := 6) (k := 0) (n := 6) (hs := []) (args := [.inl (some R), zi y103, zi y104, zi y105, zi y106, zi y107]) (rest := []) (l0 := [some (.inl (some R)), some (zi y103), some (zi y104), some (zi y105), some (zi y106), some (zi y107)]) (by decide +kernel) (Or.inl ⟨_, rfl⟩) rfl rfl rfl rfl (Nat.le_of_ble_eq_true rfl) rfl rfl (e_four (p := (f + (4 * m))) hg hR (by omega) (by omega) (by omega) ⟨by omega, by omega⟩ ⟨by omega, by omega⟩ ⟨by omega, by omega⟩ ⟨by omega, by omega⟩) (fun h108 hR108 => ?_)
      obtain ⟨hg108, hl108, ho108⟩ := hR108
      refine y_rV (len := 1) (r := (0, 0, 0, 0)) (nL := 5) (n9 := 4) (hs := []) (by decide +kernel) rfl ?_
      exact ⟨hg108, by omega, fun k j hkj => ho108 k j hkj⟩
theorem e_goes {d t c f R k a : Nat} {τ : List Nat} {h : zh} {xc xf xk xa : Int32} (hg : hG τ h) (hR : τ[R]? = some 1012) (hxc : xc.toInt = (c : Int)) (hc : c < 3) (hxf : xf.toInt = (f : Int)) (hf : 24 ≤ f) (hf2 : f ≤ 144) (hxk : xk.toInt = (k : Int)) (hk : k < 20) (ha : hsl h R c = some (zi xa)) (hxa : xa.toInt = (a : Int)) (ha1 : 1 ≤ a) (ha2 : a ≤ 12) : qV (d + 2) 207 [some (.inl (some R)), some (zi xc), some (zi xf), some (zi xk), none] h t (fun h1 => hG τ h1 ∧ h1.length = h.length ∧ (∀ k j, (k ≠ R ∨ (j < 24 ∧ j ≠ c)) → hsl h1 k j = hsl h k j) ∧ ∃ y : Int32, hsl h1 R c = some (zi y) ∧ y.toInt = xa.toInt - 1) := by
  refine qV_of ?_
  refine y_same (i := .aload_n 0) (len := 1) (r := (0, 0, 0, 0)) (pc' := 1) (ls' := [some (.inl (some R)), some (zi xc), some (zi xf), some (zi xk), none]) (st' := [.inl (some R)]) (by decide +kernel) (fun k q => by cases q) rfl ?_
  refine y_same (i := .iload_n 1) (len := 1) (r := (0, 0, 0, 0)) (pc' := 2) (ls' := [some (.inl (some R)), some (zi xc), some (zi xf), some (zi xk), none]) (st' := [zi xc, .inl (some R)]) (by decide +kernel) (fun k q => by cases q) rfl ?_
  refine y_same (i := .dup2) (len := 1) (r := (0, 0, 0, 0)) (pc' := 3) (ls' := [some (.inl (some R)), some (zi xc), some (zi xf), some (zi xk), none]) (st' := [zi xc, .inl (some R), zi xc, .inl (some R)]) (by decide +kernel) (fun k q => by cases q) rfl ?_
  refine y_ial (i := c) (len := 1) (r := (0, 0, 0, 0)) (by decide +kernel) hg hR at1012 (by omega) ha ?_
  refine y_ic (c := 1) (len := 1) (r := (0, 0, 0, 0)) (by decide +kernel) (by decide) (fun y109 hy109 => ?_)
  refine y_sub (len := 1) (r := (0, 0, 0, 0)) (by decide +kernel) (by omega) (by omega) (fun y110 hy110 => ?_)
  refine y_ias (i := c) (len := 1) (r := (0, 0, 0, 0)) (by decide +kernel) hg hR at1012 rfl (by omega) (by omega) (srA (by omega)) (by omega) (by omega) (fun h111 hg111 hl111 hs111 ho111 => ?_)
  refine y_same (i := .iload_n 2) (len := 1) (r := (0, 0, 0, 0)) (pc' := 8) (ls' := [some (.inl (some R)), some (zi xc), some (zi xf), some (zi xk), none]) (st' := [zi xf]) (by decide +kernel) (fun k q => by cases q) rfl ?_
  refine y_ic (c := 4) (len := 1) (r := (0, 0, 0, 0)) (by decide +kernel) (by decide) (fun y112 hy112 => ?_)
  refine y_same (i := .iload_n 3) (len := 1) (r := (0, 0, 0, 0)) (pc' := 10) (ls' := [some (.inl (some R)), some (zi xc), some (zi xf), some (zi xk), none]) (st' := [zi xk, zi y112, zi xf]) (by decide +kernel) (fun k q => by cases q) rfl ?_
  refine y_mul (c := 4) (len := 1) (r := (0, 0, 0, 0)) (by decide +kernel) (by omega) (by omega) (by omega) (fun y113 hy113 => ?_)
  refine y_add (len := 1) (r := (0, 0, 0, 0)) (by decide +kernel) (by omega) (by omega) (fun y114 hy114 => ?_)
  refine y_same (i := .istore 4) (len := 2) (r := (0, 0, 0, 0)) (pc' := 14) (ls' := [some (.inl (some R)), some (zi xc), some (zi xf), some (zi xk), some (zi y114)]) (st' := []) (by decide +kernel) (fun k q => by cases q) rfl ?_
  refine qX_V (goes_loop (m := a - 1) hR hxc hc hxf hf hf2 (by omega) (by omega) (by omega) 1000 h111 (f + (4 * k)) y114 hg111 hs111 (by omega) (by omega) (by omega) (by omega)) (fun h1 hR1 => ?_)
  obtain ⟨q1, q2, q3⟩ := hR1
  exact ⟨q1, by omega, fun k j hkj => (q3 k j (by omega)).trans (ho111 k j (by omega)), y110, (q3 R c (Or.inr (by omega))).trans hs111, by omega⟩
theorem e_goesLeft {d t R k a : Nat} {τ : List Nat} {h : zh} {xk xa : Int32} (hg : hG τ h) (hR : τ[R]? = some 1012) (hxk : xk.toInt = (k : Int)) (hk : k < 20) (ha : hsl h R 0 = some (zi xa)) (hxa : xa.toInt = (a : Int)) (ha1 : 1 ≤ a) (ha2 : a ≤ 12) : qV (d + 3) 208 [some (.inl (some R)), some (zi xk)] h t (fun h1 => hG τ h1 ∧ h1.length = h.length ∧ (∀ k j, (k ≠ R ∨ (j < 24 ∧ j ≠ 0)) → hsl h1 k j = hsl h k j) ∧ ∃ y : Int32, hsl h1 R 0 = some (zi y) ∧ y.toInt = xa.toInt - 1) := by
  refine qV_of ?_
  refine y_same (i := .aload_n 0) (len := 1) (r := (0, 0, 0, 0)) (pc' := 1) (ls' := [some (.inl (some R)), some (zi xk)]) (st' := [.inl (some R)]) (by decide +kernel) (fun k q => by cases q) rfl ?_
  refine y_ic (c := 0) (len := 1) (r := (0, 0, 0, 0)) (by decide +kernel) (by decide) (fun y115 hy115 => ?_)
  refine y_bi (c := 24) (len := 2) (r := (0, 0, 0, 0)) (by decide +kernel) (by decide) (fun y116 hy116 => ?_)
  refine y_same (i := .iload_n 1) (len := 1) (r := (0, 0, 0, 0)) (pc' := 5) (ls' := [some (.inl (some R)), some (zi xk)]) (st' := [zi xk, zi y116, zi y115, .inl (some R)]) (by decide +kernel) (fun k q => by cases q) rfl ?_
  refine y_cV (i := .invokestatic 269) (len := 3) (r := (1, 207, 12, 1657)) (nL := 5) (k := 0) (n := 4) (hs := []) (args := [.inl (some R), zi y115, zi y116, zi xk]) (rest := []) (l0 := [some (.inl (some R)), some (zi y115), some (zi y116), some (zi xk), none]) (by decide +kernel) (Or.inl ⟨_, rfl⟩) rfl rfl rfl rfl (Nat.le_of_ble_eq_true rfl) rfl rfl (e_goes (c := 0) (f := 24) (k := k) (a := a) hg hR (by omega) (by omega) (by omega) (by omega) (by omega) hxk hk ha hxa ha1 ha2) (fun h117 hR117 => ?_)
  refine y_rV (len := 1) (r := (0, 0, 0, 0)) (nL := 2) (n9 := 2) (hs := []) (by decide +kernel) rfl ?_
  exact hR117
theorem e_goesRight {d t R k a : Nat} {τ : List Nat} {h : zh} {xk xa : Int32} (hg : hG τ h) (hR : τ[R]? = some 1012) (hxk : xk.toInt = (k : Int)) (hk : k < 20) (ha : hsl h R 1 = some (zi xa)) (hxa : xa.toInt = (a : Int)) (ha1 : 1 ≤ a) (ha2 : a ≤ 12) : qV (d + 3) 209 [some (.inl (some R)), some (zi xk)] h t (fun h1 => hG τ h1 ∧ h1.length = h.length ∧ (∀ k j, (k ≠ R ∨ (j < 24 ∧ j ≠ 1)) → hsl h1 k j = hsl h k j) ∧ ∃ y : Int32, hsl h1 R 1 = some (zi y) ∧ y.toInt = xa.toInt - 1) := by
  refine qV_of ?_
  refine y_same (i := .aload_n 0) (len := 1) (r := (0, 0, 0, 0)) (pc' := 1) (ls' := [some (.inl (some R)), some (zi xk)]) (st' := [.inl (some R)]) (by decide +kernel) (fun k q => by cases q) rfl ?_
  refine y_ic (c := 1) (len := 1) (r := (0, 0, 0, 0)) (by decide +kernel) (by decide) (fun y118 hy118 => ?_)
  refine y_bi (c := 80) (len := 2) (r := (0, 0, 0, 0)) (by decide +kernel) (by decide) (fun y119 hy119 => ?_)
  refine y_same (i := .iload_n 1) (len := 1) (r := (0, 0, 0, 0)) (pc' := 5) (ls' := [some (.inl (some R)), some (zi xk)]) (st' := [zi xk, zi y119, zi y118, .inl (some R)]) (by decide +kernel) (fun k q => by cases q) rfl ?_
  refine y_cV (i := .invokestatic 269) (len := 3) (r := (1, 207, 12, 1657)) (nL := 5) (k := 0) (n := 4) (hs := []) (args := [.inl (some R), zi y118, zi y119, zi xk]) (rest := []) (l0 := [some (.inl (some R)), some (zi y118), some (zi y119), some (zi xk), none]) (by decide +kernel) (Or.inl ⟨_, rfl⟩) rfl rfl rfl rfl (Nat.le_of_ble_eq_true rfl) rfl rfl (e_goes (c := 1) (f := 80) (k := k) (a := a) hg hR (by omega) (by omega) (by omega) (by omega) (by omega) hxk hk ha hxa ha1 ha2) (fun h120 hR120 => ?_)
  refine y_rV (len := 1) (r := (0, 0, 0, 0)) (nL := 2) (n9 := 2) (hs := []) (by decide +kernel) rfl ?_
  exact hR120
