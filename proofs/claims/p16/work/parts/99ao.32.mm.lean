/-! a sequent of the reference: made one, its variables -/
theorem mkm_L {d t A : Nat} {τ : List Nat} {h0 : zh} {l : List it4} {xl : Int32} {T : Nat} {c0 : Int} (tA : τ[A]? = some T) (aT : atyp T = some (.inl (0, 200, wRs c0))) (hc0 : 12 ≤ c0 ∧ c0 ≤ 14) (pT : aprot T = false) {x y : Int} {xx xy xt xo : Int32} (hx : 0 ≤ x ∧ x ≤ 20) (hy : 0 ≤ y ∧ y ≤ 20) (ne : x ≠ y) (ext : xt.toInt = min x y) (exo : xo.toInt = max x y) (el : xl.toInt = (l.length : Int)) (l14 : l.length ≤ 14) (ok : ∀ p ∈ l, okV p) {P : zo × zh × Nat → Prop} (kk : ∀ (h : zh) (xe : Int32) (l6 : Option zv), hG τ h → (∀ (j : Nat) (i : it4), l[j]? = some i → qdM h A (24 + 4 * j) (mI (rn1 x y) i)) → (∀ k9 j, (k9 ≠ A ∨ j < 24 ∨ 24 + 4 * l.length ≤ j) → hsl h k9 j = hsl h0 k9 j) → qX (d + 1) 206 77 [some (.inl (some A)), some (zi xx), some (zi xy), some (zi xt), some (zi xo), some (zi xe), l6] [] h t P) : ∀ (n : Nat) (h : zh) (k : Nat) (xk : Int32) (l6 : Option zv), (hG τ h) → (hsl h A 0 = some (zi xl)) → (∀ (j : Nat) (i : it4), j < k → l[j]? = some i → qdM h A (24 + 4 * j) (mI (rn1 x y) i)) → (∀ (j : Nat) (i : it4), k ≤ j → l[j]? = some i → qdM h A (24 + 4 * j) i) → (∀ k9 j, (k9 ≠ A ∨ j < 24 ∨ 24 + 4 * l.length ≤ j) → hsl h k9 j = hsl h0 k9 j) → (xk.toInt = (k : Int)) → (k ≤ l.length) → (l.length < k + n) → qX (d + 1) 206 22 [some (.inl (some A)), some (zi xx), some (zi xy), some (zi xt), some (zi xo), some (zi xk), l6] [] h t P := by
  intro n
  induction n with
  | zero =>
    intro h k xk l6 hg hl c1 c2 F0 hxk hk hn
    exfalso
    omega
  | succ n ih =>
    intro h k xk l6 hg hl c1 c2 F0 hxk hk hn
    skip
    refine y_same (i := .iload 5) (len := 2) (r := (0, 0, 0, 0)) (pc' := 24) (ls' := [some (.inl (some A)), some (zi xx), some (zi xy), some (zi xt), some (zi xo), some (zi xk), l6]) (st' := [zi xk]) (by decide +kernel) (fun k q => by cases q) rfl ?_
    refine y_same (i := .aload_n 0) (len := 1) (r := (0, 0, 0, 0)) (pc' := 25) (ls' := [some (.inl (some A)), some (zi xx), some (zi xy), some (zi xt), some (zi xo), some (zi xk), l6]) (st' := [.inl (some A), zi xk]) (by decide +kernel) (fun k q => by cases q) rfl ?_
    refine y_ic (c := 0) (len := 1) (r := (0, 0, 0, 0)) (by decide +kernel) (by decide) (fun y2206 hy2206 => ?_)
    refine y_ial (i := 0) (len := 1) (r := (0, 0, 0, 0)) (by decide +kernel) hg tA aT (by omega) hl ?_
    rcases Decidable.em (xk.toInt ≥ xl.toInt) with q2207 | q2207
    ·
      refine y_cT (c := .ge) (off := 50) (pc' := 77) (len := 3) (r := (0, 0, 0, 0)) (by decide +kernel) (acmpT (c := .ge) (by show _ ≤ _; omega)) (by decide +kernel) ?_
      exact kk h _ _ hg (fun j i hi => c1 j i (by have := (List.getElem?_eq_some_iff.mp hi).1; omega) hi) F0
    ·
      refine y_cF (c := .ge) (off := 50) (len := 3) (r := (0, 0, 0, 0)) (by decide +kernel) (acmpF (c := .ge) (by show _ < _; omega)) ?_
      obtain ⟨ik, kik⟩ : ∃ i9, l[k]? = some i9 := ⟨_, List.getElem?_eq_getElem (by omega)⟩
      have oik := ok ik (List.mem_of_getElem? kik)
      have pik := oik
      unfold okV at pik
      obtain ⟨xa, xb, xc, xd, ⟨ha, hb, hc, hd⟩, ea, eb, ec, ed⟩ := c2 k ik (Nat.le_refl _) kik
      refine y_ic (c := 1) (len := 1) (r := (0, 0, 0, 0)) (by decide +kernel) (by decide) (fun y2208 hy2208 => ?_)
      refine y_same (i := .istore 6) (len := 2) (r := (0, 0, 0, 0)) (pc' := 33) (ls' := [some (.inl (some A)), some (zi xx), some (zi xy), some (zi xt), some (zi xo), some (zi xk), some (zi y2208)]) (st' := []) (by decide +kernel) (fun k q => by cases q) rfl ?_
      refine y_same (i := .iload 6) (len := 2) (r := (0, 0, 0, 0)) (pc' := 35) (ls' := [some (.inl (some A)), some (zi xx), some (zi xy), some (zi xt), some (zi xo), some (zi xk), some (zi y2208)]) (st' := [zi y2208]) (by decide +kernel) (fun k q => by cases q) rfl ?_
      refine y_ic (c := 4) (len := 1) (r := (0, 0, 0, 0)) (by decide +kernel) (by decide) (fun y2209 hy2209 => ?_)
      refine y_cF (c := .ge) (off := 35) (len := 3) (r := (0, 0, 0, 0)) (by decide +kernel) (acmpF (c := .ge) (by show _ < _; omega)) ?_
      refine y_same (i := .aload_n 0) (len := 1) (r := (0, 0, 0, 0)) (pc' := 40) (ls' := [some (.inl (some A)), some (zi xx), some (zi xy), some (zi xt), some (zi xo), some (zi xk), some (zi y2208)]) (st' := [.inl (some A)]) (by decide +kernel) (fun k q => by cases q) rfl ?_
      refine y_same (i := .iload 5) (len := 2) (r := (0, 0, 0, 0)) (pc' := 42) (ls' := [some (.inl (some A)), some (zi xx), some (zi xy), some (zi xt), some (zi xo), some (zi xk), some (zi y2208)]) (st' := [zi xk, .inl (some A)]) (by decide +kernel) (fun k q => by cases q) rfl ?_
      refine y_cI (i := .invokestatic 249) (len := 3) (r := (1, 197, 12, 1644)) (nL := 1) (k := 1) (n := 1) (hs := []) (args := [zi xk]) (rest := [.inl (some A)]) (l0 := [some (zi xk)]) (by decide +kernel) (Or.inl ⟨_, rfl⟩) rfl rfl rfl rfl (Nat.le_of_ble_eq_true rfl) rfl rfl (qI_le (by omega) (e_leftAt (d := 0) (by omega) (by omega))) (fun y2210 qy2210 hRy2210 => ?_)
      obtain ⟨rfl, hy2210⟩ := hRy2210
      refine y_same (i := .iload 6) (len := 2) (r := (0, 0, 0, 0)) (pc' := 47) (ls' := [some (.inl (some A)), some (zi xx), some (zi xy), some (zi xt), some (zi xo), some (zi xk), some (zi y2208)]) (st' := [zi y2208, zi y2210, .inl (some A)]) (by decide +kernel) (fun k q => by cases q) rfl ?_
      refine y_add (len := 1) (r := (0, 0, 0, 0)) (by decide +kernel) (by omega) (by omega) (fun y2211 hy2211 => ?_)
      refine y_same (i := .aload_n 0) (len := 1) (r := (0, 0, 0, 0)) (pc' := 49) (ls' := [some (.inl (some A)), some (zi xx), some (zi xy), some (zi xt), some (zi xo), some (zi xk), some (zi y2208)]) (st' := [.inl (some A), zi y2211, .inl (some A)]) (by decide +kernel) (fun k q => by cases q) rfl ?_
      refine y_same (i := .iload 5) (len := 2) (r := (0, 0, 0, 0)) (pc' := 51) (ls' := [some (.inl (some A)), some (zi xx), some (zi xy), some (zi xt), some (zi xo), some (zi xk), some (zi y2208)]) (st' := [zi xk, .inl (some A), zi y2211, .inl (some A)]) (by decide +kernel) (fun k q => by cases q) rfl ?_
      refine y_cI (i := .invokestatic 249) (len := 3) (r := (1, 197, 12, 1644)) (nL := 1) (k := 1) (n := 1) (hs := []) (args := [zi xk]) (rest := [.inl (some A), zi y2211, .inl (some A)]) (l0 := [some (zi xk)]) (by decide +kernel) (Or.inl ⟨_, rfl⟩) rfl rfl rfl rfl (Nat.le_of_ble_eq_true rfl) rfl rfl (qI_le (by omega) (e_leftAt (d := 0) (by omega) (by omega))) (fun y2212 qy2212 hRy2212 => ?_)
      obtain ⟨rfl, hy2212⟩ := hRy2212
      refine y_same (i := .iload 6) (len := 2) (r := (0, 0, 0, 0)) (pc' := 56) (ls' := [some (.inl (some A)), some (zi xx), some (zi xy), some (zi xt), some (zi xo), some (zi xk), some (zi y2208)]) (st' := [zi y2208, zi y2212, .inl (some A), zi y2211, .inl (some A)]) (by decide +kernel) (fun k q => by cases q) rfl ?_
      refine y_add (len := 1) (r := (0, 0, 0, 0)) (by decide +kernel) (by omega) (by omega) (fun y2213 hy2213 => ?_)
      refine y_ial (i := ((24 + 4 * k) + 1)) (len := 1) (r := (0, 0, 0, 0)) (by decide +kernel) hg tA aT (by omega) hb ?_
      refine y_same (i := .iload 4) (len := 2) (r := (0, 0, 0, 0)) (pc' := 60) (ls' := [some (.inl (some A)), some (zi xx), some (zi xy), some (zi xt), some (zi xo), some (zi xk), some (zi y2208)]) (st' := [zi xo, zi xb, zi y2211, .inl (some A)]) (by decide +kernel) (fun k q => by cases q) rfl ?_
      refine y_same (i := .iload_n 3) (len := 1) (r := (0, 0, 0, 0)) (pc' := 61) (ls' := [some (.inl (some A)), some (zi xx), some (zi xy), some (zi xt), some (zi xo), some (zi xk), some (zi y2208)]) (st' := [zi xt, zi xo, zi xb, zi y2211, .inl (some A)]) (by decide +kernel) (fun k q => by cases q) rfl ?_
      refine y_cI (i := .invokestatic 252) (len := 3) (r := (1, 205, 12, 1663)) (nL := 3) (k := 1) (n := 3) (hs := []) (args := [zi xb, zi xo, zi xt]) (rest := [zi y2211, .inl (some A)]) (l0 := [some (zi xb), some (zi xo), some (zi xt)]) (by decide +kernel) (Or.inl ⟨_, rfl⟩) rfl rfl rfl rfl (Nat.le_of_ble_eq_true rfl) rfl rfl (qI_le (by omega) (e_becomes (d := 0))) (fun y2214 qy2214 hRy2214 => ?_)
      obtain ⟨rfl, hy2214⟩ := hRy2214
      refine y_ias (i := ((24 + 4 * k) + 1)) (len := 1) (r := (0, 0, 0, 0)) (by decide +kernel) hg tA aT pT (by omega) (by omega) (srC (by omega) (by omega)) (by omega) (by omega) (fun h2215 hg2215 hl2215 hs2215 ho2215 => ?_)
      refine y_inc (j := 6) (a := y2208) (c := 1) (ls' := fun v => [some (.inl (some A)), some (zi xx), some (zi xy), some (zi xt), some (zi xo), some (zi xk), some v]) (len := 3) (r := (0, 0, 0, 0)) (by decide +kernel) rfl (fun _ => rfl) (by decide) (by omega) (by omega) (fun y2216 hy2216 => ?_)
      show qX (d + 1) 206 68 [some (.inl (some A)), some (zi xx), some (zi xy), some (zi xt), some (zi xo), some (zi xk), some (zi y2216)] [] h2215 t _
      refine y_goto (off := (-35)) (pc' := 33) (len := 3) (r := (0, 0, 0, 0)) (by decide +kernel) (by decide +kernel) ?_
      refine y_same (i := .iload 6) (len := 2) (r := (0, 0, 0, 0)) (pc' := 35) (ls' := [some (.inl (some A)), some (zi xx), some (zi xy), some (zi xt), some (zi xo), some (zi xk), some (zi y2216)]) (st' := [zi y2216]) (by decide +kernel) (fun k q => by cases q) rfl ?_
      refine y_ic (c := 4) (len := 1) (r := (0, 0, 0, 0)) (by decide +kernel) (by decide) (fun y2217 hy2217 => ?_)
      refine y_cF (c := .ge) (off := 35) (len := 3) (r := (0, 0, 0, 0)) (by decide +kernel) (acmpF (c := .ge) (by show _ < _; omega)) ?_
      refine y_same (i := .aload_n 0) (len := 1) (r := (0, 0, 0, 0)) (pc' := 40) (ls' := [some (.inl (some A)), some (zi xx), some (zi xy), some (zi xt), some (zi xo), some (zi xk), some (zi y2216)]) (st' := [.inl (some A)]) (by decide +kernel) (fun k q => by cases q) rfl ?_
      refine y_same (i := .iload 5) (len := 2) (r := (0, 0, 0, 0)) (pc' := 42) (ls' := [some (.inl (some A)), some (zi xx), some (zi xy), some (zi xt), some (zi xo), some (zi xk), some (zi y2216)]) (st' := [zi xk, .inl (some A)]) (by decide +kernel) (fun k q => by cases q) rfl ?_
      refine y_cI (i := .invokestatic 249) (len := 3) (r := (1, 197, 12, 1644)) (nL := 1) (k := 1) (n := 1) (hs := []) (args := [zi xk]) (rest := [.inl (some A)]) (l0 := [some (zi xk)]) (by decide +kernel) (Or.inl ⟨_, rfl⟩) rfl rfl rfl rfl (Nat.le_of_ble_eq_true rfl) rfl rfl (qI_le (by omega) (e_leftAt (d := 0) (by omega) (by omega))) (fun y2218 qy2218 hRy2218 => ?_)
      obtain ⟨rfl, hy2218⟩ := hRy2218
      refine y_same (i := .iload 6) (len := 2) (r := (0, 0, 0, 0)) (pc' := 47) (ls' := [some (.inl (some A)), some (zi xx), some (zi xy), some (zi xt), some (zi xo), some (zi xk), some (zi y2216)]) (st' := [zi y2216, zi y2218, .inl (some A)]) (by decide +kernel) (fun k q => by cases q) rfl ?_
      refine y_add (len := 1) (r := (0, 0, 0, 0)) (by decide +kernel) (by omega) (by omega) (fun y2219 hy2219 => ?_)
      refine y_same (i := .aload_n 0) (len := 1) (r := (0, 0, 0, 0)) (pc' := 49) (ls' := [some (.inl (some A)), some (zi xx), some (zi xy), some (zi xt), some (zi xo), some (zi xk), some (zi y2216)]) (st' := [.inl (some A), zi y2219, .inl (some A)]) (by decide +kernel) (fun k q => by cases q) rfl ?_
      refine y_same (i := .iload 5) (len := 2) (r := (0, 0, 0, 0)) (pc' := 51) (ls' := [some (.inl (some A)), some (zi xx), some (zi xy), some (zi xt), some (zi xo), some (zi xk), some (zi y2216)]) (st' := [zi xk, .inl (some A), zi y2219, .inl (some A)]) (by decide +kernel) (fun k q => by cases q) rfl ?_
      refine y_cI (i := .invokestatic 249) (len := 3) (r := (1, 197, 12, 1644)) (nL := 1) (k := 1) (n := 1) (hs := []) (args := [zi xk]) (rest := [.inl (some A), zi y2219, .inl (some A)]) (l0 := [some (zi xk)]) (by decide +kernel) (Or.inl ⟨_, rfl⟩) rfl rfl rfl rfl (Nat.le_of_ble_eq_true rfl) rfl rfl (qI_le (by omega) (e_leftAt (d := 0) (by omega) (by omega))) (fun y2220 qy2220 hRy2220 => ?_)
      obtain ⟨rfl, hy2220⟩ := hRy2220
      refine y_same (i := .iload 6) (len := 2) (r := (0, 0, 0, 0)) (pc' := 56) (ls' := [some (.inl (some A)), some (zi xx), some (zi xy), some (zi xt), some (zi xo), some (zi xk), some (zi y2216)]) (st' := [zi y2216, zi y2220, .inl (some A), zi y2219, .inl (some A)]) (by decide +kernel) (fun k q => by cases q) rfl ?_
      refine y_add (len := 1) (r := (0, 0, 0, 0)) (by decide +kernel) (by omega) (by omega) (fun y2221 hy2221 => ?_)
      have hv2222 := (ho2215 A ((24 + 4 * k) + 2) (Or.inr (by omega))).trans hc
      refine y_ial (i := ((24 + 4 * k) + 2)) (len := 1) (r := (0, 0, 0, 0)) (by decide +kernel) hg2215 tA aT (by omega) hv2222 ?_
      refine y_same (i := .iload 4) (len := 2) (r := (0, 0, 0, 0)) (pc' := 60) (ls' := [some (.inl (some A)), some (zi xx), some (zi xy), some (zi xt), some (zi xo), some (zi xk), some (zi y2216)]) (st' := [zi xo, zi xc, zi y2219, .inl (some A)]) (by decide +kernel) (fun k q => by cases q) rfl ?_
      refine y_same (i := .iload_n 3) (len := 1) (r := (0, 0, 0, 0)) (pc' := 61) (ls' := [some (.inl (some A)), some (zi xx), some (zi xy), some (zi xt), some (zi xo), some (zi xk), some (zi y2216)]) (st' := [zi xt, zi xo, zi xc, zi y2219, .inl (some A)]) (by decide +kernel) (fun k q => by cases q) rfl ?_
      refine y_cI (i := .invokestatic 252) (len := 3) (r := (1, 205, 12, 1663)) (nL := 3) (k := 1) (n := 3) (hs := []) (args := [zi xc, zi xo, zi xt]) (rest := [zi y2219, .inl (some A)]) (l0 := [some (zi xc), some (zi xo), some (zi xt)]) (by decide +kernel) (Or.inl ⟨_, rfl⟩) rfl rfl rfl rfl (Nat.le_of_ble_eq_true rfl) rfl rfl (qI_le (by omega) (e_becomes (d := 0))) (fun y2223 qy2223 hRy2223 => ?_)
      obtain ⟨rfl, hy2223⟩ := hRy2223
      refine y_ias (i := ((24 + 4 * k) + 2)) (len := 1) (r := (0, 0, 0, 0)) (by decide +kernel) hg2215 tA aT pT (by omega) (by omega) (srC (by omega) (by omega)) (by omega) (by omega) (fun h2224 hg2224 hl2224 hs2224 ho2224 => ?_)
      refine y_inc (j := 6) (a := y2216) (c := 1) (ls' := fun v => [some (.inl (some A)), some (zi xx), some (zi xy), some (zi xt), some (zi xo), some (zi xk), some v]) (len := 3) (r := (0, 0, 0, 0)) (by decide +kernel) rfl (fun _ => rfl) (by decide) (by omega) (by omega) (fun y2225 hy2225 => ?_)
      show qX (d + 1) 206 68 [some (.inl (some A)), some (zi xx), some (zi xy), some (zi xt), some (zi xo), some (zi xk), some (zi y2225)] [] h2224 t _
      refine y_goto (off := (-35)) (pc' := 33) (len := 3) (r := (0, 0, 0, 0)) (by decide +kernel) (by decide +kernel) ?_
      refine y_same (i := .iload 6) (len := 2) (r := (0, 0, 0, 0)) (pc' := 35) (ls' := [some (.inl (some A)), some (zi xx), some (zi xy), some (zi xt), some (zi xo), some (zi xk), some (zi y2225)]) (st' := [zi y2225]) (by decide +kernel) (fun k q => by cases q) rfl ?_
      refine y_ic (c := 4) (len := 1) (r := (0, 0, 0, 0)) (by decide +kernel) (by decide) (fun y2226 hy2226 => ?_)
      refine y_cF (c := .ge) (off := 35) (len := 3) (r := (0, 0, 0, 0)) (by decide +kernel) (acmpF (c := .ge) (by show _ < _; omega)) ?_
      refine y_same (i := .aload_n 0) (len := 1) (r := (0, 0, 0, 0)) (pc' := 40) (ls' := [some (.inl (some A)), some (zi xx), some (zi xy), some (zi xt), some (zi xo), some (zi xk), some (zi y2225)]) (st' := [.inl (some A)]) (by decide +kernel) (fun k q => by cases q) rfl ?_
      refine y_same (i := .iload 5) (len := 2) (r := (0, 0, 0, 0)) (pc' := 42) (ls' := [some (.inl (some A)), some (zi xx), some (zi xy), some (zi xt), some (zi xo), some (zi xk), some (zi y2225)]) (st' := [zi xk, .inl (some A)]) (by decide +kernel) (fun k q => by cases q) rfl ?_
      refine y_cI (i := .invokestatic 249) (len := 3) (r := (1, 197, 12, 1644)) (nL := 1) (k := 1) (n := 1) (hs := []) (args := [zi xk]) (rest := [.inl (some A)]) (l0 := [some (zi xk)]) (by decide +kernel) (Or.inl ⟨_, rfl⟩) rfl rfl rfl rfl (Nat.le_of_ble_eq_true rfl) rfl rfl (qI_le (by omega) (e_leftAt (d := 0) (by omega) (by omega))) (fun y2227 qy2227 hRy2227 => ?_)
      obtain ⟨rfl, hy2227⟩ := hRy2227
      refine y_same (i := .iload 6) (len := 2) (r := (0, 0, 0, 0)) (pc' := 47) (ls' := [some (.inl (some A)), some (zi xx), some (zi xy), some (zi xt), some (zi xo), some (zi xk), some (zi y2225)]) (st' := [zi y2225, zi y2227, .inl (some A)]) (by decide +kernel) (fun k q => by cases q) rfl ?_
      refine y_add (len := 1) (r := (0, 0, 0, 0)) (by decide +kernel) (by omega) (by omega) (fun y2228 hy2228 => ?_)
      refine y_same (i := .aload_n 0) (len := 1) (r := (0, 0, 0, 0)) (pc' := 49) (ls' := [some (.inl (some A)), some (zi xx), some (zi xy), some (zi xt), some (zi xo), some (zi xk), some (zi y2225)]) (st' := [.inl (some A), zi y2228, .inl (some A)]) (by decide +kernel) (fun k q => by cases q) rfl ?_
      refine y_same (i := .iload 5) (len := 2) (r := (0, 0, 0, 0)) (pc' := 51) (ls' := [some (.inl (some A)), some (zi xx), some (zi xy), some (zi xt), some (zi xo), some (zi xk), some (zi y2225)]) (st' := [zi xk, .inl (some A), zi y2228, .inl (some A)]) (by decide +kernel) (fun k q => by cases q) rfl ?_
      refine y_cI (i := .invokestatic 249) (len := 3) (r := (1, 197, 12, 1644)) (nL := 1) (k := 1) (n := 1) (hs := []) (args := [zi xk]) (rest := [.inl (some A), zi y2228, .inl (some A)]) (l0 := [some (zi xk)]) (by decide +kernel) (Or.inl ⟨_, rfl⟩) rfl rfl rfl rfl (Nat.le_of_ble_eq_true rfl) rfl rfl (qI_le (by omega) (e_leftAt (d := 0) (by omega) (by omega))) (fun y2229 qy2229 hRy2229 => ?_)
      obtain ⟨rfl, hy2229⟩ := hRy2229
      refine y_same (i := .iload 6) (len := 2) (r := (0, 0, 0, 0)) (pc' := 56) (ls' := [some (.inl (some A)), some (zi xx), some (zi xy), some (zi xt), some (zi xo), some (zi xk), some (zi y2225)]) (st' := [zi y2225, zi y2229, .inl (some A), zi y2228, .inl (some A)]) (by decide +kernel) (fun k q => by cases q) rfl ?_
      refine y_add (len := 1) (r := (0, 0, 0, 0)) (by decide +kernel) (by omega) (by omega) (fun y2230 hy2230 => ?_)
      have hv2231 := (ho2215 A ((24 + 4 * k) + 3) (Or.inr (by omega))).trans hd
      have hv2232 := (ho2224 A ((24 + 4 * k) + 3) (Or.inr (by omega))).trans hv2231
      refine y_ial (i := ((24 + 4 * k) + 3)) (len := 1) (r := (0, 0, 0, 0)) (by decide +kernel) hg2224 tA aT (by omega) hv2232 ?_
      refine y_same (i := .iload 4) (len := 2) (r := (0, 0, 0, 0)) (pc' := 60) (ls' := [some (.inl (some A)), some (zi xx), some (zi xy), some (zi xt), some (zi xo), some (zi xk), some (zi y2225)]) (st' := [zi xo, zi xd, zi y2228, .inl (some A)]) (by decide +kernel) (fun k q => by cases q) rfl ?_
      refine y_same (i := .iload_n 3) (len := 1) (r := (0, 0, 0, 0)) (pc' := 61) (ls' := [some (.inl (some A)), some (zi xx), some (zi xy), some (zi xt), some (zi xo), some (zi xk), some (zi y2225)]) (st' := [zi xt, zi xo, zi xd, zi y2228, .inl (some A)]) (by decide +kernel) (fun k q => by cases q) rfl ?_
      refine y_cI (i := .invokestatic 252) (len := 3) (r := (1, 205, 12, 1663)) (nL := 3) (k := 1) (n := 3) (hs := []) (args := [zi xd, zi xo, zi xt]) (rest := [zi y2228, .inl (some A)]) (l0 := [some (zi xd), some (zi xo), some (zi xt)]) (by decide +kernel) (Or.inl ⟨_, rfl⟩) rfl rfl rfl rfl (Nat.le_of_ble_eq_true rfl) rfl rfl (qI_le (by omega) (e_becomes (d := 0))) (fun y2233 qy2233 hRy2233 => ?_)
      obtain ⟨rfl, hy2233⟩ := hRy2233
      refine y_ias (i := ((24 + 4 * k) + 3)) (len := 1) (r := (0, 0, 0, 0)) (by decide +kernel) hg2224 tA aT pT (by omega) (by omega) (srC (by omega) (by omega)) (by omega) (by omega) (fun h2234 hg2234 hl2234 hs2234 ho2234 => ?_)
      refine y_inc (j := 6) (a := y2225) (c := 1) (ls' := fun v => [some (.inl (some A)), some (zi xx), some (zi xy), some (zi xt), some (zi xo), some (zi xk), some v]) (len := 3) (r := (0, 0, 0, 0)) (by decide +kernel) rfl (fun _ => rfl) (by decide) (by omega) (by omega) (fun y2235 hy2235 => ?_)
      show qX (d + 1) 206 68 [some (.inl (some A)), some (zi xx), some (zi xy), some (zi xt), some (zi xo), some (zi xk), some (zi y2235)] [] h2234 t _
      refine y_goto (off := (-35)) (pc' := 33) (len := 3) (r := (0, 0, 0, 0)) (by decide +kernel) (by decide +kernel) ?_
      refine y_same (i := .iload 6) (len := 2) (r := (0, 0, 0, 0)) (pc' := 35) (ls' := [some (.inl (some A)), some (zi xx), some (zi xy), some (zi xt), some (zi xo), some (zi xk), some (zi y2235)]) (st' := [zi y2235]) (by decide +kernel) (fun k q => by cases q) rfl ?_
      refine y_ic (c := 4) (len := 1) (r := (0, 0, 0, 0)) (by decide +kernel) (by decide) (fun y2236 hy2236 => ?_)
      refine y_cT (c := .ge) (off := 35) (pc' := 71) (len := 3) (r := (0, 0, 0, 0)) (by decide +kernel) (acmpT (c := .ge) (by show _ ≤ _; omega)) (by decide +kernel) ?_
      refine y_inc (j := 5) (a := xk) (c := 1) (ls' := fun v => [some (.inl (some A)), some (zi xx), some (zi xy), some (zi xt), some (zi xo), some v, some (zi y2235)]) (len := 3) (r := (0, 0, 0, 0)) (by decide +kernel) rfl (fun _ => rfl) (by decide) (by omega) (by omega) (fun y2237 hy2237 => ?_)
      show qX (d + 1) 206 74 [some (.inl (some A)), some (zi xx), some (zi xy), some (zi xt), some (zi xo), some (zi y2237), some (zi y2235)] [] h2234 t _
      refine y_goto (off := (-52)) (pc' := 22) (len := 3) (r := (0, 0, 0, 0)) (by decide +kernel) (by decide +kernel) ?_
      have hv2238 := (ho2215 A (24 + 4 * k) (Or.inr (by omega))).trans ha
      have hv2239 := (ho2224 A (24 + 4 * k) (Or.inr (by omega))).trans hv2238
      have hv2240 := (ho2234 A (24 + 4 * k) (Or.inr (by omega))).trans hv2239
      have hv2241 := (ho2224 A ((24 + 4 * k) + 1) (Or.inr (by omega))).trans hs2215
      have hv2242 := (ho2234 A ((24 + 4 * k) + 1) (Or.inr (by omega))).trans hv2241
      have hv2243 := (ho2234 A ((24 + 4 * k) + 2) (Or.inr (by omega))).trans hs2224
      have qd : qdM h2234 A (24 + 4 * k) (mI (rn1 x y) ik) := ⟨xa, y2214, y2223, y2233, ⟨hv2240, hv2242, hv2243, hs2234⟩, ea, by show _ = rn1 x y ik.2.1; unfold rn1; split <;> omega, by show _ = rn1 x y ik.2.2.1; unfold rn1; split <;> omega, by show _ = rn1 x y ik.2.2.2; unfold rn1; split <;> omega⟩
      have c1n : ∀ (j : Nat) (i : it4), j < k + 1 → l[j]? = some i → qdM h2234 A (24 + 4 * j) (mI (rn1 x y) i) := fun j i hj hi => by
        rcases Nat.lt_or_ge j k with q9 | q9
        · exact qdM_up (c1 j i q9 hi) (fun w hw => ((ho2234 A (24 + 4 * j + w) (by omega)).trans ((ho2224 A (24 + 4 * j + w) (by omega)).trans (ho2215 A (24 + 4 * j + w) (by omega)))))
        · obtain rfl : j = k := by omega
          cases kik.symm.trans hi
          exact qd
      exact ih h2234 (k + 1) y2237 (some (zi y2235)) hg2234 (((ho2234 A 0 (by omega)).trans ((ho2224 A 0 (by omega)).trans (ho2215 A 0 (by omega)))).trans hl) c1n (fun j i hj hi => qdM_up (c2 j i (by omega) hi) (fun w hw => ((ho2234 A (24 + 4 * j + w) (by omega)).trans ((ho2224 A (24 + 4 * j + w) (by omega)).trans (ho2215 A (24 + 4 * j + w) (by omega)))))) (fun k9 j hC => (((ho2234 k9 j (by omega)).trans ((ho2224 k9 j (by omega)).trans (ho2215 k9 j (by omega))))).trans (F0 k9 j hC)) (by omega) (by omega) (by omega)
theorem mkm_R {d t A : Nat} {τ : List Nat} {h0 : zh} {l : List it4} {xl : Int32} {T : Nat} {c0 : Int} (tA : τ[A]? = some T) (aT : atyp T = some (.inl (0, 200, wRs c0))) (hc0 : 12 ≤ c0 ∧ c0 ≤ 14) (pT : aprot T = false) {x y : Int} {xx xy xt xo : Int32} (hx : 0 ≤ x ∧ x ≤ 20) (hy : 0 ≤ y ∧ y ≤ 20) (ne : x ≠ y) (ext : xt.toInt = min x y) (exo : xo.toInt = max x y) (el : xl.toInt = (l.length : Int)) (l14 : l.length ≤ 14) (ok : ∀ p ∈ l, okV p) {P : zo × zh × Nat → Prop} (kk : ∀ (h : zh) (xe : Int32) (l6 : Option zv), hG τ h → (∀ (j : Nat) (i : it4), l[j]? = some i → qdM h A (80 + 4 * j) (mI (rn1 x y) i)) → (∀ k9 j, (k9 ≠ A ∨ j < 80 ∨ 80 + 4 * l.length ≤ j) → hsl h k9 j = hsl h0 k9 j) → qX (d + 1) 206 135 [some (.inl (some A)), some (zi xx), some (zi xy), some (zi xt), some (zi xo), some (zi xe), l6] [] h t P) : ∀ (n : Nat) (h : zh) (k : Nat) (xk : Int32) (l6 : Option zv), (hG τ h) → (hsl h A 1 = some (zi xl)) → (∀ (j : Nat) (i : it4), j < k → l[j]? = some i → qdM h A (80 + 4 * j) (mI (rn1 x y) i)) → (∀ (j : Nat) (i : it4), k ≤ j → l[j]? = some i → qdM h A (80 + 4 * j) i) → (∀ k9 j, (k9 ≠ A ∨ j < 80 ∨ 80 + 4 * l.length ≤ j) → hsl h k9 j = hsl h0 k9 j) → (xk.toInt = (k : Int)) → (k ≤ l.length) → (l.length < k + n) → qX (d + 1) 206 80 [some (.inl (some A)), some (zi xx), some (zi xy), some (zi xt), some (zi xo), some (zi xk), l6] [] h t P := by
  intro n
  induction n with
  | zero =>
    intro h k xk l6 hg hl c1 c2 F0 hxk hk hn
    exfalso
    omega
  | succ n ih =>
    intro h k xk l6 hg hl c1 c2 F0 hxk hk hn
    skip
    refine y_same (i := .iload 5) (len := 2) (r := (0, 0, 0, 0)) (pc' := 82) (ls' := [some (.inl (some A)), some (zi xx), some (zi xy), some (zi xt), some (zi xo), some (zi xk), l6]) (st' := [zi xk]) (by decide +kernel) (fun k q => by cases q) rfl ?_
    refine y_same (i := .aload_n 0) (len := 1) (r := (0, 0, 0, 0)) (pc' := 83) (ls' := [some (.inl (some A)), some (zi xx), some (zi xy), some (zi xt), some (zi xo), some (zi xk), l6]) (st' := [.inl (some A), zi xk]) (by decide +kernel) (fun k q => by cases q) rfl ?_
    refine y_ic (c := 1) (len := 1) (r := (0, 0, 0, 0)) (by decide +kernel) (by decide) (fun y2244 hy2244 => ?_)
    refine y_ial (i := 1) (len := 1) (r := (0, 0, 0, 0)) (by decide +kernel) hg tA aT (by omega) hl ?_
    rcases Decidable.em (xk.toInt ≥ xl.toInt) with q2245 | q2245
    ·
      refine y_cT (c := .ge) (off := 50) (pc' := 135) (len := 3) (r := (0, 0, 0, 0)) (by decide +kernel) (acmpT (c := .ge) (by show _ ≤ _; omega)) (by decide +kernel) ?_
      exact kk h _ _ hg (fun j i hi => c1 j i (by have := (List.getElem?_eq_some_iff.mp hi).1; omega) hi) F0
    ·
      refine y_cF (c := .ge) (off := 50) (len := 3) (r := (0, 0, 0, 0)) (by decide +kernel) (acmpF (c := .ge) (by show _ < _; omega)) ?_
      obtain ⟨ik, kik⟩ : ∃ i9, l[k]? = some i9 := ⟨_, List.getElem?_eq_getElem (by omega)⟩
      have oik := ok ik (List.mem_of_getElem? kik)
      have pik := oik
      unfold okV at pik
      obtain ⟨xa, xb, xc, xd, ⟨ha, hb, hc, hd⟩, ea, eb, ec, ed⟩ := c2 k ik (Nat.le_refl _) kik
      refine y_ic (c := 1) (len := 1) (r := (0, 0, 0, 0)) (by decide +kernel) (by decide) (fun y2246 hy2246 => ?_)
      refine y_same (i := .istore 6) (len := 2) (r := (0, 0, 0, 0)) (pc' := 91) (ls' := [some (.inl (some A)), some (zi xx), some (zi xy), some (zi xt), some (zi xo), some (zi xk), some (zi y2246)]) (st' := []) (by decide +kernel) (fun k q => by cases q) rfl ?_
      refine y_same (i := .iload 6) (len := 2) (r := (0, 0, 0, 0)) (pc' := 93) (ls' := [some (.inl (some A)), some (zi xx), some (zi xy), some (zi xt), some (zi xo), some (zi xk), some (zi y2246)]) (st' := [zi y2246]) (by decide +kernel) (fun k q => by cases q) rfl ?_
      refine y_ic (c := 4) (len := 1) (r := (0, 0, 0, 0)) (by decide +kernel) (by decide) (fun y2247 hy2247 => ?_)
      refine y_cF (c := .ge) (off := 35) (len := 3) (r := (0, 0, 0, 0)) (by decide +kernel) (acmpF (c := .ge) (by show _ < _; omega)) ?_
      refine y_same (i := .aload_n 0) (len := 1) (r := (0, 0, 0, 0)) (pc' := 98) (ls' := [some (.inl (some A)), some (zi xx), some (zi xy), some (zi xt), some (zi xo), some (zi xk), some (zi y2246)]) (st' := [.inl (some A)]) (by decide +kernel) (fun k q => by cases q) rfl ?_
      refine y_same (i := .iload 5) (len := 2) (r := (0, 0, 0, 0)) (pc' := 100) (ls' := [some (.inl (some A)), some (zi xx), some (zi xy), some (zi xt), some (zi xo), some (zi xk), some (zi y2246)]) (st' := [zi xk, .inl (some A)]) (by decide +kernel) (fun k q => by cases q) rfl ?_
      refine y_cI (i := .invokestatic 256) (len := 3) (r := (1, 198, 12, 1651)) (nL := 1) (k := 1) (n := 1) (hs := []) (args := [zi xk]) (rest := [.inl (some A)]) (l0 := [some (zi xk)]) (by decide +kernel) (Or.inl ⟨_, rfl⟩) rfl rfl rfl rfl (Nat.le_of_ble_eq_true rfl) rfl rfl (qI_le (by omega) (e_rightAt (d := 0) (by omega) (by omega))) (fun y2248 qy2248 hRy2248 => ?_)
      obtain ⟨rfl, hy2248⟩ := hRy2248
      refine y_same (i := .iload 6) (len := 2) (r := (0, 0, 0, 0)) (pc' := 105) (ls' := [some (.inl (some A)), some (zi xx), some (zi xy), some (zi xt), some (zi xo), some (zi xk), some (zi y2246)]) (st' := [zi y2246, zi y2248, .inl (some A)]) (by decide +kernel) (fun k q => by cases q) rfl ?_
      refine y_add (len := 1) (r := (0, 0, 0, 0)) (by decide +kernel) (by omega) (by omega) (fun y2249 hy2249 => ?_)
      refine y_same (i := .aload_n 0) (len := 1) (r := (0, 0, 0, 0)) (pc' := 107) (ls' := [some (.inl (some A)), some (zi xx), some (zi xy), some (zi xt), some (zi xo), some (zi xk), some (zi y2246)]) (st' := [.inl (some A), zi y2249, .inl (some A)]) (by decide +kernel) (fun k q => by cases q) rfl ?_
      refine y_same (i := .iload 5) (len := 2) (r := (0, 0, 0, 0)) (pc' := 109) (ls' := [some (.inl (some A)), some (zi xx), some (zi xy), some (zi xt), some (zi xo), some (zi xk), some (zi y2246)]) (st' := [zi xk, .inl (some A), zi y2249, .inl (some A)]) (by decide +kernel) (fun k q => by cases q) rfl ?_
      refine y_cI (i := .invokestatic 256) (len := 3) (r := (1, 198, 12, 1651)) (nL := 1) (k := 1) (n := 1) (hs := []) (args := [zi xk]) (rest := [.inl (some A), zi y2249, .inl (some A)]) (l0 := [some (zi xk)]) (by decide +kernel) (Or.inl ⟨_, rfl⟩) rfl rfl rfl rfl (Nat.le_of_ble_eq_true rfl) rfl rfl (qI_le (by omega) (e_rightAt (d := 0) (by omega) (by omega))) (fun y2250 qy2250 hRy2250 => ?_)
      obtain ⟨rfl, hy2250⟩ := hRy2250
      refine y_same (i := .iload 6) (len := 2) (r := (0, 0, 0, 0)) (pc' := 114) (ls' := [some (.inl (some A)), some (zi xx), some (zi xy), some (zi xt), some (zi xo), some (zi xk), some (zi y2246)]) (st' := [zi y2246, zi y2250, .inl (some A), zi y2249, .inl (some A)]) (by decide +kernel) (fun k q => by cases q) rfl ?_
      refine y_add (len := 1) (r := (0, 0, 0, 0)) (by decide +kernel) (by omega) (by omega) (fun y2251 hy2251 => ?_)
      refine y_ial (i := ((80 + 4 * k) + 1)) (len := 1) (r := (0, 0, 0, 0)) (by decide +kernel) hg tA aT (by omega) hb ?_
      refine y_same (i := .iload 4) (len := 2) (r := (0, 0, 0, 0)) (pc' := 118) (ls' := [some (.inl (some A)), some (zi xx), some (zi xy), some (zi xt), some (zi xo), some (zi xk), some (zi y2246)]) (st' := [zi xo, zi xb, zi y2249, .inl (some A)]) (by decide +kernel) (fun k q => by cases q) rfl ?_
      refine y_same (i := .iload_n 3) (len := 1) (r := (0, 0, 0, 0)) (pc' := 119) (ls' := [some (.inl (some A)), some (zi xx), some (zi xy), some (zi xt), some (zi xo), some (zi xk), some (zi y2246)]) (st' := [zi xt, zi xo, zi xb, zi y2249, .inl (some A)]) (by decide +kernel) (fun k q => by cases q) rfl ?_
      refine y_cI (i := .invokestatic 252) (len := 3) (r := (1, 205, 12, 1663)) (nL := 3) (k := 1) (n := 3) (hs := []) (args := [zi xb, zi xo, zi xt]) (rest := [zi y2249, .inl (some A)]) (l0 := [some (zi xb), some (zi xo), some (zi xt)]) (by decide +kernel) (Or.inl ⟨_, rfl⟩) rfl rfl rfl rfl (Nat.le_of_ble_eq_true rfl) rfl rfl (qI_le (by omega) (e_becomes (d := 0))) (fun y2252 qy2252 hRy2252 => ?_)
      obtain ⟨rfl, hy2252⟩ := hRy2252
      refine y_ias (i := ((80 + 4 * k) + 1)) (len := 1) (r := (0, 0, 0, 0)) (by decide +kernel) hg tA aT pT (by omega) (by omega) (srC (by omega) (by omega)) (by omega) (by omega) (fun h2253 hg2253 hl2253 hs2253 ho2253 => ?_)
      refine y_inc (j := 6) (a := y2246) (c := 1) (ls' := fun v => [some (.inl (some A)), some (zi xx), some (zi xy), some (zi xt), some (zi xo), some (zi xk), some v]) (len := 3) (r := (0, 0, 0, 0)) (by decide +kernel) rfl (fun _ => rfl) (by decide) (by omega) (by omega) (fun y2254 hy2254 => ?_)
      show qX (d + 1) 206 126 [some (.inl (some A)), some (zi xx), some (zi xy), some (zi xt), some (zi xo), some (zi xk), some (zi y2254)] [] h2253 t _
      refine y_goto (off := (-35)) (pc' := 91) (len := 3) (r := (0, 0, 0, 0)) (by decide +kernel) (by decide +kernel) ?_
      refine y_same (i := .iload 6) (len := 2) (r := (0, 0, 0, 0)) (pc' := 93) (ls' := [some (.inl (some A)), some (zi xx), some (zi xy), some (zi xt), some (zi xo), some (zi xk), some (zi y2254)]) (st' := [zi y2254]) (by decide +kernel) (fun k q => by cases q) rfl ?_
      refine y_ic (c := 4) (len := 1) (r := (0, 0, 0, 0)) (by decide +kernel) (by decide) (fun y2255 hy2255 => ?_)
      refine y_cF (c := .ge) (off := 35) (len := 3) (r := (0, 0, 0, 0)) (by decide +kernel) (acmpF (c := .ge) (by show _ < _; omega)) ?_
      refine y_same (i := .aload_n 0) (len := 1) (r := (0, 0, 0, 0)) (pc' := 98) (ls' := [some (.inl (some A)), some (zi xx), some (zi xy), some (zi xt), some (zi xo), some (zi xk), some (zi y2254)]) (st' := [.inl (some A)]) (by decide +kernel) (fun k q => by cases q) rfl ?_
      refine y_same (i := .iload 5) (len := 2) (r := (0, 0, 0, 0)) (pc' := 100) (ls' := [some (.inl (some A)), some (zi xx), some (zi xy), some (zi xt), some (zi xo), some (zi xk), some (zi y2254)]) (st' := [zi xk, .inl (some A)]) (by decide +kernel) (fun k q => by cases q) rfl ?_
      refine y_cI (i := .invokestatic 256) (len := 3) (r := (1, 198, 12, 1651)) (nL := 1) (k := 1) (n := 1) (hs := []) (args := [zi xk]) (rest := [.inl (some A)]) (l0 := [some (zi xk)]) (by decide +kernel) (Or.inl ⟨_, rfl⟩) rfl rfl rfl rfl (Nat.le_of_ble_eq_true rfl) rfl rfl (qI_le (by omega) (e_rightAt (d := 0) (by omega) (by omega))) (fun y2256 qy2256 hRy2256 => ?_)
      obtain ⟨rfl, hy2256⟩ := hRy2256
      refine y_same (i := .iload 6) (len := 2) (r := (0, 0, 0, 0)) (pc' := 105) (ls' := [some (.inl (some A)), some (zi xx), some (zi xy), some (zi xt), some (zi xo), some (zi xk), some (zi y2254)]) (st' := [zi y2254, zi y2256, .inl (some A)]) (by decide +kernel) (fun k q => by cases q) rfl ?_
      refine y_add (len := 1) (r := (0, 0, 0, 0)) (by decide +kernel) (by omega) (by omega) (fun y2257 hy2257 => ?_)
      refine y_same (i := .aload_n 0) (len := 1) (r := (0, 0, 0, 0)) (pc' := 107) (ls' := [some (.inl (some A)), some (zi xx), some (zi xy), some (zi xt), some (zi xo), some (zi xk), some (zi y2254)]) (st' := [.inl (some A), zi y2257, .inl (some A)]) (by decide +kernel) (fun k q => by cases q) rfl ?_
      refine y_same (i := .iload 5) (len := 2) (r := (0, 0, 0, 0)) (pc' := 109) (ls' := [some (.inl (some A)), some (zi xx), some (zi xy), some (zi xt), some (zi xo), some (zi xk), some (zi y2254)]) (st' := [zi xk, .inl (some A), zi y2257, .inl (some A)]) (by decide +kernel) (fun k q => by cases q) rfl ?_
      refine y_cI (i := .invokestatic 256) (len := 3) (r := (1, 198, 12, 1651)) (nL := 1) (k := 1) (n := 1) (hs := []) (args := [zi xk]) (rest := [.inl (some A), zi y2257, .inl (some A)]) (l0 := [some (zi xk)]) (by decide +kernel) (Or.inl ⟨_, rfl⟩) rfl rfl rfl rfl (Nat.le_of_ble_eq_true rfl) rfl rfl (qI_le (by omega) (e_rightAt (d := 0) (by omega) (by omega))) (fun y2258 qy2258 hRy2258 => ?_)
      obtain ⟨rfl, hy2258⟩ := hRy2258
      refine y_same (i := .iload 6) (len := 2) (r := (0, 0, 0, 0)) (pc' := 114) (ls' := [some (.inl (some A)), some (zi xx), some (zi xy), some (zi xt), some (zi xo), some (zi xk), some (zi y2254)]) (st' := [zi y2254, zi y2258, .inl (some A), zi y2257, .inl (some A)]) (by decide +kernel) (fun k q => by cases q) rfl ?_
      refine y_add (len := 1) (r := (0, 0, 0, 0)) (by decide +kernel) (by omega) (by omega) (fun y2259 hy2259 => ?_)
      have hv2260 := (ho2253 A ((80 + 4 * k) + 2) (Or.inr (by omega))).trans hc
      refine y_ial (i := ((80 + 4 * k) + 2)) (len := 1) (r := (0, 0, 0, 0)) (by decide +kernel) hg2253 tA aT (by omega) hv2260 ?_
      refine y_same (i := .iload 4) (len := 2) (r := (0, 0, 0, 0)) (pc' := 118) (ls' := [some (.inl (some A)), some (zi xx), some (zi xy), some (zi xt), some (zi xo), some (zi xk), some (zi y2254)]) (st' := [zi xo, zi xc, zi y2257, .inl (some A)]) (by decide +kernel) (fun k q => by cases q) rfl ?_
      refine y_same (i := .iload_n 3) (len := 1) (r := (0, 0, 0, 0)) (pc' := 119) (ls' := [some (.inl (some A)), some (zi xx), some (zi xy), some (zi xt), some (zi xo), some (zi xk), some (zi y2254)]) (st' := [zi xt, zi xo, zi xc, zi y2257, .inl (some A)]) (by decide +kernel) (fun k q => by cases q) rfl ?_
      refine y_cI (i := .invokestatic 252) (len := 3) (r := (1, 205, 12, 1663)) (nL := 3) (k := 1) (n := 3) (hs := []) (args := [zi xc, zi xo, zi xt]) (rest := [zi y2257, .inl (some A)]) (l0 := [some (zi xc), some (zi xo), some (zi xt)]) (by decide +kernel) (Or.inl ⟨_, rfl⟩) rfl rfl rfl rfl (Nat.le_of_ble_eq_true rfl) rfl rfl (qI_le (by omega) (e_becomes (d := 0))) (fun y2261 qy2261 hRy2261 => ?_)
      obtain ⟨rfl, hy2261⟩ := hRy2261
      refine y_ias (i := ((80 + 4 * k) + 2)) (len := 1) (r := (0, 0, 0, 0)) (by decide +kernel) hg2253 tA aT pT (by omega) (by omega) (srC (by omega) (by omega)) (by omega) (by omega) (fun h2262 hg2262 hl2262 hs2262 ho2262 => ?_)
      refine y_inc (j := 6) (a := y2254) (c := 1) (ls' := fun v => [some (.inl (some A)), some (zi xx), some (zi xy), some (zi xt), some (zi xo), some (zi xk), some v]) (len := 3) (r := (0, 0, 0, 0)) (by decide +kernel) rfl (fun _ => rfl) (by decide) (by omega) (by omega) (fun y2263 hy2263 => ?_)
      show qX (d + 1) 206 126 [some (.inl (some A)), some (zi xx), some (zi xy), some (zi xt), some (zi xo), some (zi xk), some (zi y2263)] [] h2262 t _
      refine y_goto (off := (-35)) (pc' := 91) (len := 3) (r := (0, 0, 0, 0)) (by decide +kernel) (by decide +kernel) ?_
      refine y_same (i := .iload 6) (len := 2) (r := (0, 0, 0, 0)) (pc' := 93) (ls' := [some (.inl (some A)), some (zi xx), some (zi xy), some (zi xt), some (zi xo), some (zi xk), some (zi y2263)]) (st' := [zi y2263]) (by decide +kernel) (fun k q => by cases q) rfl ?_
      refine y_ic (c := 4) (len := 1) (r := (0, 0, 0, 0)) (by decide +kernel) (by decide) (fun y2264 hy2264 => ?_)
      refine y_cF (c := .ge) (off := 35) (len := 3) (r := (0, 0, 0, 0)) (by decide +kernel) (acmpF (c := .ge) (by show _ < _; omega)) ?_
      refine y_same (i := .aload_n 0) (len := 1) (r := (0, 0, 0, 0)) (pc' := 98) (ls' := [some (.inl (some A)), some (zi xx), some (zi xy), some (zi xt), some (zi xo), some (zi xk), some (zi y2263)]) (st' := [.inl (some A)]) (by decide +kernel) (fun k q => by cases q) rfl ?_
      refine y_same (i := .iload 5) (len := 2) (r := (0, 0, 0, 0)) (pc' := 100) (ls' := [some (.inl (some A)), some (zi xx), some (zi xy), some (zi xt), some (zi xo), some (zi xk), some (zi y2263)]) (st' := [zi xk, .inl (some A)]) (by decide +kernel) (fun k q => by cases q) rfl ?_
      refine y_cI (i := .invokestatic 256) (len := 3) (r := (1, 198, 12, 1651)) (nL := 1) (k := 1) (n := 1) (hs := []) (args := [zi xk]) (rest := [.inl (some A)]) (l0 := [some (zi xk)]) (by decide +kernel) (Or.inl ⟨_, rfl⟩) rfl rfl rfl rfl (Nat.le_of_ble_eq_true rfl) rfl rfl (qI_le (by omega) (e_rightAt (d := 0) (by omega) (by omega))) (fun y2265 qy2265 hRy2265 => ?_)
      obtain ⟨rfl, hy2265⟩ := hRy2265
      refine y_same (i := .iload 6) (len := 2) (r := (0, 0, 0, 0)) (pc' := 105) (ls' := [some (.inl (some A)), some (zi xx), some (zi xy), some (zi xt), some (zi xo), some (zi xk), some (zi y2263)]) (st' := [zi y2263, zi y2265, .inl (some A)]) (by decide +kernel) (fun k q => by cases q) rfl ?_
      refine y_add (len := 1) (r := (0, 0, 0, 0)) (by decide +kernel) (by omega) (by omega) (fun y2266 hy2266 => ?_)
      refine y_same (i := .aload_n 0) (len := 1) (r := (0, 0, 0, 0)) (pc' := 107) (ls' := [some (.inl (some A)), some (zi xx), some (zi xy), some (zi xt), some (zi xo), some (zi xk), some (zi y2263)]) (st' := [.inl (some A), zi y2266, .inl (some A)]) (by decide +kernel) (fun k q => by cases q) rfl ?_
      refine y_same (i := .iload 5) (len := 2) (r := (0, 0, 0, 0)) (pc' := 109) (ls' := [some (.inl (some A)), some (zi xx), some (zi xy), some (zi xt), some (zi xo), some (zi xk), some (zi y2263)]) (st' := [zi xk, .inl (some A), zi y2266, .inl (some A)]) (by decide +kernel) (fun k q => by cases q) rfl ?_
      refine y_cI (i := .invokestatic 256) (len := 3) (r := (1, 198, 12, 1651)) (nL := 1) (k := 1) (n := 1) (hs := []) (args := [zi xk]) (rest := [.inl (some A), zi y2266, .inl (some A)]) (l0 := [some (zi xk)]) (by decide +kernel) (Or.inl ⟨_, rfl⟩) rfl rfl rfl rfl (Nat.le_of_ble_eq_true rfl) rfl rfl (qI_le (by omega) (e_rightAt (d := 0) (by omega) (by omega))) (fun y2267 qy2267 hRy2267 => ?_)
      obtain ⟨rfl, hy2267⟩ := hRy2267
      refine y_same (i := .iload 6) (len := 2) (r := (0, 0, 0, 0)) (pc' := 114) (ls' := [some (.inl (some A)), some (zi xx), some (zi xy), some (zi xt), some (zi xo), some (zi xk), some (zi y2263)]) (st' := [zi y2263, zi y2267, .inl (some A), zi y2266, .inl (some A)]) (by decide +kernel) (fun k q => by cases q) rfl ?_
      refine y_add (len := 1) (r := (0, 0, 0, 0)) (by decide +kernel) (by omega) (by omega) (fun y2268 hy2268 => ?_)
      have hv2269 := (ho2253 A ((80 + 4 * k) + 3) (Or.inr (by omega))).trans hd
      have hv2270 := (ho2262 A ((80 + 4 * k) + 3) (Or.inr (by omega))).trans hv2269
      refine y_ial (i := ((80 + 4 * k) + 3)) (len := 1) (r := (0, 0, 0, 0)) (by decide +kernel) hg2262 tA aT (by omega) hv2270 ?_
      refine y_same (i := .iload 4) (len := 2) (r := (0, 0, 0, 0)) (pc' := 118) (ls' := [some (.inl (some A)), some (zi xx), some (zi xy), some (zi xt), some (zi xo), some (zi xk), some (zi y2263)]) (st' := [zi xo, zi xd, zi y2266, .inl (some A)]) (by decide +kernel) (fun k q => by cases q) rfl ?_
      refine y_same (i := .iload_n 3) (len := 1) (r := (0, 0, 0, 0)) (pc' := 119) (ls' := [some (.inl (some A)), some (zi xx), some (zi xy), some (zi xt), some (zi xo), some (zi xk), some (zi y2263)]) (st' := [zi xt, zi xo, zi xd, zi y2266, .inl (some A)]) (by decide +kernel) (fun k q => by cases q) rfl ?_
      refine y_cI (i := .invokestatic 252) (len := 3) (r := (1, 205, 12, 1663)) (nL := 3) (k := 1) (n := 3) (hs := []) (args := [zi xd, zi xo, zi xt]) (rest := [zi y2266, .inl (some A)]) (l0 := [some (zi xd), some (zi xo), some (zi xt)]) (by decide +kernel) (Or.inl ⟨_, rfl⟩) rfl rfl rfl rfl (Nat.le_of_ble_eq_true rfl) rfl rfl (qI_le (by omega) (e_becomes (d := 0))) (fun y2271 qy2271 hRy2271 => ?_)
      obtain ⟨rfl, hy2271⟩ := hRy2271
      refine y_ias (i := ((80 + 4 * k) + 3)) (len := 1) (r := (0, 0, 0, 0)) (by decide +kernel) hg2262 tA aT pT (by omega) (by omega) (srC (by omega) (by omega)) (by omega) (by omega) (fun h2272 hg2272 hl2272 hs2272 ho2272 => ?_)
      refine y_inc (j := 6) (a := y2263) (c := 1) (ls' := fun v => [some (.inl (some A)), some (zi xx), some (zi xy), some (zi xt), some (zi xo), some (zi xk), some v]) (len := 3) (r := (0, 0, 0, 0)) (by decide +kernel) rfl (fun _ => rfl) (by decide) (by omega) (by omega) (fun y2273 hy2273 => ?_)
      show qX (d + 1) 206 126 [some (.inl (some A)), some (zi xx), some (zi xy), some (zi xt), some (zi xo), some (zi xk), some (zi y2273)] [] h2272 t _
      refine y_goto (off := (-35)) (pc' := 91) (len := 3) (r := (0, 0, 0, 0)) (by decide +kernel) (by decide +kernel) ?_
      refine y_same (i := .iload 6) (len := 2) (r := (0, 0, 0, 0)) (pc' := 93) (ls' := [some (.inl (some A)), some (zi xx), some (zi xy), some (zi xt), some (zi xo), some (zi xk), some (zi y2273)]) (st' := [zi y2273]) (by decide +kernel) (fun k q => by cases q) rfl ?_
      refine y_ic (c := 4) (len := 1) (r := (0, 0, 0, 0)) (by decide +kernel) (by decide) (fun y2274 hy2274 => ?_)
      refine y_cT (c := .ge) (off := 35) (pc' := 129) (len := 3) (r := (0, 0, 0, 0)) (by decide +kernel) (acmpT (c := .ge) (by show _ ≤ _; omega)) (by decide +kernel) ?_
      refine y_inc (j := 5) (a := xk) (c := 1) (ls' := fun v => [some (.inl (some A)), some (zi xx), some (zi xy), some (zi xt), some (zi xo), some v, some (zi y2273)]) (len := 3) (r := (0, 0, 0, 0)) (by decide +kernel) rfl (fun _ => rfl) (by decide) (by omega) (by omega) (fun y2275 hy2275 => ?_)
      show qX (d + 1) 206 132 [some (.inl (some A)), some (zi xx), some (zi xy), some (zi xt), some (zi xo), some (zi y2275), some (zi y2273)] [] h2272 t _
      refine y_goto (off := (-52)) (pc' := 80) (len := 3) (r := (0, 0, 0, 0)) (by decide +kernel) (by decide +kernel) ?_
      have hv2276 := (ho2253 A (80 + 4 * k) (Or.inr (by omega))).trans ha
      have hv2277 := (ho2262 A (80 + 4 * k) (Or.inr (by omega))).trans hv2276
      have hv2278 := (ho2272 A (80 + 4 * k) (Or.inr (by omega))).trans hv2277
      have hv2279 := (ho2262 A ((80 + 4 * k) + 1) (Or.inr (by omega))).trans hs2253
      have hv2280 := (ho2272 A ((80 + 4 * k) + 1) (Or.inr (by omega))).trans hv2279
      have hv2281 := (ho2272 A ((80 + 4 * k) + 2) (Or.inr (by omega))).trans hs2262
      have qd : qdM h2272 A (80 + 4 * k) (mI (rn1 x y) ik) := ⟨xa, y2252, y2261, y2271, ⟨hv2278, hv2280, hv2281, hs2272⟩, ea, by show _ = rn1 x y ik.2.1; unfold rn1; split <;> omega, by show _ = rn1 x y ik.2.2.1; unfold rn1; split <;> omega, by show _ = rn1 x y ik.2.2.2; unfold rn1; split <;> omega⟩
      have c1n : ∀ (j : Nat) (i : it4), j < k + 1 → l[j]? = some i → qdM h2272 A (80 + 4 * j) (mI (rn1 x y) i) := fun j i hj hi => by
        rcases Nat.lt_or_ge j k with q9 | q9
        · exact qdM_up (c1 j i q9 hi) (fun w hw => ((ho2272 A (80 + 4 * j + w) (by omega)).trans ((ho2262 A (80 + 4 * j + w) (by omega)).trans (ho2253 A (80 + 4 * j + w) (by omega)))))
        · obtain rfl : j = k := by omega
          cases kik.symm.trans hi
          exact qd
      exact ih h2272 (k + 1) y2275 (some (zi y2273)) hg2272 (((ho2272 A 1 (by omega)).trans ((ho2262 A 1 (by omega)).trans (ho2253 A 1 (by omega)))).trans hl) c1n (fun j i hj hi => qdM_up (c2 j i (by omega) hi) (fun w hw => ((ho2272 A (80 + 4 * j + w) (by omega)).trans ((ho2262 A (80 + 4 * j + w) (by omega)).trans (ho2253 A (80 + 4 * j + w) (by omega)))))) (fun k9 j hC => (((ho2272 k9 j (by omega)).trans ((ho2262 k9 j (by omega)).trans (ho2253 k9 j (by omega))))).trans (F0 k9 j hC)) (by omega) (by omega) (by omega)
theorem mkm_C {d t A : Nat} {τ : List Nat} {h0 : zh} {l : List it4} {xl : Int32} {T : Nat} {c0 : Int} (tA : τ[A]? = some T) (aT : atyp T = some (.inl (0, 200, wRs c0))) (hc0 : 12 ≤ c0 ∧ c0 ≤ 14) (pT : aprot T = false) {x y : Int} {xx xy xt xo : Int32} (hx : 0 ≤ x ∧ x ≤ 20) (hy : 0 ≤ y ∧ y ≤ 20) (ne : x ≠ y) (ext : xt.toInt = min x y) (exo : xo.toInt = max x y) (el : xl.toInt = (l.length : Int)) (l14 : l.length ≤ 14) (ok : ∀ p ∈ l, okV p) (zk : ∀ p ∈ l, p.2.2.2 = 0) {P : zo × zh × Nat → Prop} (kk : ∀ (h : zh) (xe : Int32) (l6 : Option zv), hG τ h → (∀ (j : Nat) (i : it4), l[j]? = some i → qdM h A (136 + 4 * j) (mI (rn1 x y) i)) → (∀ k9 j, (k9 ≠ A ∨ j < 136 ∨ 136 + 4 * l.length ≤ j) → hsl h k9 j = hsl h0 k9 j) → qX (d + 1) 206 193 [some (.inl (some A)), some (zi xx), some (zi xy), some (zi xt), some (zi xo), some (zi xe), l6] [] h t P) : ∀ (n : Nat) (h : zh) (k : Nat) (xk : Int32) (l6 : Option zv), (hG τ h) → (hsl h A 2 = some (zi xl)) → (∀ (j : Nat) (i : it4), j < k → l[j]? = some i → qdM h A (136 + 4 * j) (mI (rn1 x y) i)) → (∀ (j : Nat) (i : it4), k ≤ j → l[j]? = some i → qdM h A (136 + 4 * j) i) → (∀ k9 j, (k9 ≠ A ∨ j < 136 ∨ 136 + 4 * l.length ≤ j) → hsl h k9 j = hsl h0 k9 j) → (xk.toInt = (k : Int)) → (k ≤ l.length) → (l.length < k + n) → qX (d + 1) 206 138 [some (.inl (some A)), some (zi xx), some (zi xy), some (zi xt), some (zi xo), some (zi xk), l6] [] h t P := by
  intro n
  induction n with
  | zero =>
    intro h k xk l6 hg hl c1 c2 F0 hxk hk hn
    exfalso
    omega
  | succ n ih =>
    intro h k xk l6 hg hl c1 c2 F0 hxk hk hn
    skip
    refine y_same (i := .iload 5) (len := 2) (r := (0, 0, 0, 0)) (pc' := 140) (ls' := [some (.inl (some A)), some (zi xx), some (zi xy), some (zi xt), some (zi xo), some (zi xk), l6]) (st' := [zi xk]) (by decide +kernel) (fun k q => by cases q) rfl ?_
    refine y_same (i := .aload_n 0) (len := 1) (r := (0, 0, 0, 0)) (pc' := 141) (ls' := [some (.inl (some A)), some (zi xx), some (zi xy), some (zi xt), some (zi xo), some (zi xk), l6]) (st' := [.inl (some A), zi xk]) (by decide +kernel) (fun k q => by cases q) rfl ?_
    refine y_ic (c := 2) (len := 1) (r := (0, 0, 0, 0)) (by decide +kernel) (by decide) (fun y2282 hy2282 => ?_)
    refine y_ial (i := 2) (len := 1) (r := (0, 0, 0, 0)) (by decide +kernel) hg tA aT (by omega) hl ?_
    rcases Decidable.em (xk.toInt ≥ xl.toInt) with q2283 | q2283
    ·
      refine y_cT (c := .ge) (off := 50) (pc' := 193) (len := 3) (r := (0, 0, 0, 0)) (by decide +kernel) (acmpT (c := .ge) (by show _ ≤ _; omega)) (by decide +kernel) ?_
      exact kk h _ _ hg (fun j i hi => c1 j i (by have := (List.getElem?_eq_some_iff.mp hi).1; omega) hi) F0
    ·
      refine y_cF (c := .ge) (off := 50) (len := 3) (r := (0, 0, 0, 0)) (by decide +kernel) (acmpF (c := .ge) (by show _ < _; omega)) ?_
      obtain ⟨ik, kik⟩ : ∃ i9, l[k]? = some i9 := ⟨_, List.getElem?_eq_getElem (by omega)⟩
      have oik := ok ik (List.mem_of_getElem? kik)
      have pik := oik
      unfold okV at pik
      obtain ⟨xa, xb, xc, xd, ⟨ha, hb, hc, hd⟩, ea, eb, ec, ed⟩ := c2 k ik (Nat.le_refl _) kik
      refine y_ic (c := 1) (len := 1) (r := (0, 0, 0, 0)) (by decide +kernel) (by decide) (fun y2284 hy2284 => ?_)
      refine y_same (i := .istore 6) (len := 2) (r := (0, 0, 0, 0)) (pc' := 149) (ls' := [some (.inl (some A)), some (zi xx), some (zi xy), some (zi xt), some (zi xo), some (zi xk), some (zi y2284)]) (st' := []) (by decide +kernel) (fun k q => by cases q) rfl ?_
      refine y_same (i := .iload 6) (len := 2) (r := (0, 0, 0, 0)) (pc' := 151) (ls' := [some (.inl (some A)), some (zi xx), some (zi xy), some (zi xt), some (zi xo), some (zi xk), some (zi y2284)]) (st' := [zi y2284]) (by decide +kernel) (fun k q => by cases q) rfl ?_
      refine y_ic (c := 3) (len := 1) (r := (0, 0, 0, 0)) (by decide +kernel) (by decide) (fun y2285 hy2285 => ?_)
      refine y_cF (c := .ge) (off := 35) (len := 3) (r := (0, 0, 0, 0)) (by decide +kernel) (acmpF (c := .ge) (by show _ < _; omega)) ?_
      refine y_same (i := .aload_n 0) (len := 1) (r := (0, 0, 0, 0)) (pc' := 156) (ls' := [some (.inl (some A)), some (zi xx), some (zi xy), some (zi xt), some (zi xo), some (zi xk), some (zi y2284)]) (st' := [.inl (some A)]) (by decide +kernel) (fun k q => by cases q) rfl ?_
      refine y_same (i := .iload 5) (len := 2) (r := (0, 0, 0, 0)) (pc' := 158) (ls' := [some (.inl (some A)), some (zi xx), some (zi xy), some (zi xt), some (zi xo), some (zi xk), some (zi y2284)]) (st' := [zi xk, .inl (some A)]) (by decide +kernel) (fun k q => by cases q) rfl ?_
      refine y_cI (i := .invokestatic 259) (len := 3) (r := (1, 199, 12, 1654)) (nL := 1) (k := 1) (n := 1) (hs := []) (args := [zi xk]) (rest := [.inl (some A)]) (l0 := [some (zi xk)]) (by decide +kernel) (Or.inl ⟨_, rfl⟩) rfl rfl rfl rfl (Nat.le_of_ble_eq_true rfl) rfl rfl (qI_le (by omega) (e_claimIn (d := 0) (by omega) (by omega))) (fun y2286 qy2286 hRy2286 => ?_)
      obtain ⟨rfl, hy2286⟩ := hRy2286
      refine y_same (i := .iload 6) (len := 2) (r := (0, 0, 0, 0)) (pc' := 163) (ls' := [some (.inl (some A)), some (zi xx), some (zi xy), some (zi xt), some (zi xo), some (zi xk), some (zi y2284)]) (st' := [zi y2284, zi y2286, .inl (some A)]) (by decide +kernel) (fun k q => by cases q) rfl ?_
      refine y_add (len := 1) (r := (0, 0, 0, 0)) (by decide +kernel) (by omega) (by omega) (fun y2287 hy2287 => ?_)
      refine y_same (i := .aload_n 0) (len := 1) (r := (0, 0, 0, 0)) (pc' := 165) (ls' := [some (.inl (some A)), some (zi xx), some (zi xy), some (zi xt), some (zi xo), some (zi xk), some (zi y2284)]) (st' := [.inl (some A), zi y2287, .inl (some A)]) (by decide +kernel) (fun k q => by cases q) rfl ?_
      refine y_same (i := .iload 5) (len := 2) (r := (0, 0, 0, 0)) (pc' := 167) (ls' := [some (.inl (some A)), some (zi xx), some (zi xy), some (zi xt), some (zi xo), some (zi xk), some (zi y2284)]) (st' := [zi xk, .inl (some A), zi y2287, .inl (some A)]) (by decide +kernel) (fun k q => by cases q) rfl ?_
      refine y_cI (i := .invokestatic 259) (len := 3) (r := (1, 199, 12, 1654)) (nL := 1) (k := 1) (n := 1) (hs := []) (args := [zi xk]) (rest := [.inl (some A), zi y2287, .inl (some A)]) (l0 := [some (zi xk)]) (by decide +kernel) (Or.inl ⟨_, rfl⟩) rfl rfl rfl rfl (Nat.le_of_ble_eq_true rfl) rfl rfl (qI_le (by omega) (e_claimIn (d := 0) (by omega) (by omega))) (fun y2288 qy2288 hRy2288 => ?_)
      obtain ⟨rfl, hy2288⟩ := hRy2288
      refine y_same (i := .iload 6) (len := 2) (r := (0, 0, 0, 0)) (pc' := 172) (ls' := [some (.inl (some A)), some (zi xx), some (zi xy), some (zi xt), some (zi xo), some (zi xk), some (zi y2284)]) (st' := [zi y2284, zi y2288, .inl (some A), zi y2287, .inl (some A)]) (by decide +kernel) (fun k q => by cases q) rfl ?_
      refine y_add (len := 1) (r := (0, 0, 0, 0)) (by decide +kernel) (by omega) (by omega) (fun y2289 hy2289 => ?_)
      refine y_ial (i := ((136 + 4 * k) + 1)) (len := 1) (r := (0, 0, 0, 0)) (by decide +kernel) hg tA aT (by omega) hb ?_
      refine y_same (i := .iload 4) (len := 2) (r := (0, 0, 0, 0)) (pc' := 176) (ls' := [some (.inl (some A)), some (zi xx), some (zi xy), some (zi xt), some (zi xo), some (zi xk), some (zi y2284)]) (st' := [zi xo, zi xb, zi y2287, .inl (some A)]) (by decide +kernel) (fun k q => by cases q) rfl ?_
      refine y_same (i := .iload_n 3) (len := 1) (r := (0, 0, 0, 0)) (pc' := 177) (ls' := [some (.inl (some A)), some (zi xx), some (zi xy), some (zi xt), some (zi xo), some (zi xk), some (zi y2284)]) (st' := [zi xt, zi xo, zi xb, zi y2287, .inl (some A)]) (by decide +kernel) (fun k q => by cases q) rfl ?_
      refine y_cI (i := .invokestatic 252) (len := 3) (r := (1, 205, 12, 1663)) (nL := 3) (k := 1) (n := 3) (hs := []) (args := [zi xb, zi xo, zi xt]) (rest := [zi y2287, .inl (some A)]) (l0 := [some (zi xb), some (zi xo), some (zi xt)]) (by decide +kernel) (Or.inl ⟨_, rfl⟩) rfl rfl rfl rfl (Nat.le_of_ble_eq_true rfl) rfl rfl (qI_le (by omega) (e_becomes (d := 0))) (fun y2290 qy2290 hRy2290 => ?_)
      obtain ⟨rfl, hy2290⟩ := hRy2290
      refine y_ias (i := ((136 + 4 * k) + 1)) (len := 1) (r := (0, 0, 0, 0)) (by decide +kernel) hg tA aT pT (by omega) (by omega) (srC (by omega) (by omega)) (by omega) (by omega) (fun h2291 hg2291 hl2291 hs2291 ho2291 => ?_)
      refine y_inc (j := 6) (a := y2284) (c := 1) (ls' := fun v => [some (.inl (some A)), some (zi xx), some (zi xy), some (zi xt), some (zi xo), some (zi xk), some v]) (len := 3) (r := (0, 0, 0, 0)) (by decide +kernel) rfl (fun _ => rfl) (by decide) (by omega) (by omega) (fun y2292 hy2292 => ?_)
      show qX (d + 1) 206 184 [some (.inl (some A)), some (zi xx), some (zi xy), some (zi xt), some (zi xo), some (zi xk), some (zi y2292)] [] h2291 t _
      refine y_goto (off := (-35)) (pc' := 149) (len := 3) (r := (0, 0, 0, 0)) (by decide +kernel) (by decide +kernel) ?_
      refine y_same (i := .iload 6) (len := 2) (r := (0, 0, 0, 0)) (pc' := 151) (ls' := [some (.inl (some A)), some (zi xx), some (zi xy), some (zi xt), some (zi xo), some (zi xk), some (zi y2292)]) (st' := [zi y2292]) (by decide +kernel) (fun k q => by cases q) rfl ?_
      refine y_ic (c := 3) (len := 1) (r := (0, 0, 0, 0)) (by decide +kernel) (by decide) (fun y2293 hy2293 => ?_)
      refine y_cF (c := .ge) (off := 35) (len := 3) (r := (0, 0, 0, 0)) (by decide +kernel) (acmpF (c := .ge) (by show _ < _; omega)) ?_
      refine y_same (i := .aload_n 0) (len := 1) (r := (0, 0, 0, 0)) (pc' := 156) (ls' := [some (.inl (some A)), some (zi xx), some (zi xy), some (zi xt), some (zi xo), some (zi xk), some (zi y2292)]) (st' := [.inl (some A)]) (by decide +kernel) (fun k q => by cases q) rfl ?_
      refine y_same (i := .iload 5) (len := 2) (r := (0, 0, 0, 0)) (pc' := 158) (ls' := [some (.inl (some A)), some (zi xx), some (zi xy), some (zi xt), some (zi xo), some (zi xk), some (zi y2292)]) (st' := [zi xk, .inl (some A)]) (by decide +kernel) (fun k q => by cases q) rfl ?_
      refine y_cI (i := .invokestatic 259) (len := 3) (r := (1, 199, 12, 1654)) (nL := 1) (k := 1) (n := 1) (hs := []) (args := [zi xk]) (rest := [.inl (some A)]) (l0 := [some (zi xk)]) (by decide +kernel) (Or.inl ⟨_, rfl⟩) rfl rfl rfl rfl (Nat.le_of_ble_eq_true rfl) rfl rfl (qI_le (by omega) (e_claimIn (d := 0) (by omega) (by omega))) (fun y2294 qy2294 hRy2294 => ?_)
      obtain ⟨rfl, hy2294⟩ := hRy2294
      refine y_same (i := .iload 6) (len := 2) (r := (0, 0, 0, 0)) (pc' := 163) (ls' := [some (.inl (some A)), some (zi xx), some (zi xy), some (zi xt), some (zi xo), some (zi xk), some (zi y2292)]) (st' := [zi y2292, zi y2294, .inl (some A)]) (by decide +kernel) (fun k q => by cases q) rfl ?_
      refine y_add (len := 1) (r := (0, 0, 0, 0)) (by decide +kernel) (by omega) (by omega) (fun y2295 hy2295 => ?_)
      refine y_same (i := .aload_n 0) (len := 1) (r := (0, 0, 0, 0)) (pc' := 165) (ls' := [some (.inl (some A)), some (zi xx), some (zi xy), some (zi xt), some (zi xo), some (zi xk), some (zi y2292)]) (st' := [.inl (some A), zi y2295, .inl (some A)]) (by decide +kernel) (fun k q => by cases q) rfl ?_
      refine y_same (i := .iload 5) (len := 2) (r := (0, 0, 0, 0)) (pc' := 167) (ls' := [some (.inl (some A)), some (zi xx), some (zi xy), some (zi xt), some (zi xo), some (zi xk), some (zi y2292)]) (st' := [zi xk, .inl (some A), zi y2295, .inl (some A)]) (by decide +kernel) (fun k q => by cases q) rfl ?_
      refine y_cI (i := .invokestatic 259) (len := 3) (r := (1, 199, 12, 1654)) (nL := 1) (k := 1) (n := 1) (hs := []) (args := [zi xk]) (rest := [.inl (some A), zi y2295, .inl (some A)]) (l0 := [some (zi xk)]) (by decide +kernel) (Or.inl ⟨_, rfl⟩) rfl rfl rfl rfl (Nat.le_of_ble_eq_true rfl) rfl rfl (qI_le (by omega) (e_claimIn (d := 0) (by omega) (by omega))) (fun y2296 qy2296 hRy2296 => ?_)
      obtain ⟨rfl, hy2296⟩ := hRy2296
      refine y_same (i := .iload 6) (len := 2) (r := (0, 0, 0, 0)) (pc' := 172) (ls' := [some (.inl (some A)), some (zi xx), some (zi xy), some (zi xt), some (zi xo), some (zi xk), some (zi y2292)]) (st' := [zi y2292, zi y2296, .inl (some A), zi y2295, .inl (some A)]) (by decide +kernel) (fun k q => by cases q) rfl ?_
      refine y_add (len := 1) (r := (0, 0, 0, 0)) (by decide +kernel) (by omega) (by omega) (fun y2297 hy2297 => ?_)
      have hv2298 := (ho2291 A ((136 + 4 * k) + 2) (Or.inr (by omega))).trans hc
      refine y_ial (i := ((136 + 4 * k) + 2)) (len := 1) (r := (0, 0, 0, 0)) (by decide +kernel) hg2291 tA aT (by omega) hv2298 ?_
      refine y_same (i := .iload 4) (len := 2) (r := (0, 0, 0, 0)) (pc' := 176) (ls' := [some (.inl (some A)), some (zi xx), some (zi xy), some (zi xt), some (zi xo), some (zi xk), some (zi y2292)]) (st' := [zi xo, zi xc, zi y2295, .inl (some A)]) (by decide +kernel) (fun k q => by cases q) rfl ?_
      refine y_same (i := .iload_n 3) (len := 1) (r := (0, 0, 0, 0)) (pc' := 177) (ls' := [some (.inl (some A)), some (zi xx), some (zi xy), some (zi xt), some (zi xo), some (zi xk), some (zi y2292)]) (st' := [zi xt, zi xo, zi xc, zi y2295, .inl (some A)]) (by decide +kernel) (fun k q => by cases q) rfl ?_
      refine y_cI (i := .invokestatic 252) (len := 3) (r := (1, 205, 12, 1663)) (nL := 3) (k := 1) (n := 3) (hs := []) (args := [zi xc, zi xo, zi xt]) (rest := [zi y2295, .inl (some A)]) (l0 := [some (zi xc), some (zi xo), some (zi xt)]) (by decide +kernel) (Or.inl ⟨_, rfl⟩) rfl rfl rfl rfl (Nat.le_of_ble_eq_true rfl) rfl rfl (qI_le (by omega) (e_becomes (d := 0))) (fun y2299 qy2299 hRy2299 => ?_)
      obtain ⟨rfl, hy2299⟩ := hRy2299
      refine y_ias (i := ((136 + 4 * k) + 2)) (len := 1) (r := (0, 0, 0, 0)) (by decide +kernel) hg2291 tA aT pT (by omega) (by omega) (srC (by omega) (by omega)) (by omega) (by omega) (fun h2300 hg2300 hl2300 hs2300 ho2300 => ?_)
      refine y_inc (j := 6) (a := y2292) (c := 1) (ls' := fun v => [some (.inl (some A)), some (zi xx), some (zi xy), some (zi xt), some (zi xo), some (zi xk), some v]) (len := 3) (r := (0, 0, 0, 0)) (by decide +kernel) rfl (fun _ => rfl) (by decide) (by omega) (by omega) (fun y2301 hy2301 => ?_)
      show qX (d + 1) 206 184 [some (.inl (some A)), some (zi xx), some (zi xy), some (zi xt), some (zi xo), some (zi xk), some (zi y2301)] [] h2300 t _
      refine y_goto (off := (-35)) (pc' := 149) (len := 3) (r := (0, 0, 0, 0)) (by decide +kernel) (by decide +kernel) ?_
      refine y_same (i := .iload 6) (len := 2) (r := (0, 0, 0, 0)) (pc' := 151) (ls' := [some (.inl (some A)), some (zi xx), some (zi xy), some (zi xt), some (zi xo), some (zi xk), some (zi y2301)]) (st' := [zi y2301]) (by decide +kernel) (fun k q => by cases q) rfl ?_
      refine y_ic (c := 3) (len := 1) (r := (0, 0, 0, 0)) (by decide +kernel) (by decide) (fun y2302 hy2302 => ?_)
      refine y_cT (c := .ge) (off := 35) (pc' := 187) (len := 3) (r := (0, 0, 0, 0)) (by decide +kernel) (acmpT (c := .ge) (by show _ ≤ _; omega)) (by decide +kernel) ?_
      refine y_inc (j := 5) (a := xk) (c := 1) (ls' := fun v => [some (.inl (some A)), some (zi xx), some (zi xy), some (zi xt), some (zi xo), some v, some (zi y2301)]) (len := 3) (r := (0, 0, 0, 0)) (by decide +kernel) rfl (fun _ => rfl) (by decide) (by omega) (by omega) (fun y2303 hy2303 => ?_)
      show qX (d + 1) 206 190 [some (.inl (some A)), some (zi xx), some (zi xy), some (zi xt), some (zi xo), some (zi y2303), some (zi y2301)] [] h2300 t _
      refine y_goto (off := (-52)) (pc' := 138) (len := 3) (r := (0, 0, 0, 0)) (by decide +kernel) (by decide +kernel) ?_
      have hv2304 := (ho2291 A (136 + 4 * k) (Or.inr (by omega))).trans ha
      have hv2305 := (ho2300 A (136 + 4 * k) (Or.inr (by omega))).trans hv2304
      have hv2306 := (ho2300 A ((136 + 4 * k) + 1) (Or.inr (by omega))).trans hs2291
      have hv2307 := (ho2291 A ((136 + 4 * k) + 3) (Or.inr (by omega))).trans hd
      have hv2308 := (ho2300 A ((136 + 4 * k) + 3) (Or.inr (by omega))).trans hv2307
      have qd : qdM h2300 A (136 + 4 * k) (mI (rn1 x y) ik) := ⟨xa, y2290, y2299, xd, ⟨hv2305, hv2306, hs2300, hv2308⟩, ea, by show _ = rn1 x y ik.2.1; unfold rn1; split <;> omega, by show _ = rn1 x y ik.2.2.1; unfold rn1; split <;> omega, by show _ = rn1 x y ik.2.2.2; have := zk ik (List.mem_of_getElem? kik); unfold rn1; split <;> omega⟩
      have c1n : ∀ (j : Nat) (i : it4), j < k + 1 → l[j]? = some i → qdM h2300 A (136 + 4 * j) (mI (rn1 x y) i) := fun j i hj hi => by
        rcases Nat.lt_or_ge j k with q9 | q9
        · exact qdM_up (c1 j i q9 hi) (fun w hw => ((ho2300 A (136 + 4 * j + w) (by omega)).trans (ho2291 A (136 + 4 * j + w) (by omega))))
        · obtain rfl : j = k := by omega
          cases kik.symm.trans hi
          exact qd
      exact ih h2300 (k + 1) y2303 (some (zi y2301)) hg2300 (((ho2300 A 2 (by omega)).trans (ho2291 A 2 (by omega))).trans hl) c1n (fun j i hj hi => qdM_up (c2 j i (by omega) hi) (fun w hw => ((ho2300 A (136 + 4 * j + w) (by omega)).trans (ho2291 A (136 + 4 * j + w) (by omega))))) (fun k9 j hC => (((ho2300 k9 j (by omega)).trans (ho2291 k9 j (by omega)))).trans (F0 k9 j hC)) (by omega) (by omega) (by omega)
def EV (o g : Int) (D : dfT) (v : Nat) : dfT := fun a b => (D a b ∧ ¬ (a = o ∧ b < (v : Int)) ∧ ¬ (b = o ∧ a < (v : Int))) ∨ ∃ w : Nat, w < v ∧ D o (w : Int) ∧ ((a = g ∧ b = rnV o g (w : Int)) ∨ (a = rnV o g (w : Int) ∧ b = g))
theorem rnV_no {o g w : Int} (ne : g ≠ o) : rnV o g w ≠ o := by
  unfold rnV
  split
  · exact ne
  · assumption
theorem EV_t {o g : Int} {D : dfT} {v : Nat} (ne : g ≠ o) : EV o g D v o (v : Int) ↔ D o (v : Int) := by
  constructor
  · rintro (⟨h, -, -⟩ | ⟨w, -, -, ⟨q, -⟩ | ⟨q, -⟩⟩)
    · exact h
    · exact absurd q.symm ne
    · exact absurd q.symm (rnV_no ne)
  · intro h
    exact Or.inl ⟨h, fun q => by omega, fun q => by omega⟩
theorem EV_n {o g : Int} {D : dfT} {v : Nat} (od : okD D) (h : ¬ D o (v : Int)) : EV o g D (v + 1) = EV o g D v := by
  funext a b
  refine propext ⟨?_, ?_⟩
  · rintro (⟨h1, h2, h3⟩ | ⟨w, h1, h2, h3⟩)
    · exact Or.inl ⟨h1, fun q => h2 ⟨q.1, by omega⟩, fun q => h3 ⟨q.1, by omega⟩⟩
    · refine Or.inr ⟨w, ?_, h2, h3⟩
      rcases Nat.lt_or_ge w v with q | q
      · exact q
      · have e : w = v := by omega
        rw [e] at h2
        exact absurd h2 h
  · rintro (⟨h1, h2, h3⟩ | ⟨w, h1, h2, h3⟩)
    · refine Or.inl ⟨h1, fun q => ?_, fun q => ?_⟩
      · have e : b = (v : Int) := by
          have := fun e => h2 ⟨q.1, e⟩
          omega
        rw [q.1, e] at h1
        exact h h1
      · have e : a = (v : Int) := by
          have := fun e => h3 ⟨q.1, e⟩
          omega
        rw [q.1, e] at h1
        exact h (od.2 _ _ h1)
    · exact Or.inr ⟨w, by omega, h2, h3⟩
theorem EV_s {o g : Int} {D : dfT} {v : Nat} (od : okD D) (ne : g ≠ o) (h : D o (v : Int)) : dAdd (dRem (EV o g D v) o (v : Int)) g (rnV o g (v : Int)) = EV o g D (v + 1) := by
  funext a b
  refine propext ⟨?_, ?_⟩
  · rintro (⟨h0, hr⟩ | h1 | h1)
    · rcases h0 with ⟨h1, h2, h3⟩ | ⟨w, h1, h2, h3⟩
      · refine Or.inl ⟨h1, fun q => ?_, fun q => ?_⟩
        · have := fun e => h2 ⟨q.1, e⟩
          exact hr (Or.inl ⟨q.1, by omega⟩)
        · have := fun e => h3 ⟨q.1, e⟩
          exact hr (Or.inr ⟨by omega, q.1⟩)
      · exact Or.inr ⟨w, by omega, h2, h3⟩
    · exact Or.inr ⟨v, by omega, h, Or.inl h1⟩
    · exact Or.inr ⟨v, by omega, h, Or.inr h1⟩
  · rintro (⟨h1, h2, h3⟩ | ⟨w, h1, h2, h3⟩)
    · refine Or.inl ⟨Or.inl ⟨h1, fun q => h2 ⟨q.1, by omega⟩, fun q => h3 ⟨q.1, by omega⟩⟩, fun q => ?_⟩
      rcases q with q | q
      · exact h2 ⟨q.1, by omega⟩
      · exact h3 ⟨q.2, by omega⟩
    · rcases Nat.lt_or_ge w v with q | q
      · refine Or.inl ⟨Or.inr ⟨w, q, h2, h3⟩, fun q9 => ?_⟩
        have n1 := rnV_no (o := o) (g := g) (w := (w : Int)) ne
        rcases h3 with ⟨k1, k2⟩ | ⟨k1, k2⟩
        · rcases q9 with ⟨m1, m2⟩ | ⟨m1, m2⟩
          · exact ne (k1.symm.trans m1)
          · exact n1 (k2.symm.trans m2)
        · rcases q9 with ⟨m1, m2⟩ | ⟨m1, m2⟩
          · exact n1 (k1.symm.trans m1)
          · exact ne (k2.symm.trans m2)
      · have e : w = v := by omega
        subst e
        exact Or.inr h3
theorem EV_0 {o g : Int} {D : dfT} (od : okD D) : EV o g D 0 = D := by
  funext a b
  refine propext ⟨?_, fun h => Or.inl ⟨h, fun q => ?_, fun q => ?_⟩⟩
  · rintro (⟨h, -, -⟩ | ⟨w, h, -⟩)
    · exact h
    · exact absurd h (Nat.not_lt_zero w)
  · have := od.1 a b h
    omega
  · have := od.1 a b h
    omega
theorem EV_e {o g : Int} {D : dfT} (od : okD D) (ne : g ≠ o) : EV o g D 21 = Dm (rnV o g) D := by
  funext a b
  refine propext ⟨?_, ?_⟩
  · rintro (⟨h, h2, h3⟩ | ⟨w, h1, h2, ⟨rfl, rfl⟩ | ⟨rfl, rfl⟩⟩)
    · have r := od.1 a b h
      exact ⟨a, b, h, if_neg (fun q => h2 ⟨q, by omega⟩), if_neg (fun q => h3 ⟨q, by omega⟩)⟩
    · exact ⟨o, w, h2, if_pos rfl, rfl⟩
    · exact ⟨w, o, od.2 _ _ h2, rfl, if_pos rfl⟩
  · rintro ⟨a', b', h, e1, e2⟩
    have r := od.1 a' b' h
    by_cases q : a' = o
    · refine Or.inr ⟨b'.toNat, by omega, ?_, Or.inl ⟨?_, ?_⟩⟩
      · rw [show ((b'.toNat : Nat) : Int) = b' by omega, ← q]
        exact h
      · rw [← e1, q]
        exact if_pos rfl
      · rw [show ((b'.toNat : Nat) : Int) = b' by omega]
        exact e2.symm
    · by_cases q2 : b' = o
      · refine Or.inr ⟨a'.toNat, by omega, ?_, Or.inr ⟨?_, ?_⟩⟩
        · rw [show ((a'.toNat : Nat) : Int) = a' by omega, ← q2]
          exact od.2 _ _ h
        · rw [show ((a'.toNat : Nat) : Int) = a' by omega]
          exact e1.symm
        · rw [← e2, q2]
          exact if_pos rfl
      · have f1 : a' = a := by
          rw [← e1]
          exact (if_neg q).symm
        have f2 : b' = b := by
          rw [← e2]
          exact (if_neg q2).symm
        subst f1
        subst f2
        exact Or.inl ⟨h, fun q9 => q q9.1, fun q9 => q2 q9.1⟩
theorem mkm_D {d t A o g : Nat} {τ : List Nat} {s : sqT} {xx xy xt xo : Int32} (ext : xt.toInt = (g : Int)) (exo : xo.toInt = (o : Int)) (hgo : g < o) (ho : o ≤ 20) (od : okD s.2.2.2) (ne : (g : Int) ≠ (o : Int)) {l6 : Option zv} : ∀ (n : Nat) (h : zh) (v : Nat) (xv : Int32), (QM τ h A (s.1, s.2.1, s.2.2.1, EV (o : Int) (g : Int) s.2.2.2 v)) → (xv.toInt = (v : Int)) → (v ≤ 21) → (21 < v + n) → qX (d + 1) 206 196 [some (.inl (some A)), some (zi xx), some (zi xy), some (zi xt), some (zi xo), some (zi xv), l6] [] h t (rV (fun h1 => QM τ h1 A (s.1, s.2.1, s.2.2.1, Dm (rnV (o : Int) (g : Int)) s.2.2.2) ∧ FM A h h1) t) := by
  intro n
  induction n with
  | zero =>
    intro h v xv Q hxv hv hn
    exfalso
    omega
  | succ n ih =>
    intro h v xv Q hxv hv hn
    obtain ⟨T, c0, tA, aT, hc0, pT⟩ := Q.2.1
    refine y_same (i := .iload 5) (len := 2) (r := (0, 0, 0, 0)) (pc' := 198) (ls' := [some (.inl (some A)), some (zi xx), some (zi xy), some (zi xt), some (zi xo), some (zi xv), l6]) (st' := [zi xv]) (by decide +kernel) (fun k q => by cases q) rfl ?_
    refine y_bi (c := 21) (len := 2) (r := (0, 0, 0, 0)) (by decide +kernel) (by decide) (fun y2309 hy2309 => ?_)
    rcases Decidable.em (xv.toInt ≥ y2309.toInt) with q2310 | q2310
    ·
      refine y_cT (c := .ge) (off := 49) (pc' := 249) (len := 3) (r := (0, 0, 0, 0)) (by decide +kernel) (acmpT (c := .ge) (by show _ ≤ _; omega)) (by decide +kernel) ?_
      refine y_rV (len := 1) (r := (0, 0, 0, 0)) (nL := 7) (n9 := 3) (hs := []) (by decide +kernel) rfl ?_
      obtain rfl : v = 21 := by omega
      have ee := EV_e (o := (o : Int)) (g := (g : Int)) od ne
      rw [ee] at Q
      exact ⟨Q, fun k j _ => rfl⟩
    ·
      refine y_cF (c := .ge) (off := 49) (len := 3) (r := (0, 0, 0, 0)) (by decide +kernel) (acmpF (c := .ge) (by show _ < _; omega)) ?_
      refine y_same (i := .aload_n 0) (len := 1) (r := (0, 0, 0, 0)) (pc' := 204) (ls' := [some (.inl (some A)), some (zi xx), some (zi xy), some (zi xt), some (zi xo), some (zi xv), l6]) (st' := [.inl (some A)]) (by decide +kernel) (fun k q => by cases q) rfl ?_
      refine y_same (i := .iload 4) (len := 2) (r := (0, 0, 0, 0)) (pc' := 206) (ls' := [some (.inl (some A)), some (zi xx), some (zi xy), some (zi xt), some (zi xo), some (zi xv), l6]) (st' := [zi xo, .inl (some A)]) (by decide +kernel) (fun k q => by cases q) rfl ?_
      refine y_same (i := .iload 5) (len := 2) (r := (0, 0, 0, 0)) (pc' := 208) (ls' := [some (.inl (some A)), some (zi xx), some (zi xy), some (zi xt), some (zi xo), some (zi xv), l6]) (st' := [zi xv, zi xo, .inl (some A)]) (by decide +kernel) (fun k q => by cases q) rfl ?_
      refine y_cI (i := .invokestatic 245) (len := 3) (r := (1, 200, 12, 1666)) (nL := 3) (k := 2) (n := 3) (hs := []) (args := [.inl (some A), zi xo, zi xv]) (rest := []) (l0 := [some (.inl (some A)), some (zi xo), some (zi xv)]) (by decide +kernel) (Or.inl ⟨_, rfl⟩) rfl rfl rfl rfl (Nat.le_of_ble_eq_true rfl) rfl rfl (qI_le (by omega) (m_dif (d := 0) (x := o) (y := v) Q (by omega) (by omega) (by omega) (by omega))) (fun y2311 qy2311 hRy2311 => ?_)
      obtain ⟨rfl, hDy2311⟩ := hRy2311
      rcases hDy2311 with ⟨vy2311, ty2311⟩ | ⟨vy2311, ty2311⟩
      ·
        refine y_iT (c := .ne) (off := 6) (pc' := 217) (len := 3) (r := (0, 0, 0, 0)) (by decide +kernel) (acmpT (c := .ne) (by show ¬ (_ = _); omega)) (by decide +kernel) ?_
        refine y_same (i := .aload_n 0) (len := 1) (r := (0, 0, 0, 0)) (pc' := 218) (ls' := [some (.inl (some A)), some (zi xx), some (zi xy), some (zi xt), some (zi xo), some (zi xv), l6]) (st' := [.inl (some A)]) (by decide +kernel) (fun k q => by cases q) rfl ?_
        refine y_same (i := .iload 4) (len := 2) (r := (0, 0, 0, 0)) (pc' := 220) (ls' := [some (.inl (some A)), some (zi xx), some (zi xy), some (zi xt), some (zi xo), some (zi xv), l6]) (st' := [zi xo, .inl (some A)]) (by decide +kernel) (fun k q => by cases q) rfl ?_
        refine y_same (i := .iload 5) (len := 2) (r := (0, 0, 0, 0)) (pc' := 222) (ls' := [some (.inl (some A)), some (zi xx), some (zi xy), some (zi xt), some (zi xo), some (zi xv), l6]) (st' := [zi xv, zi xo, .inl (some A)]) (by decide +kernel) (fun k q => by cases q) rfl ?_
        refine y_cV (i := .invokestatic 262) (len := 3) (r := (1, 202, 12, 1669)) (nL := 3) (k := 0) (n := 3) (hs := []) (args := [.inl (some A), zi xo, zi xv]) (rest := []) (l0 := [some (.inl (some A)), some (zi xo), some (zi xv)]) (by decide +kernel) (Or.inl ⟨_, rfl⟩) rfl rfl rfl rfl (Nat.le_of_ble_eq_true rfl) rfl rfl (qV_le (by omega) (m_agr (d := 0) (x := o) (y := v) Q (by omega) (by omega) (by omega) (by omega))) (fun h2312 hR2312 => ?_)
        obtain ⟨Q2312, F2312⟩ := hR2312
        refine y_same (i := .aload_n 0) (len := 1) (r := (0, 0, 0, 0)) (pc' := 226) (ls' := [some (.inl (some A)), some (zi xx), some (zi xy), some (zi xt), some (zi xo), some (zi xv), l6]) (st' := [.inl (some A)]) (by decide +kernel) (fun k q => by cases q) rfl ?_
        refine y_same (i := .iload_n 3) (len := 1) (r := (0, 0, 0, 0)) (pc' := 227) (ls' := [some (.inl (some A)), some (zi xx), some (zi xy), some (zi xt), some (zi xo), some (zi xv), l6]) (st' := [zi xt, .inl (some A)]) (by decide +kernel) (fun k q => by cases q) rfl ?_
        refine y_same (i := .iload 5) (len := 2) (r := (0, 0, 0, 0)) (pc' := 229) (ls' := [some (.inl (some A)), some (zi xx), some (zi xy), some (zi xt), some (zi xo), some (zi xv), l6]) (st' := [zi xv, zi xt, .inl (some A)]) (by decide +kernel) (fun k q => by cases q) rfl ?_
        refine y_same (i := .iload 4) (len := 2) (r := (0, 0, 0, 0)) (pc' := 231) (ls' := [some (.inl (some A)), some (zi xx), some (zi xy), some (zi xt), some (zi xo), some (zi xv), l6]) (st' := [zi xo, zi xv, zi xt, .inl (some A)]) (by decide +kernel) (fun k q => by cases q) rfl ?_
        rcases Decidable.em (xv.toInt ≠ xo.toInt) with q2313 | q2313
        ·
          refine y_cT (c := .ne) (off := 7) (pc' := 238) (len := 3) (r := (0, 0, 0, 0)) (by decide +kernel) (acmpT (c := .ne) (by show ¬ (_ = _); omega)) (by decide +kernel) ?_
          refine y_same (i := .iload 5) (len := 2) (r := (0, 0, 0, 0)) (pc' := 240) (ls' := [some (.inl (some A)), some (zi xx), some (zi xy), some (zi xt), some (zi xo), some (zi xv), l6]) (st' := [zi xv, zi xt, .inl (some A)]) (by decide +kernel) (fun k q => by cases q) rfl ?_
          refine y_cV (i := .invokestatic 266) (len := 3) (r := (1, 201, 12, 1672)) (nL := 3) (k := 0) (n := 3) (hs := []) (args := [.inl (some A), zi xt, zi xv]) (rest := []) (l0 := [some (.inl (some A)), some (zi xt), some (zi xv)]) (by decide +kernel) (Or.inl ⟨_, rfl⟩) rfl rfl rfl rfl (Nat.le_of_ble_eq_true rfl) rfl rfl (qV_le (by omega) (m_dfs (d := 0) (x := g) (y := v) Q2312 (by omega) (by omega) (by omega) (by omega))) (fun h2314 hR2314 => ?_)
          obtain ⟨Q2314, F2314⟩ := hR2314
          refine y_inc (j := 5) (a := xv) (c := 1) (ls' := fun v => [some (.inl (some A)), some (zi xx), some (zi xy), some (zi xt), some (zi xo), some v, l6]) (len := 3) (r := (0, 0, 0, 0)) (by decide +kernel) rfl (fun _ => rfl) (by decide) (by omega) (by omega) (fun y2315 hy2315 => ?_)
          show qX (d + 1) 206 246 [some (.inl (some A)), some (zi xx), some (zi xy), some (zi xt), some (zi xo), some (zi y2315), l6] [] h2314 t _
          refine y_goto (off := (-50)) (pc' := 196) (len := 3) (r := (0, 0, 0, 0)) (by decide +kernel) (by decide +kernel) ?_
          have es := EV_s (g := (g : Int)) od ne ((EV_t ne).mp ty2311)
          have rn : rnV (o : Int) (g : Int) (v : Int) = (v : Int) := if_neg (show ¬ (v : Int) = (o : Int) by omega)
          rw [rn] at es
          have QN : QM τ h2314 A (s.1, s.2.1, s.2.2.1, EV (o : Int) (g : Int) s.2.2.2 (v + 1)) := by
            rw [← es]
            exact Q2314
          exact qX_V (ih h2314 (v + 1) y2315 QN (by omega) (by omega) (by omega)) (fun h1 hR => ⟨hR.1, fun k j hC => (hR.2 k j hC).trans (((F2314 k j (by omega)).trans (F2312 k j (by omega))))⟩)
        ·
          refine y_cF (c := .ne) (off := 7) (len := 3) (r := (0, 0, 0, 0)) (by decide +kernel) (acmpF (c := .ne) (by show _ = _; omega)) ?_
          refine y_same (i := .iload_n 3) (len := 1) (r := (0, 0, 0, 0)) (pc' := 235) (ls' := [some (.inl (some A)), some (zi xx), some (zi xy), some (zi xt), some (zi xo), some (zi xv), l6]) (st' := [zi xt, zi xt, .inl (some A)]) (by decide +kernel) (fun k q => by cases q) rfl ?_
          refine y_goto (off := 5) (pc' := 240) (len := 3) (r := (0, 0, 0, 0)) (by decide +kernel) (by decide +kernel) ?_
          refine y_cV (i := .invokestatic 266) (len := 3) (r := (1, 201, 12, 1672)) (nL := 3) (k := 0) (n := 3) (hs := []) (args := [.inl (some A), zi xt, zi xt]) (rest := []) (l0 := [some (.inl (some A)), some (zi xt), some (zi xt)]) (by decide +kernel) (Or.inl ⟨_, rfl⟩) rfl rfl rfl rfl (Nat.le_of_ble_eq_true rfl) rfl rfl (qV_le (by omega) (m_dfs (d := 0) (x := g) (y := g) Q2312 (by omega) (by omega) (by omega) (by omega))) (fun h2316 hR2316 => ?_)
          obtain ⟨Q2316, F2316⟩ := hR2316
          refine y_inc (j := 5) (a := xv) (c := 1) (ls' := fun v => [some (.inl (some A)), some (zi xx), some (zi xy), some (zi xt), some (zi xo), some v, l6]) (len := 3) (r := (0, 0, 0, 0)) (by decide +kernel) rfl (fun _ => rfl) (by decide) (by omega) (by omega) (fun y2317 hy2317 => ?_)
          show qX (d + 1) 206 246 [some (.inl (some A)), some (zi xx), some (zi xy), some (zi xt), some (zi xo), some (zi y2317), l6] [] h2316 t _
          refine y_goto (off := (-50)) (pc' := 196) (len := 3) (r := (0, 0, 0, 0)) (by decide +kernel) (by decide +kernel) ?_
          have es := EV_s (g := (g : Int)) od ne ((EV_t ne).mp ty2311)
          have rn : rnV (o : Int) (g : Int) (v : Int) = (g : Int) := if_pos (show (v : Int) = (o : Int) by omega)
          rw [rn] at es
          have QN : QM τ h2316 A (s.1, s.2.1, s.2.2.1, EV (o : Int) (g : Int) s.2.2.2 (v + 1)) := by
            rw [← es]
            exact Q2316
          exact qX_V (ih h2316 (v + 1) y2317 QN (by omega) (by omega) (by omega)) (fun h1 hR => ⟨hR.1, fun k j hC => (hR.2 k j hC).trans (((F2316 k j (by omega)).trans (F2312 k j (by omega))))⟩)
      ·
        refine y_iF (c := .ne) (off := 6) (len := 3) (r := (0, 0, 0, 0)) (by decide +kernel) (acmpF (c := .ne) (by show _ = _; omega)) ?_
        refine y_goto (off := 29) (pc' := 243) (len := 3) (r := (0, 0, 0, 0)) (by decide +kernel) (by decide +kernel) ?_
        refine y_inc (j := 5) (a := xv) (c := 1) (ls' := fun v => [some (.inl (some A)), some (zi xx), some (zi xy), some (zi xt), some (zi xo), some v, l6]) (len := 3) (r := (0, 0, 0, 0)) (by decide +kernel) rfl (fun _ => rfl) (by decide) (by omega) (by omega) (fun y2318 hy2318 => ?_)
        show qX (d + 1) 206 246 [some (.inl (some A)), some (zi xx), some (zi xy), some (zi xt), some (zi xo), some (zi y2318), l6] [] h t _
        refine y_goto (off := (-50)) (pc' := 196) (len := 3) (r := (0, 0, 0, 0)) (by decide +kernel) (by decide +kernel) ?_
        have QN : QM τ h A (s.1, s.2.1, s.2.2.1, EV (o : Int) (g : Int) s.2.2.2 (v + 1)) := by
          rw [EV_n od (fun q => ty2311 ((EV_t ne).mpr q))]
          exact Q
        exact ih h (v + 1) y2318 QN (by omega) (by omega) (by omega)
theorem mp_get {f : it4 → it4} {l : List it4} {j : Nat} {i : it4} (h : (l.map f)[j]? = some i) : ∃ i0, l[j]? = some i0 ∧ i = f i0 := by
  rw [List.getElem?_map] at h
  cases h9 : l[j]? with
  | none => rw [h9] at h; cases h
  | some q =>
    rw [h9] at h
    cases h
    exact ⟨q, rfl, rfl⟩
theorem m_mk {d t A : Nat} {τ : List Nat} {h : zh} {s : sqT} (Q : QM τ h A s) {x y : Int} {xx xy : Int32} (exx : xx.toInt = x) (hx : 0 ≤ x ∧ x ≤ 20) (exy : xy.toInt = y) (hy : 0 ≤ y ∧ y ≤ 20) : qV (d + 2) 206 [some (.inl (some A)), some (zi xx), some (zi xy), none, none, none, none] h t (fun h1 => QM τ h1 A (mkQ x y s) ∧ FM A h h1) := by
  obtain ⟨T, c0, tA, aT, hc0, pT⟩ := Q.2.1
  refine qV_of ?_
  refine y_same (i := .iload_n 1) (len := 1) (r := (0, 0, 0, 0)) (pc' := 1) (ls' := [some (.inl (some A)), some (zi xx), some (zi xy), none, none, none, none]) (st' := [zi xx]) (by decide +kernel) (fun k q => by cases q) rfl ?_
  refine y_same (i := .iload_n 2) (len := 1) (r := (0, 0, 0, 0)) (pc' := 2) (ls' := [some (.inl (some A)), some (zi xx), some (zi xy), none, none, none, none]) (st' := [zi xy, zi xx]) (by decide +kernel) (fun k q => by cases q) rfl ?_
  by_cases q : x = y
  · subst q
    refine y_cF (c := .ne) (off := 4) (len := 3) (r := (0, 0, 0, 0)) (by decide +kernel) (acmpF (c := .ne) (by show _ = _; omega)) ?_
    refine y_rV (len := 1) (r := (0, 0, 0, 0)) (nL := 7) (n9 := 3) (hs := []) (by decide +kernel) rfl ?_
    exact ⟨by rw [mkQ_self]; exact Q, fun k j _ => rfl⟩
  · obtain ⟨xl, hl, el⟩ := Q.2.2.1.1
    obtain ⟨xr, hr, er⟩ := Q.2.2.1.2.1
    obtain ⟨xc, hc, ec⟩ := Q.2.2.1.2.2.1
    have ml := qm_lenL Q
    have mr := qm_lenR Q
    have mc := qm_lenC Q
    refine y_cT (c := .ne) (off := 4) (pc' := 6) (len := 3) (r := (0, 0, 0, 0)) (by decide +kernel) (acmpT (c := .ne) (by show ¬ (_ = _); omega)) (by decide +kernel) ?_
    refine y_same (i := .iload_n 1) (len := 1) (r := (0, 0, 0, 0)) (pc' := 7) (ls' := [some (.inl (some A)), some (zi xx), some (zi xy), none, none, none, none]) (st' := [zi xx]) (by decide +kernel) (fun k q => by cases q) rfl ?_
    refine y_same (i := .iload_n 2) (len := 1) (r := (0, 0, 0, 0)) (pc' := 8) (ls' := [some (.inl (some A)), some (zi xx), some (zi xy), none, none, none, none]) (st' := [zi xy, zi xx]) (by decide +kernel) (fun k q => by cases q) rfl ?_
    refine y_cI (i := .invokestatic 233) (len := 3) (r := (1, 163, 12, 1594)) (nL := 2) (k := 1) (n := 2) (hs := []) (args := [zi xx, zi xy]) (rest := []) (l0 := [some (zi xx), some (zi xy)]) (by decide +kernel) (Or.inl ⟨_, rfl⟩) rfl rfl rfl rfl (Nat.le_of_ble_eq_true rfl) rfl rfl (qI_le (by omega) (e_less (d := 0))) (fun y2319 qy2319 hRy2319 => ?_)
    obtain ⟨rfl, hy2319⟩ := hRy2319
    refine y_same (i := .istore_n 3) (len := 1) (r := (0, 0, 0, 0)) (pc' := 12) (ls' := [some (.inl (some A)), some (zi xx), some (zi xy), some (zi y2319), none, none, none]) (st' := []) (by decide +kernel) (fun k q => by cases q) rfl ?_
    refine y_same (i := .iload_n 1) (len := 1) (r := (0, 0, 0, 0)) (pc' := 13) (ls' := [some (.inl (some A)), some (zi xx), some (zi xy), some (zi y2319), none, none, none]) (st' := [zi xx]) (by decide +kernel) (fun k q => by cases q) rfl ?_
    refine y_same (i := .iload_n 2) (len := 1) (r := (0, 0, 0, 0)) (pc' := 14) (ls' := [some (.inl (some A)), some (zi xx), some (zi xy), some (zi y2319), none, none, none]) (st' := [zi xy, zi xx]) (by decide +kernel) (fun k q => by cases q) rfl ?_
    refine y_cI (i := .invokestatic 230) (len := 3) (r := (1, 164, 12, 1591)) (nL := 2) (k := 1) (n := 2) (hs := []) (args := [zi xx, zi xy]) (rest := []) (l0 := [some (zi xx), some (zi xy)]) (by decide +kernel) (Or.inl ⟨_, rfl⟩) rfl rfl rfl rfl (Nat.le_of_ble_eq_true rfl) rfl rfl (qI_le (by omega) (e_more (d := 0))) (fun y2320 qy2320 hRy2320 => ?_)
    obtain ⟨rfl, hy2320⟩ := hRy2320
    refine y_same (i := .istore 4) (len := 2) (r := (0, 0, 0, 0)) (pc' := 19) (ls' := [some (.inl (some A)), some (zi xx), some (zi xy), some (zi y2319), some (zi y2320), none, none]) (st' := []) (by decide +kernel) (fun k q => by cases q) rfl ?_
    refine y_ic (c := 0) (len := 1) (r := (0, 0, 0, 0)) (by decide +kernel) (by decide) (fun y2321 hy2321 => ?_)
    refine y_same (i := .istore 5) (len := 2) (r := (0, 0, 0, 0)) (pc' := 22) (ls' := [some (.inl (some A)), some (zi xx), some (zi xy), some (zi y2319), some (zi y2320), some (zi y2321), none]) (st' := []) (by decide +kernel) (fun k q => by cases q) rfl ?_
    refine mkm_L (h0 := h) (xl := xl) tA aT hc0 pT hx hy (by omega) (by omega) (by omega) el ml (fun p m => (Q.2.2.2.1 p m).1) (fun h1 x1 m1 g1 c1 F1 => ?_) (s.1.length + 1) h 0 y2321 none Q.1 hl (fun j _ hj => absurd hj (Nat.not_lt_zero j)) (fun j i _ hj => Q.2.2.1.2.2.2.1 j i hj) (fun _ _ _ => rfl) (by omega) (by omega) (by omega)
    refine y_ic (c := 0) (len := 1) (r := (0, 0, 0, 0)) (by decide +kernel) (by decide) (fun y2322 hy2322 => ?_)
    refine y_same (i := .istore 5) (len := 2) (r := (0, 0, 0, 0)) (pc' := 80) (ls' := [some (.inl (some A)), some (zi xx), some (zi xy), some (zi y2319), some (zi y2320), some (zi y2322), m1]) (st' := []) (by decide +kernel) (fun k q => by cases q) rfl ?_
    refine mkm_R (h0 := h1) (xl := xr) tA aT hc0 pT hx hy (by omega) (by omega) (by omega) er mr (fun p m => (Q.2.2.2.2.1 p m).1) (fun h2 x2 m2 g2 c2 F2 => ?_) (s.2.1.length + 1) h1 0 y2322 m1 g1 ((F1 A 1 (by omega)).trans hr) (fun j _ hj => absurd hj (Nat.not_lt_zero j)) (fun j i _ hj => qdM_up (Q.2.2.1.2.2.2.2.1 j i hj) (fun w hw => F1 A _ (by have := (List.getElem?_eq_some_iff.mp hj).1; omega))) (fun _ _ _ => rfl) (by omega) (by omega) (by omega)
    refine y_ic (c := 0) (len := 1) (r := (0, 0, 0, 0)) (by decide +kernel) (by decide) (fun y2323 hy2323 => ?_)
    refine y_same (i := .istore 5) (len := 2) (r := (0, 0, 0, 0)) (pc' := 138) (ls' := [some (.inl (some A)), some (zi xx), some (zi xy), some (zi y2319), some (zi y2320), some (zi y2323), m2]) (st' := []) (by decide +kernel) (fun k q => by cases q) rfl ?_
    refine mkm_C (h0 := h2) (xl := xc) tA aT hc0 pT hx hy (by omega) (by omega) (by omega) ec mc (fun p m => (Q.2.2.2.2.2.1 p m).1) (fun p m => (Q.2.2.2.2.2.1 p m).2.2) (fun h3 x3 m3 g3 c3 F3 => ?_) (s.2.2.1.length + 1) h2 0 y2323 m2 g2 ((F2 A 2 (by omega)).trans ((F1 A 2 (by omega)).trans hc)) (fun j _ hj => absurd hj (Nat.not_lt_zero j)) (fun j i _ hj => qdM_up (Q.2.2.1.2.2.2.2.2.1 j i hj) (fun w hw => (F2 A _ (by have := (List.getElem?_eq_some_iff.mp hj).1; omega)).trans (F1 A _ (by have := (List.getElem?_eq_some_iff.mp hj).1; omega)))) (fun _ _ _ => rfl) (by omega) (by omega) (by omega)
    refine y_ic (c := 0) (len := 1) (r := (0, 0, 0, 0)) (by decide +kernel) (by decide) (fun y2324 hy2324 => ?_)
    refine y_same (i := .istore 5) (len := 2) (r := (0, 0, 0, 0)) (pc' := 196) (ls' := [some (.inl (some A)), some (zi xx), some (zi xy), some (zi y2319), some (zi y2320), some (zi y2324), m3]) (st' := []) (by decide +kernel) (fun k q => by cases q) rfl ?_
    have Q3 : QM τ h3 A (s.1.map (mI (rn1 x y)), s.2.1.map (mI (rn1 x y)), s.2.2.1.map (mI (rn1 x y)), s.2.2.2) := by
      refine ⟨g3, Q.2.1, ⟨?_, ?_, ?_, fun j i hj => ?_, fun j i hj => ?_, fun j i hj => ?_, ?_⟩, ?_⟩
      · show ci_ h3 A 0 (s.1.map _).length
        rw [List.length_map]
        exact ⟨xl, (F3 A 0 (by omega)).trans ((F2 A 0 (by omega)).trans ((F1 A 0 (by omega)).trans hl)), el⟩
      · show ci_ h3 A 1 (s.2.1.map _).length
        rw [List.length_map]
        exact ⟨xr, (F3 A 1 (by omega)).trans ((F2 A 1 (by omega)).trans ((F1 A 1 (by omega)).trans hr)), er⟩
      · show ci_ h3 A 2 (s.2.2.1.map _).length
        rw [List.length_map]
        exact ⟨xc, (F3 A 2 (by omega)).trans ((F2 A 2 (by omega)).trans ((F1 A 2 (by omega)).trans hc)), ec⟩
      · obtain ⟨i0, hi, e9⟩ := mp_get hj
        rw [e9]
        have hj9 := (List.getElem?_eq_some_iff.mp hi).1
        exact qdM_up (c1 j i0 hi) (fun w hw => (F3 A _ (by omega)).trans (F2 A _ (by omega)))
      · obtain ⟨i0, hi, e9⟩ := mp_get hj
        rw [e9]
        have hj9 := (List.getElem?_eq_some_iff.mp hi).1
        exact qdM_up (c2 j i0 hi) (fun w hw => F3 A _ (by omega))
      · obtain ⟨i0, hi, e9⟩ := mp_get hj
        rw [e9]
        exact c3 j i0 hi
      · exact dC_up2 Q.2.2.1.2.2.2.2.2.2 (fun j hj => (F3 A _ (by omega)).trans ((F2 A _ (by omega)).trans (F1 A _ (by omega))))
      · exact okQ_rnC (okQ_rnR (okQ_rnL Q.2.2.2 hx hy) hx hy) hx hy
    have eo : (((max x y).toNat : Nat) : Int) = max x y := by omega
    have eg : (((min x y).toNat : Nat) : Int) = min x y := by omega
    have Q4 : QM τ h3 A (s.1.map (mI (rn1 x y)), s.2.1.map (mI (rn1 x y)), s.2.2.1.map (mI (rn1 x y)), EV (((max x y).toNat : Nat) : Int) (((min x y).toNat : Nat) : Int) s.2.2.2 0) := by
      rw [EV_0 Q.2.2.2.2.2.2]
      exact Q3
    refine qX_V (mkm_D (s := (s.1.map (mI (rn1 x y)), s.2.1.map (mI (rn1 x y)), s.2.2.1.map (mI (rn1 x y)), s.2.2.2)) (o := (max x y).toNat) (g := (min x y).toNat) (by omega) (by omega) (by omega) (by omega) Q.2.2.2.2.2.2 (by omega) 22 h3 0 y2324 Q4 (by omega) (by omega) (by omega)) (fun h4 hR => ?_)
    obtain ⟨R1, R2⟩ := hR
    rw [eo, eg] at R1
    exact ⟨R1, fun k j hC => (R2 k j hC).trans ((F3 k j (Or.inl hC)).trans ((F2 k j (Or.inl hC)).trans (F1 k j (Or.inl hC))))⟩
