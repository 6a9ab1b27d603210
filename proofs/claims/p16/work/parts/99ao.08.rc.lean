/-! rows of a sequent: copied -/
theorem cpr14a_l {d t m RA RB IA IB : Nat} {τ : List Nat} {h0 : zh} {xm : Int32} (tRA : τ[RA]? = some 1004) (tIA : τ[IA]? = some 1007) (tRB : τ[RB]? = some 1002) (tIB : τ[IB]? = some 1005) (n1 : RA ≠ RB) (n2 : IA ≠ IB) (n3 : RA ≠ IA) (n4 : RA ≠ IB) (n5 : RB ≠ IA) (em : xm.toInt = (m : Int)) (hm5 : m ≤ 5) : ∀ (n : Nat) (h : zh) (i : Nat) (xi : Int32), hG τ h → hsl h RA 1 = some (zi xm) → hsl h RA 0 = some (.inl (some IA)) → hsl h RB 0 = some (.inl (some IB)) → (∀ j, j < i → hsl h IA j = hsl h0 IB j) → (∀ k j, k ≠ IA → hsl h k j = hsl h0 k j) → xi.toInt = (i : Int) → i ≤ m → m ≤ i + n → qX d 71 18 [some (.inl (some RA)), some (.inl (some RB)), some (zi xi)] [] h t (rV (fun h1 => hG τ h1 ∧ (∀ j, j < m → hsl h1 IA j = hsl h0 IB j) ∧ ∀ k j, k ≠ IA → hsl h1 k j = hsl h0 k j) t) := by
  intro n
  induction n with
  | zero =>
    intro h i xi hg hm pA pB c1 c2 hxi hi hn
    refine y_same (i := .iload_n 2) (len := 1) (r := (0, 0, 0, 0)) (pc' := 19) (ls' := [some (.inl (some RA)), some (.inl (some RB)), some (zi xi)]) (st' := [zi xi]) (by decide +kernel) (fun k q => by cases q) rfl ?_
    refine y_same (i := .aload_n 0) (len := 1) (r := (0, 0, 0, 0)) (pc' := 20) (ls' := [some (.inl (some RA)), some (.inl (some RB)), some (zi xi)]) (st' := [.inl (some RA), zi xi]) (by decide +kernel) (fun k q => by cases q) rfl ?_
    refine y_get (j := 9) (len := 3) (r := (6, 1, 0, 164)) (by decide +kernel) hg tRA aw1004 rfl rfl hm ?_
    refine y_cT (c := .ge) (off := 21) (pc' := 44) (len := 3) (r := (0, 0, 0, 0)) (by decide +kernel) (acmpT (c := .ge) (by show _ ≤ _; omega)) (by decide +kernel) ?_
    refine y_rV (len := 1) (r := (0, 0, 0, 0)) (nL := 3) (n9 := 2) (hs := []) (by decide +kernel) rfl ?_
    exact ⟨hg, fun j hj => c1 j (by omega), c2⟩
  | succ n ih =>
    intro h i xi hg hm pA pB c1 c2 hxi hi hn
    rcases Nat.lt_or_ge i m with q | q
    ·
      refine y_same (i := .iload_n 2) (len := 1) (r := (0, 0, 0, 0)) (pc' := 19) (ls' := [some (.inl (some RA)), some (.inl (some RB)), some (zi xi)]) (st' := [zi xi]) (by decide +kernel) (fun k q => by cases q) rfl ?_
      refine y_same (i := .aload_n 0) (len := 1) (r := (0, 0, 0, 0)) (pc' := 20) (ls' := [some (.inl (some RA)), some (.inl (some RB)), some (zi xi)]) (st' := [.inl (some RA), zi xi]) (by decide +kernel) (fun k q => by cases q) rfl ?_
      refine y_get (j := 9) (len := 3) (r := (6, 1, 0, 164)) (by decide +kernel) hg tRA aw1004 rfl rfl hm ?_
      refine y_cF (c := .ge) (off := 21) (len := 3) (r := (0, 0, 0, 0)) (by decide +kernel) (acmpF (c := .ge) (by show _ < _; omega)) ?_
      refine y_same (i := .aload_n 0) (len := 1) (r := (0, 0, 0, 0)) (pc' := 27) (ls' := [some (.inl (some RA)), some (.inl (some RB)), some (zi xi)]) (st' := [.inl (some RA)]) (by decide +kernel) (fun k q => by cases q) rfl ?_
      refine y_get (j := 15) (len := 3) (r := (6, 0, 2, 163)) (by decide +kernel) hg tRA aw1004 rfl rfl pA ?_
      refine y_same (i := .iload_n 2) (len := 1) (r := (0, 0, 0, 0)) (pc' := 31) (ls' := [some (.inl (some RA)), some (.inl (some RB)), some (zi xi)]) (st' := [zi xi, .inl (some IA)]) (by decide +kernel) (fun k q => by cases q) rfl ?_
      refine y_same (i := .aload_n 1) (len := 1) (r := (0, 0, 0, 0)) (pc' := 32) (ls' := [some (.inl (some RA)), some (.inl (some RB)), some (zi xi)]) (st' := [.inl (some RB), zi xi, .inl (some IA)]) (by decide +kernel) (fun k q => by cases q) rfl ?_
      refine y_get (j := 15) (len := 3) (r := (6, 0, 2, 163)) (by decide +kernel) hg tRB aw1002 rfl rfl pB ?_
      refine y_same (i := .iload_n 2) (len := 1) (r := (0, 0, 0, 0)) (pc' := 36) (ls' := [some (.inl (some RA)), some (.inl (some RB)), some (zi xi)]) (st' := [zi xi, .inl (some IB), zi xi, .inl (some IA)]) (by decide +kernel) (fun k q => by cases q) rfl ?_
      obtain ⟨v2240, hv2241, lv2240, uv2240⟩ := g_int (i := i) hg tIB aw1005 (show i < 5 by omega) (sr1 (by omega))
      refine y_ial (i := i) (len := 1) (r := (0, 0, 0, 0)) (by decide +kernel) hg tIB aw1005 (by omega) hv2241 ?_
      refine y_ias (i := i) (len := 1) (r := (0, 0, 0, 0)) (by decide +kernel) hg tIA aw1007 rfl (by omega) (by omega) (sr1 (by omega)) (qin_full _).1 (qin_full _).2 (fun h2242 hg2242 hl2242 hs2242 ho2242 => ?_)
      refine y_inc (j := 2) (a := xi) (c := 1) (ls' := fun v => [some (.inl (some RA)), some (.inl (some RB)), some v]) (len := 3) (r := (0, 0, 0, 0)) (by decide +kernel) rfl (fun _ => rfl) (by decide) (by omega) (by omega) (fun y2243 hy2243 => ?_)
      show qX d 71 41 [some (.inl (some RA)), some (.inl (some RB)), some (zi y2243)] [] h2242 t _
      refine y_goto (off := (-23)) (pc' := 18) (len := 3) (r := (0, 0, 0, 0)) (by decide +kernel) (by decide +kernel) ?_
      refine ih h2242 (i + 1) y2243 hg2242 ((ho2242 RA 1 (Or.inl (by omega))).trans hm) ((ho2242 RA 0 (Or.inl (by omega))).trans pA) ((ho2242 RB 0 (Or.inl (by omega))).trans pB) (fun j hj => ?_) (fun k j hk => (ho2242 k j (Or.inl hk)).trans (c2 k j hk)) (by omega) (by omega) (by omega)
      rcases Nat.lt_or_ge j i with q9 | q9
      · exact (ho2242 IA j (Or.inr (by omega))).trans (c1 j q9)
      · have e9 : j = i := by omega
        subst e9
        exact hs2242.trans ((c2 IB j (by omega)).symm.trans hv2241).symm
    ·
      refine y_same (i := .iload_n 2) (len := 1) (r := (0, 0, 0, 0)) (pc' := 19) (ls' := [some (.inl (some RA)), some (.inl (some RB)), some (zi xi)]) (st' := [zi xi]) (by decide +kernel) (fun k q => by cases q) rfl ?_
      refine y_same (i := .aload_n 0) (len := 1) (r := (0, 0, 0, 0)) (pc' := 20) (ls' := [some (.inl (some RA)), some (.inl (some RB)), some (zi xi)]) (st' := [.inl (some RA), zi xi]) (by decide +kernel) (fun k q => by cases q) rfl ?_
      refine y_get (j := 9) (len := 3) (r := (6, 1, 0, 164)) (by decide +kernel) hg tRA aw1004 rfl rfl hm ?_
      refine y_cT (c := .ge) (off := 21) (pc' := 44) (len := 3) (r := (0, 0, 0, 0)) (by decide +kernel) (acmpT (c := .ge) (by show _ ≤ _; omega)) (by decide +kernel) ?_
      refine y_rV (len := 1) (r := (0, 0, 0, 0)) (nL := 3) (n9 := 2) (hs := []) (by decide +kernel) rfl ?_
      exact ⟨hg, fun j hj => c1 j (by omega), c2⟩
theorem e_cpr14a {d t RA RB IA IB : Nat} {τ : List Nat} {h : zh} {l : List it4} (hg : hG τ h) (tRA : τ[RA]? = some 1004) (tIA : τ[IA]? = some 1007) (tRB : τ[RB]? = some 1002) (tIB : τ[IB]? = some 1005) (n1 : RA ≠ RB) (n2 : IA ≠ IB) (n3 : RA ≠ IA) (n4 : RA ≠ IB) (n5 : RB ≠ IA) (pA : hsl h RA 0 = some (.inl (some IA))) (pB : hsl h RB 0 = some (.inl (some IB))) (r : rwC h RB IB l) : qV (d + 2) 71 [some (.inl (some RA)), some (.inl (some RB)), none] h t (fun h1 => hG τ h1 ∧ rwC h1 RA IA l ∧ ∀ k j, (k ≠ IA ∧ (k ≠ RA ∨ j ≠ 1)) → hsl h1 k j = hsl h k j) := by
  obtain ⟨⟨xl, hl, el⟩, it⟩ := r
  obtain ⟨x9, e9, l9, u9⟩ := g_int (i := 1) (lo := 0) (hi := 5) hg tRB aw1002 (by decide) rfl
  have e8 := hl.symm.trans e9
  cases e8
  refine qV_of ?_
  refine y_same (i := .aload_n 0) (len := 1) (r := (0, 0, 0, 0)) (pc' := 1) (ls' := [some (.inl (some RA)), some (.inl (some RB)), none]) (st' := [.inl (some RA)]) (by decide +kernel) (fun k q => by cases q) rfl ?_
  refine y_same (i := .aload_n 1) (len := 1) (r := (0, 0, 0, 0)) (pc' := 2) (ls' := [some (.inl (some RA)), some (.inl (some RB)), none]) (st' := [.inl (some RB), .inl (some RA)]) (by decide +kernel) (fun k q => by cases q) rfl ?_
  refine y_get (j := 9) (len := 3) (r := (6, 1, 0, 164)) (by decide +kernel) hg tRB aw1002 rfl rfl hl ?_
  refine y_same (i := .aload_n 0) (len := 1) (r := (0, 0, 0, 0)) (pc' := 6) (ls' := [some (.inl (some RA)), some (.inl (some RB)), none]) (st' := [.inl (some RA), zi xl, .inl (some RA)]) (by decide +kernel) (fun k q => by cases q) rfl ?_
  refine y_get (j := 15) (len := 3) (r := (6, 0, 2, 163)) (by decide +kernel) hg tRA aw1004 rfl rfl pA ?_
  refine y_aln (len := 1) (r := (0, 0, 0, 0)) (by decide +kernel) hg tIA aw1007 (by decide) (fun y2244 hy2244 => ?_)
  refine y_cI (i := .invokestatic 23) (len := 3) (r := (1, 267, 60, 466)) (nL := 2) (k := 1) (n := 2) (hs := []) (args := [zi xl, zi y2244]) (rest := [.inl (some RA)]) (l0 := [some (zi xl), some (zi y2244)]) (by decide +kernel) (Or.inl ⟨_, rfl⟩) rfl rfl rfl rfl (Nat.le_of_ble_eq_true rfl) rfl rfl (qI_le (by omega) (e_jmin (d := 0))) (fun y2245 qy2245 hRy2245 => ?_)
  obtain ⟨rfl, my2245, wy2245⟩ := hRy2245
  have ey2245 : y2245.toInt = (l.length : Int) := by omega
  refine y_put (j := 9) (lo := 0) (hi := 14) (len := 3) (r := (6, 1, 0, 164)) (by decide +kernel) hg tRA aw1004 rfl rfl (by decide) rfl (by omega) (by omega) rfl (fun h2246 hg2246 hl2246 hs2246 ho2246 => ?_)
  have ho2246 : hO RA 1 h h2246 := ho2246
  have hs2246 : hsl h2246 RA 1 = some (zi y2245) := hs2246
  refine y_ic (c := 0) (len := 1) (r := (0, 0, 0, 0)) (by decide +kernel) (by decide) (fun y2247 hy2247 => ?_)
  refine y_same (i := .istore_n 2) (len := 1) (r := (0, 0, 0, 0)) (pc' := 18) (ls' := [some (.inl (some RA)), some (.inl (some RB)), some (zi y2247)]) (st' := []) (by decide +kernel) (fun k q => by cases q) rfl ?_
  refine qX_V (cpr14a_l (m := l.length) (h0 := h2246) tRA tIA tRB tIB n1 n2 n3 n4 n5 (by omega) (by omega) 5 h2246 0 y2247 hg2246 hs2246 ((ho2246 RA 0 (Or.inr (by omega))).trans pA) ((ho2246 RB 0 (Or.inl (by omega))).trans pB) (fun j hj => absurd hj (Nat.not_lt_zero j)) (fun k j _ => rfl) (by omega) (by omega) (by omega)) (fun h1 hR => ?_)
  obtain ⟨g1, c1, c2⟩ := hR
  refine ⟨g1, ⟨⟨y2245, (c2 RA 1 n3).trans hs2246, by omega⟩, fun j i hj => ?_⟩, fun k j hk => (c2 k j hk.1).trans (ho2246 k j hk.2)⟩
  obtain ⟨x, a, b⟩ := it j i hj
  exact ⟨x, (c1 j (List.getElem?_eq_some_iff.mp hj).1).trans ((ho2246 IB j (Or.inl (by omega))).trans a), b⟩
theorem cpr14b_l {d t m RA RB IA IB : Nat} {τ : List Nat} {h0 : zh} {xm : Int32} (tRA : τ[RA]? = some 1004) (tIA : τ[IA]? = some 1007) (tRB : τ[RB]? = some 1003) (tIB : τ[IB]? = some 1006) (n1 : RA ≠ RB) (n2 : IA ≠ IB) (n3 : RA ≠ IA) (n4 : RA ≠ IB) (n5 : RB ≠ IA) (em : xm.toInt = (m : Int)) (hm5 : m ≤ 6) : ∀ (n : Nat) (h : zh) (i : Nat) (xi : Int32), hG τ h → hsl h RA 1 = some (zi xm) → hsl h RA 0 = some (.inl (some IA)) → hsl h RB 0 = some (.inl (some IB)) → (∀ j, j < i → hsl h IA j = hsl h0 IB j) → (∀ k j, k ≠ IA → hsl h k j = hsl h0 k j) → xi.toInt = (i : Int) → i ≤ m → m ≤ i + n → qX d 71 18 [some (.inl (some RA)), some (.inl (some RB)), some (zi xi)] [] h t (rV (fun h1 => hG τ h1 ∧ (∀ j, j < m → hsl h1 IA j = hsl h0 IB j) ∧ ∀ k j, k ≠ IA → hsl h1 k j = hsl h0 k j) t) := by
  intro n
  induction n with
  | zero =>
    intro h i xi hg hm pA pB c1 c2 hxi hi hn
    refine y_same (i := .iload_n 2) (len := 1) (r := (0, 0, 0, 0)) (pc' := 19) (ls' := [some (.inl (some RA)), some (.inl (some RB)), some (zi xi)]) (st' := [zi xi]) (by decide +kernel) (fun k q => by cases q) rfl ?_
    refine y_same (i := .aload_n 0) (len := 1) (r := (0, 0, 0, 0)) (pc' := 20) (ls' := [some (.inl (some RA)), some (.inl (some RB)), some (zi xi)]) (st' := [.inl (some RA), zi xi]) (by decide +kernel) (fun k q => by cases q) rfl ?_
    refine y_get (j := 9) (len := 3) (r := (6, 1, 0, 164)) (by decide +kernel) hg tRA aw1004 rfl rfl hm ?_
    refine y_cT (c := .ge) (off := 21) (pc' := 44) (len := 3) (r := (0, 0, 0, 0)) (by decide +kernel) (acmpT (c := .ge) (by show _ ≤ _; omega)) (by decide +kernel) ?_
    refine y_rV (len := 1) (r := (0, 0, 0, 0)) (nL := 3) (n9 := 2) (hs := []) (by decide +kernel) rfl ?_
    exact ⟨hg, fun j hj => c1 j (by omega), c2⟩
  | succ n ih =>
    intro h i xi hg hm pA pB c1 c2 hxi hi hn
    rcases Nat.lt_or_ge i m with q | q
    ·
      refine y_same (i := .iload_n 2) (len := 1) (r := (0, 0, 0, 0)) (pc' := 19) (ls' := [some (.inl (some RA)), some (.inl (some RB)), some (zi xi)]) (st' := [zi xi]) (by decide +kernel) (fun k q => by cases q) rfl ?_
      refine y_same (i := .aload_n 0) (len := 1) (r := (0, 0, 0, 0)) (pc' := 20) (ls' := [some (.inl (some RA)), some (.inl (some RB)), some (zi xi)]) (st' := [.inl (some RA), zi xi]) (by decide +kernel) (fun k q => by cases q) rfl ?_
      refine y_get (j := 9) (len := 3) (r := (6, 1, 0, 164)) (by decide +kernel) hg tRA aw1004 rfl rfl hm ?_
      refine y_cF (c := .ge) (off := 21) (len := 3) (r := (0, 0, 0, 0)) (by decide +kernel) (acmpF (c := .ge) (by show _ < _; omega)) ?_
      refine y_same (i := .aload_n 0) (len := 1) (r := (0, 0, 0, 0)) (pc' := 27) (ls' := [some (.inl (some RA)), some (.inl (some RB)), some (zi xi)]) (st' := [.inl (some RA)]) (by decide +kernel) (fun k q => by cases q) rfl ?_
      refine y_get (j := 15) (len := 3) (r := (6, 0, 2, 163)) (by decide +kernel) hg tRA aw1004 rfl rfl pA ?_
      refine y_same (i := .iload_n 2) (len := 1) (r := (0, 0, 0, 0)) (pc' := 31) (ls' := [some (.inl (some RA)), some (.inl (some RB)), some (zi xi)]) (st' := [zi xi, .inl (some IA)]) (by decide +kernel) (fun k q => by cases q) rfl ?_
      refine y_same (i := .aload_n 1) (len := 1) (r := (0, 0, 0, 0)) (pc' := 32) (ls' := [some (.inl (some RA)), some (.inl (some RB)), some (zi xi)]) (st' := [.inl (some RB), zi xi, .inl (some IA)]) (by decide +kernel) (fun k q => by cases q) rfl ?_
      refine y_get (j := 15) (len := 3) (r := (6, 0, 2, 163)) (by decide +kernel) hg tRB aw1003 rfl rfl pB ?_
      refine y_same (i := .iload_n 2) (len := 1) (r := (0, 0, 0, 0)) (pc' := 36) (ls' := [some (.inl (some RA)), some (.inl (some RB)), some (zi xi)]) (st' := [zi xi, .inl (some IB), zi xi, .inl (some IA)]) (by decide +kernel) (fun k q => by cases q) rfl ?_
      obtain ⟨v2248, hv2249, lv2248, uv2248⟩ := g_int (i := i) hg tIB aw1006 (show i < 6 by omega) (sr1 (by omega))
      refine y_ial (i := i) (len := 1) (r := (0, 0, 0, 0)) (by decide +kernel) hg tIB aw1006 (by omega) hv2249 ?_
      refine y_ias (i := i) (len := 1) (r := (0, 0, 0, 0)) (by decide +kernel) hg tIA aw1007 rfl (by omega) (by omega) (sr1 (by omega)) (qin_full _).1 (qin_full _).2 (fun h2250 hg2250 hl2250 hs2250 ho2250 => ?_)
      refine y_inc (j := 2) (a := xi) (c := 1) (ls' := fun v => [some (.inl (some RA)), some (.inl (some RB)), some v]) (len := 3) (r := (0, 0, 0, 0)) (by decide +kernel) rfl (fun _ => rfl) (by decide) (by omega) (by omega) (fun y2251 hy2251 => ?_)
      show qX d 71 41 [some (.inl (some RA)), some (.inl (some RB)), some (zi y2251)] [] h2250 t _
      refine y_goto (off := (-23)) (pc' := 18) (len := 3) (r := (0, 0, 0, 0)) (by decide +kernel) (by decide +kernel) ?_
      refine ih h2250 (i + 1) y2251 hg2250 ((ho2250 RA 1 (Or.inl (by omega))).trans hm) ((ho2250 RA 0 (Or.inl (by omega))).trans pA) ((ho2250 RB 0 (Or.inl (by omega))).trans pB) (fun j hj => ?_) (fun k j hk => (ho2250 k j (Or.inl hk)).trans (c2 k j hk)) (by omega) (by omega) (by omega)
      rcases Nat.lt_or_ge j i with q9 | q9
      · exact (ho2250 IA j (Or.inr (by omega))).trans (c1 j q9)
      · have e9 : j = i := by omega
        subst e9
        exact hs2250.trans ((c2 IB j (by omega)).symm.trans hv2249).symm
    ·
      refine y_same (i := .iload_n 2) (len := 1) (r := (0, 0, 0, 0)) (pc' := 19) (ls' := [some (.inl (some RA)), some (.inl (some RB)), some (zi xi)]) (st' := [zi xi]) (by decide +kernel) (fun k q => by cases q) rfl ?_
      refine y_same (i := .aload_n 0) (len := 1) (r := (0, 0, 0, 0)) (pc' := 20) (ls' := [some (.inl (some RA)), some (.inl (some RB)), some (zi xi)]) (st' := [.inl (some RA), zi xi]) (by decide +kernel) (fun k q => by cases q) rfl ?_
      refine y_get (j := 9) (len := 3) (r := (6, 1, 0, 164)) (by decide +kernel) hg tRA aw1004 rfl rfl hm ?_
      refine y_cT (c := .ge) (off := 21) (pc' := 44) (len := 3) (r := (0, 0, 0, 0)) (by decide +kernel) (acmpT (c := .ge) (by show _ ≤ _; omega)) (by decide +kernel) ?_
      refine y_rV (len := 1) (r := (0, 0, 0, 0)) (nL := 3) (n9 := 2) (hs := []) (by decide +kernel) rfl ?_
      exact ⟨hg, fun j hj => c1 j (by omega), c2⟩
theorem e_cpr14b {d t RA RB IA IB : Nat} {τ : List Nat} {h : zh} {l : List it4} (hg : hG τ h) (tRA : τ[RA]? = some 1004) (tIA : τ[IA]? = some 1007) (tRB : τ[RB]? = some 1003) (tIB : τ[IB]? = some 1006) (n1 : RA ≠ RB) (n2 : IA ≠ IB) (n3 : RA ≠ IA) (n4 : RA ≠ IB) (n5 : RB ≠ IA) (pA : hsl h RA 0 = some (.inl (some IA))) (pB : hsl h RB 0 = some (.inl (some IB))) (r : rwC h RB IB l) : qV (d + 2) 71 [some (.inl (some RA)), some (.inl (some RB)), none] h t (fun h1 => hG τ h1 ∧ rwC h1 RA IA l ∧ ∀ k j, (k ≠ IA ∧ (k ≠ RA ∨ j ≠ 1)) → hsl h1 k j = hsl h k j) := by
  obtain ⟨⟨xl, hl, el⟩, it⟩ := r
  obtain ⟨x9, e9, l9, u9⟩ := g_int (i := 1) (lo := 0) (hi := 6) hg tRB aw1003 (by decide) rfl
  have e8 := hl.symm.trans e9
  cases e8
  refine qV_of ?_
  refine y_same (i := .aload_n 0) (len := 1) (r := (0, 0, 0, 0)) (pc' := 1) (ls' := [some (.inl (some RA)), some (.inl (some RB)), none]) (st' := [.inl (some RA)]) (by decide +kernel) (fun k q => by cases q) rfl ?_
  refine y_same (i := .aload_n 1) (len := 1) (r := (0, 0, 0, 0)) (pc' := 2) (ls' := [some (.inl (some RA)), some (.inl (some RB)), none]) (st' := [.inl (some RB), .inl (some RA)]) (by decide +kernel) (fun k q => by cases q) rfl ?_
  refine y_get (j := 9) (len := 3) (r := (6, 1, 0, 164)) (by decide +kernel) hg tRB aw1003 rfl rfl hl ?_
  refine y_same (i := .aload_n 0) (len := 1) (r := (0, 0, 0, 0)) (pc' := 6) (ls' := [some (.inl (some RA)), some (.inl (some RB)), none]) (st' := [.inl (some RA), zi xl, .inl (some RA)]) (by decide +kernel) (fun k q => by cases q) rfl ?_
  refine y_get (j := 15) (len := 3) (r := (6, 0, 2, 163)) (by decide +kernel) hg tRA aw1004 rfl rfl pA ?_
  refine y_aln (len := 1) (r := (0, 0, 0, 0)) (by decide +kernel) hg tIA aw1007 (by decide) (fun y2252 hy2252 => ?_)
  refine y_cI (i := .invokestatic 23) (len := 3) (r := (1, 267, 60, 466)) (nL := 2) (k := 1) (n := 2) (hs := []) (args := [zi xl, zi y2252]) (rest := [.inl (some RA)]) (l0 := [some (zi xl), some (zi y2252)]) (by decide +kernel) (Or.inl ⟨_, rfl⟩) rfl rfl rfl rfl (Nat.le_of_ble_eq_true rfl) rfl rfl (qI_le (by omega) (e_jmin (d := 0))) (fun y2253 qy2253 hRy2253 => ?_)
  obtain ⟨rfl, my2253, wy2253⟩ := hRy2253
  have ey2253 : y2253.toInt = (l.length : Int) := by omega
  refine y_put (j := 9) (lo := 0) (hi := 14) (len := 3) (r := (6, 1, 0, 164)) (by decide +kernel) hg tRA aw1004 rfl rfl (by decide) rfl (by omega) (by omega) rfl (fun h2254 hg2254 hl2254 hs2254 ho2254 => ?_)
  have ho2254 : hO RA 1 h h2254 := ho2254
  have hs2254 : hsl h2254 RA 1 = some (zi y2253) := hs2254
  refine y_ic (c := 0) (len := 1) (r := (0, 0, 0, 0)) (by decide +kernel) (by decide) (fun y2255 hy2255 => ?_)
  refine y_same (i := .istore_n 2) (len := 1) (r := (0, 0, 0, 0)) (pc' := 18) (ls' := [some (.inl (some RA)), some (.inl (some RB)), some (zi y2255)]) (st' := []) (by decide +kernel) (fun k q => by cases q) rfl ?_
  refine qX_V (cpr14b_l (m := l.length) (h0 := h2254) tRA tIA tRB tIB n1 n2 n3 n4 n5 (by omega) (by omega) 6 h2254 0 y2255 hg2254 hs2254 ((ho2254 RA 0 (Or.inr (by omega))).trans pA) ((ho2254 RB 0 (Or.inl (by omega))).trans pB) (fun j hj => absurd hj (Nat.not_lt_zero j)) (fun k j _ => rfl) (by omega) (by omega) (by omega)) (fun h1 hR => ?_)
  obtain ⟨g1, c1, c2⟩ := hR
  refine ⟨g1, ⟨⟨y2253, (c2 RA 1 n3).trans hs2254, by omega⟩, fun j i hj => ?_⟩, fun k j hk => (c2 k j hk.1).trans (ho2254 k j hk.2)⟩
  obtain ⟨x, a, b⟩ := it j i hj
  exact ⟨x, (c1 j (List.getElem?_eq_some_iff.mp hj).1).trans ((ho2254 IB j (Or.inl (by omega))).trans a), b⟩
theorem cpr14c_l {d t m RA RB IA IB : Nat} {τ : List Nat} {h0 : zh} {xm : Int32} (tRA : τ[RA]? = some 1004) (tIA : τ[IA]? = some 1007) (tRB : τ[RB]? = some 1004) (tIB : τ[IB]? = some 1007) (n1 : RA ≠ RB) (n2 : IA ≠ IB) (n3 : RA ≠ IA) (n4 : RA ≠ IB) (n5 : RB ≠ IA) (em : xm.toInt = (m : Int)) (hm5 : m ≤ 14) : ∀ (n : Nat) (h : zh) (i : Nat) (xi : Int32), hG τ h → hsl h RA 1 = some (zi xm) → hsl h RA 0 = some (.inl (some IA)) → hsl h RB 0 = some (.inl (some IB)) → (∀ j, j < i → hsl h IA j = hsl h0 IB j) → (∀ k j, k ≠ IA → hsl h k j = hsl h0 k j) → xi.toInt = (i : Int) → i ≤ m → m ≤ i + n → qX d 71 18 [some (.inl (some RA)), some (.inl (some RB)), some (zi xi)] [] h t (rV (fun h1 => hG τ h1 ∧ (∀ j, j < m → hsl h1 IA j = hsl h0 IB j) ∧ ∀ k j, k ≠ IA → hsl h1 k j = hsl h0 k j) t) := by
  intro n
  induction n with
  | zero =>
    intro h i xi hg hm pA pB c1 c2 hxi hi hn
    refine y_same (i := .iload_n 2) (len := 1) (r := (0, 0, 0, 0)) (pc' := 19) (ls' := [some (.inl (some RA)), some (.inl (some RB)), some (zi xi)]) (st' := [zi xi]) (by decide +kernel) (fun k q => by cases q) rfl ?_
    refine y_same (i := .aload_n 0) (len := 1) (r := (0, 0, 0, 0)) (pc' := 20) (ls' := [some (.inl (some RA)), some (.inl (some RB)), some (zi xi)]) (st' := [.inl (some RA), zi xi]) (by decide +kernel) (fun k q => by cases q) rfl ?_
    refine y_get (j := 9) (len := 3) (r := (6, 1, 0, 164)) (by decide +kernel) hg tRA aw1004 rfl rfl hm ?_
    refine y_cT (c := .ge) (off := 21) (pc' := 44) (len := 3) (r := (0, 0, 0, 0)) (by decide +kernel) (acmpT (c := .ge) (by show _ ≤ _; omega)) (by decide +kernel) ?_
    refine y_rV (len := 1) (r := (0, 0, 0, 0)) (nL := 3) (n9 := 2) (hs := []) (by decide +kernel) rfl ?_
    exact ⟨hg, fun j hj => c1 j (by omega), c2⟩
  | succ n ih =>
    intro h i xi hg hm pA pB c1 c2 hxi hi hn
    rcases Nat.lt_or_ge i m with q | q
    ·
      refine y_same (i := .iload_n 2) (len := 1) (r := (0, 0, 0, 0)) (pc' := 19) (ls' := [some (.inl (some RA)), some (.inl (some RB)), some (zi xi)]) (st' := [zi xi]) (by decide +kernel) (fun k q => by cases q) rfl ?_
      refine y_same (i := .aload_n 0) (len := 1) (r := (0, 0, 0, 0)) (pc' := 20) (ls' := [some (.inl (some RA)), some (.inl (some RB)), some (zi xi)]) (st' := [.inl (some RA), zi xi]) (by decide +kernel) (fun k q => by cases q) rfl ?_
      refine y_get (j := 9) (len := 3) (r := (6, 1, 0, 164)) (by decide +kernel) hg tRA aw1004 rfl rfl hm ?_
      refine y_cF (c := .ge) (off := 21) (len := 3) (r := (0, 0, 0, 0)) (by decide +kernel) (acmpF (c := .ge) (by show _ < _; omega)) ?_
      refine y_same (i := .aload_n 0) (len := 1) (r := (0, 0, 0, 0)) (pc' := 27) (ls' := [some (.inl (some RA)), some (.inl (some RB)), some (zi xi)]) (st' := [.inl (some RA)]) (by decide +kernel) (fun k q => by cases q) rfl ?_
      refine y_get (j := 15) (len := 3) (r := (6, 0, 2, 163)) (by decide +kernel) hg tRA aw1004 rfl rfl pA ?_
      refine y_same (i := .iload_n 2) (len := 1) (r := (0, 0, 0, 0)) (pc' := 31) (ls' := [some (.inl (some RA)), some (.inl (some RB)), some (zi xi)]) (st' := [zi xi, .inl (some IA)]) (by decide +kernel) (fun k q => by cases q) rfl ?_
      refine y_same (i := .aload_n 1) (len := 1) (r := (0, 0, 0, 0)) (pc' := 32) (ls' := [some (.inl (some RA)), some (.inl (some RB)), some (zi xi)]) (st' := [.inl (some RB), zi xi, .inl (some IA)]) (by decide +kernel) (fun k q => by cases q) rfl ?_
      refine y_get (j := 15) (len := 3) (r := (6, 0, 2, 163)) (by decide +kernel) hg tRB aw1004 rfl rfl pB ?_
      refine y_same (i := .iload_n 2) (len := 1) (r := (0, 0, 0, 0)) (pc' := 36) (ls' := [some (.inl (some RA)), some (.inl (some RB)), some (zi xi)]) (st' := [zi xi, .inl (some IB), zi xi, .inl (some IA)]) (by decide +kernel) (fun k q => by cases q) rfl ?_
      obtain ⟨v2256, hv2257, lv2256, uv2256⟩ := g_int (i := i) hg tIB aw1007 (show i < 14 by omega) (sr1 (by omega))
      refine y_ial (i := i) (len := 1) (r := (0, 0, 0, 0)) (by decide +kernel) hg tIB aw1007 (by omega) hv2257 ?_
      refine y_ias (i := i) (len := 1) (r := (0, 0, 0, 0)) (by decide +kernel) hg tIA aw1007 rfl (by omega) (by omega) (sr1 (by omega)) (qin_full _).1 (qin_full _).2 (fun h2258 hg2258 hl2258 hs2258 ho2258 => ?_)
      refine y_inc (j := 2) (a := xi) (c := 1) (ls' := fun v => [some (.inl (some RA)), some (.inl (some RB)), some v]) (len := 3) (r := (0, 0, 0, 0)) (by decide +kernel) rfl (fun _ => rfl) (by decide) (by omega) (by omega) (fun y2259 hy2259 => ?_)
      show qX d 71 41 [some (.inl (some RA)), some (.inl (some RB)), some (zi y2259)] [] h2258 t _
      refine y_goto (off := (-23)) (pc' := 18) (len := 3) (r := (0, 0, 0, 0)) (by decide +kernel) (by decide +kernel) ?_
      refine ih h2258 (i + 1) y2259 hg2258 ((ho2258 RA 1 (Or.inl (by omega))).trans hm) ((ho2258 RA 0 (Or.inl (by omega))).trans pA) ((ho2258 RB 0 (Or.inl (by omega))).trans pB) (fun j hj => ?_) (fun k j hk => (ho2258 k j (Or.inl hk)).trans (c2 k j hk)) (by omega) (by omega) (by omega)
      rcases Nat.lt_or_ge j i with q9 | q9
      · exact (ho2258 IA j (Or.inr (by omega))).trans (c1 j q9)
      · have e9 : j = i := by omega
        subst e9
        exact hs2258.trans ((c2 IB j (by omega)).symm.trans hv2257).symm
    ·
      refine y_same (i := .iload_n 2) (len := 1) (r := (0, 0, 0, 0)) (pc' := 19) (ls' := [some (.inl (some RA)), some (.inl (some RB)), some (zi xi)]) (st' := [zi xi]) (by decide +kernel) (fun k q => by cases q) rfl ?_
      refine y_same (i := .aload_n 0) (len := 1) (r := (0, 0, 0, 0)) (pc' := 20) (ls' := [some (.inl (some RA)), some (.inl (some RB)), some (zi xi)]) (st' := [.inl (some RA), zi xi]) (by decide +kernel) (fun k q => by cases q) rfl ?_
      refine y_get (j := 9) (len := 3) (r := (6, 1, 0, 164)) (by decide +kernel) hg tRA aw1004 rfl rfl hm ?_
      refine y_cT (c := .ge) (off := 21) (pc' := 44) (len := 3) (r := (0, 0, 0, 0)) (by decide +kernel) (acmpT (c := .ge) (by show _ ≤ _; omega)) (by decide +kernel) ?_
      refine y_rV (len := 1) (r := (0, 0, 0, 0)) (nL := 3) (n9 := 2) (hs := []) (by decide +kernel) rfl ?_
      exact ⟨hg, fun j hj => c1 j (by omega), c2⟩
theorem e_cpr14c {d t RA RB IA IB : Nat} {τ : List Nat} {h : zh} {l : List it4} (hg : hG τ h) (tRA : τ[RA]? = some 1004) (tIA : τ[IA]? = some 1007) (tRB : τ[RB]? = some 1004) (tIB : τ[IB]? = some 1007) (n1 : RA ≠ RB) (n2 : IA ≠ IB) (n3 : RA ≠ IA) (n4 : RA ≠ IB) (n5 : RB ≠ IA) (pA : hsl h RA 0 = some (.inl (some IA))) (pB : hsl h RB 0 = some (.inl (some IB))) (r : rwC h RB IB l) : qV (d + 2) 71 [some (.inl (some RA)), some (.inl (some RB)), none] h t (fun h1 => hG τ h1 ∧ rwC h1 RA IA l ∧ ∀ k j, (k ≠ IA ∧ (k ≠ RA ∨ j ≠ 1)) → hsl h1 k j = hsl h k j) := by
  obtain ⟨⟨xl, hl, el⟩, it⟩ := r
  obtain ⟨x9, e9, l9, u9⟩ := g_int (i := 1) (lo := 0) (hi := 14) hg tRB aw1004 (by decide) rfl
  have e8 := hl.symm.trans e9
  cases e8
  refine qV_of ?_
  refine y_same (i := .aload_n 0) (len := 1) (r := (0, 0, 0, 0)) (pc' := 1) (ls' := [some (.inl (some RA)), some (.inl (some RB)), none]) (st' := [.inl (some RA)]) (by decide +kernel) (fun k q => by cases q) rfl ?_
  refine y_same (i := .aload_n 1) (len := 1) (r := (0, 0, 0, 0)) (pc' := 2) (ls' := [some (.inl (some RA)), some (.inl (some RB)), none]) (st' := [.inl (some RB), .inl (some RA)]) (by decide +kernel) (fun k q => by cases q) rfl ?_
  refine y_get (j := 9) (len := 3) (r := (6, 1, 0, 164)) (by decide +kernel) hg tRB aw1004 rfl rfl hl ?_
  refine y_same (i := .aload_n 0) (len := 1) (r := (0, 0, 0, 0)) (pc' := 6) (ls' := [some (.inl (some RA)), some (.inl (some RB)), none]) (st' := [.inl (some RA), zi xl, .inl (some RA)]) (by decide +kernel) (fun k q => by cases q) rfl ?_
  refine y_get (j := 15) (len := 3) (r := (6, 0, 2, 163)) (by decide +kernel) hg tRA aw1004 rfl rfl pA ?_
  refine y_aln (len := 1) (r := (0, 0, 0, 0)) (by decide +kernel) hg tIA aw1007 (by decide) (fun y2260 hy2260 => ?_)
  refine y_cI (i := .invokestatic 23) (len := 3) (r := (1, 267, 60, 466)) (nL := 2) (k := 1) (n := 2) (hs := []) (args := [zi xl, zi y2260]) (rest := [.inl (some RA)]) (l0 := [some (zi xl), some (zi y2260)]) (by decide +kernel) (Or.inl ⟨_, rfl⟩) rfl rfl rfl rfl (Nat.le_of_ble_eq_true rfl) rfl rfl (qI_le (by omega) (e_jmin (d := 0))) (fun y2261 qy2261 hRy2261 => ?_)
  obtain ⟨rfl, my2261, wy2261⟩ := hRy2261
  have ey2261 : y2261.toInt = (l.length : Int) := by omega
  refine y_put (j := 9) (lo := 0) (hi := 14) (len := 3) (r := (6, 1, 0, 164)) (by decide +kernel) hg tRA aw1004 rfl rfl (by decide) rfl (by omega) (by omega) rfl (fun h2262 hg2262 hl2262 hs2262 ho2262 => ?_)
  have ho2262 : hO RA 1 h h2262 := ho2262
  have hs2262 : hsl h2262 RA 1 = some (zi y2261) := hs2262
  refine y_ic (c := 0) (len := 1) (r := (0, 0, 0, 0)) (by decide +kernel) (by decide) (fun y2263 hy2263 => ?_)
  refine y_same (i := .istore_n 2) (len := 1) (r := (0, 0, 0, 0)) (pc' := 18) (ls' := [some (.inl (some RA)), some (.inl (some RB)), some (zi y2263)]) (st' := []) (by decide +kernel) (fun k q => by cases q) rfl ?_
  refine qX_V (cpr14c_l (m := l.length) (h0 := h2262) tRA tIA tRB tIB n1 n2 n3 n4 n5 (by omega) (by omega) 14 h2262 0 y2263 hg2262 hs2262 ((ho2262 RA 0 (Or.inr (by omega))).trans pA) ((ho2262 RB 0 (Or.inl (by omega))).trans pB) (fun j hj => absurd hj (Nat.not_lt_zero j)) (fun k j _ => rfl) (by omega) (by omega) (by omega)) (fun h1 hR => ?_)
  obtain ⟨g1, c1, c2⟩ := hR
  refine ⟨g1, ⟨⟨y2261, (c2 RA 1 n3).trans hs2262, by omega⟩, fun j i hj => ?_⟩, fun k j hk => (c2 k j hk.1).trans (ho2262 k j hk.2)⟩
  obtain ⟨x, a, b⟩ := it j i hj
  exact ⟨x, (c1 j (List.getElem?_eq_some_iff.mp hj).1).trans ((ho2262 IB j (Or.inl (by omega))).trans a), b⟩
theorem mnV_l {d t : Nat} {τ : List Nat} {h : zh} (hg : hG τ h) {RA IA : Nat} {l : List it4} (tRA : τ[RA]? = some 1004) (tIA : τ[IA]? = some 1007) (pA : hsl h RA 0 = some (.inl (some IA))) (r : rwC h RA IA l) (ok : okL l) : ∀ (n : Nat) (i : Nat) (xb : Int32) (xi : Int32), (bs_ xb (fun v => ∃ (j : Nat) (p : it4), j < i ∧ l[j]? = some p ∧ (p.2.1 = (v : Int) ∨ p.2.2.1 = (v : Int) ∨ p.2.2.2 = (v : Int)))) → (xi.toInt = (i : Int)) → (i ≤ l.length) → (l.length < i + n) → qX (d + 1) 73 4 [some (.inl (some RA)), some (zi xb), some (zi xi)] [] h t (rI (fun y h1 => h = h1 ∧ bs_ y (fun v => mnt l (v : Int))) t) := by
  intro n
  induction n with
  | zero =>
    intro i xb xi hb hxi hi hn
    exfalso
    omega
  | succ n ih =>
    intro i xb xi hb hxi hi hn
    obtain ⟨xl, hl, el⟩ := r.1
    obtain ⟨x9, e9, l9, u9⟩ := g_int (i := 1) (lo := 0) (hi := 14) hg tRA aw1004 (by decide) rfl
    have e8 := hl.symm.trans e9
    cases e8
    refine y_same (i := .iload_n 2) (len := 1) (r := (0, 0, 0, 0)) (pc' := 5) (ls' := [some (.inl (some RA)), some (zi xb), some (zi xi)]) (st' := [zi xi]) (by decide +kernel) (fun k q => by cases q) rfl ?_
    refine y_same (i := .aload_n 0) (len := 1) (r := (0, 0, 0, 0)) (pc' := 6) (ls' := [some (.inl (some RA)), some (zi xb), some (zi xi)]) (st' := [.inl (some RA), zi xi]) (by decide +kernel) (fun k q => by cases q) rfl ?_
    refine y_get (j := 9) (len := 3) (r := (6, 1, 0, 164)) (by decide +kernel) hg tRA aw1004 rfl rfl hl ?_
    rcases Decidable.em (xi.toInt ≥ xl.toInt) with q2264 | q2264
    ·
      refine y_cT (c := .ge) (off := 38) (pc' := 47) (len := 3) (r := (0, 0, 0, 0)) (by decide +kernel) (acmpT (c := .ge) (by show _ ≤ _; omega)) (by decide +kernel) ?_
      refine y_same (i := .iload_n 1) (len := 1) (r := (0, 0, 0, 0)) (pc' := 48) (ls' := [some (.inl (some RA)), some (zi xb), some (zi xi)]) (st' := [zi xb]) (by decide +kernel) (fun k q => by cases q) rfl ?_
      refine y_rI (len := 1) (r := (0, 0, 0, 0)) (nL := 3) (k := 1) (n9 := 1) (hs := []) (by decide +kernel) rfl rfl ?_
      refine ⟨rfl, bs_cg hb (fun v hv => ⟨?_, ?_⟩)⟩
      · rintro ⟨j, q, a1, a2, a3⟩
        exact ⟨q, List.mem_of_getElem? a2, a3⟩
      · rintro ⟨q, m9, a3⟩
        obtain ⟨j, hj⟩ := List.getElem?_of_mem m9
        exact ⟨j, q, by have := (List.getElem?_eq_some_iff.mp hj).1; omega, hj, a3⟩
    ·
      refine y_cF (c := .ge) (off := 38) (len := 3) (r := (0, 0, 0, 0)) (by decide +kernel) (acmpF (c := .ge) (by show _ < _; omega)) ?_
      obtain ⟨ik, hk⟩ : ∃ ik, l[i]? = some ik := ⟨_, List.getElem?_eq_getElem (by omega)⟩
      have okk := ok i ik hk
      have okk2 := okk
      unfold okV at okk2
      refine y_same (i := .iload_n 1) (len := 1) (r := (0, 0, 0, 0)) (pc' := 13) (ls' := [some (.inl (some RA)), some (zi xb), some (zi xi)]) (st' := [zi xb]) (by decide +kernel) (fun k q => by cases q) rfl ?_
      refine y_ic (c := 1) (len := 1) (r := (0, 0, 0, 0)) (by decide +kernel) (by decide) (fun y2265 hy2265 => ?_)
      refine y_same (i := .aload_n 0) (len := 1) (r := (0, 0, 0, 0)) (pc' := 15) (ls' := [some (.inl (some RA)), some (zi xb), some (zi xi)]) (st' := [.inl (some RA), zi y2265, zi xb]) (by decide +kernel) (fun k q => by cases q) rfl ?_
      refine y_same (i := .iload_n 2) (len := 1) (r := (0, 0, 0, 0)) (pc' := 16) (ls' := [some (.inl (some RA)), some (zi xb), some (zi xi)]) (st' := [zi xi, .inl (some RA), zi y2265, zi xb]) (by decide +kernel) (fun k q => by cases q) rfl ?_
      refine y_ic (c := 1) (len := 1) (r := (0, 0, 0, 0)) (by decide +kernel) (by decide) (fun y2266 hy2266 => ?_)
      refine y_cI (i := .invokevirtual 29) (len := 3) (r := (0, 64, 6, 659)) (nL := 3) (k := 1) (n := 3) (hs := []) (args := [.inl (some RA), zi xi, zi y2266]) (rest := [zi y2265, zi xb]) (l0 := [some (.inl (some RA)), some (zi xi), some (zi y2266)]) (by decide +kernel) (Or.inr (Or.inl ⟨_, rfl⟩)) rfl rfl rfl rfl (Nat.le_of_ble_eq_true rfl) (zO hg tRA aw1004 rfl) rfl (qI_le (by omega) (e_tlV (d := 0) (k := i) (w := 1) hg tRA tIA pA r (by omega) hk okk (by omega) (by omega))) (fun y2267 qy2267 hRy2267 => ?_)
      obtain ⟨rfl, ey2267⟩ := hRy2267
      have ey2267 : y2267.toInt = ik.2.1 := ey2267
      refine y_bp (i := .ishl) (f := fun x y => x <<< (y &&& 31)) (len := 1) (r := (0, 0, 0, 0)) (by decide +kernel) rfl rfl (fun y2268 hy2268 => ?_)
      have hy2268 : y2268 = y2265 <<< (y2267 &&& 31) := hy2268
      refine y_ic (c := 1) (len := 1) (r := (0, 0, 0, 0)) (by decide +kernel) (by decide) (fun y2269 hy2269 => ?_)
      refine y_same (i := .aload_n 0) (len := 1) (r := (0, 0, 0, 0)) (pc' := 23) (ls' := [some (.inl (some RA)), some (zi xb), some (zi xi)]) (st' := [.inl (some RA), zi y2269, zi y2268, zi xb]) (by decide +kernel) (fun k q => by cases q) rfl ?_
      refine y_same (i := .iload_n 2) (len := 1) (r := (0, 0, 0, 0)) (pc' := 24) (ls' := [some (.inl (some RA)), some (zi xb), some (zi xi)]) (st' := [zi xi, .inl (some RA), zi y2269, zi y2268, zi xb]) (by decide +kernel) (fun k q => by cases q) rfl ?_
      refine y_ic (c := 2) (len := 1) (r := (0, 0, 0, 0)) (by decide +kernel) (by decide) (fun y2270 hy2270 => ?_)
      refine y_cI (i := .invokevirtual 29) (len := 3) (r := (0, 64, 6, 659)) (nL := 3) (k := 1) (n := 3) (hs := []) (args := [.inl (some RA), zi xi, zi y2270]) (rest := [zi y2269, zi y2268, zi xb]) (l0 := [some (.inl (some RA)), some (zi xi), some (zi y2270)]) (by decide +kernel) (Or.inr (Or.inl ⟨_, rfl⟩)) rfl rfl rfl rfl (Nat.le_of_ble_eq_true rfl) (zO hg tRA aw1004 rfl) rfl (qI_le (by omega) (e_tlV (d := 0) (k := i) (w := 2) hg tRA tIA pA r (by omega) hk okk (by omega) (by omega))) (fun y2271 qy2271 hRy2271 => ?_)
      obtain ⟨rfl, ey2271⟩ := hRy2271
      have ey2271 : y2271.toInt = ik.2.2.1 := ey2271
      refine y_bp (i := .ishl) (f := fun x y => x <<< (y &&& 31)) (len := 1) (r := (0, 0, 0, 0)) (by decide +kernel) rfl rfl (fun y2272 hy2272 => ?_)
      have hy2272 : y2272 = y2269 <<< (y2271 &&& 31) := hy2272
      refine y_bp (i := .ior) (f := fun x y => x ||| y) (len := 1) (r := (0, 0, 0, 0)) (by decide +kernel) rfl rfl (fun y2273 hy2273 => ?_)
      have hy2273 : y2273 = y2268 ||| y2272 := hy2273
      refine y_ic (c := 1) (len := 1) (r := (0, 0, 0, 0)) (by decide +kernel) (by decide) (fun y2274 hy2274 => ?_)
      refine y_same (i := .aload_n 0) (len := 1) (r := (0, 0, 0, 0)) (pc' := 32) (ls' := [some (.inl (some RA)), some (zi xb), some (zi xi)]) (st' := [.inl (some RA), zi y2274, zi y2273, zi xb]) (by decide +kernel) (fun k q => by cases q) rfl ?_
      refine y_same (i := .iload_n 2) (len := 1) (r := (0, 0, 0, 0)) (pc' := 33) (ls' := [some (.inl (some RA)), some (zi xb), some (zi xi)]) (st' := [zi xi, .inl (some RA), zi y2274, zi y2273, zi xb]) (by decide +kernel) (fun k q => by cases q) rfl ?_
      refine y_ic (c := 3) (len := 1) (r := (0, 0, 0, 0)) (by decide +kernel) (by decide) (fun y2275 hy2275 => ?_)
      refine y_cI (i := .invokevirtual 29) (len := 3) (r := (0, 64, 6, 659)) (nL := 3) (k := 1) (n := 3) (hs := []) (args := [.inl (some RA), zi xi, zi y2275]) (rest := [zi y2274, zi y2273, zi xb]) (l0 := [some (.inl (some RA)), some (zi xi), some (zi y2275)]) (by decide +kernel) (Or.inr (Or.inl ⟨_, rfl⟩)) rfl rfl rfl rfl (Nat.le_of_ble_eq_true rfl) (zO hg tRA aw1004 rfl) rfl (qI_le (by omega) (e_tlV (d := 0) (k := i) (w := 3) hg tRA tIA pA r (by omega) hk okk (by omega) (by omega))) (fun y2276 qy2276 hRy2276 => ?_)
      obtain ⟨rfl, ey2276⟩ := hRy2276
      have ey2276 : y2276.toInt = ik.2.2.2 := ey2276
      refine y_bp (i := .ishl) (f := fun x y => x <<< (y &&& 31)) (len := 1) (r := (0, 0, 0, 0)) (by decide +kernel) rfl rfl (fun y2277 hy2277 => ?_)
      have hy2277 : y2277 = y2274 <<< (y2276 &&& 31) := hy2277
      refine y_bp (i := .ior) (f := fun x y => x ||| y) (len := 1) (r := (0, 0, 0, 0)) (by decide +kernel) rfl rfl (fun y2278 hy2278 => ?_)
      have hy2278 : y2278 = y2273 ||| y2277 := hy2278
      refine y_bp (i := .ior) (f := fun x y => x ||| y) (len := 1) (r := (0, 0, 0, 0)) (by decide +kernel) rfl rfl (fun y2279 hy2279 => ?_)
      have hy2279 : y2279 = xb ||| y2278 := hy2279
      refine y_same (i := .istore_n 1) (len := 1) (r := (0, 0, 0, 0)) (pc' := 41) (ls' := [some (.inl (some RA)), some (zi y2279), some (zi xi)]) (st' := []) (by decide +kernel) (fun k q => by cases q) rfl ?_
      refine y_inc (j := 2) (a := xi) (c := 1) (ls' := fun v => [some (.inl (some RA)), some (zi y2279), some v]) (len := 3) (r := (0, 0, 0, 0)) (by decide +kernel) rfl (fun _ => rfl) (by decide) (by omega) (by omega) (fun y2280 hy2280 => ?_)
      show qX (d + 1) 73 44 [some (.inl (some RA)), some (zi y2279), some (zi y2280)] [] h t _
      refine y_goto (off := (-40)) (pc' := 4) (len := 3) (r := (0, 0, 0, 0)) (by decide +kernel) (by decide +kernel) ?_
      have b0 := bs_1 (c := y2265) (y := y2267) (k := ik.2.1) hy2265 ey2267 (by omega) (by omega)
      rw [← hy2268] at b0
      have b1 := bs_1 (c := y2269) (y := y2271) (k := ik.2.2.1) hy2269 ey2271 (by omega) (by omega)
      rw [← hy2272] at b1
      have b2 := bs_1 (c := y2274) (y := y2276) (k := ik.2.2.2) hy2274 ey2276 (by omega) (by omega)
      rw [← hy2277] at b2
      have c0 := bs_or b0 b1
      rw [← hy2273] at c0
      have c1 := bs_or c0 b2
      rw [← hy2278] at c1
      have c2 := bs_or hb c1
      rw [← hy2279] at c2
      refine ih (i + 1) y2279 y2280 (bs_cg c2 (fun v hv => ⟨?_, ?_⟩)) (by omega) (by omega) (by omega)
      · intro h9
        have h8 : (∃ (j : Nat) (p : it4), j < i ∧ l[j]? = some p ∧ (p.2.1 = (v : Int) ∨ p.2.2.1 = (v : Int) ∨ p.2.2.2 = (v : Int))) ∨ (ik.2.1 = (v : Int) ∨ ik.2.2.1 = (v : Int) ∨ ik.2.2.2 = (v : Int)) := h9.elim Or.inl (fun q => Or.inr (q.elim (fun q => q.elim Or.inl (fun q => Or.inr (Or.inl q))) (fun q => Or.inr (Or.inr q))))
        rcases h8 with ⟨j, q, a1, a2⟩ | e9
        · exact ⟨j, q, by omega, a2⟩
        · exact ⟨i, ik, by omega, hk, e9⟩
      · rintro ⟨j, q, a1, a2, a4⟩
        rcases Nat.lt_or_ge j i with q9 | q9
        · exact Or.inl ⟨j, q, q9, a2, a4⟩
        · obtain rfl : j = i := by omega
          cases hk.symm.trans a2
          rcases a4 with a4 | a4 | a4
          · exact Or.inr (Or.inl (Or.inl a4))
          · exact Or.inr (Or.inl (Or.inr a4))
          · exact Or.inr (Or.inr a4)
theorem e_mnV {d t : Nat} {τ : List Nat} {h : zh} (hg : hG τ h) {RA IA : Nat} {l : List it4} (tRA : τ[RA]? = some 1004) (tIA : τ[IA]? = some 1007) (pA : hsl h RA 0 = some (.inl (some IA))) (r : rwC h RA IA l) (ok : okL l) : qI (d + 2) 73 [some (.inl (some RA)), none, none] h t (fun y h1 => h = h1 ∧ bs_ y (fun v => mnt l (v : Int))) := by
  refine qI_of ?_
  refine y_ic (c := 0) (len := 1) (r := (0, 0, 0, 0)) (by decide +kernel) (by decide) (fun y2281 hy2281 => ?_)
  refine y_same (i := .istore_n 1) (len := 1) (r := (0, 0, 0, 0)) (pc' := 2) (ls' := [some (.inl (some RA)), some (zi y2281), none]) (st' := []) (by decide +kernel) (fun k q => by cases q) rfl ?_
  refine y_ic (c := 0) (len := 1) (r := (0, 0, 0, 0)) (by decide +kernel) (by decide) (fun y2282 hy2282 => ?_)
  refine y_same (i := .istore_n 2) (len := 1) (r := (0, 0, 0, 0)) (pc' := 4) (ls' := [some (.inl (some RA)), some (zi y2281), some (zi y2282)]) (st' := []) (by decide +kernel) (fun k q => by cases q) rfl ?_
  exact mnV_l hg tRA tIA pA r ok (l.length + 1) 0 y2281 y2282 (bs_0 (by omega) (fun v => by rintro ⟨j, _, a1, -⟩; omega)) (by omega) (by omega) (by omega)
