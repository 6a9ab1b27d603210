/-! the class's sides are copied, kept and taken back -/
theorem y_pur2 {d mi pc : Nat} {ls : List (Option zv)} {h : zh} {t : Nat} {P : zo × zh × Nat → Prop} {len : Nat} {r : zr} {τ : List Nat} {A T v T2 : Nat} {st' : List zv} {ci j : Nat} {ss : List qs} {nl : Bool} (hf : zfetch mi pc = some (.putfield j, len, r)) (hg : hG τ h) (hA : τ[A]? = some T) (hT : atyp T = some (.inr (ci, ss))) (hp : aprot T = false) (hr : r.1 = ci) (hi9 : r.2.1 < ss.length) (hq : ss[r.2.1]? = some (.inr (.inl (T2, nl)))) (hv : τ[v]? = some T2) (hz : zfit r.2.2.1 (.inl (some v)) = true) (k : ∀ h2 : zh, hG τ h2 → rfs h2 A r.2.1 v → hO A r.2.1 h h2 → qX d mi (pc + 3) ls st' h2 t P) : qX d mi pc ls (.inl (some v) :: .inl (some A) :: st') h t P := by
  obtain ⟨fs, hc, hl⟩ := g_obj hg hA hT
  obtain ⟨k1, k2, k3, k4⟩ := g_put (v := .inl (some v)) hg hA hT hi9 hq (Or.inr ⟨v, rfl, hv⟩) hp
  subst hr
  obtain ⟨x, k, hP⟩ := k _ k1 k3 k4
  exact ⟨x, x_put hf hc (by omega) hz k, hP⟩
theorem lt_mm {τ : List Nat} {h : zh} {k T : Nat} (hg : hG τ h) (hk : τ[k]? = some T) : k < 1000000 := by
  have h1 := (List.getElem?_eq_some_iff.mp hk).1
  have h2 := hg.1.1
  have h3 := hg.1.2.1
  omega
theorem y_nnT {d mi pc : Nat} {ls : List (Option zv)} {h : zh} {t : Nat} {P : zo × zh × Nat → Prop} {len : Nat} {r : zr} {off : Int} {pc' a : Nat} {st' : List zv} (hf : zfetch mi pc = some (.ifnonnull off, len, r)) (ht : ztg pc off = some pc') (ha : a < 1000000) (k : qX d mi pc' ls st' h t P) : qX d mi pc ls (.inl (some a) :: st') h t P := by
  refine y_same hf (fun k q => by cases q) (stH_A' rfl ?_) k
  show (bif Nat.blt a 1000000 then zbr (some true) pc off ls st' else none) = _
  rw [bltT.mpr ha]
  show (match ztg pc off with
    | some t => some (t, ls, st')
    | none => none) = _
  rw [ht]
def rA (v : Nat) (R : zh → Prop) (t : Nat) (x : zo × zh × Nat) : Prop := ∃ h1 : zh, x = (.inl (some (.inl (some v))), h1, t) ∧ R h1
def qA (d mj : Nat) (l0 : List (Option zv)) (h : zh) (t : Nat) (v : Nat) (R : zh → Prop) : Prop := ∃ h1 : zh, qE d mj l0 h t (.inl (some (.inl (some v))), h1, t) ∧ R h1
theorem qA_of {d mj : Nat} {l0 : List (Option zv)} {h : zh} {t v : Nat} {R : zh → Prop} (k : qX d mj 0 l0 [] h t (rA v R t)) : qA (d + 1) mj l0 h t v R := by
  obtain ⟨x, k, h1, rfl, hR⟩ := k
  exact ⟨h1, qE_of k, hR⟩
theorem y_rA {d mi pc : Nat} {ls : List (Option zv)} {h : zh} {t : Nat} {len : Nat} {r : zr} {v nL n9 : Nat} {hs : List (Nat × Nat × Nat × Nat)} {R : zh → Prop} (hf : zfetch mi pc = some (.areturn, len, r)) (hm : zmeth mi = some (nL, 3, n9, hs)) (hR : R h) : qX d mi pc ls [.inl (some v)] h t (rA v R t) := ⟨_, qF_fin (i := .areturn) (f := zisA) hf (Or.inr (Or.inl ⟨rfl, rfl⟩)) hm rfl rfl, h, rfl, hR⟩
theorem cpr5_l {d t m RA RB IA IB : Nat} {τ : List Nat} {h0 : zh} {xm : Int32} (tRA : τ[RA]? = some 1002) (tIA : τ[IA]? = some 1005) (tRB : τ[RB]? = some 1002) (tIB : τ[IB]? = some 1005) (n1 : RA ≠ RB) (n2 : IA ≠ IB) (n3 : RA ≠ IA) (n4 : RA ≠ IB) (n5 : RB ≠ IA) (em : xm.toInt = (m : Int)) (hm5 : m ≤ 5) : ∀ (n : Nat) (h : zh) (i : Nat) (xi : Int32), hG τ h → hsl h RA 1 = some (zi xm) → hsl h RA 0 = some (.inl (some IA)) → hsl h RB 0 = some (.inl (some IB)) → (∀ j, j < i → hsl h IA j = hsl h0 IB j) → (∀ k j, k ≠ IA → hsl h k j = hsl h0 k j) → xi.toInt = (i : Int) → i ≤ m → m ≤ i + n → qX d 71 18 [some (.inl (some RA)), some (.inl (some RB)), some (zi xi)] [] h t (rV (fun h1 => hG τ h1 ∧ (∀ j, j < m → hsl h1 IA j = hsl h0 IB j) ∧ ∀ k j, k ≠ IA → hsl h1 k j = hsl h0 k j) t) := by
  intro n
  induction n with
  | zero =>
    intro h i xi hg hm pA pB c1 c2 hxi hi hn
    refine y_same (i := .iload_n 2) (len := 1) (r := (0, 0, 0, 0)) (pc' := 19) (ls' := [some (.inl (some RA)), some (.inl (some RB)), some (zi xi)]) (st' := [zi xi]) (by decide +kernel) (fun k q => by cases q) rfl ?_
    refine y_same (i := .aload_n 0) (len := 1) (r := (0, 0, 0, 0)) (pc' := 20) (ls' := [some (.inl (some RA)), some (.inl (some RB)), some (zi xi)]) (st' := [.inl (some RA), zi xi]) (by decide +kernel) (fun k q => by cases q) rfl ?_
    refine y_get (j := 9) (len := 3) (r := (6, 1, 0, 164)) (by decide +kernel) hg tRA aw1002 rfl rfl hm ?_
    refine y_cT (c := .ge) (off := 21) (pc' := 44) (len := 3) (r := (0, 0, 0, 0)) (by decide +kernel) (acmpT (c := .ge) (by show _ ≤ _; omega)) (by decide +kernel) ?_
    refine y_rV (len := 1) (r := (0, 0, 0, 0)) (nL := 3) (n9 := 2) (hs := []) (by decide +kernel) rfl ?_
    exact ⟨hg, fun j hj => c1 j (by omega), c2⟩
  | succ n ih =>
    intro h i xi hg hm pA pB c1 c2 hxi hi hn
    rcases Nat.lt_or_ge i m with q | q
    ·
      refine y_same (i := .iload_n 2) (len := 1) (r := (0, 0, 0, 0)) (pc' := 19) (ls' := [some (.inl (some RA)), some (.inl (some RB)), some (zi xi)]) (st' := [zi xi]) (by decide +kernel) (fun k q => by cases q) rfl ?_
      refine y_same (i := .aload_n 0) (len := 1) (r := (0, 0, 0, 0)) (pc' := 20) (ls' := [some (.inl (some RA)), some (.inl (some RB)), some (zi xi)]) (st' := [.inl (some RA), zi xi]) (by decide +kernel) (fun k q => by cases q) rfl ?_
      refine y_get (j := 9) (len := 3) (r := (6, 1, 0, 164)) (by decide +kernel) hg tRA aw1002 rfl rfl hm ?_
      refine y_cF (c := .ge) (off := 21) (len := 3) (r := (0, 0, 0, 0)) (by decide +kernel) (acmpF (c := .ge) (by show _ < _; omega)) ?_
      refine y_same (i := .aload_n 0) (len := 1) (r := (0, 0, 0, 0)) (pc' := 27) (ls' := [some (.inl (some RA)), some (.inl (some RB)), some (zi xi)]) (st' := [.inl (some RA)]) (by decide +kernel) (fun k q => by cases q) rfl ?_
      refine y_get (j := 15) (len := 3) (r := (6, 0, 2, 163)) (by decide +kernel) hg tRA aw1002 rfl rfl pA ?_
      refine y_same (i := .iload_n 2) (len := 1) (r := (0, 0, 0, 0)) (pc' := 31) (ls' := [some (.inl (some RA)), some (.inl (some RB)), some (zi xi)]) (st' := [zi xi, .inl (some IA)]) (by decide +kernel) (fun k q => by cases q) rfl ?_
      refine y_same (i := .aload_n 1) (len := 1) (r := (0, 0, 0, 0)) (pc' := 32) (ls' := [some (.inl (some RA)), some (.inl (some RB)), some (zi xi)]) (st' := [.inl (some RB), zi xi, .inl (some IA)]) (by decide +kernel) (fun k q => by cases q) rfl ?_
      refine y_get (j := 15) (len := 3) (r := (6, 0, 2, 163)) (by decide +kernel) hg tRB aw1002 rfl rfl pB ?_
      refine y_same (i := .iload_n 2) (len := 1) (r := (0, 0, 0, 0)) (pc' := 36) (ls' := [some (.inl (some RA)), some (.inl (some RB)), some (zi xi)]) (st' := [zi xi, .inl (some IB), zi xi, .inl (some IA)]) (by decide +kernel) (fun k q => by cases q) rfl ?_
      obtain ⟨v1809, hv1810, lv1809, uv1809⟩ := g_int (i := i) hg tIB aw1005 (show i < 5 by omega) (sr1 (by omega))
      refine y_ial (i := i) (len := 1) (r := (0, 0, 0, 0)) (by decide +kernel) hg tIB aw1005 (by omega) hv1810 ?_
      refine y_ias (i := i) (len := 1) (r := (0, 0, 0, 0)) (by decide +kernel) hg tIA aw1005 rfl (by omega) (by omega) (sr1 (by omega)) (qin_full _).1 (qin_full _).2 (fun h1811 hg1811 hl1811 hs1811 ho1811 => ?_)
      refine y_inc (j := 2) (a := xi) (c := 1) (ls' := fun v => [some (.inl (some RA)), some (.inl (some RB)), some v]) (len := 3) (r := (0, 0, 0, 0)) (by decide +kernel) rfl (fun _ => rfl) (by decide) (by omega) (by omega) (fun y1812 hy1812 => ?_)
      show qX d 71 41 [some (.inl (some RA)), some (.inl (some RB)), some (zi y1812)] [] h1811 t _
      refine y_goto (off := (-23)) (pc' := 18) (len := 3) (r := (0, 0, 0, 0)) (by decide +kernel) (by decide +kernel) ?_
      refine ih h1811 (i + 1) y1812 hg1811 ((ho1811 RA 1 (Or.inl (by omega))).trans hm) ((ho1811 RA 0 (Or.inl (by omega))).trans pA) ((ho1811 RB 0 (Or.inl (by omega))).trans pB) (fun j hj => ?_) (fun k j hk => (ho1811 k j (Or.inl hk)).trans (c2 k j hk)) (by omega) (by omega) (by omega)
      rcases Nat.lt_or_ge j i with q9 | q9
      · exact (ho1811 IA j (Or.inr (by omega))).trans (c1 j q9)
      · have e9 : j = i := by omega
        subst e9
        exact hs1811.trans ((c2 IB j (by omega)).symm.trans hv1810).symm
    ·
      refine y_same (i := .iload_n 2) (len := 1) (r := (0, 0, 0, 0)) (pc' := 19) (ls' := [some (.inl (some RA)), some (.inl (some RB)), some (zi xi)]) (st' := [zi xi]) (by decide +kernel) (fun k q => by cases q) rfl ?_
      refine y_same (i := .aload_n 0) (len := 1) (r := (0, 0, 0, 0)) (pc' := 20) (ls' := [some (.inl (some RA)), some (.inl (some RB)), some (zi xi)]) (st' := [.inl (some RA), zi xi]) (by decide +kernel) (fun k q => by cases q) rfl ?_
      refine y_get (j := 9) (len := 3) (r := (6, 1, 0, 164)) (by decide +kernel) hg tRA aw1002 rfl rfl hm ?_
      refine y_cT (c := .ge) (off := 21) (pc' := 44) (len := 3) (r := (0, 0, 0, 0)) (by decide +kernel) (acmpT (c := .ge) (by show _ ≤ _; omega)) (by decide +kernel) ?_
      refine y_rV (len := 1) (r := (0, 0, 0, 0)) (nL := 3) (n9 := 2) (hs := []) (by decide +kernel) rfl ?_
      exact ⟨hg, fun j hj => c1 j (by omega), c2⟩
theorem e_cpr5 {d t RA RB IA IB : Nat} {τ : List Nat} {h : zh} {l : List it4} (hg : hG τ h) (tRA : τ[RA]? = some 1002) (tIA : τ[IA]? = some 1005) (tRB : τ[RB]? = some 1002) (tIB : τ[IB]? = some 1005) (n1 : RA ≠ RB) (n2 : IA ≠ IB) (n3 : RA ≠ IA) (n4 : RA ≠ IB) (n5 : RB ≠ IA) (pA : hsl h RA 0 = some (.inl (some IA))) (pB : hsl h RB 0 = some (.inl (some IB))) (r : rwC h RB IB l) : qV (d + 2) 71 [some (.inl (some RA)), some (.inl (some RB)), none] h t (fun h1 => hG τ h1 ∧ rwC h1 RA IA l ∧ ∀ k j, (k ≠ IA ∧ (k ≠ RA ∨ j ≠ 1)) → hsl h1 k j = hsl h k j) := by
  obtain ⟨⟨xl, hl, el⟩, it⟩ := r
  obtain ⟨x9, e9, l9, u9⟩ := g_int (i := 1) (lo := 0) (hi := 5) hg tRB aw1002 (by decide) rfl
  have e8 := hl.symm.trans e9
  cases e8
  refine qV_of ?_
  refine y_same (i := .aload_n 0) (len := 1) (r := (0, 0, 0, 0)) (pc' := 1) (ls' := [some (.inl (some RA)), some (.inl (some RB)), none]) (st' := [.inl (some RA)]) (by decide +kernel) (fun k q => by cases q) rfl ?_
  refine y_same (i := .aload_n 1) (len := 1) (r := (0, 0, 0, 0)) (pc' := 2) (ls' := [some (.inl (some RA)), some (.inl (some RB)), none]) (st' := [.inl (some RB), .inl (some RA)]) (by decide +kernel) (fun k q => by cases q) rfl ?_
  refine y_get (j := 9) (len := 3) (r := (6, 1, 0, 164)) (by decide +kernel) hg tRB aw1002 rfl rfl hl ?_
  refine y_same (i := .aload_n 0) (len := 1) (r := (0, 0, 0, 0)) (pc' := 6) (ls' := [some (.inl (some RA)), some (.inl (some RB)), none]) (st' := [.inl (some RA), zi xl, .inl (some RA)]) (by decide +kernel) (fun k q => by cases q) rfl ?_
  refine y_get (j := 15) (len := 3) (r := (6, 0, 2, 163)) (by decide +kernel) hg tRA aw1002 rfl rfl pA ?_
  refine y_aln (len := 1) (r := (0, 0, 0, 0)) (by decide +kernel) hg tIA aw1005 (by decide) (fun y1813 hy1813 => ?_)
  refine y_cI (i := .invokestatic 23) (len := 3) (r := (1, 267, 60, 466)) (nL := 2) (k := 1) (n := 2) (hs := []) (args := [zi xl, zi y1813]) (rest := [.inl (some RA)]) (l0 := [some (zi xl), some (zi y1813)]) (by decide +kernel) (Or.inl ⟨_, rfl⟩) rfl rfl rfl rfl (Nat.le_of_ble_eq_true rfl) rfl rfl (qI_le (by omega) (e_jmin (d := 0))) (fun y1814 qy1814 hRy1814 => ?_)
  obtain ⟨rfl, my1814, wy1814⟩ := hRy1814
  have ey1814 : y1814.toInt = (l.length : Int) := by omega
  refine y_put (j := 9) (lo := 0) (hi := 5) (len := 3) (r := (6, 1, 0, 164)) (by decide +kernel) hg tRA aw1002 rfl rfl (by decide) rfl (by omega) (by omega) rfl (fun h1815 hg1815 hl1815 hs1815 ho1815 => ?_)
  have ho1815 : hO RA 1 h h1815 := ho1815
  have hs1815 : hsl h1815 RA 1 = some (zi y1814) := hs1815
  refine y_ic (c := 0) (len := 1) (r := (0, 0, 0, 0)) (by decide +kernel) (by decide) (fun y1816 hy1816 => ?_)
  refine y_same (i := .istore_n 2) (len := 1) (r := (0, 0, 0, 0)) (pc' := 18) (ls' := [some (.inl (some RA)), some (.inl (some RB)), some (zi y1816)]) (st' := []) (by decide +kernel) (fun k q => by cases q) rfl ?_
  refine qX_V (cpr5_l (m := l.length) (h0 := h1815) tRA tIA tRB tIB n1 n2 n3 n4 n5 (by omega) (by omega) 5 h1815 0 y1816 hg1815 hs1815 ((ho1815 RA 0 (Or.inr (by omega))).trans pA) ((ho1815 RB 0 (Or.inl (by omega))).trans pB) (fun j hj => absurd hj (Nat.not_lt_zero j)) (fun k j _ => rfl) (by omega) (by omega) (by omega)) (fun h1 hR => ?_)
  obtain ⟨g1, c1, c2⟩ := hR
  refine ⟨g1, ⟨⟨y1814, (c2 RA 1 n3).trans hs1815, by omega⟩, fun j i hj => ?_⟩, fun k j hk => (c2 k j hk.1).trans (ho1815 k j hk.2)⟩
  obtain ⟨x, a, b⟩ := it j i hj
  exact ⟨x, (c1 j (List.getElem?_eq_some_iff.mp hj).1).trans ((ho1815 IB j (Or.inl (by omega))).trans a), b⟩
theorem cpr6_l {d t m RA RB IA IB : Nat} {τ : List Nat} {h0 : zh} {xm : Int32} (tRA : τ[RA]? = some 1003) (tIA : τ[IA]? = some 1006) (tRB : τ[RB]? = some 1003) (tIB : τ[IB]? = some 1006) (n1 : RA ≠ RB) (n2 : IA ≠ IB) (n3 : RA ≠ IA) (n4 : RA ≠ IB) (n5 : RB ≠ IA) (em : xm.toInt = (m : Int)) (hm5 : m ≤ 6) : ∀ (n : Nat) (h : zh) (i : Nat) (xi : Int32), hG τ h → hsl h RA 1 = some (zi xm) → hsl h RA 0 = some (.inl (some IA)) → hsl h RB 0 = some (.inl (some IB)) → (∀ j, j < i → hsl h IA j = hsl h0 IB j) → (∀ k j, k ≠ IA → hsl h k j = hsl h0 k j) → xi.toInt = (i : Int) → i ≤ m → m ≤ i + n → qX d 71 18 [some (.inl (some RA)), some (.inl (some RB)), some (zi xi)] [] h t (rV (fun h1 => hG τ h1 ∧ (∀ j, j < m → hsl h1 IA j = hsl h0 IB j) ∧ ∀ k j, k ≠ IA → hsl h1 k j = hsl h0 k j) t) := by
  intro n
  induction n with
  | zero =>
    intro h i xi hg hm pA pB c1 c2 hxi hi hn
    refine y_same (i := .iload_n 2) (len := 1) (r := (0, 0, 0, 0)) (pc' := 19) (ls' := [some (.inl (some RA)), some (.inl (some RB)), some (zi xi)]) (st' := [zi xi]) (by decide +kernel) (fun k q => by cases q) rfl ?_
    refine y_same (i := .aload_n 0) (len := 1) (r := (0, 0, 0, 0)) (pc' := 20) (ls' := [some (.inl (some RA)), some (.inl (some RB)), some (zi xi)]) (st' := [.inl (some RA), zi xi]) (by decide +kernel) (fun k q => by cases q) rfl ?_
    refine y_get (j := 9) (len := 3) (r := (6, 1, 0, 164)) (by decide +kernel) hg tRA aw1003 rfl rfl hm ?_
    refine y_cT (c := .ge) (off := 21) (pc' := 44) (len := 3) (r := (0, 0, 0, 0)) (by decide +kernel) (acmpT (c := .ge) (by show _ ≤ _; omega)) (by decide +kernel) ?_
    refine y_rV (len := 1) (r := (0, 0, 0, 0)) (nL := 3) (n9 := 2) (hs := []) (by decide +kernel) rfl ?_
    exact ⟨hg, fun j hj => c1 j (by omega), c2⟩
  | succ n ih =>
    intro h i xi hg hm pA pB c1 c2 hxi hi hn
    rcases Nat.lt_or_ge i m with q | q
    ·
      refine y_same (i := .iload_n 2) (len := 1) (r := (0, 0, 0, 0)) (pc' := 19) (ls' := [some (.inl (some RA)), some (.inl (some RB)), some (zi xi)]) (st' := [zi xi]) (by decide +kernel) (fun k q => by cases q) rfl ?_
      refine y_same (i := .aload_n 0) (len := 1) (r := (0, 0, 0, 0)) (pc' := 20) (ls' := [some (.inl (some RA)), some (.inl (some RB)), some (zi xi)]) (st' := [.inl (some RA), zi xi]) (by decide +kernel) (fun k q => by cases q) rfl ?_
      refine y_get (j := 9) (len := 3) (r := (6, 1, 0, 164)) (by decide +kernel) hg tRA aw1003 rfl rfl hm ?_
      refine y_cF (c := .ge) (off := 21) (len := 3) (r := (0, 0, 0, 0)) (by decide +kernel) (acmpF (c := .ge) (by show _ < _; omega)) ?_
      refine y_same (i := .aload_n 0) (len := 1) (r := (0, 0, 0, 0)) (pc' := 27) (ls' := [some (.inl (some RA)), some (.inl (some RB)), some (zi xi)]) (st' := [.inl (some RA)]) (by decide +kernel) (fun k q => by cases q) rfl ?_
      refine y_get (j := 15) (len := 3) (r := (6, 0, 2, 163)) (by decide +kernel) hg tRA aw1003 rfl rfl pA ?_
      refine y_same (i := .iload_n 2) (len := 1) (r := (0, 0, 0, 0)) (pc' := 31) (ls' := [some (.inl (some RA)), some (.inl (some RB)), some (zi xi)]) (st' := [zi xi, .inl (some IA)]) (by decide +kernel) (fun k q => by cases q) rfl ?_
      refine y_same (i := .aload_n 1) (len := 1) (r := (0, 0, 0, 0)) (pc' := 32) (ls' := [some (.inl (some RA)), some (.inl (some RB)), some (zi xi)]) (st' := [.inl (some RB), zi xi, .inl (some IA)]) (by decide +kernel) (fun k q => by cases q) rfl ?_
      refine y_get (j := 15) (len := 3) (r := (6, 0, 2, 163)) (by decide +kernel) hg tRB aw1003 rfl rfl pB ?_
      refine y_same (i := .iload_n 2) (len := 1) (r := (0, 0, 0, 0)) (pc' := 36) (ls' := [some (.inl (some RA)), some (.inl (some RB)), some (zi xi)]) (st' := [zi xi, .inl (some IB), zi xi, .inl (some IA)]) (by decide +kernel) (fun k q => by cases q) rfl ?_
      obtain ⟨v1817, hv1818, lv1817, uv1817⟩ := g_int (i := i) hg tIB aw1006 (show i < 6 by omega) (sr1 (by omega))
      refine y_ial (i := i) (len := 1) (r := (0, 0, 0, 0)) (by decide +kernel) hg tIB aw1006 (by omega) hv1818 ?_
      refine y_ias (i := i) (len := 1) (r := (0, 0, 0, 0)) (by decide +kernel) hg tIA aw1006 rfl (by omega) (by omega) (sr1 (by omega)) (qin_full _).1 (qin_full _).2 (fun h1819 hg1819 hl1819 hs1819 ho1819 => ?_)
      refine y_inc (j := 2) (a := xi) (c := 1) (ls' := fun v => [some (.inl (some RA)), some (.inl (some RB)), some v]) (len := 3) (r := (0, 0, 0, 0)) (by decide +kernel) rfl (fun _ => rfl) (by decide) (by omega) (by omega) (fun y1820 hy1820 => ?_)
      show qX d 71 41 [some (.inl (some RA)), some (.inl (some RB)), some (zi y1820)] [] h1819 t _
      refine y_goto (off := (-23)) (pc' := 18) (len := 3) (r := (0, 0, 0, 0)) (by decide +kernel) (by decide +kernel) ?_
      refine ih h1819 (i + 1) y1820 hg1819 ((ho1819 RA 1 (Or.inl (by omega))).trans hm) ((ho1819 RA 0 (Or.inl (by omega))).trans pA) ((ho1819 RB 0 (Or.inl (by omega))).trans pB) (fun j hj => ?_) (fun k j hk => (ho1819 k j (Or.inl hk)).trans (c2 k j hk)) (by omega) (by omega) (by omega)
      rcases Nat.lt_or_ge j i with q9 | q9
      · exact (ho1819 IA j (Or.inr (by omega))).trans (c1 j q9)
      · have e9 : j = i := by omega
        subst e9
        exact hs1819.trans ((c2 IB j (by omega)).symm.trans hv1818).symm
    ·
      refine y_same (i := .iload_n 2) (len := 1) (r := (0, 0, 0, 0)) (pc' := 19) (ls' := [some (.inl (some RA)), some (.inl (some RB)), some (zi xi)]) (st' := [zi xi]) (by decide +kernel) (fun k q => by cases q) rfl ?_
      refine y_same (i := .aload_n 0) (len := 1) (r := (0, 0, 0, 0)) (pc' := 20) (ls' := [some (.inl (some RA)), some (.inl (some RB)), some (zi xi)]) (st' := [.inl (some RA), zi xi]) (by decide +kernel) (fun k q => by cases q) rfl ?_
      refine y_get (j := 9) (len := 3) (r := (6, 1, 0, 164)) (by decide +kernel) hg tRA aw1003 rfl rfl hm ?_
      refine y_cT (c := .ge) (off := 21) (pc' := 44) (len := 3) (r := (0, 0, 0, 0)) (by decide +kernel) (acmpT (c := .ge) (by show _ ≤ _; omega)) (by decide +kernel) ?_
      refine y_rV (len := 1) (r := (0, 0, 0, 0)) (nL := 3) (n9 := 2) (hs := []) (by decide +kernel) rfl ?_
      exact ⟨hg, fun j hj => c1 j (by omega), c2⟩
theorem e_cpr6 {d t RA RB IA IB : Nat} {τ : List Nat} {h : zh} {l : List it4} (hg : hG τ h) (tRA : τ[RA]? = some 1003) (tIA : τ[IA]? = some 1006) (tRB : τ[RB]? = some 1003) (tIB : τ[IB]? = some 1006) (n1 : RA ≠ RB) (n2 : IA ≠ IB) (n3 : RA ≠ IA) (n4 : RA ≠ IB) (n5 : RB ≠ IA) (pA : hsl h RA 0 = some (.inl (some IA))) (pB : hsl h RB 0 = some (.inl (some IB))) (r : rwC h RB IB l) : qV (d + 2) 71 [some (.inl (some RA)), some (.inl (some RB)), none] h t (fun h1 => hG τ h1 ∧ rwC h1 RA IA l ∧ ∀ k j, (k ≠ IA ∧ (k ≠ RA ∨ j ≠ 1)) → hsl h1 k j = hsl h k j) := by
  obtain ⟨⟨xl, hl, el⟩, it⟩ := r
  obtain ⟨x9, e9, l9, u9⟩ := g_int (i := 1) (lo := 0) (hi := 6) hg tRB aw1003 (by decide) rfl
  have e8 := hl.symm.trans e9
  cases e8
  refine qV_of ?_
  refine y_same (i := .aload_n 0) (len := 1) (r := (0, 0, 0, 0)) (pc' := 1) (ls' := [some (.inl (some RA)), some (.inl (some RB)), none]) (st' := [.inl (some RA)]) (by decide +kernel) (fun k q => by cases q) rfl ?_
  refine y_same (i := .aload_n 1) (len := 1) (r := (0, 0, 0, 0)) (pc' := 2) (ls' := [some (.inl (some RA)), some (.inl (some RB)), none]) (st' := [.inl (some RB), .inl (some RA)]) (by decide +kernel) (fun k q => by cases q) rfl ?_
  refine y_get (j := 9) (len := 3) (r := (6, 1, 0, 164)) (by decide +kernel) hg tRB aw1003 rfl rfl hl ?_
  refine y_same (i := .aload_n 0) (len := 1) (r := (0, 0, 0, 0)) (pc' := 6) (ls' := [some (.inl (some RA)), some (.inl (some RB)), none]) (st' := [.inl (some RA), zi xl, .inl (some RA)]) (by decide +kernel) (fun k q => by cases q) rfl ?_
  refine y_get (j := 15) (len := 3) (r := (6, 0, 2, 163)) (by decide +kernel) hg tRA aw1003 rfl rfl pA ?_
  refine y_aln (len := 1) (r := (0, 0, 0, 0)) (by decide +kernel) hg tIA aw1006 (by decide) (fun y1821 hy1821 => ?_)
  refine y_cI (i := .invokestatic 23) (len := 3) (r := (1, 267, 60, 466)) (nL := 2) (k := 1) (n := 2) (hs := []) (args := [zi xl, zi y1821]) (rest := [.inl (some RA)]) (l0 := [some (zi xl), some (zi y1821)]) (by decide +kernel) (Or.inl ⟨_, rfl⟩) rfl rfl rfl rfl (Nat.le_of_ble_eq_true rfl) rfl rfl (qI_le (by omega) (e_jmin (d := 0))) (fun y1822 qy1822 hRy1822 => ?_)
  obtain ⟨rfl, my1822, wy1822⟩ := hRy1822
  have ey1822 : y1822.toInt = (l.length : Int) := by omega
  refine y_put (j := 9) (lo := 0) (hi := 6) (len := 3) (r := (6, 1, 0, 164)) (by decide +kernel) hg tRA aw1003 rfl rfl (by decide) rfl (by omega) (by omega) rfl (fun h1823 hg1823 hl1823 hs1823 ho1823 => ?_)
  have ho1823 : hO RA 1 h h1823 := ho1823
  have hs1823 : hsl h1823 RA 1 = some (zi y1822) := hs1823
  refine y_ic (c := 0) (len := 1) (r := (0, 0, 0, 0)) (by decide +kernel) (by decide) (fun y1824 hy1824 => ?_)
  refine y_same (i := .istore_n 2) (len := 1) (r := (0, 0, 0, 0)) (pc' := 18) (ls' := [some (.inl (some RA)), some (.inl (some RB)), some (zi y1824)]) (st' := []) (by decide +kernel) (fun k q => by cases q) rfl ?_
  refine qX_V (cpr6_l (m := l.length) (h0 := h1823) tRA tIA tRB tIB n1 n2 n3 n4 n5 (by omega) (by omega) 6 h1823 0 y1824 hg1823 hs1823 ((ho1823 RA 0 (Or.inr (by omega))).trans pA) ((ho1823 RB 0 (Or.inl (by omega))).trans pB) (fun j hj => absurd hj (Nat.not_lt_zero j)) (fun k j _ => rfl) (by omega) (by omega) (by omega)) (fun h1 hR => ?_)
  obtain ⟨g1, c1, c2⟩ := hR
  refine ⟨g1, ⟨⟨y1822, (c2 RA 1 n3).trans hs1823, by omega⟩, fun j i hj => ?_⟩, fun k j hk => (c2 k j hk.1).trans (ho1823 k j hk.2)⟩
  obtain ⟨x, a, b⟩ := it j i hj
  exact ⟨x, (c1 j (List.getElem?_eq_some_iff.mp hj).1).trans ((ho1823 IB j (Or.inl (by omega))).trans a), b⟩
theorem e_cps {t s q : Nat} {τ : List Nat} {h : zh} {Q : sdT} (hg : hG τ h) (hS : tyS τ s) (hQ : tyS τ q) (lS : laS h s) (lQ : laS h q) (ne : s + 5 ≤ q ∨ q + 5 ≤ s) (r : sdC h q Q) : qV 4 106 [some (.inl (some s)), some (.inl (some q))] h t (fun h1 => hG τ h1 ∧ sdC h1 s Q ∧ ∀ k j, (k ≠ s + 2 ∧ k ≠ s + 4 ∧ ((k ≠ s + 1 ∧ k ≠ s + 3) ∨ j ≠ 1)) → hsl h1 k j = hsl h k j) := by
  refine qV_of ?_
  refine y_same (i := .aload_n 0) (len := 1) (r := (0, 0, 0, 0)) (pc' := 1) (ls' := [some (.inl (some s)), some (.inl (some q))]) (st' := [.inl (some s)]) (by decide +kernel) (fun k q => by cases q) rfl ?_
  refine y_get (j := 14) (len := 3) (r := (8, 0, 2, 178)) (by decide +kernel) hg hS.1 aw1001 rfl rfl lS.1 ?_
  refine y_same (i := .aload_n 1) (len := 1) (r := (0, 0, 0, 0)) (pc' := 5) (ls' := [some (.inl (some s)), some (.inl (some q))]) (st' := [.inl (some q), .inl (some ((s + 1)))]) (by decide +kernel) (fun k q => by cases q) rfl ?_
  refine y_get (j := 14) (len := 3) (r := (8, 0, 2, 178)) (by decide +kernel) hg hQ.1 aw1001 rfl rfl lQ.1 ?_
  refine y_cV (i := .invokevirtual 26) (len := 3) (r := (0, 71, 6, 462)) (nL := 3) (k := 0) (n := 2) (hs := []) (args := [.inl (some ((s + 1))), .inl (some ((q + 1)))]) (rest := []) (l0 := [some (.inl (some ((s + 1)))), some (.inl (some ((q + 1)))), none]) (by decide +kernel) (Or.inr (Or.inl ⟨_, rfl⟩)) rfl rfl rfl rfl (Nat.le_of_ble_eq_true rfl) (zO hg hS.2.1 aw1002 rfl) rfl (qV_le (by decide) (e_cpr5 (d := 0) (RA := (s + 1)) (RB := (q + 1)) (IA := s + 2) (IB := q + 2) hg hS.2.1 hS.2.2.1 hQ.2.1 hQ.2.2.1 (by omega) (by omega) (by omega) (by omega) (by omega) (rfl.trans lS.2.2.1) (rfl.trans lQ.2.2.1) r.1)) (fun h1825 hR1825 => ?_)
  obtain ⟨hg1825, r1825, F1825⟩ := hR1825
  refine y_same (i := .aload_n 0) (len := 1) (r := (0, 0, 0, 0)) (pc' := 12) (ls' := [some (.inl (some s)), some (.inl (some q))]) (st' := [.inl (some s)]) (by decide +kernel) (fun k q => by cases q) rfl ?_
  have hv1826 := (F1825 s 1 (by omega)).trans lS.2.1
  refine y_get (j := 20) (len := 3) (r := (8, 1, 2, 185)) (by decide +kernel) hg1825 hS.1 aw1001 rfl rfl hv1826 ?_
  refine y_same (i := .aload_n 1) (len := 1) (r := (0, 0, 0, 0)) (pc' := 16) (ls' := [some (.inl (some s)), some (.inl (some q))]) (st' := [.inl (some q), .inl (some ((s + 3)))]) (by decide +kernel) (fun k q => by cases q) rfl ?_
  have hv1827 := (F1825 q 1 (by omega)).trans lQ.2.1
  refine y_get (j := 20) (len := 3) (r := (8, 1, 2, 185)) (by decide +kernel) hg1825 hQ.1 aw1001 rfl rfl hv1827 ?_
  refine y_cV (i := .invokevirtual 26) (len := 3) (r := (0, 71, 6, 462)) (nL := 3) (k := 0) (n := 2) (hs := []) (args := [.inl (some ((s + 3))), .inl (some ((q + 3)))]) (rest := []) (l0 := [some (.inl (some ((s + 3)))), some (.inl (some ((q + 3)))), none]) (by decide +kernel) (Or.inr (Or.inl ⟨_, rfl⟩)) rfl rfl rfl rfl (Nat.le_of_ble_eq_true rfl) (zO hg1825 hS.2.2.2.1 aw1003 rfl) rfl (qV_le (by decide) (e_cpr6 (d := 0) (RA := (s + 3)) (RB := (q + 3)) (IA := s + 4) (IB := q + 4) hg1825 hS.2.2.2.1 hS.2.2.2.2 hQ.2.2.2.1 hQ.2.2.2.2 (by omega) (by omega) (by omega) (by omega) (by omega) ((F1825 (s + 3) 0 (by omega)).trans lS.2.2.2) ((F1825 (q + 3) 0 (by omega)).trans lQ.2.2.2) (rwC_up r.2 (F1825 (q + 3) 1 (by omega)) (fun j => (F1825 (q + 4) j (by omega)))))) (fun h1828 hR1828 => ?_)
  obtain ⟨hg1828, r1828, F1828⟩ := hR1828
  refine y_rV (len := 1) (r := (0, 0, 0, 0)) (nL := 2) (n9 := 2) (hs := []) (by decide +kernel) rfl ?_
  exact ⟨hg1828, ⟨rwC_up r1825 (F1828 (s + 1) 1 (by omega)) (fun j => (F1828 (s + 2) j (by omega))), r1828⟩, fun k j hC => ((F1828 k j (by omega)).trans (F1825 k j (by omega)))⟩
theorem lay_u {h : zh} {a u v : Nat} (l : layC h a) (hu : uv_ u v) : laS h (a + u) ∧ laS h (a + v) := by
  rcases hu with ⟨rfl, rfl⟩ | ⟨rfl, rfl⟩
  · exact l
  · exact ⟨l.2, l.1⟩
theorem ty_u {τ : List Nat} {a u v : Nat} (l : tyS τ (a + 1) ∧ tyS τ (a + 6)) (hu : uv_ u v) : tyS τ (a + u) ∧ tyS τ (a + v) := by
  rcases hu with ⟨rfl, rfl⟩ | ⟨rfl, rfl⟩
  · exact l
  · exact ⟨l.2, l.1⟩
theorem e_cpb {t a b u v u' v' : Nat} {τ : List Nat} {h : zh} {B : bsT} (hg : hG τ h) (ha : τ[a]? = some 1000) (hb : τ[b]? = some 1000) (tA : tyS τ (a + 1) ∧ tyS τ (a + 6)) (tB : tyS τ (b + 1) ∧ tyS τ (b + 6)) (huA : uv_ u v) (huB : uv_ u' v') (lA : layC h a) (lB : layC h b) (pA0 : rfs h a 0 (a + u)) (pA1 : rfs h a 1 (a + v)) (hB : bsC h b u' v' B) (ne : a + 11 ≤ b ∨ b + 11 ≤ a) : qV 5 109 [some (.inl (some a)), some (.inl (some b))] h t (fun h1 => hG τ h1 ∧ bsC h1 a u v B ∧ layC h1 a ∧ ∀ k j, ((k < a ∨ a + 11 ≤ k) ∨ k = a ∨ k = a + 1 ∨ k = a + 6 ∨ (j ≠ 1 ∧ (k = a + 2 ∨ k = a + 4 ∨ k = a + 7 ∨ k = a + 9))) → hsl h1 k j = hsl h k j) := by
  obtain ⟨pB0, pB1, r⟩ := hB
  have u1 : (u = 1 ∧ v = 6) ∨ (u = 6 ∧ v = 1) := huA
  have u2 : (u' = 1 ∧ v' = 6) ∨ (u' = 6 ∧ v' = 1) := huB
  refine qV_of ?_
  refine y_same (i := .aload_n 0) (len := 1) (r := (0, 0, 0, 0)) (pc' := 1) (ls' := [some (.inl (some a)), some (.inl (some b))]) (st' := [.inl (some a)]) (by decide +kernel) (fun k q => by cases q) rfl ?_
  refine y_get (j := 10) (len := 3) (r := (9, 0, 2, 197)) (by decide +kernel) hg ha aw1000 rfl rfl pA0 ?_
  refine y_same (i := .aload_n 1) (len := 1) (r := (0, 0, 0, 0)) (pc' := 5) (ls' := [some (.inl (some a)), some (.inl (some b))]) (st' := [.inl (some b), .inl (some ((a + u)))]) (by decide +kernel) (fun k q => by cases q) rfl ?_
  refine y_get (j := 10) (len := 3) (r := (9, 0, 2, 197)) (by decide +kernel) hg hb aw1000 rfl rfl pB0 ?_
  refine y_cV (i := .invokevirtual 19) (len := 3) (r := (0, 106, 8, 458)) (nL := 2) (k := 0) (n := 2) (hs := []) (args := [.inl (some ((a + u))), .inl (some ((b + u')))]) (rest := []) (l0 := [some (.inl (some ((a + u)))), some (.inl (some ((b + u'))))]) (by decide +kernel) (Or.inr (Or.inl ⟨_, rfl⟩)) rfl rfl rfl rfl (Nat.le_of_ble_eq_true rfl) (zO hg (ty_u tA huA).1.1 aw1001 rfl) rfl (qV_le (by decide) (e_cps hg (ty_u tA huA).1 (ty_u tB huB).1 (lay_u lA huA).1 (lay_u lB huB).1 (by omega) r.1)) (fun h1829 hR1829 => ?_)
  obtain ⟨hg1829, r1829, F1829⟩ := hR1829
  refine y_same (i := .aload_n 0) (len := 1) (r := (0, 0, 0, 0)) (pc' := 12) (ls' := [some (.inl (some a)), some (.inl (some b))]) (st' := [.inl (some a)]) (by decide +kernel) (fun k q => by cases q) rfl ?_
  have hv1830 := (F1829 a 1 (by omega)).trans pA1
  refine y_get (j := 16) (len := 3) (r := (9, 1, 2, 202)) (by decide +kernel) hg1829 ha aw1000 rfl rfl hv1830 ?_
  refine y_same (i := .aload_n 1) (len := 1) (r := (0, 0, 0, 0)) (pc' := 16) (ls' := [some (.inl (some a)), some (.inl (some b))]) (st' := [.inl (some b), .inl (some ((a + v)))]) (by decide +kernel) (fun k q => by cases q) rfl ?_
  have hv1831 := (F1829 b 1 (by omega)).trans pB1
  refine y_get (j := 16) (len := 3) (r := (9, 1, 2, 202)) (by decide +kernel) hg1829 hb aw1000 rfl rfl hv1831 ?_
  refine y_cV (i := .invokevirtual 19) (len := 3) (r := (0, 106, 8, 458)) (nL := 2) (k := 0) (n := 2) (hs := []) (args := [.inl (some ((a + v))), .inl (some ((b + v')))]) (rest := []) (l0 := [some (.inl (some ((a + v)))), some (.inl (some ((b + v'))))]) (by decide +kernel) (Or.inr (Or.inl ⟨_, rfl⟩)) rfl rfl rfl rfl (Nat.le_of_ble_eq_true rfl) (zO hg1829 (ty_u tA huA).2.1 aw1001 rfl) rfl (qV_le (by decide) (e_cps hg1829 (ty_u tA huA).2 (ty_u tB huB).2 (laS_up (lay_u lA huA).2 (fun k j h1 => (F1829 k j (by omega)))) (laS_up (lay_u lB huB).2 (fun k j h1 => (F1829 k j (by omega)))) (by omega) (sdC_up r.2 (fun k j h1 h2 => (F1829 k j (by omega)))))) (fun h1832 hR1832 => ?_)
  obtain ⟨hg1832, r1832, F1832⟩ := hR1832
  refine y_rV (len := 1) (r := (0, 0, 0, 0)) (nL := 2) (n9 := 2) (hs := []) (by decide +kernel) rfl ?_
  have FF : ∀ k j, ((k < a ∨ a + 11 ≤ k) ∨ k = a ∨ k = a + 1 ∨ k = a + 6 ∨ (j ≠ 1 ∧ (k = a + 2 ∨ k = a + 4 ∨ k = a + 7 ∨ k = a + 9))) → hsl h1832 k j = hsl h k j := fun k j hC => ((F1832 k j (by omega)).trans (F1829 k j (by omega)))
  exact ⟨hg1832, ⟨rfs_up pA0 (FF _ _ (by omega)), rfs_up pA1 (FF _ _ (by omega)), sdC_up r1829 (fun k j h1 h2 => (F1832 k j (by omega))), r1832⟩, ⟨laS_up lA.1 (fun k j h1 => FF k j (by omega)), laS_up lA.2 (fun k j h1 => FF k j (by omega))⟩, FF⟩
