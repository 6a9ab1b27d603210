/-! a sequent of the reference -/
def sqM (h : zh) (A : Nat) (s : sqT) : Prop := ci_ h A 0 s.1.length ∧ ci_ h A 1 s.2.1.length ∧ ci_ h A 2 s.2.2.1.length ∧ (∀ (j : Nat) (i : it4), s.1[j]? = some i → qdM h A (24 + 4 * j) i) ∧ (∀ (j : Nat) (i : it4), s.2.1[j]? = some i → qdM h A (80 + 4 * j) i) ∧ (∀ (j : Nat) (i : it4), s.2.2.1[j]? = some i → qdM h A (136 + 4 * j) i) ∧ dC h A 3 s.2.2.2
def rwT (τ : List Nat) (A : Nat) : Prop := ∃ (T : Nat) (c : Int), τ[A]? = some T ∧ atyp T = some (.inl (0, 200, wRs c)) ∧ (12 ≤ c ∧ c ≤ 14) ∧ aprot T = false
def QM (τ : List Nat) (h : zh) (A : Nat) (s : sqT) : Prop := hG τ h ∧ rwT τ A ∧ sqM h A s ∧ okQ s
def FM (A : Nat) (h h1 : zh) : Prop := ∀ k j, k ≠ A → hsl h1 k j = hsl h k j
theorem FM_tr {A : Nat} {h h1 h2 : zh} (x : FM A h h1) (y : FM A h1 h2) : FM A h h2 := fun k j c => (y k j c).trans (x k j c)
theorem rwT_r {τ : List Nat} {h : zh} {n : Nat} (hg : hG τ h) (hn : n < 300) : rwT τ (71 + n) := ⟨1012, 12, tuR hg hn, at1012, by decide, rfl⟩
theorem rwT_d {τ : List Nat} {h : zh} (hg : hG τ h) : rwT τ 378 := ⟨378, 14, tu378 hg, at378, by decide, rfl⟩
theorem sqM_up {h h1 : zh} {A : Nat} {s : sqT} (r : sqM h A s) (e : ∀ j, hsl h1 A j = hsl h A j) : sqM h1 A s := by
  obtain ⟨a, b, c, d, f, g, i⟩ := r
  exact ⟨ci_up a (e _), ci_up b (e _), ci_up c (e _), fun j x hj => qdM_up (d j x hj) (fun w _ => e _), fun j x hj => qdM_up (f j x hj) (fun w _ => e _), fun j x hj => qdM_up (g j x hj) (fun w _ => e _), dC_up i e⟩
theorem QM_up {τ : List Nat} {h h1 : zh} {A : Nat} {s : sqT} (Q : QM τ h A s) (g : hG τ h1) (e : ∀ j, hsl h1 A j = hsl h A j) : QM τ h1 A s := ⟨g, Q.2.1, sqM_up Q.2.2.1 e, Q.2.2.2⟩
theorem qm_itL {τ : List Nat} {h : zh} {A k : Nat} {s : sqT} {i : it4} (Q : QM τ h A s) (hk : s.1[k]? = some i) : qdM h A (24 + 4 * k) i := Q.2.2.1.2.2.2.1 k i hk
theorem qm_itR {τ : List Nat} {h : zh} {A k : Nat} {s : sqT} {i : it4} (Q : QM τ h A s) (hk : s.2.1[k]? = some i) : qdM h A (80 + 4 * k) i := Q.2.2.1.2.2.2.2.1 k i hk
theorem qm_itC {τ : List Nat} {h : zh} {A k : Nat} {s : sqT} {i : it4} (Q : QM τ h A s) (hk : s.2.2.1[k]? = some i) : qdM h A (136 + 4 * k) i := Q.2.2.1.2.2.2.2.2.1 k i hk
theorem qm_cnt {τ : List Nat} {h : zh} {A j n : Nat} (hg : hG τ h) (t : rwT τ A) (hj : j < 3) (c : ci_ h A j n) : n ≤ 14 := by
  obtain ⟨T, c0, tA, aT, hc0, pT⟩ := t
  obtain ⟨x, e, f⟩ := c
  obtain ⟨x9, e9, l9, u9⟩ := g_int (i := j) (lo := 0) (hi := c0) hg tA aT (show j < 200 by omega) (srA hj)
  have e8 := e.symm.trans e9
  cases e8
  omega
theorem qm_lenL {τ : List Nat} {h : zh} {A : Nat} {s : sqT} (Q : QM τ h A s) : s.1.length ≤ 14 := qm_cnt Q.1 Q.2.1 (by decide) Q.2.2.1.1
theorem qm_lenR {τ : List Nat} {h : zh} {A : Nat} {s : sqT} (Q : QM τ h A s) : s.2.1.length ≤ 14 := qm_cnt Q.1 Q.2.1 (by decide) Q.2.2.1.2.1
theorem qm_lenC {τ : List Nat} {h : zh} {A : Nat} {s : sqT} (Q : QM τ h A s) : s.2.2.1.length ≤ 14 := qm_cnt Q.1 Q.2.1 (by decide) Q.2.2.1.2.2.1
theorem m_isc {d t : Nat} {h : zh} {x : Int32} : qI (d + 1) 204 [some (zi x)] h t (fun y h1 => h = h1 ∧ ((y.toInt = 1 ∧ (x.toInt = 0 ∨ x.toInt = 1)) ∨ (y.toInt = 0 ∧ ¬ (x.toInt = 0 ∨ x.toInt = 1)))) := by
  refine qI_of ?_
  refine y_same (i := .iload_n 0) (len := 1) (r := (0, 0, 0, 0)) (pc' := 1) (ls' := [some (zi x)]) (st' := [zi x]) (by decide +kernel) (fun k q => by cases q) rfl ?_
  rcases Decidable.em (x.toInt = 0) with q1958 | q1958
  ·
    refine y_iT (c := .eq) (off := 8) (pc' := 9) (len := 3) (r := (0, 0, 0, 0)) (by decide +kernel) (acmpT (c := .eq) (by show _ = _; omega)) (by decide +kernel) ?_
    refine y_ic (c := 1) (len := 1) (r := (0, 0, 0, 0)) (by decide +kernel) (by decide) (fun y1959 hy1959 => ?_)
    refine y_goto (off := 4) (pc' := 14) (len := 3) (r := (0, 0, 0, 0)) (by decide +kernel) (by decide +kernel) ?_
    refine y_rI (len := 1) (r := (0, 0, 0, 0)) (nL := 1) (k := 2) (n9 := 1) (hs := []) (by decide +kernel) rfl (zfit_b (by omega) (by omega)).2 ?_
    exact ⟨rfl, Or.inl ⟨by omega, by omega⟩⟩
  ·
    refine y_iF (c := .eq) (off := 8) (len := 3) (r := (0, 0, 0, 0)) (by decide +kernel) (acmpF (c := .eq) (by show ¬ (_ = _); omega)) ?_
    refine y_same (i := .iload_n 0) (len := 1) (r := (0, 0, 0, 0)) (pc' := 5) (ls' := [some (zi x)]) (st' := [zi x]) (by decide +kernel) (fun k q => by cases q) rfl ?_
    refine y_ic (c := 1) (len := 1) (r := (0, 0, 0, 0)) (by decide +kernel) (by decide) (fun y1960 hy1960 => ?_)
    rcases Decidable.em (x.toInt ≠ y1960.toInt) with q1961 | q1961
    ·
      refine y_cT (c := .ne) (off := 7) (pc' := 13) (len := 3) (r := (0, 0, 0, 0)) (by decide +kernel) (acmpT (c := .ne) (by show ¬ (_ = _); omega)) (by decide +kernel) ?_
      refine y_ic (c := 0) (len := 1) (r := (0, 0, 0, 0)) (by decide +kernel) (by decide) (fun y1962 hy1962 => ?_)
      refine y_rI (len := 1) (r := (0, 0, 0, 0)) (nL := 1) (k := 2) (n9 := 1) (hs := []) (by decide +kernel) rfl (zfit_b (by omega) (by omega)).2 ?_
      exact ⟨rfl, Or.inr ⟨by omega, by omega⟩⟩
    ·
      refine y_cF (c := .ne) (off := 7) (len := 3) (r := (0, 0, 0, 0)) (by decide +kernel) (acmpF (c := .ne) (by show _ = _; omega)) ?_
      refine y_ic (c := 1) (len := 1) (r := (0, 0, 0, 0)) (by decide +kernel) (by decide) (fun y1963 hy1963 => ?_)
      refine y_goto (off := 4) (pc' := 14) (len := 3) (r := (0, 0, 0, 0)) (by decide +kernel) (by decide +kernel) ?_
      refine y_rI (len := 1) (r := (0, 0, 0, 0)) (nL := 1) (k := 2) (n9 := 1) (hs := []) (by decide +kernel) rfl (zfit_b (by omega) (by omega)).2 ?_
      exact ⟨rfl, Or.inl ⟨by omega, by omega⟩⟩
theorem m_fur {d t p A : Nat} {τ : List Nat} {h : zh} {xp xa xb xc xe : Int32} {i : it4} (hg : hG τ h) (rt : rwT τ A) (hx : xp.toInt = (p : Int)) (hp : 24 ≤ p) (hp2 : p + 4 ≤ 200) (ok : okV i) (ea : xa.toInt = i.1) (eb : xb.toInt = i.2.1) (ec : xc.toInt = i.2.2.1) (ee : xe.toInt = i.2.2.2) : qV (d + 1) 179 [some (.inl (some A)), some (zi xp), some (zi xa), some (zi xb), some (zi xc), some (zi xe)] h t (fun h1 => hG τ h1 ∧ qdM h1 A p i ∧ ∀ k j, (k ≠ A ∨ j < p ∨ p + 4 ≤ j) → hsl h1 k j = hsl h k j) := by
  obtain ⟨T, c0, tA, aT, hc0, pT⟩ := rt
  have ok9 := ok
  unfold okV at ok9
  refine qV_of ?_
  refine y_same (i := .aload_n 0) (len := 1) (r := (0, 0, 0, 0)) (pc' := 1) (ls' := [some (.inl (some A)), some (zi xp), some (zi xa), some (zi xb), some (zi xc), some (zi xe)]) (st' := [.inl (some A)]) (by decide +kernel) (fun k q => by cases q) rfl ?_
  refine y_same (i := .iload_n 1) (len := 1) (r := (0, 0, 0, 0)) (pc' := 2) (ls' := [some (.inl (some A)), some (zi xp), some (zi xa), some (zi xb), some (zi xc), some (zi xe)]) (st' := [zi xp, .inl (some A)]) (by decide +kernel) (fun k q => by cases q) rfl ?_
  refine y_same (i := .iload_n 2) (len := 1) (r := (0, 0, 0, 0)) (pc' := 3) (ls' := [some (.inl (some A)), some (zi xp), some (zi xa), some (zi xb), some (zi xc), some (zi xe)]) (st' := [zi xa, zi xp, .inl (some A)]) (by decide +kernel) (fun k q => by cases q) rfl ?_
  refine y_ias (i := p) (len := 1) (r := (0, 0, 0, 0)) (by decide +kernel) hg tA aT pT (by omega) (by omega) (srC (by omega) (by omega)) (by omega) (by omega) (fun h1964 hg1964 hl1964 hs1964 ho1964 => ?_)
  refine y_same (i := .aload_n 0) (len := 1) (r := (0, 0, 0, 0)) (pc' := 5) (ls' := [some (.inl (some A)), some (zi xp), some (zi xa), some (zi xb), some (zi xc), some (zi xe)]) (st' := [.inl (some A)]) (by decide +kernel) (fun k q => by cases q) rfl ?_
  refine y_same (i := .iload_n 1) (len := 1) (r := (0, 0, 0, 0)) (pc' := 6) (ls' := [some (.inl (some A)), some (zi xp), some (zi xa), some (zi xb), some (zi xc), some (zi xe)]) (st' := [zi xp, .inl (some A)]) (by decide +kernel) (fun k q => by cases q) rfl ?_
  refine y_ic (c := 1) (len := 1) (r := (0, 0, 0, 0)) (by decide +kernel) (by decide) (fun y1965 hy1965 => ?_)
  refine y_add (len := 1) (r := (0, 0, 0, 0)) (by decide +kernel) (by omega) (by omega) (fun y1966 hy1966 => ?_)
  refine y_same (i := .iload_n 3) (len := 1) (r := (0, 0, 0, 0)) (pc' := 9) (ls' := [some (.inl (some A)), some (zi xp), some (zi xa), some (zi xb), some (zi xc), some (zi xe)]) (st' := [zi xb, zi y1966, .inl (some A)]) (by decide +kernel) (fun k q => by cases q) rfl ?_
  refine y_ias (i := (p + 1)) (len := 1) (r := (0, 0, 0, 0)) (by decide +kernel) hg1964 tA aT pT (by omega) (by omega) (srC (by omega) (by omega)) (by omega) (by omega) (fun h1967 hg1967 hl1967 hs1967 ho1967 => ?_)
  refine y_same (i := .aload_n 0) (len := 1) (r := (0, 0, 0, 0)) (pc' := 11) (ls' := [some (.inl (some A)), some (zi xp), some (zi xa), some (zi xb), some (zi xc), some (zi xe)]) (st' := [.inl (some A)]) (by decide +kernel) (fun k q => by cases q) rfl ?_
  refine y_same (i := .iload_n 1) (len := 1) (r := (0, 0, 0, 0)) (pc' := 12) (ls' := [some (.inl (some A)), some (zi xp), some (zi xa), some (zi xb), some (zi xc), some (zi xe)]) (st' := [zi xp, .inl (some A)]) (by decide +kernel) (fun k q => by cases q) rfl ?_
  refine y_ic (c := 2) (len := 1) (r := (0, 0, 0, 0)) (by decide +kernel) (by decide) (fun y1968 hy1968 => ?_)
  refine y_add (len := 1) (r := (0, 0, 0, 0)) (by decide +kernel) (by omega) (by omega) (fun y1969 hy1969 => ?_)
  refine y_same (i := .iload 4) (len := 2) (r := (0, 0, 0, 0)) (pc' := 16) (ls' := [some (.inl (some A)), some (zi xp), some (zi xa), some (zi xb), some (zi xc), some (zi xe)]) (st' := [zi xc, zi y1969, .inl (some A)]) (by decide +kernel) (fun k q => by cases q) rfl ?_
  refine y_ias (i := (p + 2)) (len := 1) (r := (0, 0, 0, 0)) (by decide +kernel) hg1967 tA aT pT (by omega) (by omega) (srC (by omega) (by omega)) (by omega) (by omega) (fun h1970 hg1970 hl1970 hs1970 ho1970 => ?_)
  refine y_same (i := .aload_n 0) (len := 1) (r := (0, 0, 0, 0)) (pc' := 18) (ls' := [some (.inl (some A)), some (zi xp), some (zi xa), some (zi xb), some (zi xc), some (zi xe)]) (st' := [.inl (some A)]) (by decide +kernel) (fun k q => by cases q) rfl ?_
  refine y_same (i := .iload_n 1) (len := 1) (r := (0, 0, 0, 0)) (pc' := 19) (ls' := [some (.inl (some A)), some (zi xp), some (zi xa), some (zi xb), some (zi xc), some (zi xe)]) (st' := [zi xp, .inl (some A)]) (by decide +kernel) (fun k q => by cases q) rfl ?_
  refine y_ic (c := 3) (len := 1) (r := (0, 0, 0, 0)) (by decide +kernel) (by decide) (fun y1971 hy1971 => ?_)
  refine y_add (len := 1) (r := (0, 0, 0, 0)) (by decide +kernel) (by omega) (by omega) (fun y1972 hy1972 => ?_)
  refine y_same (i := .iload 5) (len := 2) (r := (0, 0, 0, 0)) (pc' := 23) (ls' := [some (.inl (some A)), some (zi xp), some (zi xa), some (zi xb), some (zi xc), some (zi xe)]) (st' := [zi xe, zi y1972, .inl (some A)]) (by decide +kernel) (fun k q => by cases q) rfl ?_
  refine y_ias (i := (p + 3)) (len := 1) (r := (0, 0, 0, 0)) (by decide +kernel) hg1970 tA aT pT (by omega) (by omega) (srC (by omega) (by omega)) (by omega) (by omega) (fun h1973 hg1973 hl1973 hs1973 ho1973 => ?_)
  refine y_rV (len := 1) (r := (0, 0, 0, 0)) (nL := 6) (n9 := 6) (hs := []) (by decide +kernel) rfl ?_
  have hv1974 := (ho1967 A p (Or.inr (by omega))).trans hs1964
  have hv1975 := (ho1970 A p (Or.inr (by omega))).trans hv1974
  have hv1976 := (ho1973 A p (Or.inr (by omega))).trans hv1975
  have hv1977 := (ho1970 A (p + 1) (Or.inr (by omega))).trans hs1967
  have hv1978 := (ho1973 A (p + 1) (Or.inr (by omega))).trans hv1977
  have hv1979 := (ho1973 A (p + 2) (Or.inr (by omega))).trans hs1970
  exact ⟨hg1973, ⟨xa, xb, xc, xe, ⟨hv1976, hv1978, hv1979, hs1973⟩, ea, eb, ec, ee⟩, fun k j hC => ((ho1973 k j (by omega)).trans ((ho1970 k j (by omega)).trans ((ho1967 k j (by omega)).trans (ho1964 k j (by omega)))))⟩
theorem m_dif {d t A : Nat} {τ : List Nat} {h : zh} {s : sqT} (Q : QM τ h A s) {x y : Nat} {xx xy : Int32} (exx : xx.toInt = (x : Int)) (hx : x ≤ 20) (exy : xy.toInt = (y : Int)) (hy : y ≤ 20) : qI (d + 1) 200 [some (.inl (some A)), some (zi xx), some (zi xy)] h t (fun z h1 => h = h1 ∧ ((z.toInt = 1 ∧ s.2.2.2 x y) ∨ (z.toInt = 0 ∧ ¬ s.2.2.2 x y))) := by
  obtain ⟨T, c0, tA, aT, hc0, pT⟩ := Q.2.1
  refine qI_of ?_
  refine y_same (i := .aload_n 0) (len := 1) (r := (0, 0, 0, 0)) (pc' := 1) (ls' := [some (.inl (some A)), some (zi xx), some (zi xy)]) (st' := [.inl (some A)]) (by decide +kernel) (fun k q => by cases q) rfl ?_
  refine y_ic (c := 3) (len := 1) (r := (0, 0, 0, 0)) (by decide +kernel) (by decide) (fun y1980 hy1980 => ?_)
  refine y_same (i := .iload_n 1) (len := 1) (r := (0, 0, 0, 0)) (pc' := 3) (ls' := [some (.inl (some A)), some (zi xx), some (zi xy)]) (st' := [zi xx, zi y1980, .inl (some A)]) (by decide +kernel) (fun k q => by cases q) rfl ?_
  refine y_add (len := 1) (r := (0, 0, 0, 0)) (by decide +kernel) (by omega) (by omega) (fun y1981 hy1981 => ?_)
  obtain ⟨v1982, hv1982, bv1982⟩ := Q.2.2.1.2.2.2.2.2.2 x (by omega)
  refine y_ial (i := (3 + x)) (len := 1) (r := (0, 0, 0, 0)) (by decide +kernel) Q.1 tA aT (by omega) hv1982 ?_
  refine y_same (i := .iload_n 2) (len := 1) (r := (0, 0, 0, 0)) (pc' := 6) (ls' := [some (.inl (some A)), some (zi xx), some (zi xy)]) (st' := [zi xy, zi v1982]) (by decide +kernel) (fun k q => by cases q) rfl ?_
  refine y_bp (i := .ishr) (f := fun x y => x >>> (y &&& 31)) (len := 1) (r := (0, 0, 0, 0)) (by decide +kernel) rfl rfl (fun y1983 hy1983 => ?_)
  have hy1983 : y1983 = v1982 >>> (xy &&& 31) := hy1983
  refine y_ic (c := 1) (len := 1) (r := (0, 0, 0, 0)) (by decide +kernel) (by decide) (fun y1984 hy1984 => ?_)
  refine y_bp (i := .iand) (f := fun x y => x &&& y) (len := 1) (r := (0, 0, 0, 0)) (by decide +kernel) rfl rfl (fun y1985 hy1985 => ?_)
  have hy1985 : y1985 = y1983 &&& y1984 := hy1985
  refine y_ic (c := 1) (len := 1) (r := (0, 0, 0, 0)) (by decide +kernel) (by decide) (fun y1986 hy1986 => ?_)
  have t9 := bs_t (k := y) bv1982 exy (by omega) hy1983 hy1984 hy1985
  rcases Decidable.em (y1985.toInt ≠ y1986.toInt) with q1987 | q1987
  ·
    refine y_cT (c := .ne) (off := 7) (pc' := 17) (len := 3) (r := (0, 0, 0, 0)) (by decide +kernel) (acmpT (c := .ne) (by show ¬ (_ = _); omega)) (by decide +kernel) ?_
    refine y_ic (c := 0) (len := 1) (r := (0, 0, 0, 0)) (by decide +kernel) (by decide) (fun y1988 hy1988 => ?_)
    refine y_rI (len := 1) (r := (0, 0, 0, 0)) (nL := 3) (k := 2) (n9 := 3) (hs := []) (by decide +kernel) rfl (zfit_b (by omega) (by omega)).2 ?_
    rcases t9 with ⟨q1, q2⟩ | ⟨q1, q2⟩
    · omega
    · exact ⟨rfl, Or.inr ⟨by omega, q2⟩⟩
  ·
    refine y_cF (c := .ne) (off := 7) (len := 3) (r := (0, 0, 0, 0)) (by decide +kernel) (acmpF (c := .ne) (by show _ = _; omega)) ?_
    refine y_ic (c := 1) (len := 1) (r := (0, 0, 0, 0)) (by decide +kernel) (by decide) (fun y1989 hy1989 => ?_)
    refine y_goto (off := 4) (pc' := 18) (len := 3) (r := (0, 0, 0, 0)) (by decide +kernel) (by decide +kernel) ?_
    refine y_rI (len := 1) (r := (0, 0, 0, 0)) (nL := 3) (k := 2) (n9 := 3) (hs := []) (by decide +kernel) rfl (zfit_b (by omega) (by omega)).2 ?_
    rcases t9 with ⟨q1, q2⟩ | ⟨q1, q2⟩
    · exact ⟨rfl, Or.inl ⟨by omega, q2⟩⟩
    · omega
/-- rows of bits, from 3 on -/
def rM (h : zh) (A : Nat) (E : Nat → Nat → Prop) : Prop := ∀ x : Nat, x < 21 → ∃ v : Int32, hsl h A (3 + x) = some (zi v) ∧ bs_ v (E x)
theorem rM_set {h h1 : zh} {A i : Nat} {E E' : Nat → Nat → Prop} {w : Int32} {S : Nat → Prop} (c : rM h A E) (o : hO A (3 + i) h h1) (hs : hsl h1 A (3 + i) = some (zi w)) (hw : bs_ w S) (e1 : ∀ y, y < 32 → (S y ↔ E' i y)) (e2 : ∀ x y, x ≠ i → x < 21 → y < 32 → (E x y ↔ E' x y)) : rM h1 A E' := fun x hx => by
  by_cases q : x = i
  · subst q
    exact ⟨w, hs, bs_cg hw e1⟩
  · obtain ⟨v, a, b⟩ := c x hx
    exact ⟨v, (o A (3 + x) (by omega)).trans a, bs_cg b (fun y hy => e2 x y q hx hy)⟩
theorem rM_to {h : zh} {A : Nat} {E : Nat → Nat → Prop} {D : dfT} (c : rM h A E) (e : ∀ x y : Nat, x < 21 → y < 32 → (E x y ↔ D (x : Int) (y : Int))) : dC h A 3 D := fun x hx => by
  obtain ⟨v, e1, e2⟩ := c x hx
  exact ⟨v, e1, bs_cg e2 (fun y hy => e x y hx hy)⟩
def dRem (D : dfT) (a b : Int) : dfT := fun x y => D x y ∧ ¬ ((x = a ∧ y = b) ∨ (x = b ∧ y = a))
theorem okD_rem {D : dfT} {a b : Int} (o : okD D) : okD (dRem D a b) := ⟨fun x y h => o.1 x y h.1, fun x y h => ⟨o.2 x y h.1, fun q => h.2 (q.elim (fun q => Or.inr ⟨q.2, q.1⟩) (fun q => Or.inl ⟨q.2, q.1⟩))⟩⟩
theorem QM_D {τ : List Nat} {h h1 : zh} {A : Nat} {s : sqT} {D : dfT} (Q : QM τ h A s) (g : hG τ h1) (r : dC h1 A 3 D) (F : ∀ k j, (k ≠ A ∨ j < 3 ∨ 24 ≤ j) → hsl h1 k j = hsl h k j) (ok : okD D) : QM τ h1 A (s.1, s.2.1, s.2.2.1, D) ∧ FM A h h1 := by
  obtain ⟨-, rt, ⟨a, b, c, d, f, k, i⟩, o⟩ := Q
  exact ⟨⟨g, rt, ⟨ci_up a (F _ _ (by omega)), ci_up b (F _ _ (by omega)), ci_up c (F _ _ (by omega)), fun j x hj => qdM_up (d j x hj) (fun w _ => F _ _ (by omega)), fun j x hj => qdM_up (f j x hj) (fun w _ => F _ _ (by omega)), fun j x hj => qdM_up (k j x hj) (fun w _ => F _ _ (by omega)), r⟩, o.1, o.2.1, o.2.2.1, ok⟩, fun k j hC => F k j (Or.inl hC)⟩
theorem m_dfs {d t A : Nat} {τ : List Nat} {h : zh} {s : sqT} (Q : QM τ h A s) {x y : Nat} {xx xy : Int32} (exx : xx.toInt = (x : Int)) (hx : x ≤ 20) (exy : xy.toInt = (y : Int)) (hy : y ≤ 20) : qV (d + 1) 201 [some (.inl (some A)), some (zi xx), some (zi xy)] h t (fun h1 => QM τ h1 A (s.1, s.2.1, s.2.2.1, dAdd s.2.2.2 x y) ∧ FM A h h1) := by
  obtain ⟨T, c0, tA, aT, hc0, pT⟩ := Q.2.1
  refine qV_of ?_
  refine y_same (i := .aload_n 0) (len := 1) (r := (0, 0, 0, 0)) (pc' := 1) (ls' := [some (.inl (some A)), some (zi xx), some (zi xy)]) (st' := [.inl (some A)]) (by decide +kernel) (fun k q => by cases q) rfl ?_
  refine y_ic (c := 3) (len := 1) (r := (0, 0, 0, 0)) (by decide +kernel) (by decide) (fun y1990 hy1990 => ?_)
  refine y_same (i := .iload_n 1) (len := 1) (r := (0, 0, 0, 0)) (pc' := 3) (ls' := [some (.inl (some A)), some (zi xx), some (zi xy)]) (st' := [zi xx, zi y1990, .inl (some A)]) (by decide +kernel) (fun k q => by cases q) rfl ?_
  refine y_add (len := 1) (r := (0, 0, 0, 0)) (by decide +kernel) (by omega) (by omega) (fun y1991 hy1991 => ?_)
  refine y_same (i := .dup2) (len := 1) (r := (0, 0, 0, 0)) (pc' := 5) (ls' := [some (.inl (some A)), some (zi xx), some (zi xy)]) (st' := [zi y1991, .inl (some A), zi y1991, .inl (some A)]) (by decide +kernel) (fun k q => by cases q) rfl ?_
  obtain ⟨v1992, hv1992, bv1992⟩ := Q.2.2.1.2.2.2.2.2.2 x (by omega)
  refine y_ial (i := (3 + x)) (len := 1) (r := (0, 0, 0, 0)) (by decide +kernel) Q.1 tA aT (by omega) hv1992 ?_
  refine y_ic (c := 1) (len := 1) (r := (0, 0, 0, 0)) (by decide +kernel) (by decide) (fun y1993 hy1993 => ?_)
  refine y_same (i := .iload_n 2) (len := 1) (r := (0, 0, 0, 0)) (pc' := 8) (ls' := [some (.inl (some A)), some (zi xx), some (zi xy)]) (st' := [zi xy, zi y1993, zi v1992, zi y1991, .inl (some A)]) (by decide +kernel) (fun k q => by cases q) rfl ?_
  refine y_bp (i := .ishl) (f := fun x y => x <<< (y &&& 31)) (len := 1) (r := (0, 0, 0, 0)) (by decide +kernel) rfl rfl (fun y1994 hy1994 => ?_)
  have hy1994 : y1994 = y1993 <<< (xy &&& 31) := hy1994
  refine y_bp (i := .ior) (f := fun x y => x ||| y) (len := 1) (r := (0, 0, 0, 0)) (by decide +kernel) rfl rfl (fun y1995 hy1995 => ?_)
  have hy1995 : y1995 = v1992 ||| y1994 := hy1995
  refine y_ias (i := (3 + x)) (len := 1) (r := (0, 0, 0, 0)) (by decide +kernel) Q.1 tA aT pT (by omega) (by omega) (srB (by omega) (by omega)) (qin_full _).1 (qin_full _).2 (fun h1996 hg1996 hl1996 hs1996 ho1996 => ?_)
  have b1 := bs_1 (c := y1993) (y := xy) (k := (y : Int)) hy1993 exy (by omega) (by omega)
  rw [← hy1994] at b1
  have b3 := bs_or bv1992 b1
  rw [← hy1995] at b3
  have r0 : rM h A (fun a b => s.2.2.2 (a : Int) (b : Int)) := Q.2.2.1.2.2.2.2.2.2
  have r1 : rM h1996 A (fun a b => s.2.2.2 (a : Int) (b : Int) ∨ (a = x ∧ b = y)) := rM_set r0 ho1996 hs1996 b3 (fun b _ => ⟨fun z => z.elim Or.inl (fun z9 => Or.inr ⟨rfl, by omega⟩), fun z => z.elim Or.inl (fun z9 => Or.inr (by omega))⟩) (fun a b ha _ _ => ⟨Or.inl, fun z => z.elim id (fun z9 => absurd z9.1 ha)⟩)
  obtain ⟨xw, hw, bw⟩ := r1 y (by omega)
  refine y_same (i := .aload_n 0) (len := 1) (r := (0, 0, 0, 0)) (pc' := 12) (ls' := [some (.inl (some A)), some (zi xx), some (zi xy)]) (st' := [.inl (some A)]) (by decide +kernel) (fun k q => by cases q) rfl ?_
  refine y_ic (c := 3) (len := 1) (r := (0, 0, 0, 0)) (by decide +kernel) (by decide) (fun y1997 hy1997 => ?_)
  refine y_same (i := .iload_n 2) (len := 1) (r := (0, 0, 0, 0)) (pc' := 14) (ls' := [some (.inl (some A)), some (zi xx), some (zi xy)]) (st' := [zi xy, zi y1997, .inl (some A)]) (by decide +kernel) (fun k q => by cases q) rfl ?_
  refine y_add (len := 1) (r := (0, 0, 0, 0)) (by decide +kernel) (by omega) (by omega) (fun y1998 hy1998 => ?_)
  refine y_same (i := .dup2) (len := 1) (r := (0, 0, 0, 0)) (pc' := 16) (ls' := [some (.inl (some A)), some (zi xx), some (zi xy)]) (st' := [zi y1998, .inl (some A), zi y1998, .inl (some A)]) (by decide +kernel) (fun k q => by cases q) rfl ?_
  refine y_ial (i := (3 + y)) (len := 1) (r := (0, 0, 0, 0)) (by decide +kernel) hg1996 tA aT (by omega) hw ?_
  refine y_ic (c := 1) (len := 1) (r := (0, 0, 0, 0)) (by decide +kernel) (by decide) (fun y1999 hy1999 => ?_)
  refine y_same (i := .iload_n 1) (len := 1) (r := (0, 0, 0, 0)) (pc' := 19) (ls' := [some (.inl (some A)), some (zi xx), some (zi xy)]) (st' := [zi xx, zi y1999, zi xw, zi y1998, .inl (some A)]) (by decide +kernel) (fun k q => by cases q) rfl ?_
  refine y_bp (i := .ishl) (f := fun x y => x <<< (y &&& 31)) (len := 1) (r := (0, 0, 0, 0)) (by decide +kernel) rfl rfl (fun y2000 hy2000 => ?_)
  have hy2000 : y2000 = y1999 <<< (xx &&& 31) := hy2000
  refine y_bp (i := .ior) (f := fun x y => x ||| y) (len := 1) (r := (0, 0, 0, 0)) (by decide +kernel) rfl rfl (fun y2001 hy2001 => ?_)
  have hy2001 : y2001 = xw ||| y2000 := hy2001
  refine y_ias (i := (3 + y)) (len := 1) (r := (0, 0, 0, 0)) (by decide +kernel) hg1996 tA aT pT (by omega) (by omega) (srB (by omega) (by omega)) (qin_full _).1 (qin_full _).2 (fun h2002 hg2002 hl2002 hs2002 ho2002 => ?_)
  refine y_rV (len := 1) (r := (0, 0, 0, 0)) (nL := 3) (n9 := 3) (hs := []) (by decide +kernel) rfl ?_
  have c1 := bs_1 (c := y1999) (y := xx) (k := (x : Int)) hy1999 exx (by omega) (by omega)
  rw [← hy2000] at c1
  have c3 := bs_or bw c1
  rw [← hy2001] at c3
  have r2 : rM h2002 A (fun a b => (dAdd s.2.2.2 x y) (a : Int) (b : Int)) := rM_set r1 ho2002 hs2002 c3 (fun b _ => ⟨fun z => z.elim (fun z => z.elim Or.inl (fun z9 => Or.inr (Or.inl ⟨by omega, by omega⟩))) (fun z9 => Or.inr (Or.inr ⟨rfl, by omega⟩)), fun z => z.elim (fun z => Or.inl (Or.inl z)) (fun z => z.elim (fun z9 => Or.inl (Or.inr ⟨by omega, by omega⟩)) (fun z9 => Or.inr (by omega)))⟩) (fun a b ha _ _ => ⟨fun z => z.elim Or.inl (fun z9 => Or.inr (Or.inl ⟨by omega, by omega⟩)), fun z => z.elim Or.inl (fun z => z.elim (fun z9 => Or.inr ⟨by omega, by omega⟩) (fun z9 => absurd z9.1 (fun z8 => ha (by omega))))⟩)
  exact QM_D Q hg2002 (rM_to r2 (fun _ _ _ _ => Iff.refl _)) (fun k j hC => (ho2002 k j (by omega)).trans (ho1996 k j (by omega))) (okD_add Q.2.2.2.2.2.2 (by omega) (by omega))
theorem m_agr {d t A : Nat} {τ : List Nat} {h : zh} {s : sqT} (Q : QM τ h A s) {x y : Nat} {xx xy : Int32} (exx : xx.toInt = (x : Int)) (hx : x ≤ 20) (exy : xy.toInt = (y : Int)) (hy : y ≤ 20) : qV (d + 1) 202 [some (.inl (some A)), some (zi xx), some (zi xy)] h t (fun h1 => QM τ h1 A (s.1, s.2.1, s.2.2.1, dRem s.2.2.2 x y) ∧ FM A h h1) := by
  obtain ⟨T, c0, tA, aT, hc0, pT⟩ := Q.2.1
  refine qV_of ?_
  refine y_same (i := .aload_n 0) (len := 1) (r := (0, 0, 0, 0)) (pc' := 1) (ls' := [some (.inl (some A)), some (zi xx), some (zi xy)]) (st' := [.inl (some A)]) (by decide +kernel) (fun k q => by cases q) rfl ?_
  refine y_ic (c := 3) (len := 1) (r := (0, 0, 0, 0)) (by decide +kernel) (by decide) (fun y2003 hy2003 => ?_)
  refine y_same (i := .iload_n 1) (len := 1) (r := (0, 0, 0, 0)) (pc' := 3) (ls' := [some (.inl (some A)), some (zi xx), some (zi xy)]) (st' := [zi xx, zi y2003, .inl (some A)]) (by decide +kernel) (fun k q => by cases q) rfl ?_
  refine y_add (len := 1) (r := (0, 0, 0, 0)) (by decide +kernel) (by omega) (by omega) (fun y2004 hy2004 => ?_)
  refine y_same (i := .dup2) (len := 1) (r := (0, 0, 0, 0)) (pc' := 5) (ls' := [some (.inl (some A)), some (zi xx), some (zi xy)]) (st' := [zi y2004, .inl (some A), zi y2004, .inl (some A)]) (by decide +kernel) (fun k q => by cases q) rfl ?_
  obtain ⟨v2005, hv2005, bv2005⟩ := Q.2.2.1.2.2.2.2.2.2 x (by omega)
  refine y_ial (i := (3 + x)) (len := 1) (r := (0, 0, 0, 0)) (by decide +kernel) Q.1 tA aT (by omega) hv2005 ?_
  refine y_ic (c := 1) (len := 1) (r := (0, 0, 0, 0)) (by decide +kernel) (by decide) (fun y2006 hy2006 => ?_)
  refine y_same (i := .iload_n 2) (len := 1) (r := (0, 0, 0, 0)) (pc' := 8) (ls' := [some (.inl (some A)), some (zi xx), some (zi xy)]) (st' := [zi xy, zi y2006, zi v2005, zi y2004, .inl (some A)]) (by decide +kernel) (fun k q => by cases q) rfl ?_
  refine y_bp (i := .ishl) (f := fun x y => x <<< (y &&& 31)) (len := 1) (r := (0, 0, 0, 0)) (by decide +kernel) rfl rfl (fun y2007 hy2007 => ?_)
  have hy2007 : y2007 = y2006 <<< (xy &&& 31) := hy2007
  refine y_ic (c := (-1)) (len := 1) (r := (0, 0, 0, 0)) (by decide +kernel) (by decide) (fun y2008 hy2008 => ?_)
  refine y_bp (i := .ixor) (f := fun x y => x ^^^ y) (len := 1) (r := (0, 0, 0, 0)) (by decide +kernel) rfl rfl (fun y2009 hy2009 => ?_)
  have hy2009 : y2009 = y2007 ^^^ y2008 := hy2009
  refine y_bp (i := .iand) (f := fun x y => x &&& y) (len := 1) (r := (0, 0, 0, 0)) (by decide +kernel) rfl rfl (fun y2010 hy2010 => ?_)
  have hy2010 : y2010 = v2005 &&& y2009 := hy2010
  refine y_ias (i := (3 + x)) (len := 1) (r := (0, 0, 0, 0)) (by decide +kernel) Q.1 tA aT pT (by omega) (by omega) (srB (by omega) (by omega)) (qin_full _).1 (qin_full _).2 (fun h2011 hg2011 hl2011 hs2011 ho2011 => ?_)
  have b1 := bs_1 (c := y2006) (y := xy) (k := (y : Int)) hy2006 exy (by omega) (by omega)
  rw [← hy2007] at b1
  have b2 := bs_nt b1 hy2008
  rw [← hy2009] at b2
  have b3 := bs_an bv2005 b2
  rw [← hy2010] at b3
  have r0 : rM h A (fun a b => s.2.2.2 (a : Int) (b : Int)) := Q.2.2.1.2.2.2.2.2.2
  have r1 : rM h2011 A (fun a b => s.2.2.2 (a : Int) (b : Int) ∧ ¬ (a = x ∧ b = y)) := rM_set r0 ho2011 hs2011 b3 (fun b _ => ⟨fun z => ⟨z.1, fun z9 => z.2 (by have := z9.2; omega)⟩, fun z => ⟨z.1, fun z9 => z.2 ⟨rfl, by omega⟩⟩⟩) (fun a b ha _ _ => ⟨fun z => ⟨z, fun z9 => ha z9.1⟩, fun z => z.1⟩)
  obtain ⟨xw, hw, bw⟩ := r1 y (by omega)
  refine y_same (i := .aload_n 0) (len := 1) (r := (0, 0, 0, 0)) (pc' := 14) (ls' := [some (.inl (some A)), some (zi xx), some (zi xy)]) (st' := [.inl (some A)]) (by decide +kernel) (fun k q => by cases q) rfl ?_
  refine y_ic (c := 3) (len := 1) (r := (0, 0, 0, 0)) (by decide +kernel) (by decide) (fun y2012 hy2012 => ?_)
  refine y_same (i := .iload_n 2) (len := 1) (r := (0, 0, 0, 0)) (pc' := 16) (ls' := [some (.inl (some A)), some (zi xx), some (zi xy)]) (st' := [zi xy, zi y2012, .inl (some A)]) (by decide +kernel) (fun k q => by cases q) rfl ?_
  refine y_add (len := 1) (r := (0, 0, 0, 0)) (by decide +kernel) (by omega) (by omega) (fun y2013 hy2013 => ?_)
  refine y_same (i := .dup2) (len := 1) (r := (0, 0, 0, 0)) (pc' := 18) (ls' := [some (.inl (some A)), some (zi xx), some (zi xy)]) (st' := [zi y2013, .inl (some A), zi y2013, .inl (some A)]) (by decide +kernel) (fun k q => by cases q) rfl ?_
  refine y_ial (i := (3 + y)) (len := 1) (r := (0, 0, 0, 0)) (by decide +kernel) hg2011 tA aT (by omega) hw ?_
  refine y_ic (c := 1) (len := 1) (r := (0, 0, 0, 0)) (by decide +kernel) (by decide) (fun y2014 hy2014 => ?_)
  refine y_same (i := .iload_n 1) (len := 1) (r := (0, 0, 0, 0)) (pc' := 21) (ls' := [some (.inl (some A)), some (zi xx), some (zi xy)]) (st' := [zi xx, zi y2014, zi xw, zi y2013, .inl (some A)]) (by decide +kernel) (fun k q => by cases q) rfl ?_
  refine y_bp (i := .ishl) (f := fun x y => x <<< (y &&& 31)) (len := 1) (r := (0, 0, 0, 0)) (by decide +kernel) rfl rfl (fun y2015 hy2015 => ?_)
  have hy2015 : y2015 = y2014 <<< (xx &&& 31) := hy2015
  refine y_ic (c := (-1)) (len := 1) (r := (0, 0, 0, 0)) (by decide +kernel) (by decide) (fun y2016 hy2016 => ?_)
  refine y_bp (i := .ixor) (f := fun x y => x ^^^ y) (len := 1) (r := (0, 0, 0, 0)) (by decide +kernel) rfl rfl (fun y2017 hy2017 => ?_)
  have hy2017 : y2017 = y2015 ^^^ y2016 := hy2017
  refine y_bp (i := .iand) (f := fun x y => x &&& y) (len := 1) (r := (0, 0, 0, 0)) (by decide +kernel) rfl rfl (fun y2018 hy2018 => ?_)
  have hy2018 : y2018 = xw &&& y2017 := hy2018
  refine y_ias (i := (3 + y)) (len := 1) (r := (0, 0, 0, 0)) (by decide +kernel) hg2011 tA aT pT (by omega) (by omega) (srB (by omega) (by omega)) (qin_full _).1 (qin_full _).2 (fun h2019 hg2019 hl2019 hs2019 ho2019 => ?_)
  refine y_rV (len := 1) (r := (0, 0, 0, 0)) (nL := 3) (n9 := 3) (hs := []) (by decide +kernel) rfl ?_
  have c1 := bs_1 (c := y2014) (y := xx) (k := (x : Int)) hy2014 exx (by omega) (by omega)
  rw [← hy2015] at c1
  have c2 := bs_nt c1 hy2016
  rw [← hy2017] at c2
  have c3 := bs_an bw c2
  rw [← hy2018] at c3
  have r2 : rM h2019 A (fun a b => (dRem s.2.2.2 x y) (a : Int) (b : Int)) := rM_set r1 ho2019 hs2019 c3 (fun b _ => ⟨fun z => ⟨z.1.1, fun z9 => z9.elim (fun z8 => z.1.2 ⟨by omega, by omega⟩) (fun z8 => z.2 (by omega))⟩, fun z => ⟨⟨z.1, fun z9 => z.2 (Or.inl ⟨by omega, by omega⟩)⟩, fun z9 => z.2 (Or.inr ⟨rfl, by omega⟩)⟩⟩) (fun a b ha _ _ => ⟨fun z => ⟨z.1, fun z9 => z9.elim (fun z8 => z.2 ⟨by omega, by omega⟩) (fun z8 => ha (by omega))⟩, fun z => ⟨z.1, fun z9 => z.2 (Or.inl ⟨by omega, by omega⟩)⟩⟩)
  exact QM_D Q hg2019 (rM_to r2 (fun _ _ _ _ => Iff.refl _)) (fun k j hC => (ho2019 k j (by omega)).trans (ho2011 k j (by omega))) (okD_rem Q.2.2.2.2.2.2)
theorem m_nthL {d t A : Nat} {τ : List Nat} {h : zh} {s : sqT} (Q : QM τ h A s) {k : Nat} {ik : it4} {xp : Int32} (exp : xp.toInt = ((24 + 4 * k : Nat) : Int)) (kik : s.1[k]? = some ik) : qI (d + 1) 214 [some (.inl (some A)), some (zi xp)] h t (fun y h1 => h = h1 ∧ ((y.toInt = 1 ∧ trv ik) ∨ (y.toInt = 0 ∧ ¬ trv ik))) := by
  obtain ⟨T, c0, tA, aT, hc0, pT⟩ := Q.2.1
  have hk9 := (List.getElem?_eq_some_iff.mp kik).1
  have ln := qm_lenL Q
  have oy := (okQ_L Q.2.2.2 kik).2.2
  refine qI_of ?_
  have oik := okQ_L Q.2.2.2 kik
  have pik := oik.1
  unfold okV at pik
  obtain ⟨aik, bik, cik, dik, ⟨haik, hbik, hcik, hdik⟩, eaik, ebik, ecik, edik⟩ := qm_itL Q kik
  refine y_same (i := .aload_n 0) (len := 1) (r := (0, 0, 0, 0)) (pc' := 1) (ls' := [some (.inl (some A)), some (zi xp)]) (st' := [.inl (some A)]) (by decide +kernel) (fun k q => by cases q) rfl ?_
  refine y_same (i := .iload_n 1) (len := 1) (r := (0, 0, 0, 0)) (pc' := 2) (ls' := [some (.inl (some A)), some (zi xp)]) (st' := [zi xp, .inl (some A)]) (by decide +kernel) (fun k q => by cases q) rfl ?_
  refine y_ial (i := (24 + 4 * k)) (len := 1) (r := (0, 0, 0, 0)) (by decide +kernel) Q.1 tA aT (by omega) haik ?_
  refine y_ic (c := 2) (len := 1) (r := (0, 0, 0, 0)) (by decide +kernel) (by decide) (fun y2020 hy2020 => ?_)
  rcases Decidable.em (aik.toInt ≠ y2020.toInt) with q2021 | q2021
  ·
    refine y_cT (c := .ne) (off := 16) (pc' := 20) (len := 3) (r := (0, 0, 0, 0)) (by decide +kernel) (acmpT (c := .ne) (by show ¬ (_ = _); omega)) (by decide +kernel) ?_
    refine y_same (i := .aload_n 0) (len := 1) (r := (0, 0, 0, 0)) (pc' := 21) (ls' := [some (.inl (some A)), some (zi xp)]) (st' := [.inl (some A)]) (by decide +kernel) (fun k q => by cases q) rfl ?_
    refine y_same (i := .iload_n 1) (len := 1) (r := (0, 0, 0, 0)) (pc' := 22) (ls' := [some (.inl (some A)), some (zi xp)]) (st' := [zi xp, .inl (some A)]) (by decide +kernel) (fun k q => by cases q) rfl ?_
    refine y_ial (i := (24 + 4 * k)) (len := 1) (r := (0, 0, 0, 0)) (by decide +kernel) Q.1 tA aT (by omega) haik ?_
    refine y_ic (c := 3) (len := 1) (r := (0, 0, 0, 0)) (by decide +kernel) (by decide) (fun y2022 hy2022 => ?_)
    rcases Decidable.em (aik.toInt ≠ y2022.toInt) with q2023 | q2023
    ·
      refine y_cT (c := .ne) (off := 15) (pc' := 39) (len := 3) (r := (0, 0, 0, 0)) (by decide +kernel) (acmpT (c := .ne) (by show ¬ (_ = _); omega)) (by decide +kernel) ?_
      refine y_ic (c := 0) (len := 1) (r := (0, 0, 0, 0)) (by decide +kernel) (by decide) (fun y2024 hy2024 => ?_)
      refine y_rI (len := 1) (r := (0, 0, 0, 0)) (nL := 2) (k := 2) (n9 := 2) (hs := []) (by decide +kernel) rfl (zfit_b (by omega) (by omega)).2 ?_
      exact ⟨rfl, Or.inr ⟨by omega, fun q9 => by obtain ⟨z1, z2⟩ := q9; omega⟩⟩
    ·
      refine y_cF (c := .ne) (off := 15) (len := 3) (r := (0, 0, 0, 0)) (by decide +kernel) (acmpF (c := .ne) (by show _ = _; omega)) ?_
      refine y_same (i := .aload_n 0) (len := 1) (r := (0, 0, 0, 0)) (pc' := 28) (ls' := [some (.inl (some A)), some (zi xp)]) (st' := [.inl (some A)]) (by decide +kernel) (fun k q => by cases q) rfl ?_
      refine y_same (i := .iload_n 1) (len := 1) (r := (0, 0, 0, 0)) (pc' := 29) (ls' := [some (.inl (some A)), some (zi xp)]) (st' := [zi xp, .inl (some A)]) (by decide +kernel) (fun k q => by cases q) rfl ?_
      refine y_ic (c := 1) (len := 1) (r := (0, 0, 0, 0)) (by decide +kernel) (by decide) (fun y2025 hy2025 => ?_)
      refine y_add (len := 1) (r := (0, 0, 0, 0)) (by decide +kernel) (by omega) (by omega) (fun y2026 hy2026 => ?_)
      refine y_ial (i := ((24 + 4 * k) + 1)) (len := 1) (r := (0, 0, 0, 0)) (by decide +kernel) Q.1 tA aT (by omega) hbik ?_
      rcases Decidable.em (bik.toInt ≠ 0) with q2027 | q2027
      ·
        refine y_iT (c := .ne) (off := 7) (pc' := 39) (len := 3) (r := (0, 0, 0, 0)) (by decide +kernel) (acmpT (c := .ne) (by show ¬ (_ = _); omega)) (by decide +kernel) ?_
        refine y_ic (c := 0) (len := 1) (r := (0, 0, 0, 0)) (by decide +kernel) (by decide) (fun y2028 hy2028 => ?_)
        refine y_rI (len := 1) (r := (0, 0, 0, 0)) (nL := 2) (k := 2) (n9 := 2) (hs := []) (by decide +kernel) rfl (zfit_b (by omega) (by omega)).2 ?_
        exact ⟨rfl, Or.inr ⟨by omega, fun q9 => by obtain ⟨z1, z2⟩ := q9; omega⟩⟩
      ·
        refine y_iF (c := .ne) (off := 7) (len := 3) (r := (0, 0, 0, 0)) (by decide +kernel) (acmpF (c := .ne) (by show _ = _; omega)) ?_
        refine y_ic (c := 1) (len := 1) (r := (0, 0, 0, 0)) (by decide +kernel) (by decide) (fun y2029 hy2029 => ?_)
        refine y_goto (off := 4) (pc' := 40) (len := 3) (r := (0, 0, 0, 0)) (by decide +kernel) (by decide +kernel) ?_
        refine y_rI (len := 1) (r := (0, 0, 0, 0)) (nL := 2) (k := 2) (n9 := 2) (hs := []) (by decide +kernel) rfl (zfit_b (by omega) (by omega)).2 ?_
        exact ⟨rfl, Or.inl ⟨by omega, by omega, by omega⟩⟩
  ·
    refine y_cF (c := .ne) (off := 16) (len := 3) (r := (0, 0, 0, 0)) (by decide +kernel) (acmpF (c := .ne) (by show _ = _; omega)) ?_
    refine y_same (i := .aload_n 0) (len := 1) (r := (0, 0, 0, 0)) (pc' := 8) (ls' := [some (.inl (some A)), some (zi xp)]) (st' := [.inl (some A)]) (by decide +kernel) (fun k q => by cases q) rfl ?_
    refine y_same (i := .iload_n 1) (len := 1) (r := (0, 0, 0, 0)) (pc' := 9) (ls' := [some (.inl (some A)), some (zi xp)]) (st' := [zi xp, .inl (some A)]) (by decide +kernel) (fun k q => by cases q) rfl ?_
    refine y_ic (c := 1) (len := 1) (r := (0, 0, 0, 0)) (by decide +kernel) (by decide) (fun y2030 hy2030 => ?_)
    refine y_add (len := 1) (r := (0, 0, 0, 0)) (by decide +kernel) (by omega) (by omega) (fun y2031 hy2031 => ?_)
    refine y_ial (i := ((24 + 4 * k) + 1)) (len := 1) (r := (0, 0, 0, 0)) (by decide +kernel) Q.1 tA aT (by omega) hbik ?_
    refine y_same (i := .aload_n 0) (len := 1) (r := (0, 0, 0, 0)) (pc' := 13) (ls' := [some (.inl (some A)), some (zi xp)]) (st' := [.inl (some A), zi bik]) (by decide +kernel) (fun k q => by cases q) rfl ?_
    refine y_same (i := .iload_n 1) (len := 1) (r := (0, 0, 0, 0)) (pc' := 14) (ls' := [some (.inl (some A)), some (zi xp)]) (st' := [zi xp, .inl (some A), zi bik]) (by decide +kernel) (fun k q => by cases q) rfl ?_
    refine y_ic (c := 2) (len := 1) (r := (0, 0, 0, 0)) (by decide +kernel) (by decide) (fun y2032 hy2032 => ?_)
    refine y_add (len := 1) (r := (0, 0, 0, 0)) (by decide +kernel) (by omega) (by omega) (fun y2033 hy2033 => ?_)
    refine y_ial (i := ((24 + 4 * k) + 2)) (len := 1) (r := (0, 0, 0, 0)) (by decide +kernel) Q.1 tA aT (by omega) hcik ?_
    rcases Decidable.em (bik.toInt = cik.toInt) with q2034 | q2034
    ·
      refine y_cT (c := .eq) (off := 18) (pc' := 35) (len := 3) (r := (0, 0, 0, 0)) (by decide +kernel) (acmpT (c := .eq) (by show _ = _; omega)) (by decide +kernel) ?_
      refine y_ic (c := 1) (len := 1) (r := (0, 0, 0, 0)) (by decide +kernel) (by decide) (fun y2035 hy2035 => ?_)
      refine y_goto (off := 4) (pc' := 40) (len := 3) (r := (0, 0, 0, 0)) (by decide +kernel) (by decide +kernel) ?_
      refine y_rI (len := 1) (r := (0, 0, 0, 0)) (nL := 2) (k := 2) (n9 := 2) (hs := []) (by decide +kernel) rfl (zfit_b (by omega) (by omega)).2 ?_
      exact ⟨rfl, Or.inl ⟨by omega, by omega, by omega⟩⟩
    ·
      refine y_cF (c := .eq) (off := 18) (len := 3) (r := (0, 0, 0, 0)) (by decide +kernel) (acmpF (c := .eq) (by show ¬ (_ = _); omega)) ?_
      refine y_same (i := .aload_n 0) (len := 1) (r := (0, 0, 0, 0)) (pc' := 21) (ls' := [some (.inl (some A)), some (zi xp)]) (st' := [.inl (some A)]) (by decide +kernel) (fun k q => by cases q) rfl ?_
      refine y_same (i := .iload_n 1) (len := 1) (r := (0, 0, 0, 0)) (pc' := 22) (ls' := [some (.inl (some A)), some (zi xp)]) (st' := [zi xp, .inl (some A)]) (by decide +kernel) (fun k q => by cases q) rfl ?_
      refine y_ial (i := (24 + 4 * k)) (len := 1) (r := (0, 0, 0, 0)) (by decide +kernel) Q.1 tA aT (by omega) haik ?_
      refine y_ic (c := 3) (len := 1) (r := (0, 0, 0, 0)) (by decide +kernel) (by decide) (fun y2036 hy2036 => ?_)
      rcases Decidable.em (aik.toInt ≠ y2036.toInt) with q2037 | q2037
      ·
        refine y_cT (c := .ne) (off := 15) (pc' := 39) (len := 3) (r := (0, 0, 0, 0)) (by decide +kernel) (acmpT (c := .ne) (by show ¬ (_ = _); omega)) (by decide +kernel) ?_
        refine y_ic (c := 0) (len := 1) (r := (0, 0, 0, 0)) (by decide +kernel) (by decide) (fun y2038 hy2038 => ?_)
        refine y_rI (len := 1) (r := (0, 0, 0, 0)) (nL := 2) (k := 2) (n9 := 2) (hs := []) (by decide +kernel) rfl (zfit_b (by omega) (by omega)).2 ?_
        exact ⟨rfl, Or.inr ⟨by omega, fun q9 => by obtain ⟨z1, z2⟩ := q9; omega⟩⟩
      ·
        refine y_cF (c := .ne) (off := 15) (len := 3) (r := (0, 0, 0, 0)) (by decide +kernel) (acmpF (c := .ne) (by show _ = _; omega)) ?_
        refine y_same (i := .aload_n 0) (len := 1) (r := (0, 0, 0, 0)) (pc' := 28) (ls' := [some (.inl (some A)), some (zi xp)]) (st' := [.inl (some A)]) (by decide +kernel) (fun k q => by cases q) rfl ?_
        refine y_same (i := .iload_n 1) (len := 1) (r := (0, 0, 0, 0)) (pc' := 29) (ls' := [some (.inl (some A)), some (zi xp)]) (st' := [zi xp, .inl (some A)]) (by decide +kernel) (fun k q => by cases q) rfl ?_
        refine y_ic (c := 1) (len := 1) (r := (0, 0, 0, 0)) (by decide +kernel) (by decide) (fun y2039 hy2039 => ?_)
        refine y_add (len := 1) (r := (0, 0, 0, 0)) (by decide +kernel) (by omega) (by omega) (fun y2040 hy2040 => ?_)
        refine y_ial (i := ((24 + 4 * k) + 1)) (len := 1) (r := (0, 0, 0, 0)) (by decide +kernel) Q.1 tA aT (by omega) hbik ?_
        rcases Decidable.em (bik.toInt ≠ 0) with q2041 | q2041
        ·
          refine y_iT (c := .ne) (off := 7) (pc' := 39) (len := 3) (r := (0, 0, 0, 0)) (by decide +kernel) (acmpT (c := .ne) (by show ¬ (_ = _); omega)) (by decide +kernel) ?_
          refine y_ic (c := 0) (len := 1) (r := (0, 0, 0, 0)) (by decide +kernel) (by decide) (fun y2042 hy2042 => ?_)
          refine y_rI (len := 1) (r := (0, 0, 0, 0)) (nL := 2) (k := 2) (n9 := 2) (hs := []) (by decide +kernel) rfl (zfit_b (by omega) (by omega)).2 ?_
          exact ⟨rfl, Or.inr ⟨by omega, fun q9 => by obtain ⟨z1, z2⟩ := q9; omega⟩⟩
        ·
          refine y_iF (c := .ne) (off := 7) (len := 3) (r := (0, 0, 0, 0)) (by decide +kernel) (acmpF (c := .ne) (by show _ = _; omega)) ?_
          refine y_ic (c := 1) (len := 1) (r := (0, 0, 0, 0)) (by decide +kernel) (by decide) (fun y2043 hy2043 => ?_)
          refine y_goto (off := 4) (pc' := 40) (len := 3) (r := (0, 0, 0, 0)) (by decide +kernel) (by decide +kernel) ?_
          refine y_rI (len := 1) (r := (0, 0, 0, 0)) (nL := 2) (k := 2) (n9 := 2) (hs := []) (by decide +kernel) rfl (zfit_b (by omega) (by omega)).2 ?_
          exact ⟨rfl, Or.inl ⟨by omega, by omega, by omega⟩⟩
theorem m_nthR {d t A : Nat} {τ : List Nat} {h : zh} {s : sqT} (Q : QM τ h A s) {k : Nat} {ik : it4} {xp : Int32} (exp : xp.toInt = ((80 + 4 * k : Nat) : Int)) (kik : s.2.1[k]? = some ik) : qI (d + 1) 214 [some (.inl (some A)), some (zi xp)] h t (fun y h1 => h = h1 ∧ ((y.toInt = 1 ∧ trv ik) ∨ (y.toInt = 0 ∧ ¬ trv ik))) := by
  obtain ⟨T, c0, tA, aT, hc0, pT⟩ := Q.2.1
  have hk9 := (List.getElem?_eq_some_iff.mp kik).1
  have ln := qm_lenR Q
  have oy := (okQ_R Q.2.2.2 kik).2.2
  refine qI_of ?_
  have oik := okQ_R Q.2.2.2 kik
  have pik := oik.1
  unfold okV at pik
  obtain ⟨aik, bik, cik, dik, ⟨haik, hbik, hcik, hdik⟩, eaik, ebik, ecik, edik⟩ := qm_itR Q kik
  refine y_same (i := .aload_n 0) (len := 1) (r := (0, 0, 0, 0)) (pc' := 1) (ls' := [some (.inl (some A)), some (zi xp)]) (st' := [.inl (some A)]) (by decide +kernel) (fun k q => by cases q) rfl ?_
  refine y_same (i := .iload_n 1) (len := 1) (r := (0, 0, 0, 0)) (pc' := 2) (ls' := [some (.inl (some A)), some (zi xp)]) (st' := [zi xp, .inl (some A)]) (by decide +kernel) (fun k q => by cases q) rfl ?_
  refine y_ial (i := (80 + 4 * k)) (len := 1) (r := (0, 0, 0, 0)) (by decide +kernel) Q.1 tA aT (by omega) haik ?_
  refine y_ic (c := 2) (len := 1) (r := (0, 0, 0, 0)) (by decide +kernel) (by decide) (fun y2044 hy2044 => ?_)
  rcases Decidable.em (aik.toInt ≠ y2044.toInt) with q2045 | q2045
  ·
    refine y_cT (c := .ne) (off := 16) (pc' := 20) (len := 3) (r := (0, 0, 0, 0)) (by decide +kernel) (acmpT (c := .ne) (by show ¬ (_ = _); omega)) (by decide +kernel) ?_
    refine y_same (i := .aload_n 0) (len := 1) (r := (0, 0, 0, 0)) (pc' := 21) (ls' := [some (.inl (some A)), some (zi xp)]) (st' := [.inl (some A)]) (by decide +kernel) (fun k q => by cases q) rfl ?_
    refine y_same (i := .iload_n 1) (len := 1) (r := (0, 0, 0, 0)) (pc' := 22) (ls' := [some (.inl (some A)), some (zi xp)]) (st' := [zi xp, .inl (some A)]) (by decide +kernel) (fun k q => by cases q) rfl ?_
    refine y_ial (i := (80 + 4 * k)) (len := 1) (r := (0, 0, 0, 0)) (by decide +kernel) Q.1 tA aT (by omega) haik ?_
    refine y_ic (c := 3) (len := 1) (r := (0, 0, 0, 0)) (by decide +kernel) (by decide) (fun y2046 hy2046 => ?_)
    rcases Decidable.em (aik.toInt ≠ y2046.toInt) with q2047 | q2047
    ·
      refine y_cT (c := .ne) (off := 15) (pc' := 39) (len := 3) (r := (0, 0, 0, 0)) (by decide +kernel) (acmpT (c := .ne) (by show ¬ (_ = _); omega)) (by decide +kernel) ?_
      refine y_ic (c := 0) (len := 1) (r := (0, 0, 0, 0)) (by decide +kernel) (by decide) (fun y2048 hy2048 => ?_)
      refine y_rI (len := 1) (r := (0, 0, 0, 0)) (nL := 2) (k := 2) (n9 := 2) (hs := []) (by decide +kernel) rfl (zfit_b (by omega) (by omega)).2 ?_
      exact ⟨rfl, Or.inr ⟨by omega, fun q9 => by obtain ⟨z1, z2⟩ := q9; omega⟩⟩
    ·
      refine y_cF (c := .ne) (off := 15) (len := 3) (r := (0, 0, 0, 0)) (by decide +kernel) (acmpF (c := .ne) (by show _ = _; omega)) ?_
      refine y_same (i := .aload_n 0) (len := 1) (r := (0, 0, 0, 0)) (pc' := 28) (ls' := [some (.inl (some A)), some (zi xp)]) (st' := [.inl (some A)]) (by decide +kernel) (fun k q => by cases q) rfl ?_
      refine y_same (i := .iload_n 1) (len := 1) (r := (0, 0, 0, 0)) (pc' := 29) (ls' := [some (.inl (some A)), some (zi xp)]) (st' := [zi xp, .inl (some A)]) (by decide +kernel) (fun k q => by cases q) rfl ?_
      refine y_ic (c := 1) (len := 1) (r := (0, 0, 0, 0)) (by decide +kernel) (by decide) (fun y2049 hy2049 => ?_)
      refine y_add (len := 1) (r := (0, 0, 0, 0)) (by decide +kernel) (by omega) (by omega) (fun y2050 hy2050 => ?_)
      refine y_ial (i := ((80 + 4 * k) + 1)) (len := 1) (r := (0, 0, 0, 0)) (by decide +kernel) Q.1 tA aT (by omega) hbik ?_
      rcases Decidable.em (bik.toInt ≠ 0) with q2051 | q2051
      ·
        refine y_iT (c := .ne) (off := 7) (pc' := 39) (len := 3) (r := (0, 0, 0, 0)) (by decide +kernel) (acmpT (c := .ne) (by show ¬ (_ = _); omega)) (by decide +kernel) ?_
        refine y_ic (c := 0) (len := 1) (r := (0, 0, 0, 0)) (by decide +kernel) (by decide) (fun y2052 hy2052 => ?_)
        refine y_rI (len := 1) (r := (0, 0, 0, 0)) (nL := 2) (k := 2) (n9 := 2) (hs := []) (by decide +kernel) rfl (zfit_b (by omega) (by omega)).2 ?_
        exact ⟨rfl, Or.inr ⟨by omega, fun q9 => by obtain ⟨z1, z2⟩ := q9; omega⟩⟩
      ·
        refine y_iF (c := .ne) (off := 7) (len := 3) (r := (0, 0, 0, 0)) (by decide +kernel) (acmpF (c := .ne) (by show _ = _; omega)) ?_
        refine y_ic (c := 1) (len := 1) (r := (0, 0, 0, 0)) (by decide +kernel) (by decide) (fun y2053 hy2053 => ?_)
        refine y_goto (off := 4) (pc' := 40) (len := 3) (r := (0, 0, 0, 0)) (by decide +kernel) (by decide +kernel) ?_
        refine y_rI (len := 1) (r := (0, 0, 0, 0)) (nL := 2) (k := 2) (n9 := 2) (hs := []) (by decide +kernel) rfl (zfit_b (by omega) (by omega)).2 ?_
        exact ⟨rfl, Or.inl ⟨by omega, by omega, by omega⟩⟩
  ·
    refine y_cF (c := .ne) (off := 16) (len := 3) (r := (0, 0, 0, 0)) (by decide +kernel) (acmpF (c := .ne) (by show _ = _; omega)) ?_
    refine y_same (i := .aload_n 0) (len := 1) (r := (0, 0, 0, 0)) (pc' := 8) (ls' := [some (.inl (some A)), some (zi xp)]) (st' := [.inl (some A)]) (by decide +kernel) (fun k q => by cases q) rfl ?_
    refine y_same (i := .iload_n 1) (len := 1) (r := (0, 0, 0, 0)) (pc' := 9) (ls' := [some (.inl (some A)), some (zi xp)]) (st' := [zi xp, .inl (some A)]) (by decide +kernel) (fun k q => by cases q) rfl ?_
    refine y_ic (c := 1) (len := 1) (r := (0, 0, 0, 0)) (by decide +kernel) (by decide) (fun y2054 hy2054 => ?_)
    refine y_add (len := 1) (r := (0, 0, 0, 0)) (by decide +kernel) (by omega) (by omega) (fun y2055 hy2055 => ?_)
    refine y_ial (i := ((80 + 4 * k) + 1)) (len := 1) (r := (0, 0, 0, 0)) (by decide +kernel) Q.1 tA aT (by omega) hbik ?_
    refine y_same (i := .aload_n 0) (len := 1) (r := (0, 0, 0, 0)) (pc' := 13) (ls' := [some (.inl (some A)), some (zi xp)]) (st' := [.inl (some A), zi bik]) (by decide +kernel) (fun k q => by cases q) rfl ?_
    refine y_same (i := .iload_n 1) (len := 1) (r := (0, 0, 0, 0)) (pc' := 14) (ls' := [some (.inl (some A)), some (zi xp)]) (st' := [zi xp, .inl (some A), zi bik]) (by decide +kernel) (fun k q => by cases q) rfl ?_
    refine y_ic (c := 2) (len := 1) (r := (0, 0, 0, 0)) (by decide +kernel) (by decide) (fun y2056 hy2056 => ?_)
    refine y_add (len := 1) (r := (0, 0, 0, 0)) (by decide +kernel) (by omega) (by omega) (fun y2057 hy2057 => ?_)
    refine y_ial (i := ((80 + 4 * k) + 2)) (len := 1) (r := (0, 0, 0, 0)) (by decide +kernel) Q.1 tA aT (by omega) hcik ?_
    rcases Decidable.em (bik.toInt = cik.toInt) with q2058 | q2058
    ·
      refine y_cT (c := .eq) (off := 18) (pc' := 35) (len := 3) (r := (0, 0, 0, 0)) (by decide +kernel) (acmpT (c := .eq) (by show _ = _; omega)) (by decide +kernel) ?_
      refine y_ic (c := 1) (len := 1) (r := (0, 0, 0, 0)) (by decide +kernel) (by decide) (fun y2059 hy2059 => ?_)
      refine y_goto (off := 4) (pc' := 40) (len := 3) (r := (0, 0, 0, 0)) (by decide +kernel) (by decide +kernel) ?_
      refine y_rI (len := 1) (r := (0, 0, 0, 0)) (nL := 2) (k := 2) (n9 := 2) (hs := []) (by decide +kernel) rfl (zfit_b (by omega) (by omega)).2 ?_
      exact ⟨rfl, Or.inl ⟨by omega, by omega, by omega⟩⟩
    ·
      refine y_cF (c := .eq) (off := 18) (len := 3) (r := (0, 0, 0, 0)) (by decide +kernel) (acmpF (c := .eq) (by show ¬ (_ = _); omega)) ?_
      refine y_same (i := .aload_n 0) (len := 1) (r := (0, 0, 0, 0)) (pc' := 21) (ls' := [some (.inl (some A)), some (zi xp)]) (st' := [.inl (some A)]) (by decide +kernel) (fun k q => by cases q) rfl ?_
      refine y_same (i := .iload_n 1) (len := 1) (r := (0, 0, 0, 0)) (pc' := 22) (ls' := [some (.inl (some A)), some (zi xp)]) (st' := [zi xp, .inl (some A)]) (by decide +kernel) (fun k q => by cases q) rfl ?_
      refine y_ial (i := (80 + 4 * k)) (len := 1) (r := (0, 0, 0, 0)) (by decide +kernel) Q.1 tA aT (by omega) haik ?_
      refine y_ic (c := 3) (len := 1) (r := (0, 0, 0, 0)) (by decide +kernel) (by decide) (fun y2060 hy2060 => ?_)
      rcases Decidable.em (aik.toInt ≠ y2060.toInt) with q2061 | q2061
      ·
        refine y_cT (c := .ne) (off := 15) (pc' := 39) (len := 3) (r := (0, 0, 0, 0)) (by decide +kernel) (acmpT (c := .ne) (by show ¬ (_ = _); omega)) (by decide +kernel) ?_
        refine y_ic (c := 0) (len := 1) (r := (0, 0, 0, 0)) (by decide +kernel) (by decide) (fun y2062 hy2062 => ?_)
        refine y_rI (len := 1) (r := (0, 0, 0, 0)) (nL := 2) (k := 2) (n9 := 2) (hs := []) (by decide +kernel) rfl (zfit_b (by omega) (by omega)).2 ?_
        exact ⟨rfl, Or.inr ⟨by omega, fun q9 => by obtain ⟨z1, z2⟩ := q9; omega⟩⟩
      ·
        refine y_cF (c := .ne) (off := 15) (len := 3) (r := (0, 0, 0, 0)) (by decide +kernel) (acmpF (c := .ne) (by show _ = _; omega)) ?_
        refine y_same (i := .aload_n 0) (len := 1) (r := (0, 0, 0, 0)) (pc' := 28) (ls' := [some (.inl (some A)), some (zi xp)]) (st' := [.inl (some A)]) (by decide +kernel) (fun k q => by cases q) rfl ?_
        refine y_same (i := .iload_n 1) (len := 1) (r := (0, 0, 0, 0)) (pc' := 29) (ls' := [some (.inl (some A)), some (zi xp)]) (st' := [zi xp, .inl (some A)]) (by decide +kernel) (fun k q => by cases q) rfl ?_
        refine y_ic (c := 1) (len := 1) (r := (0, 0, 0, 0)) (by decide +kernel) (by decide) (fun y2063 hy2063 => ?_)
        refine y_add (len := 1) (r := (0, 0, 0, 0)) (by decide +kernel) (by omega) (by omega) (fun y2064 hy2064 => ?_)
        refine y_ial (i := ((80 + 4 * k) + 1)) (len := 1) (r := (0, 0, 0, 0)) (by decide +kernel) Q.1 tA aT (by omega) hbik ?_
        rcases Decidable.em (bik.toInt ≠ 0) with q2065 | q2065
        ·
          refine y_iT (c := .ne) (off := 7) (pc' := 39) (len := 3) (r := (0, 0, 0, 0)) (by decide +kernel) (acmpT (c := .ne) (by show ¬ (_ = _); omega)) (by decide +kernel) ?_
          refine y_ic (c := 0) (len := 1) (r := (0, 0, 0, 0)) (by decide +kernel) (by decide) (fun y2066 hy2066 => ?_)
          refine y_rI (len := 1) (r := (0, 0, 0, 0)) (nL := 2) (k := 2) (n9 := 2) (hs := []) (by decide +kernel) rfl (zfit_b (by omega) (by omega)).2 ?_
          exact ⟨rfl, Or.inr ⟨by omega, fun q9 => by obtain ⟨z1, z2⟩ := q9; omega⟩⟩
        ·
          refine y_iF (c := .ne) (off := 7) (len := 3) (r := (0, 0, 0, 0)) (by decide +kernel) (acmpF (c := .ne) (by show _ = _; omega)) ?_
          refine y_ic (c := 1) (len := 1) (r := (0, 0, 0, 0)) (by decide +kernel) (by decide) (fun y2067 hy2067 => ?_)
          refine y_goto (off := 4) (pc' := 40) (len := 3) (r := (0, 0, 0, 0)) (by decide +kernel) (by decide +kernel) ?_
          refine y_rI (len := 1) (r := (0, 0, 0, 0)) (nL := 2) (k := 2) (n9 := 2) (hs := []) (by decide +kernel) rfl (zfit_b (by omega) (by omega)).2 ?_
          exact ⟨rfl, Or.inl ⟨by omega, by omega, by omega⟩⟩
