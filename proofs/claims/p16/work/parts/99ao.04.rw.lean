/-! rows of a sequent -/
def okL (l : List it4) : Prop := ∀ (j : Nat) (i : it4), l[j]? = some i → okV i
def ins_ (l : List it4) (k : Nat) (a : it4) : List it4 := l.take k ++ a :: l.drop k
theorem ins_len {l : List it4} {k : Nat} {a : it4} (hk : k ≤ l.length) : (ins_ l k a).length = l.length + 1 := by
  unfold ins_
  rw [List.length_append, List.length_cons, List.length_take, List.length_drop]
  omega
theorem ins_get {l : List it4} {k j : Nat} {a x : it4} (hk : k ≤ l.length) (h : (ins_ l k a)[j]? = some x) : (j < k ∧ l[j]? = some x) ∨ (j = k ∧ x = a) ∨ (k < j ∧ l[j - 1]? = some x) := by
  unfold ins_ at h
  have ht : (l.take k).length = k := by
    rw [List.length_take]
    omega
  rcases Nat.lt_or_ge j k with q | q
  · rw [List.getElem?_append_left (by omega), List.getElem?_take, if_pos q] at h
    exact Or.inl ⟨q, h⟩
  · rw [List.getElem?_append_right (by omega), ht] at h
    rcases Nat.eq_or_lt_of_le q with e | e
    · subst e
      rw [Nat.sub_self] at h
      exact Or.inr (Or.inl ⟨rfl, (Option.some.inj h).symm⟩)
    · obtain ⟨m, hm⟩ : ∃ m, j - k = m + 1 := ⟨j - k - 1, by omega⟩
      rw [hm, List.getElem?_cons_succ, List.getElem?_drop] at h
      rw [show k + m = j - 1 by omega] at h
      exact Or.inr (Or.inr ⟨e, h⟩)
theorem e_itV {d t k : Nat} {τ : List Nat} {h : zh} {i : it4} {xk : Int32} (hg : hG τ h) {RA IA : Nat} {l : List it4} (tRA : τ[RA]? = some 1004) (tIA : τ[IA]? = some 1007) (pA : hsl h RA 0 = some (.inl (some IA))) (r : rwC h RA IA l) (exk : xk.toInt = (k : Int)) (hk : l[k]? = some i) : qI (d + 1) 65 [some (.inl (some RA)), some (zi xk)] h t (fun y h1 => h = h1 ∧ y.toInt = pk i) := by
  obtain ⟨xl, hl, el⟩ := r.1
  obtain ⟨x9, e9, l9, u9⟩ := g_int (i := 1) (lo := 0) (hi := 14) hg tRA aw1004 (by decide) rfl
  have e8 := hl.symm.trans e9
  cases e8
  obtain ⟨xv, hv, ev⟩ := r.2 k i hk
  have hk9 := (List.getElem?_eq_some_iff.mp hk).1
  refine qI_of ?_
  refine y_same (i := .iload_n 1) (len := 1) (r := (0, 0, 0, 0)) (pc' := 1) (ls' := [some (.inl (some RA)), some (zi xk)]) (st' := [zi xk]) (by decide +kernel) (fun k q => by cases q) rfl ?_
  refine y_iF (c := .lt) (off := 20) (len := 3) (r := (0, 0, 0, 0)) (by decide +kernel) (acmpF (c := .lt) (by show _ ≤ _; omega)) ?_
  refine y_same (i := .iload_n 1) (len := 1) (r := (0, 0, 0, 0)) (pc' := 5) (ls' := [some (.inl (some RA)), some (zi xk)]) (st' := [zi xk]) (by decide +kernel) (fun k q => by cases q) rfl ?_
  refine y_same (i := .aload_n 0) (len := 1) (r := (0, 0, 0, 0)) (pc' := 6) (ls' := [some (.inl (some RA)), some (zi xk)]) (st' := [.inl (some RA), zi xk]) (by decide +kernel) (fun k q => by cases q) rfl ?_
  refine y_get (j := 9) (len := 3) (r := (6, 1, 0, 164)) (by decide +kernel) hg tRA aw1004 rfl rfl hl ?_
  refine y_cF (c := .ge) (off := 12) (len := 3) (r := (0, 0, 0, 0)) (by decide +kernel) (acmpF (c := .ge) (by show _ < _; omega)) ?_
  refine y_same (i := .aload_n 0) (len := 1) (r := (0, 0, 0, 0)) (pc' := 13) (ls' := [some (.inl (some RA)), some (zi xk)]) (st' := [.inl (some RA)]) (by decide +kernel) (fun k q => by cases q) rfl ?_
  refine y_get (j := 15) (len := 3) (r := (6, 0, 2, 163)) (by decide +kernel) hg tRA aw1004 rfl rfl pA ?_
  refine y_same (i := .iload_n 1) (len := 1) (r := (0, 0, 0, 0)) (pc' := 17) (ls' := [some (.inl (some RA)), some (zi xk)]) (st' := [zi xk, .inl (some IA)]) (by decide +kernel) (fun k q => by cases q) rfl ?_
  refine y_ial (i := k) (len := 1) (r := (0, 0, 0, 0)) (by decide +kernel) hg tIA aw1007 (by omega) hv ?_
  refine y_goto (off := 4) (pc' := 22) (len := 3) (r := (0, 0, 0, 0)) (by decide +kernel) (by decide +kernel) ?_
  refine y_rI (len := 1) (r := (0, 0, 0, 0)) (nL := 2) (k := 1) (n9 := 2) (hs := []) (by decide +kernel) rfl rfl ?_
  exact ⟨rfl, ev⟩
theorem e_setV {d t k : Nat} {τ : List Nat} {h : zh} {a : it4} {xk xa : Int32} (hg : hG τ h) {RA IA : Nat} {l : List it4} (tRA : τ[RA]? = some 1004) (tIA : τ[IA]? = some 1007) (pA : hsl h RA 0 = some (.inl (some IA))) (r : rwC h RA IA l) (n3 : RA ≠ IA) (exk : xk.toInt = (k : Int)) (hk9 : k < l.length) (exa : xa.toInt = pk a) : qV (d + 1) 69 [some (.inl (some RA)), some (zi xk), some (zi xa)] h t (fun h1 => hG τ h1 ∧ rwC h1 RA IA (l.set k a) ∧ ∀ k j, k ≠ IA → hsl h1 k j = hsl h k j) := by
  obtain ⟨xl, hl, el⟩ := r.1
  obtain ⟨x9, e9, l9, u9⟩ := g_int (i := 1) (lo := 0) (hi := 14) hg tRA aw1004 (by decide) rfl
  have e8 := hl.symm.trans e9
  cases e8
  refine qV_of ?_
  refine y_same (i := .iload_n 1) (len := 1) (r := (0, 0, 0, 0)) (pc' := 1) (ls' := [some (.inl (some RA)), some (zi xk), some (zi xa)]) (st' := [zi xk]) (by decide +kernel) (fun k q => by cases q) rfl ?_
  refine y_iF (c := .lt) (off := 18) (len := 3) (r := (0, 0, 0, 0)) (by decide +kernel) (acmpF (c := .lt) (by show _ ≤ _; omega)) ?_
  refine y_same (i := .iload_n 1) (len := 1) (r := (0, 0, 0, 0)) (pc' := 5) (ls' := [some (.inl (some RA)), some (zi xk), some (zi xa)]) (st' := [zi xk]) (by decide +kernel) (fun k q => by cases q) rfl ?_
  refine y_same (i := .aload_n 0) (len := 1) (r := (0, 0, 0, 0)) (pc' := 6) (ls' := [some (.inl (some RA)), some (zi xk), some (zi xa)]) (st' := [.inl (some RA), zi xk]) (by decide +kernel) (fun k q => by cases q) rfl ?_
  refine y_get (j := 9) (len := 3) (r := (6, 1, 0, 164)) (by decide +kernel) hg tRA aw1004 rfl rfl hl ?_
  refine y_cF (c := .ge) (off := 10) (len := 3) (r := (0, 0, 0, 0)) (by decide +kernel) (acmpF (c := .ge) (by show _ < _; omega)) ?_
  refine y_same (i := .aload_n 0) (len := 1) (r := (0, 0, 0, 0)) (pc' := 13) (ls' := [some (.inl (some RA)), some (zi xk), some (zi xa)]) (st' := [.inl (some RA)]) (by decide +kernel) (fun k q => by cases q) rfl ?_
  refine y_get (j := 15) (len := 3) (r := (6, 0, 2, 163)) (by decide +kernel) hg tRA aw1004 rfl rfl pA ?_
  refine y_same (i := .iload_n 1) (len := 1) (r := (0, 0, 0, 0)) (pc' := 17) (ls' := [some (.inl (some RA)), some (zi xk), some (zi xa)]) (st' := [zi xk, .inl (some IA)]) (by decide +kernel) (fun k q => by cases q) rfl ?_
  refine y_same (i := .iload_n 2) (len := 1) (r := (0, 0, 0, 0)) (pc' := 18) (ls' := [some (.inl (some RA)), some (zi xk), some (zi xa)]) (st' := [zi xa, zi xk, .inl (some IA)]) (by decide +kernel) (fun k q => by cases q) rfl ?_
  refine y_ias (i := k) (len := 1) (r := (0, 0, 0, 0)) (by decide +kernel) hg tIA aw1007 rfl (by omega) (by omega) (sr1 (by omega)) (qin_full _).1 (qin_full _).2 (fun h1921 hg1921 hl1921 hs1921 ho1921 => ?_)
  refine y_rV (len := 1) (r := (0, 0, 0, 0)) (nL := 3) (n9 := 3) (hs := []) (by decide +kernel) rfl ?_
  refine ⟨hg1921, ⟨⟨xl, (ho1921 RA 1 (by omega)).trans hl, by rw [List.length_set]; exact el⟩, fun j i hj => ?_⟩, fun k j hC => ho1921 k j (by omega)⟩
  rw [List.getElem?_set] at hj
  by_cases q : k = j
  · subst q
    rw [if_pos rfl, if_pos hk9] at hj
    cases hj
    exact ⟨_, hs1921, exa⟩
  · rw [if_neg q] at hj
    obtain ⟨x, e1, e2⟩ := r.2 j i hj
    exact ⟨x, (ho1921 IA j (by omega)).trans e1, e2⟩
theorem inV_l {d t m k RA IA : Nat} {τ : List Nat} {h0 : zh} {xk xa : Int32} {P : zo × zh × Nat → Prop} (tRA : τ[RA]? = some 1004) (tIA : τ[IA]? = some 1007) (n3 : RA ≠ IA) (exk : xk.toInt = (k : Int)) (hkm : k ≤ m) (hm14 : m < 14) (kk : ∀ (h : zh) (xj : Int32), hG τ h → hsl h RA 0 = some (.inl (some IA)) → (∀ i, i ≤ k → hsl h IA i = hsl h0 IA i) → (∀ i, k < i → i ≤ m → hsl h IA i = hsl h0 IA (i - 1)) → (∀ k j, k ≠ IA → hsl h k j = hsl h0 k j) → qX d 68 55 [some (.inl (some RA)), some (zi xk), some (zi xa), some (zi xj)] [] h t P) : ∀ (n : Nat) (h : zh) (j : Nat) (xj : Int32), (hG τ h) → (hsl h RA 0 = some (.inl (some IA))) → (∀ i, i ≤ j → hsl h IA i = hsl h0 IA i) → (∀ i, j < i → i ≤ m → hsl h IA i = hsl h0 IA (i - 1)) → (∀ k j, k ≠ IA → hsl h k j = hsl h0 k j) → (xj.toInt = (j : Int)) → (k ≤ j) → (j ≤ m) → (j < k + n) → qX d 68 30 [some (.inl (some RA)), some (zi xk), some (zi xa), some (zi xj)] [] h t P := by
  intro n
  induction n with
  | zero =>
    intro h j xj hg pA c1 c2 c3 hxj hj1 hj hn
    exfalso
    omega
  | succ n ih =>
    intro h j xj hg pA c1 c2 c3 hxj hj1 hj hn
    skip
    refine y_same (i := .iload_n 3) (len := 1) (r := (0, 0, 0, 0)) (pc' := 31) (ls' := [some (.inl (some RA)), some (zi xk), some (zi xa), some (zi xj)]) (st' := [zi xj]) (by decide +kernel) (fun k q => by cases q) rfl ?_
    refine y_same (i := .iload_n 1) (len := 1) (r := (0, 0, 0, 0)) (pc' := 32) (ls' := [some (.inl (some RA)), some (zi xk), some (zi xa), some (zi xj)]) (st' := [zi xk, zi xj]) (by decide +kernel) (fun k q => by cases q) rfl ?_
    rcases Decidable.em (xj.toInt ≤ xk.toInt) with q1922 | q1922
    ·
      refine y_cT (c := .le) (off := 23) (pc' := 55) (len := 3) (r := (0, 0, 0, 0)) (by decide +kernel) (acmpT (c := .le) (by show _ ≤ _; omega)) (by decide +kernel) ?_
      exact kk h _ hg pA (fun i hi => c1 i (by omega)) (fun i h1 h2 => c2 i (by omega) h2) c3
    ·
      refine y_cF (c := .le) (off := 23) (len := 3) (r := (0, 0, 0, 0)) (by decide +kernel) (acmpF (c := .le) (by show _ < _; omega)) ?_
      obtain ⟨v9, hv9, -, -⟩ := g_int (i := j - 1) hg tIA aw1007 (show j - 1 < 14 by omega) (sr1 (by omega))
      refine y_same (i := .aload_n 0) (len := 1) (r := (0, 0, 0, 0)) (pc' := 36) (ls' := [some (.inl (some RA)), some (zi xk), some (zi xa), some (zi xj)]) (st' := [.inl (some RA)]) (by decide +kernel) (fun k q => by cases q) rfl ?_
      refine y_get (j := 15) (len := 3) (r := (6, 0, 2, 163)) (by decide +kernel) hg tRA aw1004 rfl rfl pA ?_
      refine y_same (i := .iload_n 3) (len := 1) (r := (0, 0, 0, 0)) (pc' := 40) (ls' := [some (.inl (some RA)), some (zi xk), some (zi xa), some (zi xj)]) (st' := [zi xj, .inl (some IA)]) (by decide +kernel) (fun k q => by cases q) rfl ?_
      refine y_same (i := .aload_n 0) (len := 1) (r := (0, 0, 0, 0)) (pc' := 41) (ls' := [some (.inl (some RA)), some (zi xk), some (zi xa), some (zi xj)]) (st' := [.inl (some RA), zi xj, .inl (some IA)]) (by decide +kernel) (fun k q => by cases q) rfl ?_
      refine y_get (j := 15) (len := 3) (r := (6, 0, 2, 163)) (by decide +kernel) hg tRA aw1004 rfl rfl pA ?_
      refine y_same (i := .iload_n 3) (len := 1) (r := (0, 0, 0, 0)) (pc' := 45) (ls' := [some (.inl (some RA)), some (zi xk), some (zi xa), some (zi xj)]) (st' := [zi xj, .inl (some IA), zi xj, .inl (some IA)]) (by decide +kernel) (fun k q => by cases q) rfl ?_
      refine y_ic (c := 1) (len := 1) (r := (0, 0, 0, 0)) (by decide +kernel) (by decide) (fun y1923 hy1923 => ?_)
      refine y_sub (len := 1) (r := (0, 0, 0, 0)) (by decide +kernel) (by omega) (by omega) (fun y1924 hy1924 => ?_)
      refine y_ial (i := (j - 1)) (len := 1) (r := (0, 0, 0, 0)) (by decide +kernel) hg tIA aw1007 (by omega) hv9 ?_
      refine y_ias (i := j) (len := 1) (r := (0, 0, 0, 0)) (by decide +kernel) hg tIA aw1007 rfl (by omega) (by omega) (sr1 (by omega)) (qin_full _).1 (qin_full _).2 (fun h1925 hg1925 hl1925 hs1925 ho1925 => ?_)
      refine y_inc (j := 3) (a := xj) (c := (-1)) (ls' := fun v => [some (.inl (some RA)), some (zi xk), some (zi xa), some v]) (len := 3) (r := (0, 0, 0, 0)) (by decide +kernel) rfl (fun _ => rfl) (by decide) (by omega) (by omega) (fun y1926 hy1926 => ?_)
      show qX d 68 52 [some (.inl (some RA)), some (zi xk), some (zi xa), some (zi y1926)] [] h1925 t _
      refine y_goto (off := (-22)) (pc' := 30) (len := 3) (r := (0, 0, 0, 0)) (by decide +kernel) (by decide +kernel) ?_
      refine ih h1925 (j - 1) y1926 hg1925 ((ho1925 RA 0 (by omega)).trans pA) (fun i hi => (ho1925 IA i (by omega)).trans (c1 i (by omega))) (fun i h1 h2 => ?_) (fun k j hk => (ho1925 k j (by omega)).trans (c3 k j hk)) (by omega) (by omega) (by omega) (by omega)
      rcases Nat.eq_or_lt_of_le (show j ≤ i by omega) with q9 | q9
      · subst q9
        exact hs1925.trans ((c1 (j - 1) (by omega)).symm.trans hv9).symm
      · exact (ho1925 IA i (by omega)).trans (c2 i q9 h2)
theorem e_insV {d t k : Nat} {τ : List Nat} {h : zh} {a : it4} {xk xa : Int32} (hg : hG τ h) {RA IA : Nat} {l : List it4} (tRA : τ[RA]? = some 1004) (tIA : τ[IA]? = some 1007) (pA : hsl h RA 0 = some (.inl (some IA))) (r : rwC h RA IA l) (n3 : RA ≠ IA) (exk : xk.toInt = (k : Int)) (hk9 : k ≤ l.length) (hl14 : l.length < 14) (exa : xa.toInt = pk a) : qV (d + 1) 68 [some (.inl (some RA)), some (zi xk), some (zi xa), none] h t (fun h1 => hG τ h1 ∧ rwC h1 RA IA (ins_ l k a) ∧ ∀ k j, (k ≠ IA ∧ (k ≠ RA ∨ j ≠ 1)) → hsl h1 k j = hsl h k j) := by
  obtain ⟨xl, hl, el⟩ := r.1
  obtain ⟨x9, e9, l9, u9⟩ := g_int (i := 1) (lo := 0) (hi := 14) hg tRA aw1004 (by decide) rfl
  have e8 := hl.symm.trans e9
  cases e8
  refine qV_of ?_
  refine y_same (i := .iload_n 1) (len := 1) (r := (0, 0, 0, 0)) (pc' := 1) (ls' := [some (.inl (some RA)), some (zi xk), some (zi xa), none]) (st' := [zi xk]) (by decide +kernel) (fun k q => by cases q) rfl ?_
  refine y_iF (c := .lt) (off := 23) (len := 3) (r := (0, 0, 0, 0)) (by decide +kernel) (acmpF (c := .lt) (by show _ ≤ _; omega)) ?_
  refine y_same (i := .iload_n 1) (len := 1) (r := (0, 0, 0, 0)) (pc' := 5) (ls' := [some (.inl (some RA)), some (zi xk), some (zi xa), none]) (st' := [zi xk]) (by decide +kernel) (fun k q => by cases q) rfl ?_
  refine y_same (i := .aload_n 0) (len := 1) (r := (0, 0, 0, 0)) (pc' := 6) (ls' := [some (.inl (some RA)), some (zi xk), some (zi xa), none]) (st' := [.inl (some RA), zi xk]) (by decide +kernel) (fun k q => by cases q) rfl ?_
  refine y_get (j := 9) (len := 3) (r := (6, 1, 0, 164)) (by decide +kernel) hg tRA aw1004 rfl rfl hl ?_
  refine y_cF (c := .gt) (off := 15) (len := 3) (r := (0, 0, 0, 0)) (by decide +kernel) (acmpF (c := .gt) (by show _ ≤ _; omega)) ?_
  refine y_same (i := .aload_n 0) (len := 1) (r := (0, 0, 0, 0)) (pc' := 13) (ls' := [some (.inl (some RA)), some (zi xk), some (zi xa), none]) (st' := [.inl (some RA)]) (by decide +kernel) (fun k q => by cases q) rfl ?_
  refine y_get (j := 9) (len := 3) (r := (6, 1, 0, 164)) (by decide +kernel) hg tRA aw1004 rfl rfl hl ?_
  refine y_same (i := .aload_n 0) (len := 1) (r := (0, 0, 0, 0)) (pc' := 17) (ls' := [some (.inl (some RA)), some (zi xk), some (zi xa), none]) (st' := [.inl (some RA), zi xl]) (by decide +kernel) (fun k q => by cases q) rfl ?_
  refine y_get (j := 15) (len := 3) (r := (6, 0, 2, 163)) (by decide +kernel) hg tRA aw1004 rfl rfl pA ?_
  refine y_aln (len := 1) (r := (0, 0, 0, 0)) (by decide +kernel) hg tIA aw1007 (by decide) (fun y1927 hy1927 => ?_)
  refine y_cT (c := .lt) (off := 4) (pc' := 25) (len := 3) (r := (0, 0, 0, 0)) (by decide +kernel) (acmpT (c := .lt) (by show _ < _; omega)) (by decide +kernel) ?_
  refine y_same (i := .aload_n 0) (len := 1) (r := (0, 0, 0, 0)) (pc' := 26) (ls' := [some (.inl (some RA)), some (zi xk), some (zi xa), none]) (st' := [.inl (some RA)]) (by decide +kernel) (fun k q => by cases q) rfl ?_
  refine y_get (j := 9) (len := 3) (r := (6, 1, 0, 164)) (by decide +kernel) hg tRA aw1004 rfl rfl hl ?_
  refine y_same (i := .istore_n 3) (len := 1) (r := (0, 0, 0, 0)) (pc' := 30) (ls' := [some (.inl (some RA)), some (zi xk), some (zi xa), some (zi xl)]) (st' := []) (by decide +kernel) (fun k q => by cases q) rfl ?_
  refine inV_l (h0 := h) (m := l.length) tRA tIA n3 exk hk9 hl14 (fun h9 xj9 g9 pA9 b1 b2 b3 => ?_) (l.length + 1) h l.length xl hg pA (fun i _ => rfl) (fun i h1 h2 => by omega) (fun k j _ => rfl) (by omega) (by omega) (by omega) (by omega)
  have hl9 : hsl h9 RA 1 = some (zi xl) := (b3 RA 1 n3).trans hl
  refine y_same (i := .aload_n 0) (len := 1) (r := (0, 0, 0, 0)) (pc' := 56) (ls' := [some (.inl (some RA)), some (zi xk), some (zi xa), some (zi xj9)]) (st' := [.inl (some RA)]) (by decide +kernel) (fun k q => by cases q) rfl ?_
  refine y_get (j := 15) (len := 3) (r := (6, 0, 2, 163)) (by decide +kernel) g9 tRA aw1004 rfl rfl pA9 ?_
  refine y_same (i := .iload_n 1) (len := 1) (r := (0, 0, 0, 0)) (pc' := 60) (ls' := [some (.inl (some RA)), some (zi xk), some (zi xa), some (zi xj9)]) (st' := [zi xk, .inl (some IA)]) (by decide +kernel) (fun k q => by cases q) rfl ?_
  refine y_same (i := .iload_n 2) (len := 1) (r := (0, 0, 0, 0)) (pc' := 61) (ls' := [some (.inl (some RA)), some (zi xk), some (zi xa), some (zi xj9)]) (st' := [zi xa, zi xk, .inl (some IA)]) (by decide +kernel) (fun k q => by cases q) rfl ?_
  refine y_ias (i := k) (len := 1) (r := (0, 0, 0, 0)) (by decide +kernel) g9 tIA aw1007 rfl (by omega) (by omega) (sr1 (by omega)) (qin_full _).1 (qin_full _).2 (fun h1928 hg1928 hl1928 hs1928 ho1928 => ?_)
  refine y_same (i := .aload_n 0) (len := 1) (r := (0, 0, 0, 0)) (pc' := 63) (ls' := [some (.inl (some RA)), some (zi xk), some (zi xa), some (zi xj9)]) (st' := [.inl (some RA)]) (by decide +kernel) (fun k q => by cases q) rfl ?_
  refine y_same (i := .dup) (len := 1) (r := (0, 0, 0, 0)) (pc' := 64) (ls' := [some (.inl (some RA)), some (zi xk), some (zi xa), some (zi xj9)]) (st' := [.inl (some RA), .inl (some RA)]) (by decide +kernel) (fun k q => by cases q) rfl ?_
  have hv1929 := (ho1928 RA 1 (Or.inl (by omega))).trans hl9
  refine y_get (j := 9) (len := 3) (r := (6, 1, 0, 164)) (by decide +kernel) hg1928 tRA aw1004 rfl rfl hv1929 ?_
  refine y_ic (c := 1) (len := 1) (r := (0, 0, 0, 0)) (by decide +kernel) (by decide) (fun y1930 hy1930 => ?_)
  refine y_add (len := 1) (r := (0, 0, 0, 0)) (by decide +kernel) (by omega) (by omega) (fun y1931 hy1931 => ?_)
  refine y_put (j := 9) (lo := 0) (hi := 14) (len := 3) (r := (6, 1, 0, 164)) (by decide +kernel) hg1928 tRA aw1004 rfl rfl (by decide) rfl (by omega) (by omega) rfl (fun h1932 hg1932 hl1932 hs1932 ho1932 => ?_)
  have ho1932 : hO RA 1 h1928 h1932 := ho1932
  have hs1932 : hsl h1932 RA 1 = some (zi y1931) := hs1932
  refine y_rV (len := 1) (r := (0, 0, 0, 0)) (nL := 4) (n9 := 3) (hs := []) (by decide +kernel) rfl ?_
  refine ⟨hg1932, ⟨⟨_, hs1932, by rw [ins_len hk9]; omega⟩, fun j i hj => ?_⟩, fun k j hC => (((ho1932 k j (by omega)).trans (ho1928 k j (by omega)))).trans (b3 k j hC.1)⟩
  have hj9 := (List.getElem?_eq_some_iff.mp hj).1
  rw [ins_len hk9] at hj9
  rcases ins_get hk9 hj with ⟨q1, q2⟩ | ⟨q1, q2⟩ | ⟨q1, q2⟩
  · obtain ⟨x, e1, e2⟩ := r.2 j i q2
    exact ⟨x, (((ho1932 IA j (by omega)).trans (ho1928 IA j (by omega)))).trans ((b1 j (by omega)).trans e1), e2⟩
  · subst q1
    subst q2
    exact ⟨_, ((ho1932 IA j (by omega))).trans hs1928, exa⟩
  · obtain ⟨x, e1, e2⟩ := r.2 (j - 1) i q2
    exact ⟨x, (((ho1932 IA j (by omega)).trans (ho1928 IA j (by omega)))).trans ((b2 j q1 (by omega)).trans e1), e2⟩
theorem ins_end {l : List it4} {a : it4} : ins_ l l.length a = l ++ [a] := by
  unfold ins_
  rw [List.take_of_length_le (Nat.le_refl _), List.drop_of_length_le (Nat.le_refl _)]
theorem e_addV {d t : Nat} {τ : List Nat} {h : zh} {a : it4} {xa : Int32} (hg : hG τ h) {RA IA : Nat} {l : List it4} (tRA : τ[RA]? = some 1004) (tIA : τ[IA]? = some 1007) (pA : hsl h RA 0 = some (.inl (some IA))) (r : rwC h RA IA l) (n3 : RA ≠ IA) (hl14 : l.length < 14) (exa : xa.toInt = pk a) : qV (d + 2) 67 [some (.inl (some RA)), some (zi xa)] h t (fun h1 => hG τ h1 ∧ rwC h1 RA IA (l ++ [a]) ∧ ∀ k j, (k ≠ IA ∧ (k ≠ RA ∨ j ≠ 1)) → hsl h1 k j = hsl h k j) := by
  obtain ⟨xl, hl, el⟩ := r.1
  obtain ⟨x9, e9, l9, u9⟩ := g_int (i := 1) (lo := 0) (hi := 14) hg tRA aw1004 (by decide) rfl
  have e8 := hl.symm.trans e9
  cases e8
  refine qV_of ?_
  refine y_same (i := .aload_n 0) (len := 1) (r := (0, 0, 0, 0)) (pc' := 1) (ls' := [some (.inl (some RA)), some (zi xa)]) (st' := [.inl (some RA)]) (by decide +kernel) (fun k q => by cases q) rfl ?_
  refine y_same (i := .aload_n 0) (len := 1) (r := (0, 0, 0, 0)) (pc' := 2) (ls' := [some (.inl (some RA)), some (zi xa)]) (st' := [.inl (some RA), .inl (some RA)]) (by decide +kernel) (fun k q => by cases q) rfl ?_
  refine y_get (j := 9) (len := 3) (r := (6, 1, 0, 164)) (by decide +kernel) hg tRA aw1004 rfl rfl hl ?_
  refine y_same (i := .iload_n 1) (len := 1) (r := (0, 0, 0, 0)) (pc' := 6) (ls' := [some (.inl (some RA)), some (zi xa)]) (st' := [zi xa, zi xl, .inl (some RA)]) (by decide +kernel) (fun k q => by cases q) rfl ?_
  refine y_cV (i := .invokevirtual 19) (len := 3) (r := (0, 68, 6, 605)) (nL := 4) (k := 0) (n := 3) (hs := []) (args := [.inl (some RA), zi xl, zi xa]) (rest := []) (l0 := [some (.inl (some RA)), some (zi xl), some (zi xa), none]) (by decide +kernel) (Or.inr (Or.inl ⟨_, rfl⟩)) rfl rfl rfl rfl (Nat.le_of_ble_eq_true rfl) (zO hg tRA aw1004 rfl) rfl (qV_le (by omega) (e_insV (d := 0) (k := l.length) (a := a) hg tRA tIA pA r n3 (by omega) (Nat.le_refl _) hl14 exa)) (fun h1933 hR1933 => ?_)
  obtain ⟨hg1933, r1933, F1933⟩ := hR1933
  refine y_rV (len := 1) (r := (0, 0, 0, 0)) (nL := 2) (n9 := 2) (hs := []) (by decide +kernel) rfl ?_
  rw [ins_end] at r1933
  exact ⟨hg1933, r1933, fun k j hC => (F1933 k j (by omega))⟩
