/-! rows of a sequent: what goes, what is there -/
def bs_ (b : Int32) (S : Nat → Prop) : Prop := ∀ v, v < 32 → (btz b v = true ↔ S v)
theorem bs_0 {b : Int32} {S : Nat → Prop} (h : b.toInt = 0) (n : ∀ v, ¬ S v) : bs_ b S := fun v hv => by
  rw [ofI (w := 0) h rfl, b_0]
  exact ⟨fun q => (by cases q), fun q => absurd q (n v)⟩
theorem bs_or {a b : Int32} {S S' : Nat → Prop} (h : bs_ a S) (h' : bs_ b S') : bs_ (a ||| b) (fun v => S v ∨ S' v) := fun v hv => by
  rw [b_or, Bool.or_eq_true, h v hv, h' v hv]
theorem bs_1 {c y : Int32} {k : Int} (hc : c.toInt = 1) (hy : y.toInt = k) (h0 : 0 ≤ k) (h1 : k ≤ 20) : bs_ (c <<< (y &&& 31)) (fun v => k = (v : Int)) := fun v hv => by
  rw [ofI (w := 1) hc rfl, nI_of_i (x := y) (n := k.toNat) (by omega), bt_shl1 (by omega) hv, decide_eq_true_eq]
  omega
theorem bs_cg {b : Int32} {S S' : Nat → Prop} (h : bs_ b S) (e : ∀ v, v < 32 → (S v ↔ S' v)) : bs_ b S' := fun v hv => (h v hv).trans (e v hv)
/-- a bit, tested -/
theorem bs_t {b c x y z : Int32} {S : Nat → Prop} {k : Nat} (h : bs_ b S) (hx : x.toInt = (k : Int)) (hk : k < 32) (ey : y = b >>> (x &&& 31)) (hc : c.toInt = 1) (ez : z = y &&& c) : (z.toInt = 1 ∧ S k) ∨ (z.toInt = 0 ∧ ¬ S k) := by
  have e := bit1 (v := b) hk
  rw [← nI_of_i hx, ← ey, ← ofI (w := 1) hc rfl, ← ez] at e
  cases q : btz b k with
  | true =>
    rw [q] at e
    exact Or.inl ⟨e, (h k hk).mp q⟩
  | false =>
    rw [q] at e
    refine Or.inr ⟨e, fun q9 => ?_⟩
    have := (h k hk).mpr q9
    rw [q] at this
    cases this
theorem rm14_l {d t m k RA IA : Nat} {τ : List Nat} {h0 : zh} {xm xk : Int32} (tRA : τ[RA]? = some 1004) (tIA : τ[IA]? = some 1007) (n3 : RA ≠ IA) (em : xm.toInt = (m : Int)) (hm5 : m < 14) (exk : xk.toInt = (k : Int)) (hkm : k ≤ m) : ∀ (n : Nat) (h : zh) (j : Nat) (xj : Int32), hG τ h → hsl h RA 1 = some (zi xm) → hsl h RA 0 = some (.inl (some IA)) → (∀ i, (i < k ∨ j ≤ i) → hsl h IA i = hsl h0 IA i) → (∀ i, k ≤ i → i < j → hsl h IA i = hsl h0 IA (i + 1)) → (∀ k j, k ≠ IA → hsl h k j = hsl h0 k j) → xj.toInt = (j : Int) → k ≤ j → j ≤ m → m ≤ j + n → qX d 70 25 [some (.inl (some RA)), some (zi xk), some (zi xj)] [] h t (rV (fun h1 => hG τ h1 ∧ (∀ i, i < k → hsl h1 IA i = hsl h0 IA i) ∧ (∀ i, k ≤ i → i < m → hsl h1 IA i = hsl h0 IA (i + 1)) ∧ ∀ k j, k ≠ IA → hsl h1 k j = hsl h0 k j) t) := by
  intro n
  induction n with
  | zero =>
    intro h j xj hg hm pA c1 c2 c3 hxj hj1 hj hn
    refine y_same (i := .iload_n 2) (len := 1) (r := (0, 0, 0, 0)) (pc' := 26) (ls' := [some (.inl (some RA)), some (zi xk), some (zi xj)]) (st' := [zi xj]) (by decide +kernel) (fun k q => by cases q) rfl ?_
    refine y_same (i := .aload_n 0) (len := 1) (r := (0, 0, 0, 0)) (pc' := 27) (ls' := [some (.inl (some RA)), some (zi xk), some (zi xj)]) (st' := [.inl (some RA), zi xj]) (by decide +kernel) (fun k q => by cases q) rfl ?_
    refine y_get (j := 9) (len := 3) (r := (6, 1, 0, 164)) (by decide +kernel) hg tRA aw1004 rfl rfl hm ?_
    refine y_cT (c := .ge) (off := 23) (pc' := 53) (len := 3) (r := (0, 0, 0, 0)) (by decide +kernel) (acmpT (c := .ge) (by show _ ≤ _; omega)) (by decide +kernel) ?_
    refine y_rV (len := 1) (r := (0, 0, 0, 0)) (nL := 3) (n9 := 2) (hs := []) (by decide +kernel) rfl ?_
    exact ⟨hg, fun i hi => c1 i (by omega), fun i h1 h2 => c2 i h1 (by omega), c3⟩
  | succ n ih =>
    intro h j xj hg hm pA c1 c2 c3 hxj hj1 hj hn
    rcases Nat.lt_or_ge j m with q | q
    ·
      refine y_same (i := .iload_n 2) (len := 1) (r := (0, 0, 0, 0)) (pc' := 26) (ls' := [some (.inl (some RA)), some (zi xk), some (zi xj)]) (st' := [zi xj]) (by decide +kernel) (fun k q => by cases q) rfl ?_
      refine y_same (i := .aload_n 0) (len := 1) (r := (0, 0, 0, 0)) (pc' := 27) (ls' := [some (.inl (some RA)), some (zi xk), some (zi xj)]) (st' := [.inl (some RA), zi xj]) (by decide +kernel) (fun k q => by cases q) rfl ?_
      refine y_get (j := 9) (len := 3) (r := (6, 1, 0, 164)) (by decide +kernel) hg tRA aw1004 rfl rfl hm ?_
      refine y_cF (c := .ge) (off := 23) (len := 3) (r := (0, 0, 0, 0)) (by decide +kernel) (acmpF (c := .ge) (by show _ < _; omega)) ?_
      refine y_same (i := .aload_n 0) (len := 1) (r := (0, 0, 0, 0)) (pc' := 34) (ls' := [some (.inl (some RA)), some (zi xk), some (zi xj)]) (st' := [.inl (some RA)]) (by decide +kernel) (fun k q => by cases q) rfl ?_
      refine y_get (j := 15) (len := 3) (r := (6, 0, 2, 163)) (by decide +kernel) hg tRA aw1004 rfl rfl pA ?_
      refine y_same (i := .iload_n 2) (len := 1) (r := (0, 0, 0, 0)) (pc' := 38) (ls' := [some (.inl (some RA)), some (zi xk), some (zi xj)]) (st' := [zi xj, .inl (some IA)]) (by decide +kernel) (fun k q => by cases q) rfl ?_
      refine y_same (i := .aload_n 0) (len := 1) (r := (0, 0, 0, 0)) (pc' := 39) (ls' := [some (.inl (some RA)), some (zi xk), some (zi xj)]) (st' := [.inl (some RA), zi xj, .inl (some IA)]) (by decide +kernel) (fun k q => by cases q) rfl ?_
      refine y_get (j := 15) (len := 3) (r := (6, 0, 2, 163)) (by decide +kernel) hg tRA aw1004 rfl rfl pA ?_
      refine y_same (i := .iload_n 2) (len := 1) (r := (0, 0, 0, 0)) (pc' := 43) (ls' := [some (.inl (some RA)), some (zi xk), some (zi xj)]) (st' := [zi xj, .inl (some IA), zi xj, .inl (some IA)]) (by decide +kernel) (fun k q => by cases q) rfl ?_
      refine y_ic (c := 1) (len := 1) (r := (0, 0, 0, 0)) (by decide +kernel) (by decide) (fun y2203 hy2203 => ?_)
      refine y_add (len := 1) (r := (0, 0, 0, 0)) (by decide +kernel) (by omega) (by omega) (fun y2204 hy2204 => ?_)
      obtain ⟨v2205, hv2206, lv2205, uv2205⟩ := g_int (i := (j + 1)) hg tIA aw1007 (show (j + 1) < 14 by omega) (sr1 (by omega))
      refine y_ial (i := (j + 1)) (len := 1) (r := (0, 0, 0, 0)) (by decide +kernel) hg tIA aw1007 (by omega) hv2206 ?_
      refine y_ias (i := j) (len := 1) (r := (0, 0, 0, 0)) (by decide +kernel) hg tIA aw1007 rfl (by omega) (by omega) (sr1 (by omega)) (qin_full _).1 (qin_full _).2 (fun h2207 hg2207 hl2207 hs2207 ho2207 => ?_)
      refine y_inc (j := 2) (a := xj) (c := 1) (ls' := fun v => [some (.inl (some RA)), some (zi xk), some v]) (len := 3) (r := (0, 0, 0, 0)) (by decide +kernel) rfl (fun _ => rfl) (by decide) (by omega) (by omega) (fun y2208 hy2208 => ?_)
      show qX d 70 50 [some (.inl (some RA)), some (zi xk), some (zi y2208)] [] h2207 t _
      refine y_goto (off := (-25)) (pc' := 25) (len := 3) (r := (0, 0, 0, 0)) (by decide +kernel) (by decide +kernel) ?_
      refine ih h2207 (j + 1) y2208 hg2207 ((ho2207 RA 1 (Or.inl (by omega))).trans hm) ((ho2207 RA 0 (Or.inl (by omega))).trans pA) (fun i hi => (ho2207 IA i (Or.inr (by omega))).trans (c1 i (by omega))) (fun i h1 h2 => ?_) (fun k j hk => (ho2207 k j (Or.inl hk)).trans (c3 k j hk)) (by omega) (by omega) (by omega) (by omega)
      rcases Nat.lt_or_ge i j with q9 | q9
      · exact (ho2207 IA i (Or.inr (by omega))).trans (c2 i h1 q9)
      · have e9 : i = j := by omega
        subst e9
        exact hs2207.trans ((c1 (i + 1) (by omega)).symm.trans hv2206).symm
    ·
      refine y_same (i := .iload_n 2) (len := 1) (r := (0, 0, 0, 0)) (pc' := 26) (ls' := [some (.inl (some RA)), some (zi xk), some (zi xj)]) (st' := [zi xj]) (by decide +kernel) (fun k q => by cases q) rfl ?_
      refine y_same (i := .aload_n 0) (len := 1) (r := (0, 0, 0, 0)) (pc' := 27) (ls' := [some (.inl (some RA)), some (zi xk), some (zi xj)]) (st' := [.inl (some RA), zi xj]) (by decide +kernel) (fun k q => by cases q) rfl ?_
      refine y_get (j := 9) (len := 3) (r := (6, 1, 0, 164)) (by decide +kernel) hg tRA aw1004 rfl rfl hm ?_
      refine y_cT (c := .ge) (off := 23) (pc' := 53) (len := 3) (r := (0, 0, 0, 0)) (by decide +kernel) (acmpT (c := .ge) (by show _ ≤ _; omega)) (by decide +kernel) ?_
      refine y_rV (len := 1) (r := (0, 0, 0, 0)) (nL := 3) (n9 := 2) (hs := []) (by decide +kernel) rfl ?_
      exact ⟨hg, fun i hi => c1 i (by omega), fun i h1 h2 => c2 i h1 (by omega), c3⟩
theorem e_rm14 {d t k RA IA : Nat} {τ : List Nat} {h : zh} {l : List it4} {xk : Int32} (hg : hG τ h) (tRA : τ[RA]? = some 1004) (tIA : τ[IA]? = some 1007) (n3 : RA ≠ IA) (pA : hsl h RA 0 = some (.inl (some IA))) (r : rwC h RA IA l) (exk : xk.toInt = (k : Int)) (hkl : k < l.length) : qV (d + 1) 70 [some (.inl (some RA)), some (zi xk), none] h t (fun h1 => hG τ h1 ∧ rwC h1 RA IA (l.eraseIdx k) ∧ ∀ k j, (k ≠ IA ∧ (k ≠ RA ∨ j ≠ 1)) → hsl h1 k j = hsl h k j) := by
  obtain ⟨⟨xl, hl, el⟩, it⟩ := r
  obtain ⟨x9, e9, l9, u9⟩ := g_int (i := 1) (lo := 0) (hi := 14) hg tRA aw1004 (by decide) rfl
  have e8 := hl.symm.trans e9
  cases e8
  refine qV_of ?_
  refine y_same (i := .iload_n 1) (len := 1) (r := (0, 0, 0, 0)) (pc' := 1) (ls' := [some (.inl (some RA)), some (zi xk), none]) (st' := [zi xk]) (by decide +kernel) (fun k q => by cases q) rfl ?_
  refine y_iF (c := .lt) (off := 11) (len := 3) (r := (0, 0, 0, 0)) (by decide +kernel) (acmpF (c := .lt) (by show _ ≤ _; omega)) ?_
  refine y_same (i := .iload_n 1) (len := 1) (r := (0, 0, 0, 0)) (pc' := 5) (ls' := [some (.inl (some RA)), some (zi xk), none]) (st' := [zi xk]) (by decide +kernel) (fun k q => by cases q) rfl ?_
  refine y_same (i := .aload_n 0) (len := 1) (r := (0, 0, 0, 0)) (pc' := 6) (ls' := [some (.inl (some RA)), some (zi xk), none]) (st' := [.inl (some RA), zi xk]) (by decide +kernel) (fun k q => by cases q) rfl ?_
  refine y_get (j := 9) (len := 3) (r := (6, 1, 0, 164)) (by decide +kernel) hg tRA aw1004 rfl rfl hl ?_
  refine y_cT (c := .lt) (off := 4) (pc' := 13) (len := 3) (r := (0, 0, 0, 0)) (by decide +kernel) (acmpT (c := .lt) (by show _ < _; omega)) (by decide +kernel) ?_
  refine y_same (i := .aload_n 0) (len := 1) (r := (0, 0, 0, 0)) (pc' := 14) (ls' := [some (.inl (some RA)), some (zi xk), none]) (st' := [.inl (some RA)]) (by decide +kernel) (fun k q => by cases q) rfl ?_
  refine y_same (i := .dup) (len := 1) (r := (0, 0, 0, 0)) (pc' := 15) (ls' := [some (.inl (some RA)), some (zi xk), none]) (st' := [.inl (some RA), .inl (some RA)]) (by decide +kernel) (fun k q => by cases q) rfl ?_
  refine y_get (j := 9) (len := 3) (r := (6, 1, 0, 164)) (by decide +kernel) hg tRA aw1004 rfl rfl hl ?_
  refine y_ic (c := 1) (len := 1) (r := (0, 0, 0, 0)) (by decide +kernel) (by decide) (fun y2209 hy2209 => ?_)
  refine y_sub (len := 1) (r := (0, 0, 0, 0)) (by decide +kernel) (by omega) (by omega) (fun y2210 hy2210 => ?_)
  refine y_put (j := 9) (lo := 0) (hi := 14) (len := 3) (r := (6, 1, 0, 164)) (by decide +kernel) hg tRA aw1004 rfl rfl (by decide) rfl (by omega) (by omega) rfl (fun h2211 hg2211 hl2211 hs2211 ho2211 => ?_)
  have ho2211 : hO RA 1 h h2211 := ho2211
  have hs2211 : hsl h2211 RA 1 = some (zi y2210) := hs2211
  refine y_same (i := .iload_n 1) (len := 1) (r := (0, 0, 0, 0)) (pc' := 24) (ls' := [some (.inl (some RA)), some (zi xk), none]) (st' := [zi xk]) (by decide +kernel) (fun k q => by cases q) rfl ?_
  refine y_same (i := .istore_n 2) (len := 1) (r := (0, 0, 0, 0)) (pc' := 25) (ls' := [some (.inl (some RA)), some (zi xk), some (zi xk)]) (st' := []) (by decide +kernel) (fun k q => by cases q) rfl ?_
  refine qX_V (rm14_l (m := l.length - 1) (k := k) (h0 := h2211) tRA tIA n3 (by omega) (by omega) exk (by omega) 14 h2211 k xk hg2211 hs2211 ((ho2211 RA 0 (Or.inr (by omega))).trans pA) (fun i hi => rfl) (fun i h1 h2 => absurd h2 (by omega)) (fun k j _ => rfl) (by omega) (by omega) (by omega) (by omega)) (fun h1 hR => ?_)
  obtain ⟨g1, c1, c2, c3⟩ := hR
  refine ⟨g1, ⟨⟨y2210, (c3 RA 1 n3).trans hs2211, by rw [List.length_eraseIdx_of_lt hkl]; omega⟩, fun j i hj => ?_⟩, fun k j hk => (c3 k j hk.1).trans (ho2211 k j hk.2)⟩
  have hj9 := (List.getElem?_eq_some_iff.mp hj).1
  rw [List.length_eraseIdx_of_lt hkl] at hj9
  rw [List.getElem?_eraseIdx] at hj
  split at hj
  · obtain ⟨x, a, b⟩ := it j i hj
    exact ⟨x, (c1 j (by omega)).trans ((ho2211 IA j (Or.inl (by omega))).trans a), b⟩
  · obtain ⟨x, a, b⟩ := it (j + 1) i hj
    exact ⟨x, (c2 j (by omega) (by omega)).trans ((ho2211 IA (j + 1) (Or.inl (by omega))).trans a), b⟩
theorem owV_l {d t : Nat} {τ : List Nat} {h : zh} (hg : hG τ h) {RA IA : Nat} {l : List it4} (tRA : τ[RA]? = some 1004) (tIA : τ[IA]? = some 1007) (pA : hsl h RA 0 = some (.inl (some IA))) (r : rwC h RA IA l) (ok : okL l) : ∀ (n : Nat) (i : Nat) (xb : Int32) (xi : Int32), (bs_ xb (fun v => ∃ (j : Nat) (p : it4), j < i ∧ l[j]? = some p ∧ p.1 ≤ 1 ∧ p.2.1 = (v : Int))) → (xi.toInt = (i : Int)) → (i ≤ l.length) → (l.length < i + n) → qX (d + 1) 74 4 [some (.inl (some RA)), some (zi xb), some (zi xi)] [] h t (rI (fun y h1 => h = h1 ∧ bs_ y (fun v => ∃ p ∈ l, p.1 ≤ 1 ∧ p.2.1 = (v : Int))) t) := by
  intro n
  induction n with
  | zero =>
    intro i xb xi hb hxi hi hn
    exfalso
    omega
  | succ n ih =>
    intro i xb xi hb hxi hi hn
    obtain ⟨xl, hl, el⟩ := r.1
    obtain ⟨x9, e9, l9, u9⟩ := g_int (i := 1) (lo := 0) (hi := 14) hg tRA aw1004 (by decide) rfl
    have e8 := hl.symm.trans e9
    cases e8
    refine y_same (i := .iload_n 2) (len := 1) (r := (0, 0, 0, 0)) (pc' := 5) (ls' := [some (.inl (some RA)), some (zi xb), some (zi xi)]) (st' := [zi xi]) (by decide +kernel) (fun k q => by cases q) rfl ?_
    refine y_same (i := .aload_n 0) (len := 1) (r := (0, 0, 0, 0)) (pc' := 6) (ls' := [some (.inl (some RA)), some (zi xb), some (zi xi)]) (st' := [.inl (some RA), zi xi]) (by decide +kernel) (fun k q => by cases q) rfl ?_
    refine y_get (j := 9) (len := 3) (r := (6, 1, 0, 164)) (by decide +kernel) hg tRA aw1004 rfl rfl hl ?_
    rcases Decidable.em (xi.toInt ≥ xl.toInt) with q2212 | q2212
    ·
      refine y_cT (c := .ge) (off := 30) (pc' := 39) (len := 3) (r := (0, 0, 0, 0)) (by decide +kernel) (acmpT (c := .ge) (by show _ ≤ _; omega)) (by decide +kernel) ?_
      refine y_same (i := .iload_n 1) (len := 1) (r := (0, 0, 0, 0)) (pc' := 40) (ls' := [some (.inl (some RA)), some (zi xb), some (zi xi)]) (st' := [zi xb]) (by decide +kernel) (fun k q => by cases q) rfl ?_
      refine y_rI (len := 1) (r := (0, 0, 0, 0)) (nL := 3) (k := 1) (n9 := 1) (hs := []) (by decide +kernel) rfl rfl ?_
      refine ⟨rfl, bs_cg hb (fun v hv => ⟨?_, ?_⟩)⟩
      · rintro ⟨j, q, a1, a2, a3, a4⟩
        exact ⟨q, List.mem_of_getElem? a2, a3, a4⟩
      · rintro ⟨q, m9, a3, a4⟩
        obtain ⟨j, hj⟩ := List.getElem?_of_mem m9
        exact ⟨j, q, by have := (List.getElem?_eq_some_iff.mp hj).1; omega, hj, a3, a4⟩
    ·
      refine y_cF (c := .ge) (off := 30) (len := 3) (r := (0, 0, 0, 0)) (by decide +kernel) (acmpF (c := .ge) (by show _ < _; omega)) ?_
      obtain ⟨ik, hk⟩ : ∃ ik, l[i]? = some ik := ⟨_, List.getElem?_eq_getElem (by omega)⟩
      have okk := ok i ik hk
      have okk2 := okk
      unfold okV at okk2
      refine y_same (i := .aload_n 0) (len := 1) (r := (0, 0, 0, 0)) (pc' := 13) (ls' := [some (.inl (some RA)), some (zi xb), some (zi xi)]) (st' := [.inl (some RA)]) (by decide +kernel) (fun k q => by cases q) rfl ?_
      refine y_same (i := .iload_n 2) (len := 1) (r := (0, 0, 0, 0)) (pc' := 14) (ls' := [some (.inl (some RA)), some (zi xb), some (zi xi)]) (st' := [zi xi, .inl (some RA)]) (by decide +kernel) (fun k q => by cases q) rfl ?_
      refine y_ic (c := 0) (len := 1) (r := (0, 0, 0, 0)) (by decide +kernel) (by decide) (fun y2213 hy2213 => ?_)
      refine y_cI (i := .invokevirtual 29) (len := 3) (r := (0, 64, 6, 659)) (nL := 3) (k := 1) (n := 3) (hs := []) (args := [.inl (some RA), zi xi, zi y2213]) (rest := []) (l0 := [some (.inl (some RA)), some (zi xi), some (zi y2213)]) (by decide +kernel) (Or.inr (Or.inl ⟨_, rfl⟩)) rfl rfl rfl rfl (Nat.le_of_ble_eq_true rfl) (zO hg tRA aw1004 rfl) rfl (qI_le (by omega) (e_tlV (d := 0) (k := i) (w := 0) hg tRA tIA pA r (by omega) hk okk (by omega) (by omega))) (fun y2214 qy2214 hRy2214 => ?_)
      obtain ⟨rfl, ey2214⟩ := hRy2214
      have ey2214 : y2214.toInt = ik.1 := ey2214
      refine y_ic (c := 1) (len := 1) (r := (0, 0, 0, 0)) (by decide +kernel) (by decide) (fun y2215 hy2215 => ?_)
      rcases Decidable.em (y2214.toInt > y2215.toInt) with q2216 | q2216
      ·
        refine y_cT (c := .gt) (off := 14) (pc' := 33) (len := 3) (r := (0, 0, 0, 0)) (by decide +kernel) (acmpT (c := .gt) (by show _ < _; omega)) (by decide +kernel) ?_
        refine y_inc (j := 2) (a := xi) (c := 1) (ls' := fun v => [some (.inl (some RA)), some (zi xb), some v]) (len := 3) (r := (0, 0, 0, 0)) (by decide +kernel) rfl (fun _ => rfl) (by decide) (by omega) (by omega) (fun y2217 hy2217 => ?_)
        show qX (d + 1) 74 36 [some (.inl (some RA)), some (zi xb), some (zi y2217)] [] h t _
        refine y_goto (off := (-32)) (pc' := 4) (len := 3) (r := (0, 0, 0, 0)) (by decide +kernel) (by decide +kernel) ?_
        refine ih (i + 1) xb y2217 (bs_cg hb (fun v hv => ⟨?_, ?_⟩)) (by omega) (by omega) (by omega)
        · rintro ⟨j, q, a1, a2⟩
          exact ⟨j, q, by omega, a2⟩
        · rintro ⟨j, q, a1, a2, a3, a4⟩
          rcases Nat.lt_or_ge j i with q9 | q9
          · exact ⟨j, q, q9, a2, a3, a4⟩
          · obtain rfl : j = i := by omega
            cases hk.symm.trans a2
            omega
      ·
        refine y_cF (c := .gt) (off := 14) (len := 3) (r := (0, 0, 0, 0)) (by decide +kernel) (acmpF (c := .gt) (by show _ ≤ _; omega)) ?_
        refine y_same (i := .iload_n 1) (len := 1) (r := (0, 0, 0, 0)) (pc' := 23) (ls' := [some (.inl (some RA)), some (zi xb), some (zi xi)]) (st' := [zi xb]) (by decide +kernel) (fun k q => by cases q) rfl ?_
        refine y_ic (c := 1) (len := 1) (r := (0, 0, 0, 0)) (by decide +kernel) (by decide) (fun y2218 hy2218 => ?_)
        refine y_same (i := .aload_n 0) (len := 1) (r := (0, 0, 0, 0)) (pc' := 25) (ls' := [some (.inl (some RA)), some (zi xb), some (zi xi)]) (st' := [.inl (some RA), zi y2218, zi xb]) (by decide +kernel) (fun k q => by cases q) rfl ?_
        refine y_same (i := .iload_n 2) (len := 1) (r := (0, 0, 0, 0)) (pc' := 26) (ls' := [some (.inl (some RA)), some (zi xb), some (zi xi)]) (st' := [zi xi, .inl (some RA), zi y2218, zi xb]) (by decide +kernel) (fun k q => by cases q) rfl ?_
        refine y_ic (c := 1) (len := 1) (r := (0, 0, 0, 0)) (by decide +kernel) (by decide) (fun y2219 hy2219 => ?_)
        refine y_cI (i := .invokevirtual 29) (len := 3) (r := (0, 64, 6, 659)) (nL := 3) (k := 1) (n := 3) (hs := []) (args := [.inl (some RA), zi xi, zi y2219]) (rest := [zi y2218, zi xb]) (l0 := [some (.inl (some RA)), some (zi xi), some (zi y2219)]) (by decide +kernel) (Or.inr (Or.inl ⟨_, rfl⟩)) rfl rfl rfl rfl (Nat.le_of_ble_eq_true rfl) (zO hg tRA aw1004 rfl) rfl (qI_le (by omega) (e_tlV (d := 0) (k := i) (w := 1) hg tRA tIA pA r (by omega) hk okk (by omega) (by omega))) (fun y2220 qy2220 hRy2220 => ?_)
        obtain ⟨rfl, ey2220⟩ := hRy2220
        have ey2220 : y2220.toInt = ik.2.1 := ey2220
        refine y_bp (i := .ishl) (f := fun x y => x <<< (y &&& 31)) (len := 1) (r := (0, 0, 0, 0)) (by decide +kernel) rfl rfl (fun y2221 hy2221 => ?_)
        have hy2221 : y2221 = y2218 <<< (y2220 &&& 31) := hy2221
        refine y_bp (i := .ior) (f := fun x y => x ||| y) (len := 1) (r := (0, 0, 0, 0)) (by decide +kernel) rfl rfl (fun y2222 hy2222 => ?_)
        have hy2222 : y2222 = xb ||| y2221 := hy2222
        refine y_same (i := .istore_n 1) (len := 1) (r := (0, 0, 0, 0)) (pc' := 33) (ls' := [some (.inl (some RA)), some (zi y2222), some (zi xi)]) (st' := []) (by decide +kernel) (fun k q => by cases q) rfl ?_
        refine y_inc (j := 2) (a := xi) (c := 1) (ls' := fun v => [some (.inl (some RA)), some (zi y2222), some v]) (len := 3) (r := (0, 0, 0, 0)) (by decide +kernel) rfl (fun _ => rfl) (by decide) (by omega) (by omega) (fun y2223 hy2223 => ?_)
        show qX (d + 1) 74 36 [some (.inl (some RA)), some (zi y2222), some (zi y2223)] [] h t _
        refine y_goto (off := (-32)) (pc' := 4) (len := 3) (r := (0, 0, 0, 0)) (by decide +kernel) (by decide +kernel) ?_
        have b9 := bs_or hb (bs_1 (c := y2218) (y := y2220) (k := ik.2.1) hy2218 ey2220 (by omega) (by omega))
        rw [← hy2221, ← hy2222] at b9
        refine ih (i + 1) y2222 y2223 (bs_cg b9 (fun v hv => ⟨?_, ?_⟩)) (by omega) (by omega) (by omega)
        · rintro (⟨j, q, a1, a2⟩ | e9)
          · exact ⟨j, q, by omega, a2⟩
          · exact ⟨i, ik, by omega, hk, by omega, e9⟩
        · rintro ⟨j, q, a1, a2, a3, a4⟩
          rcases Nat.lt_or_ge j i with q9 | q9
          · exact Or.inl ⟨j, q, q9, a2, a3, a4⟩
          · obtain rfl : j = i := by omega
            cases hk.symm.trans a2
            exact Or.inr a4
theorem e_owV {d t : Nat} {τ : List Nat} {h : zh} (hg : hG τ h) {RA IA : Nat} {l : List it4} (tRA : τ[RA]? = some 1004) (tIA : τ[IA]? = some 1007) (pA : hsl h RA 0 = some (.inl (some IA))) (r : rwC h RA IA l) (ok : okL l) : qI (d + 2) 74 [some (.inl (some RA)), none, none] h t (fun y h1 => h = h1 ∧ bs_ y (fun v => ∃ p ∈ l, p.1 ≤ 1 ∧ p.2.1 = (v : Int))) := by
  refine qI_of ?_
  refine y_ic (c := 0) (len := 1) (r := (0, 0, 0, 0)) (by decide +kernel) (by decide) (fun y2224 hy2224 => ?_)
  refine y_same (i := .istore_n 1) (len := 1) (r := (0, 0, 0, 0)) (pc' := 2) (ls' := [some (.inl (some RA)), some (zi y2224), none]) (st' := []) (by decide +kernel) (fun k q => by cases q) rfl ?_
  refine y_ic (c := 0) (len := 1) (r := (0, 0, 0, 0)) (by decide +kernel) (by decide) (fun y2225 hy2225 => ?_)
  refine y_same (i := .istore_n 2) (len := 1) (r := (0, 0, 0, 0)) (pc' := 4) (ls' := [some (.inl (some RA)), some (zi y2224), some (zi y2225)]) (st' := []) (by decide +kernel) (fun k q => by cases q) rfl ?_
  exact owV_l hg tRA tIA pA r ok (l.length + 1) 0 y2224 y2225 (bs_0 (by omega) (fun v => by rintro ⟨j, _, a1, -⟩; omega)) (by omega) (by omega) (by omega)
theorem fsV_l {d t : Nat} {τ : List Nat} {h : zh} (hg : hG τ h) {RA IA : Nat} {l : List it4} (tRA : τ[RA]? = some 1004) (tIA : τ[IA]? = some 1007) (pA : hsl h RA 0 = some (.inl (some IA))) (r : rwC h RA IA l) (ok : okL l) : ∀ (n : Nat) (i : Nat) (xi : Int32), (xi.toInt = (i : Int)) → (i ≤ l.length) → (∀ (j : Nat) (p : it4), j < i → l[j]? = some p → ¬ trv p) → (l.length < i + n) → qX (d + 1) 75 2 [some (.inl (some RA)), some (zi xi)] [] h t (rI (fun y h1 => h = h1 ∧ ((∃ (k : Nat) (q : it4), y.toInt = (k : Int) ∧ l[k]? = some q ∧ trv q ∧ ∀ (j : Nat) (p : it4), j < k → l[j]? = some p → ¬ trv p) ∨ (y.toInt = -1 ∧ ∀ q ∈ l, ¬ trv q))) t) := by
  intro n
  induction n with
  | zero =>
    intro i xi hxi hi c1 hn
    exfalso
    omega
  | succ n ih =>
    intro i xi hxi hi c1 hn
    obtain ⟨xl, hl, el⟩ := r.1
    obtain ⟨x9, e9, l9, u9⟩ := g_int (i := 1) (lo := 0) (hi := 14) hg tRA aw1004 (by decide) rfl
    have e8 := hl.symm.trans e9
    cases e8
    refine y_same (i := .iload_n 1) (len := 1) (r := (0, 0, 0, 0)) (pc' := 3) (ls' := [some (.inl (some RA)), some (zi xi)]) (st' := [zi xi]) (by decide +kernel) (fun k q => by cases q) rfl ?_
    refine y_same (i := .aload_n 0) (len := 1) (r := (0, 0, 0, 0)) (pc' := 4) (ls' := [some (.inl (some RA)), some (zi xi)]) (st' := [.inl (some RA), zi xi]) (by decide +kernel) (fun k q => by cases q) rfl ?_
    refine y_get (j := 9) (len := 3) (r := (6, 1, 0, 164)) (by decide +kernel) hg tRA aw1004 rfl rfl hl ?_
    rcases Decidable.em (xi.toInt ≥ xl.toInt) with q2226 | q2226
    ·
      refine y_cT (c := .ge) (off := 36) (pc' := 43) (len := 3) (r := (0, 0, 0, 0)) (by decide +kernel) (acmpT (c := .ge) (by show _ ≤ _; omega)) (by decide +kernel) ?_
      refine y_ic (c := (-1)) (len := 1) (r := (0, 0, 0, 0)) (by decide +kernel) (by decide) (fun y2227 hy2227 => ?_)
      refine y_rI (len := 1) (r := (0, 0, 0, 0)) (nL := 2) (k := 1) (n9 := 1) (hs := []) (by decide +kernel) rfl rfl ?_
      exact ⟨rfl, Or.inr ⟨by omega, fun q m9 => by obtain ⟨j, hj⟩ := List.getElem?_of_mem m9; exact c1 j q (by have := (List.getElem?_eq_some_iff.mp hj).1; omega) hj⟩⟩
    ·
      refine y_cF (c := .ge) (off := 36) (len := 3) (r := (0, 0, 0, 0)) (by decide +kernel) (acmpF (c := .ge) (by show _ < _; omega)) ?_
      obtain ⟨ik, hk⟩ : ∃ ik, l[i]? = some ik := ⟨_, List.getElem?_eq_getElem (by omega)⟩
      have okk := ok i ik hk
      have okk2 := okk
      unfold okV at okk2
      refine y_same (i := .aload_n 0) (len := 1) (r := (0, 0, 0, 0)) (pc' := 11) (ls' := [some (.inl (some RA)), some (zi xi)]) (st' := [.inl (some RA)]) (by decide +kernel) (fun k q => by cases q) rfl ?_
      refine y_same (i := .iload_n 1) (len := 1) (r := (0, 0, 0, 0)) (pc' := 12) (ls' := [some (.inl (some RA)), some (zi xi)]) (st' := [zi xi, .inl (some RA)]) (by decide +kernel) (fun k q => by cases q) rfl ?_
      refine y_ic (c := 0) (len := 1) (r := (0, 0, 0, 0)) (by decide +kernel) (by decide) (fun y2228 hy2228 => ?_)
      refine y_cI (i := .invokevirtual 29) (len := 3) (r := (0, 64, 6, 659)) (nL := 3) (k := 1) (n := 3) (hs := []) (args := [.inl (some RA), zi xi, zi y2228]) (rest := []) (l0 := [some (.inl (some RA)), some (zi xi), some (zi y2228)]) (by decide +kernel) (Or.inr (Or.inl ⟨_, rfl⟩)) rfl rfl rfl rfl (Nat.le_of_ble_eq_true rfl) (zO hg tRA aw1004 rfl) rfl (qI_le (by omega) (e_tlV (d := 0) (k := i) (w := 0) hg tRA tIA pA r (by omega) hk okk (by omega) (by omega))) (fun y2229 qy2229 hRy2229 => ?_)
      obtain ⟨rfl, ey2229⟩ := hRy2229
      have ey2229 : y2229.toInt = ik.1 := ey2229
      refine y_ic (c := 2) (len := 1) (r := (0, 0, 0, 0)) (by decide +kernel) (by decide) (fun y2230 hy2230 => ?_)
      rcases Decidable.em (y2229.toInt < y2230.toInt) with q2231 | q2231
      ·
        refine y_cT (c := .lt) (off := 20) (pc' := 37) (len := 3) (r := (0, 0, 0, 0)) (by decide +kernel) (acmpT (c := .lt) (by show _ < _; omega)) (by decide +kernel) ?_
        refine y_inc (j := 1) (a := xi) (c := 1) (ls' := fun v => [some (.inl (some RA)), some v]) (len := 3) (r := (0, 0, 0, 0)) (by decide +kernel) rfl (fun _ => rfl) (by decide) (by omega) (by omega) (fun y2232 hy2232 => ?_)
        show qX (d + 1) 75 40 [some (.inl (some RA)), some (zi y2232)] [] h t _
        refine y_goto (off := (-38)) (pc' := 2) (len := 3) (r := (0, 0, 0, 0)) (by decide +kernel) (by decide +kernel) ?_
        refine ih (i + 1) y2232 (by omega) (by omega) (fun j q hj h9 => ?_) (by omega)
        rcases Nat.lt_or_ge j i with q9 | q9
        · exact c1 j q q9 h9
        · obtain rfl : j = i := by omega
          cases hk.symm.trans h9
          rintro ⟨t1, t2⟩
          omega
      ·
        refine y_cF (c := .lt) (off := 20) (len := 3) (r := (0, 0, 0, 0)) (by decide +kernel) (acmpF (c := .lt) (by show _ ≤ _; omega)) ?_
        refine y_same (i := .aload_n 0) (len := 1) (r := (0, 0, 0, 0)) (pc' := 21) (ls' := [some (.inl (some RA)), some (zi xi)]) (st' := [.inl (some RA)]) (by decide +kernel) (fun k q => by cases q) rfl ?_
        refine y_same (i := .iload_n 1) (len := 1) (r := (0, 0, 0, 0)) (pc' := 22) (ls' := [some (.inl (some RA)), some (zi xi)]) (st' := [zi xi, .inl (some RA)]) (by decide +kernel) (fun k q => by cases q) rfl ?_
        refine y_ic (c := 1) (len := 1) (r := (0, 0, 0, 0)) (by decide +kernel) (by decide) (fun y2233 hy2233 => ?_)
        refine y_cI (i := .invokevirtual 29) (len := 3) (r := (0, 64, 6, 659)) (nL := 3) (k := 1) (n := 3) (hs := []) (args := [.inl (some RA), zi xi, zi y2233]) (rest := []) (l0 := [some (.inl (some RA)), some (zi xi), some (zi y2233)]) (by decide +kernel) (Or.inr (Or.inl ⟨_, rfl⟩)) rfl rfl rfl rfl (Nat.le_of_ble_eq_true rfl) (zO hg tRA aw1004 rfl) rfl (qI_le (by omega) (e_tlV (d := 0) (k := i) (w := 1) hg tRA tIA pA r (by omega) hk okk (by omega) (by omega))) (fun y2234 qy2234 hRy2234 => ?_)
        obtain ⟨rfl, ey2234⟩ := hRy2234
        have ey2234 : y2234.toInt = ik.2.1 := ey2234
        refine y_same (i := .aload_n 0) (len := 1) (r := (0, 0, 0, 0)) (pc' := 27) (ls' := [some (.inl (some RA)), some (zi xi)]) (st' := [.inl (some RA), zi y2234]) (by decide +kernel) (fun k q => by cases q) rfl ?_
        refine y_same (i := .iload_n 1) (len := 1) (r := (0, 0, 0, 0)) (pc' := 28) (ls' := [some (.inl (some RA)), some (zi xi)]) (st' := [zi xi, .inl (some RA), zi y2234]) (by decide +kernel) (fun k q => by cases q) rfl ?_
        refine y_ic (c := 2) (len := 1) (r := (0, 0, 0, 0)) (by decide +kernel) (by decide) (fun y2235 hy2235 => ?_)
        refine y_cI (i := .invokevirtual 29) (len := 3) (r := (0, 64, 6, 659)) (nL := 3) (k := 1) (n := 3) (hs := []) (args := [.inl (some RA), zi xi, zi y2235]) (rest := [zi y2234]) (l0 := [some (.inl (some RA)), some (zi xi), some (zi y2235)]) (by decide +kernel) (Or.inr (Or.inl ⟨_, rfl⟩)) rfl rfl rfl rfl (Nat.le_of_ble_eq_true rfl) (zO hg tRA aw1004 rfl) rfl (qI_le (by omega) (e_tlV (d := 0) (k := i) (w := 2) hg tRA tIA pA r (by omega) hk okk (by omega) (by omega))) (fun y2236 qy2236 hRy2236 => ?_)
        obtain ⟨rfl, ey2236⟩ := hRy2236
        have ey2236 : y2236.toInt = ik.2.2.1 := ey2236
        rcases Decidable.em (y2234.toInt ≠ y2236.toInt) with q2237 | q2237
        ·
          refine y_cT (c := .ne) (off := 5) (pc' := 37) (len := 3) (r := (0, 0, 0, 0)) (by decide +kernel) (acmpT (c := .ne) (by show ¬ (_ = _); omega)) (by decide +kernel) ?_
          refine y_inc (j := 1) (a := xi) (c := 1) (ls' := fun v => [some (.inl (some RA)), some v]) (len := 3) (r := (0, 0, 0, 0)) (by decide +kernel) rfl (fun _ => rfl) (by decide) (by omega) (by omega) (fun y2238 hy2238 => ?_)
          show qX (d + 1) 75 40 [some (.inl (some RA)), some (zi y2238)] [] h t _
          refine y_goto (off := (-38)) (pc' := 2) (len := 3) (r := (0, 0, 0, 0)) (by decide +kernel) (by decide +kernel) ?_
          refine ih (i + 1) y2238 (by omega) (by omega) (fun j q hj h9 => ?_) (by omega)
          rcases Nat.lt_or_ge j i with q9 | q9
          · exact c1 j q q9 h9
          · obtain rfl : j = i := by omega
            cases hk.symm.trans h9
            rintro ⟨t1, t2⟩
            omega
        ·
          refine y_cF (c := .ne) (off := 5) (len := 3) (r := (0, 0, 0, 0)) (by decide +kernel) (acmpF (c := .ne) (by show _ = _; omega)) ?_
          refine y_same (i := .iload_n 1) (len := 1) (r := (0, 0, 0, 0)) (pc' := 36) (ls' := [some (.inl (some RA)), some (zi xi)]) (st' := [zi xi]) (by decide +kernel) (fun k q => by cases q) rfl ?_
          refine y_rI (len := 1) (r := (0, 0, 0, 0)) (nL := 2) (k := 1) (n9 := 1) (hs := []) (by decide +kernel) rfl rfl ?_
          exact ⟨rfl, Or.inl ⟨i, ik, hxi, hk, ⟨by omega, by omega⟩, c1⟩⟩
theorem e_fsV {d t : Nat} {τ : List Nat} {h : zh} (hg : hG τ h) {RA IA : Nat} {l : List it4} (tRA : τ[RA]? = some 1004) (tIA : τ[IA]? = some 1007) (pA : hsl h RA 0 = some (.inl (some IA))) (r : rwC h RA IA l) (ok : okL l) : qI (d + 2) 75 [some (.inl (some RA)), none] h t (fun y h1 => h = h1 ∧ ((∃ (k : Nat) (q : it4), y.toInt = (k : Int) ∧ l[k]? = some q ∧ trv q ∧ ∀ (j : Nat) (p : it4), j < k → l[j]? = some p → ¬ trv p) ∨ (y.toInt = -1 ∧ ∀ q ∈ l, ¬ trv q))) := by
  refine qI_of ?_
  refine y_ic (c := 0) (len := 1) (r := (0, 0, 0, 0)) (by decide +kernel) (by decide) (fun y2239 hy2239 => ?_)
  refine y_same (i := .istore_n 1) (len := 1) (r := (0, 0, 0, 0)) (pc' := 2) (ls' := [some (.inl (some RA)), some (zi y2239)]) (st' := []) (by decide +kernel) (fun k q => by cases q) rfl ?_
  exact fsV_l hg tRA tIA pA r ok (l.length + 1) 0 y2239 (by omega) (by omega) (fun j _ hj _ => absurd hj (Nat.not_lt_zero j)) (by omega)
theorem rep_c {A B C s y : Nat} (hB : B < 32) (hC : C < 2 ^ s) (hy : y < 32) (hs : s ≤ 10) : (nI (2 ^ (s + 5) * A + (2 ^ s * B + C)) &&& (((31 : Int32) <<< (nI s &&& 31)) ^^^ (-1))) ||| (nI y <<< (nI s &&& 31)) = nI (2 ^ (s + 5) * A + (2 ^ s * y + C)) := b_ext (fun i hi => by
  have p5 : 2 ^ (s + 5) = 2 ^ s * 32 := Nat.pow_add 2 s 5
  have c1 : 2 ^ s * B + C < 2 ^ (s + 5) := by
    rw [p5]
    have : 2 ^ s * B + 2 ^ s ≤ 2 ^ s * 32 := by
      rw [← Nat.mul_succ]
      exact Nat.mul_le_mul_left _ hB
    omega
  have c2 : 2 ^ s * y + C < 2 ^ (s + 5) := by
    rw [p5]
    have : 2 ^ s * y + 2 ^ s ≤ 2 ^ s * 32 := by
      rw [← Nat.mul_succ]
      exact Nat.mul_le_mul_left _ hy
    omega
  rw [b_or, b_and, b_xor, b_m1 i hi, b_shl s (by omega) _ hi, b_shl s (by omega) _ hi, bt_nI hi, bt_nI hi, show (31 : Int32) = nI 31 from rfl, bt_nI (by omega), bt_nI (by omega), Nat.testBit_two_pow_mul_add _ c1, Nat.testBit_two_pow_mul_add _ c2, Nat.testBit_two_pow_mul_add _ hC, Nat.testBit_two_pow_mul_add _ hC, show (31 : Nat) = 2 ^ 5 - 1 from rfl, Nat.testBit_two_pow_sub_one]
  rcases Nat.lt_or_ge i s with q | q
  · rw [if_pos (by omega), if_pos q, if_pos (by omega), if_pos q, decide_eq_false (by omega : ¬ s ≤ i)]
    cases C.testBit i <;> rfl
  · rcases Nat.lt_or_ge i (s + 5) with q2 | q2
    · rw [if_pos q2, if_neg (by omega), if_pos q2, if_neg (by omega), decide_eq_true q, decide_eq_true (by omega : i - s < 5)]
      cases B.testBit (i - s) <;> cases y.testBit (i - s) <;> rfl
    · rw [if_neg (by omega), if_neg (by omega), decide_eq_true q, decide_eq_false (by omega : ¬ i - s < 5), Nat.testBit_lt_two_pow (Nat.lt_of_lt_of_le hy (Nat.pow_le_pow_right (n := 2) (by decide) (by omega : 5 ≤ i - s)))]
      cases A.testBit (i - (s + 5)) <;> rfl)
