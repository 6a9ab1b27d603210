/-! slot's contract -/
theorem tyv_up {τ τ' : List Nat} (hu : aup τ τ') {q : qs} {v : zv} (h : tyv τ q v) : tyv τ' q v := by
  rcases q with p | ⟨T, nl⟩ | u
  · exact h
  · rcases h with h | ⟨a, e1, e2⟩
    · exact Or.inl h
    · exact Or.inr ⟨a, e1, hu _ _ e2⟩
  · exact h
theorem tyc_up {τ τ' : List Nat} (hu : aup τ τ') {T : Nat} {c : zc} (h : tyc τ T c) : tyc τ' T c := by
  unfold tyc at h ⊢
  split
  · rename_i tg L rs tg' fs ht
    rw [ht] at h
    exact ⟨h.1, h.2.1, fun i v hv => by
      obtain ⟨q, e1, e2⟩ := h.2.2 i v hv
      exact ⟨q, e1, tyv_up hu e2⟩⟩
  · rename_i ci ss ci' fs ht
    rw [ht] at h
    exact ⟨h.1, h.2.1, fun i v hv => by
      obtain ⟨q, e1, e2⟩ := h.2.2 i v hv
      exact ⟨q, e1, tyv_up hu e2⟩⟩
  · rename_i x1 x2 h1 h2
    split at h
    · rename_i tg L rs tg' fs ht
      exact absurd rfl (h1 _ _ _ _ _ ht)
    · rename_i ci ss ci' fs ht
      exact absurd rfl (h2 _ _ _ _ ht)
    · exact h
theorem hM_app {τ Ts : List Nat} {h cs : zh} (hM9 : hM τ h) (hl : Ts.length = cs.length) (hb : h.length + cs.length ≤ 100000) (hc : ∀ (k : Nat) (T : Nat), Ts[k]? = some T → 1000 ≤ T ∧ ∃ c : zc, cs[k]? = some c ∧ tyc (τ ++ Ts) T c) : hM (τ ++ Ts) (h ++ cs) := by
  refine ⟨by simp [hM9.1, hl], by rw [List.length_append]; exact hb, aup_trans hM9.2.2.1 (aup_app _ _), fun k T hk => ?_⟩
  rcases Nat.lt_or_ge k τ.length with q | q
  · rw [List.getElem?_append_left q] at hk
    obtain ⟨e1, c, e2, e3⟩ := hM9.2.2.2 k T hk
    exact ⟨e1, c, by rw [List.getElem?_append_left (by rw [← hM9.1]; exact q)]; exact e2, tyc_up (aup_app _ _) e3⟩
  · rw [List.getElem?_append_right q] at hk
    obtain ⟨e1, c, e2, e3⟩ := hc _ _ hk
    exact ⟨fun h9 => by omega, c, by rw [List.getElem?_append_right (by rw [← hM9.1]; exact q), ← hM9.1]; exact e2, e3⟩
theorem hM_hup {τ : List Nat} {h : zh} {q i T : Nat} {tt : qt} {qq : qs} {v w : zv} (hM9 : hM τ h) (hτ : τ[q]? = some T) (ht : atyp T = some tt) (hq : aslq tt i = some qq) (hv : tyv τ qq v) : hM τ (hup h q i v) := by
  obtain ⟨h1k, cc, hc, hty⟩ := hM9.2.2.2 q T hτ
  refine ⟨by rw [hup_len]; exact hM9.1, by rw [hup_len]; exact hM9.2.1, hM9.2.2.1, fun k' T' hk => ⟨(hM9.2.2.2 k' T' hk).1, ?_⟩⟩
  obtain ⟨c', hc', hty'⟩ := (hM9.2.2.2 k' T' hk).2
  by_cases hkq : k' = q
  · subst hkq
    rw [hτ] at hk
    cases hk
    rw [hc] at hc'
    cases hc'
    exact ⟨_, hup_cell hc, hup_tyc ht hty hq hv⟩
  · exact ⟨c', by rw [hup_ne hkq]; exact hc', hty'⟩
def tys (τ : List Nat) : List qs → List zv → Prop
  | [], [] => True
  | q :: qs', v :: vs => tyv τ q v ∧ tys τ qs' vs
  | _, _ => False
theorem tys_at {τ : List Nat} : ∀ {ss : List qs} {vs : List zv}, tys τ ss vs → vs.length = ss.length ∧ ∀ (i : Nat) (v : zv), vs[i]? = some v → ∃ q : qs, ss[i]? = some q ∧ tyv τ q v
  | [], [], _ => ⟨rfl, fun i v hv => (by cases hv)⟩
  | q :: ss, v :: vs, h => by
    obtain ⟨e1, e2⟩ := tys_at h.2
    refine ⟨by simp [e1], fun i w hw => ?_⟩
    cases i with
    | zero =>
      cases hw
      exact ⟨q, rfl, h.1⟩
    | succ i => exact e2 i w hw
  | [], _ :: _, h => h.elim
  | _ :: _, [], h => h.elim
theorem tyc_of {τ : List Nat} {T ci : Nat} {ss : List qs} {fs : List zv} (ht : atyp T = some (.inr (ci, ss))) (h : tys τ ss fs) : tyc τ T (.inr (ci, fs)) := by
  unfold tyc
  rw [ht]
  obtain ⟨e1, e2⟩ := tys_at h
  exact ⟨rfl, e1, e2⟩
theorem tyc_row {τ : List Nat} {T N : Nat} {p : Int × Int} (ht : atyp T = some (.inl (0, N, [(N, .inl p)]))) (h1 : p.1 ≤ 0) (h2 : 0 ≤ p.2) : tyc τ T (.inl (0, List.replicate N (zi 0))) := by
  unfold tyc
  rw [ht]
  refine ⟨rfl, List.length_replicate, fun i v hv => ?_⟩
  have hi : i < N := by
    have := (List.getElem?_eq_some_iff.mp hv).1
    rwa [List.length_replicate] at this
  have hv0 := List.eq_of_mem_replicate (List.mem_of_getElem? hv)
  subst hv0
  refine ⟨.inl p, ?_, 0, rfl, h1, h2⟩
  unfold srng
  rw [bltT.mpr hi]
  rfl
theorem at1008 : atyp 1008 = some (.inr (7, [.inr (.inl (1009, false)), .inr (.inl (1004, false)), .inr (.inl (1004, false)), .inr (.inl (1004, false)), .inl (-2147483648, 2147483647), .inl (-2147483648, 2147483647), .inl (-2147483648, 2147483647), .inl (-2147483648, 2147483647), .inl (-2147483648, 2147483647), .inl (-2147483648, 2147483647)])) := rfl
theorem at1009 : atyp 1009 = some (.inr (0, [.inr (.inl (1010, false))])) := rfl
theorem at1010 : atyp 1010 = some (.inl (0, 21, [(21, .inl (-2147483648, 2147483647))])) := rfl
theorem at1004 : atyp 1004 = some (.inr (6, [.inr (.inl (1007, false)), .inl (0, 14)])) := rfl
theorem at1007 : atyp 1007 = some (.inl (0, 14, [(14, .inl (-2147483648, 2147483647))])) := rfl
theorem at29 : atyp 29 = some (.inl (4, 300, [(300, .inr (.inl (1008, true)))])) ∧ atyp 36 = some (.inl (4, 300, [(300, .inr (.inl (1008, true)))])) := ⟨rfl, rfl⟩
theorem seq_ty {τ : List Nat} {h : zh} (hM9 : hM τ h) (hb : h.length + 9 ≤ 100000) : hM (τ ++ seqT) (h ++ seqC h.length) := by
  have hp : ∀ (j T : Nat), seqT[j]? = some T → (τ ++ seqT)[h.length + j]? = some T := fun j T hj => by
    rw [app_at hM9.1]
    exact hj
  have full : ∀ x : Int32, tyv (τ ++ seqT) (.inl (-2147483648, 2147483647)) (zi x) := fun x => ⟨x, rfl, (qin_full x).1, (qin_full x).2⟩
  have row : ∀ j : Nat, seqT[j]? = some 1007 → tyc (τ ++ seqT) 1004 (.inr (6, [.inl (some (h.length + j)), zi 0])) := fun j hj => tyc_of at1004 ⟨Or.inr ⟨_, rfl, hp j _ hj⟩, ⟨0, rfl, by decide, by decide⟩, trivial⟩
  refine hM_app hM9 rfl hb (fun k T hk => ?_)
  match k, hk with
  | 0, hk => cases hk; exact ⟨by decide, _, rfl, tyc_of at1008 ⟨Or.inr ⟨_, rfl, hp 1 _ rfl⟩, Or.inr ⟨_, rfl, hp 3 _ rfl⟩, Or.inr ⟨_, rfl, hp 5 _ rfl⟩, Or.inr ⟨_, rfl, hp 7 _ rfl⟩, full _, full _, full _, full _, full _, full _, trivial⟩⟩
  | 1, hk => cases hk; exact ⟨by decide, _, rfl, tyc_of at1009 ⟨Or.inr ⟨_, rfl, hp 2 _ rfl⟩, trivial⟩⟩
  | 2, hk => cases hk; exact ⟨by decide, _, rfl, tyc_row at1010 (by decide) (by decide)⟩
  | 3, hk => cases hk; exact ⟨by decide, _, rfl, row 4 rfl⟩
  | 4, hk => cases hk; exact ⟨by decide, _, rfl, tyc_row at1007 (by decide) (by decide)⟩
  | 5, hk => cases hk; exact ⟨by decide, _, rfl, row 6 rfl⟩
  | 6, hk => cases hk; exact ⟨by decide, _, rfl, tyc_row at1007 (by decide) (by decide)⟩
  | 7, hk => cases hk; exact ⟨by decide, _, rfl, row 8 rfl⟩
  | 8, hk => cases hk; exact ⟨by decide, _, rfl, tyc_row at1007 (by decide) (by decide)⟩
  | k + 9, hk => cases hk
def isnul (v : zv) : Bool := match v with
  | .inl none => true
  | _ => false
theorem countP_set {p : zv → Bool} {v v0 : zv} (h1 : p v = false) (h0 : p v0 = true) : ∀ {fs : List zv} {i : Nat}, fs[i]? = some v0 → (fs.set i v).countP p + 1 = fs.countP p
  | [], i, h => by cases h
  | a :: fs, 0, h => by
    cases h
    rw [List.set_cons_zero, List.countP_cons_of_neg (by rw [h1]; exact Bool.false_ne_true), List.countP_cons_of_pos h0]
  | a :: fs, i + 1, h => by
    have ih := countP_set h1 h0 (fs := fs) (i := i) h
    rw [List.set_cons_succ, List.countP_cons, List.countP_cons]
    omega
theorem znul_at {h : zh} {q : Nat} {c : zc} (hc : h[q]? = some c) : znul h q = (cfs c).countP isnul := by
  unfold znul
  rw [hc]
  rfl
theorem znul_eq {h h' : zh} {q : Nat} (e : h'[q]? = h[q]?) : znul h' q = znul h q := by
  unfold znul
  rw [e]
/-- a Sequent is put where there was none -/
theorem slot_J {h : zh} {a i : Nat} {fsA : List zv} (hj : aJ h) (ha : h[a]? = some (.inl (4, fsA))) (hi : fsA[i]? = some (.inl none)) (h2 : a = 29 ∨ a = 36) (hl : 36 < h.length) (n : Nat) : aJ (hup (h ++ seqC n) a i (.inl (some n))) := by
  have hal := (List.getElem?_eq_some_iff.mp ha).1
  have ha2 : (h ++ seqC n)[a]? = some (.inl (4, fsA)) := by rw [List.getElem?_append_left hal]; exact ha
  have e0 : (hup (h ++ seqC n) a i (.inl (some n)))[a]? = some (.inl (4, fsA.set i (.inl (some n)))) := hup_cell ha2
  have e1 : znul (hup (h ++ seqC n) a i (.inl (some n))) a + 1 = znul h a := by
    rw [znul_at e0, znul_at ha]
    exact countP_set rfl rfl hi
  have e2 : ∀ q : Nat, q ≠ a → q ≤ 36 → znul (hup (h ++ seqC n) a i (.inl (some n))) q = znul h q := fun q hq hq2 => znul_eq (by rw [hup_ne hq, List.getElem?_append_left (by omega)])
  have e3 : (hup (h ++ seqC n) a i (.inl (some n))).length = h.length + 9 := by
    rw [hup_len, List.length_append]
    rfl
  have hl7 := aK7_len hj.2
  refine ⟨?_, aK7_eq hj.2 (by rw [hup_ne (by rcases h2 with rfl | rfl <;> decide), List.getElem?_append_left hl7])⟩
  have hj := hj.1
  rw [e3]
  rcases h2 with rfl | rfl
  · rw [e2 36 (by decide) (by decide), e2 14 (by decide) (by decide)]
    omega
  · rw [e2 29 (by decide) (by decide), e2 14 (by decide) (by decide)]
    omega
