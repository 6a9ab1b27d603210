/-! READY of a whole sequent: any order of the left side's rules, one end -/
abbrev sqT : Type := List it4 × List it4 × List it4 × dfT
/-- taken out where it may be -/
def Rm (P : it4 → Prop) : List it4 → List it4 → Prop
  | [], L => L = []
  | p :: Q, L => (∃ L', L = p :: L' ∧ Rm P Q L') ∨ (P p ∧ Rm P Q L)
theorem Rm_id {P : it4 → Prop} {L : List it4} : Rm P L L := by
  induction L with
  | nil => rfl
  | cons p L ih => exact Or.inl ⟨L, rfl, ih⟩
theorem Rm_go {P : it4 → Prop} : ∀ {Q L : List it4} {k : Nat} {q : it4}, Rm P Q L → L[k]? = some q → P q → Rm P Q (L.eraseIdx k)
  | [], L, k, q, h, hk, _ => by
    rw [show L = [] from h] at hk
    cases hk
  | p :: Q, L, k, q, h, hk, t => by
    rcases h with ⟨L', e2, h⟩ | ⟨t2, h⟩
    · subst e2
      cases k with
      | zero =>
        cases hk
        exact Or.inr ⟨t, h⟩
      | succ k => exact Or.inl ⟨L'.eraseIdx k, rfl, Rm_go h hk t⟩
    · exact Or.inr ⟨t2, Rm_go h hk t⟩
theorem Rm_one {P : it4 → Prop} : ∀ {Q L L' : List it4}, Rm P Q L → (∀ q ∈ L, ¬ P q) → Rm P Q L' → (∀ q ∈ L', ¬ P q) → L = L'
  | [], L, L', h, _, h', _ => by rw [show L = [] from h, show L' = [] from h']
  | p :: Q, L, L', h, n, h', n' => by
    rcases h with ⟨M, e, h⟩ | ⟨t, h⟩
    · subst e
      rcases h' with ⟨M', e', h'⟩ | ⟨t', -⟩
      · subst e'
        rw [Rm_one h (fun q hq => n q (List.mem_cons_of_mem _ hq)) h' (fun q hq => n' q (List.mem_cons_of_mem _ hq))]
      · exact absurd t' (n p List.mem_cons_self)
    · rcases h' with ⟨M', e', -⟩ | ⟨-, h'⟩
      · subst e'
        exact absurd t (n' p List.mem_cons_self)
      · exact Rm_one h n h' n'
/-- 0, and where a cell or pair is at -/
def ap (L : List it4) (x : Int) : Prop := x = 0 ∨ ∃ p ∈ L, p.1 ≤ 1 ∧ p.2.1 = x
def kn (L : List it4) (D : dfT) (x y : Int) : Prop := D x y ∨ (x ≠ y ∧ ap L x ∧ ap L y)
/-- a claim that goes -/
def rv (L : List it4) (D : dfT) (c : it4) : Prop := (c.1 = 1 ∧ c.2.1 = c.2.2.1) ∨ (c.1 ≠ 1 ∧ kn L D c.2.1 c.2.2.1)
/-- a variable in parts or claims -/
def mnt (M : List it4) (x : Int) : Prop := ∃ p ∈ M, p.2.1 = x ∨ p.2.2.1 = x ∨ p.2.2.2 = x
def idle (s : sqT) (a b : Int) : Prop := (a ≠ 0 ∧ ¬ mnt (s.1 ++ (s.2.1 ++ s.2.2.1)) a) ∨ (b ≠ 0 ∧ ¬ mnt (s.1 ++ (s.2.1 ++ s.2.2.1)) b)
def mkQ (a b : Int) (s : sqT) : sqT := (s.1.map (mI (rn1 a b)), s.2.1.map (mI (rn1 a b)), s.2.2.1.map (mI (rn1 a b)), Dm (rn1 a b) s.2.2.2)
def at2 (s : sqT) : Prop := rest s.1 ∧ ∀ q ∈ s.2.1, ¬ trv q
def at3 (s : sqT) : Prop := at2 s ∧ ∀ c ∈ s.2.2.1, ¬ rv s.1 s.2.2.2 c
def nrm (s : sqT) : Prop := at3 s ∧ ∀ a b, s.2.2.2 a b → ¬ idle s a b
/-- one thing is done -/
def stp1 (s s' : sqT) : Prop := (∃ k q, s.1[k]? = some q ∧ trv q ∧ s' = (s.1.eraseIdx k, s.2.1, s.2.2.1, s.2.2.2)) ∨ (∃ a b, asks s.1 a b ∧ s' = mkQ a b s) ∨ (rest s.1 ∧ ∃ k q, s.2.1[k]? = some q ∧ trv q ∧ s' = (s.1, s.2.1.eraseIdx k, s.2.2.1, s.2.2.2)) ∨ (at2 s ∧ ∃ k c, s.2.2.1[k]? = some c ∧ rv s.1 s.2.2.2 c ∧ s' = (s.1, s.2.1, s.2.2.1.eraseIdx k, s.2.2.2)) ∨ (at3 s ∧ ∃ D' : dfT, (∀ a b, D' a b → s.2.2.2 a b) ∧ (∀ a b, s.2.2.2 a b → D' a b ∨ idle s a b) ∧ s' = (s.1, s.2.1, s.2.2.1, D'))
def vd_ (s : sqT) : Prop := vdS s.1 s.2.2.2 id
/-- a run, never VOID ahead of its end -/
def sts (s : sqT) : List sqT → sqT → Prop
  | [], s' => s = s'
  | x :: l, s' => ¬ vd_ s ∧ stp1 s x ∧ sts x l s'
/-- all numbers are variables, trees tell one -/
def okS (s : sqT) : Prop := tz s.1 ∧ (∀ p ∈ s.1 ++ (s.2.1 ++ s.2.2.1), 0 ≤ p.2.1 ∧ 0 ≤ p.2.2.1 ∧ 0 ≤ p.2.2.2) ∧ ∀ a b, s.2.2.2 a b → 0 ≤ a ∧ 0 ≤ b
/-- how far a run has come -/
def RI (s0 s : sqT) : Prop := ∃ r : mpT, LR s0.1 r s.1 ∧ Rep r s0.2.1 s.2.1 ∧ ((s.2.2.1 = s0.2.2.1.map (mI r) ∧ s.2.2.2 = Dm r s0.2.2.2) ∨ (at2 s ∧ Rm (rv s.1 (Dm r s0.2.2.2)) (s0.2.2.1.map (mI r)) s.2.2.1 ∧ (s.2.2.2 = Dm r s0.2.2.2 ∨ ((∀ c ∈ s.2.2.1, ¬ rv s.1 (Dm r s0.2.2.2) c) ∧ (∀ a b, s.2.2.2 a b → Dm r s0.2.2.2 a b) ∧ (∀ a b, Dm r s0.2.2.2 a b → s.2.2.2 a b ∨ idle s a b) ∧ ¬ vdS s.1 (Dm r s0.2.2.2) id))))
theorem mI_id {i : it4} : mI id i = i := rfl
theorem RI_0 {s : sqT} : RI s s := by
  refine ⟨id, LR_0, Rep_id, Or.inl ⟨?_, ?_⟩⟩
  · rw [show (mI id : it4 → it4) = id from funext fun i => rfl, List.map_id]
  · funext a b
    exact propext ⟨fun h => ⟨a, b, h, rfl, rfl⟩, fun ⟨a', b', h, e1, e2⟩ => by
      have e1 : a' = a := e1
      have e2 : b' = b := e2
      rw [← e1, ← e2]
      exact h⟩
theorem rest_no {L : List it4} {a b : Int} (r : rest L) (k : asks L a b) : False := by
  obtain ⟨e1, e2, e3, e4⟩ := r
  rcases k with ⟨p, hp, h1, h2, -⟩ | ⟨p, hp, h1, -, -, q, hq, h4, h5⟩ | ⟨h, -⟩
  · exact e2 p hp h1 h2
  · exact e3 p hp h1 q hq h4 h5
  · exact e4 a h
theorem rest_nt {L : List it4} {k : Nat} {q : it4} (r : rest L) (hk : L[k]? = some q) (t : trv q) : False := r.1 q (List.mem_of_getElem? hk) t
theorem rv_sub {L : List it4} {D D' : dfT} {c : it4} (h : ∀ a b, D' a b → D a b) (v : rv L D' c) : rv L D c := by
  rcases v with v | ⟨v1, v | v⟩
  · exact Or.inl v
  · exact Or.inr ⟨v1, Or.inl (h _ _ v)⟩
  · exact Or.inr ⟨v1, Or.inr v⟩
theorem Dm_Dm {r s : mpT} {D : dfT} : Dm s (Dm r D) = Dm (fun v => s (r v)) D := by
  funext a b
  refine propext ⟨fun ⟨a1, b1, ⟨a2, b2, h, e1, e2⟩, e3, e4⟩ => ⟨a2, b2, h, by show s (r a2) = a; rw [e1, e3], by show s (r b2) = b; rw [e2, e4]⟩, fun ⟨a1, b1, h, e1, e2⟩ => ⟨r a1, r b1, ⟨a1, b1, h, rfl, rfl⟩, e1, e2⟩⟩
theorem asks_fix {P L : List it4} {r : mpT} {a b : Int} (ok : ∀ p ∈ P, 0 ≤ p.2.1 ∧ 0 ≤ p.2.2.1 ∧ 0 ≤ p.2.2.2) (h : LR P r L) (k : asks L a b) : r a = a ∧ r b = b ∧ 0 ≤ a ∧ 0 ≤ b := by
  have r0 : r 0 = 0 := by
    have := h.1.1 0 (Int.le_refl _)
    omega
  have f : ∀ p ∈ L, (r p.2.1 = p.2.1 ∧ 0 ≤ p.2.1) ∧ r p.2.2.1 = p.2.2.1 ∧ 0 ≤ p.2.2.1 := fun p hp => by
    obtain ⟨p', m, e⟩ := Rep_of h.2.2 hp
    subst e
    obtain ⟨o1, o2, -⟩ := ok p' m
    exact ⟨⟨h.1.2 _, (h.1.1 _ o1).1⟩, h.1.2 _, (h.1.1 _ o2).1⟩
  rcases k with ⟨p, hp, h1, h2, h3, h4⟩ | ⟨p, hp, h1, h2, h3, -⟩ | ⟨⟨i, j, p, q, hij, hi, hj, h1, h2, h3, h4⟩, h5⟩
  · rw [h3, h4]
    exact ⟨(f p hp).2.1, r0, (f p hp).2.2, Int.le_refl _⟩
  · rw [h2, h3]
    exact ⟨(f p hp).1.1, (f p hp).2.1, (f p hp).1.2, (f p hp).2.2⟩
  · rw [h5, ← h3]
    have m := List.mem_of_getElem? hi
    exact ⟨(f p m).1.1, r0, (f p m).1.2, Int.le_refl _⟩
theorem RI_st {s0 s s' : sqT} (ok : okS s0) (h : RI s0 s) (nv : ¬ vd_ s) (k : stp1 s s') : RI s0 s' := by
  obtain ⟨r, lr, rr, c⟩ := h
  obtain ⟨z, o1, o2⟩ := ok
  rcases k with ⟨k, q, hk, t, e⟩ | ⟨a, b, ka, e⟩ | ⟨re, k, q, hk, t, e⟩ | ⟨a2, k, q, hk, t, e⟩ | ⟨a3, D', d1, d2, e⟩
  · subst e
    refine ⟨r, LR_go lr hk t, rr, ?_⟩
    rcases c with c | ⟨a2, -⟩
    · exact Or.inl c
    · exact (rest_nt a2.1 hk t).elim
  · subst e
    rcases c with ⟨c1, c2⟩ | ⟨a2, -⟩
    · obtain ⟨f1, f2, f3, f4⟩ := asks_fix (fun p hp => o1 p (List.mem_append_left _ hp)) lr ka
      refine ⟨fun v => rn1 a b (r v), LR_mk lr ka f1 f2 f3 f4, Rep_ren rr, Or.inl ⟨?_, ?_⟩⟩
      · show s.2.2.1.map (mI (rn1 a b)) = _
        rw [c1, List.map_map]
        rfl
      · show Dm (rn1 a b) s.2.2.2 = _
        rw [c2, Dm_Dm]
    · exact (rest_no a2.1 ka).elim
  · subst e
    refine ⟨r, lr, Rep_go rr hk t, ?_⟩
    rcases c with c | ⟨a2, -⟩
    · exact Or.inl c
    · exact absurd t (a2.2 q (List.mem_of_getElem? hk))
  · subst e
    rcases c with ⟨c1, c2⟩ | ⟨-, c1, c2⟩
    · refine ⟨r, lr, rr, Or.inr ⟨a2, ?_, Or.inl c2⟩⟩
      rw [← c2, ← c1]
      exact Rm_go Rm_id hk t
    · rcases c2 with c2 | ⟨c2, c3, -⟩
      · refine ⟨r, lr, rr, Or.inr ⟨a2, ?_, Or.inl c2⟩⟩
        exact Rm_go c1 hk (by rw [← c2]; exact t)
      · exact absurd (rv_sub c3 t) (c2 q (List.mem_of_getElem? hk))
  · subst e
    rcases c with ⟨c1, c2⟩ | ⟨-, c1, c2⟩
    · refine ⟨r, lr, rr, Or.inr ⟨a3.1, ?_, Or.inr ⟨?_, ?_, ?_, by rw [← c2]; exact nv⟩⟩⟩
      · show Rm _ _ s.2.2.1
        rw [c1]
        exact Rm_id
      · rw [← c2]
        exact a3.2
      · intro a b h
        rw [← c2]
        exact d1 a b h
      · intro a b h
        rw [← c2] at h
        exact d2 a b h
    · rcases c2 with c2 | ⟨c2, c3, c4, c5⟩
      · refine ⟨r, lr, rr, Or.inr ⟨a3.1, c1, Or.inr ⟨?_, ?_, ?_, by rw [← c2]; exact nv⟩⟩⟩
        · rw [← c2]
          exact a3.2
        · intro a b h
          rw [← c2]
          exact d1 a b h
        · intro a b h
          rw [← c2] at h
          exact d2 a b h
      · refine ⟨r, lr, rr, Or.inr ⟨a3.1, c1, Or.inr ⟨c2, fun a b h => c3 a b (d1 a b h), fun a b h => ?_, c5⟩⟩⟩
        rcases c4 a b h with h | h
        · exact d2 a b h
        · exact Or.inr h
theorem RI_sts {s0 : sqT} (ok : okS s0) : ∀ {l : List sqT} {s s' : sqT}, RI s0 s → sts s l s' → RI s0 s'
  | [], s, s', h, e => by
    rw [← show s = s' from e]
    exact h
  | x :: l, s, s', h, e => RI_sts ok (RI_st ok h e.1 e.2.1) e.2.2
theorem mI_cg {r r' : mpT} {i : it4} (o : 0 ≤ i.2.1 ∧ 0 ≤ i.2.2.1 ∧ 0 ≤ i.2.2.2) (e : ∀ v, 0 ≤ v → r v = r' v) : mI r i = mI r' i := by
  unfold mI
  rw [e _ o.1, e _ o.2.1, e _ o.2.2]
theorem Dm_cg {r r' : mpT} {D : dfT} (o : ∀ a b, D a b → 0 ≤ a ∧ 0 ≤ b) (e : ∀ v, 0 ≤ v → r v = r' v) : Dm r D = Dm r' D := by
  funext a b
  exact propext ⟨fun ⟨a1, b1, h, e1, e2⟩ => ⟨a1, b1, h, by rw [← e _ (o _ _ h).1]; exact e1, by rw [← e _ (o _ _ h).2]; exact e2⟩, fun ⟨a1, b1, h, e1, e2⟩ => ⟨a1, b1, h, by rw [e _ (o _ _ h).1]; exact e1, by rw [e _ (o _ _ h).2]; exact e2⟩⟩
/-- the end, told by the map -/
theorem RI_end {s0 s : sqT} (h : RI s0 s) (n : nrm s) : ∃ r : mpT, LR s0.1 r s.1 ∧ s.2.1 = (s0.2.1.map (mI r)).filter (fun q => decide (¬ (2 ≤ q.1 ∧ q.2.1 = q.2.2.1))) ∧ Rm (rv s.1 (Dm r s0.2.2.2)) (s0.2.2.1.map (mI r)) s.2.2.1 ∧ (∀ c ∈ s.2.2.1, ¬ rv s.1 (Dm r s0.2.2.2) c) ∧ ∀ a b, s.2.2.2 a b ↔ (Dm r s0.2.2.2 a b ∧ ¬ idle s a b) := by
  obtain ⟨r, lr, rr, c⟩ := h
  obtain ⟨⟨a2, a3⟩, a4⟩ := n
  refine ⟨r, lr, Rep_end rr a2.2, ?_⟩
  rcases c with ⟨c1, c2⟩ | ⟨-, c1, c2⟩
  · rw [← c2]
    refine ⟨by rw [c1]; exact Rm_id, a3, fun a b => ⟨fun h => ⟨h, a4 a b h⟩, fun h => h.1⟩⟩
  · rcases c2 with c2 | ⟨c2, c3, c4⟩
    · rw [← c2] at c1 ⊢
      exact ⟨c1, a3, fun a b => ⟨fun h => ⟨h, a4 a b h⟩, fun h => h.1⟩⟩
    · exact ⟨c1, c2, fun a b => ⟨fun h => ⟨c3 a b h, a4 a b h⟩, fun h => (c4.1 a b h.1).elim id (fun q => absurd q h.2)⟩⟩
theorem ready_one {s0 s s' : sqT} {l l' : List sqT} (ok : okS s0) (h : sts s0 l s) (n : nrm s) (h' : sts s0 l' s') (n' : nrm s') : s = s' := by
  obtain ⟨r, lr, e1, e2, e3, e4⟩ := RI_end (RI_sts ok RI_0 h) n
  obtain ⟨r', lr', e1', e2', e3', e4'⟩ := RI_end (RI_sts ok RI_0 h') n'
  obtain ⟨z, o1, o2⟩ := ok
  have er := LR_one z lr n.1.1.1 lr' n'.1.1.1
  have oL : ∀ p ∈ s0.1, mI r p = mI r' p := fun p hp => mI_cg (o1 p (List.mem_append_left _ hp)) er
  have oR : ∀ p ∈ s0.2.1, mI r p = mI r' p := fun p hp => mI_cg (o1 p (List.mem_append_right _ (List.mem_append_left _ hp))) er
  have oC : ∀ p ∈ s0.2.2.1, mI r p = mI r' p := fun p hp => mI_cg (o1 p (List.mem_append_right _ (List.mem_append_right _ hp))) er
  have eD := Dm_cg (D := s0.2.2.2) o2 er
  have a1 : s.1 = s'.1 := by
    rw [Rep_end lr.2.2 n.1.1.1.1, Rep_end lr'.2.2 n'.1.1.1.1, List.map_congr_left oL]
  have a2 : s.2.1 = s'.2.1 := by
    rw [e1, e1', List.map_congr_left oR]
  have a3 : s.2.2.1 = s'.2.2.1 := by
    rw [a1, eD, List.map_congr_left oC] at e2
    rw [a1, eD] at e3
    exact Rm_one e2 e3 e2' e3'
  have a4 : s.2.2.2 = s'.2.2.2 := by
    funext a b
    refine propext ?_
    rw [e4 a b, e4' a b, eD]
    unfold idle
    rw [a1, a2, a3]
  obtain ⟨L, R, C, D⟩ := s
  obtain ⟨L', R', C', D'⟩ := s'
  have a1 : L = L' := a1
  have a2 : R = R' := a2
  have a3 : C = C' := a3
  have a4 : D = D' := a4
  subst a1
  subst a2
  subst a3
  subst a4
  rfl
theorem vd_mono {L : List it4} {D D' : dfT} (h : ∀ a b, D a b → D' a b) (v : vdS L D id) : vdS L D' id := by
  rcases v with ⟨a, b, hd, e⟩ | v
  · exact Or.inl ⟨a, b, h a b hd, e⟩
  · exact Or.inr v
theorem RI_sub {s0 s : sqT} (h : RI s0 s) : ∃ r : mpT, LR s0.1 r s.1 ∧ (∀ a b, s.2.2.2 a b → Dm r s0.2.2.2 a b) ∧ (s.2.2.2 = Dm r s0.2.2.2 ∨ ¬ vdS s.1 (Dm r s0.2.2.2) id) := by
  obtain ⟨r, lr, -, c⟩ := h
  refine ⟨r, lr, ?_⟩
  rcases c with ⟨-, c2⟩ | ⟨-, -, c2 | ⟨-, c3, -, c5⟩⟩
  · exact ⟨fun a b h => by rw [← c2]; exact h, Or.inl c2⟩
  · exact ⟨fun a b h => by rw [← c2]; exact h, Or.inl c2⟩
  · exact ⟨c3, Or.inr c5⟩
/-- a run that is VOID, and one that ends READY: not of one sequent -/
theorem ready_vd {s0 s s' : sqT} {l l' : List sqT} (ok : okS s0) (h : sts s0 l s) (v : vd_ s) (h' : sts s0 l' s') (nv : ¬ vd_ s') (n' : nrm s') : False := by
  obtain ⟨r, lr, sub, -⟩ := RI_sub (RI_sts ok RI_0 h)
  obtain ⟨r', lr', -, c⟩ := RI_sub (RI_sts ok RI_0 h')
  have v2 := LR_vd ok.1 lr (vd_mono sub v) lr' n'.1.1.1
  rcases c with c | c
  · exact nv (by unfold vd_; rw [c]; exact v2)
  · exact c v2
/-- what READY gives: nothing where it is VOID -/
def RdY (s : sqT) : Option sqT → Prop
  | none => ∃ l s', sts s l s' ∧ vd_ s'
  | some s' => ∃ l, sts s l s' ∧ ¬ vd_ s' ∧ nrm s'
theorem RdY_one {s : sqT} {a b : Option sqT} (ok : okS s) (h : RdY s a) (h' : RdY s b) : a = b := by
  cases a with
  | none =>
    cases b with
    | none => rfl
    | some y =>
      obtain ⟨l, x, h, v⟩ := h
      obtain ⟨l', h', nv, n⟩ := h'
      exact (ready_vd ok h v h' nv n).elim
  | some x =>
    cases b with
    | none =>
      obtain ⟨l, y, h', v⟩ := h'
      obtain ⟨l', h, nv, n⟩ := h
      exact (ready_vd ok h' v h nv n).elim
    | some y =>
      obtain ⟨l, h, -, n⟩ := h
      obtain ⟨l', h', -, n'⟩ := h'
      rw [ready_one ok h n h' n']
