/-! overPart, told exactly -/
noncomputable def opE (R : List enT × Nat) (i : Int) : Option enT := if R.2 = 1 ∧ 0 ≤ i then (match (dix R.1 0)[i.toNat]? with
  | some j => R.1[j]?
  | none => none) else none
noncomputable def opQ (l : List it4) (k w : Int) : Int × Int := if k = -1 then (0, (l.length : Int)) else if 0 ≤ k then (match l[k.toNat]? with
  | none => (1, 0)
  | some q => if 0 ≤ w ∧ w ≤ 3 then (0, cmp_ q w.toNat) else (2, 0)) else (1, 0)
noncomputable def opA (R : List enT × Nat) (i k w : Int) : Int × Int := match opE R i with
  | none => (1, 0)
  | some e => opQ e.1.1 k w
theorem opA_n {R : List enT × Nat} {i k w : Int} (h : opE R i = none) : opA R i k w = (1, 0) := by
  unfold opA
  rw [h]
theorem opA_s {R : List enT × Nat} {i k w : Int} {e : enT} (h : opE R i = some e) : opA R i k w = opQ e.1.1 k w := by
  unfold opA
  rw [h]
theorem opQ_l {l : List it4} {k w : Int} (h : k = -1) : opQ l k w = (0, (l.length : Int)) := by
  unfold opQ
  rw [if_pos h]
theorem opQ_n {l : List it4} {k w : Int} (h : k ≠ -1) (h2 : ¬ (0 ≤ k ∧ k < (l.length : Int))) : opQ l k w = (1, 0) := by
  unfold opQ
  rw [if_neg h]
  by_cases q : 0 ≤ k
  · rw [if_pos q, List.getElem?_eq_none (by omega)]
  · rw [if_neg q]
theorem opQ_f {l : List it4} {k w : Int} {q : it4} (h : 0 ≤ k) (h2 : l[k.toNat]? = some q) (h3 : ¬ (0 ≤ w ∧ w ≤ 3)) : opQ l k w = (2, 0) := by
  unfold opQ
  rw [if_neg (by omega), if_pos h, h2]
  show (if 0 ≤ w ∧ w ≤ 3 then ((0, cmp_ q w.toNat) : Int × Int) else (2, 0)) = _
  rw [if_neg h3]
theorem opQ_t {l : List it4} {k w : Int} {q : it4} (h : 0 ≤ k) (h2 : l[k.toNat]? = some q) (h3 : 0 ≤ w ∧ w ≤ 3) : opQ l k w = (0, cmp_ q w.toNat) := by
  unfold opQ
  rw [if_neg (by omega), if_pos h, h2]
  show (if 0 ≤ w ∧ w ≤ 3 then ((0, cmp_ q w.toNat) : Int × Int) else (2, 0)) = _
  rw [if_pos h3]
theorem dix_p {e : enT} {B : List enT} {k : Nat} (q : e.2.1 = 2) : dix (e :: B) k = k :: dix B (k + 1) := by
  show (if e.2.1 = 2 then k :: dix B (k + 1) else dix B (k + 1)) = _
  rw [if_pos q]
theorem dix_n {e : enT} {B : List enT} {k : Nat} (q : e.2.1 ≠ 2) : dix (e :: B) k = dix B (k + 1) := by
  show (if e.2.1 = 2 then k :: dix B (k + 1) else dix B (k + 1)) = _
  rw [if_neg q]
theorem dix_at : ∀ (B : List enT) (k n j : Nat), (dix B k)[n]? = some j → ∃ (p : Nat) (e : enT), j = k + p ∧ B[p]? = some e ∧ e.2.1 = 2
  | [], k, n, j, h => by cases h
  | e :: B, k, n, j, h => by
    by_cases q : e.2.1 = 2
    · rw [dix_p q] at h
      cases n with
      | zero => cases h; exact ⟨0, e, rfl, rfl, q⟩
      | succ n =>
        obtain ⟨p, e', a, b, c⟩ := dix_at B (k + 1) n j h
        exact ⟨p + 1, e', by omega, b, c⟩
    · rw [dix_n q] at h
      obtain ⟨p, e', a, b, c⟩ := dix_at B (k + 1) n j h
      exact ⟨p + 1, e', by omega, b, c⟩
def fdO (B : List enT) (k s : Nat) (i : Int) : Int := if (s : Int) ≤ i then (match (dix B k)[(i - (s : Int)).toNat]? with
  | some j => (j : Int)
  | none => -1) else -1
theorem fdG_dix {st : Nat → Int} {i : Int} {m : Nat} : ∀ (B : List enT) (k s f : Nat), k + B.length = m → B.length < f → (∀ (j : Nat) (e : enT), B[j]? = some e → st (k + j) = (e.2.1 : Int)) → fdG st m i f k s = fdO B k s i
  | [], k, s, f, hm, hf, _ => by
    cases f with
    | zero => exact absurd hf (by simp)
    | succ f =>
      have hm' : k = m := hm
      rw [fdG_s, if_neg (by omega)]
      unfold fdO
      split
      · rfl
      · rfl
  | e :: B, k, s, f, hm, hf, hs => by
    cases f with
    | zero => exact absurd hf (by simp)
    | succ f =>
      have hl : (e :: B).length = B.length + 1 := rfl
      have h0 : st k = (e.2.1 : Int) := hs 0 e rfl
      have ih := fun s' => fdG_dix (st := st) (i := i) (m := m) B (k + 1) s' f (by omega) (by omega) (fun j e9 hj => by rw [show k + 1 + j = k + (j + 1) by omega]; exact hs (j + 1) e9 hj)
      rw [fdG_s, if_pos (by omega)]
      by_cases q : e.2.1 = 2
      · rw [if_pos (by omega), ih (s + 1)]
        unfold fdO
        rw [dix_p q]
        by_cases q1 : (s : Int) = i
        · rw [if_pos q1, if_pos (by omega), show (i - (s : Int)).toNat = 0 by omega]
          rfl
        · rw [if_neg q1]
          by_cases q2 : (s : Int) ≤ i
          · rw [if_pos q2, if_pos (by omega), show (i - (s : Int)).toNat = (i - ((s + 1 : Nat) : Int)).toNat + 1 by omega]
            rfl
          · rw [if_neg q2, if_neg (by omega)]
      · rw [if_neg (by omega), ih s]
        unfold fdO
        rw [dix_n q]
theorem opE_fd {R : List enT × Nat} {i num : Int} (h1 : R.2 = 1) (hn : num = fdO R.1 0 0 i) : (∃ (j : Nat) (e : enT), num = (j : Int) ∧ j < R.1.length ∧ R.1[j]? = some e ∧ e.2.1 = 2 ∧ opE R i = some e) ∨ (num = -1 ∧ opE R i = none) := by
  unfold fdO at hn
  unfold opE
  by_cases q : 0 ≤ i
  · rw [if_pos (by omega), show (i - ((0 : Nat) : Int)).toNat = i.toNat by omega] at hn
    rw [if_pos ⟨h1, q⟩]
    cases hd : (dix R.1 0)[i.toNat]? with
    | none =>
      rw [hd] at hn
      exact Or.inr ⟨hn, rfl⟩
    | some j =>
      rw [hd] at hn
      obtain ⟨p, e, a, b, c⟩ := dix_at _ _ _ _ hd
      have e9 : p = j := by omega
      subst e9
      exact Or.inl ⟨p, e, hn, (List.getElem?_eq_some_iff.mp b).1, b, c, b⟩
  · rw [if_neg (by omega)] at hn
    rw [if_neg (fun q9 => q q9.2)]
    exact Or.inr ⟨hn, rfl⟩
theorem opE_ne {R : List enT × Nat} {i : Int} (h1 : R.2 ≠ 1) : opE R i = none := by
  unfold opE
  rw [if_neg (fun q9 => h1 q9.1)]
def oX (R : zh → Prop) (t : Nat) (cv : Int × Int) (x : zo × zh × Nat) : Prop := (cv.1 = 0 ∧ rI (fun y h1 => R h1 ∧ y.toInt = cv.2) t x) ∨ (cv.1 = 1 ∧ rT 0 R t x) ∨ (cv.1 = 2 ∧ rT 1 R t x)
theorem oX_mn {R S : zh → Prop} {t : Nat} {cv : Int × Int} {x : zo × zh × Nat} (f : ∀ h1, R h1 → S h1) (o : oX R t cv x) : oX S t cv x := by
  rcases o with ⟨c, y, h1, e, r, v⟩ | ⟨c, h1, e, r⟩ | ⟨c, h1, e, r⟩
  · exact Or.inl ⟨c, y, h1, e, f _ r, v⟩
  · exact Or.inr (Or.inl ⟨c, h1, e, f _ r⟩)
  · exact Or.inr (Or.inr ⟨c, h1, e, f _ r⟩)
theorem en35_at {τ : List Nat} {h : zh} {L : List enT} {k : Nat} {e : enT} (hg : hG τ h) (n : en35 h L) (hk : L[k]? = some e) (nz : e.2.1 = 2) : ∃ a, rfs h 36 k a ∧ laQ h a ∧ τ[a]? = some 1008 ∧ sqC h a e.1 ∧ okQ e.1 := by
  obtain ⟨a, r, g, l, c4, sq⟩ := n.2.2 k e hk
  have hl := n.2.1
  have hk9 := (List.getElem?_eq_some_iff.mp hk).1
  obtain ⟨v, e8, q⟩ := g_slot36 (i := k) hg (by omega)
  have e9 : some (.inl (some a)) = some v := r.symm.trans e8
  cases e9
  rcases q with q | ⟨b, q, ty⟩
  · cases q
  · cases q
    exact ⟨a, r, l, ty, sq (by omega)⟩
theorem stp_en {h : zh} {L : List enT} (n : en35 h L) : ∀ (j : Nat) (e : enT), L[j]? = some e → stpH h (0 + j) = (e.2.1 : Int) := fun j e hj => by
  obtain ⟨a, r, g, l, ⟨x, c4, c5⟩, -⟩ := n.2.2 j e hj
  rw [Nat.zero_add, stpH_eq r c4]
  exact c5
theorem e_hasX {d t m : Nat} {τ : List Nat} {h : zh} {xk : Int32} (hg : hG τ h) (c6 : ci_ h 35 6 m) (hm3 : m ≤ 300) : qI (d + 1) 32 [some (.inl (some 35)), some (zi xk)] h t (fun y h1 => h = h1 ∧ ((y.toInt = 1 ∧ 0 ≤ xk.toInt ∧ xk.toInt < (m : Int)) ∨ (y.toInt = 0 ∧ ¬ (0 ≤ xk.toInt ∧ xk.toInt < (m : Int))))) := by
  obtain ⟨xm, hm6, em6⟩ := c6
  refine qI_of ?_
  refine y_same (i := .iload_n 1) (len := 1) (r := (0, 0, 0, 0)) (pc' := 1) (ls' := [some (.inl (some 35)), some (zi xk)]) (st' := [zi xk]) (by decide +kernel) (fun k q => by cases q) rfl ?_
  rcases Decidable.em (xk.toInt < 0) with q2998 | q2998
  ·
    refine y_iT (c := .lt) (off := 22) (pc' := 23) (len := 3) (r := (0, 0, 0, 0)) (by decide +kernel) (acmpT (c := .lt) (by show _ < _; omega)) (by decide +kernel) ?_
    refine y_ic (c := 0) (len := 1) (r := (0, 0, 0, 0)) (by decide +kernel) (by decide) (fun y2999 hy2999 => ?_)
    refine y_rI (len := 1) (r := (0, 0, 0, 0)) (nL := 2) (k := 2) (n9 := 2) (hs := []) (by decide +kernel) rfl (zfit_b (by omega) (by omega)).2 ?_
    exact ⟨rfl, by omega⟩
  ·
    refine y_iF (c := .lt) (off := 22) (len := 3) (r := (0, 0, 0, 0)) (by decide +kernel) (acmpF (c := .lt) (by show _ ≤ _; omega)) ?_
    refine y_same (i := .iload_n 1) (len := 1) (r := (0, 0, 0, 0)) (pc' := 5) (ls' := [some (.inl (some 35)), some (zi xk)]) (st' := [zi xk]) (by decide +kernel) (fun k q => by cases q) rfl ?_
    refine y_same (i := .aload_n 0) (len := 1) (r := (0, 0, 0, 0)) (pc' := 6) (ls' := [some (.inl (some 35)), some (zi xk)]) (st' := [.inl (some 35), zi xk]) (by decide +kernel) (fun k q => by cases q) rfl ?_
    refine y_get (j := 35) (len := 3) (r := (4, 6, 0, 289)) (by decide +kernel) hg (tv35 hg) aw35 rfl rfl hm6 ?_
    rcases Decidable.em (xk.toInt ≥ xm.toInt) with q3000 | q3000
    ·
      refine y_cT (c := .ge) (off := 14) (pc' := 23) (len := 3) (r := (0, 0, 0, 0)) (by decide +kernel) (acmpT (c := .ge) (by show _ ≤ _; omega)) (by decide +kernel) ?_
      refine y_ic (c := 0) (len := 1) (r := (0, 0, 0, 0)) (by decide +kernel) (by decide) (fun y3001 hy3001 => ?_)
      refine y_rI (len := 1) (r := (0, 0, 0, 0)) (nL := 2) (k := 2) (n9 := 2) (hs := []) (by decide +kernel) rfl (zfit_b (by omega) (by omega)).2 ?_
      exact ⟨rfl, by omega⟩
    ·
      refine y_cF (c := .ge) (off := 14) (len := 3) (r := (0, 0, 0, 0)) (by decide +kernel) (acmpF (c := .ge) (by show _ < _; omega)) ?_
      refine y_same (i := .iload_n 1) (len := 1) (r := (0, 0, 0, 0)) (pc' := 13) (ls' := [some (.inl (some 35)), some (zi xk)]) (st' := [zi xk]) (by decide +kernel) (fun k q => by cases q) rfl ?_
      refine y_si (c := 300) (len := 3) (r := (0, 0, 0, 0)) (by decide +kernel) (by decide) (fun y3002 hy3002 => ?_)
      rcases Decidable.em (xk.toInt ≥ y3002.toInt) with q3003 | q3003
      ·
        refine y_cT (c := .ge) (off := 7) (pc' := 23) (len := 3) (r := (0, 0, 0, 0)) (by decide +kernel) (acmpT (c := .ge) (by show _ ≤ _; omega)) (by decide +kernel) ?_
        refine y_ic (c := 0) (len := 1) (r := (0, 0, 0, 0)) (by decide +kernel) (by decide) (fun y3004 hy3004 => ?_)
        refine y_rI (len := 1) (r := (0, 0, 0, 0)) (nL := 2) (k := 2) (n9 := 2) (hs := []) (by decide +kernel) rfl (zfit_b (by omega) (by omega)).2 ?_
        exact ⟨rfl, by omega⟩
      ·
        refine y_cF (c := .ge) (off := 7) (len := 3) (r := (0, 0, 0, 0)) (by decide +kernel) (acmpF (c := .ge) (by show _ < _; omega)) ?_
        refine y_ic (c := 1) (len := 1) (r := (0, 0, 0, 0)) (by decide +kernel) (by decide) (fun y3005 hy3005 => ?_)
        refine y_goto (off := 4) (pc' := 24) (len := 3) (r := (0, 0, 0, 0)) (by decide +kernel) (by decide +kernel) ?_
        refine y_rI (len := 1) (r := (0, 0, 0, 0)) (nL := 2) (k := 2) (n9 := 2) (hs := []) (by decide +kernel) rfl (zfit_b (by omega) (by omega)).2 ?_
        exact ⟨rfl, by omega⟩
theorem e_hasV {d t RA IA : Nat} {τ : List Nat} {h : zh} {l : List it4} {xk : Int32} (hg : hG τ h) (tRA : τ[RA]? = some 1004) (r : rwC h RA IA l) : qI (d + 1) 63 [some (.inl (some RA)), some (zi xk)] h t (fun y h1 => h = h1 ∧ ((y.toInt = 1 ∧ 0 ≤ xk.toInt ∧ xk.toInt < (l.length : Int)) ∨ (y.toInt = 0 ∧ ¬ (0 ≤ xk.toInt ∧ xk.toInt < (l.length : Int))))) := by
  obtain ⟨⟨xl, hl, el⟩, -⟩ := r
  refine qI_of ?_
  refine y_same (i := .iload_n 1) (len := 1) (r := (0, 0, 0, 0)) (pc' := 1) (ls' := [some (.inl (some RA)), some (zi xk)]) (st' := [zi xk]) (by decide +kernel) (fun k q => by cases q) rfl ?_
  rcases Decidable.em (xk.toInt < 0) with q3006 | q3006
  ·
    refine y_iT (c := .lt) (off := 15) (pc' := 16) (len := 3) (r := (0, 0, 0, 0)) (by decide +kernel) (acmpT (c := .lt) (by show _ < _; omega)) (by decide +kernel) ?_
    refine y_ic (c := 0) (len := 1) (r := (0, 0, 0, 0)) (by decide +kernel) (by decide) (fun y3007 hy3007 => ?_)
    refine y_rI (len := 1) (r := (0, 0, 0, 0)) (nL := 2) (k := 2) (n9 := 2) (hs := []) (by decide +kernel) rfl (zfit_b (by omega) (by omega)).2 ?_
    exact ⟨rfl, by omega⟩
  ·
    refine y_iF (c := .lt) (off := 15) (len := 3) (r := (0, 0, 0, 0)) (by decide +kernel) (acmpF (c := .lt) (by show _ ≤ _; omega)) ?_
    refine y_same (i := .iload_n 1) (len := 1) (r := (0, 0, 0, 0)) (pc' := 5) (ls' := [some (.inl (some RA)), some (zi xk)]) (st' := [zi xk]) (by decide +kernel) (fun k q => by cases q) rfl ?_
    refine y_same (i := .aload_n 0) (len := 1) (r := (0, 0, 0, 0)) (pc' := 6) (ls' := [some (.inl (some RA)), some (zi xk)]) (st' := [.inl (some RA), zi xk]) (by decide +kernel) (fun k q => by cases q) rfl ?_
    refine y_get (j := 9) (len := 3) (r := (6, 1, 0, 164)) (by decide +kernel) hg tRA aw1004 rfl rfl hl ?_
    rcases Decidable.em (xk.toInt ≥ xl.toInt) with q3008 | q3008
    ·
      refine y_cT (c := .ge) (off := 7) (pc' := 16) (len := 3) (r := (0, 0, 0, 0)) (by decide +kernel) (acmpT (c := .ge) (by show _ ≤ _; omega)) (by decide +kernel) ?_
      refine y_ic (c := 0) (len := 1) (r := (0, 0, 0, 0)) (by decide +kernel) (by decide) (fun y3009 hy3009 => ?_)
      refine y_rI (len := 1) (r := (0, 0, 0, 0)) (nL := 2) (k := 2) (n9 := 2) (hs := []) (by decide +kernel) rfl (zfit_b (by omega) (by omega)).2 ?_
      exact ⟨rfl, by omega⟩
    ·
      refine y_cF (c := .ge) (off := 7) (len := 3) (r := (0, 0, 0, 0)) (by decide +kernel) (acmpF (c := .ge) (by show _ < _; omega)) ?_
      refine y_ic (c := 1) (len := 1) (r := (0, 0, 0, 0)) (by decide +kernel) (by decide) (fun y3010 hy3010 => ?_)
      refine y_goto (off := 4) (pc' := 17) (len := 3) (r := (0, 0, 0, 0)) (by decide +kernel) (by decide +kernel) ?_
      refine y_rI (len := 1) (r := (0, 0, 0, 0)) (nL := 2) (k := 2) (n9 := 2) (hs := []) (by decide +kernel) rfl (zfit_b (by omega) (by omega)).2 ?_
      exact ⟨rfl, by omega⟩
theorem oq_11 {t : Nat} {τ : List Nat} {h : zh} {R : List enT × Nat} {xi xk xw : Int32} (hg : hG τ h) (o8 : kx_ h 35 8 R.2) (n : en35 h R.1) : qX 21 146 11 [some (.inl (some 0)), some (zi xi), some (zi xk), some (zi xw), none, none] [] h t (oX (keep0 τ h) t (opA R xi.toInt xk.toInt xw.toInt)) := by
  obtain ⟨xo, ho, eo⟩ := o8
  have hm3 := n.2.1
  refine y_same (i := .aload_n 0) (len := 1) (r := (0, 0, 0, 0)) (pc' := 12) (ls' := [some (.inl (some 0)), some (zi xi), some (zi xk), some (zi xw), none, none]) (st' := [.inl (some 0)]) (by decide +kernel) (fun k q => by cases q) rfl ?_
  refine y_get (j := 56) (len := 3) (r := (11, 9, 2, 408)) (by decide +kernel) hg (tv0 hg) aw0 rfl rfl (g_rU (f := 9) (T2 := 35) hg (tv0 hg) aw0 rfl (by decide)) ?_
  refine y_get (j := 156) (len := 3) (r := (4, 8, 0, 20293)) (by decide +kernel) hg (tv35 hg) aw35 rfl rfl ho ?_
  refine y_ic (c := 1) (len := 1) (r := (0, 0, 0, 0)) (by decide +kernel) (by decide) (fun y3011 hy3011 => ?_)
  rcases Decidable.em (xo.toInt ≠ y3011.toInt) with q3012 | q3012
  ·
    refine y_cT (c := .ne) (off := 14) (pc' := 33) (len := 3) (r := (0, 0, 0, 0)) (by decide +kernel) (acmpT (c := .ne) (by show ¬ (_ = _); omega)) (by decide +kernel) ?_
    refine y_ic (c := (-1)) (len := 1) (r := (0, 0, 0, 0)) (by decide +kernel) (by decide) (fun y3013 hy3013 => ?_)
    refine y_same (i := .istore 4) (len := 2) (r := (0, 0, 0, 0)) (pc' := 36) (ls' := [some (.inl (some 0)), some (zi xi), some (zi xk), some (zi xw), some (zi y3013), none]) (st' := []) (by decide +kernel) (fun k q => by cases q) rfl ?_
    refine y_same (i := .aload_n 0) (len := 1) (r := (0, 0, 0, 0)) (pc' := 37) (ls' := [some (.inl (some 0)), some (zi xi), some (zi xk), some (zi xw), some (zi y3013), none]) (st' := [.inl (some 0)]) (by decide +kernel) (fun k q => by cases q) rfl ?_
    refine y_same (i := .aload_n 0) (len := 1) (r := (0, 0, 0, 0)) (pc' := 38) (ls' := [some (.inl (some 0)), some (zi xi), some (zi xk), some (zi xw), some (zi y3013), none]) (st' := [.inl (some 0), .inl (some 0)]) (by decide +kernel) (fun k q => by cases q) rfl ?_
    refine y_get (j := 56) (len := 3) (r := (11, 9, 2, 408)) (by decide +kernel) hg (tv0 hg) aw0 rfl rfl (g_rU (f := 9) (T2 := 35) hg (tv0 hg) aw0 rfl (by decide)) ?_
    refine y_same (i := .iload 4) (len := 2) (r := (0, 0, 0, 0)) (pc' := 43) (ls' := [some (.inl (some 0)), some (zi xi), some (zi xk), some (zi xw), some (zi y3013), none]) (st' := [zi y3013, .inl (some 35), .inl (some 0)]) (by decide +kernel) (fun k q => by cases q) rfl ?_
    have n5 : opE R xi.toInt = none := opE_ne (by omega)
    refine y_cI (i := .invokevirtual 173) (len := 3) (r := (0, 32, 4, 1153)) (nL := 2) (k := 2) (n := 2) (hs := []) (args := [.inl (some 35), zi y3013]) (rest := [.inl (some 0)]) (l0 := [some (.inl (some 35)), some (zi y3013)]) (by decide +kernel) (Or.inr (Or.inl ⟨_, rfl⟩)) rfl rfl rfl rfl (Nat.le_of_ble_eq_true rfl) (zO hg (tv35 hg) aw35 rfl) rfl (qI_le (by omega) (e_hasX (d := 0) (m := R.1.length) hg n.1 n.2.1)) (fun y3014 qy3014 hRy3014 => ?_)
    obtain ⟨rfl, hDy3014⟩ := hRy3014
    have vy3014 : y3014.toInt = 0 := by omega
    refine y_cX (i := .invokevirtual 120) (len := 3) (r := (0, 152, 11, 1079)) (nL := 2) (k := 0) (n := 2) (hs := []) (args := [.inl (some 0), zi y3014]) (rest := []) (l0 := [some (.inl (some 0)), some (zi y3014)]) (by decide +kernel) (Or.inr (Or.inl ⟨_, rfl⟩)) rfl rfl rfl rfl (Nat.le_of_ble_eq_true rfl) (zO hg (tv0 hg) aw0 rfl) rfl rfl (mL := 6) (mk := 1) (m9 := 4) (ms := []) rfl rfl (qT_le (by decide) (c_thereT (d := 0) hg (by omega))) (fun h3015 hR3015 => ?_)
    obtain ⟨hg3015, F3015⟩ := hR3015
    rw [opA_n n5]
    exact Or.inr (Or.inl ⟨rfl, _, rfl, hg3015, fun k j hC => (F3015 k j (by omega))⟩)
  ·
    refine y_cF (c := .ne) (off := 14) (len := 3) (r := (0, 0, 0, 0)) (by decide +kernel) (acmpF (c := .ne) (by show _ = _; omega)) ?_
    refine y_same (i := .aload_n 0) (len := 1) (r := (0, 0, 0, 0)) (pc' := 23) (ls' := [some (.inl (some 0)), some (zi xi), some (zi xk), some (zi xw), none, none]) (st' := [.inl (some 0)]) (by decide +kernel) (fun k q => by cases q) rfl ?_
    refine y_get (j := 56) (len := 3) (r := (11, 9, 2, 408)) (by decide +kernel) hg (tv0 hg) aw0 rfl rfl (g_rU (f := 9) (T2 := 35) hg (tv0 hg) aw0 rfl (by decide)) ?_
    refine y_same (i := .iload_n 1) (len := 1) (r := (0, 0, 0, 0)) (pc' := 27) (ls' := [some (.inl (some 0)), some (zi xi), some (zi xk), some (zi xw), none, none]) (st' := [zi xi, .inl (some 35)]) (by decide +kernel) (fun k q => by cases q) rfl ?_
    have o1 : R.2 = 1 := by omega
    refine y_cI (i := .invokevirtual 202) (len := 3) (r := (0, 35, 4, 1173)) (nL := 4) (k := 1) (n := 2) (hs := []) (args := [.inl (some 35), zi xi]) (rest := []) (l0 := [some (.inl (some 35)), some (zi xi), none, none]) (by decide +kernel) (Or.inr (Or.inl ⟨_, rfl⟩)) rfl rfl rfl rfl (Nat.le_of_ble_eq_true rfl) (zO hg (tv35 hg) aw35 rfl) rfl (qI_le (by omega) (e_fd35 (d := 0) hg n.1 n.2.1 (vi35_of hg n))) (fun y3016 qy3016 hRy3016 => ?_)
    obtain ⟨rfl, ey3016⟩ := hRy3016
    rcases opE_fd (i := xi.toInt) o1 (ey3016.trans (fdG_dix R.1 0 0 _ (by omega) (by omega) (stp_en n))) with ⟨j, e, n1, n2, n3, n4, n5⟩ | ⟨n1, n5⟩
    ·
      refine y_goto (off := 4) (pc' := 34) (len := 3) (r := (0, 0, 0, 0)) (by decide +kernel) (by decide +kernel) ?_
      refine y_same (i := .istore 4) (len := 2) (r := (0, 0, 0, 0)) (pc' := 36) (ls' := [some (.inl (some 0)), some (zi xi), some (zi xk), some (zi xw), some (zi y3016), none]) (st' := []) (by decide +kernel) (fun k q => by cases q) rfl ?_
      refine y_same (i := .aload_n 0) (len := 1) (r := (0, 0, 0, 0)) (pc' := 37) (ls' := [some (.inl (some 0)), some (zi xi), some (zi xk), some (zi xw), some (zi y3016), none]) (st' := [.inl (some 0)]) (by decide +kernel) (fun k q => by cases q) rfl ?_
      refine y_same (i := .aload_n 0) (len := 1) (r := (0, 0, 0, 0)) (pc' := 38) (ls' := [some (.inl (some 0)), some (zi xi), some (zi xk), some (zi xw), some (zi y3016), none]) (st' := [.inl (some 0), .inl (some 0)]) (by decide +kernel) (fun k q => by cases q) rfl ?_
      refine y_get (j := 56) (len := 3) (r := (11, 9, 2, 408)) (by decide +kernel) hg (tv0 hg) aw0 rfl rfl (g_rU (f := 9) (T2 := 35) hg (tv0 hg) aw0 rfl (by decide)) ?_
      refine y_same (i := .iload 4) (len := 2) (r := (0, 0, 0, 0)) (pc' := 43) (ls' := [some (.inl (some 0)), some (zi xi), some (zi xk), some (zi xw), some (zi y3016), none]) (st' := [zi y3016, .inl (some 35), .inl (some 0)]) (by decide +kernel) (fun k q => by cases q) rfl ?_
      refine y_cI (i := .invokevirtual 173) (len := 3) (r := (0, 32, 4, 1153)) (nL := 2) (k := 2) (n := 2) (hs := []) (args := [.inl (some 35), zi y3016]) (rest := [.inl (some 0)]) (l0 := [some (.inl (some 35)), some (zi y3016)]) (by decide +kernel) (Or.inr (Or.inl ⟨_, rfl⟩)) rfl rfl rfl rfl (Nat.le_of_ble_eq_true rfl) (zO hg (tv35 hg) aw35 rfl) rfl (qI_le (by omega) (e_hasX (d := 0) (m := R.1.length) hg n.1 n.2.1)) (fun y3017 qy3017 hRy3017 => ?_)
      obtain ⟨rfl, hDy3017⟩ := hRy3017
      have vy3017 : y3017.toInt = 1 := by omega
      obtain ⟨a, ra, la, ta, sq, okq⟩ := en35_at hg n n3 n4
      obtain ⟨t0, t1, t2, t3, t4, -⟩ := tyQ_of hg ta la
      obtain ⟨l1, l2, l3, l4, l5, l6, -⟩ := la
      obtain ⟨xl, hl, el⟩ := sq.1.1
      refine y_cV (i := .invokevirtual 120) (len := 3) (r := (0, 152, 11, 1079)) (nL := 2) (k := 0) (n := 2) (hs := []) (args := [.inl (some 0), zi y3017]) (rest := []) (l0 := [some (.inl (some 0)), some (zi y3017)]) (by decide +kernel) (Or.inr (Or.inl ⟨_, rfl⟩)) rfl rfl rfl rfl (Nat.le_of_ble_eq_true rfl) (zO hg (tv0 hg) aw0 rfl) rfl (qV_le (by decide) (c_there (d := 0) (by omega))) (fun q3018 hR3018 => ?_)
      obtain rfl := hR3018
      refine y_same (i := .aload_n 0) (len := 1) (r := (0, 0, 0, 0)) (pc' := 50) (ls' := [some (.inl (some 0)), some (zi xi), some (zi xk), some (zi xw), some (zi y3016), none]) (st' := [.inl (some 0)]) (by decide +kernel) (fun k q => by cases q) rfl ?_
      refine y_get (j := 56) (len := 3) (r := (11, 9, 2, 408)) (by decide +kernel) hg (tv0 hg) aw0 rfl rfl (g_rU (f := 9) (T2 := 35) hg (tv0 hg) aw0 rfl (by decide)) ?_
      refine y_same (i := .iload 4) (len := 2) (r := (0, 0, 0, 0)) (pc' := 55) (ls' := [some (.inl (some 0)), some (zi xi), some (zi xk), some (zi xw), some (zi y3016), none]) (st' := [zi y3016, .inl (some 35)]) (by decide +kernel) (fun k q => by cases q) rfl ?_
      refine y_cA (i := .invokevirtual 174) (len := 3) (r := (0, 33, 4, 1157)) (nL := 3) (k := 3) (n := 2) (hs := []) (args := [.inl (some 35), zi y3016]) (rest := []) (l0 := [some (.inl (some 35)), some (zi y3016), none]) (by decide +kernel) (Or.inr (Or.inl ⟨_, rfl⟩)) rfl rfl rfl rfl (Nat.le_of_ble_eq_true rfl) (zO hg (tv35 hg) aw35 rfl) rfl (qA_le (by omega) (e_slo35 (d := 0) (k := j) hg (by omega) (by omega) ra)) (fun h3019 hR3019 => ?_)
      obtain rfl := hR3019
      refine y_get (j := 186) (len := 3) (r := (7, 1, 2, 20535)) (by decide +kernel) hg ta aw1008 rfl rfl l2 ?_
      refine y_same (i := .astore 5) (len := 2) (r := (0, 0, 0, 0)) (pc' := 63) (ls' := [some (.inl (some 0)), some (zi xi), some (zi xk), some (zi xw), some (zi y3016), some (.inl (some ((a + 3))))]) (st' := []) (by decide +kernel) (fun k q => by cases q) rfl ?_
      refine y_same (i := .iload_n 2) (len := 1) (r := (0, 0, 0, 0)) (pc' := 64) (ls' := [some (.inl (some 0)), some (zi xi), some (zi xk), some (zi xw), some (zi y3016), some (.inl (some ((a + 3))))]) (st' := [zi xk]) (by decide +kernel) (fun k q => by cases q) rfl ?_
      refine y_ic (c := (-1)) (len := 1) (r := (0, 0, 0, 0)) (by decide +kernel) (by decide) (fun y3020 hy3020 => ?_)
      rcases Decidable.em (xk.toInt ≠ y3020.toInt) with q3021 | q3021
      ·
        refine y_cT (c := .ne) (off := 9) (pc' := 74) (len := 3) (r := (0, 0, 0, 0)) (by decide +kernel) (acmpT (c := .ne) (by show ¬ (_ = _); omega)) (by decide +kernel) ?_
        refine y_same (i := .aload_n 0) (len := 1) (r := (0, 0, 0, 0)) (pc' := 75) (ls' := [some (.inl (some 0)), some (zi xi), some (zi xk), some (zi xw), some (zi y3016), some (.inl (some ((a + 3))))]) (st' := [.inl (some 0)]) (by decide +kernel) (fun k q => by cases q) rfl ?_
        refine y_same (i := .aload 5) (len := 2) (r := (0, 0, 0, 0)) (pc' := 77) (ls' := [some (.inl (some 0)), some (zi xi), some (zi xk), some (zi xw), some (zi y3016), some (.inl (some ((a + 3))))]) (st' := [.inl (some ((a + 3))), .inl (some 0)]) (by decide +kernel) (fun k q => by cases q) rfl ?_
        refine y_same (i := .iload_n 2) (len := 1) (r := (0, 0, 0, 0)) (pc' := 78) (ls' := [some (.inl (some 0)), some (zi xi), some (zi xk), some (zi xw), some (zi y3016), some (.inl (some ((a + 3))))]) (st' := [zi xk, .inl (some ((a + 3))), .inl (some 0)]) (by decide +kernel) (fun k q => by cases q) rfl ?_
        refine y_cI (i := .invokevirtual 115) (len := 3) (r := (0, 63, 6, 1075)) (nL := 2) (k := 2) (n := 2) (hs := []) (args := [.inl (some ((a + 3))), zi xk]) (rest := [.inl (some 0)]) (l0 := [some (.inl (some ((a + 3)))), some (zi xk)]) (by decide +kernel) (Or.inr (Or.inl ⟨_, rfl⟩)) rfl rfl rfl rfl (Nat.le_of_ble_eq_true rfl) (zO hg t3 aw1004 rfl) rfl (qI_le (by omega) (e_hasV (d := 0) hg t3 sq.1)) (fun y3022 qy3022 hRy3022 => ?_)
        obtain ⟨rfl, hDy3022⟩ := hRy3022
        rcases hDy3022 with ⟨vy3022, by3022, cy3022⟩ | ⟨vy3022, by3022⟩
        ·
          obtain ⟨q, hq⟩ : ∃ q, e.1.1[xk.toInt.toNat]? = some q := ⟨_, List.getElem?_eq_getElem (by omega)⟩
          have okv := (okq.1 q (List.mem_of_getElem? hq)).1
          refine y_cV (i := .invokevirtual 120) (len := 3) (r := (0, 152, 11, 1079)) (nL := 2) (k := 0) (n := 2) (hs := []) (args := [.inl (some 0), zi y3022]) (rest := []) (l0 := [some (.inl (some 0)), some (zi y3022)]) (by decide +kernel) (Or.inr (Or.inl ⟨_, rfl⟩)) rfl rfl rfl rfl (Nat.le_of_ble_eq_true rfl) (zO hg (tv0 hg) aw0 rfl) rfl (qV_le (by decide) (c_there (d := 0) (by omega))) (fun q3023 hR3023 => ?_)
          obtain rfl := hR3023
          refine y_same (i := .aload_n 0) (len := 1) (r := (0, 0, 0, 0)) (pc' := 85) (ls' := [some (.inl (some 0)), some (zi xi), some (zi xk), some (zi xw), some (zi y3016), some (.inl (some ((a + 3))))]) (st' := [.inl (some 0)]) (by decide +kernel) (fun k q => by cases q) rfl ?_
          refine y_same (i := .iload_n 3) (len := 1) (r := (0, 0, 0, 0)) (pc' := 86) (ls' := [some (.inl (some 0)), some (zi xi), some (zi xk), some (zi xw), some (zi y3016), some (.inl (some ((a + 3))))]) (st' := [zi xw, .inl (some 0)]) (by decide +kernel) (fun k q => by cases q) rfl ?_
          rcases Decidable.em (xw.toInt < 0) with q3024 | q3024
          ·
            refine y_iT (c := .lt) (off := 12) (pc' := 98) (len := 3) (r := (0, 0, 0, 0)) (by decide +kernel) (acmpT (c := .lt) (by show _ < _; omega)) (by decide +kernel) ?_
            refine y_ic (c := 0) (len := 1) (r := (0, 0, 0, 0)) (by decide +kernel) (by decide) (fun y3025 hy3025 => ?_)
            refine y_cX (i := .invokevirtual 70) (len := 3) (r := (0, 153, 11, 852)) (nL := 2) (k := 0) (n := 2) (hs := []) (args := [.inl (some 0), zi y3025]) (rest := []) (l0 := [some (.inl (some 0)), some (zi y3025)]) (by decide +kernel) (Or.inr (Or.inl ⟨_, rfl⟩)) rfl rfl rfl rfl (Nat.le_of_ble_eq_true rfl) (zO hg (tv0 hg) aw0 rfl) rfl rfl (mL := 6) (mk := 1) (m9 := 4) (ms := []) rfl rfl (qT_le (by decide) (c_fitT (d := 0) hg (by omega))) (fun h3026 hR3026 => ?_)
            obtain ⟨hg3026, F3026⟩ := hR3026
            rw [opA_s n5, opQ_f (by omega) hq (by omega)]
            exact Or.inr (Or.inr ⟨rfl, _, rfl, hg3026, fun k j hC => (F3026 k j (by omega))⟩)
          ·
            refine y_iF (c := .lt) (off := 12) (len := 3) (r := (0, 0, 0, 0)) (by decide +kernel) (acmpF (c := .lt) (by show _ ≤ _; omega)) ?_
            refine y_same (i := .iload_n 3) (len := 1) (r := (0, 0, 0, 0)) (pc' := 90) (ls' := [some (.inl (some 0)), some (zi xi), some (zi xk), some (zi xw), some (zi y3016), some (.inl (some ((a + 3))))]) (st' := [zi xw, .inl (some 0)]) (by decide +kernel) (fun k q => by cases q) rfl ?_
            refine y_ic (c := 3) (len := 1) (r := (0, 0, 0, 0)) (by decide +kernel) (by decide) (fun y3027 hy3027 => ?_)
            rcases Decidable.em (xw.toInt > y3027.toInt) with q3028 | q3028
            ·
              refine y_cT (c := .gt) (off := 7) (pc' := 98) (len := 3) (r := (0, 0, 0, 0)) (by decide +kernel) (acmpT (c := .gt) (by show _ < _; omega)) (by decide +kernel) ?_
              refine y_ic (c := 0) (len := 1) (r := (0, 0, 0, 0)) (by decide +kernel) (by decide) (fun y3029 hy3029 => ?_)
              refine y_cX (i := .invokevirtual 70) (len := 3) (r := (0, 153, 11, 852)) (nL := 2) (k := 0) (n := 2) (hs := []) (args := [.inl (some 0), zi y3029]) (rest := []) (l0 := [some (.inl (some 0)), some (zi y3029)]) (by decide +kernel) (Or.inr (Or.inl ⟨_, rfl⟩)) rfl rfl rfl rfl (Nat.le_of_ble_eq_true rfl) (zO hg (tv0 hg) aw0 rfl) rfl rfl (mL := 6) (mk := 1) (m9 := 4) (ms := []) rfl rfl (qT_le (by decide) (c_fitT (d := 0) hg (by omega))) (fun h3030 hR3030 => ?_)
              obtain ⟨hg3030, F3030⟩ := hR3030
              rw [opA_s n5, opQ_f (by omega) hq (by omega)]
              exact Or.inr (Or.inr ⟨rfl, _, rfl, hg3030, fun k j hC => (F3030 k j (by omega))⟩)
            ·
              refine y_cF (c := .gt) (off := 7) (len := 3) (r := (0, 0, 0, 0)) (by decide +kernel) (acmpF (c := .gt) (by show _ ≤ _; omega)) ?_
              refine y_ic (c := 1) (len := 1) (r := (0, 0, 0, 0)) (by decide +kernel) (by decide) (fun y3031 hy3031 => ?_)
              refine y_goto (off := 4) (pc' := 99) (len := 3) (r := (0, 0, 0, 0)) (by decide +kernel) (by decide +kernel) ?_
              refine y_cV (i := .invokevirtual 70) (len := 3) (r := (0, 153, 11, 852)) (nL := 2) (k := 0) (n := 2) (hs := []) (args := [.inl (some 0), zi y3031]) (rest := []) (l0 := [some (.inl (some 0)), some (zi y3031)]) (by decide +kernel) (Or.inr (Or.inl ⟨_, rfl⟩)) rfl rfl rfl rfl (Nat.le_of_ble_eq_true rfl) (zO hg (tv0 hg) aw0 rfl) rfl (qV_le (by decide) (c_fit (d := 0) (by omega))) (fun q3032 hR3032 => ?_)
              obtain rfl := hR3032
              refine y_same (i := .aload 5) (len := 2) (r := (0, 0, 0, 0)) (pc' := 104) (ls' := [some (.inl (some 0)), some (zi xi), some (zi xk), some (zi xw), some (zi y3016), some (.inl (some ((a + 3))))]) (st' := [.inl (some ((a + 3)))]) (by decide +kernel) (fun k q => by cases q) rfl ?_
              refine y_same (i := .iload_n 2) (len := 1) (r := (0, 0, 0, 0)) (pc' := 105) (ls' := [some (.inl (some 0)), some (zi xi), some (zi xk), some (zi xw), some (zi y3016), some (.inl (some ((a + 3))))]) (st' := [zi xk, .inl (some ((a + 3)))]) (by decide +kernel) (fun k q => by cases q) rfl ?_
              refine y_same (i := .iload_n 3) (len := 1) (r := (0, 0, 0, 0)) (pc' := 106) (ls' := [some (.inl (some 0)), some (zi xi), some (zi xk), some (zi xw), some (zi y3016), some (.inl (some ((a + 3))))]) (st' := [zi xw, zi xk, .inl (some ((a + 3)))]) (by decide +kernel) (fun k q => by cases q) rfl ?_
              refine y_cI (i := .invokevirtual 149) (len := 3) (r := (0, 64, 6, 1131)) (nL := 3) (k := 1) (n := 3) (hs := []) (args := [.inl (some ((a + 3))), zi xk, zi xw]) (rest := []) (l0 := [some (.inl (some ((a + 3)))), some (zi xk), some (zi xw)]) (by decide +kernel) (Or.inr (Or.inl ⟨_, rfl⟩)) rfl rfl rfl rfl (Nat.le_of_ble_eq_true rfl) (zO hg t3 aw1004 rfl) rfl (qI_le (by omega) (e_tlV (d := 0) (k := xk.toInt.toNat) (w := xw.toInt.toNat) hg t3 t4 l6 sq.1 (by omega) hq okv (by omega) (by omega))) (fun y3033 qy3033 hRy3033 => ?_)
              obtain ⟨rfl, evy3033⟩ := hRy3033
              rw [opA_s n5, opQ_t (by omega) hq (by omega)]
              refine qX_mn (P := rI (fun y9 h9 => y9 = y3033 ∧ h9 = h) t) ?_ (fun x9 q9 => Or.inl (by obtain ⟨y9, h9, e9, e8, e7⟩ := q9; subst e8; subst e7; exact ⟨rfl, _, _, e9, ⟨hg, fun k j _ => rfl⟩, evy3033⟩))
              refine y_rI (len := 1) (r := (0, 0, 0, 0)) (nL := 6) (k := 1) (n9 := 4) (hs := []) (by decide +kernel) rfl rfl ?_
              exact ⟨rfl, rfl⟩
        ·
          refine y_cX (i := .invokevirtual 120) (len := 3) (r := (0, 152, 11, 1079)) (nL := 2) (k := 0) (n := 2) (hs := []) (args := [.inl (some 0), zi y3022]) (rest := []) (l0 := [some (.inl (some 0)), some (zi y3022)]) (by decide +kernel) (Or.inr (Or.inl ⟨_, rfl⟩)) rfl rfl rfl rfl (Nat.le_of_ble_eq_true rfl) (zO hg (tv0 hg) aw0 rfl) rfl rfl (mL := 6) (mk := 1) (m9 := 4) (ms := []) rfl rfl (qT_le (by decide) (c_thereT (d := 0) hg (by omega))) (fun h3034 hR3034 => ?_)
          obtain ⟨hg3034, F3034⟩ := hR3034
          rw [opA_s n5, opQ_n (by omega) (by omega)]
          exact Or.inr (Or.inl ⟨rfl, _, rfl, hg3034, fun k j hC => (F3034 k j (by omega))⟩)
      ·
        refine y_cF (c := .ne) (off := 9) (len := 3) (r := (0, 0, 0, 0)) (by decide +kernel) (acmpF (c := .ne) (by show _ = _; omega)) ?_
        refine y_same (i := .aload 5) (len := 2) (r := (0, 0, 0, 0)) (pc' := 70) (ls' := [some (.inl (some 0)), some (zi xi), some (zi xk), some (zi xw), some (zi y3016), some (.inl (some ((a + 3))))]) (st' := [.inl (some ((a + 3)))]) (by decide +kernel) (fun k q => by cases q) rfl ?_
        refine y_get (j := 126) (len := 3) (r := (6, 1, 0, 20168)) (by decide +kernel) hg t3 aw1004 rfl rfl hl ?_
        rw [opA_s n5, opQ_l (by omega)]
        refine qX_mn (P := rI (fun y9 h9 => y9 = xl ∧ h9 = h) t) ?_ (fun x9 q9 => Or.inl (by obtain ⟨y9, h9, e9, e8, e7⟩ := q9; subst e8; subst e7; exact ⟨rfl, _, _, e9, ⟨hg, fun k j _ => rfl⟩, el⟩))
        refine y_rI (len := 1) (r := (0, 0, 0, 0)) (nL := 6) (k := 1) (n9 := 4) (hs := []) (by decide +kernel) rfl rfl ?_
        exact ⟨rfl, rfl⟩
    ·
      refine y_goto (off := 4) (pc' := 34) (len := 3) (r := (0, 0, 0, 0)) (by decide +kernel) (by decide +kernel) ?_
      refine y_same (i := .istore 4) (len := 2) (r := (0, 0, 0, 0)) (pc' := 36) (ls' := [some (.inl (some 0)), some (zi xi), some (zi xk), some (zi xw), some (zi y3016), none]) (st' := []) (by decide +kernel) (fun k q => by cases q) rfl ?_
      refine y_same (i := .aload_n 0) (len := 1) (r := (0, 0, 0, 0)) (pc' := 37) (ls' := [some (.inl (some 0)), some (zi xi), some (zi xk), some (zi xw), some (zi y3016), none]) (st' := [.inl (some 0)]) (by decide +kernel) (fun k q => by cases q) rfl ?_
      refine y_same (i := .aload_n 0) (len := 1) (r := (0, 0, 0, 0)) (pc' := 38) (ls' := [some (.inl (some 0)), some (zi xi), some (zi xk), some (zi xw), some (zi y3016), none]) (st' := [.inl (some 0), .inl (some 0)]) (by decide +kernel) (fun k q => by cases q) rfl ?_
      refine y_get (j := 56) (len := 3) (r := (11, 9, 2, 408)) (by decide +kernel) hg (tv0 hg) aw0 rfl rfl (g_rU (f := 9) (T2 := 35) hg (tv0 hg) aw0 rfl (by decide)) ?_
      refine y_same (i := .iload 4) (len := 2) (r := (0, 0, 0, 0)) (pc' := 43) (ls' := [some (.inl (some 0)), some (zi xi), some (zi xk), some (zi xw), some (zi y3016), none]) (st' := [zi y3016, .inl (some 35), .inl (some 0)]) (by decide +kernel) (fun k q => by cases q) rfl ?_
      refine y_cI (i := .invokevirtual 173) (len := 3) (r := (0, 32, 4, 1153)) (nL := 2) (k := 2) (n := 2) (hs := []) (args := [.inl (some 35), zi y3016]) (rest := [.inl (some 0)]) (l0 := [some (.inl (some 35)), some (zi y3016)]) (by decide +kernel) (Or.inr (Or.inl ⟨_, rfl⟩)) rfl rfl rfl rfl (Nat.le_of_ble_eq_true rfl) (zO hg (tv35 hg) aw35 rfl) rfl (qI_le (by omega) (e_hasX (d := 0) (m := R.1.length) hg n.1 n.2.1)) (fun y3035 qy3035 hRy3035 => ?_)
      obtain ⟨rfl, hDy3035⟩ := hRy3035
      have vy3035 : y3035.toInt = 0 := by omega
      refine y_cX (i := .invokevirtual 120) (len := 3) (r := (0, 152, 11, 1079)) (nL := 2) (k := 0) (n := 2) (hs := []) (args := [.inl (some 0), zi y3035]) (rest := []) (l0 := [some (.inl (some 0)), some (zi y3035)]) (by decide +kernel) (Or.inr (Or.inl ⟨_, rfl⟩)) rfl rfl rfl rfl (Nat.le_of_ble_eq_true rfl) (zO hg (tv0 hg) aw0 rfl) rfl rfl (mL := 6) (mk := 1) (m9 := 4) (ms := []) rfl rfl (qT_le (by decide) (c_thereT (d := 0) hg (by omega))) (fun h3036 hR3036 => ?_)
      obtain ⟨hg3036, F3036⟩ := hR3036
      rw [opA_n n5]
      exact Or.inr (Or.inl ⟨rfl, _, rfl, hg3036, fun k j hC => (F3036 k j (by omega))⟩)
