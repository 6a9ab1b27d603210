/-! the head of a loop: what is known there is known again -/
theorem avM_down {ρb ρ : List Int} {νb ν : List Nat} (h1 : aup ρb ρ) (h2 : aup νb ν) {a : av} {vb v : zv} (hb : avM ρb νb a vb) (h : avM ρ ν a v) : avM ρb νb a v := by
  rcases a with ⟨s, c⟩ | n | k
  · obtain ⟨x, r, rfl, e2, e3⟩ := h
    obtain ⟨x', r', -, f2, -⟩ := hb
    have := h1 _ _ f2
    rw [e2] at this
    cases this
    exact ⟨x, r, rfl, f2, e3⟩
  · obtain ⟨q, e1, rfl⟩ := h
    obtain ⟨q', f1, -⟩ := hb
    have := anm_up h2 f1
    rw [e1] at this
    cases this
    exact ⟨q, f1, rfl⟩
  · exact h
theorem ahvL_cons {nb : Nat} {f : Nat × Int × Int} {hv : List (Nat × Int × Int)} {ls : List (Option av)} : ahvL nb (f :: hv) ls = ahvL (nb + 1) hv (ls.set f.1 (some (.inl (nb, 0)))) := by
  show ahvL (nb + 1) hv (setK (some (.inl (nb, 0))) ls f.1 (fun l => l)) = _
  rw [setK_eq]
theorem ahvL_at {i : Nat} {o : Option av} : ∀ {hv : List (Nat × Int × Int)} {nb : Nat} {ls : List (Option av)}, (ahvL nb hv ls)[i]? = some o → (∃ (k : Nat) (f : Nat × Int × Int), hv[k]? = some f ∧ f.1 = i ∧ o = some (.inl (nb + k, 0))) ∨ ((∀ f ∈ hv, f.1 ≠ i) ∧ ls[i]? = some o)
  | [], nb, ls, h => Or.inr ⟨fun f hf => (by cases hf), h⟩
  | f :: hv, nb, ls, h => by
    rw [ahvL_cons] at h
    rcases ahvL_at h with ⟨k, g, e1, e2, e3⟩ | ⟨e1, e2⟩
    · exact Or.inl ⟨k + 1, g, e1, e2, by rw [e3, Nat.add_assoc, Nat.add_comm 1 k]⟩
    · rw [List.getElem?_set] at e2
      split at e2
      · rename_i hi
        split at e2
        · cases e2
          exact Or.inl ⟨0, f, rfl, hi, rfl⟩
        · cases e2
      · rename_i hi
        refine Or.inr ⟨fun g hg => ?_, e2⟩
        rcases List.mem_cons.mp hg with rfl | hg
        · exact hi
        · exact e1 g hg
theorem ahvL_len : ∀ {hv : List (Nat × Int × Int)} {nb : Nat} {ls : List (Option av)}, (ahvL nb hv ls).length = ls.length
  | [], nb, ls => rfl
  | f :: hv, nb, ls => by rw [ahvL_cons, ahvL_len, List.length_set]
theorem afgL_cons {j : Nat} {fg : List Nat} {ls : List (Option av)} : afgL (j :: fg) ls = afgL fg (ls.set j none) := by
  show afgL fg (setK none ls j (fun l => l)) = _
  rw [setK_eq]
theorem afgL_at {i : Nat} {o : Option av} : ∀ {fg : List Nat} {ls : List (Option av)}, (afgL fg ls)[i]? = some o → (i ∈ fg ∧ o = none) ∨ (i ∉ fg ∧ ls[i]? = some o)
  | [], ls, h => Or.inr ⟨fun q => (by cases q), h⟩
  | j :: fg, ls, h => by
    rw [afgL_cons] at h
    rcases afgL_at h with ⟨e1, e2⟩ | ⟨e1, e2⟩
    · exact Or.inl ⟨List.mem_cons_of_mem _ e1, e2⟩
    · rw [List.getElem?_set] at e2
      split at e2
      · rename_i hi
        split at e2
        · cases e2
          exact Or.inl ⟨by rw [hi]; exact List.mem_cons_self, rfl⟩
        · cases e2
      · rename_i hi
        refine Or.inr ⟨fun q => ?_, e2⟩
        rcases List.mem_cons.mp q with q | q
        · exact hi q.symm
        · exact e1 q
theorem afgL_len : ∀ {fg : List Nat} {ls : List (Option av)}, (afgL fg ls).length = ls.length
  | [], ls => rfl
  | j :: fg, ls => by rw [afgL_cons, afgL_len, List.length_set]
theorem awsL_ok {ρ : List Int} {ν : List Nat} {sy : aI} {ls : List (Option av)} {cs : List (Option zv)} (hs : asy ρ sy) (hl : alM ρ ν ls cs) : ∀ {hv : List (Nat × Int × Int)} {w1 : List (Nat × Int)}, awsL sy ls hv = some w1 → ∃ v1 : List Int, v1.length = hv.length ∧ w1.length = hv.length ∧ (∀ (k : Nat) (f : Nat × Int × Int), hv[k]? = some f → ∃ (w : Nat × Int) (x : Int32) (r : Int), w1[k]? = some w ∧ ρ[w.1]? = some r ∧ v1[k]? = some (r + w.2) ∧ (f.2.1 ≤ r + w.2 ∧ r + w.2 ≤ f.2.2) ∧ cs[f.1]? = some (some (zi x)) ∧ x.toInt = r + w.2)
  | [], w1, e => by
    cases e
    exact ⟨[], rfl, rfl, fun k f hf => (by cases hf)⟩
  | g :: hv, w1, e => by
    have e : (match nth ls g.1 with
      | some (some (.inl w)) => (match aiv sy w with
        | some p => bif asub p g.2 then (match awsL sy ls hv with
          | some l => some (w :: l)
          | none => none) else none
        | none => none)
      | _ => none) = some w1 := e
    rw [nth_eq] at e
    split at e
    · rename_i w hw
      cases hp : aiv sy w with
      | none => rw [hp] at e; cases e
      | some p =>
        rw [hp] at e
        simp only at e
        cases hb : asub p g.2 with
        | false => rw [hb] at e; cases e
        | true =>
          rw [hb] at e
          simp only [cond_true] at e
          cases hr : awsL sy ls hv with
          | none => rw [hr] at e; cases e
          | some l =>
            rw [hr] at e
            cases e
            obtain ⟨v1, e1, e2, e3⟩ := awsL_ok hs hl hr
            obtain ⟨v, hv1, x, r, rfl, hr1, hx⟩ := hl.2.1 _ _ hw
            have h1 := aiv_ok (s := w.1) (c := w.2) hs hp hr1
            have h2 := asub_ok hb
            refine ⟨(r + w.2) :: v1, by simp [e1], by simp [e2], fun k f hf => ?_⟩
            cases k with
            | zero =>
              cases hf
              exact ⟨w, x, r, rfl, hr1, rfl, ⟨by omega, by omega⟩, hv1, hx⟩
            | succ k => exact e3 k f hf
    · cases e
theorem awsF_ok {ρ : List Int} {ν τ : List Nat} {h : zh} {sy : aI} {fa : aF} (hs : asy ρ sy) (hf9 : ∀ f ∈ fa, afM ρ ν τ h f) : ∀ {hss : List (Nat × Nat × Int × Int)} {w1 : List (Nat × Int)}, awsF sy fa hss = some w1 → ∃ v1 : List Int, v1.length = hss.length ∧ w1.length = hss.length ∧ (∀ (k : Nat) (f : Nat × Nat × Int × Int), hss[k]? = some f → ∃ (w : Nat × Int) (x : Int32) (r : Int), w1[k]? = some w ∧ ρ[w.1]? = some r ∧ v1[k]? = some (r + w.2) ∧ (f.2.2.1 ≤ r + w.2 ∧ r + w.2 ≤ f.2.2.2) ∧ x.toInt = r + w.2 ∧ (f.1 < 1000 → τ[f.1]? = some f.1) ∧ ∃ q : Nat, anm ν f.1 = some q ∧ hsl h q f.2.1 = some (zi x))
  | [], w1, e => by
    cases e
    exact ⟨[], rfl, rfl, fun k f hf => (by cases hf)⟩
  | g :: hss, w1, e => by
    have e : (match afnd fa g.1 0 (Int.ofNat g.2.1) with
      | some (.inl w) => (match aiv sy w with
        | some p => bif asub p g.2.2 then (match awsF sy fa hss with
          | some l => some (w :: l)
          | none => none) else none
        | none => none)
      | _ => none) = some w1 := e
    split at e
    · rename_i w hw
      cases hp : aiv sy w with
      | none => rw [hp] at e; cases e
      | some p =>
        rw [hp] at e
        simp only at e
        cases hb : asub p g.2.2 with
        | false => rw [hb] at e; cases e
        | true =>
          rw [hb] at e
          simp only [cond_true] at e
          cases hr : awsF sy fa hss with
          | none => rw [hr] at e; cases e
          | some l =>
            rw [hr] at e
            cases e
            obtain ⟨v1, e1, e2, e3⟩ := awsF_ok hs hf9 hr
            obtain ⟨g0, q, i, r0, v, g1, g2, g3, g4, g5⟩ := hf9 _ (afnd_mem hw)
            simp only at g0 g1 g2 g3 g5
            obtain ⟨x, r, rfl, hr1, hx⟩ := g5
            rw [hs.1] at g2
            cases g2
            have hi : i = g.2.1 := by
              have h9 : Int.ofNat g.2.1 = (g.2.1 : Int) := rfl
              omega
            subst hi
            have h1 := aiv_ok (s := w.1) (c := w.2) hs hp hr1
            have h2 := asub_ok hb
            refine ⟨(r + w.2) :: v1, by simp [e1], by simp [e2], fun k f hf => ?_⟩
            cases k with
            | zero =>
              cases hf
              exact ⟨w, x, r, rfl, hr1, rfl, ⟨by omega, by omega⟩, hx, g0, q, g1, g4⟩
            | succ k => exact e3 k f hf
    · cases e
theorem ahsF_mem {fb : aF} {f : (Nat × Nat × Int) × av} : ∀ {hss : List (Nat × Nat × Int × Int)} {nb : Nat}, f ∈ ahsF hss fb nb → f ∈ fb ∨ ∃ (k : Nat) (g : Nat × Nat × Int × Int), hss[k]? = some g ∧ f = ((g.1, 0, Int.ofNat g.2.1), .inl (nb + k, 0))
  | [], nb, h => Or.inl h
  | g :: hss, nb, h => by
    have h : f ∈ ((g.1, 0, Int.ofNat g.2.1), (.inl (nb, 0) : av)) :: ahsF hss fb (nb + 1) := h
    rcases List.mem_cons.mp h with rfl | h
    · exact Or.inr ⟨0, g, rfl, rfl⟩
    · rcases ahsF_mem h with h | ⟨k, g', e1, e2⟩
      · exact Or.inl h
      · exact Or.inr ⟨k + 1, g', e1, by rw [e2, Nat.add_assoc, Nat.add_comm 1 k]⟩
theorem app_at {α : Type} {a b : List α} {n k : Nat} (hn : a.length = n) : (a ++ b)[n + k]? = b[k]? := by
  rw [List.getElem?_append_right (by omega), hn, Nat.add_sub_cancel_left]
theorem awad_ok {T i : Nat} : ∀ {wl wr : aW}, awc (awad wr wl) T i = false → awc wr T i = false ∧ awc wl T i = false
  | [], wr, h => ⟨h, rfl⟩
  | w :: wl, wr, h => by
    have h : awc (awad (awr wr w) wl) T i = false := h
    obtain ⟨h1, h2⟩ := awad_ok h
    obtain ⟨h3, h4⟩ := awr_ok h1
    refine ⟨h3, ?_⟩
    show ((Nat.beq w.1 T && (Nat.ble w.2.1 i && Nat.ble i w.2.2)) || awc wl T i) = false
    rw [h2, Bool.or_false]
    cases hc : Nat.beq w.1 T && (Nat.ble w.2.1 i && Nat.ble i w.2.2) with
    | false => rfl
    | true =>
      simp only [Bool.and_eq_true] at hc
      exact absurd ⟨(Nat.eq_of_beq_eq_true hc.1).symm, Nat.le_of_ble_eq_true hc.2.1, Nat.le_of_ble_eq_true hc.2.2⟩ h4
theorem awsb_ok {wr wr' : aW} {T i : Nat} (h : awsb wr wr' = true) (e : awc wr' T i = false) : awc wr T i = false := by
  cases hc : awc wr T i with
  | false => rfl
  | true =>
    obtain ⟨w, hw, h1⟩ := List.any_eq_true.mp hc
    obtain ⟨u, hu, h2⟩ := List.any_eq_true.mp (List.all_eq_true.mp h w hw)
    simp only [Bool.and_eq_true] at h1 h2
    have : awc wr' T i = true := List.any_eq_true.mpr ⟨u, hu, by
      have e1 := Nat.eq_of_beq_eq_true h1.1
      have e2 := Nat.eq_of_beq_eq_true h2.1
      have a1 := Nat.le_of_ble_eq_true h1.2.1
      have a2 := Nat.le_of_ble_eq_true h1.2.2
      have b1 := Nat.le_of_ble_eq_true h2.2.1
      have b2 := Nat.le_of_ble_eq_true h2.2.2
      rw [e2, e1, Nat.beq_refl, Nat.ble_eq_true_of_le (show u.2.1 ≤ i by omega), Nat.ble_eq_true_of_le (show i ≤ u.2.2 by omega)]
      rfl⟩
    rw [this] at e
    cases e
section HD
variable {J : zh → Prop} {τ0 : List Nat} {h0 : zh} {t0 : Nat} {ρ ρb : List Int} {ν τ νb τb nm : List Nat} {h hb : zh} {t nb : Nat} {hv : List (Nat × Int × Int)} {fg : List Nat} {hss : List (Nat × Nat × Int × Int)} {ls lsB lsH : List (Option av)} {cs csB : List (Option zv)} {S : aS} {sy : aI} {fb : aF} {rl : aR} {wrH : aW} {w1 w2 : List (Nat × Int)} {m9 : Nat × Nat × Int}
/-- the values at the head -/
theorem head_of (hM : aM J τ0 h0 t0 S ρ ν τ h t) (hl : alM ρ ν ls cs) (e1 : awsL S.1 ls hv = some w1) (e2 : awsF S.1 S.2.2.1 hss = some w2) (hno : anoL ls fg = true) (hH : lsH = afgL fg (ahvL nb hv ls)) (hfb : ∀ f ∈ fb, afM ρ ν τ h f) (hfr : aFr τ0 h0 wrH h)
    (u1 : aup ρb ρ) (u2 : aup νb ν) (u3 : aup τb τ) (hsb : asy ρb sy) (hnb : sy.length = nb) (hnm : anam νb nm τb) (hB : lsH = afgL fg (ahvL nb hv lsB)) (hlB : alM ρb νb lsB csB) (hfbB : ∀ f ∈ fb, afM ρb νb τb hb f) (hrB : ∀ f ∈ rl, arM ρb f) (hnn : hss.all (fun f => (anty nm f.1).isSome) = true) :
    ∃ vals : List Int, vals.length = hv.length + hss.length ∧ (∀ (k : Nat) (w : Nat × Int), (w1 ++ w2)[k]? = some w → ∃ r : Int, ρ[w.1]? = some r ∧ vals[k]? = some (r + w.2)) ∧ (∀ (k : Nat) (p : Int × Int), (hv.map (fun f => f.2) ++ hss.map (fun f => f.2.2))[k]? = some p → ∃ v : Int, vals[k]? = some v ∧ p.1 ≤ v ∧ v ≤ p.2) ∧ alM (ρb ++ vals) νb lsH cs ∧ (arM (ρb ++ vals) m9 → aM J τ0 h0 t0 (sy ++ (hv.map (fun f => f.2) ++ hss.map (fun f => f.2.2)), nm, ahsF hss fb (nb + hv.length), m9 :: rl, wrH, S.2.2.2.2.2) (ρb ++ vals) νb τ h t) := by
  obtain ⟨v1, a1, a2, a3⟩ := awsL_ok hM.1 hl e1
  obtain ⟨v2, b1, b2, b3⟩ := awsF_ok hM.1 hM.2.2.1 e2
  have hρl : ρb.length = nb := by rw [hsb.2.1, hnb]
  have ub : aup ρb (ρb ++ (v1 ++ v2)) := aup_app _ _
  refine ⟨v1 ++ v2, by simp [a1, b1], fun k w hw => ?_, fun k p hp => ?_, ⟨?_, fun i a hi => ?_, fun i v hv9 hi => ?_⟩, fun hm9 => ?_⟩
  · rcases Nat.lt_or_ge k hv.length with hk | hk
    · rw [List.getElem?_append_left (by omega)] at hw
      obtain ⟨w', x, r, c1, c2, c3, -⟩ := a3 k _ (List.getElem?_eq_getElem hk)
      rw [hw] at c1
      cases c1
      exact ⟨r, c2, by rw [List.getElem?_append_left (by omega)]; exact c3⟩
    · rw [List.getElem?_append_right (by omega), a2] at hw
      have hk2 : k - hv.length < hss.length := by
        have := (List.getElem?_eq_some_iff.mp hw).1
        omega
      obtain ⟨w', x, r, c1, c2, c3, -⟩ := b3 (k - hv.length) _ (List.getElem?_eq_getElem hk2)
      rw [hw] at c1
      cases c1
      exact ⟨r, c2, by rw [List.getElem?_append_right (by omega), a1]; exact c3⟩
  · rcases Nat.lt_or_ge k hv.length with hk | hk
    · rw [List.getElem?_append_left (by simpa using hk), List.getElem?_map, List.getElem?_eq_getElem hk] at hp
      cases hp
      obtain ⟨w', x, r, c1, c2, c3, c4, -⟩ := a3 k _ (List.getElem?_eq_getElem hk)
      exact ⟨_, by rw [List.getElem?_append_left (by omega)]; exact c3, c4.1, c4.2⟩
    · rw [List.getElem?_append_right (by simpa using hk), List.getElem?_map, List.length_map] at hp
      have hk2 : k - hv.length < hss.length := by
        cases hq : hss[k - hv.length]? with
        | none => rw [hq] at hp; cases hp
        | some g => exact (List.getElem?_eq_some_iff.mp hq).1
      rw [List.getElem?_eq_getElem hk2] at hp
      cases hp
      obtain ⟨w', x, r, c1, c2, c3, c4, -⟩ := b3 (k - hv.length) _ (List.getElem?_eq_getElem hk2)
      exact ⟨_, by rw [List.getElem?_append_right (by omega), a1]; exact c3, c4.1, c4.2⟩
  · rw [hH, afgL_len, ahvL_len]
    exact hl.1
  · have hi1 := hi
    rw [hH] at hi1
    rcases afgL_at hi1 with ⟨-, q⟩ | ⟨hn, q⟩
    · cases q
    · rcases ahvL_at q with ⟨k, f, c1, c2, c3⟩ | ⟨c1, c2⟩
      · cases c3
        obtain ⟨w', x, r, d1, d2, d3, d4, d5, d6⟩ := a3 k f c1
        rw [c2] at d5
        refine ⟨zi x, d5, x, r + w'.2, rfl, ?_, by omega⟩
        have hk := (List.getElem?_eq_some_iff.mp c1).1
        rw [app_at hρl, List.getElem?_append_left (by omega)]
        exact d3
      · obtain ⟨v, d1, d2⟩ := hl.2.1 i a c2
        rw [hB] at hi
        rcases afgL_at hi with ⟨-, q9⟩ | ⟨-, q9⟩
        · cases q9
        · rcases ahvL_at q9 with ⟨k, f, g1, g2, -⟩ | ⟨-, g2⟩
          · exact absurd g2 (c1 f (List.mem_of_getElem? g1))
          · obtain ⟨vb, -, k2⟩ := hlB.2.1 i a g2
            exact ⟨v, d1, avM_up ub (aup_refl _) (avM_down u1 u2 k2 d2)⟩
  · have hnl : ∀ (o : Option av), ls[i]? = some o → (i ∈ fg ∨ o = none) → zisL v = false := by
      intro o ho hc
      cases o with
      | none => exact hl.2.2 i v hv9 ho
      | some a =>
        rcases hc with hc | hc
        · have h9 := List.all_eq_true.mp hno i hc
          rw [nth_eq, ho] at h9
          simp only at h9
          obtain ⟨v', d1, d2⟩ := hl.2.1 i a ho
          rw [hv9] at d1
          cases d1
          exact aisL_no (by simpa using h9) d2
        · cases hc
    have hlen : i < ls.length := by
      rw [← hl.1]
      exact (List.getElem?_eq_some_iff.mp hv9).1
    rw [hH] at hi
    rcases afgL_at hi with ⟨q1, -⟩ | ⟨-, q⟩
    · exact hnl _ (List.getElem?_eq_getElem hlen) (Or.inl q1)
    · rcases ahvL_at q with ⟨k, f, -, -, c3⟩ | ⟨-, c2⟩
      · cases c3
      · exact hnl _ c2 (Or.inr rfl)
  · refine ⟨⟨ub _ _ hsb.1, by simp [hsb.2.1, a1, b1], fun s p hp => ?_⟩, ⟨hnm.1, fun j T hj => ?_⟩, fun f hf => ?_, fun f hf => ?_, ⟨hM.2.2.2.2.1.1, hfr⟩, hM.2.2.2.2.2.1, hM.2.2.2.2.2.2.1, hM.2.2.2.2.2.2.2⟩
    · simp only at hp
      rcases Nat.lt_or_ge s sy.length with hs | hs
      · rw [List.getElem?_append_left hs] at hp
        obtain ⟨r, c1, c2⟩ := hsb.2.2 s p hp
        exact ⟨r, ub _ _ c1, c2⟩
      · rw [List.getElem?_append_right hs] at hp
        have hs2 : (ρb ++ (v1 ++ v2))[s]? = (v1 ++ v2)[s - sy.length]? := by
          rw [List.getElem?_append_right (by omega), hsb.2.1]
        rw [hs2]
        generalize s - sy.length = k at hp
        rcases Nat.lt_or_ge k hv.length with hk | hk
        · rw [List.getElem?_append_left (by simpa using hk), List.getElem?_map, List.getElem?_eq_getElem hk] at hp
          cases hp
          obtain ⟨w', x, r, c1, c2, c3, c4, -⟩ := a3 k _ (List.getElem?_eq_getElem hk)
          exact ⟨_, by rw [List.getElem?_append_left (by omega)]; exact c3, c4.1, c4.2⟩
        · rw [List.getElem?_append_right (by simpa using hk), List.getElem?_map, List.length_map] at hp
          have hk2 : k - hv.length < hss.length := by
            cases hq : hss[k - hv.length]? with
            | none => rw [hq] at hp; cases hp
            | some g => exact (List.getElem?_eq_some_iff.mp hq).1
          rw [List.getElem?_eq_getElem hk2] at hp
          cases hp
          obtain ⟨w', x, r, c1, c2, c3, c4, -⟩ := b3 (k - hv.length) _ (List.getElem?_eq_getElem hk2)
          exact ⟨_, by rw [List.getElem?_append_right (by omega), a1]; exact c3, c4.1, c4.2⟩
    · obtain ⟨q, c1, c2⟩ := hnm.2 j T hj
      exact ⟨q, c1, u3 _ _ c2⟩
    · rcases ahsF_mem hf with hf | ⟨k, g, c1, rfl⟩
      · obtain ⟨g0, q, i, r, v, g1, g2, g3, g4, g5⟩ := hfb f hf
        obtain ⟨-, q', i', r', v', k1, k2, k3, k4, k5⟩ := hfbB f hf
        have := anm_up u2 k1
        rw [g1] at this
        cases this
        have := u1 _ _ k2
        rw [g2] at this
        cases this
        exact ⟨g0, q, i, r, v, k1, ub _ _ k2, g3, g4, avM_up ub (aup_refl _) (avM_down u1 u2 k5 g5)⟩
      · obtain ⟨w', x, r, d1, d2, d3, d4, d5, d6, q, d7, d8⟩ := b3 k g c1
        have hk := (List.getElem?_eq_some_iff.mp c1).1
        have hq : anm νb g.1 = some q := by
          have h9 := List.all_eq_true.mp hnn g (List.mem_of_getElem? c1)
          cases hT : anty nm g.1 with
          | none => rw [hT] at h9; cases h9
          | some T =>
            unfold anty at hT
            unfold anm at d7 ⊢
            cases hb9 : Nat.blt g.1 1000 with
            | true => rw [hb9] at d7; exact d7
            | false =>
              rw [hb9] at hT d7
              simp only [cond_false, nth_eq] at hT d7
              obtain ⟨q', f1, -⟩ := hnm.2 _ _ hT
              have := u2 _ _ f1
              rw [d7] at this
              cases this
              exact f1
        refine ⟨d6, q, g.2.1, 0, zi x, hq, ub _ _ hsb.1, by simp, d8, x, r + w'.2, rfl, ?_, by omega⟩
        show (ρb ++ (v1 ++ v2))[nb + hv.length + k]? = some (r + w'.2)
        rw [Nat.add_assoc, app_at hρl, app_at a1]
        exact d3
    · rcases List.mem_cons.mp hf with rfl | hf
      · exact hm9
      · exact arM_up ub (hrB f hf)
end HD
