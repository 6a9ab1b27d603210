/-! keep's contract -/
def wlK : aW := [(13, 1, 2), (14, 0, 9), (1002, 1, 1), (1003, 1, 1), (1005, 0, 4), (1006, 0, 5)]
noncomputable def keepL2 : Option aL := alp actb [] [] 6 (arn actb 400 6) 24 400 [] 49 [some (.inr (.inl 13)), some (.inr (.inl 1000))] [] ([(0, 0), (0, 9)], [1000, 1000], [((13, 0, 1), .inl (1, 0)), ((14, 1, 0), .inr (.inl 1001))], [], [], 0)
noncomputable def keepR2 : Bool := match keepL2 with
  | some L => L.all (fun x => match x.1 with
    | .inl (.inl none) => awsb x.2.2.2.2.2.1 wlK && Nat.beq x.2.2.2.2.2.2 0
    | _ => false)
  | none => false
theorem keepR2_ok : keepR2 = true := by decide +kernel
noncomputable def keepP (x : ao × aS) : Bool := match x.1 with
  | .inr (pc, [some (.inr (.inl p')), some (.inr (.inl m'))], []) => Nat.beq p' 13 && (Nat.beq m' 1000 && (awsb x.2.2.2.2.2.1 [(13, 1, 1)] && (Nat.beq x.2.2.2.2.2.2 0 && (match afnd x.2.2.2.1 13 0 1 with
    | some (.inl w) => ain2 x.2 w (0, 9) && (match afnd x.2.2.2.1 14 w.1 w.2 with
      | some (.inr (.inr q)) => Nat.beq q 0 && Nat.beq pc 33
      | some (.inr (.inl m)) => Nat.beq pc 49 && (!Nat.blt m 1000 && (match anty x.2.2.1 m with
        | some T => Nat.beq T 1000
        | none => false))
      | _ => false)
    | _ => false))))
  | _ => false
noncomputable def keepL1 : Option aL := alp (fun _ => []) [] [33, 49] 6 (arn (fun _ => []) 200 6) 24 200 [] 0 [some (.inr (.inl 13)), some (.inr (.inl 1000))] [] ([(0, 0)], [1000], [], [], [], 0)
noncomputable def keepR1 : Bool := match keepL1 with
  | some L => L.all keepP
  | none => false
theorem keepR1_ok : keepR1 = true := by decide +kernel
theorem atau_13 : atau[13]? = some 13 := by decide +kernel
/-- where both roads meet -/
theorem keep_C {τ : List Nat} {h : zh} {t i b q : Nat} {y : Int32} (hC : ∀ (mk : Nat) (c' : aK), c' ∈ actb mk → c'.2.2.1 ≤ 6 → cOK aJ mk c') (hh : hM τ h) (hJ : aJ h) (h1 : hsl h 13 1 = some (zi y)) (hy : y.toInt = (i : Int)) (hi : i ≤ 9) (h2 : hsl h 14 i = some (.inl (some b))) (hb : τ[b]? = some 1000) (hq : τ[q]? = some 1000) : ∃ (h3 : zh) (τ3 : List Nat), qF none 6 24 49 [some (.inl (some 13)), some (.inl (some q))] [] h t (.inl none, h3, t) ∧ aup τ τ3 ∧ hM τ3 h3 ∧ aJ h3 ∧ aFr τ h wlK h3 := by
  have hR := keepR2_ok
  unfold keepR2 at hR
  cases hL : keepL2 with
  | none => rw [hL] at hR; cases hR
  | some L =>
    rw [hL] at hR
    simp only at hR
    have p13 := hh.2.2.1 _ _ atau_13
    have p14 := hh.2.2.1 _ _ atau_pr.2.2.1
    have hM0 : aM aJ τ h t ([(0, 0), (0, 9)], [1000, 1000], [((13, 0, 1), .inl (1, 0)), ((14, 1, 0), .inr (.inl 1001))], [], [], 0) [0, (i : Int)] [q, b] τ h t := by
      refine ⟨⟨rfl, rfl, fun s p9 hp9 => ?_⟩, ⟨rfl, fun j T hj => ?_⟩, fun f hf => ?_, fun f hf => (by cases hf), ⟨aup_refl _, fun k T i _ _ => rfl⟩, hh, hJ, rfl⟩
      · match s, hp9 with
        | 0, hp9 => cases hp9; exact ⟨0, rfl, Int.le_refl _, Int.le_refl _⟩
        | 1, hp9 => cases hp9; exact ⟨(i : Int), rfl, by simp only; omega, by simp only; omega⟩
        | s + 2, hp9 => cases hp9
      · match j, hj with
        | 0, hj => cases hj; exact ⟨q, rfl, hq⟩
        | 1, hj => cases hj; exact ⟨b, rfl, hb⟩
        | j + 2, hj => cases hj
      · rcases List.mem_cons.mp hf with rfl | hf
        · exact ⟨fun _ => p13, 13, 1, 0, zi y, rfl, rfl, rfl, h1, y, (i : Int), rfl, rfl, by omega⟩
        · rcases List.mem_cons.mp hf with rfl | hf
          · exact ⟨fun _ => p14, 14, i, (i : Int), _, rfl, rfl, by simp, h2, b, rfl, rfl⟩
          · cases hf
    have hl0 : alM [0, (i : Int)] [q, b] [some (.inr (.inl 13)), some (.inr (.inl 1000))] [some (.inl (some 13)), some (.inl (some q))] := by
      refine ⟨rfl, fun i b hb => ?_, fun i v hv hn => ?_⟩
      · match i, hb with
        | 0, hb => cases hb; exact ⟨_, rfl, 13, rfl, rfl⟩
        | 1, hb => cases hb; exact ⟨_, rfl, q, rfl, rfl⟩
        | i + 2, hb => cases hb
      · match i, hv, hn with
        | 0, _, hn => cases hn
        | 1, _, hn => cases hn
        | i + 2, hv, _ => cases hv
    obtain ⟨xx, k1, h3, τ3, rfl, g2, g3, g4, g5⟩ := alp_ok (ann := []) (stops := []) (ctb := actb) (call := arn actb 400 6) (τ0 := τ) (h0 := h) (t0 := t) (ρt := [0, (i : Int)]) (νt := [q, b]) (τt := τ) (d := 6) (mi := 24) (Out := fun xx => ∃ (h3 : zh) (τ3 : List Nat), xx = (.inl none, h3, t) ∧ aup τ τ3 ∧ hM τ3 h3 ∧ aJ h3 ∧ aFr τ h wlK h3) aJ_ok hC (arn_ok aJ_ok 6 hC) 400 [] 49 _ [] _ L _ _ _ _ [] h t hL hM0 hl0 trivial (fun o S' hm9 ρ' ν' τ' h' t' u1 u2 u3 hM' => by
      have hPx := List.all_eq_true.mp hR _ hm9
      simp only at hPx
      split at hPx
      · simp only [Bool.and_eq_true] at hPx
        refine ⟨fun q9 hq9 x hx => ?_, fun pc ls st ho => (by cases ho)⟩
        cases hq9
        rcases x with (_ | v) | z
        · have ht : t' = t := by
            have h9 := hM'.2.2.2.2.2.2.2
            rw [Nat.eq_of_beq_eq_true hPx.2] at h9
            exact h9
          subst ht
          exact ⟨h', τ', rfl, u3, hM'.2.2.2.2.2.1, hM'.2.2.2.2.2.2.1, fun k T j hk hw => hM'.2.2.2.2.1.2 k T j hk (awsb_ok hPx.1 hw)⟩
        · exact hx.elim
        · exact hx.elim
      · cases hPx) (fun o ho => (by cases ho)) (aup_refl _) (aup_refl _) (aup_refl _)
    exact ⟨h3, τ3, k1, g2, g3, g4, g5⟩
theorem aFr_two {τ τ' : List Nat} {h h' h'' : zh} {wl : aW} (h1 : aFr τ h wl h') (u : aup τ τ') (h2 : aFr τ' h' wl h'') : aFr τ h wl h'' := fun k T i hk hw => by
  rw [h2 k T i (u _ _ hk) hw]
  exact h1 k T i hk hw
theorem m_keep (hC : ∀ (mk : Nat) (c' : aK), c' ∈ actb mk → c'.2.2.1 < 8 → cOK aJ mk c') : cOK aJ 24 ([.inr (.inl 13), .inr (.inl 1000)], [], 8, wlK, [(.inl none, 0, [], [])]) := by
  have hC6 : ∀ (mk : Nat) (c' : aK), c' ∈ actb mk → c'.2.2.1 ≤ 6 → cOK aJ mk c' := fun mk c' h1 h2 => hC mk c' h1 (by omega)
  intro τ h t nL rk n hs vs l0 pv hm hh hJ hq _ hz
  have hm' : zmeth 24 = some (2, 0, 2, []) := rfl
  rw [hm'] at hm
  cases hm
  obtain ⟨v1, vs, rfl⟩ : ∃ v1 vs', vs = v1 :: vs' := by
    cases vs with
    | nil => exact hq.elim
    | cons v w => exact ⟨v, w, rfl⟩
  obtain ⟨⟨p, rfl, hτ⟩, hq⟩ := hq
  obtain ⟨v2, vs, rfl⟩ : ∃ v1 vs', vs = v1 :: vs' := by
    cases vs with
    | nil => exact hq.elim
    | cons v w => exact ⟨v, w, rfl⟩
  obtain ⟨⟨q, rfl, hτq⟩, hq⟩ := hq
  have hvs : vs = [] := by
    cases vs with
    | nil => rfl
    | cons v w => exact hq.elim
  subst hvs
  have hqp := (hh.2.2.2 p 13 hτ).1 (by decide)
  subst hqp
  have hz' : zent [.inl (some 13), .inl (some q)] 2 = some [some (.inl (some 13)), some (.inl (some q))] := rfl
  rw [hz'] at hz
  cases hz
  have hR := keepR1_ok
  unfold keepR1 at hR
  cases hL : keepL1 with
  | none => rw [hL] at hR; cases hR
  | some L =>
    rw [hL] at hR
    simp only at hR
    have hM0 : aM aJ τ h t ([(0, 0)], [1000], [], [], [], 0) [0] [q] τ h t := by
      refine ⟨⟨rfl, rfl, fun s p9 hp9 => ?_⟩, ⟨rfl, fun j T hj => ?_⟩, fun f hf => (by cases hf), fun f hf => (by cases hf), ⟨aup_refl _, fun k T i _ _ => rfl⟩, hh, hJ, rfl⟩
      · match s, hp9 with
        | 0, hp9 => cases hp9; exact ⟨0, rfl, Int.le_refl _, Int.le_refl _⟩
        | s + 1, hp9 => cases hp9
      · match j, hj with
        | 0, hj => cases hj; exact ⟨q, rfl, hτq⟩
        | j + 1, hj => cases hj
    have hl0 : alM [0] [q] [some (.inr (.inl 13)), some (.inr (.inl 1000))] [some (.inl (some 13)), some (.inl (some q))] := by
      refine ⟨rfl, fun i b hb => ?_, fun i v hv hn => ?_⟩
      · match i, hb with
        | 0, hb => cases hb; exact ⟨_, rfl, 13, rfl, rfl⟩
        | 1, hb => cases hb; exact ⟨_, rfl, q, rfl, rfl⟩
        | i + 2, hb => cases hb
      · match i, hv, hn with
        | 0, _, hn => cases hn
        | 1, _, hn => cases hn
        | i + 2, hv, _ => cases hv
    obtain ⟨xx, k1, h2, τ2, rfl, g2, g3, g4, g5⟩ := alp_ok (ann := []) (stops := [33, 49]) (ctb := fun _ => []) (call := arn (fun _ => []) 200 6) (τ0 := τ) (h0 := h) (t0 := t) (ρt := [0]) (νt := [q]) (τt := τ) (d := 6) (mi := 24) (Out := fun xx => ∃ (h2 : zh) (τ2 : List Nat), xx = (.inl none, h2, t) ∧ aup τ τ2 ∧ hM τ2 h2 ∧ aJ h2 ∧ aFr τ h wlK h2) aJ_ok (fun mj c hc => (by cases hc)) (arn_ok aJ_ok 6 (fun mj c hc => (by cases hc))) 200 [] 0 _ [] _ L _ _ _ _ [] h t hL hM0 hl0 trivial (fun o S' hm9 ρ' ν' τ' h' t' u1 u2 u3 hM' => by
      have hPx := List.all_eq_true.mp hR _ hm9
      unfold keepP at hPx
      split at hPx
      · rename_i pc9 p' m' hox
        simp only at hox hPx
        simp only [Bool.and_eq_true] at hPx
        obtain ⟨a1, a2, a3, a4, a5⟩ := hPx
        refine ⟨fun q9 hq9 => (by rw [hox] at hq9; cases hq9), fun pc ls st ho cs vs9 hl hs9 => ?_⟩
        rw [hox] at ho
        cases ho
        have := asM_nil hs9
        subst this
        have e1 := Nat.eq_of_beq_eq_true a1
        subst e1
        have e2 := Nat.eq_of_beq_eq_true a2
        subst e2
        obtain ⟨hlen, hl2, -⟩ := hl
        obtain ⟨c0, d0, q0, d1, rfl⟩ := hl2 0 _ rfl
        cases d1
        obtain ⟨c2, d2, q2, d3, rfl⟩ := hl2 1 _ rfl
        have hq2 : ν'[0]? = some q2 := d3
        have hq3 := u2 0 q rfl
        rw [hq3] at hq2
        cases hq2
        have hcs : cs = [some (.inl (some 13)), some (.inl (some q))] := by
          match cs, hlen, d0, d2 with
          | [x0, x1], _, d0, d2 =>
            cases d0
            cases d2
            rfl
        subst hcs
        have htt : t' = t := by
          have h9 := hM'.2.2.2.2.2.2.2
          rw [Nat.eq_of_beq_eq_true a4] at h9
          exact h9
        subst htt
        have hsub : awsb [(13, 1, 1)] wlK = true := by decide +kernel
        have hfr0 : aFr τ h wlK h' := fun k T j hk hw => hM'.2.2.2.2.1.2 k T j hk (awsb_ok a3 (awsb_ok hsub hw))
        have hh' := hM'.2.2.2.2.2.1
        have hJ' := hM'.2.2.2.2.2.2.1
        have p13 := hh'.2.2.1 _ _ atau_13
        have p14 := hh'.2.2.1 _ _ atau_pr.2.2.1
        obtain ⟨-, cH, hcH, htyH⟩ := hh'.2.2.2 13 13 p13
        obtain ⟨-, cA, hcA, htyA⟩ := hh'.2.2.2 14 14 p14
        obtain ⟨fsH, rfl, hlH⟩ := tyc_obj at13 htyH
        obtain ⟨fsA, rfl, hlA⟩ := tyc_arr at14 htyA
        have hal : 14 < h'.length := (List.getElem?_eq_some_iff.mp hcA).1
        have hj9 : h'.length ≤ 5899 := by
          have h9 := hJ'.1
          omega
        split at a5
        · rename_i w hfd1
          simp only [Bool.and_eq_true] at a5
          obtain ⟨-, q9, i9, r9, v9, f1, f2, f3, f4, y, rw9, rfl, f6, f7⟩ := hM'.2.2.1 _ (afnd_mem hfd1)
          simp only at f1 f2 f3
          cases f1
          rw [hM'.1.1] at f2
          cases f2
          have hi1 : i9 = 1 := by omega
          subst hi1
          have hin := ain2_ok a5.1 hM' f6
          simp only at hin
          obtain ⟨i, hi⟩ : ∃ i : Nat, y.toInt = (i : Int) := ⟨y.toInt.toNat, by omega⟩
          have hi9 : i ≤ 9 := by omega
          have a6 := a5.2
          cases hfd : afnd S'.2.2.1 14 w.1 w.2 with
          | none => rw [hfd] at a6; cases a6
          | some av9 =>
            rw [hfd] at a6
            obtain ⟨-, q8, i8, r8, v8, g1, g2, g3, g4, g5⟩ := hM'.2.2.1 _ (afnd_mem hfd)
            simp only at g1 g2 g3 g5
            cases g1
            rw [f6] at g2
            cases g2
            have hii : i8 = i := by omega
            subst hii
            rcases av9 with w0 | m | kk
            · cases a6
            · simp only [Bool.and_eq_true] at a6
              have hpc := Nat.eq_of_beq_eq_true a6.1
              subst hpc
              obtain ⟨b, j1, rfl⟩ := g5
              have hb : τ'[b]? = some 1000 := by
                cases hT : anty S'.2.1 m with
                | none =>
                  have h9 := a6.2.2
                  rw [hT] at h9
                  cases h9
                | some T =>
                  have h9 := a6.2.2
                  rw [hT] at h9
                  have hT2 : T = 1000 := Nat.eq_of_beq_eq_true h9
                  subst hT2
                  refine anty_ty hM'.2.1 hh' hT ?_ j1
                  have h8 : Nat.blt m 1000 = false := by simpa using a6.2.1
                  rw [h8]
                  rfl
              obtain ⟨h3, τ3, k1, k2, k3, k4, k5⟩ := keep_C (t := t') hC6 hh' hJ' f4 hi hi9 g4 hb (u3 _ _ hτq)
              exact ⟨_, k1, h3, τ3, rfl, aup_trans u3 k2, k3, k4, aFr_two hfr0 u3 k5⟩
            · simp only [Bool.and_eq_true] at a6
              have hk0 := Nat.eq_of_beq_eq_true a6.1
              subst hk0
              have hpc := Nat.eq_of_beq_eq_true a6.2
              subst hpc
              have hv9 : v8 = .inl none := by
                rcases g5 with ⟨-, h9⟩ | ⟨h9, -⟩ | ⟨h9, -⟩ | ⟨h9, -⟩ | ⟨h9, -⟩
                · exact h9
                · cases h9
                · cases h9
                · omega
                · omega
              subst hv9
              rw [hsl_arr hcA] at g4
              rw [hsl_obj hcH] at f4
              have h36 : 36 < h'.length := by
                rw [← hh'.1]
                exact (List.getElem?_eq_some_iff.mp (hh'.2.2.1 _ _ atau_pr.2.1)).1
              have hty := sides_ty hh' (by omega)
              have p14b : (τ' ++ sidesT)[14]? = some 14 := aup_app _ _ _ _ p14
              have hnew : (τ' ++ sidesT)[h'.length]? = some 1000 := by
                have h9 := app_at (a := τ') (b := sidesT) (k := 0) hh'.1
                exact h9
              have hp0 : fsH[0]? = some (.inl (some 14)) := by
                obtain ⟨v, qq, e1, e2, e3⟩ := tyc_slot at13 htyH (i := 0) (by decide)
                cases e2
                rcases e3 with ⟨e3, -⟩ | ⟨b, rfl, hb⟩
                · cases e3
                · have := (hh'.2.2.2 b 14 hb).1 (by decide)
                  subst this
                  exact e1
              have hM2 : hM (τ' ++ sidesT) (hup (h' ++ sidesC h'.length) 14 i8 (.inl (some h'.length))) := by
                refine hM_hup (w := .inl none) hty p14b at14 (qq := .inr (.inl (1000, true))) ?_ (Or.inr ⟨_, rfl, hnew⟩)
                show (bif Nat.blt i8 10 then some (.inr (.inl (1000, true)) : qs) else none) = _
                rw [bltT.mpr (show i8 < 10 by omega)]
                rfl
              have hcA2 : (h' ++ sidesC h'.length)[14]? = some (.inl (3, fsA)) := by rw [List.getElem?_append_left hal]; exact hcA
              have ha2 : hsl (h' ++ sidesC h'.length) 14 i8 = some (.inl none) := by
                rw [hsl_arr hcA2]
                exact g4
              have hs13 : hsl (hup (h' ++ sidesC h'.length) 14 i8 (.inl (some h'.length))) 13 1 = some (zi y) := by
                rw [hup_sl ha2, if_neg (by rintro ⟨h9, -⟩; cases h9)]
                unfold hsl
                rw [List.getElem?_append_left (by omega), hcH]
                exact f4
              have hs14 : hsl (hup (h' ++ sidesC h'.length) 14 i8 (.inl (some h'.length))) 14 i8 = some (.inl (some h'.length)) := by
                rw [hup_sl ha2, if_pos ⟨rfl, rfl⟩]
              have hfr1 : aFr τ' h' wlK (hup (h' ++ sidesC h'.length) 14 i8 (.inl (some h'.length))) := by
                intro k T j hk hw
                have hkl : k < h'.length := by
                  rw [← hh'.1]
                  exact (List.getElem?_eq_some_iff.mp hk).1
                rw [hup_sl ha2, if_neg]
                · unfold hsl
                  rw [List.getElem?_append_left hkl]
                · rintro ⟨rfl, rfl⟩
                  rw [p14] at hk
                  cases hk
                  have hw2 := awsb_ok (wr := [(14, 0, 9)]) (wr' := wlK) (by decide +kernel) hw
                  have hw2 : (Nat.beq 14 14 && (Nat.ble 0 j && Nat.ble j 9) || false) = false := hw2
                  rw [Nat.beq_refl, Nat.ble_eq_true_of_le (Nat.zero_le j), Nat.ble_eq_true_of_le hi9] at hw2
                  cases hw2
              obtain ⟨h3, τ3, k1, k2, k3, k4, k5⟩ := keep_C (t := t') hC6 hM2 (keep_J hJ' hcA g4 h36 _) hs13 hi hi9 hs14 hnew (aup_app _ _ _ _ (u3 _ _ hτq))
              refine ⟨_, keep_B (d := 3) hcH hp0 f4 hcA (by omega) hi (by omega) k1, h3, τ3, rfl, aup_trans u3 (aup_trans (aup_app _ _) k2), k3, k4, aFr_two hfr0 u3 (aFr_two hfr1 (aup_app _ _) k5)⟩
        · cases a5
      · cases hPx) (fun o ho => (by cases ho)) (aup_refl _) (aup_refl _) (aup_refl _)
    exact ⟨_, h2, t, τ2, _, List.mem_cons_self, qE_le (show 7 ≤ 8 by decide) (qE_of k1), g2, g3, g4, g5, rfl, trivial, fun f hf => (by cases hf), fun f hf => (by cases hf)⟩
