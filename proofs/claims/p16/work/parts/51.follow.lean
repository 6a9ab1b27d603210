theorem atau_fol : atau[374]? = some 374 ∧ atau[375]? = some 375 ∧ atau[373]? = some 373 ∧ atau[70]? = some 70 := by decide +kernel
theorem fol_run {s w lo : Int} {rl : aR} {τ : List Nat} {h : zh} {t i R : Nat} {xo xr xl xs xw c0 c1 c2 : Int32} (hR : folR s w lo rl = true) (hC : ∀ (mk : Nat) (c' : aK), c' ∈ actb mk → c'.2.2.1 ≤ 8 → cOK aJ mk c') (hh : hM τ h) (hJ : aJ h) (ho : xo.toInt = (i : Int)) (hi : i ≤ 299) (h1 : hsl h 374 i = some (zi xr)) (h2 : hsl h 375 i = some (zi xl)) (h3 : hsl h 373 i = some (zi xs)) (h4 : hsl h 70 i = some (.inl (some R))) (hτR : τ[R]? = some 1012) (h5 : hsl h R 1 = some (zi c1)) (h6 : hsl h R 0 = some (zi c0)) (h7 : hsl h R 2 = some (zi c2)) (b1 : 0 ≤ xr.toInt ∧ xr.toInt ≤ 11) (b2 : 0 ≤ xl.toInt ∧ xl.toInt ≤ 11) (b3 : 1 ≤ c1.toInt ∧ c1.toInt ≤ 12) (b4 : lo ≤ c0.toInt ∧ c0.toInt ≤ 12) (b5 : 0 ≤ c2.toInt ∧ c2.toInt ≤ 12) (hs : xs.toInt = s) (hw : xw.toInt = w) (hrl : ∀ f ∈ rl, arM [0, (i : Int), xr.toInt, xl.toInt, c1.toInt, c0.toInt, c2.toInt] f) : ∃ (b : Int32) (h3 : zh) (τ3 : List Nat), qF none 8 228 0 [some (.inl (some 52)), some (zi xo), some (zi xw), none, none, none, none, none, none, none, none] [] h t (.inl (some (zi b)), h3, t) ∧ (0 ≤ b.toInt ∧ b.toInt ≤ 1) ∧ aup τ τ3 ∧ hM τ3 h3 ∧ aJ h3 ∧ aFr τ h [(378, 0, 199)] h3 := by
  unfold folR at hR
  cases hL : alp actb [] [] 8 (arn actb 2000 8) 228 2000 [] 0 [some (.inr (.inl 52)), some (.inl (1, 0)), some (.inl (0, w)), none, none, none, none, none, none, none, none] [] (folS s lo rl) with
  | none => rw [hL] at hR; cases hR
  | some L =>
    rw [hL] at hR
    simp only at hR
    obtain ⟨p1, p2, p3, p4⟩ := atau_fol
    have nR : ¬ (1000 : Nat) < 1000 := by decide
    have hM0 : aM aJ τ h t (folS s lo rl) [0, (i : Int), xr.toInt, xl.toInt, c1.toInt, c0.toInt, c2.toInt] [R] τ h t := by
      refine ⟨⟨rfl, rfl, fun k p9 hp9 => ?_⟩, ⟨rfl, fun j T hj => ?_⟩, fun f hf => ?_, hrl, ⟨aup_refl _, fun k T i _ _ => rfl⟩, hh, hJ, rfl⟩
      · match k, hp9 with
        | 0, hp9 => cases hp9; exact ⟨0, rfl, Int.le_refl _, Int.le_refl _⟩
        | 1, hp9 => cases hp9; exact ⟨_, rfl, by simp only; omega, by simp only; omega⟩
        | 2, hp9 => cases hp9; exact ⟨_, rfl, b1.1, b1.2⟩
        | 3, hp9 => cases hp9; exact ⟨_, rfl, b2.1, b2.2⟩
        | 4, hp9 => cases hp9; exact ⟨_, rfl, b3.1, b3.2⟩
        | 5, hp9 => cases hp9; exact ⟨_, rfl, b4.1, b4.2⟩
        | 6, hp9 => cases hp9; exact ⟨_, rfl, b5.1, b5.2⟩
        | k + 7, hp9 => cases hp9
      · match j, hj with
        | 0, hj => cases hj; exact ⟨R, rfl, hτR⟩
        | j + 1, hj => cases hj
      · have hf : f ∈ [((374, 1, 0), (.inl (2, 0) : av)), ((375, 1, 0), .inl (3, 0)), ((373, 1, 0), .inl (0, s)), ((70, 1, 0), .inr (.inl 1000)), ((1000, 0, 1), .inl (4, 0)), ((1000, 0, 0), .inl (5, 0)), ((1000, 0, 2), .inl (6, 0))] := hf
        simp only [List.mem_cons, List.not_mem_nil, or_false] at hf
        rcases hf with rfl | rfl | rfl | rfl | rfl | rfl | rfl
        · exact ⟨fun _ => hh.2.2.1 _ _ p1, 374, i, (i : Int), _, rfl, rfl, by simp, h1, xr, _, rfl, rfl, by simp⟩
        · exact ⟨fun _ => hh.2.2.1 _ _ p2, 375, i, (i : Int), _, rfl, rfl, by simp, h2, xl, _, rfl, rfl, by simp⟩
        · exact ⟨fun _ => hh.2.2.1 _ _ p3, 373, i, (i : Int), _, rfl, rfl, by simp, h3, xs, 0, rfl, rfl, by omega⟩
        · exact ⟨fun _ => hh.2.2.1 _ _ p4, 70, i, (i : Int), _, rfl, rfl, by simp, h4, R, rfl, rfl⟩
        · exact ⟨fun h9 => absurd h9 nR, R, 1, 0, _, rfl, rfl, rfl, h5, c1, _, rfl, rfl, by simp⟩
        · exact ⟨fun h9 => absurd h9 nR, R, 0, 0, _, rfl, rfl, rfl, h6, c0, _, rfl, rfl, by simp⟩
        · exact ⟨fun h9 => absurd h9 nR, R, 2, 0, _, rfl, rfl, rfl, h7, c2, _, rfl, rfl, by simp⟩
    have hl0 : alM [0, (i : Int), xr.toInt, xl.toInt, c1.toInt, c0.toInt, c2.toInt] [R] [some (.inr (.inl 52)), some (.inl (1, 0)), some (.inl (0, w)), none, none, none, none, none, none, none, none] [some (.inl (some 52)), some (zi xo), some (zi xw), none, none, none, none, none, none, none, none] := by
      refine ⟨rfl, fun k b hb => ?_, fun k v hv hn => ?_⟩
      · match k, hb with
        | 0, hb => cases hb; exact ⟨_, rfl, 52, rfl, rfl⟩
        | 1, hb => cases hb; exact ⟨_, rfl, xo, (i : Int), rfl, rfl, by omega⟩
        | 2, hb => cases hb; exact ⟨_, rfl, xw, 0, rfl, rfl, by omega⟩
        | k + 3, hb =>
          have h9 := List.eq_of_mem_replicate (n := 8) (a := (none : Option av)) (List.mem_of_getElem? (show (List.replicate 8 (none : Option av))[k]? = some (some b) from hb))
          cases h9
      · match k, hv, hn with
        | 0, _, hn => cases hn
        | 1, _, hn => cases hn
        | 2, _, hn => cases hn
        | k + 3, hv, _ =>
          have h9 := List.eq_of_mem_replicate (n := 8) (a := (none : Option zv)) (List.mem_of_getElem? (show (List.replicate 8 (none : Option zv))[k]? = some (some v) from hv))
          cases h9
    obtain ⟨xx, k1, b, h3, τ3, rfl, g1, g2, g3, g4, g5⟩ := alp_ok (ann := []) (stops := []) (ctb := actb) (call := arn actb 2000 8) (τ0 := τ) (h0 := h) (t0 := t) (ρt := [0, (i : Int), xr.toInt, xl.toInt, c1.toInt, c0.toInt, c2.toInt]) (νt := [R]) (τt := τ) (d := 8) (mi := 228) (Out := fun xx => ∃ (b : Int32) (h3 : zh) (τ3 : List Nat), xx = (.inl (some (zi b)), h3, t) ∧ (0 ≤ b.toInt ∧ b.toInt ≤ 1) ∧ aup τ τ3 ∧ hM τ3 h3 ∧ aJ h3 ∧ aFr τ h [(378, 0, 199)] h3) aJ_ok hC (arn_ok aJ_ok 8 hC) 2000 [] 0 _ [] _ L _ _ _ _ [] h t hL hM0 hl0 trivial (fun o S' hm9 ρ' ν' τ' h' t' u1 u2 u3 hM' => by
      have hPx := List.all_eq_true.mp hR _ hm9
      simp only at hPx
      split at hPx
      · rename_i v hv9
        simp only [Bool.and_eq_true] at hPx
        refine ⟨fun q9 hq9 x hx => ?_, fun pc ls st ho => (by cases ho)⟩
        cases hq9
        rcases x with (_ | v9) | z
        · exact hx.elim
        · have ht : t' = t := by
            have h9 := hM'.2.2.2.2.2.2.2
            rw [Nat.eq_of_beq_eq_true hPx.2.2] at h9
            exact h9
          subst ht
          obtain ⟨b, rfl, l1, l2⟩ := (aqok_ok (vs := [v9]) hM' hPx.1 (asM_mk hx trivial)).1
          exact ⟨b, h', τ', rfl, ⟨l1, l2⟩, u3, hM'.2.2.2.2.2.1, hM'.2.2.2.2.2.2.1, fun k T j hk hw9 => hM'.2.2.2.2.1.2 k T j hk (awsb_ok hPx.2.1 hw9)⟩
        · exact hx.elim
      · cases hPx) (fun o ho => (by cases ho)) (aup_refl _) (aup_refl _) (aup_refl _)
    exact ⟨b, h3, τ3, k1, g1, g2, g3, g4, g5⟩
