/-! ALL CONTRACTS HOLD -/
theorem fr_in {τ τ1 : List Nat} {h h1 : zh} {A T tg L j lo hi : Nat} {rs : List (Nat × qs)} {wl : aW} (hg : hG τ h) (hg1 : hG τ1 h1) (hu : aup τ τ1) (hA : τ[A]? = some T) (hT : atyp T = some (.inl (tg, L, rs))) (hw : (T, lo, hi) ∈ wl) (hlo : lo = 0) (hhi : hi + 1 = L) (h0 : awc wl T j = false) : hsl h1 A j = hsl h A j := by
  obtain ⟨fs, hc, hl⟩ := g_arr hg hA hT
  obtain ⟨fs1, hc1, hl1⟩ := g_arr hg1 (hu _ _ hA) hT
  rcases Nat.lt_or_ge j L with q | q
  · have : awc wl T j = true := List.any_eq_true.mpr ⟨_, hw, by
      simp only [Nat.beq_refl, Bool.true_and]
      rw [Nat.ble_eq_true_of_le (show lo ≤ j by omega), Nat.ble_eq_true_of_le (show j ≤ hi by omega)]
      rfl⟩
    rw [this] at h0
    cases h0
  · rw [hsl_arr hc, hsl_arr hc1, List.getElem?_eq_none (by omega), List.getElem?_eq_none (by omega)]
theorem fr_out {wl : aW} {T j lo hi : Nat} (hw : (T, lo, hi) ∈ wl) (h1 : lo ≤ j) (h2 : j ≤ hi) (h0 : awc wl T j = false) : False := by
  have : awc wl T j = true := List.any_eq_true.mpr ⟨_, hw, by
    simp only [Nat.beq_refl, Bool.true_and]
    rw [Nat.ble_eq_true_of_le h1, Nat.ble_eq_true_of_le h2]
    rfl⟩
  rw [this] at h0
  cases h0
theorem ty_eq {τ : List Nat} {k T T' : Nat} (a : τ[k]? = some T) (b : τ[k]? = some T') : T = T' := by
  rw [a] at b
  cases b
  rfl
theorem fr_proves {τ τ1 : List Nat} {h h1 : zh} (hg : hG τ h) (O : oF (fun k j => k ≠ 68 ∧ k ≠ 69 ∧ (k < 71 ∨ 380 < k) ∧ (k ≠ 52 ∨ j < 26 ∨ 32 < j)) τ h τ1 h1) : aFr τ h [(52, 26, 32), (68, 0, 20), (69, 0, 20), (371, 0, 299), (372, 0, 299), (373, 0, 299), (374, 0, 299), (375, 0, 299), (376, 0, 299), (377, 0, 299), (378, 0, 199), (379, 0, 599), (380, 0, 599), (1012, 0, 199)] h1 := by
  intro k T j hk hw
  by_cases hC : k ≠ 68 ∧ k ≠ 69 ∧ (k < 71 ∨ 380 < k) ∧ (k ≠ 52 ∨ j < 26 ∨ 32 < j)
  · exact O.2.2 k T j hk hC
  · rcases (show (k = 52 ∧ 26 ≤ j ∧ j ≤ 32) ∨ (71 ≤ k ∧ k < 371) ∨ k = 68 ∨ k = 69 ∨ k = 371 ∨ k = 372 ∨ k = 373 ∨ k = 374 ∨ k = 375 ∨ k = 376 ∨ k = 377 ∨ k = 378 ∨ k = 379 ∨ k = 380 by omega) with q | q | q | q | q | q | q | q | q | q | q | q | q | q
    · obtain ⟨rfl, q1, q2⟩ := q
      have e := ty_eq (t52 hg) hk
      subst e
      exact (fr_out (lo := 26) (hi := 32) (by decide) q1 q2 hw).elim
    · obtain ⟨n, rfl⟩ : ∃ n, k = 71 + n := ⟨k - 71, by omega⟩
      have e := ty_eq (tuR hg (by omega)) hk
      subst e
      exact fr_in hg O.2.1 O.1 (tuR hg (by omega)) at1012 (lo := 0) (hi := 199) (by decide) rfl rfl hw
    · subst q
      have e := ty_eq (tu68 hg) hk
      subst e
      exact fr_in hg O.2.1 O.1 (tu68 hg) at68 (lo := 0) (hi := 20) (by decide) rfl rfl hw
    · subst q
      have e := ty_eq (tu69 hg) hk
      subst e
      exact fr_in hg O.2.1 O.1 (tu69 hg) at69 (lo := 0) (hi := 20) (by decide) rfl rfl hw
    · subst q
      have e := ty_eq (tu371 hg) hk
      subst e
      exact fr_in hg O.2.1 O.1 (tu371 hg) at371 (lo := 0) (hi := 299) (by decide) rfl rfl hw
    · subst q
      have e := ty_eq (tu372 hg) hk
      subst e
      exact fr_in hg O.2.1 O.1 (tu372 hg) at372 (lo := 0) (hi := 299) (by decide) rfl rfl hw
    · subst q
      have e := ty_eq (tu373 hg) hk
      subst e
      exact fr_in hg O.2.1 O.1 (tu373 hg) at373 (lo := 0) (hi := 299) (by decide) rfl rfl hw
    · subst q
      have e := ty_eq (tu374 hg) hk
      subst e
      exact fr_in hg O.2.1 O.1 (tu374 hg) at374 (lo := 0) (hi := 299) (by decide) rfl rfl hw
    · subst q
      have e := ty_eq (tu375 hg) hk
      subst e
      exact fr_in hg O.2.1 O.1 (tu375 hg) at375 (lo := 0) (hi := 299) (by decide) rfl rfl hw
    · subst q
      have e := ty_eq (tu376 hg) hk
      subst e
      exact fr_in hg O.2.1 O.1 (tu376 hg) at376 (lo := 0) (hi := 299) (by decide) rfl rfl hw
    · subst q
      have e := ty_eq (tu377 hg) hk
      subst e
      exact fr_in hg O.2.1 O.1 (tu377 hg) at377 (lo := 0) (hi := 299) (by decide) rfl rfl hw
    · subst q
      have e := ty_eq (tu378 hg) hk
      subst e
      exact fr_in hg O.2.1 O.1 (tu378 hg) at378 (lo := 0) (hi := 199) (by decide) rfl rfl hw
    · subst q
      have e := ty_eq (tu379 hg) hk
      subst e
      exact fr_in hg O.2.1 O.1 (tu379 hg) at379 (lo := 0) (hi := 599) (by decide) rfl rfl hw
    · subst q
      have e := ty_eq (tu380 hg) hk
      subst e
      exact fr_in hg O.2.1 O.1 (tu380 hg) at380 (lo := 0) (hi := 599) (by decide) rfl rfl hw
theorem fr_lays {τ τ1 : List Nat} {h h1 : zh} (hg : hG τ h) (O : oF (fun k j => (k < 381 ∨ 387 < k) ∧ (k ≠ 52 ∨ j < 39 ∨ (45 < j ∧ j ≠ 47))) τ h τ1 h1) : aFr τ h [(52, 39, 45), (52, 47, 47), (381, 0, 5), (382, 0, 4), (383, 0, 31), (384, 0, 31), (385, 0, 31), (386, 0, 31), (387, 0, 5)] h1 := by
  intro k T j hk hw
  by_cases hC : (k < 381 ∨ 387 < k) ∧ (k ≠ 52 ∨ j < 39 ∨ (45 < j ∧ j ≠ 47))
  · exact O.2.2 k T j hk hC
  · rcases (show (k = 52 ∧ 39 ≤ j ∧ j ≤ 45) ∨ (k = 52 ∧ j = 47) ∨ k = 381 ∨ k = 382 ∨ k = 383 ∨ k = 384 ∨ k = 385 ∨ k = 386 ∨ k = 387 by omega) with q | q | q | q | q | q | q | q | q
    · obtain ⟨rfl, q1, q2⟩ := q
      have e := ty_eq (t52 hg) hk
      subst e
      exact (fr_out (lo := 39) (hi := 45) (by decide) q1 q2 hw).elim
    · obtain ⟨rfl, q1⟩ := q
      have e := ty_eq (t52 hg) hk
      subst e
      exact (fr_out (lo := 47) (hi := 47) (by decide) (by omega) (by omega) hw).elim
    · subst q
      have e := ty_eq (tu381 hg) hk
      subst e
      exact fr_in hg O.2.1 O.1 (tu381 hg) at381 (lo := 0) (hi := 5) (by decide) rfl rfl hw
    · subst q
      have e := ty_eq (tu382 hg) hk
      subst e
      exact fr_in hg O.2.1 O.1 (tu382 hg) at382 (lo := 0) (hi := 4) (by decide) rfl rfl hw
    · subst q
      have e := ty_eq (tu383 hg) hk
      subst e
      exact fr_in hg O.2.1 O.1 (tu383 hg) at383 (lo := 0) (hi := 31) (by decide) rfl rfl hw
    · subst q
      have e := ty_eq (tu384 hg) hk
      subst e
      exact fr_in hg O.2.1 O.1 (tu384 hg) at384 (lo := 0) (hi := 31) (by decide) rfl rfl hw
    · subst q
      have e := ty_eq (tu385 hg) hk
      subst e
      exact fr_in hg O.2.1 O.1 (tu385 hg) at385 (lo := 0) (hi := 31) (by decide) rfl rfl hw
    · subst q
      have e := ty_eq (tu386 hg) hk
      subst e
      exact fr_in hg O.2.1 O.1 (tu386 hg) at386 (lo := 0) (hi := 31) (by decide) rfl rfl hw
    · subst q
      have e := ty_eq (tu387 hg) hk
      subst e
      exact fr_in hg O.2.1 O.1 (tu387 hg) at387 (lo := 0) (hi := 5) (by decide) rfl rfl hw
theorem m_proves (hC : ∀ (mk : Nat) (c' : aK), c' ∈ actb mk → c'.2.2.1 ≤ 8 → cOK aJ mk c') : cOK aJ 238 ac3 := by
  intro τ h t nL rk n hs vs l0 pv hm hh hJ hq _ hz
  have hm' : zmeth 238 = some (3, 0, 2, []) := rfl
  rw [hm'] at hm
  cases hm
  have hq : aqsM τ [.inr (.inl 52), .inl (0, 1)] vs := hq
  match vs, hq with
  | [v1, v2], ⟨⟨p, e1, hp⟩, ⟨x, e2, l, u⟩, _⟩ =>
    subst e1 e2
    have := (hh.2.2.2 p 52 hp).1 (by decide)
    subst this
    have hz' : zent [.inl (some 52), zi x] 3 = some [some (.inl (some 52)), some (zi x), none] := rfl
    rw [hz'] at hz
    cases hz
    obtain ⟨h1, hE, τ1, O⟩ := e_proves (t := t) hC (⟨hh, hJ⟩ : hG τ h) l u
    exact ⟨.inl none, h1, t, τ1, _, List.mem_cons_self, hE, O.1, O.2.1.1, O.2.1.2, fr_proves ⟨hh, hJ⟩ O, rfl, trivial, fun f hf => (by cases hf), fun f hf => (by cases hf)⟩
theorem m_lays : cOK aJ 259 ac4 := by
  intro τ h t nL rk n hs vs l0 pv hm hh hJ hq _ hz
  have hm' : zmeth 259 = some (1, 0, 1, []) := rfl
  rw [hm'] at hm
  cases hm
  have hq : aqsM τ [.inr (.inl 52)] vs := hq
  match vs, hq with
  | [v1], ⟨⟨p, e1, hp⟩, _⟩ =>
    subst e1
    have := (hh.2.2.2 p 52 hp).1 (by decide)
    subst this
    have hz' : zent [.inl (some 52)] 1 = some [some (.inl (some 52))] := rfl
    rw [hz'] at hz
    cases hz
    obtain ⟨h1, hE, τ1, O⟩ := e_laysHeaps (t := t) (⟨hh, hJ⟩ : hG τ h)
    exact ⟨.inl none, h1, t, τ1, _, List.mem_cons_self, hE, O.1, O.2.1.1, O.2.1.2, fr_lays ⟨hh, hJ⟩ O, rfl, trivial, fun f hf => (by cases hf), fun f hf => (by cases hf)⟩
theorem ok3 {n : Nat} (IH : ∀ (mk : Nat) (c' : aK), c' ∈ actb mk → c'.2.2.1 < n → cOK aJ mk c') : ∀ c ∈ actb 3, c.2.2.1 ≤ n → cOK aJ 3 c := by
  intro c hc hd
  have hc : c ∈ [ac87] := hc
  simp only [List.mem_cons, List.not_mem_nil, or_false] at hc
  rcases hc with rfl
  · exact achk_ok aJ_ok ak87 (fun mk c' h1 h2 => IH mk c' h1 (Nat.lt_of_lt_of_le h2 hd))
theorem ok4 {n : Nat} (IH : ∀ (mk : Nat) (c' : aK), c' ∈ actb mk → c'.2.2.1 < n → cOK aJ mk c') : ∀ c ∈ actb 4, c.2.2.1 ≤ n → cOK aJ 4 c := by
  intro c hc hd
  have hc : c ∈ [ac75] := hc
  simp only [List.mem_cons, List.not_mem_nil, or_false] at hc
  rcases hc with rfl
  · exact achk_ok aJ_ok ak75 (fun mk c' h1 h2 => IH mk c' h1 (Nat.lt_of_lt_of_le h2 hd))
theorem ok5 {n : Nat} (IH : ∀ (mk : Nat) (c' : aK), c' ∈ actb mk → c'.2.2.1 < n → cOK aJ mk c') : ∀ c ∈ actb 5, c.2.2.1 ≤ n → cOK aJ 5 c := by
  intro c hc hd
  have hc : c ∈ [ac69] := hc
  simp only [List.mem_cons, List.not_mem_nil, or_false] at hc
  rcases hc with rfl
  · exact achk_ok aJ_ok ak69 (fun mk c' h1 h2 => IH mk c' h1 (Nat.lt_of_lt_of_le h2 hd))
theorem ok6 {n : Nat} (IH : ∀ (mk : Nat) (c' : aK), c' ∈ actb mk → c'.2.2.1 < n → cOK aJ mk c') : ∀ c ∈ actb 6, c.2.2.1 ≤ n → cOK aJ 6 c := by
  intro c hc hd
  have hc : c ∈ [ac77] := hc
  simp only [List.mem_cons, List.not_mem_nil, or_false] at hc
  rcases hc with rfl
  · exact achk_ok aJ_ok ak77 (fun mk c' h1 h2 => IH mk c' h1 (Nat.lt_of_lt_of_le h2 hd))
theorem ok7 {n : Nat} (IH : ∀ (mk : Nat) (c' : aK), c' ∈ actb mk → c'.2.2.1 < n → cOK aJ mk c') : ∀ c ∈ actb 7, c.2.2.1 ≤ n → cOK aJ 7 c := by
  intro c hc hd
  have hc : c ∈ [ac91] := hc
  simp only [List.mem_cons, List.not_mem_nil, or_false] at hc
  rcases hc with rfl
  · exact achk_ok aJ_ok ak91 (fun mk c' h1 h2 => IH mk c' h1 (Nat.lt_of_lt_of_le h2 hd))
theorem ok8 {n : Nat} (IH : ∀ (mk : Nat) (c' : aK), c' ∈ actb mk → c'.2.2.1 < n → cOK aJ mk c') : ∀ c ∈ actb 8, c.2.2.1 ≤ n → cOK aJ 8 c := by
  intro c hc hd
  have hc : c ∈ [ac96] := hc
  simp only [List.mem_cons, List.not_mem_nil, or_false] at hc
  rcases hc with rfl
  · exact achk_ok aJ_ok ak96 (fun mk c' h1 h2 => IH mk c' h1 (Nat.lt_of_lt_of_le h2 hd))
theorem ok9 {n : Nat} (IH : ∀ (mk : Nat) (c' : aK), c' ∈ actb mk → c'.2.2.1 < n → cOK aJ mk c') : ∀ c ∈ actb 9, c.2.2.1 ≤ n → cOK aJ 9 c := by
  intro c hc hd
  have hc : c ∈ [ac92] := hc
  simp only [List.mem_cons, List.not_mem_nil, or_false] at hc
  rcases hc with rfl
  · exact achk_ok aJ_ok ak92 (fun mk c' h1 h2 => IH mk c' h1 (Nat.lt_of_lt_of_le h2 hd))
theorem ok11 {n : Nat} (IH : ∀ (mk : Nat) (c' : aK), c' ∈ actb mk → c'.2.2.1 < n → cOK aJ mk c') : ∀ c ∈ actb 11, c.2.2.1 ≤ n → cOK aJ 11 c := by
  intro c hc hd
  have hc : c ∈ [ac137] := hc
  simp only [List.mem_cons, List.not_mem_nil, or_false] at hc
  rcases hc with rfl
  · exact achk_ok aJ_ok ak137 (fun mk c' h1 h2 => IH mk c' h1 (Nat.lt_of_lt_of_le h2 hd))
theorem ok13 {n : Nat} (IH : ∀ (mk : Nat) (c' : aK), c' ∈ actb mk → c'.2.2.1 < n → cOK aJ mk c') : ∀ c ∈ actb 13, c.2.2.1 ≤ n → cOK aJ 13 c := by
  intro c hc hd
  have hc : c ∈ [ac143] := hc
  simp only [List.mem_cons, List.not_mem_nil, or_false] at hc
  rcases hc with rfl
  · exact achk_ok aJ_ok ak143 (fun mk c' h1 h2 => IH mk c' h1 (Nat.lt_of_lt_of_le h2 hd))
theorem ok14 {n : Nat} (IH : ∀ (mk : Nat) (c' : aK), c' ∈ actb mk → c'.2.2.1 < n → cOK aJ mk c') : ∀ c ∈ actb 14, c.2.2.1 ≤ n → cOK aJ 14 c := by
  intro c hc hd
  have hc : c ∈ [ac144] := hc
  simp only [List.mem_cons, List.not_mem_nil, or_false] at hc
  rcases hc with rfl
  · exact achk_ok aJ_ok ak144 (fun mk c' h1 h2 => IH mk c' h1 (Nat.lt_of_lt_of_le h2 hd))
theorem ok15 {n : Nat} (IH : ∀ (mk : Nat) (c' : aK), c' ∈ actb mk → c'.2.2.1 < n → cOK aJ mk c') : ∀ c ∈ actb 15, c.2.2.1 ≤ n → cOK aJ 15 c := by
  intro c hc hd
  have hc : c ∈ [ac145] := hc
  simp only [List.mem_cons, List.not_mem_nil, or_false] at hc
  rcases hc with rfl
  · exact achk_ok aJ_ok ak145 (fun mk c' h1 h2 => IH mk c' h1 (Nat.lt_of_lt_of_le h2 hd))
theorem ok16 {n : Nat} (IH : ∀ (mk : Nat) (c' : aK), c' ∈ actb mk → c'.2.2.1 < n → cOK aJ mk c') : ∀ c ∈ actb 16, c.2.2.1 ≤ n → cOK aJ 16 c := by
  intro c hc hd
  have hc : c ∈ [ac154] := hc
  simp only [List.mem_cons, List.not_mem_nil, or_false] at hc
  rcases hc with rfl
  · exact achk_ok aJ_ok ak154 (fun mk c' h1 h2 => IH mk c' h1 (Nat.lt_of_lt_of_le h2 hd))
theorem ok17 {n : Nat} (IH : ∀ (mk : Nat) (c' : aK), c' ∈ actb mk → c'.2.2.1 < n → cOK aJ mk c') : ∀ c ∈ actb 17, c.2.2.1 ≤ n → cOK aJ 17 c := by
  intro c hc hd
  have hc : c ∈ [ac138] := hc
  simp only [List.mem_cons, List.not_mem_nil, or_false] at hc
  rcases hc with rfl
  · exact achk_ok aJ_ok ak138 (fun mk c' h1 h2 => IH mk c' h1 (Nat.lt_of_lt_of_le h2 hd))
theorem ok18 {n : Nat} (IH : ∀ (mk : Nat) (c' : aK), c' ∈ actb mk → c'.2.2.1 < n → cOK aJ mk c') : ∀ c ∈ actb 18, c.2.2.1 ≤ n → cOK aJ 18 c := by
  intro c hc hd
  have hc : c ∈ [ac153] := hc
  simp only [List.mem_cons, List.not_mem_nil, or_false] at hc
  rcases hc with rfl
  · exact achk_ok aJ_ok ak153 (fun mk c' h1 h2 => IH mk c' h1 (Nat.lt_of_lt_of_le h2 hd))
theorem ok19 {n : Nat} (IH : ∀ (mk : Nat) (c' : aK), c' ∈ actb mk → c'.2.2.1 < n → cOK aJ mk c') : ∀ c ∈ actb 19, c.2.2.1 ≤ n → cOK aJ 19 c := by
  intro c hc hd
  have hc : c ∈ [ac152] := hc
  simp only [List.mem_cons, List.not_mem_nil, or_false] at hc
  rcases hc with rfl
  · exact achk_ok aJ_ok ak152 (fun mk c' h1 h2 => IH mk c' h1 (Nat.lt_of_lt_of_le h2 hd))
theorem ok20 {n : Nat} (IH : ∀ (mk : Nat) (c' : aK), c' ∈ actb mk → c'.2.2.1 < n → cOK aJ mk c') : ∀ c ∈ actb 20, c.2.2.1 ≤ n → cOK aJ 20 c := by
  intro c hc hd
  have hc : c ∈ [ac149] := hc
  simp only [List.mem_cons, List.not_mem_nil, or_false] at hc
  rcases hc with rfl
  · exact achk_ok aJ_ok ak149 (fun mk c' h1 h2 => IH mk c' h1 (Nat.lt_of_lt_of_le h2 hd))
theorem ok21 {n : Nat} (IH : ∀ (mk : Nat) (c' : aK), c' ∈ actb mk → c'.2.2.1 < n → cOK aJ mk c') : ∀ c ∈ actb 21, c.2.2.1 ≤ n → cOK aJ 21 c := by
  intro c hc hd
  have hc : c ∈ [ac151] := hc
  simp only [List.mem_cons, List.not_mem_nil, or_false] at hc
  rcases hc with rfl
  · exact achk_ok aJ_ok ak151 (fun mk c' h1 h2 => IH mk c' h1 (Nat.lt_of_lt_of_le h2 hd))
theorem ok22 {n : Nat} (IH : ∀ (mk : Nat) (c' : aK), c' ∈ actb mk → c'.2.2.1 < n → cOK aJ mk c') : ∀ c ∈ actb 22, c.2.2.1 ≤ n → cOK aJ 22 c := by
  intro c hc hd
  have hc : c ∈ [ac150] := hc
  simp only [List.mem_cons, List.not_mem_nil, or_false] at hc
  rcases hc with rfl
  · exact achk_ok aJ_ok ak150 (fun mk c' h1 h2 => IH mk c' h1 (Nat.lt_of_lt_of_le h2 hd))
theorem ok24 {n : Nat} (IH : ∀ (mk : Nat) (c' : aK), c' ∈ actb mk → c'.2.2.1 < n → cOK aJ mk c') : ∀ c ∈ actb 24, c.2.2.1 ≤ n → cOK aJ 24 c := by
  intro c hc hd
  have hc : c ∈ [ac2] := hc
  simp only [List.mem_cons, List.not_mem_nil, or_false] at hc
  rcases hc with rfl
  · exact m_keep (fun mk c' h1 h2 => IH mk c' h1 (Nat.lt_of_lt_of_le h2 hd))
theorem ok25 {n : Nat} (IH : ∀ (mk : Nat) (c' : aK), c' ∈ actb mk → c'.2.2.1 < n → cOK aJ mk c') : ∀ c ∈ actb 25, c.2.2.1 ≤ n → cOK aJ 25 c := by
  intro c hc hd
  have hc : c ∈ [ac52] := hc
  simp only [List.mem_cons, List.not_mem_nil, or_false] at hc
  rcases hc with rfl
  · exact achk_ok aJ_ok ak52 (fun mk c' h1 h2 => IH mk c' h1 (Nat.lt_of_lt_of_le h2 hd))
theorem ok28 {n : Nat} (IH : ∀ (mk : Nat) (c' : aK), c' ∈ actb mk → c'.2.2.1 < n → cOK aJ mk c') : ∀ c ∈ actb 28, c.2.2.1 ≤ n → cOK aJ 28 c := by
  intro c hc hd
  have hc : c ∈ [ac101, ac124] := hc
  simp only [List.mem_cons, List.not_mem_nil, or_false] at hc
  rcases hc with rfl | rfl
  · exact achk_ok aJ_ok ak101 (fun mk c' h1 h2 => IH mk c' h1 (Nat.lt_of_lt_of_le h2 hd))
  · exact achk_ok aJ_ok ak124 (fun mk c' h1 h2 => IH mk c' h1 (Nat.lt_of_lt_of_le h2 hd))
theorem ok30 {n : Nat} (IH : ∀ (mk : Nat) (c' : aK), c' ∈ actb mk → c'.2.2.1 < n → cOK aJ mk c') : ∀ c ∈ actb 30, c.2.2.1 ≤ n → cOK aJ 30 c := by
  intro c hc hd
  have hc : c ∈ [ac102, ac125] := hc
  simp only [List.mem_cons, List.not_mem_nil, or_false] at hc
  rcases hc with rfl | rfl
  · exact achk_ok aJ_ok ak102 (fun mk c' h1 h2 => IH mk c' h1 (Nat.lt_of_lt_of_le h2 hd))
  · exact achk_ok aJ_ok ak125 (fun mk c' h1 h2 => IH mk c' h1 (Nat.lt_of_lt_of_le h2 hd))
theorem ok33 {n : Nat} (IH : ∀ (mk : Nat) (c' : aK), c' ∈ actb mk → c'.2.2.1 < n → cOK aJ mk c') : ∀ c ∈ actb 33, c.2.2.1 ≤ n → cOK aJ 33 c := by
  intro c hc hd
  have hc : c ∈ [ac0, ac1] := hc
  simp only [List.mem_cons, List.not_mem_nil, or_false] at hc
  rcases hc with rfl | rfl
  · exact m_slot (Or.inl ⟨rfl, rfl⟩)
  · exact m_slot (Or.inr ⟨rfl, rfl⟩)
theorem ok35 {n : Nat} (IH : ∀ (mk : Nat) (c' : aK), c' ∈ actb mk → c'.2.2.1 < n → cOK aJ mk c') : ∀ c ∈ actb 35, c.2.2.1 ≤ n → cOK aJ 35 c := by
  intro c hc hd
  have hc : c ∈ [ac133] := hc
  simp only [List.mem_cons, List.not_mem_nil, or_false] at hc
  rcases hc with rfl
  · exact achk_ok aJ_ok ak133 (fun mk c' h1 h2 => IH mk c' h1 (Nat.lt_of_lt_of_le h2 hd))
theorem ok36 {n : Nat} (IH : ∀ (mk : Nat) (c' : aK), c' ∈ actb mk → c'.2.2.1 < n → cOK aJ mk c') : ∀ c ∈ actb 36, c.2.2.1 ≤ n → cOK aJ 36 c := by
  intro c hc hd
  have hc : c ∈ [ac165] := hc
  simp only [List.mem_cons, List.not_mem_nil, or_false] at hc
  rcases hc with rfl
  · exact achk_ok aJ_ok ak165 (fun mk c' h1 h2 => IH mk c' h1 (Nat.lt_of_lt_of_le h2 hd))
theorem ok37 {n : Nat} (IH : ∀ (mk : Nat) (c' : aK), c' ∈ actb mk → c'.2.2.1 < n → cOK aJ mk c') : ∀ c ∈ actb 37, c.2.2.1 ≤ n → cOK aJ 37 c := by
  intro c hc hd
  have hc : c ∈ [ac116, ac131] := hc
  simp only [List.mem_cons, List.not_mem_nil, or_false] at hc
  rcases hc with rfl | rfl
  · exact achk_ok aJ_ok ak116 (fun mk c' h1 h2 => IH mk c' h1 (Nat.lt_of_lt_of_le h2 hd))
  · exact achk_ok aJ_ok ak131 (fun mk c' h1 h2 => IH mk c' h1 (Nat.lt_of_lt_of_le h2 hd))
theorem ok39 {n : Nat} (IH : ∀ (mk : Nat) (c' : aK), c' ∈ actb mk → c'.2.2.1 < n → cOK aJ mk c') : ∀ c ∈ actb 39, c.2.2.1 ≤ n → cOK aJ 39 c := by
  intro c hc hd
  have hc : c ∈ [ac115, ac130] := hc
  simp only [List.mem_cons, List.not_mem_nil, or_false] at hc
  rcases hc with rfl | rfl
  · exact achk_ok aJ_ok ak115 (fun mk c' h1 h2 => IH mk c' h1 (Nat.lt_of_lt_of_le h2 hd))
  · exact achk_ok aJ_ok ak130 (fun mk c' h1 h2 => IH mk c' h1 (Nat.lt_of_lt_of_le h2 hd))
theorem ok40 {n : Nat} (IH : ∀ (mk : Nat) (c' : aK), c' ∈ actb mk → c'.2.2.1 < n → cOK aJ mk c') : ∀ c ∈ actb 40, c.2.2.1 ≤ n → cOK aJ 40 c := by
  intro c hc hd
  have hc : c ∈ [ac113, ac128] := hc
  simp only [List.mem_cons, List.not_mem_nil, or_false] at hc
  rcases hc with rfl | rfl
  · exact achk_ok aJ_ok ak113 (fun mk c' h1 h2 => IH mk c' h1 (Nat.lt_of_lt_of_le h2 hd))
  · exact achk_ok aJ_ok ak128 (fun mk c' h1 h2 => IH mk c' h1 (Nat.lt_of_lt_of_le h2 hd))
theorem ok41 {n : Nat} (IH : ∀ (mk : Nat) (c' : aK), c' ∈ actb mk → c'.2.2.1 < n → cOK aJ mk c') : ∀ c ∈ actb 41, c.2.2.1 ≤ n → cOK aJ 41 c := by
  intro c hc hd
  have hc : c ∈ [ac114, ac129] := hc
  simp only [List.mem_cons, List.not_mem_nil, or_false] at hc
  rcases hc with rfl | rfl
  · exact achk_ok aJ_ok ak114 (fun mk c' h1 h2 => IH mk c' h1 (Nat.lt_of_lt_of_le h2 hd))
  · exact achk_ok aJ_ok ak129 (fun mk c' h1 h2 => IH mk c' h1 (Nat.lt_of_lt_of_le h2 hd))
theorem ok42 {n : Nat} (IH : ∀ (mk : Nat) (c' : aK), c' ∈ actb mk → c'.2.2.1 < n → cOK aJ mk c') : ∀ c ∈ actb 42, c.2.2.1 ≤ n → cOK aJ 42 c := by
  intro c hc hd
  have hc : c ∈ [ac104, ac127] := hc
  simp only [List.mem_cons, List.not_mem_nil, or_false] at hc
  rcases hc with rfl | rfl
  · exact achk_ok aJ_ok ak104 (fun mk c' h1 h2 => IH mk c' h1 (Nat.lt_of_lt_of_le h2 hd))
  · exact achk_ok aJ_ok ak127 (fun mk c' h1 h2 => IH mk c' h1 (Nat.lt_of_lt_of_le h2 hd))
theorem ok43 {n : Nat} (IH : ∀ (mk : Nat) (c' : aK), c' ∈ actb mk → c'.2.2.1 < n → cOK aJ mk c') : ∀ c ∈ actb 43, c.2.2.1 ≤ n → cOK aJ 43 c := by
  intro c hc hd
  have hc : c ∈ [ac97, ac121] := hc
  simp only [List.mem_cons, List.not_mem_nil, or_false] at hc
  rcases hc with rfl | rfl
  · exact achk_ok aJ_ok ak97 (fun mk c' h1 h2 => IH mk c' h1 (Nat.lt_of_lt_of_le h2 hd))
  · exact achk_ok aJ_ok ak121 (fun mk c' h1 h2 => IH mk c' h1 (Nat.lt_of_lt_of_le h2 hd))
theorem ok44 {n : Nat} (IH : ∀ (mk : Nat) (c' : aK), c' ∈ actb mk → c'.2.2.1 < n → cOK aJ mk c') : ∀ c ∈ actb 44, c.2.2.1 ≤ n → cOK aJ 44 c := by
  intro c hc hd
  have hc : c ∈ [ac103, ac126] := hc
  simp only [List.mem_cons, List.not_mem_nil, or_false] at hc
  rcases hc with rfl | rfl
  · exact achk_ok aJ_ok ak103 (fun mk c' h1 h2 => IH mk c' h1 (Nat.lt_of_lt_of_le h2 hd))
  · exact achk_ok aJ_ok ak126 (fun mk c' h1 h2 => IH mk c' h1 (Nat.lt_of_lt_of_le h2 hd))
theorem ok46 {n : Nat} (IH : ∀ (mk : Nat) (c' : aK), c' ∈ actb mk → c'.2.2.1 < n → cOK aJ mk c') : ∀ c ∈ actb 46, c.2.2.1 ≤ n → cOK aJ 46 c := by
  intro c hc hd
  have hc : c ∈ [ac40] := hc
  simp only [List.mem_cons, List.not_mem_nil, or_false] at hc
  rcases hc with rfl
  · exact achk_ok aJ_ok ak40 (fun mk c' h1 h2 => IH mk c' h1 (Nat.lt_of_lt_of_le h2 hd))
theorem ok47 {n : Nat} (IH : ∀ (mk : Nat) (c' : aK), c' ∈ actb mk → c'.2.2.1 < n → cOK aJ mk c') : ∀ c ∈ actb 47, c.2.2.1 ≤ n → cOK aJ 47 c := by
  intro c hc hd
  have hc : c ∈ [ac37] := hc
  simp only [List.mem_cons, List.not_mem_nil, or_false] at hc
  rcases hc with rfl
  · exact achk_ok aJ_ok ak37 (fun mk c' h1 h2 => IH mk c' h1 (Nat.lt_of_lt_of_le h2 hd))
theorem ok48 {n : Nat} (IH : ∀ (mk : Nat) (c' : aK), c' ∈ actb mk → c'.2.2.1 < n → cOK aJ mk c') : ∀ c ∈ actb 48, c.2.2.1 ≤ n → cOK aJ 48 c := by
  intro c hc hd
  have hc : c ∈ [ac35] := hc
  simp only [List.mem_cons, List.not_mem_nil, or_false] at hc
  rcases hc with rfl
  · exact achk_ok aJ_ok ak35 (fun mk c' h1 h2 => IH mk c' h1 (Nat.lt_of_lt_of_le h2 hd))
theorem ok49 {n : Nat} (IH : ∀ (mk : Nat) (c' : aK), c' ∈ actb mk → c'.2.2.1 < n → cOK aJ mk c') : ∀ c ∈ actb 49, c.2.2.1 ≤ n → cOK aJ 49 c := by
  intro c hc hd
  have hc : c ∈ [ac34] := hc
  simp only [List.mem_cons, List.not_mem_nil, or_false] at hc
  rcases hc with rfl
  · exact achk_ok aJ_ok ak34 (fun mk c' h1 h2 => IH mk c' h1 (Nat.lt_of_lt_of_le h2 hd))
theorem ok50 {n : Nat} (IH : ∀ (mk : Nat) (c' : aK), c' ∈ actb mk → c'.2.2.1 < n → cOK aJ mk c') : ∀ c ∈ actb 50, c.2.2.1 ≤ n → cOK aJ 50 c := by
  intro c hc hd
  have hc : c ∈ [ac32] := hc
  simp only [List.mem_cons, List.not_mem_nil, or_false] at hc
  rcases hc with rfl
  · exact achk_ok aJ_ok ak32 (fun mk c' h1 h2 => IH mk c' h1 (Nat.lt_of_lt_of_le h2 hd))
theorem ok51 {n : Nat} (IH : ∀ (mk : Nat) (c' : aK), c' ∈ actb mk → c'.2.2.1 < n → cOK aJ mk c') : ∀ c ∈ actb 51, c.2.2.1 ≤ n → cOK aJ 51 c := by
  intro c hc hd
  have hc : c ∈ [ac27] := hc
  simp only [List.mem_cons, List.not_mem_nil, or_false] at hc
  rcases hc with rfl
  · exact achk_ok aJ_ok ak27 (fun mk c' h1 h2 => IH mk c' h1 (Nat.lt_of_lt_of_le h2 hd))
theorem ok52 {n : Nat} (IH : ∀ (mk : Nat) (c' : aK), c' ∈ actb mk → c'.2.2.1 < n → cOK aJ mk c') : ∀ c ∈ actb 52, c.2.2.1 ≤ n → cOK aJ 52 c := by
  intro c hc hd
  have hc : c ∈ [ac22] := hc
  simp only [List.mem_cons, List.not_mem_nil, or_false] at hc
  rcases hc with rfl
  · exact achk_ok aJ_ok ak22 (fun mk c' h1 h2 => IH mk c' h1 (Nat.lt_of_lt_of_le h2 hd))
theorem ok53 {n : Nat} (IH : ∀ (mk : Nat) (c' : aK), c' ∈ actb mk → c'.2.2.1 < n → cOK aJ mk c') : ∀ c ∈ actb 53, c.2.2.1 ≤ n → cOK aJ 53 c := by
  intro c hc hd
  have hc : c ∈ [ac21, ac26] := hc
  simp only [List.mem_cons, List.not_mem_nil, or_false] at hc
  rcases hc with rfl | rfl
  · exact achk_ok aJ_ok ak21 (fun mk c' h1 h2 => IH mk c' h1 (Nat.lt_of_lt_of_le h2 hd))
  · exact achk_ok aJ_ok ak26 (fun mk c' h1 h2 => IH mk c' h1 (Nat.lt_of_lt_of_le h2 hd))
theorem ok54 {n : Nat} (IH : ∀ (mk : Nat) (c' : aK), c' ∈ actb mk → c'.2.2.1 < n → cOK aJ mk c') : ∀ c ∈ actb 54, c.2.2.1 ≤ n → cOK aJ 54 c := by
  intro c hc hd
  have hc : c ∈ [ac14] := hc
  simp only [List.mem_cons, List.not_mem_nil, or_false] at hc
  rcases hc with rfl
  · exact achk_ok aJ_ok ak14 (fun mk c' h1 h2 => IH mk c' h1 (Nat.lt_of_lt_of_le h2 hd))
theorem ok55 {n : Nat} (IH : ∀ (mk : Nat) (c' : aK), c' ∈ actb mk → c'.2.2.1 < n → cOK aJ mk c') : ∀ c ∈ actb 55, c.2.2.1 ≤ n → cOK aJ 55 c := by
  intro c hc hd
  have hc : c ∈ [ac18, ac29, ac31, ac33, ac39] := hc
  simp only [List.mem_cons, List.not_mem_nil, or_false] at hc
  rcases hc with rfl | rfl | rfl | rfl | rfl
  · exact achk_ok aJ_ok ak18 (fun mk c' h1 h2 => IH mk c' h1 (Nat.lt_of_lt_of_le h2 hd))
  · exact achk_ok aJ_ok ak29 (fun mk c' h1 h2 => IH mk c' h1 (Nat.lt_of_lt_of_le h2 hd))
  · exact achk_ok aJ_ok ak31 (fun mk c' h1 h2 => IH mk c' h1 (Nat.lt_of_lt_of_le h2 hd))
  · exact achk_ok aJ_ok ak33 (fun mk c' h1 h2 => IH mk c' h1 (Nat.lt_of_lt_of_le h2 hd))
  · exact achk_ok aJ_ok ak39 (fun mk c' h1 h2 => IH mk c' h1 (Nat.lt_of_lt_of_le h2 hd))
theorem ok57 {n : Nat} (IH : ∀ (mk : Nat) (c' : aK), c' ∈ actb mk → c'.2.2.1 < n → cOK aJ mk c') : ∀ c ∈ actb 57, c.2.2.1 ≤ n → cOK aJ 57 c := by
  intro c hc hd
  have hc : c ∈ [ac8, ac10, ac12, ac15, ac16, ac17, ac23, ac28, ac30, ac36, ac38] := hc
  simp only [List.mem_cons, List.not_mem_nil, or_false] at hc
  rcases hc with rfl | rfl | rfl | rfl | rfl | rfl | rfl | rfl | rfl | rfl | rfl
  · exact achk_ok aJ_ok ak8 (fun mk c' h1 h2 => IH mk c' h1 (Nat.lt_of_lt_of_le h2 hd))
  · exact achk_ok aJ_ok ak10 (fun mk c' h1 h2 => IH mk c' h1 (Nat.lt_of_lt_of_le h2 hd))
  · exact achk_ok aJ_ok ak12 (fun mk c' h1 h2 => IH mk c' h1 (Nat.lt_of_lt_of_le h2 hd))
  · exact achk_ok aJ_ok ak15 (fun mk c' h1 h2 => IH mk c' h1 (Nat.lt_of_lt_of_le h2 hd))
  · exact achk_ok aJ_ok ak16 (fun mk c' h1 h2 => IH mk c' h1 (Nat.lt_of_lt_of_le h2 hd))
  · exact achk_ok aJ_ok ak17 (fun mk c' h1 h2 => IH mk c' h1 (Nat.lt_of_lt_of_le h2 hd))
  · exact achk_ok aJ_ok ak23 (fun mk c' h1 h2 => IH mk c' h1 (Nat.lt_of_lt_of_le h2 hd))
  · exact achk_ok aJ_ok ak28 (fun mk c' h1 h2 => IH mk c' h1 (Nat.lt_of_lt_of_le h2 hd))
  · exact achk_ok aJ_ok ak30 (fun mk c' h1 h2 => IH mk c' h1 (Nat.lt_of_lt_of_le h2 hd))
  · exact achk_ok aJ_ok ak36 (fun mk c' h1 h2 => IH mk c' h1 (Nat.lt_of_lt_of_le h2 hd))
  · exact achk_ok aJ_ok ak38 (fun mk c' h1 h2 => IH mk c' h1 (Nat.lt_of_lt_of_le h2 hd))
theorem ok58 {n : Nat} (IH : ∀ (mk : Nat) (c' : aK), c' ∈ actb mk → c'.2.2.1 < n → cOK aJ mk c') : ∀ c ∈ actb 58, c.2.2.1 ≤ n → cOK aJ 58 c := by
  intro c hc hd
  have hc : c ∈ [ac9, ac11, ac13] := hc
  simp only [List.mem_cons, List.not_mem_nil, or_false] at hc
  rcases hc with rfl | rfl | rfl
  · exact achk_ok aJ_ok ak9 (fun mk c' h1 h2 => IH mk c' h1 (Nat.lt_of_lt_of_le h2 hd))
  · exact achk_ok aJ_ok ak11 (fun mk c' h1 h2 => IH mk c' h1 (Nat.lt_of_lt_of_le h2 hd))
  · exact achk_ok aJ_ok ak13 (fun mk c' h1 h2 => IH mk c' h1 (Nat.lt_of_lt_of_le h2 hd))
theorem ok59 {n : Nat} (IH : ∀ (mk : Nat) (c' : aK), c' ∈ actb mk → c'.2.2.1 < n → cOK aJ mk c') : ∀ c ∈ actb 59, c.2.2.1 ≤ n → cOK aJ 59 c := by
  intro c hc hd
  have hc : c ∈ [ac7] := hc
  simp only [List.mem_cons, List.not_mem_nil, or_false] at hc
  rcases hc with rfl
  · exact achk_ok aJ_ok ak7 (fun mk c' h1 h2 => IH mk c' h1 (Nat.lt_of_lt_of_le h2 hd))
theorem ok60 {n : Nat} (IH : ∀ (mk : Nat) (c' : aK), c' ∈ actb mk → c'.2.2.1 < n → cOK aJ mk c') : ∀ c ∈ actb 60, c.2.2.1 ≤ n → cOK aJ 60 c := by
  intro c hc hd
  have hc : c ∈ [ac6] := hc
  simp only [List.mem_cons, List.not_mem_nil, or_false] at hc
  rcases hc with rfl
  · exact achk_ok aJ_ok ak6 (fun mk c' h1 h2 => IH mk c' h1 (Nat.lt_of_lt_of_le h2 hd))
theorem ok64 {n : Nat} (IH : ∀ (mk : Nat) (c' : aK), c' ∈ actb mk → c'.2.2.1 < n → cOK aJ mk c') : ∀ c ∈ actb 64, c.2.2.1 ≤ n → cOK aJ 64 c := by
  intro c hc hd
  have hc : c ∈ [ac54, ac56, ac66] := hc
  simp only [List.mem_cons, List.not_mem_nil, or_false] at hc
  rcases hc with rfl | rfl | rfl
  · exact achk_ok aJ_ok ak54 (fun mk c' h1 h2 => IH mk c' h1 (Nat.lt_of_lt_of_le h2 hd))
  · exact achk_ok aJ_ok ak56 (fun mk c' h1 h2 => IH mk c' h1 (Nat.lt_of_lt_of_le h2 hd))
  · exact achk_ok aJ_ok ak66 (fun mk c' h1 h2 => IH mk c' h1 (Nat.lt_of_lt_of_le h2 hd))
theorem ok65 {n : Nat} (IH : ∀ (mk : Nat) (c' : aK), c' ∈ actb mk → c'.2.2.1 < n → cOK aJ mk c') : ∀ c ∈ actb 65, c.2.2.1 ≤ n → cOK aJ 65 c := by
  intro c hc hd
  have hc : c ∈ [ac72, ac84] := hc
  simp only [List.mem_cons, List.not_mem_nil, or_false] at hc
  rcases hc with rfl | rfl
  · exact achk_ok aJ_ok ak72 (fun mk c' h1 h2 => IH mk c' h1 (Nat.lt_of_lt_of_le h2 hd))
  · exact achk_ok aJ_ok ak84 (fun mk c' h1 h2 => IH mk c' h1 (Nat.lt_of_lt_of_le h2 hd))
theorem ok67 {n : Nat} (IH : ∀ (mk : Nat) (c' : aK), c' ∈ actb mk → c'.2.2.1 < n → cOK aJ mk c') : ∀ c ∈ actb 67, c.2.2.1 ≤ n → cOK aJ 67 c := by
  intro c hc hd
  have hc : c ∈ [ac20, ac25, ac74] := hc
  simp only [List.mem_cons, List.not_mem_nil, or_false] at hc
  rcases hc with rfl | rfl | rfl
  · exact achk_ok aJ_ok ak20 (fun mk c' h1 h2 => IH mk c' h1 (Nat.lt_of_lt_of_le h2 hd))
  · exact achk_ok aJ_ok ak25 (fun mk c' h1 h2 => IH mk c' h1 (Nat.lt_of_lt_of_le h2 hd))
  · exact achk_ok aJ_ok ak74 (fun mk c' h1 h2 => IH mk c' h1 (Nat.lt_of_lt_of_le h2 hd))
theorem ok68 {n : Nat} (IH : ∀ (mk : Nat) (c' : aK), c' ∈ actb mk → c'.2.2.1 < n → cOK aJ mk c') : ∀ c ∈ actb 68, c.2.2.1 ≤ n → cOK aJ 68 c := by
  intro c hc hd
  have hc : c ∈ [ac19, ac24, ac73] := hc
  simp only [List.mem_cons, List.not_mem_nil, or_false] at hc
  rcases hc with rfl | rfl | rfl
  · exact achk_ok aJ_ok ak19 (fun mk c' h1 h2 => IH mk c' h1 (Nat.lt_of_lt_of_le h2 hd))
  · exact achk_ok aJ_ok ak24 (fun mk c' h1 h2 => IH mk c' h1 (Nat.lt_of_lt_of_le h2 hd))
  · exact achk_ok aJ_ok ak73 (fun mk c' h1 h2 => IH mk c' h1 (Nat.lt_of_lt_of_le h2 hd))
theorem ok69 {n : Nat} (IH : ∀ (mk : Nat) (c' : aK), c' ∈ actb mk → c'.2.2.1 < n → cOK aJ mk c') : ∀ c ∈ actb 69, c.2.2.1 ≤ n → cOK aJ 69 c := by
  intro c hc hd
  have hc : c ∈ [ac107] := hc
  simp only [List.mem_cons, List.not_mem_nil, or_false] at hc
  rcases hc with rfl
  · exact achk_ok aJ_ok ak107 (fun mk c' h1 h2 => IH mk c' h1 (Nat.lt_of_lt_of_le h2 hd))
theorem ok70 {n : Nat} (IH : ∀ (mk : Nat) (c' : aK), c' ∈ actb mk → c'.2.2.1 < n → cOK aJ mk c') : ∀ c ∈ actb 70, c.2.2.1 ≤ n → cOK aJ 70 c := by
  intro c hc hd
  have hc : c ∈ [ac48, ac50, ac67] := hc
  simp only [List.mem_cons, List.not_mem_nil, or_false] at hc
  rcases hc with rfl | rfl | rfl
  · exact achk_ok aJ_ok ak48 (fun mk c' h1 h2 => IH mk c' h1 (Nat.lt_of_lt_of_le h2 hd))
  · exact achk_ok aJ_ok ak50 (fun mk c' h1 h2 => IH mk c' h1 (Nat.lt_of_lt_of_le h2 hd))
  · exact achk_ok aJ_ok ak67 (fun mk c' h1 h2 => IH mk c' h1 (Nat.lt_of_lt_of_le h2 hd))
theorem ok71 {n : Nat} (IH : ∀ (mk : Nat) (c' : aK), c' ∈ actb mk → c'.2.2.1 < n → cOK aJ mk c') : ∀ c ∈ actb 71, c.2.2.1 ≤ n → cOK aJ 71 c := by
  intro c hc hd
  have hc : c ∈ [ac41, ac42, ac63, ac64, ac105] := hc
  simp only [List.mem_cons, List.not_mem_nil, or_false] at hc
  rcases hc with rfl | rfl | rfl | rfl | rfl
  · exact achk_ok aJ_ok ak41 (fun mk c' h1 h2 => IH mk c' h1 (Nat.lt_of_lt_of_le h2 hd))
  · exact achk_ok aJ_ok ak42 (fun mk c' h1 h2 => IH mk c' h1 (Nat.lt_of_lt_of_le h2 hd))
  · exact achk_ok aJ_ok ak63 (fun mk c' h1 h2 => IH mk c' h1 (Nat.lt_of_lt_of_le h2 hd))
  · exact achk_ok aJ_ok ak64 (fun mk c' h1 h2 => IH mk c' h1 (Nat.lt_of_lt_of_le h2 hd))
  · exact achk_ok aJ_ok ak105 (fun mk c' h1 h2 => IH mk c' h1 (Nat.lt_of_lt_of_le h2 hd))
theorem ok72 {n : Nat} (IH : ∀ (mk : Nat) (c' : aK), c' ∈ actb mk → c'.2.2.1 < n → cOK aJ mk c') : ∀ c ∈ actb 72, c.2.2.1 ≤ n → cOK aJ 72 c := by
  intro c hc hd
  have hc : c ∈ [ac68] := hc
  simp only [List.mem_cons, List.not_mem_nil, or_false] at hc
  rcases hc with rfl
  · exact achk_ok aJ_ok ak68 (fun mk c' h1 h2 => IH mk c' h1 (Nat.lt_of_lt_of_le h2 hd))
theorem ok73 {n : Nat} (IH : ∀ (mk : Nat) (c' : aK), c' ∈ actb mk → c'.2.2.1 < n → cOK aJ mk c') : ∀ c ∈ actb 73, c.2.2.1 ≤ n → cOK aJ 73 c := by
  intro c hc hd
  have hc : c ∈ [ac55, ac57, ac90] := hc
  simp only [List.mem_cons, List.not_mem_nil, or_false] at hc
  rcases hc with rfl | rfl | rfl
  · exact achk_ok aJ_ok ak55 (fun mk c' h1 h2 => IH mk c' h1 (Nat.lt_of_lt_of_le h2 hd))
  · exact achk_ok aJ_ok ak57 (fun mk c' h1 h2 => IH mk c' h1 (Nat.lt_of_lt_of_le h2 hd))
  · exact achk_ok aJ_ok ak90 (fun mk c' h1 h2 => IH mk c' h1 (Nat.lt_of_lt_of_le h2 hd))
theorem ok74 {n : Nat} (IH : ∀ (mk : Nat) (c' : aK), c' ∈ actb mk → c'.2.2.1 < n → cOK aJ mk c') : ∀ c ∈ actb 74, c.2.2.1 ≤ n → cOK aJ 74 c := by
  intro c hc hd
  have hc : c ∈ [ac82] := hc
  simp only [List.mem_cons, List.not_mem_nil, or_false] at hc
  rcases hc with rfl
  · exact achk_ok aJ_ok ak82 (fun mk c' h1 h2 => IH mk c' h1 (Nat.lt_of_lt_of_le h2 hd))
theorem ok75 {n : Nat} (IH : ∀ (mk : Nat) (c' : aK), c' ∈ actb mk → c'.2.2.1 < n → cOK aJ mk c') : ∀ c ∈ actb 75, c.2.2.1 ≤ n → cOK aJ 75 c := by
  intro c hc hd
  have hc : c ∈ [ac80] := hc
  simp only [List.mem_cons, List.not_mem_nil, or_false] at hc
  rcases hc with rfl
  · exact achk_ok aJ_ok ak80 (fun mk c' h1 h2 => IH mk c' h1 (Nat.lt_of_lt_of_le h2 hd))
theorem ok77 {n : Nat} (IH : ∀ (mk : Nat) (c' : aK), c' ∈ actb mk → c'.2.2.1 < n → cOK aJ mk c') : ∀ c ∈ actb 77, c.2.2.1 ≤ n → cOK aJ 77 c := by
  intro c hc hd
  have hc : c ∈ [ac76] := hc
  simp only [List.mem_cons, List.not_mem_nil, or_false] at hc
  rcases hc with rfl
  · exact achk_ok aJ_ok ak76 (fun mk c' h1 h2 => IH mk c' h1 (Nat.lt_of_lt_of_le h2 hd))
theorem ok78 {n : Nat} (IH : ∀ (mk : Nat) (c' : aK), c' ∈ actb mk → c'.2.2.1 < n → cOK aJ mk c') : ∀ c ∈ actb 78, c.2.2.1 ≤ n → cOK aJ 78 c := by
  intro c hc hd
  have hc : c ∈ [ac71] := hc
  simp only [List.mem_cons, List.not_mem_nil, or_false] at hc
  rcases hc with rfl
  · exact achk_ok aJ_ok ak71 (fun mk c' h1 h2 => IH mk c' h1 (Nat.lt_of_lt_of_le h2 hd))
theorem ok80 {n : Nat} (IH : ∀ (mk : Nat) (c' : aK), c' ∈ actb mk → c'.2.2.1 < n → cOK aJ mk c') : ∀ c ∈ actb 80, c.2.2.1 ≤ n → cOK aJ 80 c := by
  intro c hc hd
  have hc : c ∈ [ac70] := hc
  simp only [List.mem_cons, List.not_mem_nil, or_false] at hc
  rcases hc with rfl
  · exact achk_ok aJ_ok ak70 (fun mk c' h1 h2 => IH mk c' h1 (Nat.lt_of_lt_of_le h2 hd))
theorem ok84 {n : Nat} (IH : ∀ (mk : Nat) (c' : aK), c' ∈ actb mk → c'.2.2.1 < n → cOK aJ mk c') : ∀ c ∈ actb 84, c.2.2.1 ≤ n → cOK aJ 84 c := by
  intro c hc hd
  have hc : c ∈ [ac93] := hc
  simp only [List.mem_cons, List.not_mem_nil, or_false] at hc
  rcases hc with rfl
  · exact achk_ok aJ_ok ak93 (fun mk c' h1 h2 => IH mk c' h1 (Nat.lt_of_lt_of_le h2 hd))
theorem ok85 {n : Nat} (IH : ∀ (mk : Nat) (c' : aK), c' ∈ actb mk → c'.2.2.1 < n → cOK aJ mk c') : ∀ c ∈ actb 85, c.2.2.1 ≤ n → cOK aJ 85 c := by
  intro c hc hd
  have hc : c ∈ [ac79] := hc
  simp only [List.mem_cons, List.not_mem_nil, or_false] at hc
  rcases hc with rfl
  · exact achk_ok aJ_ok ak79 (fun mk c' h1 h2 => IH mk c' h1 (Nat.lt_of_lt_of_le h2 hd))
theorem ok86 {n : Nat} (IH : ∀ (mk : Nat) (c' : aK), c' ∈ actb mk → c'.2.2.1 < n → cOK aJ mk c') : ∀ c ∈ actb 86, c.2.2.1 ≤ n → cOK aJ 86 c := by
  intro c hc hd
  have hc : c ∈ [ac78] := hc
  simp only [List.mem_cons, List.not_mem_nil, or_false] at hc
  rcases hc with rfl
  · exact achk_ok aJ_ok ak78 (fun mk c' h1 h2 => IH mk c' h1 (Nat.lt_of_lt_of_le h2 hd))
theorem ok87 {n : Nat} (IH : ∀ (mk : Nat) (c' : aK), c' ∈ actb mk → c'.2.2.1 < n → cOK aJ mk c') : ∀ c ∈ actb 87, c.2.2.1 ≤ n → cOK aJ 87 c := by
  intro c hc hd
  have hc : c ∈ [ac86] := hc
  simp only [List.mem_cons, List.not_mem_nil, or_false] at hc
  rcases hc with rfl
  · exact achk_ok aJ_ok ak86 (fun mk c' h1 h2 => IH mk c' h1 (Nat.lt_of_lt_of_le h2 hd))
theorem ok88 {n : Nat} (IH : ∀ (mk : Nat) (c' : aK), c' ∈ actb mk → c'.2.2.1 < n → cOK aJ mk c') : ∀ c ∈ actb 88, c.2.2.1 ≤ n → cOK aJ 88 c := by
  intro c hc hd
  have hc : c ∈ [ac81] := hc
  simp only [List.mem_cons, List.not_mem_nil, or_false] at hc
  rcases hc with rfl
  · exact achk_ok aJ_ok ak81 (fun mk c' h1 h2 => IH mk c' h1 (Nat.lt_of_lt_of_le h2 hd))
theorem ok89 {n : Nat} (IH : ∀ (mk : Nat) (c' : aK), c' ∈ actb mk → c'.2.2.1 < n → cOK aJ mk c') : ∀ c ∈ actb 89, c.2.2.1 ≤ n → cOK aJ 89 c := by
  intro c hc hd
  have hc : c ∈ [ac83] := hc
  simp only [List.mem_cons, List.not_mem_nil, or_false] at hc
  rcases hc with rfl
  · exact achk_ok aJ_ok ak83 (fun mk c' h1 h2 => IH mk c' h1 (Nat.lt_of_lt_of_le h2 hd))
theorem ok90 {n : Nat} (IH : ∀ (mk : Nat) (c' : aK), c' ∈ actb mk → c'.2.2.1 < n → cOK aJ mk c') : ∀ c ∈ actb 90, c.2.2.1 ≤ n → cOK aJ 90 c := by
  intro c hc hd
  have hc : c ∈ [ac85] := hc
  simp only [List.mem_cons, List.not_mem_nil, or_false] at hc
  rcases hc with rfl
  · exact achk_ok aJ_ok ak85 (fun mk c' h1 h2 => IH mk c' h1 (Nat.lt_of_lt_of_le h2 hd))
theorem ok91 {n : Nat} (IH : ∀ (mk : Nat) (c' : aK), c' ∈ actb mk → c'.2.2.1 < n → cOK aJ mk c') : ∀ c ∈ actb 91, c.2.2.1 ≤ n → cOK aJ 91 c := by
  intro c hc hd
  have hc : c ∈ [ac89] := hc
  simp only [List.mem_cons, List.not_mem_nil, or_false] at hc
  rcases hc with rfl
  · exact achk_ok aJ_ok ak89 (fun mk c' h1 h2 => IH mk c' h1 (Nat.lt_of_lt_of_le h2 hd))
theorem ok92 {n : Nat} (IH : ∀ (mk : Nat) (c' : aK), c' ∈ actb mk → c'.2.2.1 < n → cOK aJ mk c') : ∀ c ∈ actb 92, c.2.2.1 ≤ n → cOK aJ 92 c := by
  intro c hc hd
  have hc : c ∈ [ac88] := hc
  simp only [List.mem_cons, List.not_mem_nil, or_false] at hc
  rcases hc with rfl
  · exact achk_ok aJ_ok ak88 (fun mk c' h1 h2 => IH mk c' h1 (Nat.lt_of_lt_of_le h2 hd))
theorem ok94 {n : Nat} (IH : ∀ (mk : Nat) (c' : aK), c' ∈ actb mk → c'.2.2.1 < n → cOK aJ mk c') : ∀ c ∈ actb 94, c.2.2.1 ≤ n → cOK aJ 94 c := by
  intro c hc hd
  have hc : c ∈ [ac95] := hc
  simp only [List.mem_cons, List.not_mem_nil, or_false] at hc
  rcases hc with rfl
  · exact achk_ok aJ_ok ak95 (fun mk c' h1 h2 => IH mk c' h1 (Nat.lt_of_lt_of_le h2 hd))
theorem ok95 {n : Nat} (IH : ∀ (mk : Nat) (c' : aK), c' ∈ actb mk → c'.2.2.1 < n → cOK aJ mk c') : ∀ c ∈ actb 95, c.2.2.1 ≤ n → cOK aJ 95 c := by
  intro c hc hd
  have hc : c ∈ [ac94] := hc
  simp only [List.mem_cons, List.not_mem_nil, or_false] at hc
  rcases hc with rfl
  · exact achk_ok aJ_ok ak94 (fun mk c' h1 h2 => IH mk c' h1 (Nat.lt_of_lt_of_le h2 hd))
theorem ok96 {n : Nat} (IH : ∀ (mk : Nat) (c' : aK), c' ∈ actb mk → c'.2.2.1 < n → cOK aJ mk c') : ∀ c ∈ actb 96, c.2.2.1 ≤ n → cOK aJ 96 c := by
  intro c hc hd
  have hc : c ∈ [ac98] := hc
  simp only [List.mem_cons, List.not_mem_nil, or_false] at hc
  rcases hc with rfl
  · exact achk_ok aJ_ok ak98 (fun mk c' h1 h2 => IH mk c' h1 (Nat.lt_of_lt_of_le h2 hd))
theorem ok98 {n : Nat} (IH : ∀ (mk : Nat) (c' : aK), c' ∈ actb mk → c'.2.2.1 < n → cOK aJ mk c') : ∀ c ∈ actb 98, c.2.2.1 ≤ n → cOK aJ 98 c := by
  intro c hc hd
  have hc : c ∈ [ac112] := hc
  simp only [List.mem_cons, List.not_mem_nil, or_false] at hc
  rcases hc with rfl
  · exact achk_ok aJ_ok ak112 (fun mk c' h1 h2 => IH mk c' h1 (Nat.lt_of_lt_of_le h2 hd))
theorem ok99 {n : Nat} (IH : ∀ (mk : Nat) (c' : aK), c' ∈ actb mk → c'.2.2.1 < n → cOK aJ mk c') : ∀ c ∈ actb 99, c.2.2.1 ≤ n → cOK aJ 99 c := by
  intro c hc hd
  have hc : c ∈ [ac111] := hc
  simp only [List.mem_cons, List.not_mem_nil, or_false] at hc
  rcases hc with rfl
  · exact achk_ok aJ_ok ak111 (fun mk c' h1 h2 => IH mk c' h1 (Nat.lt_of_lt_of_le h2 hd))
theorem ok100 {n : Nat} (IH : ∀ (mk : Nat) (c' : aK), c' ∈ actb mk → c'.2.2.1 < n → cOK aJ mk c') : ∀ c ∈ actb 100, c.2.2.1 ≤ n → cOK aJ 100 c := by
  intro c hc hd
  have hc : c ∈ [ac110] := hc
  simp only [List.mem_cons, List.not_mem_nil, or_false] at hc
  rcases hc with rfl
  · exact achk_ok aJ_ok ak110 (fun mk c' h1 h2 => IH mk c' h1 (Nat.lt_of_lt_of_le h2 hd))
theorem ok101 {n : Nat} (IH : ∀ (mk : Nat) (c' : aK), c' ∈ actb mk → c'.2.2.1 < n → cOK aJ mk c') : ∀ c ∈ actb 101, c.2.2.1 ≤ n → cOK aJ 101 c := by
  intro c hc hd
  have hc : c ∈ [ac109] := hc
  simp only [List.mem_cons, List.not_mem_nil, or_false] at hc
  rcases hc with rfl
  · exact achk_ok aJ_ok ak109 (fun mk c' h1 h2 => IH mk c' h1 (Nat.lt_of_lt_of_le h2 hd))
theorem ok102 {n : Nat} (IH : ∀ (mk : Nat) (c' : aK), c' ∈ actb mk → c'.2.2.1 < n → cOK aJ mk c') : ∀ c ∈ actb 102, c.2.2.1 ≤ n → cOK aJ 102 c := by
  intro c hc hd
  have hc : c ∈ [ac108] := hc
  simp only [List.mem_cons, List.not_mem_nil, or_false] at hc
  rcases hc with rfl
  · exact achk_ok aJ_ok ak108 (fun mk c' h1 h2 => IH mk c' h1 (Nat.lt_of_lt_of_le h2 hd))
theorem ok103 {n : Nat} (IH : ∀ (mk : Nat) (c' : aK), c' ∈ actb mk → c'.2.2.1 < n → cOK aJ mk c') : ∀ c ∈ actb 103, c.2.2.1 ≤ n → cOK aJ 103 c := by
  intro c hc hd
  have hc : c ∈ [ac106] := hc
  simp only [List.mem_cons, List.not_mem_nil, or_false] at hc
  rcases hc with rfl
  · exact achk_ok aJ_ok ak106 (fun mk c' h1 h2 => IH mk c' h1 (Nat.lt_of_lt_of_le h2 hd))
theorem ok106 {n : Nat} (IH : ∀ (mk : Nat) (c' : aK), c' ∈ actb mk → c'.2.2.1 < n → cOK aJ mk c') : ∀ c ∈ actb 106, c.2.2.1 ≤ n → cOK aJ 106 c := by
  intro c hc hd
  have hc : c ∈ [ac43] := hc
  simp only [List.mem_cons, List.not_mem_nil, or_false] at hc
  rcases hc with rfl
  · exact achk_ok aJ_ok ak43 (fun mk c' h1 h2 => IH mk c' h1 (Nat.lt_of_lt_of_le h2 hd))
theorem ok109 {n : Nat} (IH : ∀ (mk : Nat) (c' : aK), c' ∈ actb mk → c'.2.2.1 < n → cOK aJ mk c') : ∀ c ∈ actb 109, c.2.2.1 ≤ n → cOK aJ 109 c := by
  intro c hc hd
  have hc : c ∈ [ac44] := hc
  simp only [List.mem_cons, List.not_mem_nil, or_false] at hc
  rcases hc with rfl
  · exact achk_ok aJ_ok ak44 (fun mk c' h1 h2 => IH mk c' h1 (Nat.lt_of_lt_of_le h2 hd))
theorem ok112 {n : Nat} (IH : ∀ (mk : Nat) (c' : aK), c' ∈ actb mk → c'.2.2.1 < n → cOK aJ mk c') : ∀ c ∈ actb 112, c.2.2.1 ≤ n → cOK aJ 112 c := by
  intro c hc hd
  have hc : c ∈ [ac58] := hc
  simp only [List.mem_cons, List.not_mem_nil, or_false] at hc
  rcases hc with rfl
  · exact achk_ok aJ_ok ak58 (fun mk c' h1 h2 => IH mk c' h1 (Nat.lt_of_lt_of_le h2 hd))
theorem ok116 {n : Nat} (IH : ∀ (mk : Nat) (c' : aK), c' ∈ actb mk → c'.2.2.1 < n → cOK aJ mk c') : ∀ c ∈ actb 116, c.2.2.1 ≤ n → cOK aJ 116 c := by
  intro c hc hd
  have hc : c ∈ [ac161] := hc
  simp only [List.mem_cons, List.not_mem_nil, or_false] at hc
  rcases hc with rfl
  · exact achk_ok aJ_ok ak161 (fun mk c' h1 h2 => IH mk c' h1 (Nat.lt_of_lt_of_le h2 hd))
theorem ok118 {n : Nat} (IH : ∀ (mk : Nat) (c' : aK), c' ∈ actb mk → c'.2.2.1 < n → cOK aJ mk c') : ∀ c ∈ actb 118, c.2.2.1 ≤ n → cOK aJ 118 c := by
  intro c hc hd
  have hc : c ∈ [ac136] := hc
  simp only [List.mem_cons, List.not_mem_nil, or_false] at hc
  rcases hc with rfl
  · exact achk_ok aJ_ok ak136 (fun mk c' h1 h2 => IH mk c' h1 (Nat.lt_of_lt_of_le h2 hd))
theorem ok119 {n : Nat} (IH : ∀ (mk : Nat) (c' : aK), c' ∈ actb mk → c'.2.2.1 < n → cOK aJ mk c') : ∀ c ∈ actb 119, c.2.2.1 ≤ n → cOK aJ 119 c := by
  intro c hc hd
  have hc : c ∈ [ac160] := hc
  simp only [List.mem_cons, List.not_mem_nil, or_false] at hc
  rcases hc with rfl
  · exact achk_ok aJ_ok ak160 (fun mk c' h1 h2 => IH mk c' h1 (Nat.lt_of_lt_of_le h2 hd))
theorem ok120 {n : Nat} (IH : ∀ (mk : Nat) (c' : aK), c' ∈ actb mk → c'.2.2.1 < n → cOK aJ mk c') : ∀ c ∈ actb 120, c.2.2.1 ≤ n → cOK aJ 120 c := by
  intro c hc hd
  have hc : c ∈ [ac159] := hc
  simp only [List.mem_cons, List.not_mem_nil, or_false] at hc
  rcases hc with rfl
  · exact achk_ok aJ_ok ak159 (fun mk c' h1 h2 => IH mk c' h1 (Nat.lt_of_lt_of_le h2 hd))
theorem ok121 {n : Nat} (IH : ∀ (mk : Nat) (c' : aK), c' ∈ actb mk → c'.2.2.1 < n → cOK aJ mk c') : ∀ c ∈ actb 121, c.2.2.1 ≤ n → cOK aJ 121 c := by
  intro c hc hd
  have hc : c ∈ [ac140] := hc
  simp only [List.mem_cons, List.not_mem_nil, or_false] at hc
  rcases hc with rfl
  · exact achk_ok aJ_ok ak140 (fun mk c' h1 h2 => IH mk c' h1 (Nat.lt_of_lt_of_le h2 hd))
theorem ok122 {n : Nat} (IH : ∀ (mk : Nat) (c' : aK), c' ∈ actb mk → c'.2.2.1 < n → cOK aJ mk c') : ∀ c ∈ actb 122, c.2.2.1 ≤ n → cOK aJ 122 c := by
  intro c hc hd
  have hc : c ∈ [ac139] := hc
  simp only [List.mem_cons, List.not_mem_nil, or_false] at hc
  rcases hc with rfl
  · exact achk_ok aJ_ok ak139 (fun mk c' h1 h2 => IH mk c' h1 (Nat.lt_of_lt_of_le h2 hd))
theorem ok123 {n : Nat} (IH : ∀ (mk : Nat) (c' : aK), c' ∈ actb mk → c'.2.2.1 < n → cOK aJ mk c') : ∀ c ∈ actb 123, c.2.2.1 ≤ n → cOK aJ 123 c := by
  intro c hc hd
  have hc : c ∈ [ac141] := hc
  simp only [List.mem_cons, List.not_mem_nil, or_false] at hc
  rcases hc with rfl
  · exact achk_ok aJ_ok ak141 (fun mk c' h1 h2 => IH mk c' h1 (Nat.lt_of_lt_of_le h2 hd))
theorem ok124 {n : Nat} (IH : ∀ (mk : Nat) (c' : aK), c' ∈ actb mk → c'.2.2.1 < n → cOK aJ mk c') : ∀ c ∈ actb 124, c.2.2.1 ≤ n → cOK aJ 124 c := by
  intro c hc hd
  have hc : c ∈ [ac156] := hc
  simp only [List.mem_cons, List.not_mem_nil, or_false] at hc
  rcases hc with rfl
  · exact achk_ok aJ_ok ak156 (fun mk c' h1 h2 => IH mk c' h1 (Nat.lt_of_lt_of_le h2 hd))
theorem ok125 {n : Nat} (IH : ∀ (mk : Nat) (c' : aK), c' ∈ actb mk → c'.2.2.1 < n → cOK aJ mk c') : ∀ c ∈ actb 125, c.2.2.1 ≤ n → cOK aJ 125 c := by
  intro c hc hd
  have hc : c ∈ [ac158] := hc
  simp only [List.mem_cons, List.not_mem_nil, or_false] at hc
  rcases hc with rfl
  · exact achk_ok aJ_ok ak158 (fun mk c' h1 h2 => IH mk c' h1 (Nat.lt_of_lt_of_le h2 hd))
theorem ok126 {n : Nat} (IH : ∀ (mk : Nat) (c' : aK), c' ∈ actb mk → c'.2.2.1 < n → cOK aJ mk c') : ∀ c ∈ actb 126, c.2.2.1 ≤ n → cOK aJ 126 c := by
  intro c hc hd
  have hc : c ∈ [ac157] := hc
  simp only [List.mem_cons, List.not_mem_nil, or_false] at hc
  rcases hc with rfl
  · exact achk_ok aJ_ok ak157 (fun mk c' h1 h2 => IH mk c' h1 (Nat.lt_of_lt_of_le h2 hd))
theorem ok127 {n : Nat} (IH : ∀ (mk : Nat) (c' : aK), c' ∈ actb mk → c'.2.2.1 < n → cOK aJ mk c') : ∀ c ∈ actb 127, c.2.2.1 ≤ n → cOK aJ 127 c := by
  intro c hc hd
  have hc : c ∈ [ac148] := hc
  simp only [List.mem_cons, List.not_mem_nil, or_false] at hc
  rcases hc with rfl
  · exact achk_ok aJ_ok ak148 (fun mk c' h1 h2 => IH mk c' h1 (Nat.lt_of_lt_of_le h2 hd))
theorem ok128 {n : Nat} (IH : ∀ (mk : Nat) (c' : aK), c' ∈ actb mk → c'.2.2.1 < n → cOK aJ mk c') : ∀ c ∈ actb 128, c.2.2.1 ≤ n → cOK aJ 128 c := by
  intro c hc hd
  have hc : c ∈ [ac147] := hc
  simp only [List.mem_cons, List.not_mem_nil, or_false] at hc
  rcases hc with rfl
  · exact achk_ok aJ_ok ak147 (fun mk c' h1 h2 => IH mk c' h1 (Nat.lt_of_lt_of_le h2 hd))
theorem ok129 {n : Nat} (IH : ∀ (mk : Nat) (c' : aK), c' ∈ actb mk → c'.2.2.1 < n → cOK aJ mk c') : ∀ c ∈ actb 129, c.2.2.1 ≤ n → cOK aJ 129 c := by
  intro c hc hd
  have hc : c ∈ [ac146] := hc
  simp only [List.mem_cons, List.not_mem_nil, or_false] at hc
  rcases hc with rfl
  · exact achk_ok aJ_ok ak146 (fun mk c' h1 h2 => IH mk c' h1 (Nat.lt_of_lt_of_le h2 hd))
theorem ok130 {n : Nat} (IH : ∀ (mk : Nat) (c' : aK), c' ∈ actb mk → c'.2.2.1 < n → cOK aJ mk c') : ∀ c ∈ actb 130, c.2.2.1 ≤ n → cOK aJ 130 c := by
  intro c hc hd
  have hc : c ∈ [ac155] := hc
  simp only [List.mem_cons, List.not_mem_nil, or_false] at hc
  rcases hc with rfl
  · exact achk_ok aJ_ok ak155 (fun mk c' h1 h2 => IH mk c' h1 (Nat.lt_of_lt_of_le h2 hd))
theorem ok132 {n : Nat} (IH : ∀ (mk : Nat) (c' : aK), c' ∈ actb mk → c'.2.2.1 < n → cOK aJ mk c') : ∀ c ∈ actb 132, c.2.2.1 ≤ n → cOK aJ 132 c := by
  intro c hc hd
  have hc : c ∈ [ac5, ac287, ac291, ac295, ac299, ac303, ac307, ac311, ac315, ac319, ac323, ac327] := hc
  simp only [List.mem_cons, List.not_mem_nil, or_false] at hc
  rcases hc with rfl | rfl | rfl | rfl | rfl | rfl | rfl | rfl | rfl | rfl | rfl | rfl
  · exact achk_ok aJ_ok ak5 (fun mk c' h1 h2 => IH mk c' h1 (Nat.lt_of_lt_of_le h2 hd))
  · exact achk_ok aJ_ok ak287 (fun mk c' h1 h2 => IH mk c' h1 (Nat.lt_of_lt_of_le h2 hd))
  · exact achk_ok aJ_ok ak291 (fun mk c' h1 h2 => IH mk c' h1 (Nat.lt_of_lt_of_le h2 hd))
  · exact achk_ok aJ_ok ak295 (fun mk c' h1 h2 => IH mk c' h1 (Nat.lt_of_lt_of_le h2 hd))
  · exact achk_ok aJ_ok ak299 (fun mk c' h1 h2 => IH mk c' h1 (Nat.lt_of_lt_of_le h2 hd))
  · exact achk_ok aJ_ok ak303 (fun mk c' h1 h2 => IH mk c' h1 (Nat.lt_of_lt_of_le h2 hd))
  · exact achk_ok aJ_ok ak307 (fun mk c' h1 h2 => IH mk c' h1 (Nat.lt_of_lt_of_le h2 hd))
  · exact achk_ok aJ_ok ak311 (fun mk c' h1 h2 => IH mk c' h1 (Nat.lt_of_lt_of_le h2 hd))
  · exact achk_ok aJ_ok ak315 (fun mk c' h1 h2 => IH mk c' h1 (Nat.lt_of_lt_of_le h2 hd))
  · exact achk_ok aJ_ok ak319 (fun mk c' h1 h2 => IH mk c' h1 (Nat.lt_of_lt_of_le h2 hd))
  · exact achk_ok aJ_ok ak323 (fun mk c' h1 h2 => IH mk c' h1 (Nat.lt_of_lt_of_le h2 hd))
  · exact achk_ok aJ_ok ak327 (fun mk c' h1 h2 => IH mk c' h1 (Nat.lt_of_lt_of_le h2 hd))
theorem ok133 {n : Nat} (IH : ∀ (mk : Nat) (c' : aK), c' ∈ actb mk → c'.2.2.1 < n → cOK aJ mk c') : ∀ c ∈ actb 133, c.2.2.1 ≤ n → cOK aJ 133 c := by
  intro c hc hd
  have hc : c ∈ [ac45, ac288, ac289, ac290, ac292, ac293, ac294, ac296, ac297, ac298, ac300, ac301, ac302, ac304, ac305, ac306, ac308, ac309, ac310, ac312, ac313, ac314, ac316, ac317, ac318, ac320, ac321, ac322, ac324, ac325, ac326, ac328, ac329, ac330] := hc
  simp only [List.mem_cons, List.not_mem_nil, or_false] at hc
  rcases hc with rfl | rfl | rfl | rfl | rfl | rfl | rfl | rfl | rfl | rfl | rfl | rfl | rfl | rfl | rfl | rfl | rfl | rfl | rfl | rfl | rfl | rfl | rfl | rfl | rfl | rfl | rfl | rfl | rfl | rfl | rfl | rfl | rfl | rfl
  · exact achk_ok aJ_ok ak45 (fun mk c' h1 h2 => IH mk c' h1 (Nat.lt_of_lt_of_le h2 hd))
  · exact achk_ok aJ_ok ak288 (fun mk c' h1 h2 => IH mk c' h1 (Nat.lt_of_lt_of_le h2 hd))
  · exact achk_ok aJ_ok ak289 (fun mk c' h1 h2 => IH mk c' h1 (Nat.lt_of_lt_of_le h2 hd))
  · exact achk_ok aJ_ok ak290 (fun mk c' h1 h2 => IH mk c' h1 (Nat.lt_of_lt_of_le h2 hd))
  · exact achk_ok aJ_ok ak292 (fun mk c' h1 h2 => IH mk c' h1 (Nat.lt_of_lt_of_le h2 hd))
  · exact achk_ok aJ_ok ak293 (fun mk c' h1 h2 => IH mk c' h1 (Nat.lt_of_lt_of_le h2 hd))
  · exact achk_ok aJ_ok ak294 (fun mk c' h1 h2 => IH mk c' h1 (Nat.lt_of_lt_of_le h2 hd))
  · exact achk_ok aJ_ok ak296 (fun mk c' h1 h2 => IH mk c' h1 (Nat.lt_of_lt_of_le h2 hd))
  · exact achk_ok aJ_ok ak297 (fun mk c' h1 h2 => IH mk c' h1 (Nat.lt_of_lt_of_le h2 hd))
  · exact achk_ok aJ_ok ak298 (fun mk c' h1 h2 => IH mk c' h1 (Nat.lt_of_lt_of_le h2 hd))
  · exact achk_ok aJ_ok ak300 (fun mk c' h1 h2 => IH mk c' h1 (Nat.lt_of_lt_of_le h2 hd))
  · exact achk_ok aJ_ok ak301 (fun mk c' h1 h2 => IH mk c' h1 (Nat.lt_of_lt_of_le h2 hd))
  · exact achk_ok aJ_ok ak302 (fun mk c' h1 h2 => IH mk c' h1 (Nat.lt_of_lt_of_le h2 hd))
  · exact achk_ok aJ_ok ak304 (fun mk c' h1 h2 => IH mk c' h1 (Nat.lt_of_lt_of_le h2 hd))
  · exact achk_ok aJ_ok ak305 (fun mk c' h1 h2 => IH mk c' h1 (Nat.lt_of_lt_of_le h2 hd))
  · exact achk_ok aJ_ok ak306 (fun mk c' h1 h2 => IH mk c' h1 (Nat.lt_of_lt_of_le h2 hd))
  · exact achk_ok aJ_ok ak308 (fun mk c' h1 h2 => IH mk c' h1 (Nat.lt_of_lt_of_le h2 hd))
  · exact achk_ok aJ_ok ak309 (fun mk c' h1 h2 => IH mk c' h1 (Nat.lt_of_lt_of_le h2 hd))
  · exact achk_ok aJ_ok ak310 (fun mk c' h1 h2 => IH mk c' h1 (Nat.lt_of_lt_of_le h2 hd))
  · exact achk_ok aJ_ok ak312 (fun mk c' h1 h2 => IH mk c' h1 (Nat.lt_of_lt_of_le h2 hd))
  · exact achk_ok aJ_ok ak313 (fun mk c' h1 h2 => IH mk c' h1 (Nat.lt_of_lt_of_le h2 hd))
  · exact achk_ok aJ_ok ak314 (fun mk c' h1 h2 => IH mk c' h1 (Nat.lt_of_lt_of_le h2 hd))
  · exact achk_ok aJ_ok ak316 (fun mk c' h1 h2 => IH mk c' h1 (Nat.lt_of_lt_of_le h2 hd))
  · exact achk_ok aJ_ok ak317 (fun mk c' h1 h2 => IH mk c' h1 (Nat.lt_of_lt_of_le h2 hd))
  · exact achk_ok aJ_ok ak318 (fun mk c' h1 h2 => IH mk c' h1 (Nat.lt_of_lt_of_le h2 hd))
  · exact achk_ok aJ_ok ak320 (fun mk c' h1 h2 => IH mk c' h1 (Nat.lt_of_lt_of_le h2 hd))
  · exact achk_ok aJ_ok ak321 (fun mk c' h1 h2 => IH mk c' h1 (Nat.lt_of_lt_of_le h2 hd))
  · exact achk_ok aJ_ok ak322 (fun mk c' h1 h2 => IH mk c' h1 (Nat.lt_of_lt_of_le h2 hd))
  · exact achk_ok aJ_ok ak324 (fun mk c' h1 h2 => IH mk c' h1 (Nat.lt_of_lt_of_le h2 hd))
  · exact achk_ok aJ_ok ak325 (fun mk c' h1 h2 => IH mk c' h1 (Nat.lt_of_lt_of_le h2 hd))
  · exact achk_ok aJ_ok ak326 (fun mk c' h1 h2 => IH mk c' h1 (Nat.lt_of_lt_of_le h2 hd))
  · exact achk_ok aJ_ok ak328 (fun mk c' h1 h2 => IH mk c' h1 (Nat.lt_of_lt_of_le h2 hd))
  · exact achk_ok aJ_ok ak329 (fun mk c' h1 h2 => IH mk c' h1 (Nat.lt_of_lt_of_le h2 hd))
  · exact achk_ok aJ_ok ak330 (fun mk c' h1 h2 => IH mk c' h1 (Nat.lt_of_lt_of_le h2 hd))
theorem ok134 {n : Nat} (IH : ∀ (mk : Nat) (c' : aK), c' ∈ actb mk → c'.2.2.1 < n → cOK aJ mk c') : ∀ c ∈ actb 134, c.2.2.1 ≤ n → cOK aJ 134 c := by
  intro c hc hd
  have hc : c ∈ [ac46] := hc
  simp only [List.mem_cons, List.not_mem_nil, or_false] at hc
  rcases hc with rfl
  · exact achk_ok aJ_ok ak46 (fun mk c' h1 h2 => IH mk c' h1 (Nat.lt_of_lt_of_le h2 hd))
theorem ok135 {n : Nat} (IH : ∀ (mk : Nat) (c' : aK), c' ∈ actb mk → c'.2.2.1 < n → cOK aJ mk c') : ∀ c ∈ actb 135, c.2.2.1 ≤ n → cOK aJ 135 c := by
  intro c hc hd
  have hc : c ∈ [ac47] := hc
  simp only [List.mem_cons, List.not_mem_nil, or_false] at hc
  rcases hc with rfl
  · exact achk_ok aJ_ok ak47 (fun mk c' h1 h2 => IH mk c' h1 (Nat.lt_of_lt_of_le h2 hd))
theorem ok136 {n : Nat} (IH : ∀ (mk : Nat) (c' : aK), c' ∈ actb mk → c'.2.2.1 < n → cOK aJ mk c') : ∀ c ∈ actb 136, c.2.2.1 ≤ n → cOK aJ 136 c := by
  intro c hc hd
  have hc : c ∈ [ac49] := hc
  simp only [List.mem_cons, List.not_mem_nil, or_false] at hc
  rcases hc with rfl
  · exact achk_ok aJ_ok ak49 (fun mk c' h1 h2 => IH mk c' h1 (Nat.lt_of_lt_of_le h2 hd))
theorem ok137 {n : Nat} (IH : ∀ (mk : Nat) (c' : aK), c' ∈ actb mk → c'.2.2.1 < n → cOK aJ mk c') : ∀ c ∈ actb 137, c.2.2.1 ≤ n → cOK aJ 137 c := by
  intro c hc hd
  have hc : c ∈ [ac51] := hc
  simp only [List.mem_cons, List.not_mem_nil, or_false] at hc
  rcases hc with rfl
  · exact achk_ok aJ_ok ak51 (fun mk c' h1 h2 => IH mk c' h1 (Nat.lt_of_lt_of_le h2 hd))
theorem ok138 {n : Nat} (IH : ∀ (mk : Nat) (c' : aK), c' ∈ actb mk → c'.2.2.1 < n → cOK aJ mk c') : ∀ c ∈ actb 138, c.2.2.1 ≤ n → cOK aJ 138 c := by
  intro c hc hd
  have hc : c ∈ [ac53] := hc
  simp only [List.mem_cons, List.not_mem_nil, or_false] at hc
  rcases hc with rfl
  · exact achk_ok aJ_ok ak53 (fun mk c' h1 h2 => IH mk c' h1 (Nat.lt_of_lt_of_le h2 hd))
theorem ok139 {n : Nat} (IH : ∀ (mk : Nat) (c' : aK), c' ∈ actb mk → c'.2.2.1 < n → cOK aJ mk c') : ∀ c ∈ actb 139, c.2.2.1 ≤ n → cOK aJ 139 c := by
  intro c hc hd
  have hc : c ∈ [ac59] := hc
  simp only [List.mem_cons, List.not_mem_nil, or_false] at hc
  rcases hc with rfl
  · exact achk_ok aJ_ok ak59 (fun mk c' h1 h2 => IH mk c' h1 (Nat.lt_of_lt_of_le h2 hd))
theorem ok140 {n : Nat} (IH : ∀ (mk : Nat) (c' : aK), c' ∈ actb mk → c'.2.2.1 < n → cOK aJ mk c') : ∀ c ∈ actb 140, c.2.2.1 ≤ n → cOK aJ 140 c := by
  intro c hc hd
  have hc : c ∈ [ac60] := hc
  simp only [List.mem_cons, List.not_mem_nil, or_false] at hc
  rcases hc with rfl
  · exact achk_ok aJ_ok ak60 (fun mk c' h1 h2 => IH mk c' h1 (Nat.lt_of_lt_of_le h2 hd))
theorem ok141 {n : Nat} (IH : ∀ (mk : Nat) (c' : aK), c' ∈ actb mk → c'.2.2.1 < n → cOK aJ mk c') : ∀ c ∈ actb 141, c.2.2.1 ≤ n → cOK aJ 141 c := by
  intro c hc hd
  have hc : c ∈ [ac61] := hc
  simp only [List.mem_cons, List.not_mem_nil, or_false] at hc
  rcases hc with rfl
  · exact achk_ok aJ_ok ak61 (fun mk c' h1 h2 => IH mk c' h1 (Nat.lt_of_lt_of_le h2 hd))
theorem ok142 {n : Nat} (IH : ∀ (mk : Nat) (c' : aK), c' ∈ actb mk → c'.2.2.1 < n → cOK aJ mk c') : ∀ c ∈ actb 142, c.2.2.1 ≤ n → cOK aJ 142 c := by
  intro c hc hd
  have hc : c ∈ [ac117] := hc
  simp only [List.mem_cons, List.not_mem_nil, or_false] at hc
  rcases hc with rfl
  · exact achk_ok aJ_ok ak117 (fun mk c' h1 h2 => IH mk c' h1 (Nat.lt_of_lt_of_le h2 hd))
theorem ok143 {n : Nat} (IH : ∀ (mk : Nat) (c' : aK), c' ∈ actb mk → c'.2.2.1 < n → cOK aJ mk c') : ∀ c ∈ actb 143, c.2.2.1 ≤ n → cOK aJ 143 c := by
  intro c hc hd
  have hc : c ∈ [ac118] := hc
  simp only [List.mem_cons, List.not_mem_nil, or_false] at hc
  rcases hc with rfl
  · exact achk_ok aJ_ok ak118 (fun mk c' h1 h2 => IH mk c' h1 (Nat.lt_of_lt_of_le h2 hd))
theorem ok144 {n : Nat} (IH : ∀ (mk : Nat) (c' : aK), c' ∈ actb mk → c'.2.2.1 < n → cOK aJ mk c') : ∀ c ∈ actb 144, c.2.2.1 ≤ n → cOK aJ 144 c := by
  intro c hc hd
  have hc : c ∈ [ac119] := hc
  simp only [List.mem_cons, List.not_mem_nil, or_false] at hc
  rcases hc with rfl
  · exact achk_ok aJ_ok ak119 (fun mk c' h1 h2 => IH mk c' h1 (Nat.lt_of_lt_of_le h2 hd))
theorem ok145 {n : Nat} (IH : ∀ (mk : Nat) (c' : aK), c' ∈ actb mk → c'.2.2.1 < n → cOK aJ mk c') : ∀ c ∈ actb 145, c.2.2.1 ≤ n → cOK aJ 145 c := by
  intro c hc hd
  have hc : c ∈ [ac132] := hc
  simp only [List.mem_cons, List.not_mem_nil, or_false] at hc
  rcases hc with rfl
  · exact achk_ok aJ_ok ak132 (fun mk c' h1 h2 => IH mk c' h1 (Nat.lt_of_lt_of_le h2 hd))
theorem ok146 {n : Nat} (IH : ∀ (mk : Nat) (c' : aK), c' ∈ actb mk → c'.2.2.1 < n → cOK aJ mk c') : ∀ c ∈ actb 146, c.2.2.1 ≤ n → cOK aJ 146 c := by
  intro c hc hd
  have hc : c ∈ [ac134] := hc
  simp only [List.mem_cons, List.not_mem_nil, or_false] at hc
  rcases hc with rfl
  · exact achk_ok aJ_ok ak134 (fun mk c' h1 h2 => IH mk c' h1 (Nat.lt_of_lt_of_le h2 hd))
theorem ok147 {n : Nat} (IH : ∀ (mk : Nat) (c' : aK), c' ∈ actb mk → c'.2.2.1 < n → cOK aJ mk c') : ∀ c ∈ actb 147, c.2.2.1 ≤ n → cOK aJ 147 c := by
  intro c hc hd
  have hc : c ∈ [ac162] := hc
  simp only [List.mem_cons, List.not_mem_nil, or_false] at hc
  rcases hc with rfl
  · exact achk_ok aJ_ok ak162 (fun mk c' h1 h2 => IH mk c' h1 (Nat.lt_of_lt_of_le h2 hd))
theorem ok148 {n : Nat} (IH : ∀ (mk : Nat) (c' : aK), c' ∈ actb mk → c'.2.2.1 < n → cOK aJ mk c') : ∀ c ∈ actb 148, c.2.2.1 ≤ n → cOK aJ 148 c := by
  intro c hc hd
  have hc : c ∈ [ac163] := hc
  simp only [List.mem_cons, List.not_mem_nil, or_false] at hc
  rcases hc with rfl
  · exact achk_ok aJ_ok ak163 (fun mk c' h1 h2 => IH mk c' h1 (Nat.lt_of_lt_of_le h2 hd))
theorem ok149 {n : Nat} (IH : ∀ (mk : Nat) (c' : aK), c' ∈ actb mk → c'.2.2.1 < n → cOK aJ mk c') : ∀ c ∈ actb 149, c.2.2.1 ≤ n → cOK aJ 149 c := by
  intro c hc hd
  have hc : c ∈ [ac164] := hc
  simp only [List.mem_cons, List.not_mem_nil, or_false] at hc
  rcases hc with rfl
  · exact achk_ok aJ_ok ak164 (fun mk c' h1 h2 => IH mk c' h1 (Nat.lt_of_lt_of_le h2 hd))
theorem ok150 {n : Nat} (IH : ∀ (mk : Nat) (c' : aK), c' ∈ actb mk → c'.2.2.1 < n → cOK aJ mk c') : ∀ c ∈ actb 150, c.2.2.1 ≤ n → cOK aJ 150 c := by
  intro c hc hd
  have hc : c ∈ [ac166] := hc
  simp only [List.mem_cons, List.not_mem_nil, or_false] at hc
  rcases hc with rfl
  · exact achk_ok aJ_ok ak166 (fun mk c' h1 h2 => IH mk c' h1 (Nat.lt_of_lt_of_le h2 hd))
theorem ok151 {n : Nat} (IH : ∀ (mk : Nat) (c' : aK), c' ∈ actb mk → c'.2.2.1 < n → cOK aJ mk c') : ∀ c ∈ actb 151, c.2.2.1 ≤ n → cOK aJ 151 c := by
  intro c hc hd
  have hc : c ∈ [ac167] := hc
  simp only [List.mem_cons, List.not_mem_nil, or_false] at hc
  rcases hc with rfl
  · exact achk_ok aJ_ok ak167 (fun mk c' h1 h2 => IH mk c' h1 (Nat.lt_of_lt_of_le h2 hd))
theorem ok165 {n : Nat} (IH : ∀ (mk : Nat) (c' : aK), c' ∈ actb mk → c'.2.2.1 < n → cOK aJ mk c') : ∀ c ∈ actb 165, c.2.2.1 ≤ n → cOK aJ 165 c := by
  intro c hc hd
  have hc : c ∈ [ac168, ac331, ac335, ac339, ac343, ac347, ac351, ac355, ac359, ac363, ac367, ac371] := hc
  simp only [List.mem_cons, List.not_mem_nil, or_false] at hc
  rcases hc with rfl | rfl | rfl | rfl | rfl | rfl | rfl | rfl | rfl | rfl | rfl | rfl
  · exact achk_ok aJ_ok ak168 (fun mk c' h1 h2 => IH mk c' h1 (Nat.lt_of_lt_of_le h2 hd))
  · exact achk_ok aJ_ok ak331 (fun mk c' h1 h2 => IH mk c' h1 (Nat.lt_of_lt_of_le h2 hd))
  · exact achk_ok aJ_ok ak335 (fun mk c' h1 h2 => IH mk c' h1 (Nat.lt_of_lt_of_le h2 hd))
  · exact achk_ok aJ_ok ak339 (fun mk c' h1 h2 => IH mk c' h1 (Nat.lt_of_lt_of_le h2 hd))
  · exact achk_ok aJ_ok ak343 (fun mk c' h1 h2 => IH mk c' h1 (Nat.lt_of_lt_of_le h2 hd))
  · exact achk_ok aJ_ok ak347 (fun mk c' h1 h2 => IH mk c' h1 (Nat.lt_of_lt_of_le h2 hd))
  · exact achk_ok aJ_ok ak351 (fun mk c' h1 h2 => IH mk c' h1 (Nat.lt_of_lt_of_le h2 hd))
  · exact achk_ok aJ_ok ak355 (fun mk c' h1 h2 => IH mk c' h1 (Nat.lt_of_lt_of_le h2 hd))
  · exact achk_ok aJ_ok ak359 (fun mk c' h1 h2 => IH mk c' h1 (Nat.lt_of_lt_of_le h2 hd))
  · exact achk_ok aJ_ok ak363 (fun mk c' h1 h2 => IH mk c' h1 (Nat.lt_of_lt_of_le h2 hd))
  · exact achk_ok aJ_ok ak367 (fun mk c' h1 h2 => IH mk c' h1 (Nat.lt_of_lt_of_le h2 hd))
  · exact achk_ok aJ_ok ak371 (fun mk c' h1 h2 => IH mk c' h1 (Nat.lt_of_lt_of_le h2 hd))
theorem ok171 {n : Nat} (IH : ∀ (mk : Nat) (c' : aK), c' ∈ actb mk → c'.2.2.1 < n → cOK aJ mk c') : ∀ c ∈ actb 171, c.2.2.1 ≤ n → cOK aJ 171 c := by
  intro c hc hd
  have hc : c ∈ [ac169] := hc
  simp only [List.mem_cons, List.not_mem_nil, or_false] at hc
  rcases hc with rfl
  · exact achk_ok aJ_ok ak169 (fun mk c' h1 h2 => IH mk c' h1 (Nat.lt_of_lt_of_le h2 hd))
theorem ok175 {n : Nat} (IH : ∀ (mk : Nat) (c' : aK), c' ∈ actb mk → c'.2.2.1 < n → cOK aJ mk c') : ∀ c ∈ actb 175, c.2.2.1 ≤ n → cOK aJ 175 c := by
  intro c hc hd
  have hc : c ∈ [ac170, ac171, ac172, ac174, ac175, ac176, ac179, ac181, ac183, ac187, ac189] := hc
  simp only [List.mem_cons, List.not_mem_nil, or_false] at hc
  rcases hc with rfl | rfl | rfl | rfl | rfl | rfl | rfl | rfl | rfl | rfl | rfl
  · exact achk_ok aJ_ok ak170 (fun mk c' h1 h2 => IH mk c' h1 (Nat.lt_of_lt_of_le h2 hd))
  · exact achk_ok aJ_ok ak171 (fun mk c' h1 h2 => IH mk c' h1 (Nat.lt_of_lt_of_le h2 hd))
  · exact achk_ok aJ_ok ak172 (fun mk c' h1 h2 => IH mk c' h1 (Nat.lt_of_lt_of_le h2 hd))
  · exact achk_ok aJ_ok ak174 (fun mk c' h1 h2 => IH mk c' h1 (Nat.lt_of_lt_of_le h2 hd))
  · exact achk_ok aJ_ok ak175 (fun mk c' h1 h2 => IH mk c' h1 (Nat.lt_of_lt_of_le h2 hd))
  · exact achk_ok aJ_ok ak176 (fun mk c' h1 h2 => IH mk c' h1 (Nat.lt_of_lt_of_le h2 hd))
  · exact achk_ok aJ_ok ak179 (fun mk c' h1 h2 => IH mk c' h1 (Nat.lt_of_lt_of_le h2 hd))
  · exact achk_ok aJ_ok ak181 (fun mk c' h1 h2 => IH mk c' h1 (Nat.lt_of_lt_of_le h2 hd))
  · exact achk_ok aJ_ok ak183 (fun mk c' h1 h2 => IH mk c' h1 (Nat.lt_of_lt_of_le h2 hd))
  · exact achk_ok aJ_ok ak187 (fun mk c' h1 h2 => IH mk c' h1 (Nat.lt_of_lt_of_le h2 hd))
  · exact achk_ok aJ_ok ak189 (fun mk c' h1 h2 => IH mk c' h1 (Nat.lt_of_lt_of_le h2 hd))
theorem ok176 {n : Nat} (IH : ∀ (mk : Nat) (c' : aK), c' ∈ actb mk → c'.2.2.1 < n → cOK aJ mk c') : ∀ c ∈ actb 176, c.2.2.1 ≤ n → cOK aJ 176 c := by
  intro c hc hd
  have hc : c ∈ [ac177, ac182, ac184, ac185, ac190] := hc
  simp only [List.mem_cons, List.not_mem_nil, or_false] at hc
  rcases hc with rfl | rfl | rfl | rfl | rfl
  · exact achk_ok aJ_ok ak177 (fun mk c' h1 h2 => IH mk c' h1 (Nat.lt_of_lt_of_le h2 hd))
  · exact achk_ok aJ_ok ak182 (fun mk c' h1 h2 => IH mk c' h1 (Nat.lt_of_lt_of_le h2 hd))
  · exact achk_ok aJ_ok ak184 (fun mk c' h1 h2 => IH mk c' h1 (Nat.lt_of_lt_of_le h2 hd))
  · exact achk_ok aJ_ok ak185 (fun mk c' h1 h2 => IH mk c' h1 (Nat.lt_of_lt_of_le h2 hd))
  · exact achk_ok aJ_ok ak190 (fun mk c' h1 h2 => IH mk c' h1 (Nat.lt_of_lt_of_le h2 hd))
theorem ok177 {n : Nat} (IH : ∀ (mk : Nat) (c' : aK), c' ∈ actb mk → c'.2.2.1 < n → cOK aJ mk c') : ∀ c ∈ actb 177, c.2.2.1 ≤ n → cOK aJ 177 c := by
  intro c hc hd
  have hc : c ∈ [ac173] := hc
  simp only [List.mem_cons, List.not_mem_nil, or_false] at hc
  rcases hc with rfl
  · exact achk_ok aJ_ok ak173 (fun mk c' h1 h2 => IH mk c' h1 (Nat.lt_of_lt_of_le h2 hd))
theorem ok178 {n : Nat} (IH : ∀ (mk : Nat) (c' : aK), c' ∈ actb mk → c'.2.2.1 < n → cOK aJ mk c') : ∀ c ∈ actb 178, c.2.2.1 ≤ n → cOK aJ 178 c := by
  intro c hc hd
  have hc : c ∈ [ac180, ac192] := hc
  simp only [List.mem_cons, List.not_mem_nil, or_false] at hc
  rcases hc with rfl | rfl
  · exact achk_ok aJ_ok ak180 (fun mk c' h1 h2 => IH mk c' h1 (Nat.lt_of_lt_of_le h2 hd))
  · exact achk_ok aJ_ok ak192 (fun mk c' h1 h2 => IH mk c' h1 (Nat.lt_of_lt_of_le h2 hd))
theorem ok180 {n : Nat} (IH : ∀ (mk : Nat) (c' : aK), c' ∈ actb mk → c'.2.2.1 < n → cOK aJ mk c') : ∀ c ∈ actb 180, c.2.2.1 ≤ n → cOK aJ 180 c := by
  intro c hc hd
  have hc : c ∈ [ac178, ac191] := hc
  simp only [List.mem_cons, List.not_mem_nil, or_false] at hc
  rcases hc with rfl | rfl
  · exact achk_ok aJ_ok ak178 (fun mk c' h1 h2 => IH mk c' h1 (Nat.lt_of_lt_of_le h2 hd))
  · exact achk_ok aJ_ok ak191 (fun mk c' h1 h2 => IH mk c' h1 (Nat.lt_of_lt_of_le h2 hd))
theorem ok181 {n : Nat} (IH : ∀ (mk : Nat) (c' : aK), c' ∈ actb mk → c'.2.2.1 < n → cOK aJ mk c') : ∀ c ∈ actb 181, c.2.2.1 ≤ n → cOK aJ 181 c := by
  intro c hc hd
  have hc : c ∈ [ac186, ac193] := hc
  simp only [List.mem_cons, List.not_mem_nil, or_false] at hc
  rcases hc with rfl | rfl
  · exact achk_ok aJ_ok ak186 (fun mk c' h1 h2 => IH mk c' h1 (Nat.lt_of_lt_of_le h2 hd))
  · exact achk_ok aJ_ok ak193 (fun mk c' h1 h2 => IH mk c' h1 (Nat.lt_of_lt_of_le h2 hd))
theorem ok182 {n : Nat} (IH : ∀ (mk : Nat) (c' : aK), c' ∈ actb mk → c'.2.2.1 < n → cOK aJ mk c') : ∀ c ∈ actb 182, c.2.2.1 ≤ n → cOK aJ 182 c := by
  intro c hc hd
  have hc : c ∈ [ac188, ac194] := hc
  simp only [List.mem_cons, List.not_mem_nil, or_false] at hc
  rcases hc with rfl | rfl
  · exact achk_ok aJ_ok ak188 (fun mk c' h1 h2 => IH mk c' h1 (Nat.lt_of_lt_of_le h2 hd))
  · exact achk_ok aJ_ok ak194 (fun mk c' h1 h2 => IH mk c' h1 (Nat.lt_of_lt_of_le h2 hd))
theorem ok183 {n : Nat} (IH : ∀ (mk : Nat) (c' : aK), c' ∈ actb mk → c'.2.2.1 < n → cOK aJ mk c') : ∀ c ∈ actb 183, c.2.2.1 ≤ n → cOK aJ 183 c := by
  intro c hc hd
  have hc : c ∈ [ac199, ac332, ac333, ac334, ac336, ac337, ac338, ac340, ac341, ac342, ac344, ac345, ac346, ac348, ac349, ac350, ac352, ac353, ac354, ac356, ac357, ac358, ac360, ac361, ac362, ac364, ac365, ac366, ac368, ac369, ac370, ac372, ac373, ac374] := hc
  simp only [List.mem_cons, List.not_mem_nil, or_false] at hc
  rcases hc with rfl | rfl | rfl | rfl | rfl | rfl | rfl | rfl | rfl | rfl | rfl | rfl | rfl | rfl | rfl | rfl | rfl | rfl | rfl | rfl | rfl | rfl | rfl | rfl | rfl | rfl | rfl | rfl | rfl | rfl | rfl | rfl | rfl | rfl
  · exact achk_ok aJ_ok ak199 (fun mk c' h1 h2 => IH mk c' h1 (Nat.lt_of_lt_of_le h2 hd))
  · exact achk_ok aJ_ok ak332 (fun mk c' h1 h2 => IH mk c' h1 (Nat.lt_of_lt_of_le h2 hd))
  · exact achk_ok aJ_ok ak333 (fun mk c' h1 h2 => IH mk c' h1 (Nat.lt_of_lt_of_le h2 hd))
  · exact achk_ok aJ_ok ak334 (fun mk c' h1 h2 => IH mk c' h1 (Nat.lt_of_lt_of_le h2 hd))
  · exact achk_ok aJ_ok ak336 (fun mk c' h1 h2 => IH mk c' h1 (Nat.lt_of_lt_of_le h2 hd))
  · exact achk_ok aJ_ok ak337 (fun mk c' h1 h2 => IH mk c' h1 (Nat.lt_of_lt_of_le h2 hd))
  · exact achk_ok aJ_ok ak338 (fun mk c' h1 h2 => IH mk c' h1 (Nat.lt_of_lt_of_le h2 hd))
  · exact achk_ok aJ_ok ak340 (fun mk c' h1 h2 => IH mk c' h1 (Nat.lt_of_lt_of_le h2 hd))
  · exact achk_ok aJ_ok ak341 (fun mk c' h1 h2 => IH mk c' h1 (Nat.lt_of_lt_of_le h2 hd))
  · exact achk_ok aJ_ok ak342 (fun mk c' h1 h2 => IH mk c' h1 (Nat.lt_of_lt_of_le h2 hd))
  · exact achk_ok aJ_ok ak344 (fun mk c' h1 h2 => IH mk c' h1 (Nat.lt_of_lt_of_le h2 hd))
  · exact achk_ok aJ_ok ak345 (fun mk c' h1 h2 => IH mk c' h1 (Nat.lt_of_lt_of_le h2 hd))
  · exact achk_ok aJ_ok ak346 (fun mk c' h1 h2 => IH mk c' h1 (Nat.lt_of_lt_of_le h2 hd))
  · exact achk_ok aJ_ok ak348 (fun mk c' h1 h2 => IH mk c' h1 (Nat.lt_of_lt_of_le h2 hd))
  · exact achk_ok aJ_ok ak349 (fun mk c' h1 h2 => IH mk c' h1 (Nat.lt_of_lt_of_le h2 hd))
  · exact achk_ok aJ_ok ak350 (fun mk c' h1 h2 => IH mk c' h1 (Nat.lt_of_lt_of_le h2 hd))
  · exact achk_ok aJ_ok ak352 (fun mk c' h1 h2 => IH mk c' h1 (Nat.lt_of_lt_of_le h2 hd))
  · exact achk_ok aJ_ok ak353 (fun mk c' h1 h2 => IH mk c' h1 (Nat.lt_of_lt_of_le h2 hd))
  · exact achk_ok aJ_ok ak354 (fun mk c' h1 h2 => IH mk c' h1 (Nat.lt_of_lt_of_le h2 hd))
  · exact achk_ok aJ_ok ak356 (fun mk c' h1 h2 => IH mk c' h1 (Nat.lt_of_lt_of_le h2 hd))
  · exact achk_ok aJ_ok ak357 (fun mk c' h1 h2 => IH mk c' h1 (Nat.lt_of_lt_of_le h2 hd))
  · exact achk_ok aJ_ok ak358 (fun mk c' h1 h2 => IH mk c' h1 (Nat.lt_of_lt_of_le h2 hd))
  · exact achk_ok aJ_ok ak360 (fun mk c' h1 h2 => IH mk c' h1 (Nat.lt_of_lt_of_le h2 hd))
  · exact achk_ok aJ_ok ak361 (fun mk c' h1 h2 => IH mk c' h1 (Nat.lt_of_lt_of_le h2 hd))
  · exact achk_ok aJ_ok ak362 (fun mk c' h1 h2 => IH mk c' h1 (Nat.lt_of_lt_of_le h2 hd))
  · exact achk_ok aJ_ok ak364 (fun mk c' h1 h2 => IH mk c' h1 (Nat.lt_of_lt_of_le h2 hd))
  · exact achk_ok aJ_ok ak365 (fun mk c' h1 h2 => IH mk c' h1 (Nat.lt_of_lt_of_le h2 hd))
  · exact achk_ok aJ_ok ak366 (fun mk c' h1 h2 => IH mk c' h1 (Nat.lt_of_lt_of_le h2 hd))
  · exact achk_ok aJ_ok ak368 (fun mk c' h1 h2 => IH mk c' h1 (Nat.lt_of_lt_of_le h2 hd))
  · exact achk_ok aJ_ok ak369 (fun mk c' h1 h2 => IH mk c' h1 (Nat.lt_of_lt_of_le h2 hd))
  · exact achk_ok aJ_ok ak370 (fun mk c' h1 h2 => IH mk c' h1 (Nat.lt_of_lt_of_le h2 hd))
  · exact achk_ok aJ_ok ak372 (fun mk c' h1 h2 => IH mk c' h1 (Nat.lt_of_lt_of_le h2 hd))
  · exact achk_ok aJ_ok ak373 (fun mk c' h1 h2 => IH mk c' h1 (Nat.lt_of_lt_of_le h2 hd))
  · exact achk_ok aJ_ok ak374 (fun mk c' h1 h2 => IH mk c' h1 (Nat.lt_of_lt_of_le h2 hd))
theorem ok184 {n : Nat} (IH : ∀ (mk : Nat) (c' : aK), c' ∈ actb mk → c'.2.2.1 < n → cOK aJ mk c') : ∀ c ∈ actb 184, c.2.2.1 ≤ n → cOK aJ 184 c := by
  intro c hc hd
  have hc : c ∈ [ac200] := hc
  simp only [List.mem_cons, List.not_mem_nil, or_false] at hc
  rcases hc with rfl
  · exact achk_ok aJ_ok ak200 (fun mk c' h1 h2 => IH mk c' h1 (Nat.lt_of_lt_of_le h2 hd))
theorem ok185 {n : Nat} (IH : ∀ (mk : Nat) (c' : aK), c' ∈ actb mk → c'.2.2.1 < n → cOK aJ mk c') : ∀ c ∈ actb 185, c.2.2.1 ≤ n → cOK aJ 185 c := by
  intro c hc hd
  have hc : c ∈ [ac195, ac196, ac198, ac226, ac277, ac278] := hc
  simp only [List.mem_cons, List.not_mem_nil, or_false] at hc
  rcases hc with rfl | rfl | rfl | rfl | rfl | rfl
  · exact achk_ok aJ_ok ak195 (fun mk c' h1 h2 => IH mk c' h1 (Nat.lt_of_lt_of_le h2 hd))
  · exact achk_ok aJ_ok ak196 (fun mk c' h1 h2 => IH mk c' h1 (Nat.lt_of_lt_of_le h2 hd))
  · exact achk_ok aJ_ok ak198 (fun mk c' h1 h2 => IH mk c' h1 (Nat.lt_of_lt_of_le h2 hd))
  · exact achk_ok aJ_ok ak226 (fun mk c' h1 h2 => IH mk c' h1 (Nat.lt_of_lt_of_le h2 hd))
  · exact achk_ok aJ_ok ak277 (fun mk c' h1 h2 => IH mk c' h1 (Nat.lt_of_lt_of_le h2 hd))
  · exact achk_ok aJ_ok ak278 (fun mk c' h1 h2 => IH mk c' h1 (Nat.lt_of_lt_of_le h2 hd))
theorem ok186 {n : Nat} (IH : ∀ (mk : Nat) (c' : aK), c' ∈ actb mk → c'.2.2.1 < n → cOK aJ mk c') : ∀ c ∈ actb 186, c.2.2.1 ≤ n → cOK aJ 186 c := by
  intro c hc hd
  have hc : c ∈ [ac197] := hc
  simp only [List.mem_cons, List.not_mem_nil, or_false] at hc
  rcases hc with rfl
  · exact achk_ok aJ_ok ak197 (fun mk c' h1 h2 => IH mk c' h1 (Nat.lt_of_lt_of_le h2 hd))
theorem ok187 {n : Nat} (IH : ∀ (mk : Nat) (c' : aK), c' ∈ actb mk → c'.2.2.1 < n → cOK aJ mk c') : ∀ c ∈ actb 187, c.2.2.1 ≤ n → cOK aJ 187 c := by
  intro c hc hd
  have hc : c ∈ [ac227] := hc
  simp only [List.mem_cons, List.not_mem_nil, or_false] at hc
  rcases hc with rfl
  · exact achk_ok aJ_ok ak227 (fun mk c' h1 h2 => IH mk c' h1 (Nat.lt_of_lt_of_le h2 hd))
theorem ok188 {n : Nat} (IH : ∀ (mk : Nat) (c' : aK), c' ∈ actb mk → c'.2.2.1 < n → cOK aJ mk c') : ∀ c ∈ actb 188, c.2.2.1 ≤ n → cOK aJ 188 c := by
  intro c hc hd
  have hc : c ∈ [ac201] := hc
  simp only [List.mem_cons, List.not_mem_nil, or_false] at hc
  rcases hc with rfl
  · exact achk_ok aJ_ok ak201 (fun mk c' h1 h2 => IH mk c' h1 (Nat.lt_of_lt_of_le h2 hd))
theorem ok189 {n : Nat} (IH : ∀ (mk : Nat) (c' : aK), c' ∈ actb mk → c'.2.2.1 < n → cOK aJ mk c') : ∀ c ∈ actb 189, c.2.2.1 ≤ n → cOK aJ 189 c := by
  intro c hc hd
  have hc : c ∈ [ac202, ac203, ac204, ac205, ac206, ac207, ac208, ac209, ac210, ac211, ac213, ac214, ac215, ac216, ac217, ac218, ac219, ac220, ac221, ac222, ac223, ac224] := hc
  simp only [List.mem_cons, List.not_mem_nil, or_false] at hc
  rcases hc with rfl | rfl | rfl | rfl | rfl | rfl | rfl | rfl | rfl | rfl | rfl | rfl | rfl | rfl | rfl | rfl | rfl | rfl | rfl | rfl | rfl | rfl
  · exact achk_ok aJ_ok ak202 (fun mk c' h1 h2 => IH mk c' h1 (Nat.lt_of_lt_of_le h2 hd))
  · exact achk_ok aJ_ok ak203 (fun mk c' h1 h2 => IH mk c' h1 (Nat.lt_of_lt_of_le h2 hd))
  · exact achk_ok aJ_ok ak204 (fun mk c' h1 h2 => IH mk c' h1 (Nat.lt_of_lt_of_le h2 hd))
  · exact achk_ok aJ_ok ak205 (fun mk c' h1 h2 => IH mk c' h1 (Nat.lt_of_lt_of_le h2 hd))
  · exact achk_ok aJ_ok ak206 (fun mk c' h1 h2 => IH mk c' h1 (Nat.lt_of_lt_of_le h2 hd))
  · exact achk_ok aJ_ok ak207 (fun mk c' h1 h2 => IH mk c' h1 (Nat.lt_of_lt_of_le h2 hd))
  · exact achk_ok aJ_ok ak208 (fun mk c' h1 h2 => IH mk c' h1 (Nat.lt_of_lt_of_le h2 hd))
  · exact achk_ok aJ_ok ak209 (fun mk c' h1 h2 => IH mk c' h1 (Nat.lt_of_lt_of_le h2 hd))
  · exact achk_ok aJ_ok ak210 (fun mk c' h1 h2 => IH mk c' h1 (Nat.lt_of_lt_of_le h2 hd))
  · exact achk_ok aJ_ok ak211 (fun mk c' h1 h2 => IH mk c' h1 (Nat.lt_of_lt_of_le h2 hd))
  · exact achk_ok aJ_ok ak213 (fun mk c' h1 h2 => IH mk c' h1 (Nat.lt_of_lt_of_le h2 hd))
  · exact achk_ok aJ_ok ak214 (fun mk c' h1 h2 => IH mk c' h1 (Nat.lt_of_lt_of_le h2 hd))
  · exact achk_ok aJ_ok ak215 (fun mk c' h1 h2 => IH mk c' h1 (Nat.lt_of_lt_of_le h2 hd))
  · exact achk_ok aJ_ok ak216 (fun mk c' h1 h2 => IH mk c' h1 (Nat.lt_of_lt_of_le h2 hd))
  · exact achk_ok aJ_ok ak217 (fun mk c' h1 h2 => IH mk c' h1 (Nat.lt_of_lt_of_le h2 hd))
  · exact achk_ok aJ_ok ak218 (fun mk c' h1 h2 => IH mk c' h1 (Nat.lt_of_lt_of_le h2 hd))
  · exact achk_ok aJ_ok ak219 (fun mk c' h1 h2 => IH mk c' h1 (Nat.lt_of_lt_of_le h2 hd))
  · exact achk_ok aJ_ok ak220 (fun mk c' h1 h2 => IH mk c' h1 (Nat.lt_of_lt_of_le h2 hd))
  · exact achk_ok aJ_ok ak221 (fun mk c' h1 h2 => IH mk c' h1 (Nat.lt_of_lt_of_le h2 hd))
  · exact achk_ok aJ_ok ak222 (fun mk c' h1 h2 => IH mk c' h1 (Nat.lt_of_lt_of_le h2 hd))
  · exact achk_ok aJ_ok ak223 (fun mk c' h1 h2 => IH mk c' h1 (Nat.lt_of_lt_of_le h2 hd))
  · exact achk_ok aJ_ok ak224 (fun mk c' h1 h2 => IH mk c' h1 (Nat.lt_of_lt_of_le h2 hd))
theorem ok190 {n : Nat} (IH : ∀ (mk : Nat) (c' : aK), c' ∈ actb mk → c'.2.2.1 < n → cOK aJ mk c') : ∀ c ∈ actb 190, c.2.2.1 ≤ n → cOK aJ 190 c := by
  intro c hc hd
  have hc : c ∈ [ac212] := hc
  simp only [List.mem_cons, List.not_mem_nil, or_false] at hc
  rcases hc with rfl
  · exact achk_ok aJ_ok ak212 (fun mk c' h1 h2 => IH mk c' h1 (Nat.lt_of_lt_of_le h2 hd))
theorem ok191 {n : Nat} (IH : ∀ (mk : Nat) (c' : aK), c' ∈ actb mk → c'.2.2.1 < n → cOK aJ mk c') : ∀ c ∈ actb 191, c.2.2.1 ≤ n → cOK aJ 191 c := by
  intro c hc hd
  have hc : c ∈ [ac225] := hc
  simp only [List.mem_cons, List.not_mem_nil, or_false] at hc
  rcases hc with rfl
  · exact achk_ok aJ_ok ak225 (fun mk c' h1 h2 => IH mk c' h1 (Nat.lt_of_lt_of_le h2 hd))
theorem ok192 {n : Nat} (IH : ∀ (mk : Nat) (c' : aK), c' ∈ actb mk → c'.2.2.1 < n → cOK aJ mk c') : ∀ c ∈ actb 192, c.2.2.1 ≤ n → cOK aJ 192 c := by
  intro c hc hd
  have hc : c ∈ [ac228] := hc
  simp only [List.mem_cons, List.not_mem_nil, or_false] at hc
  rcases hc with rfl
  · exact achk_ok aJ_ok ak228 (fun mk c' h1 h2 => IH mk c' h1 (Nat.lt_of_lt_of_le h2 hd))
theorem ok193 {n : Nat} (IH : ∀ (mk : Nat) (c' : aK), c' ∈ actb mk → c'.2.2.1 < n → cOK aJ mk c') : ∀ c ∈ actb 193, c.2.2.1 ≤ n → cOK aJ 193 c := by
  intro c hc hd
  have hc : c ∈ [ac229] := hc
  simp only [List.mem_cons, List.not_mem_nil, or_false] at hc
  rcases hc with rfl
  · exact achk_ok aJ_ok ak229 (fun mk c' h1 h2 => IH mk c' h1 (Nat.lt_of_lt_of_le h2 hd))
theorem ok194 {n : Nat} (IH : ∀ (mk : Nat) (c' : aK), c' ∈ actb mk → c'.2.2.1 < n → cOK aJ mk c') : ∀ c ∈ actb 194, c.2.2.1 ≤ n → cOK aJ 194 c := by
  intro c hc hd
  have hc : c ∈ [ac230] := hc
  simp only [List.mem_cons, List.not_mem_nil, or_false] at hc
  rcases hc with rfl
  · exact achk_ok aJ_ok ak230 (fun mk c' h1 h2 => IH mk c' h1 (Nat.lt_of_lt_of_le h2 hd))
theorem ok195 {n : Nat} (IH : ∀ (mk : Nat) (c' : aK), c' ∈ actb mk → c'.2.2.1 < n → cOK aJ mk c') : ∀ c ∈ actb 195, c.2.2.1 ≤ n → cOK aJ 195 c := by
  intro c hc hd
  have hc : c ∈ [ac231] := hc
  simp only [List.mem_cons, List.not_mem_nil, or_false] at hc
  rcases hc with rfl
  · exact achk_ok aJ_ok ak231 (fun mk c' h1 h2 => IH mk c' h1 (Nat.lt_of_lt_of_le h2 hd))
theorem ok196 {n : Nat} (IH : ∀ (mk : Nat) (c' : aK), c' ∈ actb mk → c'.2.2.1 < n → cOK aJ mk c') : ∀ c ∈ actb 196, c.2.2.1 ≤ n → cOK aJ 196 c := by
  intro c hc hd
  have hc : c ∈ [ac232] := hc
  simp only [List.mem_cons, List.not_mem_nil, or_false] at hc
  rcases hc with rfl
  · exact achk_ok aJ_ok ak232 (fun mk c' h1 h2 => IH mk c' h1 (Nat.lt_of_lt_of_le h2 hd))
theorem ok201 {n : Nat} (IH : ∀ (mk : Nat) (c' : aK), c' ∈ actb mk → c'.2.2.1 < n → cOK aJ mk c') : ∀ c ∈ actb 201, c.2.2.1 ≤ n → cOK aJ 201 c := by
  intro c hc hd
  have hc : c ∈ [ac251, ac254, ac259, ac262] := hc
  simp only [List.mem_cons, List.not_mem_nil, or_false] at hc
  rcases hc with rfl | rfl | rfl | rfl
  · exact achk_ok aJ_ok ak251 (fun mk c' h1 h2 => IH mk c' h1 (Nat.lt_of_lt_of_le h2 hd))
  · exact achk_ok aJ_ok ak254 (fun mk c' h1 h2 => IH mk c' h1 (Nat.lt_of_lt_of_le h2 hd))
  · exact achk_ok aJ_ok ak259 (fun mk c' h1 h2 => IH mk c' h1 (Nat.lt_of_lt_of_le h2 hd))
  · exact achk_ok aJ_ok ak262 (fun mk c' h1 h2 => IH mk c' h1 (Nat.lt_of_lt_of_le h2 hd))
theorem ok202 {n : Nat} (IH : ∀ (mk : Nat) (c' : aK), c' ∈ actb mk → c'.2.2.1 < n → cOK aJ mk c') : ∀ c ∈ actb 202, c.2.2.1 ≤ n → cOK aJ 202 c := by
  intro c hc hd
  have hc : c ∈ [ac250, ac253, ac258, ac261] := hc
  simp only [List.mem_cons, List.not_mem_nil, or_false] at hc
  rcases hc with rfl | rfl | rfl | rfl
  · exact achk_ok aJ_ok ak250 (fun mk c' h1 h2 => IH mk c' h1 (Nat.lt_of_lt_of_le h2 hd))
  · exact achk_ok aJ_ok ak253 (fun mk c' h1 h2 => IH mk c' h1 (Nat.lt_of_lt_of_le h2 hd))
  · exact achk_ok aJ_ok ak258 (fun mk c' h1 h2 => IH mk c' h1 (Nat.lt_of_lt_of_le h2 hd))
  · exact achk_ok aJ_ok ak261 (fun mk c' h1 h2 => IH mk c' h1 (Nat.lt_of_lt_of_le h2 hd))
theorem ok203 {n : Nat} (IH : ∀ (mk : Nat) (c' : aK), c' ∈ actb mk → c'.2.2.1 < n → cOK aJ mk c') : ∀ c ∈ actb 203, c.2.2.1 ≤ n → cOK aJ 203 c := by
  intro c hc hd
  have hc : c ∈ [ac237] := hc
  simp only [List.mem_cons, List.not_mem_nil, or_false] at hc
  rcases hc with rfl
  · exact achk_ok aJ_ok ak237 (fun mk c' h1 h2 => IH mk c' h1 (Nat.lt_of_lt_of_le h2 hd))
theorem ok206 {n : Nat} (IH : ∀ (mk : Nat) (c' : aK), c' ∈ actb mk → c'.2.2.1 < n → cOK aJ mk c') : ∀ c ∈ actb 206, c.2.2.1 ≤ n → cOK aJ 206 c := by
  intro c hc hd
  have hc : c ∈ [ac252, ac260] := hc
  simp only [List.mem_cons, List.not_mem_nil, or_false] at hc
  rcases hc with rfl | rfl
  · exact achk_ok aJ_ok ak252 (fun mk c' h1 h2 => IH mk c' h1 (Nat.lt_of_lt_of_le h2 hd))
  · exact achk_ok aJ_ok ak260 (fun mk c' h1 h2 => IH mk c' h1 (Nat.lt_of_lt_of_le h2 hd))
theorem ok207 {n : Nat} (IH : ∀ (mk : Nat) (c' : aK), c' ∈ actb mk → c'.2.2.1 < n → cOK aJ mk c') : ∀ c ∈ actb 207, c.2.2.1 ≤ n → cOK aJ 207 c := by
  intro c hc hd
  have hc : c ∈ [ac247, ac248, ac249, ac255, ac256, ac257] := hc
  simp only [List.mem_cons, List.not_mem_nil, or_false] at hc
  rcases hc with rfl | rfl | rfl | rfl | rfl | rfl
  · exact achk_ok aJ_ok ak247 (fun mk c' h1 h2 => IH mk c' h1 (Nat.lt_of_lt_of_le h2 hd))
  · exact achk_ok aJ_ok ak248 (fun mk c' h1 h2 => IH mk c' h1 (Nat.lt_of_lt_of_le h2 hd))
  · exact achk_ok aJ_ok ak249 (fun mk c' h1 h2 => IH mk c' h1 (Nat.lt_of_lt_of_le h2 hd))
  · exact achk_ok aJ_ok ak255 (fun mk c' h1 h2 => IH mk c' h1 (Nat.lt_of_lt_of_le h2 hd))
  · exact achk_ok aJ_ok ak256 (fun mk c' h1 h2 => IH mk c' h1 (Nat.lt_of_lt_of_le h2 hd))
  · exact achk_ok aJ_ok ak257 (fun mk c' h1 h2 => IH mk c' h1 (Nat.lt_of_lt_of_le h2 hd))
theorem ok211 {n : Nat} (IH : ∀ (mk : Nat) (c' : aK), c' ∈ actb mk → c'.2.2.1 < n → cOK aJ mk c') : ∀ c ∈ actb 211, c.2.2.1 ≤ n → cOK aJ 211 c := by
  intro c hc hd
  have hc : c ∈ [ac263] := hc
  simp only [List.mem_cons, List.not_mem_nil, or_false] at hc
  rcases hc with rfl
  · exact achk_ok aJ_ok ak263 (fun mk c' h1 h2 => IH mk c' h1 (Nat.lt_of_lt_of_le h2 hd))
theorem ok212 {n : Nat} (IH : ∀ (mk : Nat) (c' : aK), c' ∈ actb mk → c'.2.2.1 < n → cOK aJ mk c') : ∀ c ∈ actb 212, c.2.2.1 ≤ n → cOK aJ 212 c := by
  intro c hc hd
  have hc : c ∈ [ac265] := hc
  simp only [List.mem_cons, List.not_mem_nil, or_false] at hc
  rcases hc with rfl
  · exact achk_ok aJ_ok ak265 (fun mk c' h1 h2 => IH mk c' h1 (Nat.lt_of_lt_of_le h2 hd))
theorem ok213 {n : Nat} (IH : ∀ (mk : Nat) (c' : aK), c' ∈ actb mk → c'.2.2.1 < n → cOK aJ mk c') : ∀ c ∈ actb 213, c.2.2.1 ≤ n → cOK aJ 213 c := by
  intro c hc hd
  have hc : c ∈ [ac264] := hc
  simp only [List.mem_cons, List.not_mem_nil, or_false] at hc
  rcases hc with rfl
  · exact achk_ok aJ_ok ak264 (fun mk c' h1 h2 => IH mk c' h1 (Nat.lt_of_lt_of_le h2 hd))
theorem ok215 {n : Nat} (IH : ∀ (mk : Nat) (c' : aK), c' ∈ actb mk → c'.2.2.1 < n → cOK aJ mk c') : ∀ c ∈ actb 215, c.2.2.1 ≤ n → cOK aJ 215 c := by
  intro c hc hd
  have hc : c ∈ [ac267] := hc
  simp only [List.mem_cons, List.not_mem_nil, or_false] at hc
  rcases hc with rfl
  · exact achk_ok aJ_ok ak267 (fun mk c' h1 h2 => IH mk c' h1 (Nat.lt_of_lt_of_le h2 hd))
theorem ok216 {n : Nat} (IH : ∀ (mk : Nat) (c' : aK), c' ∈ actb mk → c'.2.2.1 < n → cOK aJ mk c') : ∀ c ∈ actb 216, c.2.2.1 ≤ n → cOK aJ 216 c := by
  intro c hc hd
  have hc : c ∈ [ac266] := hc
  simp only [List.mem_cons, List.not_mem_nil, or_false] at hc
  rcases hc with rfl
  · exact achk_ok aJ_ok ak266 (fun mk c' h1 h2 => IH mk c' h1 (Nat.lt_of_lt_of_le h2 hd))
theorem ok217 {n : Nat} (IH : ∀ (mk : Nat) (c' : aK), c' ∈ actb mk → c'.2.2.1 < n → cOK aJ mk c') : ∀ c ∈ actb 217, c.2.2.1 ≤ n → cOK aJ 217 c := by
  intro c hc hd
  have hc : c ∈ [ac233, ac283] := hc
  simp only [List.mem_cons, List.not_mem_nil, or_false] at hc
  rcases hc with rfl | rfl
  · exact achk_ok aJ_ok ak233 (fun mk c' h1 h2 => IH mk c' h1 (Nat.lt_of_lt_of_le h2 hd))
  · exact achk_ok aJ_ok ak283 (fun mk c' h1 h2 => IH mk c' h1 (Nat.lt_of_lt_of_le h2 hd))
theorem ok218 {n : Nat} (IH : ∀ (mk : Nat) (c' : aK), c' ∈ actb mk → c'.2.2.1 < n → cOK aJ mk c') : ∀ c ∈ actb 218, c.2.2.1 ≤ n → cOK aJ 218 c := by
  intro c hc hd
  have hc : c ∈ [ac234, ac284] := hc
  simp only [List.mem_cons, List.not_mem_nil, or_false] at hc
  rcases hc with rfl | rfl
  · exact achk_ok aJ_ok ak234 (fun mk c' h1 h2 => IH mk c' h1 (Nat.lt_of_lt_of_le h2 hd))
  · exact achk_ok aJ_ok ak284 (fun mk c' h1 h2 => IH mk c' h1 (Nat.lt_of_lt_of_le h2 hd))
theorem ok219 {n : Nat} (IH : ∀ (mk : Nat) (c' : aK), c' ∈ actb mk → c'.2.2.1 < n → cOK aJ mk c') : ∀ c ∈ actb 219, c.2.2.1 ≤ n → cOK aJ 219 c := by
  intro c hc hd
  have hc : c ∈ [ac282, ac285] := hc
  simp only [List.mem_cons, List.not_mem_nil, or_false] at hc
  rcases hc with rfl | rfl
  · exact achk_ok aJ_ok ak282 (fun mk c' h1 h2 => IH mk c' h1 (Nat.lt_of_lt_of_le h2 hd))
  · exact achk_ok aJ_ok ak285 (fun mk c' h1 h2 => IH mk c' h1 (Nat.lt_of_lt_of_le h2 hd))
theorem ok220 {n : Nat} (IH : ∀ (mk : Nat) (c' : aK), c' ∈ actb mk → c'.2.2.1 < n → cOK aJ mk c') : ∀ c ∈ actb 220, c.2.2.1 ≤ n → cOK aJ 220 c := by
  intro c hc hd
  have hc : c ∈ [ac268] := hc
  simp only [List.mem_cons, List.not_mem_nil, or_false] at hc
  rcases hc with rfl
  · exact achk_ok aJ_ok ak268 (fun mk c' h1 h2 => IH mk c' h1 (Nat.lt_of_lt_of_le h2 hd))
theorem ok221 {n : Nat} (IH : ∀ (mk : Nat) (c' : aK), c' ∈ actb mk → c'.2.2.1 < n → cOK aJ mk c') : ∀ c ∈ actb 221, c.2.2.1 ≤ n → cOK aJ 221 c := by
  intro c hc hd
  have hc : c ∈ [ac269, ac270] := hc
  simp only [List.mem_cons, List.not_mem_nil, or_false] at hc
  rcases hc with rfl | rfl
  · exact achk_ok aJ_ok ak269 (fun mk c' h1 h2 => IH mk c' h1 (Nat.lt_of_lt_of_le h2 hd))
  · exact achk_ok aJ_ok ak270 (fun mk c' h1 h2 => IH mk c' h1 (Nat.lt_of_lt_of_le h2 hd))
theorem ok223 {n : Nat} (IH : ∀ (mk : Nat) (c' : aK), c' ∈ actb mk → c'.2.2.1 < n → cOK aJ mk c') : ∀ c ∈ actb 223, c.2.2.1 ≤ n → cOK aJ 223 c := by
  intro c hc hd
  have hc : c ∈ [ac271] := hc
  simp only [List.mem_cons, List.not_mem_nil, or_false] at hc
  rcases hc with rfl
  · exact achk_ok aJ_ok ak271 (fun mk c' h1 h2 => IH mk c' h1 (Nat.lt_of_lt_of_le h2 hd))
theorem ok224 {n : Nat} (IH : ∀ (mk : Nat) (c' : aK), c' ∈ actb mk → c'.2.2.1 < n → cOK aJ mk c') : ∀ c ∈ actb 224, c.2.2.1 ≤ n → cOK aJ 224 c := by
  intro c hc hd
  have hc : c ∈ [ac272] := hc
  simp only [List.mem_cons, List.not_mem_nil, or_false] at hc
  rcases hc with rfl
  · exact achk_ok aJ_ok ak272 (fun mk c' h1 h2 => IH mk c' h1 (Nat.lt_of_lt_of_le h2 hd))
theorem ok225 {n : Nat} (IH : ∀ (mk : Nat) (c' : aK), c' ∈ actb mk → c'.2.2.1 < n → cOK aJ mk c') : ∀ c ∈ actb 225, c.2.2.1 ≤ n → cOK aJ 225 c := by
  intro c hc hd
  have hc : c ∈ [ac276] := hc
  simp only [List.mem_cons, List.not_mem_nil, or_false] at hc
  rcases hc with rfl
  · exact achk_ok aJ_ok ak276 (fun mk c' h1 h2 => IH mk c' h1 (Nat.lt_of_lt_of_le h2 hd))
theorem ok227 {n : Nat} (IH : ∀ (mk : Nat) (c' : aK), c' ∈ actb mk → c'.2.2.1 < n → cOK aJ mk c') : ∀ c ∈ actb 227, c.2.2.1 ≤ n → cOK aJ 227 c := by
  intro c hc hd
  have hc : c ∈ [ac279, ac280, ac281] := hc
  simp only [List.mem_cons, List.not_mem_nil, or_false] at hc
  rcases hc with rfl | rfl | rfl
  · exact achk_ok aJ_ok ak279 (fun mk c' h1 h2 => IH mk c' h1 (Nat.lt_of_lt_of_le h2 hd))
  · exact achk_ok aJ_ok ak280 (fun mk c' h1 h2 => IH mk c' h1 (Nat.lt_of_lt_of_le h2 hd))
  · exact achk_ok aJ_ok ak281 (fun mk c' h1 h2 => IH mk c' h1 (Nat.lt_of_lt_of_le h2 hd))
theorem ok232 {n : Nat} (IH : ∀ (mk : Nat) (c' : aK), c' ∈ actb mk → c'.2.2.1 < n → cOK aJ mk c') : ∀ c ∈ actb 232, c.2.2.1 ≤ n → cOK aJ 232 c := by
  intro c hc hd
  have hc : c ∈ [ac286] := hc
  simp only [List.mem_cons, List.not_mem_nil, or_false] at hc
  rcases hc with rfl
  · exact achk_ok aJ_ok ak286 (fun mk c' h1 h2 => IH mk c' h1 (Nat.lt_of_lt_of_le h2 hd))
theorem ok234 {n : Nat} (IH : ∀ (mk : Nat) (c' : aK), c' ∈ actb mk → c'.2.2.1 < n → cOK aJ mk c') : ∀ c ∈ actb 234, c.2.2.1 ≤ n → cOK aJ 234 c := by
  intro c hc hd
  have hc : c ∈ [ac274] := hc
  simp only [List.mem_cons, List.not_mem_nil, or_false] at hc
  rcases hc with rfl
  · exact achk_ok aJ_ok ak274 (fun mk c' h1 h2 => IH mk c' h1 (Nat.lt_of_lt_of_le h2 hd))
theorem ok235 {n : Nat} (IH : ∀ (mk : Nat) (c' : aK), c' ∈ actb mk → c'.2.2.1 < n → cOK aJ mk c') : ∀ c ∈ actb 235, c.2.2.1 ≤ n → cOK aJ 235 c := by
  intro c hc hd
  have hc : c ∈ [ac273] := hc
  simp only [List.mem_cons, List.not_mem_nil, or_false] at hc
  rcases hc with rfl
  · exact achk_ok aJ_ok ak273 (fun mk c' h1 h2 => IH mk c' h1 (Nat.lt_of_lt_of_le h2 hd))
theorem ok236 {n : Nat} (IH : ∀ (mk : Nat) (c' : aK), c' ∈ actb mk → c'.2.2.1 < n → cOK aJ mk c') : ∀ c ∈ actb 236, c.2.2.1 ≤ n → cOK aJ 236 c := by
  intro c hc hd
  have hc : c ∈ [ac275] := hc
  simp only [List.mem_cons, List.not_mem_nil, or_false] at hc
  rcases hc with rfl
  · exact achk_ok aJ_ok ak275 (fun mk c' h1 h2 => IH mk c' h1 (Nat.lt_of_lt_of_le h2 hd))
theorem ok238 {n : Nat} (IH : ∀ (mk : Nat) (c' : aK), c' ∈ actb mk → c'.2.2.1 < n → cOK aJ mk c') : ∀ c ∈ actb 238, c.2.2.1 ≤ n → cOK aJ 238 c := by
  intro c hc hd
  have hc : c ∈ [ac3] := hc
  simp only [List.mem_cons, List.not_mem_nil, or_false] at hc
  rcases hc with rfl
  · exact m_proves (fun mk c' h1 h2 => IH mk c' h1 (Nat.lt_of_lt_of_le (Nat.lt_of_le_of_lt h2 (by decide : 8 < 13)) hd))
theorem ok239 {n : Nat} (IH : ∀ (mk : Nat) (c' : aK), c' ∈ actb mk → c'.2.2.1 < n → cOK aJ mk c') : ∀ c ∈ actb 239, c.2.2.1 ≤ n → cOK aJ 239 c := by
  intro c hc hd
  have hc : c ∈ [ac235] := hc
  simp only [List.mem_cons, List.not_mem_nil, or_false] at hc
  rcases hc with rfl
  · exact achk_ok aJ_ok ak235 (fun mk c' h1 h2 => IH mk c' h1 (Nat.lt_of_lt_of_le h2 hd))
theorem ok240 {n : Nat} (IH : ∀ (mk : Nat) (c' : aK), c' ∈ actb mk → c'.2.2.1 < n → cOK aJ mk c') : ∀ c ∈ actb 240, c.2.2.1 ≤ n → cOK aJ 240 c := by
  intro c hc hd
  have hc : c ∈ [ac236] := hc
  simp only [List.mem_cons, List.not_mem_nil, or_false] at hc
  rcases hc with rfl
  · exact achk_ok aJ_ok ak236 (fun mk c' h1 h2 => IH mk c' h1 (Nat.lt_of_lt_of_le h2 hd))
theorem ok241 {n : Nat} (IH : ∀ (mk : Nat) (c' : aK), c' ∈ actb mk → c'.2.2.1 < n → cOK aJ mk c') : ∀ c ∈ actb 241, c.2.2.1 ≤ n → cOK aJ 241 c := by
  intro c hc hd
  have hc : c ∈ [ac238] := hc
  simp only [List.mem_cons, List.not_mem_nil, or_false] at hc
  rcases hc with rfl
  · exact achk_ok aJ_ok ak238 (fun mk c' h1 h2 => IH mk c' h1 (Nat.lt_of_lt_of_le h2 hd))
theorem ok242 {n : Nat} (IH : ∀ (mk : Nat) (c' : aK), c' ∈ actb mk → c'.2.2.1 < n → cOK aJ mk c') : ∀ c ∈ actb 242, c.2.2.1 ≤ n → cOK aJ 242 c := by
  intro c hc hd
  have hc : c ∈ [ac239] := hc
  simp only [List.mem_cons, List.not_mem_nil, or_false] at hc
  rcases hc with rfl
  · exact achk_ok aJ_ok ak239 (fun mk c' h1 h2 => IH mk c' h1 (Nat.lt_of_lt_of_le h2 hd))
theorem ok244 {n : Nat} (IH : ∀ (mk : Nat) (c' : aK), c' ∈ actb mk → c'.2.2.1 < n → cOK aJ mk c') : ∀ c ∈ actb 244, c.2.2.1 ≤ n → cOK aJ 244 c := by
  intro c hc hd
  have hc : c ∈ [ac240] := hc
  simp only [List.mem_cons, List.not_mem_nil, or_false] at hc
  rcases hc with rfl
  · exact achk_ok aJ_ok ak240 (fun mk c' h1 h2 => IH mk c' h1 (Nat.lt_of_lt_of_le h2 hd))
theorem ok245 {n : Nat} (IH : ∀ (mk : Nat) (c' : aK), c' ∈ actb mk → c'.2.2.1 < n → cOK aJ mk c') : ∀ c ∈ actb 245, c.2.2.1 ≤ n → cOK aJ 245 c := by
  intro c hc hd
  have hc : c ∈ [ac241] := hc
  simp only [List.mem_cons, List.not_mem_nil, or_false] at hc
  rcases hc with rfl
  · exact achk_ok aJ_ok ak241 (fun mk c' h1 h2 => IH mk c' h1 (Nat.lt_of_lt_of_le h2 hd))
theorem ok259 {n : Nat} (IH : ∀ (mk : Nat) (c' : aK), c' ∈ actb mk → c'.2.2.1 < n → cOK aJ mk c') : ∀ c ∈ actb 259, c.2.2.1 ≤ n → cOK aJ 259 c := by
  intro c hc hd
  have hc : c ∈ [ac4] := hc
  simp only [List.mem_cons, List.not_mem_nil, or_false] at hc
  rcases hc with rfl
  · exact m_lays
theorem ok260 {n : Nat} (IH : ∀ (mk : Nat) (c' : aK), c' ∈ actb mk → c'.2.2.1 < n → cOK aJ mk c') : ∀ c ∈ actb 260, c.2.2.1 ≤ n → cOK aJ 260 c := by
  intro c hc hd
  have hc : c ∈ [ac242] := hc
  simp only [List.mem_cons, List.not_mem_nil, or_false] at hc
  rcases hc with rfl
  · exact achk_ok aJ_ok ak242 (fun mk c' h1 h2 => IH mk c' h1 (Nat.lt_of_lt_of_le h2 hd))
theorem ok261 {n : Nat} (IH : ∀ (mk : Nat) (c' : aK), c' ∈ actb mk → c'.2.2.1 < n → cOK aJ mk c') : ∀ c ∈ actb 261, c.2.2.1 ≤ n → cOK aJ 261 c := by
  intro c hc hd
  have hc : c ∈ [ac243] := hc
  simp only [List.mem_cons, List.not_mem_nil, or_false] at hc
  rcases hc with rfl
  · exact achk_ok aJ_ok ak243 (fun mk c' h1 h2 => IH mk c' h1 (Nat.lt_of_lt_of_le h2 hd))
theorem ok262 {n : Nat} (IH : ∀ (mk : Nat) (c' : aK), c' ∈ actb mk → c'.2.2.1 < n → cOK aJ mk c') : ∀ c ∈ actb 262, c.2.2.1 ≤ n → cOK aJ 262 c := by
  intro c hc hd
  have hc : c ∈ [ac244] := hc
  simp only [List.mem_cons, List.not_mem_nil, or_false] at hc
  rcases hc with rfl
  · exact achk_ok aJ_ok ak244 (fun mk c' h1 h2 => IH mk c' h1 (Nat.lt_of_lt_of_le h2 hd))
theorem ok263 {n : Nat} (IH : ∀ (mk : Nat) (c' : aK), c' ∈ actb mk → c'.2.2.1 < n → cOK aJ mk c') : ∀ c ∈ actb 263, c.2.2.1 ≤ n → cOK aJ 263 c := by
  intro c hc hd
  have hc : c ∈ [ac245] := hc
  simp only [List.mem_cons, List.not_mem_nil, or_false] at hc
  rcases hc with rfl
  · exact achk_ok aJ_ok ak245 (fun mk c' h1 h2 => IH mk c' h1 (Nat.lt_of_lt_of_le h2 hd))
theorem ok264 {n : Nat} (IH : ∀ (mk : Nat) (c' : aK), c' ∈ actb mk → c'.2.2.1 < n → cOK aJ mk c') : ∀ c ∈ actb 264, c.2.2.1 ≤ n → cOK aJ 264 c := by
  intro c hc hd
  have hc : c ∈ [ac246] := hc
  simp only [List.mem_cons, List.not_mem_nil, or_false] at hc
  rcases hc with rfl
  · exact achk_ok aJ_ok ak246 (fun mk c' h1 h2 => IH mk c' h1 (Nat.lt_of_lt_of_le h2 hd))
theorem ok274 {n : Nat} (IH : ∀ (mk : Nat) (c' : aK), c' ∈ actb mk → c'.2.2.1 < n → cOK aJ mk c') : ∀ c ∈ actb 274, c.2.2.1 ≤ n → cOK aJ 274 c := by
  intro c hc hd
  have hc : c ∈ [ac62, ac65, ac99, ac100, ac120, ac122, ac123, ac135, ac142] := hc
  simp only [List.mem_cons, List.not_mem_nil, or_false] at hc
  rcases hc with rfl | rfl | rfl | rfl | rfl | rfl | rfl | rfl | rfl
  · exact achk_ok aJ_ok ak62 (fun mk c' h1 h2 => IH mk c' h1 (Nat.lt_of_lt_of_le h2 hd))
  · exact achk_ok aJ_ok ak65 (fun mk c' h1 h2 => IH mk c' h1 (Nat.lt_of_lt_of_le h2 hd))
  · exact achk_ok aJ_ok ak99 (fun mk c' h1 h2 => IH mk c' h1 (Nat.lt_of_lt_of_le h2 hd))
  · exact achk_ok aJ_ok ak100 (fun mk c' h1 h2 => IH mk c' h1 (Nat.lt_of_lt_of_le h2 hd))
  · exact achk_ok aJ_ok ak120 (fun mk c' h1 h2 => IH mk c' h1 (Nat.lt_of_lt_of_le h2 hd))
  · exact achk_ok aJ_ok ak122 (fun mk c' h1 h2 => IH mk c' h1 (Nat.lt_of_lt_of_le h2 hd))
  · exact achk_ok aJ_ok ak123 (fun mk c' h1 h2 => IH mk c' h1 (Nat.lt_of_lt_of_le h2 hd))
  · exact achk_ok aJ_ok ak135 (fun mk c' h1 h2 => IH mk c' h1 (Nat.lt_of_lt_of_le h2 hd))
  · exact achk_ok aJ_ok ak142 (fun mk c' h1 h2 => IH mk c' h1 (Nat.lt_of_lt_of_le h2 hd))
def actD : List Nat := [3, 4, 5, 6, 7, 8, 9, 11, 13, 14, 15, 16, 17, 18, 19, 20, 21, 22, 24, 25, 28, 30, 33, 35, 36, 37, 39, 40, 41, 42, 43, 44, 46, 47, 48, 49, 50, 51, 52, 53, 54, 55, 57, 58, 59, 60, 64, 65, 67, 68, 69, 70, 71, 72, 73, 74, 75, 77, 78, 80, 84, 85, 86, 87, 88, 89, 90, 91, 92, 94, 95, 96, 98, 99, 100, 101, 102, 103, 106, 109, 112, 116, 118, 119, 120, 121, 122, 123, 124, 125, 126, 127, 128, 129, 130, 132, 133, 134, 135, 136, 137, 138, 139, 140, 141, 142, 143, 144, 145, 146, 147, 148, 149, 150, 151, 165, 171, 175, 176, 177, 178, 180, 181, 182, 183, 184, 185, 186, 187, 188, 189, 190, 191, 192, 193, 194, 195, 196, 201, 202, 203, 206, 207, 211, 212, 213, 215, 216, 217, 218, 219, 220, 221, 223, 224, 225, 227, 232, 234, 235, 236, 238, 239, 240, 241, 242, 244, 245, 259, 260, 261, 262, 263, 264, 274]
theorem actD_ok : (List.range 304).all (fun mk => (actb mk).isEmpty || actD.contains mk) = true := by decide +kernel
theorem actD_in {mk : Nat} {c : aK} (hc : c ∈ actb mk) : mk ∈ actD := by
  rcases Nat.lt_or_ge mk 304 with q | q
  · have h9 := List.all_eq_true.mp actD_ok mk (List.mem_range.mpr q)
    simp only [Bool.or_eq_true] at h9
    rcases h9 with h9 | h9
    · rw [List.isEmpty_iff.mp h9] at hc
      cases hc
    · exact List.contains_iff_mem.mp h9
  · have e : actb mk = [] := by
      unfold actb
      rw [nth_eq, List.getElem?_eq_none (by show 19 ≤ mk / 16; omega)]
    rw [e] at hc
    cases hc
set_option maxRecDepth 20000 in
theorem ok_all : ∀ (n mk : Nat) (c : aK), c ∈ actb mk → c.2.2.1 ≤ n → cOK aJ mk c := by
  intro n
  induction n using Nat.strongRecOn with
  | _ n ih =>
    have IH : ∀ (mk : Nat) (c' : aK), c' ∈ actb mk → c'.2.2.1 < n → cOK aJ mk c' := fun mk c' h1 h2 => ih _ h2 mk c' h1 (Nat.le_refl _)
    have key : ∀ mk ∈ actD, ∀ c ∈ actb mk, c.2.2.1 ≤ n → cOK aJ mk c := List.forall_mem_cons.mpr ⟨ok3 IH, List.forall_mem_cons.mpr ⟨ok4 IH, List.forall_mem_cons.mpr ⟨ok5 IH, List.forall_mem_cons.mpr ⟨ok6 IH, List.forall_mem_cons.mpr ⟨ok7 IH, List.forall_mem_cons.mpr ⟨ok8 IH, List.forall_mem_cons.mpr ⟨ok9 IH, List.forall_mem_cons.mpr ⟨ok11 IH, List.forall_mem_cons.mpr ⟨ok13 IH, List.forall_mem_cons.mpr ⟨ok14 IH, List.forall_mem_cons.mpr ⟨ok15 IH, List.forall_mem_cons.mpr ⟨ok16 IH, List.forall_mem_cons.mpr ⟨ok17 IH, List.forall_mem_cons.mpr ⟨ok18 IH, List.forall_mem_cons.mpr ⟨ok19 IH, List.forall_mem_cons.mpr ⟨ok20 IH, List.forall_mem_cons.mpr ⟨ok21 IH, List.forall_mem_cons.mpr ⟨ok22 IH, List.forall_mem_cons.mpr ⟨ok24 IH, List.forall_mem_cons.mpr ⟨ok25 IH, List.forall_mem_cons.mpr ⟨ok28 IH, List.forall_mem_cons.mpr ⟨ok30 IH, List.forall_mem_cons.mpr ⟨ok33 IH, List.forall_mem_cons.mpr ⟨ok35 IH, List.forall_mem_cons.mpr ⟨ok36 IH, List.forall_mem_cons.mpr ⟨ok37 IH, List.forall_mem_cons.mpr ⟨ok39 IH, List.forall_mem_cons.mpr ⟨ok40 IH, List.forall_mem_cons.mpr ⟨ok41 IH, List.forall_mem_cons.mpr ⟨ok42 IH, List.forall_mem_cons.mpr ⟨ok43 IH, List.forall_mem_cons.mpr ⟨ok44 IH, List.forall_mem_cons.mpr ⟨ok46 IH, List.forall_mem_cons.mpr ⟨ok47 IH, List.forall_mem_cons.mpr ⟨ok48 IH, List.forall_mem_cons.mpr ⟨ok49 IH, List.forall_mem_cons.mpr ⟨ok50 IH, List.forall_mem_cons.mpr ⟨ok51 IH, List.forall_mem_cons.mpr ⟨ok52 IH, List.forall_mem_cons.mpr ⟨ok53 IH, List.forall_mem_cons.mpr ⟨ok54 IH, List.forall_mem_cons.mpr ⟨ok55 IH, List.forall_mem_cons.mpr ⟨ok57 IH, List.forall_mem_cons.mpr ⟨ok58 IH, List.forall_mem_cons.mpr ⟨ok59 IH, List.forall_mem_cons.mpr ⟨ok60 IH, List.forall_mem_cons.mpr ⟨ok64 IH, List.forall_mem_cons.mpr ⟨ok65 IH, List.forall_mem_cons.mpr ⟨ok67 IH, List.forall_mem_cons.mpr ⟨ok68 IH, List.forall_mem_cons.mpr ⟨ok69 IH, List.forall_mem_cons.mpr ⟨ok70 IH, List.forall_mem_cons.mpr ⟨ok71 IH, List.forall_mem_cons.mpr ⟨ok72 IH, List.forall_mem_cons.mpr ⟨ok73 IH, List.forall_mem_cons.mpr ⟨ok74 IH, List.forall_mem_cons.mpr ⟨ok75 IH, List.forall_mem_cons.mpr ⟨ok77 IH, List.forall_mem_cons.mpr ⟨ok78 IH, List.forall_mem_cons.mpr ⟨ok80 IH, List.forall_mem_cons.mpr ⟨ok84 IH, List.forall_mem_cons.mpr ⟨ok85 IH, List.forall_mem_cons.mpr ⟨ok86 IH, List.forall_mem_cons.mpr ⟨ok87 IH, List.forall_mem_cons.mpr ⟨ok88 IH, List.forall_mem_cons.mpr ⟨ok89 IH, List.forall_mem_cons.mpr ⟨ok90 IH, List.forall_mem_cons.mpr ⟨ok91 IH, List.forall_mem_cons.mpr ⟨ok92 IH, List.forall_mem_cons.mpr ⟨ok94 IH, List.forall_mem_cons.mpr ⟨ok95 IH, List.forall_mem_cons.mpr ⟨ok96 IH, List.forall_mem_cons.mpr ⟨ok98 IH, List.forall_mem_cons.mpr ⟨ok99 IH, List.forall_mem_cons.mpr ⟨ok100 IH, List.forall_mem_cons.mpr ⟨ok101 IH, List.forall_mem_cons.mpr ⟨ok102 IH, List.forall_mem_cons.mpr ⟨ok103 IH, List.forall_mem_cons.mpr ⟨ok106 IH, List.forall_mem_cons.mpr ⟨ok109 IH, List.forall_mem_cons.mpr ⟨ok112 IH, List.forall_mem_cons.mpr ⟨ok116 IH, List.forall_mem_cons.mpr ⟨ok118 IH, List.forall_mem_cons.mpr ⟨ok119 IH, List.forall_mem_cons.mpr ⟨ok120 IH, List.forall_mem_cons.mpr ⟨ok121 IH, List.forall_mem_cons.mpr ⟨ok122 IH, List.forall_mem_cons.mpr ⟨ok123 IH, List.forall_mem_cons.mpr ⟨ok124 IH, List.forall_mem_cons.mpr ⟨ok125 IH, List.forall_mem_cons.mpr ⟨ok126 IH, List.forall_mem_cons.mpr ⟨ok127 IH, List.forall_mem_cons.mpr ⟨ok128 IH, List.forall_mem_cons.mpr ⟨ok129 IH, List.forall_mem_cons.mpr ⟨ok130 IH, List.forall_mem_cons.mpr ⟨ok132 IH, List.forall_mem_cons.mpr ⟨ok133 IH, List.forall_mem_cons.mpr ⟨ok134 IH, List.forall_mem_cons.mpr ⟨ok135 IH, List.forall_mem_cons.mpr ⟨ok136 IH, List.forall_mem_cons.mpr ⟨ok137 IH, List.forall_mem_cons.mpr ⟨ok138 IH, List.forall_mem_cons.mpr ⟨ok139 IH, List.forall_mem_cons.mpr ⟨ok140 IH, List.forall_mem_cons.mpr ⟨ok141 IH, List.forall_mem_cons.mpr ⟨ok142 IH, List.forall_mem_cons.mpr ⟨ok143 IH, List.forall_mem_cons.mpr ⟨ok144 IH, List.forall_mem_cons.mpr ⟨ok145 IH, List.forall_mem_cons.mpr ⟨ok146 IH, List.forall_mem_cons.mpr ⟨ok147 IH, List.forall_mem_cons.mpr ⟨ok148 IH, List.forall_mem_cons.mpr ⟨ok149 IH, List.forall_mem_cons.mpr ⟨ok150 IH, List.forall_mem_cons.mpr ⟨ok151 IH, List.forall_mem_cons.mpr ⟨ok165 IH, List.forall_mem_cons.mpr ⟨ok171 IH, List.forall_mem_cons.mpr ⟨ok175 IH, List.forall_mem_cons.mpr ⟨ok176 IH, List.forall_mem_cons.mpr ⟨ok177 IH, List.forall_mem_cons.mpr ⟨ok178 IH, List.forall_mem_cons.mpr ⟨ok180 IH, List.forall_mem_cons.mpr ⟨ok181 IH, List.forall_mem_cons.mpr ⟨ok182 IH, List.forall_mem_cons.mpr ⟨ok183 IH, List.forall_mem_cons.mpr ⟨ok184 IH, List.forall_mem_cons.mpr ⟨ok185 IH, List.forall_mem_cons.mpr ⟨ok186 IH, List.forall_mem_cons.mpr ⟨ok187 IH, List.forall_mem_cons.mpr ⟨ok188 IH, List.forall_mem_cons.mpr ⟨ok189 IH, List.forall_mem_cons.mpr ⟨ok190 IH, List.forall_mem_cons.mpr ⟨ok191 IH, List.forall_mem_cons.mpr ⟨ok192 IH, List.forall_mem_cons.mpr ⟨ok193 IH, List.forall_mem_cons.mpr ⟨ok194 IH, List.forall_mem_cons.mpr ⟨ok195 IH, List.forall_mem_cons.mpr ⟨ok196 IH, List.forall_mem_cons.mpr ⟨ok201 IH, List.forall_mem_cons.mpr ⟨ok202 IH, List.forall_mem_cons.mpr ⟨ok203 IH, List.forall_mem_cons.mpr ⟨ok206 IH, List.forall_mem_cons.mpr ⟨ok207 IH, List.forall_mem_cons.mpr ⟨ok211 IH, List.forall_mem_cons.mpr ⟨ok212 IH, List.forall_mem_cons.mpr ⟨ok213 IH, List.forall_mem_cons.mpr ⟨ok215 IH, List.forall_mem_cons.mpr ⟨ok216 IH, List.forall_mem_cons.mpr ⟨ok217 IH, List.forall_mem_cons.mpr ⟨ok218 IH, List.forall_mem_cons.mpr ⟨ok219 IH, List.forall_mem_cons.mpr ⟨ok220 IH, List.forall_mem_cons.mpr ⟨ok221 IH, List.forall_mem_cons.mpr ⟨ok223 IH, List.forall_mem_cons.mpr ⟨ok224 IH, List.forall_mem_cons.mpr ⟨ok225 IH, List.forall_mem_cons.mpr ⟨ok227 IH, List.forall_mem_cons.mpr ⟨ok232 IH, List.forall_mem_cons.mpr ⟨ok234 IH, List.forall_mem_cons.mpr ⟨ok235 IH, List.forall_mem_cons.mpr ⟨ok236 IH, List.forall_mem_cons.mpr ⟨ok238 IH, List.forall_mem_cons.mpr ⟨ok239 IH, List.forall_mem_cons.mpr ⟨ok240 IH, List.forall_mem_cons.mpr ⟨ok241 IH, List.forall_mem_cons.mpr ⟨ok242 IH, List.forall_mem_cons.mpr ⟨ok244 IH, List.forall_mem_cons.mpr ⟨ok245 IH, List.forall_mem_cons.mpr ⟨ok259 IH, List.forall_mem_cons.mpr ⟨ok260 IH, List.forall_mem_cons.mpr ⟨ok261 IH, List.forall_mem_cons.mpr ⟨ok262 IH, List.forall_mem_cons.mpr ⟨ok263 IH, List.forall_mem_cons.mpr ⟨ok264 IH, List.forall_mem_cons.mpr ⟨ok274 IH, (fun x h9 => by cases h9)⟩⟩⟩⟩⟩⟩⟩⟩⟩⟩⟩⟩⟩⟩⟩⟩⟩⟩⟩⟩⟩⟩⟩⟩⟩⟩⟩⟩⟩⟩⟩⟩⟩⟩⟩⟩⟩⟩⟩⟩⟩⟩⟩⟩⟩⟩⟩⟩⟩⟩⟩⟩⟩⟩⟩⟩⟩⟩⟩⟩⟩⟩⟩⟩⟩⟩⟩⟩⟩⟩⟩⟩⟩⟩⟩⟩⟩⟩⟩⟩⟩⟩⟩⟩⟩⟩⟩⟩⟩⟩⟩⟩⟩⟩⟩⟩⟩⟩⟩⟩⟩⟩⟩⟩⟩⟩⟩⟩⟩⟩⟩⟩⟩⟩⟩⟩⟩⟩⟩⟩⟩⟩⟩⟩⟩⟩⟩⟩⟩⟩⟩⟩⟩⟩⟩⟩⟩⟩⟩⟩⟩⟩⟩⟩⟩⟩⟩⟩⟩⟩⟩⟩⟩⟩⟩⟩⟩⟩⟩⟩⟩⟩⟩⟩⟩⟩⟩⟩⟩⟩⟩⟩⟩⟩⟩
    exact fun mk c hc hd => key mk (actD_in hc) c hc hd
theorem okC {mk : Nat} {c : aK} (hc : c ∈ actb mk) : cOK aJ mk c := ok_all _ mk c hc (Nat.le_refl _)
