/-! ONE THING IS DONE BY WHICH A SEQUENT IS MADE READY: something falls -/
theorem aqI {τ : List Nat} {x : Int32} {lo hi : Int} (h1 : lo ≤ x.toInt) (h2 : x.toInt ≤ hi) : aqM τ (.inl (lo, hi)) (zi x) := ⟨x, rfl, h1, h2⟩
theorem aqR {τ : List Nat} {a T : Nat} (h : τ[a]? = some T) : aqM τ (.inr (.inl T)) (.inl (some a)) := ⟨a, rfl, h⟩
def fall (h h1 : zh) (R : Nat) : Prop := sm h1 R 0 3 < sm h R 0 3 ∨ (sm h1 R 0 3 = sm h R 0 3 ∧ (sm h1 R 24 176 < sm h R 24 176 ∨ (sm h1 R 24 176 = sm h R 24 176 ∧ sm h1 R 3 21 < sm h R 3 21)))
/-- the same slots -/
def smS (τ : List Nat) (h : zh) (τ1 : List Nat) (h1 : zh) : Prop := aup τ τ1 ∧ hG τ1 h1 ∧ ∀ k T j, τ[k]? = some T → hsl h1 k j = hsl h k j
theorem smS_refl {τ : List Nat} {h : zh} (hg : hG τ h) : smS τ h τ h := ⟨aup_refl _, hg, fun _ _ _ _ => rfl⟩
theorem smS_trans {τ τ1 τ2 : List Nat} {h h1 h2 : zh} (a : smS τ h τ1 h1) (b : smS τ1 h1 τ2 h2) : smS τ h τ2 h2 := ⟨aup_trans a.1 b.1, b.2.1, fun k T j hk => (b.2.2 k T j (a.1 _ _ hk)).trans (a.2.2 k T j hk)⟩
theorem smS_of {τ τ1 : List Nat} {h h1 : zh} (hu : aup τ τ1) (hg : hG τ1 h1) (hF : aFr τ h [] h1) : smS τ h τ1 h1 := ⟨hu, hg, fun k T j hk => hF k T j hk rfl⟩
def rdR (τ : List Nat) (R : Nat) (h : zh) (y : Int32) (h1 : zh) : Prop := 0 ≤ y.toInt ∧ y.toInt ≤ 1 ∧ (∃ τ1, aup τ τ1 ∧ hG τ1 h1 ∧ ∀ k T j, τ[k]? = some T → k ≠ R → hsl h1 k j = hsl h k j) ∧ (y.toInt ≠ 0 → fall h h1 R)
theorem rd_0 {τ τ1 : List Nat} {R : Nat} {h h1 : zh} {y : Int32} (S : smS τ h τ1 h1) (h0 : y.toInt = 0) : rdR τ R h y h1 := ⟨by omega, by omega, ⟨τ1, S.1, S.2.1, fun k T j hk _ => S.2.2 k T j hk⟩, fun h9 => absurd h0 h9⟩
theorem rd_of {τ τ1 : List Nat} {R : Nat} {h hc h1 : zh} {y : Int32} (S : smS τ h τ1 hc) (hR : τ[R]? = some 1012) (hy : y.toInt = 1) (hg : hG τ1 h1) (ho : ∀ k j, k ≠ R → hsl h1 k j = hsl hc k j) (hf : fall hc h1 R) : rdR τ R h y h1 := by
  refine ⟨by omega, by omega, ⟨τ1, S.1, hg, fun k T j hk hkR => (ho k j hkR).trans (S.2.2 k T j hk)⟩, fun _ => ?_⟩
  have e : ∀ o n, sm hc R o n = sm h R o n := fun o n => sm_eq (fun i _ => S.2.2 R 1012 _ hR)
  unfold fall at hf ⊢
  rw [e, e, e] at hf
  exact hf
theorem rd_up {τ τ1 : List Nat} {R : Nat} {h hc h1 : zh} {y : Int32} (S : smS τ h τ1 hc) (hR : τ[R]? = some 1012) (r : rdR τ1 R hc y h1) : rdR τ R h y h1 := by
  obtain ⟨a, b, ⟨τ2, c1, c2, c3⟩, f⟩ := r
  refine ⟨a, b, ⟨τ2, aup_trans S.1 c1, c2, fun k T j hk hkR => (c3 k T j (S.1 _ _ hk) hkR).trans (S.2.2 k T j hk)⟩, fun h9 => ?_⟩
  have e : ∀ o n, sm hc R o n = sm h R o n := fun o n => sm_eq (fun i _ => S.2.2 R 1012 _ hR)
  have hf := f h9
  unfold fall at hf ⊢
  rw [e, e, e] at hf
  exact hf
theorem fall_goes {R c : Nat} {h h1 : zh} {xa y : Int32} (hc : c < 3) (ho : ∀ k j, (k ≠ R ∨ (j < 24 ∧ j ≠ c)) → hsl h1 k j = hsl h k j) (ha : hsl h R c = some (zi xa)) (h0 : 1 ≤ xa.toInt) (hy : hsl h1 R c = some (zi y)) (e : y.toInt = xa.toInt - 1) : fall h h1 R := by
  refine Or.inl ?_
  have h1' := sv_nn ha (by omega)
  have h2' := sv_nn hy (by omega)
  refine sm_lt (j := c) (fun i hi => ?_) hc ?_
  · by_cases hic : i = c
    · subst hic
      rw [Nat.zero_add]
      omega
    · rw [sv_eq (ho R (0 + i) (Or.inr (by omega)))]
      exact Nat.le_refl _
  · rw [Nat.zero_add]
    omega
theorem fall_makes {R k w : Nat} {h h1 : zh} (ho : ∀ k j, (k ≠ R ∨ j < 3) → hsl h1 k j = hsl h k j) (hl : ∀ j, 24 ≤ j → sv h1 R j ≤ sv h R j) (hk : k < 12) (hw : w ≤ 3) (hs : sv h1 R (24 + 4 * k + w) < sv h R (24 + 4 * k + w)) : fall h h1 R := by
  refine Or.inr ⟨sm_eq (fun i hi => ho R (0 + i) (Or.inr (by omega))), Or.inl (sm_lt (j := 4 * k + w) (fun i hi => hl (24 + i) (by omega)) (by omega) ?_)⟩
  rw [← Nat.add_assoc]
  exact hs
theorem bit_of {a : Int32} {n : Nat} (hn : n < 21) (h : ((a >>> (nI n &&& 31)) &&& 1).toInt = 1) : a.toBitVec.getLsbD n = true := by
  have e : ((a >>> (nI n &&& 31)) &&& 1) = 1 := Int32.toInt_inj.mp (by rw [h]; rfl)
  have e2 : ((a >>> (nI n &&& 31)) &&& 1).toBitVec.getLsbD 0 = true := by
    rw [e]
    rfl
  have t : ∀ n, n < 21 → ((nI n &&& 31).toBitVec.smod 32).toNat = n := by decide +kernel
  rw [Int32.toBitVec_and, BitVec.getLsbD_and, Int32.toBitVec_shiftRight] at e2
  simp only [Bool.and_eq_true] at e2
  have e3 := e2.1
  rw [BitVec.sshiftRight', t n hn, BitVec.getLsbD_sshiftRight] at e3
  simp only [Nat.add_zero] at e3
  rw [if_pos (by omega)] at e3
  simpa using e3
theorem clr_tab : ∀ n, n < 21 → (((1 : Int32) <<< (nI n &&& 31)) ^^^ -1).toBitVec.getLsbD n = false := by decide +kernel
theorem clr_lt {a : Int32} {n : Nat} (hn : n < 21) (h : a.toBitVec.getLsbD n = true) : (a &&& (((1 : Int32) <<< (nI n &&& 31)) ^^^ -1)).toBitVec.toNat < a.toBitVec.toNat := by
  have h1 : (a &&& (((1 : Int32) <<< (nI n &&& 31)) ^^^ -1)).toBitVec.toNat ≤ a.toBitVec.toNat := by
    rw [Int32.toBitVec_and, BitVec.toNat_and]
    exact Nat.and_le_left
  rcases Nat.lt_or_eq_of_le h1 with q | q
  · exact q
  · have e := BitVec.eq_of_toNat_eq q
    have e2 := congrArg (fun z => BitVec.getLsbD z n) e
    simp only [Int32.toBitVec_and, BitVec.getLsbD_and] at e2
    rw [clr_tab n hn, h] at e2
    cases e2
theorem and_le32 {a b : Int32} : (a &&& b).toBitVec.toNat ≤ a.toBitVec.toNat := by
  rw [Int32.toBitVec_and, BitVec.toNat_and]
  exact Nat.and_le_left
theorem nI_is {x : Int32} {n : Nat} (hx : x.toInt = (n : Int)) (hn : n < 21) : x = nI n := by
  have t : ∀ n, n < 21 → (nI n).toInt = n := by decide +kernel
  exact Int32.toInt_inj.mp (by rw [hx, t n hn])
theorem fall_agrees {R p q : Nat} {h h1 : zh} {z a : Int32} (hp : p < 21) (hq : q < 21) (hpq : p ≠ q) (hz : z.toInt = (q : Int)) (ho : ∀ k j, (k ≠ R ∨ (j ≠ 3 + p ∧ j ≠ 3 + q)) → hsl h1 k j = hsl h k j) (ha : hsl h R (3 + p) = some (zi a)) (hb : ((a >>> (z &&& 31)) &&& 1).toInt = 1) (hx : p ≠ q → hsl h1 R (3 + p) = some (zi (a &&& ((1 <<< (z &&& 31)) ^^^ -1))) ∧ ∃ b w : Int32, hsl h R (3 + q) = some (zi b) ∧ hsl h1 R (3 + q) = some (zi (b &&& w))) : fall h h1 R := by
  obtain ⟨x1, b, w, x2, x3⟩ := hx hpq
  have ez := nI_is hz hq
  subst ez
  have lt := clr_lt hq (bit_of hq hb)
  have s1 : sv h1 R (3 + p) < sv h R (3 + p) := by
    rw [sv_at x1, sv_at ha]
    exact lt
  have s2 : sv h1 R (3 + q) ≤ sv h R (3 + q) := by
    rw [sv_at x3, sv_at x2]
    exact and_le32
  refine Or.inr ⟨sm_eq (fun i hi => ho R (0 + i) (Or.inr (by omega))), Or.inr ⟨sm_eq (fun i hi => ho R (24 + i) (Or.inr (by omega))), sm_lt (j := p) (fun i hi => ?_) hp s1⟩⟩
  by_cases h1 : i = p
  · subst h1
    omega
  · by_cases h2 : i = q
    · subst h2
      exact s2
    · rw [sv_eq (ho R (3 + i) (Or.inr (by omega)))]
      exact Nat.le_refl _
theorem rr_1 {τ0 τ : List Nat} {h0 : zh} {R t : Nat} (hC : ∀ (mk : Nat) (c' : aK), c' ∈ actb mk → c'.2.2.1 ≤ 8 → cOK aJ mk c') (hR0 : τ0[R]? = some 1012) {h : zh} (S0 : smS τ0 h0 τ h) {xm : Int32} {m : Nat} (hm : hsl h R 1 = some (zi xm)) (hxm : xm.toInt = (m : Int)) (hm9 : m ≤ 12) (kk : ∀ xk : Int32, qX 8 216 36 [some (.inl (some R)), some (zi xk), none, none] [] h t (rI (rdR τ0 R h0) t)) : ∀ (n k : Nat) (xk : Int32), xk.toInt = (k : Int) → k ≤ m → m ≤ k + n → qX 8 216 2 [some (.inl (some R)), some (zi xk), none, none] [] h t (rI (rdR τ0 R h0) t) := by
  have hg := S0.2.1
  have hR := S0.1 _ _ hR0
  intro n
  induction n with
  | zero =>
    intro k xk hxk hkm hn
    refine y_same (i := .iload_n 1) (len := 1) (r := (0, 0, 0, 0)) (pc' := 3) (ls' := [some (.inl (some R)), some (zi xk), none, none]) (st' := [zi xk]) (by decide +kernel) (fun k q => by cases q) rfl ?_
    refine y_same (i := .aload_n 0) (len := 1) (r := (0, 0, 0, 0)) (pc' := 4) (ls' := [some (.inl (some R)), some (zi xk), none, none]) (st' := [.inl (some R), zi xk]) (by decide +kernel) (fun k q => by cases q) rfl ?_
    refine y_ic (c := 1) (len := 1) (r := (0, 0, 0, 0)) (by decide +kernel) (by decide) (fun y89 hy89 => ?_)
    refine y_ial (i := 1) (len := 1) (r := (0, 0, 0, 0)) (by decide +kernel) hg hR at1012 (by omega) hm ?_
    refine y_cT (c := .ge) (off := 30) (pc' := 36) (len := 3) (r := (0, 0, 0, 0)) (by decide +kernel) (acmpT (c := .ge) (by show _ ≤ _; omega)) (by decide +kernel) ?_
    exact kk xk
  | succ n ih =>
    intro k xk hxk hkm hn
    refine y_same (i := .iload_n 1) (len := 1) (r := (0, 0, 0, 0)) (pc' := 3) (ls' := [some (.inl (some R)), some (zi xk), none, none]) (st' := [zi xk]) (by decide +kernel) (fun k q => by cases q) rfl ?_
    refine y_same (i := .aload_n 0) (len := 1) (r := (0, 0, 0, 0)) (pc' := 4) (ls' := [some (.inl (some R)), some (zi xk), none, none]) (st' := [.inl (some R), zi xk]) (by decide +kernel) (fun k q => by cases q) rfl ?_
    refine y_ic (c := 1) (len := 1) (r := (0, 0, 0, 0)) (by decide +kernel) (by decide) (fun y90 hy90 => ?_)
    refine y_ial (i := 1) (len := 1) (r := (0, 0, 0, 0)) (by decide +kernel) hg hR at1012 (by omega) hm ?_
    rcases Decidable.em (xk.toInt ≥ xm.toInt) with q91 | q91
    ·
      refine y_cT (c := .ge) (off := 30) (pc' := 36) (len := 3) (r := (0, 0, 0, 0)) (by decide +kernel) (acmpT (c := .ge) (by show _ ≤ _; omega)) (by decide +kernel) ?_
      exact kk xk
    ·
      refine y_cF (c := .ge) (off := 30) (len := 3) (r := (0, 0, 0, 0)) (by decide +kernel) (acmpF (c := .ge) (by show _ < _; omega)) ?_
      refine y_same (i := .aload_n 0) (len := 1) (r := (0, 0, 0, 0)) (pc' := 10) (ls' := [some (.inl (some R)), some (zi xk), none, none]) (st' := [.inl (some R)]) (by decide +kernel) (fun k q => by cases q) rfl ?_
      refine y_same (i := .iload_n 1) (len := 1) (r := (0, 0, 0, 0)) (pc' := 11) (ls' := [some (.inl (some R)), some (zi xk), none, none]) (st' := [zi xk, .inl (some R)]) (by decide +kernel) (fun k q => by cases q) rfl ?_
      refine y_cI (i := .invokestatic 256) (len := 3) (r := (1, 198, 12, 1651)) (nL := 1) (k := 1) (n := 1) (hs := []) (args := [zi xk]) (rest := [.inl (some R)]) (l0 := [some (zi xk)]) (by decide +kernel) (Or.inl ⟨_, rfl⟩) rfl rfl rfl rfl (Nat.le_of_ble_eq_true rfl) rfl rfl (e_rightAt (by omega) (by omega)) (fun y92 qy92 hRy92 => ?_)
      obtain ⟨rfl, hy92⟩ := hRy92
      obtain ⟨v94, hv95, lv94, uv94⟩ := g_int (i := (80 + 4 * k)) hg hR at1012 (show (80 + 4 * k) < 200 by omega) (srC (by omega) (by omega))
      obtain ⟨v96, hv97, lv96, uv96⟩ := g_int (i := ((80 + 4 * k) + 1)) hg hR at1012 (show ((80 + 4 * k) + 1) < 200 by omega) (srC (by omega) (by omega))
      obtain ⟨v98, hv99, lv98, uv98⟩ := g_int (i := ((80 + 4 * k) + 2)) hg hR at1012 (show ((80 + 4 * k) + 2) < 200 by omega) (srC (by omega) (by omega))
      refine y_cI (i := .invokestatic 280) (len := 3) (r := (1, 214, 12, 1721)) (nL := 2) (k := 2) (n := 2) (hs := []) (args := [.inl (some R), zi y92]) (rest := []) (l0 := [some (.inl (some R)), some (zi y92)]) (by decide +kernel) (Or.inl ⟨_, rfl⟩) rfl rfl rfl rfl (Nat.le_of_ble_eq_true rfl) rfl rfl (e_isNothing (p := (80 + 4 * k)) hg hR (by omega) (by omega) hv95 hv97 hv99) (fun y93 qy93 hRy93 => ?_)
      obtain ⟨rfl, hy93a, hy93b, hy93c⟩ := hRy93
      rcases Decidable.em (y93.toInt ≠ 0) with q100 | q100
      ·
        refine y_iT (c := .ne) (off := 6) (pc' := 23) (len := 3) (r := (0, 0, 0, 0)) (by decide +kernel) (acmpT (c := .ne) (by show ¬ (_ = _); omega)) (by decide +kernel) ?_
        refine y_same (i := .aload_n 0) (len := 1) (r := (0, 0, 0, 0)) (pc' := 24) (ls' := [some (.inl (some R)), some (zi xk), none, none]) (st' := [.inl (some R)]) (by decide +kernel) (fun k q => by cases q) rfl ?_
        refine y_same (i := .iload_n 1) (len := 1) (r := (0, 0, 0, 0)) (pc' := 25) (ls' := [some (.inl (some R)), some (zi xk), none, none]) (st' := [zi xk, .inl (some R)]) (by decide +kernel) (fun k q => by cases q) rfl ?_
        refine y_cV (i := .invokestatic 295) (len := 3) (r := (1, 209, 12, 1679)) (nL := 2) (k := 0) (n := 2) (hs := []) (args := [.inl (some R), zi xk]) (rest := []) (l0 := [some (.inl (some R)), some (zi xk)]) (by decide +kernel) (Or.inl ⟨_, rfl⟩) rfl rfl rfl rfl (Nat.le_of_ble_eq_true rfl) rfl rfl (e_goesRight (k := k) (a := m) hg hR hxk (by omega) hm (by omega) (by omega) (by omega)) (fun h101 hR101 => ?_)
        obtain ⟨hg101, hl101, ho101, y101, hy101, e101⟩ := hR101
        refine y_ic (c := 1) (len := 1) (r := (0, 0, 0, 0)) (by decide +kernel) (by decide) (fun y102 hy102 => ?_)
        refine y_rI (len := 1) (r := (0, 0, 0, 0)) (nL := 4) (k := 2) (n9 := 1) (hs := []) (by decide +kernel) rfl (zfit_b (by omega) (by omega)).2 ?_
        exact rd_of S0 hR0 (by omega) hg101 (fun k j hk => ho101 k j (Or.inl hk)) (fall_goes (c := 1) (by omega) ho101 hm (by omega) hy101 e101)
      ·
        refine y_iF (c := .ne) (off := 6) (len := 3) (r := (0, 0, 0, 0)) (by decide +kernel) (acmpF (c := .ne) (by show _ = _; omega)) ?_
        refine y_goto (off := 10) (pc' := 30) (len := 3) (r := (0, 0, 0, 0)) (by decide +kernel) (by decide +kernel) ?_
        refine y_inc (j := 1) (a := xk) (c := 1) (ls' := fun v => [some (.inl (some R)), some v, none, none]) (len := 3) (r := (0, 0, 0, 0)) (by decide +kernel) rfl (fun _ => rfl) (by decide) (by omega) (by omega) (fun y103 hy103 => ?_)
        show qX 8 216 33 [some (.inl (some R)), some (zi y103), none, none] [] h t _
        refine y_goto (off := (-31)) (pc' := 2) (len := 3) (r := (0, 0, 0, 0)) (by decide +kernel) (by decide +kernel) ?_
        exact ih (k + 1) y103 (by omega) (by omega) (by omega)
theorem rr_2 {τ0 : List Nat} {h0 : zh} {R t : Nat} (hC : ∀ (mk : Nat) (c' : aK), c' ∈ actb mk → c'.2.2.1 ≤ 8 → cOK aJ mk c') (hR0 : τ0[R]? = some 1012) {xm : Int32} {m : Nat} (hxm : xm.toInt = (m : Int)) (hm9 : m ≤ 12) (kk : ∀ (τ : List Nat) (h : zh) (xk : Int32) (l2 l3 : Option zv), smS τ0 h0 τ h → qX 8 216 110 [some (.inl (some R)), some (zi xk), l2, l3] [] h t (rI (rdR τ0 R h0) t)) : ∀ (n : Nat) (τ : List Nat) (h : zh), smS τ0 h0 τ h → ∀ (k : Nat) (xk : Int32) (l2 l3 : Option zv), hsl h R 2 = some (zi xm) → xk.toInt = (k : Int) → k ≤ m → m ≤ k + n → qX 8 216 38 [some (.inl (some R)), some (zi xk), l2, l3] [] h t (rI (rdR τ0 R h0) t) := by
  intro n
  induction n with
  | zero =>
    intro τ h S0 k xk l2 l3 hm hxk hkm hn
    have hg := S0.2.1
    have hR := S0.1 _ _ hR0
    refine y_same (i := .iload_n 1) (len := 1) (r := (0, 0, 0, 0)) (pc' := 39) (ls' := [some (.inl (some R)), some (zi xk), l2, l3]) (st' := [zi xk]) (by decide +kernel) (fun k q => by cases q) rfl ?_
    refine y_same (i := .aload_n 0) (len := 1) (r := (0, 0, 0, 0)) (pc' := 40) (ls' := [some (.inl (some R)), some (zi xk), l2, l3]) (st' := [.inl (some R), zi xk]) (by decide +kernel) (fun k q => by cases q) rfl ?_
    refine y_ic (c := 2) (len := 1) (r := (0, 0, 0, 0)) (by decide +kernel) (by decide) (fun y104 hy104 => ?_)
    refine y_ial (i := 2) (len := 1) (r := (0, 0, 0, 0)) (by decide +kernel) hg hR at1012 (by omega) hm ?_
    refine y_cT (c := .ge) (off := 68) (pc' := 110) (len := 3) (r := (0, 0, 0, 0)) (by decide +kernel) (acmpT (c := .ge) (by show _ ≤ _; omega)) (by decide +kernel) ?_
    exact kk τ h xk l2 l3 S0
  | succ n ih =>
    intro τ h S0 k xk l2 l3 hm hxk hkm hn
    have hg := S0.2.1
    have hR := S0.1 _ _ hR0
    refine y_same (i := .iload_n 1) (len := 1) (r := (0, 0, 0, 0)) (pc' := 39) (ls' := [some (.inl (some R)), some (zi xk), l2, l3]) (st' := [zi xk]) (by decide +kernel) (fun k q => by cases q) rfl ?_
    refine y_same (i := .aload_n 0) (len := 1) (r := (0, 0, 0, 0)) (pc' := 40) (ls' := [some (.inl (some R)), some (zi xk), l2, l3]) (st' := [.inl (some R), zi xk]) (by decide +kernel) (fun k q => by cases q) rfl ?_
    refine y_ic (c := 2) (len := 1) (r := (0, 0, 0, 0)) (by decide +kernel) (by decide) (fun y105 hy105 => ?_)
    refine y_ial (i := 2) (len := 1) (r := (0, 0, 0, 0)) (by decide +kernel) hg hR at1012 (by omega) hm ?_
    rcases Decidable.em (xk.toInt ≥ xm.toInt) with q106 | q106
    ·
      refine y_cT (c := .ge) (off := 68) (pc' := 110) (len := 3) (r := (0, 0, 0, 0)) (by decide +kernel) (acmpT (c := .ge) (by show _ ≤ _; omega)) (by decide +kernel) ?_
      exact kk τ h xk l2 l3 S0
    ·
      refine y_cF (c := .ge) (off := 68) (len := 3) (r := (0, 0, 0, 0)) (by decide +kernel) (acmpF (c := .ge) (by show _ < _; omega)) ?_
      refine y_same (i := .aload_n 0) (len := 1) (r := (0, 0, 0, 0)) (pc' := 46) (ls' := [some (.inl (some R)), some (zi xk), l2, l3]) (st' := [.inl (some R)]) (by decide +kernel) (fun k q => by cases q) rfl ?_
      refine y_same (i := .iload_n 1) (len := 1) (r := (0, 0, 0, 0)) (pc' := 47) (ls' := [some (.inl (some R)), some (zi xk), l2, l3]) (st' := [zi xk, .inl (some R)]) (by decide +kernel) (fun k q => by cases q) rfl ?_
      refine y_cI (i := .invokestatic 259) (len := 3) (r := (1, 199, 12, 1654)) (nL := 1) (k := 1) (n := 1) (hs := []) (args := [zi xk]) (rest := [.inl (some R)]) (l0 := [some (zi xk)]) (by decide +kernel) (Or.inl ⟨_, rfl⟩) rfl rfl rfl rfl (Nat.le_of_ble_eq_true rfl) rfl rfl (e_claimIn (by omega) (by omega)) (fun y107 qy107 hRy107 => ?_)
      obtain ⟨rfl, hy107⟩ := hRy107
      refine y_ic (c := 1) (len := 1) (r := (0, 0, 0, 0)) (by decide +kernel) (by decide) (fun y108 hy108 => ?_)
      refine y_add (len := 1) (r := (0, 0, 0, 0)) (by decide +kernel) (by omega) (by omega) (fun y109 hy109 => ?_)
      obtain ⟨v110, hv111, lv110, uv110⟩ := g_int (i := ((136 + 4 * k) + 1)) hg hR at1012 (show ((136 + 4 * k) + 1) < 200 by omega) (srC (by omega) (by omega))
      refine y_ial (i := ((136 + 4 * k) + 1)) (len := 1) (r := (0, 0, 0, 0)) (by decide +kernel) hg hR at1012 (by omega) hv111 ?_
      refine y_same (i := .istore_n 2) (len := 1) (r := (0, 0, 0, 0)) (pc' := 54) (ls' := [some (.inl (some R)), some (zi xk), some (zi v110), l3]) (st' := []) (by decide +kernel) (fun k q => by cases q) rfl ?_
      refine y_same (i := .aload_n 0) (len := 1) (r := (0, 0, 0, 0)) (pc' := 55) (ls' := [some (.inl (some R)), some (zi xk), some (zi v110), l3]) (st' := [.inl (some R)]) (by decide +kernel) (fun k q => by cases q) rfl ?_
      refine y_same (i := .iload_n 1) (len := 1) (r := (0, 0, 0, 0)) (pc' := 56) (ls' := [some (.inl (some R)), some (zi xk), some (zi v110), l3]) (st' := [zi xk, .inl (some R)]) (by decide +kernel) (fun k q => by cases q) rfl ?_
      refine y_cI (i := .invokestatic 259) (len := 3) (r := (1, 199, 12, 1654)) (nL := 1) (k := 1) (n := 1) (hs := []) (args := [zi xk]) (rest := [.inl (some R)]) (l0 := [some (zi xk)]) (by decide +kernel) (Or.inl ⟨_, rfl⟩) rfl rfl rfl rfl (Nat.le_of_ble_eq_true rfl) rfl rfl (e_claimIn (by omega) (by omega)) (fun y112 qy112 hRy112 => ?_)
      obtain ⟨rfl, hy112⟩ := hRy112
      refine y_ic (c := 2) (len := 1) (r := (0, 0, 0, 0)) (by decide +kernel) (by decide) (fun y113 hy113 => ?_)
      refine y_add (len := 1) (r := (0, 0, 0, 0)) (by decide +kernel) (by omega) (by omega) (fun y114 hy114 => ?_)
      obtain ⟨v115, hv116, lv115, uv115⟩ := g_int (i := ((136 + 4 * k) + 2)) hg hR at1012 (show ((136 + 4 * k) + 2) < 200 by omega) (srC (by omega) (by omega))
      refine y_ial (i := ((136 + 4 * k) + 2)) (len := 1) (r := (0, 0, 0, 0)) (by decide +kernel) hg hR at1012 (by omega) hv116 ?_
      refine y_same (i := .istore_n 3) (len := 1) (r := (0, 0, 0, 0)) (pc' := 63) (ls' := [some (.inl (some R)), some (zi xk), some (zi v110), some (zi v115)]) (st' := []) (by decide +kernel) (fun k q => by cases q) rfl ?_
      refine y_same (i := .aload_n 0) (len := 1) (r := (0, 0, 0, 0)) (pc' := 64) (ls' := [some (.inl (some R)), some (zi xk), some (zi v110), some (zi v115)]) (st' := [.inl (some R)]) (by decide +kernel) (fun k q => by cases q) rfl ?_
      refine y_same (i := .iload_n 1) (len := 1) (r := (0, 0, 0, 0)) (pc' := 65) (ls' := [some (.inl (some R)), some (zi xk), some (zi v110), some (zi v115)]) (st' := [zi xk, .inl (some R)]) (by decide +kernel) (fun k q => by cases q) rfl ?_
      refine y_cI (i := .invokestatic 259) (len := 3) (r := (1, 199, 12, 1654)) (nL := 1) (k := 1) (n := 1) (hs := []) (args := [zi xk]) (rest := [.inl (some R)]) (l0 := [some (zi xk)]) (by decide +kernel) (Or.inl ⟨_, rfl⟩) rfl rfl rfl rfl (Nat.le_of_ble_eq_true rfl) rfl rfl (e_claimIn (by omega) (by omega)) (fun y117 qy117 hRy117 => ?_)
      obtain ⟨rfl, hy117⟩ := hRy117
      obtain ⟨v118, hv119, lv118, uv118⟩ := g_int (i := (136 + 4 * k)) hg hR at1012 (show (136 + 4 * k) < 200 by omega) (srC (by omega) (by omega))
      refine y_ial (i := (136 + 4 * k)) (len := 1) (r := (0, 0, 0, 0)) (by decide +kernel) hg hR at1012 (by omega) hv119 ?_
      refine y_ic (c := 1) (len := 1) (r := (0, 0, 0, 0)) (by decide +kernel) (by decide) (fun y120 hy120 => ?_)
      rcases Decidable.em (v118.toInt ≠ y120.toInt) with q121 | q121
      ·
        refine y_cT (c := .ne) (off := 11) (pc' := 81) (len := 3) (r := (0, 0, 0, 0)) (by decide +kernel) (acmpT (c := .ne) (by show ¬ (_ = _); omega)) (by decide +kernel) ?_
        refine y_same (i := .aload_n 0) (len := 1) (r := (0, 0, 0, 0)) (pc' := 82) (ls' := [some (.inl (some R)), some (zi xk), some (zi v110), some (zi v115)]) (st' := [.inl (some R)]) (by decide +kernel) (fun k q => by cases q) rfl ?_
        refine y_same (i := .iload_n 2) (len := 1) (r := (0, 0, 0, 0)) (pc' := 83) (ls' := [some (.inl (some R)), some (zi xk), some (zi v110), some (zi v115)]) (st' := [zi v110, .inl (some R)]) (by decide +kernel) (fun k q => by cases q) rfl ?_
        refine y_same (i := .iload_n 3) (len := 1) (r := (0, 0, 0, 0)) (pc' := 84) (ls' := [some (.inl (some R)), some (zi xk), some (zi v110), some (zi v115)]) (st' := [zi v115, zi v110, .inl (some R)]) (by decide +kernel) (fun k q => by cases q) rfl ?_
        refine y_cI (i := .invokestatic 298) (len := 3) (r := (1, 212, 12, 1727)) (nL := 5) (k := 2) (n := 3) (hs := []) (args := [.inl (some R), zi v110, zi v115]) (rest := []) (l0 := [some (.inl (some R)), some (zi v110), some (zi v115), none, none]) (by decide +kernel) (Or.inl ⟨_, rfl⟩) rfl rfl rfl rfl (Nat.le_of_ble_eq_true rfl) rfl rfl (use_I (τ := τ) 0 1 (hC 212 ac265 List.mem_cons_self (by decide)) rfl hg (show aqsM _ _ [.inl (some R), zi v110, zi v115] from ⟨aqR hR, aqI (by omega) (by omega), aqI (by omega) (by omega), trivial⟩) rfl (by decide +kernel) (by decide)) (fun y122 h122 hRy122 => ?_)
        obtain ⟨ly122, uy122, τ122, hu122, hg122, hF122⟩ := hRy122
        have S122 := smS_of hu122 hg122 hF122
        have hR122 := hu122 _ _ hR
        rcases Decidable.em (y122.toInt ≠ 0) with q123 | q123
        ·
          refine y_iT (c := .ne) (off := 6) (pc' := 93) (len := 3) (r := (0, 0, 0, 0)) (by decide +kernel) (acmpT (c := .ne) (by show ¬ (_ = _); omega)) (by decide +kernel) ?_
          refine y_same (i := .aload_n 0) (len := 1) (r := (0, 0, 0, 0)) (pc' := 94) (ls' := [some (.inl (some R)), some (zi xk), some (zi v110), some (zi v115)]) (st' := [.inl (some R)]) (by decide +kernel) (fun k q => by cases q) rfl ?_
          refine y_ic (c := 2) (len := 1) (r := (0, 0, 0, 0)) (by decide +kernel) (by decide) (fun y124 hy124 => ?_)
          refine y_si (c := 136) (len := 3) (r := (0, 0, 0, 0)) (by decide +kernel) (by decide) (fun y125 hy125 => ?_)
          refine y_same (i := .iload_n 1) (len := 1) (r := (0, 0, 0, 0)) (pc' := 99) (ls' := [some (.inl (some R)), some (zi xk), some (zi v110), some (zi v115)]) (st' := [zi xk, zi y125, zi y124, .inl (some R)]) (by decide +kernel) (fun k q => by cases q) rfl ?_
          have hv127 := (S122.2.2 R 1012 2 hR).trans hm
          refine y_cV (i := .invokestatic 269) (len := 3) (r := (1, 207, 12, 1657)) (nL := 5) (k := 0) (n := 4) (hs := []) (args := [.inl (some R), zi y124, zi y125, zi xk]) (rest := []) (l0 := [some (.inl (some R)), some (zi y124), some (zi y125), some (zi xk), none]) (by decide +kernel) (Or.inl ⟨_, rfl⟩) rfl rfl rfl rfl (Nat.le_of_ble_eq_true rfl) rfl rfl (e_goes (c := 2) (f := 136) (k := k) (a := m) hg122 hR122 (by omega) (by omega) (by omega) (by omega) (by omega) hxk (by omega) hv127 (by omega) (by omega) (by omega)) (fun h126 hR126 => ?_)
          obtain ⟨hg126, hl126, ho126, y126, hy126, e126⟩ := hR126
          refine y_ic (c := 1) (len := 1) (r := (0, 0, 0, 0)) (by decide +kernel) (by decide) (fun y128 hy128 => ?_)
          refine y_rI (len := 1) (r := (0, 0, 0, 0)) (nL := 4) (k := 2) (n9 := 1) (hs := []) (by decide +kernel) rfl (zfit_b (by omega) (by omega)).2 ?_
          exact rd_of (smS_trans S0 S122) hR0 (by omega) hg126 (fun k j hk => ho126 k j (Or.inl hk)) (fall_goes (c := 2) (by omega) ho126 hv127 (by omega) hy126 e126)
        ·
          refine y_iF (c := .ne) (off := 6) (len := 3) (r := (0, 0, 0, 0)) (by decide +kernel) (acmpF (c := .ne) (by show _ = _; omega)) ?_
          refine y_goto (off := 14) (pc' := 104) (len := 3) (r := (0, 0, 0, 0)) (by decide +kernel) (by decide +kernel) ?_
          refine y_inc (j := 1) (a := xk) (c := 1) (ls' := fun v => [some (.inl (some R)), some v, some (zi v110), some (zi v115)]) (len := 3) (r := (0, 0, 0, 0)) (by decide +kernel) rfl (fun _ => rfl) (by decide) (by omega) (by omega) (fun y129 hy129 => ?_)
          show qX 8 216 107 [some (.inl (some R)), some (zi y129), some (zi v110), some (zi v115)] [] h122 t _
          refine y_goto (off := (-69)) (pc' := 38) (len := 3) (r := (0, 0, 0, 0)) (by decide +kernel) (by decide +kernel) ?_
          have hv130 := (S122.2.2 R 1012 2 hR).trans hm
          exact ih τ122 h122 (smS_trans S0 S122) (k + 1) y129 _ _ hv130 (by omega) (by omega) (by omega)
      ·
        refine y_cF (c := .ne) (off := 11) (len := 3) (r := (0, 0, 0, 0)) (by decide +kernel) (acmpF (c := .ne) (by show _ = _; omega)) ?_
        refine y_same (i := .iload_n 2) (len := 1) (r := (0, 0, 0, 0)) (pc' := 74) (ls' := [some (.inl (some R)), some (zi xk), some (zi v110), some (zi v115)]) (st' := [zi v110]) (by decide +kernel) (fun k q => by cases q) rfl ?_
        refine y_same (i := .iload_n 3) (len := 1) (r := (0, 0, 0, 0)) (pc' := 75) (ls' := [some (.inl (some R)), some (zi xk), some (zi v110), some (zi v115)]) (st' := [zi v115, zi v110]) (by decide +kernel) (fun k q => by cases q) rfl ?_
        rcases Decidable.em (v110.toInt = v115.toInt) with q131 | q131
        ·
          refine y_cT (c := .eq) (off := 18) (pc' := 93) (len := 3) (r := (0, 0, 0, 0)) (by decide +kernel) (acmpT (c := .eq) (by show _ = _; omega)) (by decide +kernel) ?_
          refine y_same (i := .aload_n 0) (len := 1) (r := (0, 0, 0, 0)) (pc' := 94) (ls' := [some (.inl (some R)), some (zi xk), some (zi v110), some (zi v115)]) (st' := [.inl (some R)]) (by decide +kernel) (fun k q => by cases q) rfl ?_
          refine y_ic (c := 2) (len := 1) (r := (0, 0, 0, 0)) (by decide +kernel) (by decide) (fun y132 hy132 => ?_)
          refine y_si (c := 136) (len := 3) (r := (0, 0, 0, 0)) (by decide +kernel) (by decide) (fun y133 hy133 => ?_)
          refine y_same (i := .iload_n 1) (len := 1) (r := (0, 0, 0, 0)) (pc' := 99) (ls' := [some (.inl (some R)), some (zi xk), some (zi v110), some (zi v115)]) (st' := [zi xk, zi y133, zi y132, .inl (some R)]) (by decide +kernel) (fun k q => by cases q) rfl ?_
          refine y_cV (i := .invokestatic 269) (len := 3) (r := (1, 207, 12, 1657)) (nL := 5) (k := 0) (n := 4) (hs := []) (args := [.inl (some R), zi y132, zi y133, zi xk]) (rest := []) (l0 := [some (.inl (some R)), some (zi y132), some (zi y133), some (zi xk), none]) (by decide +kernel) (Or.inl ⟨_, rfl⟩) rfl rfl rfl rfl (Nat.le_of_ble_eq_true rfl) rfl rfl (e_goes (c := 2) (f := 136) (k := k) (a := m) hg hR (by omega) (by omega) (by omega) (by omega) (by omega) hxk (by omega) hm (by omega) (by omega) (by omega)) (fun h134 hR134 => ?_)
          obtain ⟨hg134, hl134, ho134, y134, hy134, e134⟩ := hR134
          refine y_ic (c := 1) (len := 1) (r := (0, 0, 0, 0)) (by decide +kernel) (by decide) (fun y135 hy135 => ?_)
          refine y_rI (len := 1) (r := (0, 0, 0, 0)) (nL := 4) (k := 2) (n9 := 1) (hs := []) (by decide +kernel) rfl (zfit_b (by omega) (by omega)).2 ?_
          exact rd_of S0 hR0 (by omega) hg134 (fun k j hk => ho134 k j (Or.inl hk)) (fall_goes (c := 2) (by omega) ho134 hm (by omega) hy134 e134)
        ·
          refine y_cF (c := .eq) (off := 18) (len := 3) (r := (0, 0, 0, 0)) (by decide +kernel) (acmpF (c := .eq) (by show ¬ (_ = _); omega)) ?_
          refine y_goto (off := 26) (pc' := 104) (len := 3) (r := (0, 0, 0, 0)) (by decide +kernel) (by decide +kernel) ?_
          refine y_inc (j := 1) (a := xk) (c := 1) (ls' := fun v => [some (.inl (some R)), some v, some (zi v110), some (zi v115)]) (len := 3) (r := (0, 0, 0, 0)) (by decide +kernel) rfl (fun _ => rfl) (by decide) (by omega) (by omega) (fun y136 hy136 => ?_)
          show qX 8 216 107 [some (.inl (some R)), some (zi y136), some (zi v110), some (zi v115)] [] h t _
          refine y_goto (off := (-69)) (pc' := 38) (len := 3) (r := (0, 0, 0, 0)) (by decide +kernel) (by decide +kernel) ?_
          exact ih τ h S0 (k + 1) y136 _ _ hm (by omega) (by omega) (by omega)
theorem rr_3i {τ0 τ : List Nat} {h0 : zh} {R t : Nat} (hC : ∀ (mk : Nat) (c' : aK), c' ∈ actb mk → c'.2.2.1 ≤ 8 → cOK aJ mk c') (hR0 : τ0[R]? = some 1012) {h : zh} (S0 : smS τ0 h0 τ h) {x : Nat} {xi xx : Int32} (hxx : xx.toInt = (x : Int)) (hx9 : x < 21) (kk : ∀ xy : Int32, qX 8 216 178 [some (.inl (some R)), some (zi xi), some (zi xx), some (zi xy)] [] h t (rI (rdR τ0 R h0) t)) : ∀ (n y : Nat) (xy : Int32), xy.toInt = (y : Int) → y ≤ x → x ≤ y + n → qX 8 216 125 [some (.inl (some R)), some (zi xi), some (zi xx), some (zi xy)] [] h t (rI (rdR τ0 R h0) t) := by
  have hg := S0.2.1
  have hR := S0.1 _ _ hR0
  intro n
  induction n with
  | zero =>
    intro y xy hxy hkm hn
    refine y_same (i := .iload_n 3) (len := 1) (r := (0, 0, 0, 0)) (pc' := 126) (ls' := [some (.inl (some R)), some (zi xi), some (zi xx), some (zi xy)]) (st' := [zi xy]) (by decide +kernel) (fun k q => by cases q) rfl ?_
    refine y_same (i := .iload_n 2) (len := 1) (r := (0, 0, 0, 0)) (pc' := 127) (ls' := [some (.inl (some R)), some (zi xi), some (zi xx), some (zi xy)]) (st' := [zi xx, zi xy]) (by decide +kernel) (fun k q => by cases q) rfl ?_
    refine y_cT (c := .ge) (off := 51) (pc' := 178) (len := 3) (r := (0, 0, 0, 0)) (by decide +kernel) (acmpT (c := .ge) (by show _ ≤ _; omega)) (by decide +kernel) ?_
    exact kk xy
  | succ n ih =>
    intro y xy hxy hkm hn
    refine y_same (i := .iload_n 3) (len := 1) (r := (0, 0, 0, 0)) (pc' := 126) (ls' := [some (.inl (some R)), some (zi xi), some (zi xx), some (zi xy)]) (st' := [zi xy]) (by decide +kernel) (fun k q => by cases q) rfl ?_
    refine y_same (i := .iload_n 2) (len := 1) (r := (0, 0, 0, 0)) (pc' := 127) (ls' := [some (.inl (some R)), some (zi xi), some (zi xx), some (zi xy)]) (st' := [zi xx, zi xy]) (by decide +kernel) (fun k q => by cases q) rfl ?_
    rcases Decidable.em (xy.toInt ≥ xx.toInt) with q137 | q137
    ·
      refine y_cT (c := .ge) (off := 51) (pc' := 178) (len := 3) (r := (0, 0, 0, 0)) (by decide +kernel) (acmpT (c := .ge) (by show _ ≤ _; omega)) (by decide +kernel) ?_
      exact kk xy
    ·
      refine y_cF (c := .ge) (off := 51) (len := 3) (r := (0, 0, 0, 0)) (by decide +kernel) (acmpF (c := .ge) (by show _ < _; omega)) ?_
      refine y_same (i := .aload_n 0) (len := 1) (r := (0, 0, 0, 0)) (pc' := 131) (ls' := [some (.inl (some R)), some (zi xi), some (zi xx), some (zi xy)]) (st' := [.inl (some R)]) (by decide +kernel) (fun k q => by cases q) rfl ?_
      refine y_same (i := .iload_n 2) (len := 1) (r := (0, 0, 0, 0)) (pc' := 132) (ls' := [some (.inl (some R)), some (zi xi), some (zi xx), some (zi xy)]) (st' := [zi xx, .inl (some R)]) (by decide +kernel) (fun k q => by cases q) rfl ?_
      refine y_same (i := .iload_n 3) (len := 1) (r := (0, 0, 0, 0)) (pc' := 133) (ls' := [some (.inl (some R)), some (zi xi), some (zi xx), some (zi xy)]) (st' := [zi xy, zi xx, .inl (some R)]) (by decide +kernel) (fun k q => by cases q) rfl ?_
      obtain ⟨v138, hv139, lv138, uv138⟩ := g_int (i := (3 + x)) hg hR at1012 (show (3 + x) < 200 by omega) (srB (by omega) (by omega))
      refine y_cI (i := .invokestatic 245) (len := 3) (r := (1, 200, 12, 1666)) (nL := 3) (k := 2) (n := 3) (hs := []) (args := [.inl (some R), zi xx, zi xy]) (rest := []) (l0 := [some (.inl (some R)), some (zi xx), some (zi xy)]) (by decide +kernel) (Or.inl ⟨_, rfl⟩) rfl rfl rfl rfl (Nat.le_of_ble_eq_true rfl) rfl rfl (e_differ (p := x) hg hR (by omega) (by omega) hv139) (fun y140 qy140 hRy140 => ?_)
      obtain ⟨rfl, hy140a, hy140b, hy140c⟩ := hRy140
      rcases Decidable.em (y140.toInt = 0) with q141 | q141
      ·
        refine y_iT (c := .eq) (off := 36) (pc' := 172) (len := 3) (r := (0, 0, 0, 0)) (by decide +kernel) (acmpT (c := .eq) (by show _ = _; omega)) (by decide +kernel) ?_
        refine y_inc (j := 3) (a := xy) (c := 1) (ls' := fun v => [some (.inl (some R)), some (zi xi), some (zi xx), some v]) (len := 3) (r := (0, 0, 0, 0)) (by decide +kernel) rfl (fun _ => rfl) (by decide) (by omega) (by omega) (fun y142 hy142 => ?_)
        show qX 8 216 175 [some (.inl (some R)), some (zi xi), some (zi xx), some (zi y142)] [] h t _
        refine y_goto (off := (-50)) (pc' := 125) (len := 3) (r := (0, 0, 0, 0)) (by decide +kernel) (by decide +kernel) ?_
        exact ih (y + 1) y142 (by omega) (by omega) (by omega)
      ·
        refine y_iF (c := .eq) (off := 36) (len := 3) (r := (0, 0, 0, 0)) (by decide +kernel) (acmpF (c := .eq) (by show ¬ (_ = _); omega)) ?_
        refine y_same (i := .iload_n 1) (len := 1) (r := (0, 0, 0, 0)) (pc' := 140) (ls' := [some (.inl (some R)), some (zi xi), some (zi xx), some (zi xy)]) (st' := [zi xi]) (by decide +kernel) (fun k q => by cases q) rfl ?_
        refine y_same (i := .iload_n 2) (len := 1) (r := (0, 0, 0, 0)) (pc' := 141) (ls' := [some (.inl (some R)), some (zi xi), some (zi xx), some (zi xy)]) (st' := [zi xx, zi xi]) (by decide +kernel) (fun k q => by cases q) rfl ?_
        refine y_bp (i := .ishr) (f := fun x y => x >>> (y &&& 31)) (len := 1) (r := (0, 0, 0, 0)) (by decide +kernel) rfl rfl (fun y143 hy143 => ?_)
        have hy143 : y143 = xi >>> (xx &&& 31) := hy143
        refine y_ic (c := 1) (len := 1) (r := (0, 0, 0, 0)) (by decide +kernel) (by decide) (fun y144 hy144 => ?_)
        refine y_bp (i := .iand) (f := fun x y => x &&& y) (len := 1) (r := (0, 0, 0, 0)) (by decide +kernel) rfl rfl (fun y145 hy145 => ?_)
        have hy145 : y145 = y143 &&& y144 := hy145
        refine y_ic (c := 1) (len := 1) (r := (0, 0, 0, 0)) (by decide +kernel) (by decide) (fun y146 hy146 => ?_)
        rcases Decidable.em (y145.toInt ≠ y146.toInt) with q147 | q147
        ·
          refine y_cT (c := .ne) (off := 19) (pc' := 164) (len := 3) (r := (0, 0, 0, 0)) (by decide +kernel) (acmpT (c := .ne) (by show ¬ (_ = _); omega)) (by decide +kernel) ?_
          refine y_same (i := .aload_n 0) (len := 1) (r := (0, 0, 0, 0)) (pc' := 165) (ls' := [some (.inl (some R)), some (zi xi), some (zi xx), some (zi xy)]) (st' := [.inl (some R)]) (by decide +kernel) (fun k q => by cases q) rfl ?_
          refine y_same (i := .iload_n 2) (len := 1) (r := (0, 0, 0, 0)) (pc' := 166) (ls' := [some (.inl (some R)), some (zi xi), some (zi xx), some (zi xy)]) (st' := [zi xx, .inl (some R)]) (by decide +kernel) (fun k q => by cases q) rfl ?_
          refine y_same (i := .iload_n 3) (len := 1) (r := (0, 0, 0, 0)) (pc' := 167) (ls' := [some (.inl (some R)), some (zi xi), some (zi xx), some (zi xy)]) (st' := [zi xy, zi xx, .inl (some R)]) (by decide +kernel) (fun k q => by cases q) rfl ?_
          refine y_cV (i := .invokestatic 262) (len := 3) (r := (1, 202, 12, 1669)) (nL := 3) (k := 0) (n := 3) (hs := []) (args := [.inl (some R), zi xx, zi xy]) (rest := []) (l0 := [some (.inl (some R)), some (zi xx), some (zi xy)]) (by decide +kernel) (Or.inl ⟨_, rfl⟩) rfl rfl rfl rfl (Nat.le_of_ble_eq_true rfl) rfl rfl (e_agrees (p := x) (q := y) hg hR (by omega) (by omega) (by omega) (by omega) hv139) (fun h148 hR148 => ?_)
          obtain ⟨hg148, hl148, ho148, hx148⟩ := hR148
          refine y_ic (c := 1) (len := 1) (r := (0, 0, 0, 0)) (by decide +kernel) (by decide) (fun y149 hy149 => ?_)
          refine y_rI (len := 1) (r := (0, 0, 0, 0)) (nL := 4) (k := 2) (n9 := 1) (hs := []) (by decide +kernel) rfl (zfit_b (by omega) (by omega)).2 ?_
          exact rd_of S0 hR0 (by omega) hg148 (fun k j hk => ho148 k j (Or.inl hk)) (fall_agrees (p := x) (q := y) (by omega) (by omega) (by omega) (by omega) ho148 hv139 (hy140c (by omega)) hx148)
        ·
          refine y_cF (c := .ne) (off := 19) (len := 3) (r := (0, 0, 0, 0)) (by decide +kernel) (acmpF (c := .ne) (by show _ = _; omega)) ?_
          refine y_same (i := .iload_n 3) (len := 1) (r := (0, 0, 0, 0)) (pc' := 149) (ls' := [some (.inl (some R)), some (zi xi), some (zi xx), some (zi xy)]) (st' := [zi xy]) (by decide +kernel) (fun k q => by cases q) rfl ?_
          rcases Decidable.em (xy.toInt = 0) with q150 | q150
          ·
            refine y_iT (c := .eq) (off := 23) (pc' := 172) (len := 3) (r := (0, 0, 0, 0)) (by decide +kernel) (acmpT (c := .eq) (by show _ = _; omega)) (by decide +kernel) ?_
            refine y_inc (j := 3) (a := xy) (c := 1) (ls' := fun v => [some (.inl (some R)), some (zi xi), some (zi xx), some v]) (len := 3) (r := (0, 0, 0, 0)) (by decide +kernel) rfl (fun _ => rfl) (by decide) (by omega) (by omega) (fun y151 hy151 => ?_)
            show qX 8 216 175 [some (.inl (some R)), some (zi xi), some (zi xx), some (zi y151)] [] h t _
            refine y_goto (off := (-50)) (pc' := 125) (len := 3) (r := (0, 0, 0, 0)) (by decide +kernel) (by decide +kernel) ?_
            exact ih (y + 1) y151 (by omega) (by omega) (by omega)
          ·
            refine y_iF (c := .eq) (off := 23) (len := 3) (r := (0, 0, 0, 0)) (by decide +kernel) (acmpF (c := .eq) (by show ¬ (_ = _); omega)) ?_
            refine y_same (i := .iload_n 1) (len := 1) (r := (0, 0, 0, 0)) (pc' := 153) (ls' := [some (.inl (some R)), some (zi xi), some (zi xx), some (zi xy)]) (st' := [zi xi]) (by decide +kernel) (fun k q => by cases q) rfl ?_
            refine y_same (i := .iload_n 3) (len := 1) (r := (0, 0, 0, 0)) (pc' := 154) (ls' := [some (.inl (some R)), some (zi xi), some (zi xx), some (zi xy)]) (st' := [zi xy, zi xi]) (by decide +kernel) (fun k q => by cases q) rfl ?_
            refine y_bp (i := .ishr) (f := fun x y => x >>> (y &&& 31)) (len := 1) (r := (0, 0, 0, 0)) (by decide +kernel) rfl rfl (fun y152 hy152 => ?_)
            have hy152 : y152 = xi >>> (xy &&& 31) := hy152
            refine y_ic (c := 1) (len := 1) (r := (0, 0, 0, 0)) (by decide +kernel) (by decide) (fun y153 hy153 => ?_)
            refine y_bp (i := .iand) (f := fun x y => x &&& y) (len := 1) (r := (0, 0, 0, 0)) (by decide +kernel) rfl rfl (fun y154 hy154 => ?_)
            have hy154 : y154 = y152 &&& y153 := hy154
            refine y_ic (c := 1) (len := 1) (r := (0, 0, 0, 0)) (by decide +kernel) (by decide) (fun y155 hy155 => ?_)
            rcases Decidable.em (y154.toInt ≠ y155.toInt) with q156 | q156
            ·
              refine y_cT (c := .ne) (off := 6) (pc' := 164) (len := 3) (r := (0, 0, 0, 0)) (by decide +kernel) (acmpT (c := .ne) (by show ¬ (_ = _); omega)) (by decide +kernel) ?_
              refine y_same (i := .aload_n 0) (len := 1) (r := (0, 0, 0, 0)) (pc' := 165) (ls' := [some (.inl (some R)), some (zi xi), some (zi xx), some (zi xy)]) (st' := [.inl (some R)]) (by decide +kernel) (fun k q => by cases q) rfl ?_
              refine y_same (i := .iload_n 2) (len := 1) (r := (0, 0, 0, 0)) (pc' := 166) (ls' := [some (.inl (some R)), some (zi xi), some (zi xx), some (zi xy)]) (st' := [zi xx, .inl (some R)]) (by decide +kernel) (fun k q => by cases q) rfl ?_
              refine y_same (i := .iload_n 3) (len := 1) (r := (0, 0, 0, 0)) (pc' := 167) (ls' := [some (.inl (some R)), some (zi xi), some (zi xx), some (zi xy)]) (st' := [zi xy, zi xx, .inl (some R)]) (by decide +kernel) (fun k q => by cases q) rfl ?_
              refine y_cV (i := .invokestatic 262) (len := 3) (r := (1, 202, 12, 1669)) (nL := 3) (k := 0) (n := 3) (hs := []) (args := [.inl (some R), zi xx, zi xy]) (rest := []) (l0 := [some (.inl (some R)), some (zi xx), some (zi xy)]) (by decide +kernel) (Or.inl ⟨_, rfl⟩) rfl rfl rfl rfl (Nat.le_of_ble_eq_true rfl) rfl rfl (e_agrees (p := x) (q := y) hg hR (by omega) (by omega) (by omega) (by omega) hv139) (fun h157 hR157 => ?_)
              obtain ⟨hg157, hl157, ho157, hx157⟩ := hR157
              refine y_ic (c := 1) (len := 1) (r := (0, 0, 0, 0)) (by decide +kernel) (by decide) (fun y158 hy158 => ?_)
              refine y_rI (len := 1) (r := (0, 0, 0, 0)) (nL := 4) (k := 2) (n9 := 1) (hs := []) (by decide +kernel) rfl (zfit_b (by omega) (by omega)).2 ?_
              exact rd_of S0 hR0 (by omega) hg157 (fun k j hk => ho157 k j (Or.inl hk)) (fall_agrees (p := x) (q := y) (by omega) (by omega) (by omega) (by omega) ho157 hv139 (hy140c (by omega)) hx157)
            ·
              refine y_cF (c := .ne) (off := 6) (len := 3) (r := (0, 0, 0, 0)) (by decide +kernel) (acmpF (c := .ne) (by show _ = _; omega)) ?_
              refine y_goto (off := 11) (pc' := 172) (len := 3) (r := (0, 0, 0, 0)) (by decide +kernel) (by decide +kernel) ?_
              refine y_inc (j := 3) (a := xy) (c := 1) (ls' := fun v => [some (.inl (some R)), some (zi xi), some (zi xx), some v]) (len := 3) (r := (0, 0, 0, 0)) (by decide +kernel) rfl (fun _ => rfl) (by decide) (by omega) (by omega) (fun y159 hy159 => ?_)
              show qX 8 216 175 [some (.inl (some R)), some (zi xi), some (zi xx), some (zi y159)] [] h t _
              refine y_goto (off := (-50)) (pc' := 125) (len := 3) (r := (0, 0, 0, 0)) (by decide +kernel) (by decide +kernel) ?_
              exact ih (y + 1) y159 (by omega) (by omega) (by omega)
theorem rr_3 {τ0 τ : List Nat} {h0 : zh} {R t : Nat} (hC : ∀ (mk : Nat) (c' : aK), c' ∈ actb mk → c'.2.2.1 ≤ 8 → cOK aJ mk c') (hR0 : τ0[R]? = some 1012) {h : zh} (S0 : smS τ0 h0 τ h) {xi : Int32} : ∀ (n x : Nat) (xx : Int32) (l3 : Option zv), xx.toInt = (x : Int) → x ≤ 21 → 21 ≤ x + n → qX 8 216 117 [some (.inl (some R)), some (zi xi), some (zi xx), l3] [] h t (rI (rdR τ0 R h0) t) := by
  have hg := S0.2.1
  have hR := S0.1 _ _ hR0
  intro n
  induction n with
  | zero =>
    intro x xx l3 hxx hkm hn
    refine y_same (i := .iload_n 2) (len := 1) (r := (0, 0, 0, 0)) (pc' := 118) (ls' := [some (.inl (some R)), some (zi xi), some (zi xx), l3]) (st' := [zi xx]) (by decide +kernel) (fun k q => by cases q) rfl ?_
    refine y_bi (c := 21) (len := 2) (r := (0, 0, 0, 0)) (by decide +kernel) (by decide) (fun y160 hy160 => ?_)
    refine y_cT (c := .ge) (off := 64) (pc' := 184) (len := 3) (r := (0, 0, 0, 0)) (by decide +kernel) (acmpT (c := .ge) (by show _ ≤ _; omega)) (by decide +kernel) ?_
    refine y_ic (c := 0) (len := 1) (r := (0, 0, 0, 0)) (by decide +kernel) (by decide) (fun y161 hy161 => ?_)
    refine y_rI (len := 1) (r := (0, 0, 0, 0)) (nL := 4) (k := 2) (n9 := 1) (hs := []) (by decide +kernel) rfl (zfit_b (by omega) (by omega)).2 ?_
    exact rd_0 S0 (by omega)
  | succ n ih =>
    intro x xx l3 hxx hkm hn
    refine y_same (i := .iload_n 2) (len := 1) (r := (0, 0, 0, 0)) (pc' := 118) (ls' := [some (.inl (some R)), some (zi xi), some (zi xx), l3]) (st' := [zi xx]) (by decide +kernel) (fun k q => by cases q) rfl ?_
    refine y_bi (c := 21) (len := 2) (r := (0, 0, 0, 0)) (by decide +kernel) (by decide) (fun y162 hy162 => ?_)
    rcases Decidable.em (xx.toInt ≥ y162.toInt) with q163 | q163
    ·
      refine y_cT (c := .ge) (off := 64) (pc' := 184) (len := 3) (r := (0, 0, 0, 0)) (by decide +kernel) (acmpT (c := .ge) (by show _ ≤ _; omega)) (by decide +kernel) ?_
      refine y_ic (c := 0) (len := 1) (r := (0, 0, 0, 0)) (by decide +kernel) (by decide) (fun y164 hy164 => ?_)
      refine y_rI (len := 1) (r := (0, 0, 0, 0)) (nL := 4) (k := 2) (n9 := 1) (hs := []) (by decide +kernel) rfl (zfit_b (by omega) (by omega)).2 ?_
      exact rd_0 S0 (by omega)
    ·
      refine y_cF (c := .ge) (off := 64) (len := 3) (r := (0, 0, 0, 0)) (by decide +kernel) (acmpF (c := .ge) (by show _ < _; omega)) ?_
      refine y_ic (c := 0) (len := 1) (r := (0, 0, 0, 0)) (by decide +kernel) (by decide) (fun y165 hy165 => ?_)
      refine y_same (i := .istore_n 3) (len := 1) (r := (0, 0, 0, 0)) (pc' := 125) (ls' := [some (.inl (some R)), some (zi xi), some (zi xx), some (zi y165)]) (st' := []) (by decide +kernel) (fun k q => by cases q) rfl ?_
      refine rr_3i hC hR0 S0 hxx (by omega) (fun xy => ?_) 21 0 y165 (by omega) (by omega) (by omega)
      refine y_inc (j := 2) (a := xx) (c := 1) (ls' := fun v => [some (.inl (some R)), some (zi xi), some v, some (zi xy)]) (len := 3) (r := (0, 0, 0, 0)) (by decide +kernel) rfl (fun _ => rfl) (by decide) (by omega) (by omega) (fun y166 hy166 => ?_)
      show qX 8 216 181 [some (.inl (some R)), some (zi xi), some (zi y166), some (zi xy)] [] h t _
      refine y_goto (off := (-64)) (pc' := 117) (len := 3) (r := (0, 0, 0, 0)) (by decide +kernel) (by decide +kernel) ?_
      exact ih (x + 1) y166 _ (by omega) (by omega) (by omega)
theorem e_readiesRight {τ : List Nat} {h : zh} {R t : Nat} (hC : ∀ (mk : Nat) (c' : aK), c' ∈ actb mk → c'.2.2.1 ≤ 8 → cOK aJ mk c') (hg : hG τ h) (hR : τ[R]? = some 1012) : qI 9 216 [some (.inl (some R)), none, none, none] h t (rdR τ R h) := by
  refine qI_of ?_
  refine y_ic (c := 0) (len := 1) (r := (0, 0, 0, 0)) (by decide +kernel) (by decide) (fun y167 hy167 => ?_)
  refine y_same (i := .istore_n 1) (len := 1) (r := (0, 0, 0, 0)) (pc' := 2) (ls' := [some (.inl (some R)), some (zi y167), none, none]) (st' := []) (by decide +kernel) (fun k q => by cases q) rfl ?_
  obtain ⟨xm1, hm1, l1, u1⟩ := g_int (i := 1) hg hR at1012 (by decide) (srA (by decide))
  refine rr_1 (m := xm1.toInt.toNat) hC hR (smS_refl hg) hm1 (by omega) (by omega) (fun xk1 => ?_) 12 0 y167 (by omega) (by omega) (by omega)
  refine y_ic (c := 0) (len := 1) (r := (0, 0, 0, 0)) (by decide +kernel) (by decide) (fun y168 hy168 => ?_)
  refine y_same (i := .istore_n 1) (len := 1) (r := (0, 0, 0, 0)) (pc' := 38) (ls' := [some (.inl (some R)), some (zi y168), none, none]) (st' := []) (by decide +kernel) (fun k q => by cases q) rfl ?_
  obtain ⟨xm2, hm2, l2, u2⟩ := g_int (i := 2) hg hR at1012 (by decide) (srA (by decide))
  refine rr_2 (m := xm2.toInt.toNat) hC hR (by omega) (by omega) (fun τb hb xk2 l2 l3 Sb => ?_) 12 τ h (smS_refl hg) 0 y168 none none hm2 (by omega) (by omega) (by omega)
  have hgb := Sb.2.1
  have hRb := Sb.1 _ _ hR
  refine y_same (i := .aload_n 0) (len := 1) (r := (0, 0, 0, 0)) (pc' := 111) (ls' := [some (.inl (some R)), some (zi xk2), l2, l3]) (st' := [.inl (some R)]) (by decide +kernel) (fun k q => by cases q) rfl ?_
  refine y_cI (i := .invokestatic 301) (len := 3) (r := (1, 217, 12, 1706)) (nL := 4) (k := 1) (n := 1) (hs := []) (args := [.inl (some R)]) (rest := []) (l0 := [some (.inl (some R)), none, none, none]) (by decide +kernel) (Or.inl ⟨_, rfl⟩) rfl rfl rfl rfl (Nat.le_of_ble_eq_true rfl) rfl rfl (use_I (τ := τb) 0 2097151 (hC 217 ac233 List.mem_cons_self (by decide)) rfl hgb (show aqsM _ _ [.inl (some R)] from ⟨aqR hRb, trivial⟩) rfl (by decide +kernel) (by decide)) (fun y169 h169 hRy169 => ?_)
  obtain ⟨ly169, uy169, τ169, hu169, hg169, hF169⟩ := hRy169
  have S169 := smS_of hu169 hg169 hF169
  have hR169 := hu169 _ _ hRb
  refine y_same (i := .istore_n 1) (len := 1) (r := (0, 0, 0, 0)) (pc' := 115) (ls' := [some (.inl (some R)), some (zi y169), l2, l3]) (st' := []) (by decide +kernel) (fun k q => by cases q) rfl ?_
  refine y_ic (c := 0) (len := 1) (r := (0, 0, 0, 0)) (by decide +kernel) (by decide) (fun y170 hy170 => ?_)
  refine y_same (i := .istore_n 2) (len := 1) (r := (0, 0, 0, 0)) (pc' := 117) (ls' := [some (.inl (some R)), some (zi y169), some (zi y170), l3]) (st' := []) (by decide +kernel) (fun k q => by cases q) rfl ?_
  exact rr_3 hC hR (smS_trans Sb S169) 21 0 y170 _ (by omega) (by omega) (by omega)
