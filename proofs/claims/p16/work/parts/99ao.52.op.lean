/-! the class's overPart: what it leaves -/
theorem e_hasT {d t RA : Nat} {τ : List Nat} {h : zh} {xk : Int32} (hg : hG τ h) (tRA : τ[RA]? = some 1004) : qI (d + 1) 63 [some (.inl (some RA)), some (zi xk)] h t (fun y h1 => h = h1 ∧ (y.toInt = 1 ∨ y.toInt = 0)) := by
  refine qI_of ?_
  refine y_same (i := .iload_n 1) (len := 1) (r := (0, 0, 0, 0)) (pc' := 1) (ls' := [some (.inl (some RA)), some (zi xk)]) (st' := [zi xk]) (by decide +kernel) (fun k q => by cases q) rfl ?_
  rcases Decidable.em (xk.toInt < 0) with q3140 | q3140
  ·
    refine y_iT (c := .lt) (off := 15) (pc' := 16) (len := 3) (r := (0, 0, 0, 0)) (by decide +kernel) (acmpT (c := .lt) (by show _ < _; omega)) (by decide +kernel) ?_
    refine y_ic (c := 0) (len := 1) (r := (0, 0, 0, 0)) (by decide +kernel) (by decide) (fun y3141 hy3141 => ?_)
    refine y_rI (len := 1) (r := (0, 0, 0, 0)) (nL := 2) (k := 2) (n9 := 2) (hs := []) (by decide +kernel) rfl (zfit_b (by omega) (by omega)).2 ?_
    exact ⟨rfl, by omega⟩
  ·
    refine y_iF (c := .lt) (off := 15) (len := 3) (r := (0, 0, 0, 0)) (by decide +kernel) (acmpF (c := .lt) (by show _ ≤ _; omega)) ?_
    refine y_same (i := .iload_n 1) (len := 1) (r := (0, 0, 0, 0)) (pc' := 5) (ls' := [some (.inl (some RA)), some (zi xk)]) (st' := [zi xk]) (by decide +kernel) (fun k q => by cases q) rfl ?_
    refine y_same (i := .aload_n 0) (len := 1) (r := (0, 0, 0, 0)) (pc' := 6) (ls' := [some (.inl (some RA)), some (zi xk)]) (st' := [.inl (some RA), zi xk]) (by decide +kernel) (fun k q => by cases q) rfl ?_
    obtain ⟨v3142, hv3143, lv3142, uv3142⟩ := g_int (i := 1) (lo := 0) (hi := 14) hg tRA aw1004 (by decide) rfl
    refine y_get (j := 9) (len := 3) (r := (6, 1, 0, 164)) (by decide +kernel) hg tRA aw1004 rfl rfl hv3143 ?_
    rcases Decidable.em (xk.toInt ≥ v3142.toInt) with q3144 | q3144
    ·
      refine y_cT (c := .ge) (off := 7) (pc' := 16) (len := 3) (r := (0, 0, 0, 0)) (by decide +kernel) (acmpT (c := .ge) (by show _ ≤ _; omega)) (by decide +kernel) ?_
      refine y_ic (c := 0) (len := 1) (r := (0, 0, 0, 0)) (by decide +kernel) (by decide) (fun y3145 hy3145 => ?_)
      refine y_rI (len := 1) (r := (0, 0, 0, 0)) (nL := 2) (k := 2) (n9 := 2) (hs := []) (by decide +kernel) rfl (zfit_b (by omega) (by omega)).2 ?_
      exact ⟨rfl, by omega⟩
    ·
      refine y_cF (c := .ge) (off := 7) (len := 3) (r := (0, 0, 0, 0)) (by decide +kernel) (acmpF (c := .ge) (by show _ < _; omega)) ?_
      refine y_ic (c := 1) (len := 1) (r := (0, 0, 0, 0)) (by decide +kernel) (by decide) (fun y3146 hy3146 => ?_)
      refine y_goto (off := 4) (pc' := 17) (len := 3) (r := (0, 0, 0, 0)) (by decide +kernel) (by decide +kernel) ?_
      refine y_rI (len := 1) (r := (0, 0, 0, 0)) (nL := 2) (k := 2) (n9 := 2) (hs := []) (by decide +kernel) rfl (zfit_b (by omega) (by omega)).2 ?_
      exact ⟨rfl, by omega⟩
theorem e_tellT {d t RA IA : Nat} {τ : List Nat} {h : zh} {xk xw : Int32} (hg : hG τ h) (tRA : τ[RA]? = some 1004) (tIA : τ[IA]? = some 1007) (pA : hsl h RA 0 = some (.inl (some IA))) : qI (d + 1) 64 [some (.inl (some RA)), some (zi xk), some (zi xw)] h t (fun y h1 => h = h1) := by
  refine qI_of ?_
  refine y_same (i := .iload_n 1) (len := 1) (r := (0, 0, 0, 0)) (pc' := 1) (ls' := [some (.inl (some RA)), some (zi xk), some (zi xw)]) (st' := [zi xk]) (by decide +kernel) (fun k q => by cases q) rfl ?_
  rcases Decidable.em (xk.toInt < 0) with q3147 | q3147
  ·
    refine y_iT (c := .lt) (off := 20) (pc' := 21) (len := 3) (r := (0, 0, 0, 0)) (by decide +kernel) (acmpT (c := .lt) (by show _ < _; omega)) (by decide +kernel) ?_
    refine y_ic (c := 0) (len := 1) (r := (0, 0, 0, 0)) (by decide +kernel) (by decide) (fun y3148 hy3148 => ?_)
    refine y_rI (len := 1) (r := (0, 0, 0, 0)) (nL := 3) (k := 1) (n9 := 3) (hs := []) (by decide +kernel) rfl rfl ?_
    rfl
  ·
    refine y_iF (c := .lt) (off := 20) (len := 3) (r := (0, 0, 0, 0)) (by decide +kernel) (acmpF (c := .lt) (by show _ ≤ _; omega)) ?_
    refine y_same (i := .iload_n 1) (len := 1) (r := (0, 0, 0, 0)) (pc' := 5) (ls' := [some (.inl (some RA)), some (zi xk), some (zi xw)]) (st' := [zi xk]) (by decide +kernel) (fun k q => by cases q) rfl ?_
    refine y_same (i := .aload_n 0) (len := 1) (r := (0, 0, 0, 0)) (pc' := 6) (ls' := [some (.inl (some RA)), some (zi xk), some (zi xw)]) (st' := [.inl (some RA), zi xk]) (by decide +kernel) (fun k q => by cases q) rfl ?_
    obtain ⟨v3149, hv3150, lv3149, uv3149⟩ := g_int (i := 1) (lo := 0) (hi := 14) hg tRA aw1004 (by decide) rfl
    refine y_get (j := 9) (len := 3) (r := (6, 1, 0, 164)) (by decide +kernel) hg tRA aw1004 rfl rfl hv3150 ?_
    rcases Decidable.em (xk.toInt ≥ v3149.toInt) with q3151 | q3151
    ·
      refine y_cT (c := .ge) (off := 12) (pc' := 21) (len := 3) (r := (0, 0, 0, 0)) (by decide +kernel) (acmpT (c := .ge) (by show _ ≤ _; omega)) (by decide +kernel) ?_
      refine y_ic (c := 0) (len := 1) (r := (0, 0, 0, 0)) (by decide +kernel) (by decide) (fun y3152 hy3152 => ?_)
      refine y_rI (len := 1) (r := (0, 0, 0, 0)) (nL := 3) (k := 1) (n9 := 3) (hs := []) (by decide +kernel) rfl rfl ?_
      rfl
    ·
      refine y_cF (c := .ge) (off := 12) (len := 3) (r := (0, 0, 0, 0)) (by decide +kernel) (acmpF (c := .ge) (by show _ < _; omega)) ?_
      refine y_same (i := .iload_n 2) (len := 1) (r := (0, 0, 0, 0)) (pc' := 13) (ls' := [some (.inl (some RA)), some (zi xk), some (zi xw)]) (st' := [zi xw]) (by decide +kernel) (fun k q => by cases q) rfl ?_
      rcases Decidable.em (xw.toInt < 0) with q3153 | q3153
      ·
        refine y_iT (c := .lt) (off := 8) (pc' := 21) (len := 3) (r := (0, 0, 0, 0)) (by decide +kernel) (acmpT (c := .lt) (by show _ < _; omega)) (by decide +kernel) ?_
        refine y_ic (c := 0) (len := 1) (r := (0, 0, 0, 0)) (by decide +kernel) (by decide) (fun y3154 hy3154 => ?_)
        refine y_rI (len := 1) (r := (0, 0, 0, 0)) (nL := 3) (k := 1) (n9 := 3) (hs := []) (by decide +kernel) rfl rfl ?_
        rfl
      ·
        refine y_iF (c := .lt) (off := 8) (len := 3) (r := (0, 0, 0, 0)) (by decide +kernel) (acmpF (c := .lt) (by show _ ≤ _; omega)) ?_
        refine y_same (i := .iload_n 2) (len := 1) (r := (0, 0, 0, 0)) (pc' := 17) (ls' := [some (.inl (some RA)), some (zi xk), some (zi xw)]) (st' := [zi xw]) (by decide +kernel) (fun k q => by cases q) rfl ?_
        refine y_ic (c := 3) (len := 1) (r := (0, 0, 0, 0)) (by decide +kernel) (by decide) (fun y3155 hy3155 => ?_)
        rcases Decidable.em (xw.toInt ≤ y3155.toInt) with q3156 | q3156
        ·
          refine y_cT (c := .le) (off := 5) (pc' := 23) (len := 3) (r := (0, 0, 0, 0)) (by decide +kernel) (acmpT (c := .le) (by show _ ≤ _; omega)) (by decide +kernel) ?_
          refine y_same (i := .aload_n 0) (len := 1) (r := (0, 0, 0, 0)) (pc' := 24) (ls' := [some (.inl (some RA)), some (zi xk), some (zi xw)]) (st' := [.inl (some RA)]) (by decide +kernel) (fun k q => by cases q) rfl ?_
          refine y_get (j := 15) (len := 3) (r := (6, 0, 2, 163)) (by decide +kernel) hg tRA aw1004 rfl rfl pA ?_
          refine y_same (i := .iload_n 1) (len := 1) (r := (0, 0, 0, 0)) (pc' := 28) (ls' := [some (.inl (some RA)), some (zi xk), some (zi xw)]) (st' := [zi xk, .inl (some IA)]) (by decide +kernel) (fun k q => by cases q) rfl ?_
          obtain ⟨v3157, hv3158, lv3157, uv3157⟩ := g_int (i := xk.toInt.toNat) hg tIA aw1007 (show xk.toInt.toNat < 14 by omega) (sr1 (by omega))
          refine y_ial (i := xk.toInt.toNat) (len := 1) (r := (0, 0, 0, 0)) (by decide +kernel) hg tIA aw1007 (by omega) hv3158 ?_
          refine y_bi (c := 15) (len := 2) (r := (0, 0, 0, 0)) (by decide +kernel) (by decide) (fun y3159 hy3159 => ?_)
          refine y_ic (c := 5) (len := 1) (r := (0, 0, 0, 0)) (by decide +kernel) (by decide) (fun y3160 hy3160 => ?_)
          refine y_same (i := .iload_n 2) (len := 1) (r := (0, 0, 0, 0)) (pc' := 33) (ls' := [some (.inl (some RA)), some (zi xk), some (zi xw)]) (st' := [zi xw, zi y3160, zi y3159, zi v3157]) (by decide +kernel) (fun k q => by cases q) rfl ?_
          refine y_mul (c := 5) (len := 1) (r := (0, 0, 0, 0)) (by decide +kernel) (by omega) (by omega) (by omega) (fun y3161 hy3161 => ?_)
          refine y_sub (len := 1) (r := (0, 0, 0, 0)) (by decide +kernel) (by omega) (by omega) (fun y3162 hy3162 => ?_)
          refine y_bp (i := .ishr) (f := fun x y => x >>> (y &&& 31)) (len := 1) (r := (0, 0, 0, 0)) (by decide +kernel) rfl rfl (fun y3163 hy3163 => ?_)
          have hy3163 : y3163 = v3157 >>> (y3162 &&& 31) := hy3163
          refine y_bi (c := 31) (len := 2) (r := (0, 0, 0, 0)) (by decide +kernel) (by decide) (fun y3164 hy3164 => ?_)
          refine y_bp (i := .iand) (f := fun x y => x &&& y) (len := 1) (r := (0, 0, 0, 0)) (by decide +kernel) rfl rfl (fun y3165 hy3165 => ?_)
          have hy3165 : y3165 = y3163 &&& y3164 := hy3165
          refine y_rI (len := 1) (r := (0, 0, 0, 0)) (nL := 3) (k := 1) (n9 := 3) (hs := []) (by decide +kernel) rfl rfl ?_
          rfl
        ·
          refine y_cF (c := .le) (off := 5) (len := 3) (r := (0, 0, 0, 0)) (by decide +kernel) (acmpF (c := .le) (by show _ < _; omega)) ?_
          refine y_ic (c := 0) (len := 1) (r := (0, 0, 0, 0)) (by decide +kernel) (by decide) (fun y3166 hy3166 => ?_)
          refine y_rI (len := 1) (r := (0, 0, 0, 0)) (nL := 3) (k := 1) (n9 := 3) (hs := []) (by decide +kernel) rfl rfl ?_
          rfl
theorem e_has35 {d t m : Nat} {τ : List Nat} {h : zh} {xk : Int32} (hg : hG τ h) (c6 : ci_ h 35 6 m) : qI (d + 1) 32 [some (.inl (some 35)), some (zi xk)] h t (fun y h1 => h = h1 ∧ ((y.toInt = 1 ∧ 0 ≤ xk.toInt ∧ xk.toInt < (m : Int)) ∨ y.toInt = 0)) := by
  obtain ⟨xm, hm6, em6⟩ := c6
  refine qI_of ?_
  refine y_same (i := .iload_n 1) (len := 1) (r := (0, 0, 0, 0)) (pc' := 1) (ls' := [some (.inl (some 35)), some (zi xk)]) (st' := [zi xk]) (by decide +kernel) (fun k q => by cases q) rfl ?_
  rcases Decidable.em (xk.toInt < 0) with q3167 | q3167
  ·
    refine y_iT (c := .lt) (off := 22) (pc' := 23) (len := 3) (r := (0, 0, 0, 0)) (by decide +kernel) (acmpT (c := .lt) (by show _ < _; omega)) (by decide +kernel) ?_
    refine y_ic (c := 0) (len := 1) (r := (0, 0, 0, 0)) (by decide +kernel) (by decide) (fun y3168 hy3168 => ?_)
    refine y_rI (len := 1) (r := (0, 0, 0, 0)) (nL := 2) (k := 2) (n9 := 2) (hs := []) (by decide +kernel) rfl (zfit_b (by omega) (by omega)).2 ?_
    exact ⟨rfl, by omega⟩
  ·
    refine y_iF (c := .lt) (off := 22) (len := 3) (r := (0, 0, 0, 0)) (by decide +kernel) (acmpF (c := .lt) (by show _ ≤ _; omega)) ?_
    refine y_same (i := .iload_n 1) (len := 1) (r := (0, 0, 0, 0)) (pc' := 5) (ls' := [some (.inl (some 35)), some (zi xk)]) (st' := [zi xk]) (by decide +kernel) (fun k q => by cases q) rfl ?_
    refine y_same (i := .aload_n 0) (len := 1) (r := (0, 0, 0, 0)) (pc' := 6) (ls' := [some (.inl (some 35)), some (zi xk)]) (st' := [.inl (some 35), zi xk]) (by decide +kernel) (fun k q => by cases q) rfl ?_
    refine y_get (j := 35) (len := 3) (r := (4, 6, 0, 289)) (by decide +kernel) hg (tv35 hg) aw35 rfl rfl hm6 ?_
    rcases Decidable.em (xk.toInt ≥ xm.toInt) with q3169 | q3169
    ·
      refine y_cT (c := .ge) (off := 14) (pc' := 23) (len := 3) (r := (0, 0, 0, 0)) (by decide +kernel) (acmpT (c := .ge) (by show _ ≤ _; omega)) (by decide +kernel) ?_
      refine y_ic (c := 0) (len := 1) (r := (0, 0, 0, 0)) (by decide +kernel) (by decide) (fun y3170 hy3170 => ?_)
      refine y_rI (len := 1) (r := (0, 0, 0, 0)) (nL := 2) (k := 2) (n9 := 2) (hs := []) (by decide +kernel) rfl (zfit_b (by omega) (by omega)).2 ?_
      exact ⟨rfl, by omega⟩
    ·
      refine y_cF (c := .ge) (off := 14) (len := 3) (r := (0, 0, 0, 0)) (by decide +kernel) (acmpF (c := .ge) (by show _ < _; omega)) ?_
      refine y_same (i := .iload_n 1) (len := 1) (r := (0, 0, 0, 0)) (pc' := 13) (ls' := [some (.inl (some 35)), some (zi xk)]) (st' := [zi xk]) (by decide +kernel) (fun k q => by cases q) rfl ?_
      refine y_si (c := 300) (len := 3) (r := (0, 0, 0, 0)) (by decide +kernel) (by decide) (fun y3171 hy3171 => ?_)
      rcases Decidable.em (xk.toInt ≥ y3171.toInt) with q3172 | q3172
      ·
        refine y_cT (c := .ge) (off := 7) (pc' := 23) (len := 3) (r := (0, 0, 0, 0)) (by decide +kernel) (acmpT (c := .ge) (by show _ ≤ _; omega)) (by decide +kernel) ?_
        refine y_ic (c := 0) (len := 1) (r := (0, 0, 0, 0)) (by decide +kernel) (by decide) (fun y3173 hy3173 => ?_)
        refine y_rI (len := 1) (r := (0, 0, 0, 0)) (nL := 2) (k := 2) (n9 := 2) (hs := []) (by decide +kernel) rfl (zfit_b (by omega) (by omega)).2 ?_
        exact ⟨rfl, by omega⟩
      ·
        refine y_cF (c := .ge) (off := 7) (len := 3) (r := (0, 0, 0, 0)) (by decide +kernel) (acmpF (c := .ge) (by show _ < _; omega)) ?_
        refine y_ic (c := 1) (len := 1) (r := (0, 0, 0, 0)) (by decide +kernel) (by decide) (fun y3174 hy3174 => ?_)
        refine y_goto (off := 4) (pc' := 24) (len := 3) (r := (0, 0, 0, 0)) (by decide +kernel) (by decide +kernel) ?_
        refine y_rI (len := 1) (r := (0, 0, 0, 0)) (nL := 2) (k := 2) (n9 := 2) (hs := []) (by decide +kernel) rfl (zfit_b (by omega) (by omega)).2 ?_
        exact ⟨rfl, by omega⟩
noncomputable def stpH (h : zh) (k : Nat) : Int := match hsl h 36 k with
  | some (.inl (some a)) => (match hsl h a 4 with
    | some (.inr (.inl (x, none))) => x.toInt
    | _ => 0)
  | _ => 0
theorem stpH_eq {h : zh} {k a : Nat} {x : Int32} (r : rfs h 36 k a) (e : hsl h a 4 = some (zi x)) : stpH h k = x.toInt := by
  unfold stpH
  rw [r]
  show (match hsl h a 4 with
    | some (.inr (.inl (x, none))) => x.toInt
    | _ => 0) = _
  rw [e]
  rfl
def fdG (st : Nat → Int) (m : Nat) (i : Int) : Nat → Nat → Nat → Int
  | 0, _, _ => -1
  | f + 1, k, s => if k < m then (if st k = 2 then (if (s : Int) = i then (k : Int) else fdG st m i f (k + 1) (s + 1)) else fdG st m i f (k + 1) s) else -1
theorem fdG_s {st : Nat → Int} {m f k s : Nat} {i : Int} : fdG st m i (f + 1) k s = if k < m then (if st k = 2 then (if (s : Int) = i then (k : Int) else fdG st m i f (k + 1) (s + 1)) else fdG st m i f (k + 1) s) else -1 := rfl
def viO (τ : List Nat) (h : zh) (m : Nat) : Prop := ∀ k, k < m → ∃ a, rfs h 36 k a ∧ 388 < a ∧ laQ h a ∧ τ[a]? = some 1008
theorem fd_l {d t m : Nat} {τ : List Nat} {h : zh} {xi xm : Int32} (hg : hG τ h) (hm6 : hsl h 35 6 = some (zi xm)) (em6 : xm.toInt = (m : Int)) (hm3 : m ≤ 300) (V : viO τ h m) : ∀ (n : Nat) (k : Nat) (xk : Int32) (s : Nat) (xs : Int32), (xk.toInt = (k : Int)) → (xs.toInt = (s : Int)) → (k ≤ m) → (s ≤ k) → (m < k + n) → qX (d + 2) 35 4 [some (.inl (some 35)), some (zi xi), some (zi xs), some (zi xk)] [] h t (rI (fun y h1 => h = h1 ∧ y.toInt = fdG (stpH h) m xi.toInt n k s) t) := by
  intro n
  induction n with
  | zero =>
    intro k xk s xs exk exs hk hs hn
    exfalso
    omega
  | succ n ih =>
    intro k xk s xs exk exs hk hs hn
    skip
    refine y_same (i := .iload_n 3) (len := 1) (r := (0, 0, 0, 0)) (pc' := 5) (ls' := [some (.inl (some 35)), some (zi xi), some (zi xs), some (zi xk)]) (st' := [zi xk]) (by decide +kernel) (fun k q => by cases q) rfl ?_
    refine y_same (i := .aload_n 0) (len := 1) (r := (0, 0, 0, 0)) (pc' := 6) (ls' := [some (.inl (some 35)), some (zi xi), some (zi xs), some (zi xk)]) (st' := [.inl (some 35), zi xk]) (by decide +kernel) (fun k q => by cases q) rfl ?_
    refine y_get (j := 35) (len := 3) (r := (4, 6, 0, 289)) (by decide +kernel) hg (tv35 hg) aw35 rfl rfl hm6 ?_
    rcases Decidable.em (xk.toInt ≥ xm.toInt) with q3175 | q3175
    ·
      refine y_cT (c := .ge) (off := 31) (pc' := 40) (len := 3) (r := (0, 0, 0, 0)) (by decide +kernel) (acmpT (c := .ge) (by show _ ≤ _; omega)) (by decide +kernel) ?_
      refine y_ic (c := (-1)) (len := 1) (r := (0, 0, 0, 0)) (by decide +kernel) (by decide) (fun y3176 hy3176 => ?_)
      refine y_rI (len := 1) (r := (0, 0, 0, 0)) (nL := 4) (k := 1) (n9 := 2) (hs := []) (by decide +kernel) rfl rfl ?_
      exact ⟨rfl, by rw [fdG_s, if_neg (by omega)]; omega⟩
    ·
      refine y_cF (c := .ge) (off := 31) (len := 3) (r := (0, 0, 0, 0)) (by decide +kernel) (acmpF (c := .ge) (by show _ < _; omega)) ?_
      obtain ⟨a, ra, ha, la, ta⟩ := V k (by omega)
      obtain ⟨x4, h4, l4, u4⟩ := g_int (i := 4) (lo := -2147483648) (hi := 2147483647) hg ta aw1008 (by decide) rfl
      have e4 := stpH_eq ra h4
      refine y_same (i := .aload_n 0) (len := 1) (r := (0, 0, 0, 0)) (pc' := 13) (ls' := [some (.inl (some 35)), some (zi xi), some (zi xs), some (zi xk)]) (st' := [.inl (some 35)]) (by decide +kernel) (fun k q => by cases q) rfl ?_
      refine y_same (i := .iload_n 3) (len := 1) (r := (0, 0, 0, 0)) (pc' := 14) (ls' := [some (.inl (some 35)), some (zi xi), some (zi xs), some (zi xk)]) (st' := [zi xk, .inl (some 35)]) (by decide +kernel) (fun k q => by cases q) rfl ?_
      refine y_cA (i := .invokevirtual 67) (len := 3) (r := (0, 33, 4, 505)) (nL := 3) (k := 3) (n := 2) (hs := []) (args := [.inl (some 35), zi xk]) (rest := []) (l0 := [some (.inl (some 35)), some (zi xk), none]) (by decide +kernel) (Or.inr (Or.inl ⟨_, rfl⟩)) rfl rfl rfl rfl (Nat.le_of_ble_eq_true rfl) (zO hg (tv35 hg) aw35 rfl) rfl (qA_le (by omega) (e_slo35 (d := 0) (k := k) hg (by omega) (by omega) ra)) (fun h3177 hR3177 => ?_)
      obtain rfl := hR3177
      refine y_get (j := 71) (len := 3) (r := (7, 4, 0, 20543)) (by decide +kernel) hg ta aw1008 rfl rfl h4 ?_
      refine y_ic (c := 2) (len := 1) (r := (0, 0, 0, 0)) (by decide +kernel) (by decide) (fun y3178 hy3178 => ?_)
      rcases Decidable.em (x4.toInt ≠ y3178.toInt) with q3179 | q3179
      ·
        refine y_cT (c := .ne) (off := 13) (pc' := 34) (len := 3) (r := (0, 0, 0, 0)) (by decide +kernel) (acmpT (c := .ne) (by show ¬ (_ = _); omega)) (by decide +kernel) ?_
        refine y_inc (j := 3) (a := xk) (c := 1) (ls' := fun v => [some (.inl (some 35)), some (zi xi), some (zi xs), some v]) (len := 3) (r := (0, 0, 0, 0)) (by decide +kernel) rfl (fun _ => rfl) (by decide) (by omega) (by omega) (fun y3180 hy3180 => ?_)
        show qX (d + 2) 35 37 [some (.inl (some 35)), some (zi xi), some (zi xs), some (zi y3180)] [] h t _
        refine y_goto (off := (-33)) (pc' := 4) (len := 3) (r := (0, 0, 0, 0)) (by decide +kernel) (by decide +kernel) ?_
        have e9 : fdG (stpH h) m xi.toInt (n + 1) k s = fdG (stpH h) m xi.toInt n (k + 1) s := by
          rw [fdG_s, if_pos (by omega), if_neg (by omega)]
        rw [e9]
        exact ih (k + 1) y3180 s xs (by omega) (by omega) (by omega) (by omega) (by omega)
      ·
        refine y_cF (c := .ne) (off := 13) (len := 3) (r := (0, 0, 0, 0)) (by decide +kernel) (acmpF (c := .ne) (by show _ = _; omega)) ?_
        refine y_same (i := .iload_n 2) (len := 1) (r := (0, 0, 0, 0)) (pc' := 25) (ls' := [some (.inl (some 35)), some (zi xi), some (zi xs), some (zi xk)]) (st' := [zi xs]) (by decide +kernel) (fun k q => by cases q) rfl ?_
        refine y_same (i := .iload_n 1) (len := 1) (r := (0, 0, 0, 0)) (pc' := 26) (ls' := [some (.inl (some 35)), some (zi xi), some (zi xs), some (zi xk)]) (st' := [zi xi, zi xs]) (by decide +kernel) (fun k q => by cases q) rfl ?_
        rcases Decidable.em (xs.toInt ≠ xi.toInt) with q3181 | q3181
        ·
          refine y_cT (c := .ne) (off := 5) (pc' := 31) (len := 3) (r := (0, 0, 0, 0)) (by decide +kernel) (acmpT (c := .ne) (by show ¬ (_ = _); omega)) (by decide +kernel) ?_
          refine y_inc (j := 2) (a := xs) (c := 1) (ls' := fun v => [some (.inl (some 35)), some (zi xi), some v, some (zi xk)]) (len := 3) (r := (0, 0, 0, 0)) (by decide +kernel) rfl (fun _ => rfl) (by decide) (by omega) (by omega) (fun y3182 hy3182 => ?_)
          show qX (d + 2) 35 34 [some (.inl (some 35)), some (zi xi), some (zi y3182), some (zi xk)] [] h t _
          refine y_inc (j := 3) (a := xk) (c := 1) (ls' := fun v => [some (.inl (some 35)), some (zi xi), some (zi y3182), some v]) (len := 3) (r := (0, 0, 0, 0)) (by decide +kernel) rfl (fun _ => rfl) (by decide) (by omega) (by omega) (fun y3183 hy3183 => ?_)
          show qX (d + 2) 35 37 [some (.inl (some 35)), some (zi xi), some (zi y3182), some (zi y3183)] [] h t _
          refine y_goto (off := (-33)) (pc' := 4) (len := 3) (r := (0, 0, 0, 0)) (by decide +kernel) (by decide +kernel) ?_
          have e9 : fdG (stpH h) m xi.toInt (n + 1) k s = fdG (stpH h) m xi.toInt n (k + 1) (s + 1) := by
            rw [fdG_s, if_pos (by omega), if_pos (by omega), if_neg (by omega)]
          rw [e9]
          exact ih (k + 1) y3183 (s + 1) y3182 (by omega) (by omega) (by omega) (by omega) (by omega)
        ·
          refine y_cF (c := .ne) (off := 5) (len := 3) (r := (0, 0, 0, 0)) (by decide +kernel) (acmpF (c := .ne) (by show _ = _; omega)) ?_
          refine y_same (i := .iload_n 3) (len := 1) (r := (0, 0, 0, 0)) (pc' := 30) (ls' := [some (.inl (some 35)), some (zi xi), some (zi xs), some (zi xk)]) (st' := [zi xk]) (by decide +kernel) (fun k q => by cases q) rfl ?_
          refine y_rI (len := 1) (r := (0, 0, 0, 0)) (nL := 4) (k := 1) (n9 := 2) (hs := []) (by decide +kernel) rfl rfl ?_
          exact ⟨rfl, by rw [fdG_s, if_pos (by omega), if_pos (by omega), if_pos (by omega)]; omega⟩
theorem fdG_lt {st : Nat → Int} {m : Nat} {i : Int} : ∀ f k s, -1 ≤ fdG st m i f k s ∧ fdG st m i f k s < (m : Int) ∨ fdG st m i f k s = -1 := by
  intro f
  induction f with
  | zero => intro k s; exact Or.inr rfl
  | succ f ih =>
    intro k s
    rw [fdG_s]
    split
    · split
      · split
        · left; omega
        · exact ih _ _
      · exact ih _ _
    · exact Or.inr rfl
theorem e_fd35 {d t m : Nat} {τ : List Nat} {h : zh} {xi : Int32} (hg : hG τ h) (c6 : ci_ h 35 6 m) (hm3 : m ≤ 300) (V : viO τ h m) : qI (d + 3) 35 [some (.inl (some 35)), some (zi xi), none, none] h t (fun y h1 => h = h1 ∧ y.toInt = fdG (stpH h) m xi.toInt (m + 1) 0 0) := by
  obtain ⟨xm, hm6, em6⟩ := c6
  refine qI_of ?_
  refine y_ic (c := 0) (len := 1) (r := (0, 0, 0, 0)) (by decide +kernel) (by decide) (fun y3184 hy3184 => ?_)
  refine y_same (i := .istore_n 2) (len := 1) (r := (0, 0, 0, 0)) (pc' := 2) (ls' := [some (.inl (some 35)), some (zi xi), some (zi y3184), none]) (st' := []) (by decide +kernel) (fun k q => by cases q) rfl ?_
  refine y_ic (c := 0) (len := 1) (r := (0, 0, 0, 0)) (by decide +kernel) (by decide) (fun y3185 hy3185 => ?_)
  refine y_same (i := .istore_n 3) (len := 1) (r := (0, 0, 0, 0)) (pc' := 4) (ls' := [some (.inl (some 35)), some (zi xi), some (zi y3184), some (zi y3185)]) (st' := []) (by decide +kernel) (fun k q => by cases q) rfl ?_
  exact fd_l hg hm6 em6 hm3 V (m + 1) 0 y3185 0 y3184 (by omega) (by omega) (by omega) (by omega) (by omega)
def oP3 (R : zh → Prop) (t : Nat) (x : zo × zh × Nat) : Prop := rI (fun _ => R) t x ∨ rT 0 R t x ∨ rT 1 R t x
def keep0 (τ : List Nat) (h h1 : zh) : Prop := hG τ h1 ∧ ∀ k j, k ≠ 0 → hsl h1 k j = hsl h k j
theorem op_11 {t m : Nat} {τ : List Nat} {h : zh} {xi xk xw : Int32} (hg : hG τ h) (c6 : ci_ h 35 6 m) (hm3 : m ≤ 300) (V : viO τ h m) : qX 21 146 11 [some (.inl (some 0)), some (zi xi), some (zi xk), some (zi xw), none, none] [] h t (oP3 (keep0 τ h) t) := by
  refine y_same (i := .aload_n 0) (len := 1) (r := (0, 0, 0, 0)) (pc' := 12) (ls' := [some (.inl (some 0)), some (zi xi), some (zi xk), some (zi xw), none, none]) (st' := [.inl (some 0)]) (by decide +kernel) (fun k q => by cases q) rfl ?_
  refine y_get (j := 56) (len := 3) (r := (11, 9, 2, 408)) (by decide +kernel) hg (tv0 hg) aw0 rfl rfl (g_rU (f := 9) (T2 := 35) hg (tv0 hg) aw0 rfl (by decide)) ?_
  obtain ⟨v3186, hv3187, lv3186, uv3186⟩ := g_int (i := 8) (lo := (-2147483648)) (hi := 2147483647) hg (tv35 hg) aw35 (by decide) rfl
  refine y_get (j := 156) (len := 3) (r := (4, 8, 0, 20293)) (by decide +kernel) hg (tv35 hg) aw35 rfl rfl hv3187 ?_
  refine y_ic (c := 1) (len := 1) (r := (0, 0, 0, 0)) (by decide +kernel) (by decide) (fun y3188 hy3188 => ?_)
  rcases Decidable.em (v3186.toInt ≠ y3188.toInt) with q3189 | q3189
  ·
    refine y_cT (c := .ne) (off := 14) (pc' := 33) (len := 3) (r := (0, 0, 0, 0)) (by decide +kernel) (acmpT (c := .ne) (by show ¬ (_ = _); omega)) (by decide +kernel) ?_
    refine y_ic (c := (-1)) (len := 1) (r := (0, 0, 0, 0)) (by decide +kernel) (by decide) (fun y3190 hy3190 => ?_)
    refine y_same (i := .istore 4) (len := 2) (r := (0, 0, 0, 0)) (pc' := 36) (ls' := [some (.inl (some 0)), some (zi xi), some (zi xk), some (zi xw), some (zi y3190), none]) (st' := []) (by decide +kernel) (fun k q => by cases q) rfl ?_
    refine y_same (i := .aload_n 0) (len := 1) (r := (0, 0, 0, 0)) (pc' := 37) (ls' := [some (.inl (some 0)), some (zi xi), some (zi xk), some (zi xw), some (zi y3190), none]) (st' := [.inl (some 0)]) (by decide +kernel) (fun k q => by cases q) rfl ?_
    refine y_same (i := .aload_n 0) (len := 1) (r := (0, 0, 0, 0)) (pc' := 38) (ls' := [some (.inl (some 0)), some (zi xi), some (zi xk), some (zi xw), some (zi y3190), none]) (st' := [.inl (some 0), .inl (some 0)]) (by decide +kernel) (fun k q => by cases q) rfl ?_
    refine y_get (j := 56) (len := 3) (r := (11, 9, 2, 408)) (by decide +kernel) hg (tv0 hg) aw0 rfl rfl (g_rU (f := 9) (T2 := 35) hg (tv0 hg) aw0 rfl (by decide)) ?_
    refine y_same (i := .iload 4) (len := 2) (r := (0, 0, 0, 0)) (pc' := 43) (ls' := [some (.inl (some 0)), some (zi xi), some (zi xk), some (zi xw), some (zi y3190), none]) (st' := [zi y3190, .inl (some 35), .inl (some 0)]) (by decide +kernel) (fun k q => by cases q) rfl ?_
    refine y_cI (i := .invokevirtual 173) (len := 3) (r := (0, 32, 4, 1153)) (nL := 2) (k := 2) (n := 2) (hs := []) (args := [.inl (some 35), zi y3190]) (rest := [.inl (some 0)]) (l0 := [some (.inl (some 35)), some (zi y3190)]) (by decide +kernel) (Or.inr (Or.inl ⟨_, rfl⟩)) rfl rfl rfl rfl (Nat.le_of_ble_eq_true rfl) (zO hg (tv35 hg) aw35 rfl) rfl (qI_le (by omega) (e_has35 (d := 0) (m := m) hg c6)) (fun y3191 qy3191 hRy3191 => ?_)
    obtain ⟨rfl, hDy3191⟩ := hRy3191
    rcases hDy3191 with ⟨vy3191, by3191, cy3191⟩ | vy3191
    ·
      obtain ⟨a, ra, ha, la, ta⟩ := V y3190.toInt.toNat (by omega)
      obtain ⟨t0, t1, t2, t3, t4, -⟩ := tyQ_of hg ta la
      obtain ⟨l1, l2, l3, l4, l5, l6, -⟩ := la
      refine y_cV (i := .invokevirtual 120) (len := 3) (r := (0, 152, 11, 1079)) (nL := 2) (k := 0) (n := 2) (hs := []) (args := [.inl (some 0), zi y3191]) (rest := []) (l0 := [some (.inl (some 0)), some (zi y3191)]) (by decide +kernel) (Or.inr (Or.inl ⟨_, rfl⟩)) rfl rfl rfl rfl (Nat.le_of_ble_eq_true rfl) (zO hg (tv0 hg) aw0 rfl) rfl (qV_le (by decide) (c_there (d := 0) (by omega))) (fun q3192 hR3192 => ?_)
      obtain rfl := hR3192
      refine y_same (i := .aload_n 0) (len := 1) (r := (0, 0, 0, 0)) (pc' := 50) (ls' := [some (.inl (some 0)), some (zi xi), some (zi xk), some (zi xw), some (zi y3190), none]) (st' := [.inl (some 0)]) (by decide +kernel) (fun k q => by cases q) rfl ?_
      refine y_get (j := 56) (len := 3) (r := (11, 9, 2, 408)) (by decide +kernel) hg (tv0 hg) aw0 rfl rfl (g_rU (f := 9) (T2 := 35) hg (tv0 hg) aw0 rfl (by decide)) ?_
      refine y_same (i := .iload 4) (len := 2) (r := (0, 0, 0, 0)) (pc' := 55) (ls' := [some (.inl (some 0)), some (zi xi), some (zi xk), some (zi xw), some (zi y3190), none]) (st' := [zi y3190, .inl (some 35)]) (by decide +kernel) (fun k q => by cases q) rfl ?_
      refine y_cA (i := .invokevirtual 174) (len := 3) (r := (0, 33, 4, 1157)) (nL := 3) (k := 3) (n := 2) (hs := []) (args := [.inl (some 35), zi y3190]) (rest := []) (l0 := [some (.inl (some 35)), some (zi y3190), none]) (by decide +kernel) (Or.inr (Or.inl ⟨_, rfl⟩)) rfl rfl rfl rfl (Nat.le_of_ble_eq_true rfl) (zO hg (tv35 hg) aw35 rfl) rfl (qA_le (by omega) (e_slo35 (d := 0) (k := y3190.toInt.toNat) hg (by omega) (by omega) ra)) (fun h3193 hR3193 => ?_)
      obtain rfl := hR3193
      refine y_get (j := 186) (len := 3) (r := (7, 1, 2, 20535)) (by decide +kernel) hg ta aw1008 rfl rfl l2 ?_
      refine y_same (i := .astore 5) (len := 2) (r := (0, 0, 0, 0)) (pc' := 63) (ls' := [some (.inl (some 0)), some (zi xi), some (zi xk), some (zi xw), some (zi y3190), some (.inl (some ((a + 3))))]) (st' := []) (by decide +kernel) (fun k q => by cases q) rfl ?_
      refine y_same (i := .iload_n 2) (len := 1) (r := (0, 0, 0, 0)) (pc' := 64) (ls' := [some (.inl (some 0)), some (zi xi), some (zi xk), some (zi xw), some (zi y3190), some (.inl (some ((a + 3))))]) (st' := [zi xk]) (by decide +kernel) (fun k q => by cases q) rfl ?_
      refine y_ic (c := (-1)) (len := 1) (r := (0, 0, 0, 0)) (by decide +kernel) (by decide) (fun y3194 hy3194 => ?_)
      rcases Decidable.em (xk.toInt ≠ y3194.toInt) with q3195 | q3195
      ·
        refine y_cT (c := .ne) (off := 9) (pc' := 74) (len := 3) (r := (0, 0, 0, 0)) (by decide +kernel) (acmpT (c := .ne) (by show ¬ (_ = _); omega)) (by decide +kernel) ?_
        refine y_same (i := .aload_n 0) (len := 1) (r := (0, 0, 0, 0)) (pc' := 75) (ls' := [some (.inl (some 0)), some (zi xi), some (zi xk), some (zi xw), some (zi y3190), some (.inl (some ((a + 3))))]) (st' := [.inl (some 0)]) (by decide +kernel) (fun k q => by cases q) rfl ?_
        refine y_same (i := .aload 5) (len := 2) (r := (0, 0, 0, 0)) (pc' := 77) (ls' := [some (.inl (some 0)), some (zi xi), some (zi xk), some (zi xw), some (zi y3190), some (.inl (some ((a + 3))))]) (st' := [.inl (some ((a + 3))), .inl (some 0)]) (by decide +kernel) (fun k q => by cases q) rfl ?_
        refine y_same (i := .iload_n 2) (len := 1) (r := (0, 0, 0, 0)) (pc' := 78) (ls' := [some (.inl (some 0)), some (zi xi), some (zi xk), some (zi xw), some (zi y3190), some (.inl (some ((a + 3))))]) (st' := [zi xk, .inl (some ((a + 3))), .inl (some 0)]) (by decide +kernel) (fun k q => by cases q) rfl ?_
        refine y_cI (i := .invokevirtual 115) (len := 3) (r := (0, 63, 6, 1075)) (nL := 2) (k := 2) (n := 2) (hs := []) (args := [.inl (some ((a + 3))), zi xk]) (rest := [.inl (some 0)]) (l0 := [some (.inl (some ((a + 3)))), some (zi xk)]) (by decide +kernel) (Or.inr (Or.inl ⟨_, rfl⟩)) rfl rfl rfl rfl (Nat.le_of_ble_eq_true rfl) (zO hg t3 aw1004 rfl) rfl (qI_le (by omega) (e_hasT (d := 0) hg t3)) (fun y3196 qy3196 hRy3196 => ?_)
        obtain ⟨rfl, hDy3196⟩ := hRy3196
        rcases hDy3196 with vy3196 | vy3196
        ·
          refine y_cV (i := .invokevirtual 120) (len := 3) (r := (0, 152, 11, 1079)) (nL := 2) (k := 0) (n := 2) (hs := []) (args := [.inl (some 0), zi y3196]) (rest := []) (l0 := [some (.inl (some 0)), some (zi y3196)]) (by decide +kernel) (Or.inr (Or.inl ⟨_, rfl⟩)) rfl rfl rfl rfl (Nat.le_of_ble_eq_true rfl) (zO hg (tv0 hg) aw0 rfl) rfl (qV_le (by decide) (c_there (d := 0) (by omega))) (fun q3197 hR3197 => ?_)
          obtain rfl := hR3197
          refine y_same (i := .aload_n 0) (len := 1) (r := (0, 0, 0, 0)) (pc' := 85) (ls' := [some (.inl (some 0)), some (zi xi), some (zi xk), some (zi xw), some (zi y3190), some (.inl (some ((a + 3))))]) (st' := [.inl (some 0)]) (by decide +kernel) (fun k q => by cases q) rfl ?_
          refine y_same (i := .iload_n 3) (len := 1) (r := (0, 0, 0, 0)) (pc' := 86) (ls' := [some (.inl (some 0)), some (zi xi), some (zi xk), some (zi xw), some (zi y3190), some (.inl (some ((a + 3))))]) (st' := [zi xw, .inl (some 0)]) (by decide +kernel) (fun k q => by cases q) rfl ?_
          rcases Decidable.em (xw.toInt < 0) with q3198 | q3198
          ·
            refine y_iT (c := .lt) (off := 12) (pc' := 98) (len := 3) (r := (0, 0, 0, 0)) (by decide +kernel) (acmpT (c := .lt) (by show _ < _; omega)) (by decide +kernel) ?_
            refine y_ic (c := 0) (len := 1) (r := (0, 0, 0, 0)) (by decide +kernel) (by decide) (fun y3199 hy3199 => ?_)
            refine y_cX (i := .invokevirtual 70) (len := 3) (r := (0, 153, 11, 852)) (nL := 2) (k := 0) (n := 2) (hs := []) (args := [.inl (some 0), zi y3199]) (rest := []) (l0 := [some (.inl (some 0)), some (zi y3199)]) (by decide +kernel) (Or.inr (Or.inl ⟨_, rfl⟩)) rfl rfl rfl rfl (Nat.le_of_ble_eq_true rfl) (zO hg (tv0 hg) aw0 rfl) rfl rfl (mL := 6) (mk := 1) (m9 := 4) (ms := []) rfl rfl (qT_le (by decide) (c_fitT (d := 0) hg (by omega))) (fun h3200 hR3200 => ?_)
            obtain ⟨hg3200, F3200⟩ := hR3200
            exact Or.inr (Or.inr ⟨_, rfl, hg3200, fun k j hC => (F3200 k j (by omega))⟩)
          ·
            refine y_iF (c := .lt) (off := 12) (len := 3) (r := (0, 0, 0, 0)) (by decide +kernel) (acmpF (c := .lt) (by show _ ≤ _; omega)) ?_
            refine y_same (i := .iload_n 3) (len := 1) (r := (0, 0, 0, 0)) (pc' := 90) (ls' := [some (.inl (some 0)), some (zi xi), some (zi xk), some (zi xw), some (zi y3190), some (.inl (some ((a + 3))))]) (st' := [zi xw, .inl (some 0)]) (by decide +kernel) (fun k q => by cases q) rfl ?_
            refine y_ic (c := 3) (len := 1) (r := (0, 0, 0, 0)) (by decide +kernel) (by decide) (fun y3201 hy3201 => ?_)
            rcases Decidable.em (xw.toInt > y3201.toInt) with q3202 | q3202
            ·
              refine y_cT (c := .gt) (off := 7) (pc' := 98) (len := 3) (r := (0, 0, 0, 0)) (by decide +kernel) (acmpT (c := .gt) (by show _ < _; omega)) (by decide +kernel) ?_
              refine y_ic (c := 0) (len := 1) (r := (0, 0, 0, 0)) (by decide +kernel) (by decide) (fun y3203 hy3203 => ?_)
              refine y_cX (i := .invokevirtual 70) (len := 3) (r := (0, 153, 11, 852)) (nL := 2) (k := 0) (n := 2) (hs := []) (args := [.inl (some 0), zi y3203]) (rest := []) (l0 := [some (.inl (some 0)), some (zi y3203)]) (by decide +kernel) (Or.inr (Or.inl ⟨_, rfl⟩)) rfl rfl rfl rfl (Nat.le_of_ble_eq_true rfl) (zO hg (tv0 hg) aw0 rfl) rfl rfl (mL := 6) (mk := 1) (m9 := 4) (ms := []) rfl rfl (qT_le (by decide) (c_fitT (d := 0) hg (by omega))) (fun h3204 hR3204 => ?_)
              obtain ⟨hg3204, F3204⟩ := hR3204
              exact Or.inr (Or.inr ⟨_, rfl, hg3204, fun k j hC => (F3204 k j (by omega))⟩)
            ·
              refine y_cF (c := .gt) (off := 7) (len := 3) (r := (0, 0, 0, 0)) (by decide +kernel) (acmpF (c := .gt) (by show _ ≤ _; omega)) ?_
              refine y_ic (c := 1) (len := 1) (r := (0, 0, 0, 0)) (by decide +kernel) (by decide) (fun y3205 hy3205 => ?_)
              refine y_goto (off := 4) (pc' := 99) (len := 3) (r := (0, 0, 0, 0)) (by decide +kernel) (by decide +kernel) ?_
              refine y_cV (i := .invokevirtual 70) (len := 3) (r := (0, 153, 11, 852)) (nL := 2) (k := 0) (n := 2) (hs := []) (args := [.inl (some 0), zi y3205]) (rest := []) (l0 := [some (.inl (some 0)), some (zi y3205)]) (by decide +kernel) (Or.inr (Or.inl ⟨_, rfl⟩)) rfl rfl rfl rfl (Nat.le_of_ble_eq_true rfl) (zO hg (tv0 hg) aw0 rfl) rfl (qV_le (by decide) (c_fit (d := 0) (by omega))) (fun q3206 hR3206 => ?_)
              obtain rfl := hR3206
              refine y_same (i := .aload 5) (len := 2) (r := (0, 0, 0, 0)) (pc' := 104) (ls' := [some (.inl (some 0)), some (zi xi), some (zi xk), some (zi xw), some (zi y3190), some (.inl (some ((a + 3))))]) (st' := [.inl (some ((a + 3)))]) (by decide +kernel) (fun k q => by cases q) rfl ?_
              refine y_same (i := .iload_n 2) (len := 1) (r := (0, 0, 0, 0)) (pc' := 105) (ls' := [some (.inl (some 0)), some (zi xi), some (zi xk), some (zi xw), some (zi y3190), some (.inl (some ((a + 3))))]) (st' := [zi xk, .inl (some ((a + 3)))]) (by decide +kernel) (fun k q => by cases q) rfl ?_
              refine y_same (i := .iload_n 3) (len := 1) (r := (0, 0, 0, 0)) (pc' := 106) (ls' := [some (.inl (some 0)), some (zi xi), some (zi xk), some (zi xw), some (zi y3190), some (.inl (some ((a + 3))))]) (st' := [zi xw, zi xk, .inl (some ((a + 3)))]) (by decide +kernel) (fun k q => by cases q) rfl ?_
              refine y_cI (i := .invokevirtual 149) (len := 3) (r := (0, 64, 6, 1131)) (nL := 3) (k := 1) (n := 3) (hs := []) (args := [.inl (some ((a + 3))), zi xk, zi xw]) (rest := []) (l0 := [some (.inl (some ((a + 3)))), some (zi xk), some (zi xw)]) (by decide +kernel) (Or.inr (Or.inl ⟨_, rfl⟩)) rfl rfl rfl rfl (Nat.le_of_ble_eq_true rfl) (zO hg t3 aw1004 rfl) rfl (qI_le (by omega) (e_tellT (d := 0) hg t3 t4 l6)) (fun y3207 qy3207 hRy3207 => ?_)
              obtain rfl := hRy3207
              refine qX_mn (P := rI (fun _ h9 => h9 = h) t) ?_ (fun x9 q9 => Or.inl (by obtain ⟨y9, h9, e9, e8⟩ := q9; subst e8; exact ⟨y9, _, e9, hg, fun k j _ => rfl⟩))
              refine y_rI (len := 1) (r := (0, 0, 0, 0)) (nL := 6) (k := 1) (n9 := 4) (hs := []) (by decide +kernel) rfl rfl ?_
              rfl
        ·
          refine y_cX (i := .invokevirtual 120) (len := 3) (r := (0, 152, 11, 1079)) (nL := 2) (k := 0) (n := 2) (hs := []) (args := [.inl (some 0), zi y3196]) (rest := []) (l0 := [some (.inl (some 0)), some (zi y3196)]) (by decide +kernel) (Or.inr (Or.inl ⟨_, rfl⟩)) rfl rfl rfl rfl (Nat.le_of_ble_eq_true rfl) (zO hg (tv0 hg) aw0 rfl) rfl rfl (mL := 6) (mk := 1) (m9 := 4) (ms := []) rfl rfl (qT_le (by decide) (c_thereT (d := 0) hg (by omega))) (fun h3208 hR3208 => ?_)
          obtain ⟨hg3208, F3208⟩ := hR3208
          exact Or.inr (Or.inl ⟨_, rfl, hg3208, fun k j hC => (F3208 k j (by omega))⟩)
      ·
        refine y_cF (c := .ne) (off := 9) (len := 3) (r := (0, 0, 0, 0)) (by decide +kernel) (acmpF (c := .ne) (by show _ = _; omega)) ?_
        refine y_same (i := .aload 5) (len := 2) (r := (0, 0, 0, 0)) (pc' := 70) (ls' := [some (.inl (some 0)), some (zi xi), some (zi xk), some (zi xw), some (zi y3190), some (.inl (some ((a + 3))))]) (st' := [.inl (some ((a + 3)))]) (by decide +kernel) (fun k q => by cases q) rfl ?_
        obtain ⟨v3209, hv3210, lv3209, uv3209⟩ := g_int (i := 1) (lo := 0) (hi := 14) hg t3 aw1004 (by decide) rfl
        refine y_get (j := 126) (len := 3) (r := (6, 1, 0, 20168)) (by decide +kernel) hg t3 aw1004 rfl rfl hv3210 ?_
        refine qX_mn (P := rI (fun _ h9 => h9 = h) t) ?_ (fun x9 q9 => Or.inl (by obtain ⟨y9, h9, e9, e8⟩ := q9; subst e8; exact ⟨y9, _, e9, hg, fun k j _ => rfl⟩))
        refine y_rI (len := 1) (r := (0, 0, 0, 0)) (nL := 6) (k := 1) (n9 := 4) (hs := []) (by decide +kernel) rfl rfl ?_
        rfl
    ·
      refine y_cX (i := .invokevirtual 120) (len := 3) (r := (0, 152, 11, 1079)) (nL := 2) (k := 0) (n := 2) (hs := []) (args := [.inl (some 0), zi y3191]) (rest := []) (l0 := [some (.inl (some 0)), some (zi y3191)]) (by decide +kernel) (Or.inr (Or.inl ⟨_, rfl⟩)) rfl rfl rfl rfl (Nat.le_of_ble_eq_true rfl) (zO hg (tv0 hg) aw0 rfl) rfl rfl (mL := 6) (mk := 1) (m9 := 4) (ms := []) rfl rfl (qT_le (by decide) (c_thereT (d := 0) hg (by omega))) (fun h3211 hR3211 => ?_)
      obtain ⟨hg3211, F3211⟩ := hR3211
      exact Or.inr (Or.inl ⟨_, rfl, hg3211, fun k j hC => (F3211 k j (by omega))⟩)
  ·
    refine y_cF (c := .ne) (off := 14) (len := 3) (r := (0, 0, 0, 0)) (by decide +kernel) (acmpF (c := .ne) (by show _ = _; omega)) ?_
    refine y_same (i := .aload_n 0) (len := 1) (r := (0, 0, 0, 0)) (pc' := 23) (ls' := [some (.inl (some 0)), some (zi xi), some (zi xk), some (zi xw), none, none]) (st' := [.inl (some 0)]) (by decide +kernel) (fun k q => by cases q) rfl ?_
    refine y_get (j := 56) (len := 3) (r := (11, 9, 2, 408)) (by decide +kernel) hg (tv0 hg) aw0 rfl rfl (g_rU (f := 9) (T2 := 35) hg (tv0 hg) aw0 rfl (by decide)) ?_
    refine y_same (i := .iload_n 1) (len := 1) (r := (0, 0, 0, 0)) (pc' := 27) (ls' := [some (.inl (some 0)), some (zi xi), some (zi xk), some (zi xw), none, none]) (st' := [zi xi, .inl (some 35)]) (by decide +kernel) (fun k q => by cases q) rfl ?_
    refine y_cI (i := .invokevirtual 202) (len := 3) (r := (0, 35, 4, 1173)) (nL := 4) (k := 1) (n := 2) (hs := []) (args := [.inl (some 35), zi xi]) (rest := []) (l0 := [some (.inl (some 35)), some (zi xi), none, none]) (by decide +kernel) (Or.inr (Or.inl ⟨_, rfl⟩)) rfl rfl rfl rfl (Nat.le_of_ble_eq_true rfl) (zO hg (tv35 hg) aw35 rfl) rfl (qI_le (by omega) (e_fd35 (d := 0) hg c6 hm3 V)) (fun y3212 qy3212 hRy3212 => ?_)
    obtain ⟨rfl, ey3212⟩ := hRy3212
    refine y_goto (off := 4) (pc' := 34) (len := 3) (r := (0, 0, 0, 0)) (by decide +kernel) (by decide +kernel) ?_
    refine y_same (i := .istore 4) (len := 2) (r := (0, 0, 0, 0)) (pc' := 36) (ls' := [some (.inl (some 0)), some (zi xi), some (zi xk), some (zi xw), some (zi y3212), none]) (st' := []) (by decide +kernel) (fun k q => by cases q) rfl ?_
    refine y_same (i := .aload_n 0) (len := 1) (r := (0, 0, 0, 0)) (pc' := 37) (ls' := [some (.inl (some 0)), some (zi xi), some (zi xk), some (zi xw), some (zi y3212), none]) (st' := [.inl (some 0)]) (by decide +kernel) (fun k q => by cases q) rfl ?_
    refine y_same (i := .aload_n 0) (len := 1) (r := (0, 0, 0, 0)) (pc' := 38) (ls' := [some (.inl (some 0)), some (zi xi), some (zi xk), some (zi xw), some (zi y3212), none]) (st' := [.inl (some 0), .inl (some 0)]) (by decide +kernel) (fun k q => by cases q) rfl ?_
    refine y_get (j := 56) (len := 3) (r := (11, 9, 2, 408)) (by decide +kernel) hg (tv0 hg) aw0 rfl rfl (g_rU (f := 9) (T2 := 35) hg (tv0 hg) aw0 rfl (by decide)) ?_
    refine y_same (i := .iload 4) (len := 2) (r := (0, 0, 0, 0)) (pc' := 43) (ls' := [some (.inl (some 0)), some (zi xi), some (zi xk), some (zi xw), some (zi y3212), none]) (st' := [zi y3212, .inl (some 35), .inl (some 0)]) (by decide +kernel) (fun k q => by cases q) rfl ?_
    refine y_cI (i := .invokevirtual 173) (len := 3) (r := (0, 32, 4, 1153)) (nL := 2) (k := 2) (n := 2) (hs := []) (args := [.inl (some 35), zi y3212]) (rest := [.inl (some 0)]) (l0 := [some (.inl (some 35)), some (zi y3212)]) (by decide +kernel) (Or.inr (Or.inl ⟨_, rfl⟩)) rfl rfl rfl rfl (Nat.le_of_ble_eq_true rfl) (zO hg (tv35 hg) aw35 rfl) rfl (qI_le (by omega) (e_has35 (d := 0) (m := m) hg c6)) (fun y3213 qy3213 hRy3213 => ?_)
    obtain ⟨rfl, hDy3213⟩ := hRy3213
    rcases hDy3213 with ⟨vy3213, by3213, cy3213⟩ | vy3213
    ·
      obtain ⟨a, ra, ha, la, ta⟩ := V y3212.toInt.toNat (by omega)
      obtain ⟨t0, t1, t2, t3, t4, -⟩ := tyQ_of hg ta la
      obtain ⟨l1, l2, l3, l4, l5, l6, -⟩ := la
      refine y_cV (i := .invokevirtual 120) (len := 3) (r := (0, 152, 11, 1079)) (nL := 2) (k := 0) (n := 2) (hs := []) (args := [.inl (some 0), zi y3213]) (rest := []) (l0 := [some (.inl (some 0)), some (zi y3213)]) (by decide +kernel) (Or.inr (Or.inl ⟨_, rfl⟩)) rfl rfl rfl rfl (Nat.le_of_ble_eq_true rfl) (zO hg (tv0 hg) aw0 rfl) rfl (qV_le (by decide) (c_there (d := 0) (by omega))) (fun q3214 hR3214 => ?_)
      obtain rfl := hR3214
      refine y_same (i := .aload_n 0) (len := 1) (r := (0, 0, 0, 0)) (pc' := 50) (ls' := [some (.inl (some 0)), some (zi xi), some (zi xk), some (zi xw), some (zi y3212), none]) (st' := [.inl (some 0)]) (by decide +kernel) (fun k q => by cases q) rfl ?_
      refine y_get (j := 56) (len := 3) (r := (11, 9, 2, 408)) (by decide +kernel) hg (tv0 hg) aw0 rfl rfl (g_rU (f := 9) (T2 := 35) hg (tv0 hg) aw0 rfl (by decide)) ?_
      refine y_same (i := .iload 4) (len := 2) (r := (0, 0, 0, 0)) (pc' := 55) (ls' := [some (.inl (some 0)), some (zi xi), some (zi xk), some (zi xw), some (zi y3212), none]) (st' := [zi y3212, .inl (some 35)]) (by decide +kernel) (fun k q => by cases q) rfl ?_
      refine y_cA (i := .invokevirtual 174) (len := 3) (r := (0, 33, 4, 1157)) (nL := 3) (k := 3) (n := 2) (hs := []) (args := [.inl (some 35), zi y3212]) (rest := []) (l0 := [some (.inl (some 35)), some (zi y3212), none]) (by decide +kernel) (Or.inr (Or.inl ⟨_, rfl⟩)) rfl rfl rfl rfl (Nat.le_of_ble_eq_true rfl) (zO hg (tv35 hg) aw35 rfl) rfl (qA_le (by omega) (e_slo35 (d := 0) (k := y3212.toInt.toNat) hg (by omega) (by omega) ra)) (fun h3215 hR3215 => ?_)
      obtain rfl := hR3215
      refine y_get (j := 186) (len := 3) (r := (7, 1, 2, 20535)) (by decide +kernel) hg ta aw1008 rfl rfl l2 ?_
      refine y_same (i := .astore 5) (len := 2) (r := (0, 0, 0, 0)) (pc' := 63) (ls' := [some (.inl (some 0)), some (zi xi), some (zi xk), some (zi xw), some (zi y3212), some (.inl (some ((a + 3))))]) (st' := []) (by decide +kernel) (fun k q => by cases q) rfl ?_
      refine y_same (i := .iload_n 2) (len := 1) (r := (0, 0, 0, 0)) (pc' := 64) (ls' := [some (.inl (some 0)), some (zi xi), some (zi xk), some (zi xw), some (zi y3212), some (.inl (some ((a + 3))))]) (st' := [zi xk]) (by decide +kernel) (fun k q => by cases q) rfl ?_
      refine y_ic (c := (-1)) (len := 1) (r := (0, 0, 0, 0)) (by decide +kernel) (by decide) (fun y3216 hy3216 => ?_)
      rcases Decidable.em (xk.toInt ≠ y3216.toInt) with q3217 | q3217
      ·
        refine y_cT (c := .ne) (off := 9) (pc' := 74) (len := 3) (r := (0, 0, 0, 0)) (by decide +kernel) (acmpT (c := .ne) (by show ¬ (_ = _); omega)) (by decide +kernel) ?_
        refine y_same (i := .aload_n 0) (len := 1) (r := (0, 0, 0, 0)) (pc' := 75) (ls' := [some (.inl (some 0)), some (zi xi), some (zi xk), some (zi xw), some (zi y3212), some (.inl (some ((a + 3))))]) (st' := [.inl (some 0)]) (by decide +kernel) (fun k q => by cases q) rfl ?_
        refine y_same (i := .aload 5) (len := 2) (r := (0, 0, 0, 0)) (pc' := 77) (ls' := [some (.inl (some 0)), some (zi xi), some (zi xk), some (zi xw), some (zi y3212), some (.inl (some ((a + 3))))]) (st' := [.inl (some ((a + 3))), .inl (some 0)]) (by decide +kernel) (fun k q => by cases q) rfl ?_
        refine y_same (i := .iload_n 2) (len := 1) (r := (0, 0, 0, 0)) (pc' := 78) (ls' := [some (.inl (some 0)), some (zi xi), some (zi xk), some (zi xw), some (zi y3212), some (.inl (some ((a + 3))))]) (st' := [zi xk, .inl (some ((a + 3))), .inl (some 0)]) (by decide +kernel) (fun k q => by cases q) rfl ?_
        refine y_cI (i := .invokevirtual 115) (len := 3) (r := (0, 63, 6, 1075)) (nL := 2) (k := 2) (n := 2) (hs := []) (args := [.inl (some ((a + 3))), zi xk]) (rest := [.inl (some 0)]) (l0 := [some (.inl (some ((a + 3)))), some (zi xk)]) (by decide +kernel) (Or.inr (Or.inl ⟨_, rfl⟩)) rfl rfl rfl rfl (Nat.le_of_ble_eq_true rfl) (zO hg t3 aw1004 rfl) rfl (qI_le (by omega) (e_hasT (d := 0) hg t3)) (fun y3218 qy3218 hRy3218 => ?_)
        obtain ⟨rfl, hDy3218⟩ := hRy3218
        rcases hDy3218 with vy3218 | vy3218
        ·
          refine y_cV (i := .invokevirtual 120) (len := 3) (r := (0, 152, 11, 1079)) (nL := 2) (k := 0) (n := 2) (hs := []) (args := [.inl (some 0), zi y3218]) (rest := []) (l0 := [some (.inl (some 0)), some (zi y3218)]) (by decide +kernel) (Or.inr (Or.inl ⟨_, rfl⟩)) rfl rfl rfl rfl (Nat.le_of_ble_eq_true rfl) (zO hg (tv0 hg) aw0 rfl) rfl (qV_le (by decide) (c_there (d := 0) (by omega))) (fun q3219 hR3219 => ?_)
          obtain rfl := hR3219
          refine y_same (i := .aload_n 0) (len := 1) (r := (0, 0, 0, 0)) (pc' := 85) (ls' := [some (.inl (some 0)), some (zi xi), some (zi xk), some (zi xw), some (zi y3212), some (.inl (some ((a + 3))))]) (st' := [.inl (some 0)]) (by decide +kernel) (fun k q => by cases q) rfl ?_
          refine y_same (i := .iload_n 3) (len := 1) (r := (0, 0, 0, 0)) (pc' := 86) (ls' := [some (.inl (some 0)), some (zi xi), some (zi xk), some (zi xw), some (zi y3212), some (.inl (some ((a + 3))))]) (st' := [zi xw, .inl (some 0)]) (by decide +kernel) (fun k q => by cases q) rfl ?_
          rcases Decidable.em (xw.toInt < 0) with q3220 | q3220
          ·
            refine y_iT (c := .lt) (off := 12) (pc' := 98) (len := 3) (r := (0, 0, 0, 0)) (by decide +kernel) (acmpT (c := .lt) (by show _ < _; omega)) (by decide +kernel) ?_
            refine y_ic (c := 0) (len := 1) (r := (0, 0, 0, 0)) (by decide +kernel) (by decide) (fun y3221 hy3221 => ?_)
            refine y_cX (i := .invokevirtual 70) (len := 3) (r := (0, 153, 11, 852)) (nL := 2) (k := 0) (n := 2) (hs := []) (args := [.inl (some 0), zi y3221]) (rest := []) (l0 := [some (.inl (some 0)), some (zi y3221)]) (by decide +kernel) (Or.inr (Or.inl ⟨_, rfl⟩)) rfl rfl rfl rfl (Nat.le_of_ble_eq_true rfl) (zO hg (tv0 hg) aw0 rfl) rfl rfl (mL := 6) (mk := 1) (m9 := 4) (ms := []) rfl rfl (qT_le (by decide) (c_fitT (d := 0) hg (by omega))) (fun h3222 hR3222 => ?_)
            obtain ⟨hg3222, F3222⟩ := hR3222
            exact Or.inr (Or.inr ⟨_, rfl, hg3222, fun k j hC => (F3222 k j (by omega))⟩)
          ·
            refine y_iF (c := .lt) (off := 12) (len := 3) (r := (0, 0, 0, 0)) (by decide +kernel) (acmpF (c := .lt) (by show _ ≤ _; omega)) ?_
            refine y_same (i := .iload_n 3) (len := 1) (r := (0, 0, 0, 0)) (pc' := 90) (ls' := [some (.inl (some 0)), some (zi xi), some (zi xk), some (zi xw), some (zi y3212), some (.inl (some ((a + 3))))]) (st' := [zi xw, .inl (some 0)]) (by decide +kernel) (fun k q => by cases q) rfl ?_
            refine y_ic (c := 3) (len := 1) (r := (0, 0, 0, 0)) (by decide +kernel) (by decide) (fun y3223 hy3223 => ?_)
            rcases Decidable.em (xw.toInt > y3223.toInt) with q3224 | q3224
            ·
              refine y_cT (c := .gt) (off := 7) (pc' := 98) (len := 3) (r := (0, 0, 0, 0)) (by decide +kernel) (acmpT (c := .gt) (by show _ < _; omega)) (by decide +kernel) ?_
              refine y_ic (c := 0) (len := 1) (r := (0, 0, 0, 0)) (by decide +kernel) (by decide) (fun y3225 hy3225 => ?_)
              refine y_cX (i := .invokevirtual 70) (len := 3) (r := (0, 153, 11, 852)) (nL := 2) (k := 0) (n := 2) (hs := []) (args := [.inl (some 0), zi y3225]) (rest := []) (l0 := [some (.inl (some 0)), some (zi y3225)]) (by decide +kernel) (Or.inr (Or.inl ⟨_, rfl⟩)) rfl rfl rfl rfl (Nat.le_of_ble_eq_true rfl) (zO hg (tv0 hg) aw0 rfl) rfl rfl (mL := 6) (mk := 1) (m9 := 4) (ms := []) rfl rfl (qT_le (by decide) (c_fitT (d := 0) hg (by omega))) (fun h3226 hR3226 => ?_)
              obtain ⟨hg3226, F3226⟩ := hR3226
              exact Or.inr (Or.inr ⟨_, rfl, hg3226, fun k j hC => (F3226 k j (by omega))⟩)
            ·
              refine y_cF (c := .gt) (off := 7) (len := 3) (r := (0, 0, 0, 0)) (by decide +kernel) (acmpF (c := .gt) (by show _ ≤ _; omega)) ?_
              refine y_ic (c := 1) (len := 1) (r := (0, 0, 0, 0)) (by decide +kernel) (by decide) (fun y3227 hy3227 => ?_)
              refine y_goto (off := 4) (pc' := 99) (len := 3) (r := (0, 0, 0, 0)) (by decide +kernel) (by decide +kernel) ?_
              refine y_cV (i := .invokevirtual 70) (len := 3) (r := (0, 153, 11, 852)) (nL := 2) (k := 0) (n := 2) (hs := []) (args := [.inl (some 0), zi y3227]) (rest := []) (l0 := [some (.inl (some 0)), some (zi y3227)]) (by decide +kernel) (Or.inr (Or.inl ⟨_, rfl⟩)) rfl rfl rfl rfl (Nat.le_of_ble_eq_true rfl) (zO hg (tv0 hg) aw0 rfl) rfl (qV_le (by decide) (c_fit (d := 0) (by omega))) (fun q3228 hR3228 => ?_)
              obtain rfl := hR3228
              refine y_same (i := .aload 5) (len := 2) (r := (0, 0, 0, 0)) (pc' := 104) (ls' := [some (.inl (some 0)), some (zi xi), some (zi xk), some (zi xw), some (zi y3212), some (.inl (some ((a + 3))))]) (st' := [.inl (some ((a + 3)))]) (by decide +kernel) (fun k q => by cases q) rfl ?_
              refine y_same (i := .iload_n 2) (len := 1) (r := (0, 0, 0, 0)) (pc' := 105) (ls' := [some (.inl (some 0)), some (zi xi), some (zi xk), some (zi xw), some (zi y3212), some (.inl (some ((a + 3))))]) (st' := [zi xk, .inl (some ((a + 3)))]) (by decide +kernel) (fun k q => by cases q) rfl ?_
              refine y_same (i := .iload_n 3) (len := 1) (r := (0, 0, 0, 0)) (pc' := 106) (ls' := [some (.inl (some 0)), some (zi xi), some (zi xk), some (zi xw), some (zi y3212), some (.inl (some ((a + 3))))]) (st' := [zi xw, zi xk, .inl (some ((a + 3)))]) (by decide +kernel) (fun k q => by cases q) rfl ?_
              refine y_cI (i := .invokevirtual 149) (len := 3) (r := (0, 64, 6, 1131)) (nL := 3) (k := 1) (n := 3) (hs := []) (args := [.inl (some ((a + 3))), zi xk, zi xw]) (rest := []) (l0 := [some (.inl (some ((a + 3)))), some (zi xk), some (zi xw)]) (by decide +kernel) (Or.inr (Or.inl ⟨_, rfl⟩)) rfl rfl rfl rfl (Nat.le_of_ble_eq_true rfl) (zO hg t3 aw1004 rfl) rfl (qI_le (by omega) (e_tellT (d := 0) hg t3 t4 l6)) (fun y3229 qy3229 hRy3229 => ?_)
              obtain rfl := hRy3229
              refine qX_mn (P := rI (fun _ h9 => h9 = h) t) ?_ (fun x9 q9 => Or.inl (by obtain ⟨y9, h9, e9, e8⟩ := q9; subst e8; exact ⟨y9, _, e9, hg, fun k j _ => rfl⟩))
              refine y_rI (len := 1) (r := (0, 0, 0, 0)) (nL := 6) (k := 1) (n9 := 4) (hs := []) (by decide +kernel) rfl rfl ?_
              rfl
        ·
          refine y_cX (i := .invokevirtual 120) (len := 3) (r := (0, 152, 11, 1079)) (nL := 2) (k := 0) (n := 2) (hs := []) (args := [.inl (some 0), zi y3218]) (rest := []) (l0 := [some (.inl (some 0)), some (zi y3218)]) (by decide +kernel) (Or.inr (Or.inl ⟨_, rfl⟩)) rfl rfl rfl rfl (Nat.le_of_ble_eq_true rfl) (zO hg (tv0 hg) aw0 rfl) rfl rfl (mL := 6) (mk := 1) (m9 := 4) (ms := []) rfl rfl (qT_le (by decide) (c_thereT (d := 0) hg (by omega))) (fun h3230 hR3230 => ?_)
          obtain ⟨hg3230, F3230⟩ := hR3230
          exact Or.inr (Or.inl ⟨_, rfl, hg3230, fun k j hC => (F3230 k j (by omega))⟩)
      ·
        refine y_cF (c := .ne) (off := 9) (len := 3) (r := (0, 0, 0, 0)) (by decide +kernel) (acmpF (c := .ne) (by show _ = _; omega)) ?_
        refine y_same (i := .aload 5) (len := 2) (r := (0, 0, 0, 0)) (pc' := 70) (ls' := [some (.inl (some 0)), some (zi xi), some (zi xk), some (zi xw), some (zi y3212), some (.inl (some ((a + 3))))]) (st' := [.inl (some ((a + 3)))]) (by decide +kernel) (fun k q => by cases q) rfl ?_
        obtain ⟨v3231, hv3232, lv3231, uv3231⟩ := g_int (i := 1) (lo := 0) (hi := 14) hg t3 aw1004 (by decide) rfl
        refine y_get (j := 126) (len := 3) (r := (6, 1, 0, 20168)) (by decide +kernel) hg t3 aw1004 rfl rfl hv3232 ?_
        refine qX_mn (P := rI (fun _ h9 => h9 = h) t) ?_ (fun x9 q9 => Or.inl (by obtain ⟨y9, h9, e9, e8⟩ := q9; subst e8; exact ⟨y9, _, e9, hg, fun k j _ => rfl⟩))
        refine y_rI (len := 1) (r := (0, 0, 0, 0)) (nL := 6) (k := 1) (n9 := 4) (hs := []) (by decide +kernel) rfl rfl ?_
        rfl
    ·
      refine y_cX (i := .invokevirtual 120) (len := 3) (r := (0, 152, 11, 1079)) (nL := 2) (k := 0) (n := 2) (hs := []) (args := [.inl (some 0), zi y3213]) (rest := []) (l0 := [some (.inl (some 0)), some (zi y3213)]) (by decide +kernel) (Or.inr (Or.inl ⟨_, rfl⟩)) rfl rfl rfl rfl (Nat.le_of_ble_eq_true rfl) (zO hg (tv0 hg) aw0 rfl) rfl rfl (mL := 6) (mk := 1) (m9 := 4) (ms := []) rfl rfl (qT_le (by decide) (c_thereT (d := 0) hg (by omega))) (fun h3233 hR3233 => ?_)
      obtain ⟨hg3233, F3233⟩ := hR3233
      exact Or.inr (Or.inl ⟨_, rfl, hg3233, fun k j hC => (F3233 k j (by omega))⟩)
theorem kp0_JCp {τ : List Nat} {h h1 : zh} {cur : bsT} (k : keep0 τ h h1) (j : JCp h cur) : JCp h1 cur := JCp_kp ⟨fun k9 => k.2 36 k9 (by omega), k.2 35 0 (by omega), k.2 35 6 (by omega), k.2 35 8 (by omega), k.2 38 2 (by omega)⟩ (fun a ha l _ => laQ_up l (fun k9 j9 h1 h2 _ _ => k.2 k9 j9 (by omega))) (k.2 35 5 (by omega)) j
theorem oP3_mn {R S : zh → Prop} {t : Nat} {x : zo × zh × Nat} (f : ∀ h1, R h1 → S h1) (o : oP3 R t x) : oP3 S t x := by
  rcases o with ⟨y, h1, e, r⟩ | ⟨h1, e, r⟩ | ⟨h1, e, r⟩
  · exact Or.inl ⟨y, h1, e, f _ r⟩
  · exact Or.inr (Or.inl ⟨h1, e, f _ r⟩)
  · exact Or.inr (Or.inr ⟨h1, e, f _ r⟩)
theorem viO_cm {τ : List Nat} {h : zh} {m : Nat} (hg : hG τ h) (cm : cmI h 36) (hm : m ≤ 300) (t : ∀ k, k < m → ∃ a, rfs h 36 k a) : viO τ h m := fun k hk => by
  obtain ⟨a, r⟩ := t k hk
  obtain ⟨v, e, q⟩ := g_slot36 (i := k) hg (by omega)
  have e9 : some (.inl (some a)) = some v := r.symm.trans e
  cases e9
  rcases q with q | ⟨b, q, ty⟩
  · cases q
  · cases q
    rcases cm.1 k (by omega) with z | ⟨a', r', g, l⟩
    · have := r.symm.trans z
      cases this
    · have e8 := rfs_eq r r'
      subst e8
      exact ⟨a, r, g, l, ty⟩
theorem e_jdg35m {d t u v : Nat} {τ : List Nat} {h : zh} {b : bsT} (hg : hG τ h) (cm : cmI h 36) (ml : kx_ h 35 0 1) (hu : uv_ u v) (l2 : layC h 2) (b2 : bsC h 2 u v b) (ok : okB b) (j0 : kx_ h 35 5 0) : qV (d + 9) 37 [some (.inl (some 35)), some (.inl (some 2)), none, none, none, none] h t (fun h1 => ∃ τ1, aup τ τ1 ∧ jdO τ1 h1 35 (prfF cyN true b) ∧ kx_ h1 35 0 1) := by
  obtain ⟨h1, e, τ1, u1, o1⟩ := e_jdg35 (d := d) (t := t) (cy := cyN) (fun _ _ => rfl) hg cm ml hu l2 b2 ok j0
  obtain ⟨F, -⟩ := use_F (okC (mk := 37) (c := ac131) (List.mem_of_getElem? (i := 1) rfl)) rfl hg (show aqsM _ _ [.inl (some 35), .inl (some 2)] from ⟨aqR (tv35 hg), aqR (tv2 hg), trivial⟩) rfl (by omega) e
  exact ⟨h1, e, τ1, u1, o1, kx_up ml (F 35 35 0 (tv35 hg) (by decide +kernel))⟩
theorem op_k {t : Nat} {τ : List Nat} {h : zh} {cur : bsT} {xi xk xw : Int32} (hg : hG τ h) (r5 : rfs h 0 5 2) (jc : JCp h cur) (j1 : kx_ h 35 5 1) : qP 22 146 [some (.inl (some 0)), some (zi xi), some (zi xk), some (zi xw), none, none] h t (oP3 (fun h1 => (∃ τ1, hG τ1 h1) ∧ JCp h1 cur) t) := by
  obtain ⟨-, -, m, hm3, c6, tr⟩ := jc.2.2 j1
  have V := viO_cm hg jc.1 hm3 tr
  refine qP_of ?_
  refine y_same (i := .aload_n 0) (len := 1) (r := (0, 0, 0, 0)) (pc' := 1) (ls' := [some (.inl (some 0)), some (zi xi), some (zi xk), some (zi xw), none, none]) (st' := [.inl (some 0)]) (by decide +kernel) (fun k q => by cases q) rfl ?_
  refine y_get (j := 56) (len := 3) (r := (11, 9, 2, 408)) (by decide +kernel) hg (tv0 hg) aw0 rfl rfl (g_rU (f := 9) (T2 := 35) hg (tv0 hg) aw0 rfl (by decide)) ?_
  refine y_same (i := .aload_n 0) (len := 1) (r := (0, 0, 0, 0)) (pc' := 5) (ls' := [some (.inl (some 0)), some (zi xi), some (zi xk), some (zi xw), none, none]) (st' := [.inl (some 0), .inl (some 35)]) (by decide +kernel) (fun k q => by cases q) rfl ?_
  refine y_get (j := 29) (len := 3) (r := (11, 5, 2, 404)) (by decide +kernel) hg (tv0 hg) aw0 rfl rfl r5 ?_
  refine y_cV (i := .invokevirtual 153) (len := 3) (r := (0, 37, 4, 494)) (nL := 6) (k := 0) (n := 2) (hs := []) (args := [.inl (some 35), .inl (some 2)]) (rest := []) (l0 := [some (.inl (some 35)), some (.inl (some 2)), none, none, none, none]) (by decide +kernel) (Or.inr (Or.inl ⟨_, rfl⟩)) rfl rfl rfl rfl (Nat.le_of_ble_eq_true rfl) (zO hg (tv35 hg) aw35 rfl) rfl (qV_le (by omega) (e_jdk35 (d := 0) hg j1)) (fun h3234 hR3234 => ?_)
  obtain rfl := hR3234
  exact qX_mn (op_11 hg c6 hm3 V) (fun x q => oP3_mn (fun h1 k => ⟨⟨_, k.1⟩, kp0_JCp k jc⟩) q)
theorem op_z {t u v : Nat} {τ : List Nat} {h : zh} {cur : bsT} {xi xk xw : Int32} (hg : hG τ h) (r5 : rfs h 0 5 2) (jc : JCp h cur) (hu : uv_ u v) (l2 : layC h 2) (b2 : bsC h 2 u v cur) (ok : okB cur) (j0 : kx_ h 35 5 0) : qP 22 146 [some (.inl (some 0)), some (zi xi), some (zi xk), some (zi xw), none, none] h t (oP3 (fun h1 => (∃ τ1, hG τ1 h1) ∧ JCp h1 cur) t) := by
  refine qP_of ?_
  refine y_same (i := .aload_n 0) (len := 1) (r := (0, 0, 0, 0)) (pc' := 1) (ls' := [some (.inl (some 0)), some (zi xi), some (zi xk), some (zi xw), none, none]) (st' := [.inl (some 0)]) (by decide +kernel) (fun k q => by cases q) rfl ?_
  refine y_get (j := 56) (len := 3) (r := (11, 9, 2, 408)) (by decide +kernel) hg (tv0 hg) aw0 rfl rfl (g_rU (f := 9) (T2 := 35) hg (tv0 hg) aw0 rfl (by decide)) ?_
  refine y_same (i := .aload_n 0) (len := 1) (r := (0, 0, 0, 0)) (pc' := 5) (ls' := [some (.inl (some 0)), some (zi xi), some (zi xk), some (zi xw), none, none]) (st' := [.inl (some 0), .inl (some 35)]) (by decide +kernel) (fun k q => by cases q) rfl ?_
  refine y_get (j := 29) (len := 3) (r := (11, 5, 2, 404)) (by decide +kernel) hg (tv0 hg) aw0 rfl rfl r5 ?_
  refine y_cV (i := .invokevirtual 153) (len := 3) (r := (0, 37, 4, 494)) (nL := 6) (k := 0) (n := 2) (hs := []) (args := [.inl (some 35), .inl (some 2)]) (rest := []) (l0 := [some (.inl (some 35)), some (.inl (some 2)), none, none, none, none]) (by decide +kernel) (Or.inr (Or.inl ⟨_, rfl⟩)) rfl rfl rfl rfl (Nat.le_of_ble_eq_true rfl) (zO hg (tv35 hg) aw35 rfl) rfl (qV_le (by omega) (e_jdg35m (d := 0) hg jc.1 jc.2.1 hu l2 b2 ok j0)) (fun h3235 hR3235 => ?_)
  obtain ⟨τ1, u1, o1, ml⟩ := hR3235
  have jc1 := jd_JCp o1 ml
  obtain ⟨hg1, cm1, j5, o8, c6, l6, c2, gr, pE⟩ := o1
  exact qX_mn (op_11 hg1 c6 l6 (viO_cm hg1 cm1 l6 (cm_there pE))) (fun x q => oP3_mn (fun h1 k => ⟨⟨_, k.1⟩, kp0_JCp k jc1⟩) q)
