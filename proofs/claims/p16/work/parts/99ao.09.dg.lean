/-! pairs that differ, as bits: more -/
theorem fil21_l {d t OA : Nat} {τ : List Nat} {h0 : zh} {xv xm : Int32} (tOA : τ[OA]? = some 1010) (hxm : xm.toInt = 21) : ∀ (n : Nat) (h : zh) (i : Nat) (xi : Int32), hG τ h → (∀ j, j < i → hsl h OA j = some (zi xv)) → (∀ k j, k ≠ OA → hsl h k j = hsl h0 k j) → xi.toInt = (i : Int) → i ≤ 21 → 21 ≤ i + n → qX d 274 5 [some (.inl (some OA)), some (zi xv), some (zi xi), some (zi xm)] [] h t (rV (fun h1 => hG τ h1 ∧ (∀ j, j < 21 → hsl h1 OA j = some (zi xv)) ∧ ∀ k j, k ≠ OA → hsl h1 k j = hsl h0 k j) t) := by
  intro n
  induction n with
  | zero =>
    intro h i xi hg c1 c2 hxi hi hn
    refine y_same (i := .iload_n 2) (len := 1) (r := (0, 0, 0, 0)) (pc' := 6) (ls' := [some (.inl (some OA)), some (zi xv), some (zi xi), some (zi xm)]) (st' := [zi xi]) (by decide +kernel) (fun k q => by cases q) rfl ?_
    refine y_same (i := .iload_n 3) (len := 1) (r := (0, 0, 0, 0)) (pc' := 7) (ls' := [some (.inl (some OA)), some (zi xv), some (zi xi), some (zi xm)]) (st' := [zi xm, zi xi]) (by decide +kernel) (fun k q => by cases q) rfl ?_
    refine y_cT (c := .ge) (off := 13) (pc' := 20) (len := 3) (r := (0, 0, 0, 0)) (by decide +kernel) (acmpT (c := .ge) (by show _ ≤ _; omega)) (by decide +kernel) ?_
    refine y_rV (len := 1) (r := (0, 0, 0, 0)) (nL := 4) (n9 := 2) (hs := []) (by decide +kernel) rfl ?_
    exact ⟨hg, fun j hj => c1 j (by omega), c2⟩
  | succ n ih =>
    intro h i xi hg c1 c2 hxi hi hn
    rcases Nat.lt_or_ge i 21 with q | q
    ·
      refine y_same (i := .iload_n 2) (len := 1) (r := (0, 0, 0, 0)) (pc' := 6) (ls' := [some (.inl (some OA)), some (zi xv), some (zi xi), some (zi xm)]) (st' := [zi xi]) (by decide +kernel) (fun k q => by cases q) rfl ?_
      refine y_same (i := .iload_n 3) (len := 1) (r := (0, 0, 0, 0)) (pc' := 7) (ls' := [some (.inl (some OA)), some (zi xv), some (zi xi), some (zi xm)]) (st' := [zi xm, zi xi]) (by decide +kernel) (fun k q => by cases q) rfl ?_
      refine y_cF (c := .ge) (off := 13) (len := 3) (r := (0, 0, 0, 0)) (by decide +kernel) (acmpF (c := .ge) (by show _ < _; omega)) ?_
      refine y_same (i := .aload_n 0) (len := 1) (r := (0, 0, 0, 0)) (pc' := 11) (ls' := [some (.inl (some OA)), some (zi xv), some (zi xi), some (zi xm)]) (st' := [.inl (some OA)]) (by decide +kernel) (fun k q => by cases q) rfl ?_
      refine y_same (i := .iload_n 2) (len := 1) (r := (0, 0, 0, 0)) (pc' := 12) (ls' := [some (.inl (some OA)), some (zi xv), some (zi xi), some (zi xm)]) (st' := [zi xi, .inl (some OA)]) (by decide +kernel) (fun k q => by cases q) rfl ?_
      refine y_same (i := .iload_n 1) (len := 1) (r := (0, 0, 0, 0)) (pc' := 13) (ls' := [some (.inl (some OA)), some (zi xv), some (zi xi), some (zi xm)]) (st' := [zi xv, zi xi, .inl (some OA)]) (by decide +kernel) (fun k q => by cases q) rfl ?_
      refine y_ias (i := i) (len := 1) (r := (0, 0, 0, 0)) (by decide +kernel) hg tOA aw1010 rfl (by omega) (by omega) (sr1 (by omega)) (qin_full _).1 (qin_full _).2 (fun h2261 hg2261 hl2261 hs2261 ho2261 => ?_)
      refine y_inc (j := 2) (a := xi) (c := 1) (ls' := fun v => [some (.inl (some OA)), some (zi xv), some v, some (zi xm)]) (len := 3) (r := (0, 0, 0, 0)) (by decide +kernel) rfl (fun _ => rfl) (by decide) (by omega) (by omega) (fun y2262 hy2262 => ?_)
      show qX d 274 17 [some (.inl (some OA)), some (zi xv), some (zi y2262), some (zi xm)] [] h2261 t _
      refine y_goto (off := (-12)) (pc' := 5) (len := 3) (r := (0, 0, 0, 0)) (by decide +kernel) (by decide +kernel) ?_
      refine ih h2261 (i + 1) y2262 hg2261 (fun j hj => ?_) (fun k j hk => (ho2261 k j (Or.inl hk)).trans (c2 k j hk)) (by omega) (by omega) (by omega)
      rcases Nat.lt_or_ge j i with q9 | q9
      · exact (ho2261 OA j (Or.inr (by omega))).trans (c1 j q9)
      · have e9 : j = i := by omega
        subst e9
        exact hs2261
    ·
      refine y_same (i := .iload_n 2) (len := 1) (r := (0, 0, 0, 0)) (pc' := 6) (ls' := [some (.inl (some OA)), some (zi xv), some (zi xi), some (zi xm)]) (st' := [zi xi]) (by decide +kernel) (fun k q => by cases q) rfl ?_
      refine y_same (i := .iload_n 3) (len := 1) (r := (0, 0, 0, 0)) (pc' := 7) (ls' := [some (.inl (some OA)), some (zi xv), some (zi xi), some (zi xm)]) (st' := [zi xm, zi xi]) (by decide +kernel) (fun k q => by cases q) rfl ?_
      refine y_cT (c := .ge) (off := 13) (pc' := 20) (len := 3) (r := (0, 0, 0, 0)) (by decide +kernel) (acmpT (c := .ge) (by show _ ≤ _; omega)) (by decide +kernel) ?_
      refine y_rV (len := 1) (r := (0, 0, 0, 0)) (nL := 4) (n9 := 2) (hs := []) (by decide +kernel) rfl ?_
      exact ⟨hg, fun j hj => c1 j (by omega), c2⟩
theorem e_fil21 {d t OA : Nat} {τ : List Nat} {h : zh} {xv : Int32} (hg : hG τ h) (tOA : τ[OA]? = some 1010) : qV (d + 1) 274 [some (.inl (some OA)), some (zi xv), none, none] h t (fun h1 => hG τ h1 ∧ (∀ j, j < 21 → hsl h1 OA j = some (zi xv)) ∧ ∀ k j, k ≠ OA → hsl h1 k j = hsl h k j) := by
  refine qV_of ?_
  refine y_ic (c := 0) (len := 1) (r := (0, 0, 0, 0)) (by decide +kernel) (by decide) (fun y2263 hy2263 => ?_)
  refine y_same (i := .istore_n 2) (len := 1) (r := (0, 0, 0, 0)) (pc' := 2) (ls' := [some (.inl (some OA)), some (zi xv), some (zi y2263), none]) (st' := []) (by decide +kernel) (fun k q => by cases q) rfl ?_
  refine y_same (i := .aload_n 0) (len := 1) (r := (0, 0, 0, 0)) (pc' := 3) (ls' := [some (.inl (some OA)), some (zi xv), some (zi y2263), none]) (st' := [.inl (some OA)]) (by decide +kernel) (fun k q => by cases q) rfl ?_
  refine y_aln (len := 1) (r := (0, 0, 0, 0)) (by decide +kernel) hg tOA aw1010 (by decide) (fun y2264 hy2264 => ?_)
  refine y_same (i := .istore_n 3) (len := 1) (r := (0, 0, 0, 0)) (pc' := 5) (ls' := [some (.inl (some OA)), some (zi xv), some (zi y2263), some (zi y2264)]) (st' := []) (by decide +kernel) (fun k q => by cases q) rfl ?_
  exact fil21_l tOA (by omega) 21 h 0 y2263 hg (fun j hj => absurd hj (Nat.not_lt_zero j)) (fun k j _ => rfl) (by omega) (by omega) (by omega)
def dNo : dfT := fun _ _ => False
theorem e_dclr {d t : Nat} {τ : List Nat} {h : zh} (hg : hG τ h) {DA OA : Nat} (tDA : τ[DA]? = some 1009) (tOA : τ[OA]? = some 1010) (pO : hsl h DA 0 = some (.inl (some OA))) : qV (d + 2) 1 [some (.inl (some DA))] h t (fun h1 => hG τ h1 ∧ dC h1 OA 0 dNo ∧ ∀ k j, k ≠ OA → hsl h1 k j = hsl h k j) := by
  refine qV_of ?_
  refine y_same (i := .aload_n 0) (len := 1) (r := (0, 0, 0, 0)) (pc' := 1) (ls' := [some (.inl (some DA))]) (st' := [.inl (some DA)]) (by decide +kernel) (fun k q => by cases q) rfl ?_
  refine y_get (j := 9) (len := 3) (r := (0, 0, 2, 524)) (by decide +kernel) hg tDA aw1009 rfl rfl pO ?_
  refine y_ic (c := 0) (len := 1) (r := (0, 0, 0, 0)) (by decide +kernel) (by decide) (fun y2265 hy2265 => ?_)
  refine y_cV (i := .invokestatic 15) (len := 3) (r := (1, 274, 60, 585)) (nL := 4) (k := 0) (n := 2) (hs := []) (args := [.inl (some OA), zi y2265]) (rest := []) (l0 := [some (.inl (some OA)), some (zi y2265), none, none]) (by decide +kernel) (Or.inl ⟨_, rfl⟩) rfl rfl rfl rfl (Nat.le_of_ble_eq_true rfl) rfl rfl (qV_le (by omega) (e_fil21 (d := 0) hg tOA)) (fun h2266 hR2266 => ?_)
  obtain ⟨hg2266, c2266, F2266⟩ := hR2266
  refine y_rV (len := 1) (r := (0, 0, 0, 0)) (nL := 1) (n9 := 1) (hs := []) (by decide +kernel) rfl ?_
  exact ⟨hg2266, fun x hx => ⟨_, by rw [Nat.zero_add]; exact c2266 x hx, bs_0 (by omega) (fun v q => q)⟩, fun k j hC => (F2266 k j (by omega))⟩
theorem e_dcp {d t DA OA DB OB : Nat} {τ : List Nat} {h : zh} {D : dfT} (hg : hG τ h) (tDA : τ[DA]? = some 1009) (tOA : τ[OA]? = some 1010) (tDB : τ[DB]? = some 1009) (tOB : τ[OB]? = some 1010) (pA : hsl h DA 0 = some (.inl (some OA))) (pB : hsl h DB 0 = some (.inl (some OB))) (dc : dC h OB 0 D) : qV (d + 1) 2 [some (.inl (some DA)), some (.inl (some DB))] h t (fun h1 => hG τ h1 ∧ dC h1 OA 0 D ∧ ∀ k j, k ≠ OA → hsl h1 k j = hsl h k j) := by
  refine qV_of ?_
  refine y_same (i := .aload_n 1) (len := 1) (r := (0, 0, 0, 0)) (pc' := 1) (ls' := [some (.inl (some DA)), some (.inl (some DB))]) (st' := [.inl (some DB)]) (by decide +kernel) (fun k q => by cases q) rfl ?_
  refine y_get (j := 9) (len := 3) (r := (0, 0, 2, 524)) (by decide +kernel) hg tDB aw1009 rfl rfl pB ?_
  refine y_ic (c := 0) (len := 1) (r := (0, 0, 0, 0)) (by decide +kernel) (by decide) (fun y2267 hy2267 => ?_)
  refine y_same (i := .aload_n 0) (len := 1) (r := (0, 0, 0, 0)) (pc' := 6) (ls' := [some (.inl (some DA)), some (.inl (some DB))]) (st' := [.inl (some DA), zi y2267, .inl (some OB)]) (by decide +kernel) (fun k q => by cases q) rfl ?_
  refine y_get (j := 9) (len := 3) (r := (0, 0, 2, 524)) (by decide +kernel) hg tDA aw1009 rfl rfl pA ?_
  refine y_ic (c := 0) (len := 1) (r := (0, 0, 0, 0)) (by decide +kernel) (by decide) (fun y2268 hy2268 => ?_)
  refine y_bi (c := 21) (len := 2) (r := (0, 0, 0, 0)) (by decide +kernel) (by decide) (fun y2269 hy2269 => ?_)
  refine y_cpy (i := .invokestatic 21) (len := 3) (r := (7, 0, 0, 791)) (m := 21) (by decide +kernel) (Or.inl ⟨_, rfl⟩) rfl rfl hg tOB aw1010 tOA aw1010 rfl (by decide) (by omega) (by omega) (by omega) (by omega) (by omega) (fun h2270 hg2270 hl2270 hcp F2270 => ?_)
  refine y_rV (len := 1) (r := (0, 0, 0, 0)) (nL := 2) (n9 := 2) (hs := []) (by decide +kernel) rfl ?_
  refine ⟨hg2270, fun x hx => ?_, fun k j hC => (F2270 k j (by omega))⟩
  obtain ⟨v, e1, e2⟩ := dc x hx
  exact ⟨v, (hcp (0 + x) (by omega)).trans e1, e2⟩
theorem dself_l {d t : Nat} {τ : List Nat} {h : zh} (hg : hG τ h) {DA OA : Nat} {D : dfT} (tDA : τ[DA]? = some 1009) (tOA : τ[OA]? = some 1010) (pO : hsl h DA 0 = some (.inl (some OA))) (dc : dC h OA 0 D) (od : okD D) : ∀ (n : Nat) (i : Nat) (xi : Int32), (xi.toInt = (i : Int)) → (i ≤ 21) → (∀ j : Nat, j < i → ¬ D (j : Int) (j : Int)) → (21 < i + n) → qX d 6 2 [some (.inl (some DA)), some (zi xi)] [] h t (rI (fun y h1 => h = h1 ∧ ((y.toInt = 1 ∧ ∃ a, D a a) ∨ (y.toInt = 0 ∧ ∀ a, ¬ D a a))) t) := by
  intro n
  induction n with
  | zero =>
    intro i xi hxi hi c1 hn
    exfalso
    omega
  | succ n ih =>
    intro i xi hxi hi c1 hn
    skip
    refine y_same (i := .iload_n 1) (len := 1) (r := (0, 0, 0, 0)) (pc' := 3) (ls' := [some (.inl (some DA)), some (zi xi)]) (st' := [zi xi]) (by decide +kernel) (fun k q => by cases q) rfl ?_
    refine y_bi (c := 21) (len := 2) (r := (0, 0, 0, 0)) (by decide +kernel) (by decide) (fun y2271 hy2271 => ?_)
    rcases Decidable.em (xi.toInt ≥ y2271.toInt) with q2272 | q2272
    ·
      refine y_cT (c := .ge) (off := 25) (pc' := 30) (len := 3) (r := (0, 0, 0, 0)) (by decide +kernel) (acmpT (c := .ge) (by show _ ≤ _; omega)) (by decide +kernel) ?_
      refine y_ic (c := 0) (len := 1) (r := (0, 0, 0, 0)) (by decide +kernel) (by decide) (fun y2273 hy2273 => ?_)
      refine y_rI (len := 1) (r := (0, 0, 0, 0)) (nL := 2) (k := 2) (n9 := 1) (hs := []) (by decide +kernel) rfl (zfit_b (by omega) (by omega)).2 ?_
      refine ⟨rfl, Or.inr ⟨by omega, fun a ha => ?_⟩⟩
      obtain ⟨b1, -⟩ := od.1 a a ha
      have e9 : ((a.toNat : Nat) : Int) = a := by omega
      rw [← e9] at ha
      exact c1 a.toNat (by omega) ha
    ·
      refine y_cF (c := .ge) (off := 25) (len := 3) (r := (0, 0, 0, 0)) (by decide +kernel) (acmpF (c := .ge) (by show _ < _; omega)) ?_
      obtain ⟨xv, hv0, bv⟩ := dc i (by omega)
      have hv : hsl h OA i = some (zi xv) := by
        rw [← Nat.zero_add i]
        exact hv0
      refine y_same (i := .aload_n 0) (len := 1) (r := (0, 0, 0, 0)) (pc' := 9) (ls' := [some (.inl (some DA)), some (zi xi)]) (st' := [.inl (some DA)]) (by decide +kernel) (fun k q => by cases q) rfl ?_
      refine y_get (j := 9) (len := 3) (r := (0, 0, 2, 524)) (by decide +kernel) hg tDA aw1009 rfl rfl pO ?_
      refine y_same (i := .iload_n 1) (len := 1) (r := (0, 0, 0, 0)) (pc' := 13) (ls' := [some (.inl (some DA)), some (zi xi)]) (st' := [zi xi, .inl (some OA)]) (by decide +kernel) (fun k q => by cases q) rfl ?_
      refine y_ial (i := i) (len := 1) (r := (0, 0, 0, 0)) (by decide +kernel) hg tOA aw1010 (by omega) hv ?_
      refine y_same (i := .iload_n 1) (len := 1) (r := (0, 0, 0, 0)) (pc' := 15) (ls' := [some (.inl (some DA)), some (zi xi)]) (st' := [zi xi, zi xv]) (by decide +kernel) (fun k q => by cases q) rfl ?_
      refine y_bp (i := .ishr) (f := fun x y => x >>> (y &&& 31)) (len := 1) (r := (0, 0, 0, 0)) (by decide +kernel) rfl rfl (fun y2274 hy2274 => ?_)
      have hy2274 : y2274 = xv >>> (xi &&& 31) := hy2274
      refine y_ic (c := 1) (len := 1) (r := (0, 0, 0, 0)) (by decide +kernel) (by decide) (fun y2275 hy2275 => ?_)
      refine y_bp (i := .iand) (f := fun x y => x &&& y) (len := 1) (r := (0, 0, 0, 0)) (by decide +kernel) rfl rfl (fun y2276 hy2276 => ?_)
      have hy2276 : y2276 = y2274 &&& y2275 := hy2276
      have t9 := bs_t (k := i) bv hxi (by omega) hy2274 hy2275 hy2276
      refine y_ic (c := 1) (len := 1) (r := (0, 0, 0, 0)) (by decide +kernel) (by decide) (fun y2277 hy2277 => ?_)
      rcases Decidable.em (y2276.toInt ≠ y2277.toInt) with q2278 | q2278
      ·
        refine y_cT (c := .ne) (off := 5) (pc' := 24) (len := 3) (r := (0, 0, 0, 0)) (by decide +kernel) (acmpT (c := .ne) (by show ¬ (_ = _); omega)) (by decide +kernel) ?_
        refine y_inc (j := 1) (a := xi) (c := 1) (ls' := fun v => [some (.inl (some DA)), some v]) (len := 3) (r := (0, 0, 0, 0)) (by decide +kernel) rfl (fun _ => rfl) (by decide) (by omega) (by omega) (fun y2279 hy2279 => ?_)
        show qX d 6 27 [some (.inl (some DA)), some (zi y2279)] [] h t _
        refine y_goto (off := (-25)) (pc' := 2) (len := 3) (r := (0, 0, 0, 0)) (by decide +kernel) (by decide +kernel) ?_
        refine ih (i + 1) y2279 (by omega) (by omega) (fun j hj => ?_) (by omega)
        rcases Nat.lt_or_ge j i with q9 | q9
        · exact c1 j q9
        · obtain rfl : j = i := by omega
          rcases t9 with ⟨q1, q2⟩ | ⟨q1, q2⟩
          · omega
          · exact q2
      ·
        refine y_cF (c := .ne) (off := 5) (len := 3) (r := (0, 0, 0, 0)) (by decide +kernel) (acmpF (c := .ne) (by show _ = _; omega)) ?_
        refine y_ic (c := 1) (len := 1) (r := (0, 0, 0, 0)) (by decide +kernel) (by decide) (fun y2280 hy2280 => ?_)
        refine y_rI (len := 1) (r := (0, 0, 0, 0)) (nL := 2) (k := 2) (n9 := 1) (hs := []) (by decide +kernel) rfl (zfit_b (by omega) (by omega)).2 ?_
        rcases t9 with ⟨q1, q2⟩ | ⟨q1, q2⟩
        · exact ⟨rfl, Or.inl ⟨by omega, (i : Int), q2⟩⟩
        · omega
theorem e_dself {d t : Nat} {τ : List Nat} {h : zh} (hg : hG τ h) {DA OA : Nat} {D : dfT} (tDA : τ[DA]? = some 1009) (tOA : τ[OA]? = some 1010) (pO : hsl h DA 0 = some (.inl (some OA))) (dc : dC h OA 0 D) (od : okD D) : qI (d + 1) 6 [some (.inl (some DA)), none] h t (fun y h1 => h = h1 ∧ ((y.toInt = 1 ∧ ∃ a, D a a) ∨ (y.toInt = 0 ∧ ∀ a, ¬ D a a))) := by
  refine qI_of ?_
  refine y_ic (c := 0) (len := 1) (r := (0, 0, 0, 0)) (by decide +kernel) (by decide) (fun y2281 hy2281 => ?_)
  refine y_same (i := .istore_n 1) (len := 1) (r := (0, 0, 0, 0)) (pc' := 2) (ls' := [some (.inl (some DA)), some (zi y2281)]) (st' := []) (by decide +kernel) (fun k q => by cases q) rfl ?_
  exact dself_l hg tDA tOA pO dc od 22 0 y2281 (by omega) (by omega) (fun j hj => absurd hj (Nat.not_lt_zero j)) (by omega)
/-- the number of pairs, as the rows tell it -/
def cntF (f : Nat → Int32) : Nat → Int32
  | 0 => 0
  | i + 1 => cntF f i + bcF (f i >>> (nI i &&& 31))
theorem cntF_cg {f g : Nat → Int32} : ∀ {n : Nat}, (∀ x, x < n → f x = g x) → cntF f n = cntF g n
  | 0, _ => rfl
  | n + 1, e => by
    show cntF f n + bcF (f n >>> (nI n &&& 31)) = cntF g n + bcF (g n >>> (nI n &&& 31))
    rw [cntF_cg (fun x hx => e x (by omega)), e n (by omega)]
theorem dC_f {h : zh} {A : Nat} {D : dfT} (c : dC h A 0 D) : ∃ f : Nat → Int32, ∀ x, x < 21 → hsl h A x = some (zi (f x)) ∧ bs_ (f x) (fun y => D (x : Int) (y : Int)) := by
  refine ⟨fun x => if hx : x < 21 then (c x hx).choose else 0, fun x hx => ?_⟩
  show hsl h A x = some (zi (if hx : x < 21 then (c x hx).choose else 0)) ∧ bs_ (if hx : x < 21 then (c x hx).choose else 0) _
  rw [dif_pos hx]
  have e := (c x hx).choose_spec
  exact ⟨(congrArg (hsl h A) (Nat.zero_add x)).symm.trans e.1, e.2⟩
theorem bs_eq {a b : Int32} {S S' : Nat → Prop} (h : bs_ a S) (h' : bs_ b S') (e : ∀ v, v < 32 → (S v ↔ S' v)) : a = b := b_ext (fun i hi => by
  have h1 := h i hi
  have h2 := h' i hi
  have h3 := e i hi
  cases qa : btz a i <;> cases qb : btz b i
  · rfl
  · rw [qa] at h1
    rw [qb] at h2
    have := h1.mpr (h3.mpr (h2.mp rfl))
    cases this
  · rw [qa] at h1
    rw [qb] at h2
    have := h2.mpr (h3.mp (h1.mp rfl))
    cases this
  · rfl)
theorem dcnt_l {d t DA OA : Nat} {τ : List Nat} {h : zh} {f : Nat → Int32} (hg : hG τ h) (tDA : τ[DA]? = some 1009) (tOA : τ[OA]? = some 1010) (pO : hsl h DA 0 = some (.inl (some OA))) (hf : ∀ x, x < 21 → hsl h OA x = some (zi (f x))) : ∀ (n : Nat) (i : Nat) (xs : Int32) (xi : Int32), (xs = cntF f i) → (xi.toInt = (i : Int)) → (i ≤ 21) → (21 < i + n) → qX (d + 1) 7 4 [some (.inl (some DA)), some (zi xs), some (zi xi)] [] h t (rI (fun y h1 => h = h1 ∧ y = cntF f 21) t) := by
  intro n
  induction n with
  | zero =>
    intro i xs xi hxs hxi hi hn
    exfalso
    omega
  | succ n ih =>
    intro i xs xi hxs hxi hi hn
    skip
    refine y_same (i := .iload_n 2) (len := 1) (r := (0, 0, 0, 0)) (pc' := 5) (ls' := [some (.inl (some DA)), some (zi xs), some (zi xi)]) (st' := [zi xi]) (by decide +kernel) (fun k q => by cases q) rfl ?_
    refine y_bi (c := 21) (len := 2) (r := (0, 0, 0, 0)) (by decide +kernel) (by decide) (fun y2282 hy2282 => ?_)
    rcases Decidable.em (xi.toInt ≥ y2282.toInt) with q2283 | q2283
    ·
      refine y_cT (c := .ge) (off := 23) (pc' := 30) (len := 3) (r := (0, 0, 0, 0)) (by decide +kernel) (acmpT (c := .ge) (by show _ ≤ _; omega)) (by decide +kernel) ?_
      refine y_same (i := .iload_n 1) (len := 1) (r := (0, 0, 0, 0)) (pc' := 31) (ls' := [some (.inl (some DA)), some (zi xs), some (zi xi)]) (st' := [zi xs]) (by decide +kernel) (fun k q => by cases q) rfl ?_
      refine y_rI (len := 1) (r := (0, 0, 0, 0)) (nL := 3) (k := 1) (n9 := 1) (hs := []) (by decide +kernel) rfl rfl ?_
      obtain rfl : i = 21 := by omega
      exact ⟨rfl, hxs⟩
    ·
      refine y_cF (c := .ge) (off := 23) (len := 3) (r := (0, 0, 0, 0)) (by decide +kernel) (acmpF (c := .ge) (by show _ < _; omega)) ?_
      refine y_same (i := .iload_n 1) (len := 1) (r := (0, 0, 0, 0)) (pc' := 11) (ls' := [some (.inl (some DA)), some (zi xs), some (zi xi)]) (st' := [zi xs]) (by decide +kernel) (fun k q => by cases q) rfl ?_
      refine y_same (i := .aload_n 0) (len := 1) (r := (0, 0, 0, 0)) (pc' := 12) (ls' := [some (.inl (some DA)), some (zi xs), some (zi xi)]) (st' := [.inl (some DA), zi xs]) (by decide +kernel) (fun k q => by cases q) rfl ?_
      refine y_get (j := 9) (len := 3) (r := (0, 0, 2, 524)) (by decide +kernel) hg tDA aw1009 rfl rfl pO ?_
      refine y_same (i := .iload_n 2) (len := 1) (r := (0, 0, 0, 0)) (pc' := 16) (ls' := [some (.inl (some DA)), some (zi xs), some (zi xi)]) (st' := [zi xi, .inl (some OA), zi xs]) (by decide +kernel) (fun k q => by cases q) rfl ?_
      refine y_ial (i := i) (len := 1) (r := (0, 0, 0, 0)) (by decide +kernel) hg tOA aw1010 (by omega) (hf i (by omega)) ?_
      refine y_same (i := .iload_n 2) (len := 1) (r := (0, 0, 0, 0)) (pc' := 18) (ls' := [some (.inl (some DA)), some (zi xs), some (zi xi)]) (st' := [zi xi, zi (f i), zi xs]) (by decide +kernel) (fun k q => by cases q) rfl ?_
      refine y_bp (i := .ishr) (f := fun x y => x >>> (y &&& 31)) (len := 1) (r := (0, 0, 0, 0)) (by decide +kernel) rfl rfl (fun y2284 hy2284 => ?_)
      have hy2284 : y2284 = (f i) >>> (xi &&& 31) := hy2284
      refine y_cI (i := .invokestatic 31) (len := 3) (r := (1, 265, 60, 704)) (nL := 1) (k := 1) (n := 1) (hs := []) (args := [zi y2284]) (rest := [zi xs]) (l0 := [some (zi y2284)]) (by decide +kernel) (Or.inl ⟨_, rfl⟩) rfl rfl rfl rfl (Nat.le_of_ble_eq_true rfl) rfl rfl (qI_le (by omega) (c_bc (d := 0) (F := bcF) (fun _ => rfl))) (fun y2285 qy2285 hRy2285 => ?_)
      obtain ⟨rfl, ey2285⟩ := hRy2285
      refine y_bp (i := .iadd) (f := fun x y => x + y) (len := 1) (r := (0, 0, 0, 0)) (by decide +kernel) rfl rfl (fun y2286 hy2286 => ?_)
      refine y_same (i := .istore_n 1) (len := 1) (r := (0, 0, 0, 0)) (pc' := 24) (ls' := [some (.inl (some DA)), some (zi y2286), some (zi xi)]) (st' := []) (by decide +kernel) (fun k q => by cases q) rfl ?_
      refine y_inc (j := 2) (a := xi) (c := 1) (ls' := fun v => [some (.inl (some DA)), some (zi y2286), some v]) (len := 3) (r := (0, 0, 0, 0)) (by decide +kernel) rfl (fun _ => rfl) (by decide) (by omega) (by omega) (fun y2287 hy2287 => ?_)
      show qX (d + 1) 7 27 [some (.inl (some DA)), some (zi y2286), some (zi y2287)] [] h t _
      refine y_goto (off := (-23)) (pc' := 4) (len := 3) (r := (0, 0, 0, 0)) (by decide +kernel) (by decide +kernel) ?_
      have h8 : y2286 = cntF f i + bcF (f i >>> (nI i &&& 31)) := by
        have h9 : y2286 = xs + y2285 := hy2286
        rw [h9, ey2285, hy2284, nI_of_i hxi, hxs]
      exact ih (i + 1) y2286 y2287 h8 (by omega) (by omega) (by omega)
theorem e_dcnt {d t DA OA : Nat} {τ : List Nat} {h : zh} {f : Nat → Int32} (hg : hG τ h) (tDA : τ[DA]? = some 1009) (tOA : τ[OA]? = some 1010) (pO : hsl h DA 0 = some (.inl (some OA))) (hf : ∀ x, x < 21 → hsl h OA x = some (zi (f x))) : qI (d + 2) 7 [some (.inl (some DA)), none, none] h t (fun y h1 => h = h1 ∧ y = cntF f 21) := by
  refine qI_of ?_
  refine y_ic (c := 0) (len := 1) (r := (0, 0, 0, 0)) (by decide +kernel) (by decide) (fun y2288 hy2288 => ?_)
  refine y_same (i := .istore_n 1) (len := 1) (r := (0, 0, 0, 0)) (pc' := 2) (ls' := [some (.inl (some DA)), some (zi y2288), none]) (st' := []) (by decide +kernel) (fun k q => by cases q) rfl ?_
  refine y_ic (c := 0) (len := 1) (r := (0, 0, 0, 0)) (by decide +kernel) (by decide) (fun y2289 hy2289 => ?_)
  refine y_same (i := .istore_n 2) (len := 1) (r := (0, 0, 0, 0)) (pc' := 4) (ls' := [some (.inl (some DA)), some (zi y2288), some (zi y2289)]) (st' := []) (by decide +kernel) (fun k q => by cases q) rfl ?_
  exact dcnt_l hg tDA tOA pO hf 22 0 y2288 y2289 (ofI (w := 0) (show y2288.toInt = 0 by omega) rfl) (by omega) (by omega) (by omega)
theorem dmn_l {d t : Nat} {τ : List Nat} {h : zh} (hg : hG τ h) {DA OA : Nat} {D : dfT} (tDA : τ[DA]? = some 1009) (tOA : τ[OA]? = some 1010) (pO : hsl h DA 0 = some (.inl (some OA))) (dc : dC h OA 0 D) (od : okD D) : ∀ (n : Nat) (i : Nat) (xb : Int32) (xi : Int32), (bs_ xb (fun v => ∃ j : Nat, j < i ∧ D (j : Int) (v : Int))) → (xi.toInt = (i : Int)) → (i ≤ 21) → (21 < i + n) → qX d 8 4 [some (.inl (some DA)), some (zi xb), some (zi xi)] [] h t (rI (fun y h1 => h = h1 ∧ bs_ y (fun v => ∃ a, D a (v : Int))) t) := by
  intro n
  induction n with
  | zero =>
    intro i xb xi hb hxi hi hn
    exfalso
    omega
  | succ n ih =>
    intro i xb xi hb hxi hi hn
    skip
    refine y_same (i := .iload_n 2) (len := 1) (r := (0, 0, 0, 0)) (pc' := 5) (ls' := [some (.inl (some DA)), some (zi xb), some (zi xi)]) (st' := [zi xi]) (by decide +kernel) (fun k q => by cases q) rfl ?_
    refine y_bi (c := 21) (len := 2) (r := (0, 0, 0, 0)) (by decide +kernel) (by decide) (fun y2290 hy2290 => ?_)
    rcases Decidable.em (xi.toInt ≥ y2290.toInt) with q2291 | q2291
    ·
      refine y_cT (c := .ge) (off := 18) (pc' := 25) (len := 3) (r := (0, 0, 0, 0)) (by decide +kernel) (acmpT (c := .ge) (by show _ ≤ _; omega)) (by decide +kernel) ?_
      refine y_same (i := .iload_n 1) (len := 1) (r := (0, 0, 0, 0)) (pc' := 26) (ls' := [some (.inl (some DA)), some (zi xb), some (zi xi)]) (st' := [zi xb]) (by decide +kernel) (fun k q => by cases q) rfl ?_
      refine y_rI (len := 1) (r := (0, 0, 0, 0)) (nL := 3) (k := 1) (n9 := 1) (hs := []) (by decide +kernel) rfl rfl ?_
      refine ⟨rfl, bs_cg hb (fun v hv => ⟨?_, ?_⟩)⟩
      · rintro ⟨j, a1, a2⟩
        exact ⟨_, a2⟩
      · rintro ⟨a, a2⟩
        obtain ⟨b1, -⟩ := od.1 a _ a2
        have e9 : ((a.toNat : Nat) : Int) = a := by omega
        rw [← e9] at a2
        exact ⟨a.toNat, by omega, a2⟩
    ·
      refine y_cF (c := .ge) (off := 18) (len := 3) (r := (0, 0, 0, 0)) (by decide +kernel) (acmpF (c := .ge) (by show _ < _; omega)) ?_
      obtain ⟨xv, hv0, bv⟩ := dc i (by omega)
      have hv : hsl h OA i = some (zi xv) := by
        rw [← Nat.zero_add i]
        exact hv0
      refine y_same (i := .iload_n 1) (len := 1) (r := (0, 0, 0, 0)) (pc' := 11) (ls' := [some (.inl (some DA)), some (zi xb), some (zi xi)]) (st' := [zi xb]) (by decide +kernel) (fun k q => by cases q) rfl ?_
      refine y_same (i := .aload_n 0) (len := 1) (r := (0, 0, 0, 0)) (pc' := 12) (ls' := [some (.inl (some DA)), some (zi xb), some (zi xi)]) (st' := [.inl (some DA), zi xb]) (by decide +kernel) (fun k q => by cases q) rfl ?_
      refine y_get (j := 9) (len := 3) (r := (0, 0, 2, 524)) (by decide +kernel) hg tDA aw1009 rfl rfl pO ?_
      refine y_same (i := .iload_n 2) (len := 1) (r := (0, 0, 0, 0)) (pc' := 16) (ls' := [some (.inl (some DA)), some (zi xb), some (zi xi)]) (st' := [zi xi, .inl (some OA), zi xb]) (by decide +kernel) (fun k q => by cases q) rfl ?_
      refine y_ial (i := i) (len := 1) (r := (0, 0, 0, 0)) (by decide +kernel) hg tOA aw1010 (by omega) hv ?_
      refine y_bp (i := .ior) (f := fun x y => x ||| y) (len := 1) (r := (0, 0, 0, 0)) (by decide +kernel) rfl rfl (fun y2292 hy2292 => ?_)
      have hy2292 : y2292 = xb ||| xv := hy2292
      refine y_same (i := .istore_n 1) (len := 1) (r := (0, 0, 0, 0)) (pc' := 19) (ls' := [some (.inl (some DA)), some (zi y2292), some (zi xi)]) (st' := []) (by decide +kernel) (fun k q => by cases q) rfl ?_
      refine y_inc (j := 2) (a := xi) (c := 1) (ls' := fun v => [some (.inl (some DA)), some (zi y2292), some v]) (len := 3) (r := (0, 0, 0, 0)) (by decide +kernel) rfl (fun _ => rfl) (by decide) (by omega) (by omega) (fun y2293 hy2293 => ?_)
      show qX d 8 22 [some (.inl (some DA)), some (zi y2292), some (zi y2293)] [] h t _
      refine y_goto (off := (-18)) (pc' := 4) (len := 3) (r := (0, 0, 0, 0)) (by decide +kernel) (by decide +kernel) ?_
      have b9 := bs_or hb bv
      rw [← hy2292] at b9
      refine ih (i + 1) y2292 y2293 (bs_cg b9 (fun v hv => ⟨?_, ?_⟩)) (by omega) (by omega) (by omega)
      · rintro (⟨j, a1, a2⟩ | e9)
        · exact ⟨j, by omega, a2⟩
        · exact ⟨i, by omega, e9⟩
      · rintro ⟨j, a1, a2⟩
        rcases Nat.lt_or_ge j i with q9 | q9
        · exact Or.inl ⟨j, q9, a2⟩
        · obtain rfl : j = i := by omega
          exact Or.inr a2
theorem e_dmn {d t : Nat} {τ : List Nat} {h : zh} (hg : hG τ h) {DA OA : Nat} {D : dfT} (tDA : τ[DA]? = some 1009) (tOA : τ[OA]? = some 1010) (pO : hsl h DA 0 = some (.inl (some OA))) (dc : dC h OA 0 D) (od : okD D) : qI (d + 1) 8 [some (.inl (some DA)), none, none] h t (fun y h1 => h = h1 ∧ bs_ y (fun v => ∃ a, D a (v : Int))) := by
  refine qI_of ?_
  refine y_ic (c := 0) (len := 1) (r := (0, 0, 0, 0)) (by decide +kernel) (by decide) (fun y2294 hy2294 => ?_)
  refine y_same (i := .istore_n 1) (len := 1) (r := (0, 0, 0, 0)) (pc' := 2) (ls' := [some (.inl (some DA)), some (zi y2294), none]) (st' := []) (by decide +kernel) (fun k q => by cases q) rfl ?_
  refine y_ic (c := 0) (len := 1) (r := (0, 0, 0, 0)) (by decide +kernel) (by decide) (fun y2295 hy2295 => ?_)
  refine y_same (i := .istore_n 2) (len := 1) (r := (0, 0, 0, 0)) (pc' := 4) (ls' := [some (.inl (some DA)), some (zi y2294), some (zi y2295)]) (st' := []) (by decide +kernel) (fun k q => by cases q) rfl ?_
  exact dmn_l hg tDA tOA pO dc od 22 0 y2294 y2295 (bs_0 (by omega) (fun v => by rintro ⟨j, a1, -⟩; omega)) (by omega) (by omega) (by omega)
