/-! the model's acts -/
def rs92 : List (Nat × qs) := [(1, .inl (0, 5)), (2, .inl (0, 6)), (46, .inl (0, 5)), (47, .inl (0, 5)), (48, .inl (0, 6)), (92, .inl (0, 5))]
theorem av55 : atyp 55 = some (.inl (0, 92, rs92)) := rfl
theorem av56 : atyp 56 = some (.inl (0, 92, rs92)) := rfl
theorem av1011 : atyp 1011 = some (.inl (0, 92, rs92)) := rfl
theorem av57 : atyp 57 = some (.inl (5, 10, [(10, .inr (.inl (1011, false)))])) := rfl
noncomputable def sr92b (i : Nat) : Bool := match srng rs92 i with
  | some (.inl p) => decide (p.1 = 0) && decide (p.2 = (if i = 1 ∨ i = 47 then 6 else 5 : Int))
  | _ => false
theorem sr92a : ∀ i, i < 92 → sr92b i = true := by decide +kernel
theorem sr92 (i : Nat) (hi : i < 92) : srng rs92 i = some (.inl (0, (if i = 1 ∨ i = 47 then 6 else 5 : Int))) := by
  have h := sr92a i hi
  unfold sr92b at h
  split at h
  · rename_i p e
    simp only [Bool.and_eq_true, decide_eq_true_eq] at h
    rw [e]
    obtain ⟨a, b⟩ := p
    simp only at h
    rw [h.1, h.2]
  · cases h
theorem atau_P : ∀ k, k < 10 → atau[58 + k]? = some 1011 := by decide +kernel
theorem tvP {τ : List Nat} {h : zh} {k : Nat} (hg : hG τ h) (hk : k < 10) : τ[58 + k]? = some 1011 := hg.1.2.2.1 _ _ (atau_P k hk)
theorem atau_57 : atau[57]? = some 57 := by decide +kernel
theorem tv57 {τ : List Nat} {h : zh} (hg : hG τ h) : τ[57]? = some 57 := hg.1.2.2.1 _ _ atau_57
theorem atau_56b : atau[56]? = some 56 := by decide +kernel
theorem tv56 {τ : List Nat} {h : zh} (hg : hG τ h) : τ[56]? = some 56 := hg.1.2.2.1 _ _ atau_56b
theorem atau_55b : atau[55]? = some 55 := by decide +kernel
theorem tv55 {τ : List Nat} {h : zh} (hg : hG τ h) : τ[55]? = some 55 := hg.1.2.2.1 _ _ atau_55b
theorem out92 {τ : List Nat} {h : zh} {A TA j : Nat} (hg : hG τ h) (tA : τ[A]? = some TA) (aA : atyp TA = some (.inl (0, 92, rs92))) (hj : 92 ≤ j) : hsl h A j = none := by
  obtain ⟨fs, hc, hl⟩ := g_arr hg tA aA
  rw [hsl_arr hc, List.getElem?_eq_none (by omega)]
theorem mcp_l {d t A B TA TB : Nat} {τ : List Nat} {h0 : zh} {xn : Int32} (tA : τ[A]? = some TA) (tB : τ[B]? = some TB) (aA : atyp TA = some (.inl (0, 92, rs92))) (aB : atyp TB = some (.inl (0, 92, rs92))) (hp : aprot TB = false) (ne : A ≠ B) (en : xn.toInt = 92) : ∀ (n : Nat) (h : zh) (i : Nat) (xi : Int32), hG τ h → (∀ j, j < i → hsl h B j = hsl h0 A j) → (∀ k j, k ≠ B → hsl h k j = hsl h0 k j) → xi.toInt = (i : Int) → i ≤ 92 → 92 ≤ i + n → qX d 185 2 [some (.inl (some A)), some (.inl (some B)), some (zi xn), some (zi xi)] [] h t (rV (fun h1 => hG τ h1 ∧ (∀ j, j < 92 → hsl h1 B j = hsl h0 A j) ∧ ∀ k j, k ≠ B → hsl h1 k j = hsl h0 k j) t) := by
  intro n
  induction n with
  | zero =>
    intro h i xi hg c1 c2 hxi hi hn
    refine y_same (i := .iload_n 3) (len := 1) (r := (0, 0, 0, 0)) (pc' := 3) (ls' := [some (.inl (some A)), some (.inl (some B)), some (zi xn), some (zi xi)]) (st' := [zi xi]) (by decide +kernel) (fun k q => by cases q) rfl ?_
    refine y_same (i := .iload_n 2) (len := 1) (r := (0, 0, 0, 0)) (pc' := 4) (ls' := [some (.inl (some A)), some (.inl (some B)), some (zi xn), some (zi xi)]) (st' := [zi xn, zi xi]) (by decide +kernel) (fun k q => by cases q) rfl ?_
    refine y_cT (c := .ge) (off := 15) (pc' := 19) (len := 3) (r := (0, 0, 0, 0)) (by decide +kernel) (acmpT (c := .ge) (by show _ ≤ _; omega)) (by decide +kernel) ?_
    refine y_rV (len := 1) (r := (0, 0, 0, 0)) (nL := 4) (n9 := 3) (hs := []) (by decide +kernel) rfl ?_
    exact ⟨hg, fun j hj => c1 j (by omega), c2⟩
  | succ n ih =>
    intro h i xi hg c1 c2 hxi hi hn
    rcases Nat.lt_or_ge i 92 with q | q
    ·
      refine y_same (i := .iload_n 3) (len := 1) (r := (0, 0, 0, 0)) (pc' := 3) (ls' := [some (.inl (some A)), some (.inl (some B)), some (zi xn), some (zi xi)]) (st' := [zi xi]) (by decide +kernel) (fun k q => by cases q) rfl ?_
      refine y_same (i := .iload_n 2) (len := 1) (r := (0, 0, 0, 0)) (pc' := 4) (ls' := [some (.inl (some A)), some (.inl (some B)), some (zi xn), some (zi xi)]) (st' := [zi xn, zi xi]) (by decide +kernel) (fun k q => by cases q) rfl ?_
      refine y_cF (c := .ge) (off := 15) (len := 3) (r := (0, 0, 0, 0)) (by decide +kernel) (acmpF (c := .ge) (by show _ < _; omega)) ?_
      refine y_same (i := .aload_n 1) (len := 1) (r := (0, 0, 0, 0)) (pc' := 8) (ls' := [some (.inl (some A)), some (.inl (some B)), some (zi xn), some (zi xi)]) (st' := [.inl (some B)]) (by decide +kernel) (fun k q => by cases q) rfl ?_
      refine y_same (i := .iload_n 3) (len := 1) (r := (0, 0, 0, 0)) (pc' := 9) (ls' := [some (.inl (some A)), some (.inl (some B)), some (zi xn), some (zi xi)]) (st' := [zi xi, .inl (some B)]) (by decide +kernel) (fun k q => by cases q) rfl ?_
      refine y_same (i := .aload_n 0) (len := 1) (r := (0, 0, 0, 0)) (pc' := 10) (ls' := [some (.inl (some A)), some (.inl (some B)), some (zi xn), some (zi xi)]) (st' := [.inl (some A), zi xi, .inl (some B)]) (by decide +kernel) (fun k q => by cases q) rfl ?_
      refine y_same (i := .iload_n 3) (len := 1) (r := (0, 0, 0, 0)) (pc' := 11) (ls' := [some (.inl (some A)), some (.inl (some B)), some (zi xn), some (zi xi)]) (st' := [zi xi, .inl (some A), zi xi, .inl (some B)]) (by decide +kernel) (fun k q => by cases q) rfl ?_
      obtain ⟨v1833, hv1834, lv1833, uv1833⟩ := g_int (i := i) hg tA aA (show i < 92 by omega) (sr92 _ (by omega))
      refine y_ial (i := i) (len := 1) (r := (0, 0, 0, 0)) (by decide +kernel) hg tA aA (by omega) hv1834 ?_
      refine y_ias (i := i) (len := 1) (r := (0, 0, 0, 0)) (by decide +kernel) hg tB aB hp (by omega) (by omega) (sr92 _ (by omega)) (by omega) (by omega) (fun h1835 hg1835 hl1835 hs1835 ho1835 => ?_)
      refine y_inc (j := 3) (a := xi) (c := 1) (ls' := fun v => [some (.inl (some A)), some (.inl (some B)), some (zi xn), some v]) (len := 3) (r := (0, 0, 0, 0)) (by decide +kernel) rfl (fun _ => rfl) (by decide) (by omega) (by omega) (fun y1836 hy1836 => ?_)
      show qX d 185 16 [some (.inl (some A)), some (.inl (some B)), some (zi xn), some (zi y1836)] [] h1835 t _
      refine y_goto (off := (-14)) (pc' := 2) (len := 3) (r := (0, 0, 0, 0)) (by decide +kernel) (by decide +kernel) ?_
      refine ih h1835 (i + 1) y1836 hg1835 (fun j hj => ?_) (fun k j hk => (ho1835 k j (Or.inl hk)).trans (c2 k j hk)) (by omega) (by omega) (by omega)
      rcases Nat.lt_or_ge j i with q9 | q9
      · exact (ho1835 B j (Or.inr (by omega))).trans (c1 j q9)
      · have e9 : j = i := by omega
        subst e9
        exact hs1835.trans ((c2 A j ne).symm.trans hv1834).symm
    ·
      refine y_same (i := .iload_n 3) (len := 1) (r := (0, 0, 0, 0)) (pc' := 3) (ls' := [some (.inl (some A)), some (.inl (some B)), some (zi xn), some (zi xi)]) (st' := [zi xi]) (by decide +kernel) (fun k q => by cases q) rfl ?_
      refine y_same (i := .iload_n 2) (len := 1) (r := (0, 0, 0, 0)) (pc' := 4) (ls' := [some (.inl (some A)), some (.inl (some B)), some (zi xn), some (zi xi)]) (st' := [zi xn, zi xi]) (by decide +kernel) (fun k q => by cases q) rfl ?_
      refine y_cT (c := .ge) (off := 15) (pc' := 19) (len := 3) (r := (0, 0, 0, 0)) (by decide +kernel) (acmpT (c := .ge) (by show _ ≤ _; omega)) (by decide +kernel) ?_
      refine y_rV (len := 1) (r := (0, 0, 0, 0)) (nL := 4) (n9 := 3) (hs := []) (by decide +kernel) rfl ?_
      exact ⟨hg, fun j hj => c1 j (by omega), c2⟩
theorem e_mcp {d t A B TA TB : Nat} {τ : List Nat} {h : zh} {xn : Int32} (hg : hG τ h) (tA : τ[A]? = some TA) (tB : τ[B]? = some TB) (aA : atyp TA = some (.inl (0, 92, rs92))) (aB : atyp TB = some (.inl (0, 92, rs92))) (hp : aprot TB = false) (ne : A ≠ B) (en : xn.toInt = 92) : qV (d + 1) 185 [some (.inl (some A)), some (.inl (some B)), some (zi xn), none] h t (fun h1 => hG τ h1 ∧ (∀ j, hsl h1 B j = hsl h A j) ∧ ∀ k j, k ≠ B → hsl h1 k j = hsl h k j) := by
  refine qV_of ?_
  refine y_ic (c := 0) (len := 1) (r := (0, 0, 0, 0)) (by decide +kernel) (by decide) (fun y1837 hy1837 => ?_)
  refine y_same (i := .istore_n 3) (len := 1) (r := (0, 0, 0, 0)) (pc' := 2) (ls' := [some (.inl (some A)), some (.inl (some B)), some (zi xn), some (zi y1837)]) (st' := []) (by decide +kernel) (fun k q => by cases q) rfl ?_
  refine qX_V (mcp_l (h0 := h) tA tB aA aB hp ne en 92 h 0 y1837 hg (fun j hj => absurd hj (Nat.not_lt_zero j)) (fun k j _ => rfl) (by omega) (by omega) (by omega)) (fun h1 hR => ?_)
  obtain ⟨g1, c1, c2⟩ := hR
  refine ⟨g1, fun j => ?_, c2⟩
  rcases Nat.lt_or_ge j 92 with q | q
  · exact c1 j q
  · rw [out92 g1 tB aB q, out92 hg tA aA q]
theorem rem_l {t : Nat} {τ : List Nat} {h0 : zh} {P : zo × zh × Nat → Prop} (r57 : ∀ k, k < 10 → rfs h0 57 k (58 + k)) (kk : ∀ (h : zh) (x : Int32), hG τ h → (∀ j i, j < 9 → hsl h (58 + j) i = hsl h0 (58 + (j + 1)) i) → (∀ k i, (k < 58 ∨ 66 < k) → hsl h k i = hsl h0 k i) → qX 4 186 52 [some (.inl (some 52)), some (zi x)] [] h t P) : ∀ (n : Nat) (h : zh) (k : Nat) (xk : Int32), hG τ h → (∀ j i, j + 1 < k → hsl h (58 + j) i = hsl h0 (58 + (j + 1)) i) → (∀ j i, k ≤ j + 1 → hsl h (58 + j) i = hsl h0 (58 + j) i) → (∀ k i, (k < 58 ∨ 66 < k) → hsl h k i = hsl h0 k i) → xk.toInt = (k : Int) → 1 ≤ k → k ≤ 10 → 10 ≤ k + n → qX 4 186 21 [some (.inl (some 52)), some (zi xk)] [] h t P := by
  intro n
  induction n with
  | zero =>
    intro h k xk hg c1 c2 c3 hxk hk1 hk hn
    refine y_same (i := .iload_n 1) (len := 1) (r := (0, 0, 0, 0)) (pc' := 22) (ls' := [some (.inl (some 52)), some (zi xk)]) (st' := [zi xk]) (by decide +kernel) (fun k q => by cases q) rfl ?_
    refine y_bi (c := 10) (len := 2) (r := (0, 0, 0, 0)) (by decide +kernel) (by decide) (fun y1844 hy1844 => ?_)
    refine y_cT (c := .ge) (off := 28) (pc' := 52) (len := 3) (r := (0, 0, 0, 0)) (by decide +kernel) (acmpT (c := .ge) (by show _ ≤ _; omega)) (by decide +kernel) ?_
    exact kk _ _ hg (fun j i hj => c1 j i (by omega)) c3
  | succ n ih =>
    intro h k xk hg c1 c2 c3 hxk hk1 hk hn
    rcases Nat.lt_or_ge k 10 with q | q
    · have r57 : ∀ k, k < 10 → rfs h 57 k (58 + k) := fun k hk => rfs_up (r57 k hk) (c3 _ _ (by omega))
      refine y_same (i := .iload_n 1) (len := 1) (r := (0, 0, 0, 0)) (pc' := 22) (ls' := [some (.inl (some 52)), some (zi xk)]) (st' := [zi xk]) (by decide +kernel) (fun k q => by cases q) rfl ?_
      refine y_bi (c := 10) (len := 2) (r := (0, 0, 0, 0)) (by decide +kernel) (by decide) (fun y1838 hy1838 => ?_)
      refine y_cF (c := .ge) (off := 28) (len := 3) (r := (0, 0, 0, 0)) (by decide +kernel) (acmpF (c := .ge) (by show _ < _; omega)) ?_
      refine y_same (i := .aload_n 0) (len := 1) (r := (0, 0, 0, 0)) (pc' := 28) (ls' := [some (.inl (some 52)), some (zi xk)]) (st' := [.inl (some 52)]) (by decide +kernel) (fun k q => by cases q) rfl ?_
      refine y_get (j := 28) (len := 3) (r := (12, 11, 2, 1339)) (by decide +kernel) hg (t52 hg) at52 rfl rfl (g_r52 (f := 11) (T2 := 57) hg rfl (by decide)).1 ?_
      refine y_same (i := .iload_n 1) (len := 1) (r := (0, 0, 0, 0)) (pc' := 32) (ls' := [some (.inl (some 52)), some (zi xk)]) (st' := [zi xk, .inl (some 57)]) (by decide +kernel) (fun k q => by cases q) rfl ?_
      refine y_aal (i := k) (len := 1) (r := (0, 0, 0, 0)) (by decide +kernel) hg (tv57 hg) av57 rfl (by omega) (rfl.trans (r57 k (by omega))) ?_
      refine y_same (i := .aload_n 0) (len := 1) (r := (0, 0, 0, 0)) (pc' := 34) (ls' := [some (.inl (some 52)), some (zi xk)]) (st' := [.inl (some 52), .inl (some ((58 + k)))]) (by decide +kernel) (fun k q => by cases q) rfl ?_
      refine y_get (j := 28) (len := 3) (r := (12, 11, 2, 1339)) (by decide +kernel) hg (t52 hg) at52 rfl rfl (g_r52 (f := 11) (T2 := 57) hg rfl (by decide)).1 ?_
      refine y_same (i := .iload_n 1) (len := 1) (r := (0, 0, 0, 0)) (pc' := 38) (ls' := [some (.inl (some 52)), some (zi xk)]) (st' := [zi xk, .inl (some 57), .inl (some ((58 + k)))]) (by decide +kernel) (fun k q => by cases q) rfl ?_
      refine y_ic (c := 1) (len := 1) (r := (0, 0, 0, 0)) (by decide +kernel) (by decide) (fun y1839 hy1839 => ?_)
      refine y_sub (len := 1) (r := (0, 0, 0, 0)) (by decide +kernel) (by omega) (by omega) (fun y1840 hy1840 => ?_)
      refine y_aal (i := (k - 1)) (len := 1) (r := (0, 0, 0, 0)) (by decide +kernel) hg (tv57 hg) av57 rfl (by omega) (rfl.trans (r57 (k - 1) (by omega))) ?_
      refine y_bi (c := 92) (len := 2) (r := (0, 0, 0, 0)) (by decide +kernel) (by decide) (fun y1841 hy1841 => ?_)
      refine y_cV (i := .invokestatic 216) (len := 3) (r := (1, 185, 12, 1572)) (nL := 4) (k := 0) (n := 3) (hs := []) (args := [.inl (some ((58 + k))), .inl (some ((58 + (k - 1)))), zi y1841]) (rest := []) (l0 := [some (.inl (some ((58 + k)))), some (.inl (some ((58 + (k - 1))))), some (zi y1841), none]) (by decide +kernel) (Or.inl ⟨_, rfl⟩) rfl rfl rfl rfl (Nat.le_of_ble_eq_true rfl) rfl rfl (qV_le (by decide) (e_mcp (d := 0) hg (tvP (k := k) hg (by omega)) (tvP (k := (k - 1)) hg (by omega)) av1011 av1011 rfl (by omega) (by omega))) (fun h1842 hR1842 => ?_)
      obtain ⟨hg1842, C1842, F1842⟩ := hR1842
      refine y_inc (j := 1) (a := xk) (c := 1) (ls' := fun v => [some (.inl (some 52)), some v]) (len := 3) (r := (0, 0, 0, 0)) (by decide +kernel) rfl (fun _ => rfl) (by decide) (by omega) (by omega) (fun y1843 hy1843 => ?_)
      show qX 4 186 49 [some (.inl (some 52)), some (zi y1843)] [] h1842 t _
      refine y_goto (off := (-28)) (pc' := 21) (len := 3) (r := (0, 0, 0, 0)) (by decide +kernel) (by decide +kernel) ?_
      refine ih h1842 (k + 1) y1843 hg1842 (fun j i hj => ?_) (fun j i hj => (F1842 _ _ (by omega)).trans (c2 j i (by omega))) (fun k i hk => (F1842 _ _ (by omega)).trans (c3 k i hk)) (by omega) (by omega) (by omega) (by omega)
      rcases Nat.lt_or_ge (j + 1) k with q9 | q9
      · exact (F1842 _ _ (by omega)).trans (c1 j i q9)
      · have e9 : k = j + 1 := by omega
        subst e9
        exact (C1842 i).trans (c2 (j + 1) i (by omega))
    ·
      refine y_same (i := .iload_n 1) (len := 1) (r := (0, 0, 0, 0)) (pc' := 22) (ls' := [some (.inl (some 52)), some (zi xk)]) (st' := [zi xk]) (by decide +kernel) (fun k q => by cases q) rfl ?_
      refine y_bi (c := 10) (len := 2) (r := (0, 0, 0, 0)) (by decide +kernel) (by decide) (fun y1845 hy1845 => ?_)
      refine y_cT (c := .ge) (off := 28) (pc' := 52) (len := 3) (r := (0, 0, 0, 0)) (by decide +kernel) (acmpT (c := .ge) (by show _ ≤ _; omega)) (by decide +kernel) ?_
      exact kk _ _ hg (fun j i hj => c1 j i (by omega)) c3
theorem rem_2 {t c : Nat} {τ : List Nat} {h : zh} {l1 : Option zv} {xc : Int32} (hg : hG τ h) (r57 : ∀ k, k < 10 → rfs h 57 k (58 + k)) (hc : hsl h 52 12 = some (zi xc)) (ec : xc.toInt = (c : Int)) (hc9 : c < 10) : qX 4 186 62 [some (.inl (some 52)), l1] [] h t (rV (fun h1 => hG τ h1 ∧ ci_ h1 52 12 (c + 1) ∧ (∀ j, hsl h1 (58 + c) j = hsl h 55 j) ∧ ∀ k j, (k ≠ 58 + c ∧ (k ≠ 52 ∨ j ≠ 12)) → hsl h1 k j = hsl h k j) t) := by
  refine y_same (i := .aload_n 0) (len := 1) (r := (0, 0, 0, 0)) (pc' := 63) (ls' := [some (.inl (some 52)), l1]) (st' := [.inl (some 52)]) (by decide +kernel) (fun k q => by cases q) rfl ?_
  refine y_get (j := 20) (len := 3) (r := (12, 9, 2, 1337)) (by decide +kernel) hg (t52 hg) at52 rfl rfl (g_r52 (f := 9) (T2 := 55) hg rfl (by decide)).1 ?_
  refine y_same (i := .aload_n 0) (len := 1) (r := (0, 0, 0, 0)) (pc' := 67) (ls' := [some (.inl (some 52)), l1]) (st' := [.inl (some 52), .inl (some 55)]) (by decide +kernel) (fun k q => by cases q) rfl ?_
  refine y_get (j := 28) (len := 3) (r := (12, 11, 2, 1339)) (by decide +kernel) hg (t52 hg) at52 rfl rfl (g_r52 (f := 11) (T2 := 57) hg rfl (by decide)).1 ?_
  refine y_same (i := .aload_n 0) (len := 1) (r := (0, 0, 0, 0)) (pc' := 71) (ls' := [some (.inl (some 52)), l1]) (st' := [.inl (some 52), .inl (some 57), .inl (some 55)]) (by decide +kernel) (fun k q => by cases q) rfl ?_
  refine y_get (j := 227) (len := 3) (r := (12, 12, 0, 1340)) (by decide +kernel) hg (t52 hg) at52 rfl rfl hc ?_
  refine y_aal (i := c) (len := 1) (r := (0, 0, 0, 0)) (by decide +kernel) hg (tv57 hg) av57 rfl (by omega) (rfl.trans (r57 c (by omega))) ?_
  refine y_bi (c := 92) (len := 2) (r := (0, 0, 0, 0)) (by decide +kernel) (by decide) (fun y1846 hy1846 => ?_)
  refine y_cV (i := .invokestatic 216) (len := 3) (r := (1, 185, 12, 1572)) (nL := 4) (k := 0) (n := 3) (hs := []) (args := [.inl (some 55), .inl (some ((58 + c))), zi y1846]) (rest := []) (l0 := [some (.inl (some 55)), some (.inl (some ((58 + c)))), some (zi y1846), none]) (by decide +kernel) (Or.inl ⟨_, rfl⟩) rfl rfl rfl rfl (Nat.le_of_ble_eq_true rfl) rfl rfl (qV_le (by decide) (e_mcp (d := 0) hg (tv55 hg) (tvP (k := c) hg (by omega)) av55 av1011 rfl (by omega) (by omega))) (fun h1847 hR1847 => ?_)
  obtain ⟨hg1847, C1847, F1847⟩ := hR1847
  refine y_same (i := .aload_n 0) (len := 1) (r := (0, 0, 0, 0)) (pc' := 81) (ls' := [some (.inl (some 52)), l1]) (st' := [.inl (some 52)]) (by decide +kernel) (fun k q => by cases q) rfl ?_
  refine y_same (i := .dup) (len := 1) (r := (0, 0, 0, 0)) (pc' := 82) (ls' := [some (.inl (some 52)), l1]) (st' := [.inl (some 52), .inl (some 52)]) (by decide +kernel) (fun k q => by cases q) rfl ?_
  have hv1848 := (F1847 52 12 (by omega)).trans hc
  refine y_get (j := 227) (len := 3) (r := (12, 12, 0, 1340)) (by decide +kernel) hg1847 (t52 hg1847) at52 rfl rfl hv1848 ?_
  refine y_ic (c := 1) (len := 1) (r := (0, 0, 0, 0)) (by decide +kernel) (by decide) (fun y1849 hy1849 => ?_)
  refine y_add (len := 1) (r := (0, 0, 0, 0)) (by decide +kernel) (by omega) (by omega) (fun y1850 hy1850 => ?_)
  refine y_put (j := 227) (lo := 0) (hi := 10) (len := 3) (r := (12, 12, 0, 1340)) (by decide +kernel) hg1847 (t52 hg1847) at52 rfl rfl (by decide) rfl (by omega) (by omega) rfl (fun h1851 hg1851 hl1851 hs1851 ho1851 => ?_)
  have ho1851 : hO 52 12 h1847 h1851 := ho1851
  have hs1851 : hsl h1851 52 12 = some (zi y1850) := hs1851
  refine y_rV (len := 1) (r := (0, 0, 0, 0)) (nL := 2) (n9 := 1) (hs := []) (by decide +kernel) rfl ?_
  exact ⟨hg1851, ⟨_, hs1851, by omega⟩, fun j => (ho1851 (58 + c) j (by omega)).trans (C1847 j), fun k j hC => ((ho1851 k j (by omega)).trans (F1847 k j (by omega)))⟩
theorem RM_psh {h h1 : zh} {cur : bsT} {hs : List bsT} (rm : RM h cur hs) (e55 : ∀ j, hsl h1 55 j = hsl h 55 j) (e57 : ∀ j, hsl h1 57 j = hsl h 57 j) (ec : ci_ h1 52 12 (min (hs.length + 1) 10)) (el : ∀ j i, j < 10 → hs.length < 10 → j ≠ hs.length → hsl h1 (58 + j) i = hsl h (58 + j) i) (ef : ∀ j i, j < 9 → hs.length = 10 → hsl h1 (58 + j) i = hsl h (58 + (j + 1)) i) (en : ∀ i, hsl h1 (58 + min hs.length 9) i = hsl h 55 i) : RM h1 cur (psh hs cur) := by
  obtain ⟨b, r57, -, hl, hh⟩ := rm
  refine ⟨bsM_to b e55, fun k hk => rfs_up (r57 k hk) (e57 k), by rw [psh_len hl]; exact ec, by rw [psh_len hl]; omega, fun j c hj => ?_⟩
  rcases psh_get hl hj with ⟨q1, q2, q3⟩ | ⟨q1, q2, q3⟩ | ⟨q1, q2, q3⟩ | ⟨q1, q2, q3⟩
  · exact bsM_to (hh j c q3) (fun i => el j i (by omega) q1 (by omega))
  · subst q3
    refine bsM_to b (fun i => ?_)
    have := en i
    rw [show 58 + min hs.length 9 = 58 + j by omega] at this
    exact this
  · exact bsM_to (hh (j + 1) c q3) (fun i => ef j i q2 q1)
  · subst q3
    refine bsM_to b (fun i => ?_)
    have := en i
    rw [show 58 + min hs.length 9 = 58 + j by omega] at this
    exact this
theorem m_rem {t : Nat} {τ : List Nat} {h : zh} {cur : bsT} {hs : List bsT} (hg : hG τ h) (rm : RM h cur hs) : qV 5 186 [some (.inl (some 52)), none] h t (fun h1 => hG τ h1 ∧ RM h1 cur (psh hs cur) ∧ ∀ k j, ((k < 58 ∨ 67 < k) ∧ (k ≠ 52 ∨ (j ≠ 12 ∧ j ≠ 31 ∧ j ≠ 47))) → hsl h1 k j = hsl h k j) := by
  obtain ⟨b, r57, ⟨xc, hc, ec⟩, hl, hh⟩ := id rm
  have ec' : ∃ c : Nat, c = hs.length ∧ xc.toInt = (c : Int) := ⟨_, rfl, ec⟩
  obtain ⟨c, c9, ec⟩ := ec'
  refine qV_of ?_
  rcases Decidable.em (c = 10) with q | q
  ·
    refine y_same (i := .aload_n 0) (len := 1) (r := (0, 0, 0, 0)) (pc' := 1) (ls' := [some (.inl (some 52)), none]) (st' := [.inl (some 52)]) (by decide +kernel) (fun k q => by cases q) rfl ?_
    refine y_ic (c := 0) (len := 1) (r := (0, 0, 0, 0)) (by decide +kernel) (by decide) (fun y1859 hy1859 => ?_)
    refine y_put (j := 220) (lo := 0) (hi := 1) (len := 3) (r := (12, 31, 1, 1359)) (by decide +kernel) hg (t52 hg) at52 rfl rfl (by decide) rfl (by omega) (by omega) (zfit_b (by omega) (by omega)).1 (fun h1860 hg1860 hl1860 hs1860 ho1860 => ?_)
    have ho1860 : hO 52 31 h h1860 := ho1860
    have hs1860 : hsl h1860 52 31 = some (zi y1859) := hs1860
    refine y_same (i := .aload_n 0) (len := 1) (r := (0, 0, 0, 0)) (pc' := 6) (ls' := [some (.inl (some 52)), none]) (st' := [.inl (some 52)]) (by decide +kernel) (fun k q => by cases q) rfl ?_
    refine y_ic (c := 0) (len := 1) (r := (0, 0, 0, 0)) (by decide +kernel) (by decide) (fun y1861 hy1861 => ?_)
    refine y_put (j := 224) (lo := 0) (hi := 1) (len := 3) (r := (12, 47, 1, 1375)) (by decide +kernel) hg1860 (t52 hg1860) at52 rfl rfl (by decide) rfl (by omega) (by omega) (zfit_b (by omega) (by omega)).1 (fun h1862 hg1862 hl1862 hs1862 ho1862 => ?_)
    have ho1862 : hO 52 47 h1860 h1862 := ho1862
    have hs1862 : hsl h1862 52 47 = some (zi y1861) := hs1862
    refine y_same (i := .aload_n 0) (len := 1) (r := (0, 0, 0, 0)) (pc' := 11) (ls' := [some (.inl (some 52)), none]) (st' := [.inl (some 52)]) (by decide +kernel) (fun k q => by cases q) rfl ?_
    have hv1863 := (ho1860 52 12 (Or.inr (by omega))).trans hc
    have hv1864 := (ho1862 52 12 (Or.inr (by omega))).trans hv1863
    refine y_get (j := 227) (len := 3) (r := (12, 12, 0, 1340)) (by decide +kernel) hg1862 (t52 hg1862) at52 rfl rfl hv1864 ?_
    refine y_bi (c := 10) (len := 2) (r := (0, 0, 0, 0)) (by decide +kernel) (by decide) (fun y1865 hy1865 => ?_)
    refine y_cF (c := .ne) (off := 46) (len := 3) (r := (0, 0, 0, 0)) (by decide +kernel) (acmpF (c := .ne) (by show _ = _; omega)) ?_
    refine y_ic (c := 1) (len := 1) (r := (0, 0, 0, 0)) (by decide +kernel) (by decide) (fun y1866 hy1866 => ?_)
    refine y_same (i := .istore_n 1) (len := 1) (r := (0, 0, 0, 0)) (pc' := 21) (ls' := [some (.inl (some 52)), some (zi y1866)]) (st' := []) (by decide +kernel) (fun k q => by cases q) rfl ?_
    refine rem_l (τ := τ) (h0 := h1862) (fun k hk => rfs_up (r57 k hk) ((ho1862 57 k (by omega)).trans (ho1860 57 k (by omega)))) (fun he xe ge b1 b2 => ?_) 9 h1862 1 y1866 hg1862 (fun j i hj => by omega) (fun j i _ => rfl) (fun k i _ => rfl) (by omega) (by omega) (by omega) (by omega)
    have hc2 : hsl he 52 12 = some (zi xc) := (b2 52 12 (by omega)).trans (((ho1862 52 12 (by omega)).trans (ho1860 52 12 (by omega))).trans hc)
    refine y_same (i := .aload_n 0) (len := 1) (r := (0, 0, 0, 0)) (pc' := 53) (ls' := [some (.inl (some 52)), some (zi xe)]) (st' := [.inl (some 52)]) (by decide +kernel) (fun k q => by cases q) rfl ?_
    refine y_same (i := .dup) (len := 1) (r := (0, 0, 0, 0)) (pc' := 54) (ls' := [some (.inl (some 52)), some (zi xe)]) (st' := [.inl (some 52), .inl (some 52)]) (by decide +kernel) (fun k q => by cases q) rfl ?_
    refine y_get (j := 227) (len := 3) (r := (12, 12, 0, 1340)) (by decide +kernel) ge (t52 ge) at52 rfl rfl hc2 ?_
    refine y_ic (c := 1) (len := 1) (r := (0, 0, 0, 0)) (by decide +kernel) (by decide) (fun y1867 hy1867 => ?_)
    refine y_sub (len := 1) (r := (0, 0, 0, 0)) (by decide +kernel) (by omega) (by omega) (fun y1868 hy1868 => ?_)
    refine y_put (j := 227) (lo := 0) (hi := 10) (len := 3) (r := (12, 12, 0, 1340)) (by decide +kernel) ge (t52 ge) at52 rfl rfl (by decide) rfl (by omega) (by omega) rfl (fun h1869 hg1869 hl1869 hs1869 ho1869 => ?_)
    have ho1869 : hO 52 12 he h1869 := ho1869
    have hs1869 : hsl h1869 52 12 = some (zi y1868) := hs1869
    refine qX_V (rem_2 (c := 9) hg1869 (fun k hk => rfs_up (r57 k hk) ((ho1869 57 k (by omega)).trans ((b2 57 k (by omega)).trans ((ho1862 57 k (by omega)).trans (ho1860 57 k (by omega)))))) hs1869 (by omega) (by omega)) (fun h1 hR => ?_)
    obtain ⟨g1, c1, c2, F⟩ := hR
    have e0 : ∀ k i, k ≠ 52 → hsl h1862 k i = hsl h k i := fun k j hk => ((ho1862 k j (by omega)).trans (ho1860 k j (by omega)))
    have e1 : ∀ k i, k ≠ 52 → hsl h1869 k i = hsl he k i := fun k j hk => (ho1869 k j (by omega))
    refine ⟨g1, RM_psh rm (fun j => ((F 55 j (by omega)).trans ((e1 55 j (by omega)).trans ((b2 55 j (by omega)).trans (e0 55 j (by omega)))))) (fun j => ((F 57 j (by omega)).trans ((e1 57 j (by omega)).trans ((b2 57 j (by omega)).trans (e0 57 j (by omega)))))) (by rw [show min (hs.length + 1) 10 = 9 + 1 by omega]; exact c1) (fun j i hj hl2 _ => by omega) (fun j i hj _ => ((F _ i (by omega)).trans ((e1 _ i (by omega)).trans ((b1 j i hj).trans (e0 _ i (by omega)))))) (fun i => ?_), fun k j hC => ?_⟩
    · rw [show 58 + min hs.length 9 = 58 + 9 by omega]
      exact (c2 i).trans ((e1 55 i (by omega)).trans ((b2 55 i (by omega)).trans (e0 55 i (by omega))))
    · refine (F k j (by omega)).trans ?_
      rcases Decidable.em (k = 52) with q5 | q5
      · subst q5
        exact (ho1869 52 j (by omega)).trans ((b2 52 j (by omega)).trans ((ho1862 52 j (by omega)).trans (ho1860 52 j (by omega))))
      · exact (e1 k j q5).trans ((b2 k j (by omega)).trans (e0 k j q5))
  ·
    refine y_same (i := .aload_n 0) (len := 1) (r := (0, 0, 0, 0)) (pc' := 1) (ls' := [some (.inl (some 52)), none]) (st' := [.inl (some 52)]) (by decide +kernel) (fun k q => by cases q) rfl ?_
    refine y_ic (c := 0) (len := 1) (r := (0, 0, 0, 0)) (by decide +kernel) (by decide) (fun y1852 hy1852 => ?_)
    refine y_put (j := 220) (lo := 0) (hi := 1) (len := 3) (r := (12, 31, 1, 1359)) (by decide +kernel) hg (t52 hg) at52 rfl rfl (by decide) rfl (by omega) (by omega) (zfit_b (by omega) (by omega)).1 (fun h1853 hg1853 hl1853 hs1853 ho1853 => ?_)
    have ho1853 : hO 52 31 h h1853 := ho1853
    have hs1853 : hsl h1853 52 31 = some (zi y1852) := hs1853
    refine y_same (i := .aload_n 0) (len := 1) (r := (0, 0, 0, 0)) (pc' := 6) (ls' := [some (.inl (some 52)), none]) (st' := [.inl (some 52)]) (by decide +kernel) (fun k q => by cases q) rfl ?_
    refine y_ic (c := 0) (len := 1) (r := (0, 0, 0, 0)) (by decide +kernel) (by decide) (fun y1854 hy1854 => ?_)
    refine y_put (j := 224) (lo := 0) (hi := 1) (len := 3) (r := (12, 47, 1, 1375)) (by decide +kernel) hg1853 (t52 hg1853) at52 rfl rfl (by decide) rfl (by omega) (by omega) (zfit_b (by omega) (by omega)).1 (fun h1855 hg1855 hl1855 hs1855 ho1855 => ?_)
    have ho1855 : hO 52 47 h1853 h1855 := ho1855
    have hs1855 : hsl h1855 52 47 = some (zi y1854) := hs1855
    refine y_same (i := .aload_n 0) (len := 1) (r := (0, 0, 0, 0)) (pc' := 11) (ls' := [some (.inl (some 52)), none]) (st' := [.inl (some 52)]) (by decide +kernel) (fun k q => by cases q) rfl ?_
    have hv1856 := (ho1853 52 12 (Or.inr (by omega))).trans hc
    have hv1857 := (ho1855 52 12 (Or.inr (by omega))).trans hv1856
    refine y_get (j := 227) (len := 3) (r := (12, 12, 0, 1340)) (by decide +kernel) hg1855 (t52 hg1855) at52 rfl rfl hv1857 ?_
    refine y_bi (c := 10) (len := 2) (r := (0, 0, 0, 0)) (by decide +kernel) (by decide) (fun y1858 hy1858 => ?_)
    refine y_cT (c := .ne) (off := 46) (pc' := 62) (len := 3) (r := (0, 0, 0, 0)) (by decide +kernel) (acmpT (c := .ne) (by show ¬ (_ = _); omega)) (by decide +kernel) ?_
    refine qX_V (rem_2 (c := c) hg1855 (fun k hk => rfs_up (r57 k hk) ((ho1855 57 k (by omega)).trans (ho1853 57 k (by omega)))) hv1857 (by omega) (by omega)) (fun h1 hR => ?_)
    obtain ⟨g1, c1, c2, F⟩ := hR
    have e0 : ∀ k i, k ≠ 52 → hsl h1855 k i = hsl h k i := fun k j hk => ((ho1855 k j (by omega)).trans (ho1853 k j (by omega)))
    refine ⟨g1, RM_psh rm (fun j => (F 55 j (by omega)).trans (e0 55 j (by omega))) (fun j => (F 57 j (by omega)).trans (e0 57 j (by omega))) (by rw [show min (hs.length + 1) 10 = c + 1 by omega]; exact c1) (fun j i hj hl2 hne => (F _ i (by omega)).trans (e0 _ i (by omega))) (fun j i hj hl2 => by omega) (fun i => ?_), fun k j hC => (F k j (by omega)).trans ((ho1855 k j (by omega)).trans (ho1853 k j (by omega)))⟩
    rw [show 58 + min hs.length 9 = 58 + c by omega]
    exact (c2 i).trans (e0 55 i (by omega))
