/-! which letters there are; what they are told to be -/
def bp (a : Int32) (l : Nat) : Prop := a.toBitVec.getLsbD l = true
theorem bp_or {a b : Int32} {l : Nat} (h : bp a l) : bp (a ||| b) l := by
  unfold bp at h ⊢
  rw [Int32.toBitVec_or, BitVec.getLsbD_or, h]
  rfl
theorem one_tab : ∀ n, n < 21 → ((1 : Int32) <<< (nI n &&& 31)).toBitVec.getLsbD n = true := by decide +kernel
theorem bp_new {a l : Int32} {n : Nat} (hl : l.toInt = (n : Int)) (hn : n < 21) : bp (a ||| ((1 : Int32) <<< (l &&& 31))) n := by
  have e := nI_is hl hn
  subst e
  unfold bp
  rw [Int32.toBitVec_or, BitVec.getLsbD_or, one_tab n hn, Bool.or_true]
theorem m2_tab : ∀ n, n < 6 → 1 ≤ n → (-2 : Int32).toBitVec.getLsbD n = true := by decide +kernel
theorem bp_m2 {a : Int32} {n : Nat} (h : bp a n) (hn : n < 6) (h1 : 1 ≤ n) : bp (a &&& -2) n := by
  unfold bp at h ⊢
  rw [Int32.toBitVec_and, BitVec.getLsbD_and, h, m2_tab n hn h1]
  rfl
theorem bit_on {a : Int32} {n : Nat} (hn : n < 21) (h : bp a n) : ((a >>> (nI n &&& 31)) &&& 1).toInt ≠ 0 := by
  intro h0
  have e : ((a >>> (nI n &&& 31)) &&& 1) = 0 := Int32.toInt_inj.mp (by rw [h0]; rfl)
  have t : ∀ n, n < 21 → ((nI n &&& 31).toBitVec.smod 32).toNat = n := by decide +kernel
  have e2 : ((a >>> (nI n &&& 31)) &&& 1).toBitVec.getLsbD 0 = false := by
    rw [e]
    rfl
  rw [Int32.toBitVec_and, BitVec.getLsbD_and, Int32.toBitVec_shiftRight, BitVec.sshiftRight', t n hn, BitVec.getLsbD_sshiftRight] at e2
  simp only [Nat.add_zero] at e2
  rw [if_pos (by omega)] at e2
  unfold bp at h
  rw [h] at e2
  have e3 : ((1 : Int32).toBitVec.getLsbD 0) = true := by decide
  rw [e3] at e2
  simp at e2
/-- all letters of the first parts of a side are there -/
def vis (h : zh) (a : Int32) (s k : Nat) : Prop := ∀ k', k' < k → ∀ w, 1 ≤ w → w ≤ 3 → ∀ l : Int32, hsl h 55 (46 * s + 2 + 4 * k' + w) = some (zi l) → bp a l.toInt.toNat
def mono (a b : Int32) : Prop := ∀ l, bp a l → bp b l
theorem vis_mono {h : zh} {a b : Int32} {s k : Nat} (m : mono a b) (v : vis h a s k) : vis h b s k := fun k' hk w w1 w3 l hl => m _ (v k' hk w w1 w3 l hl)
theorem vis_step {τ : List Nat} {h : zh} {a l1 l2 l3 o1 o2 o3 : Int32} {s k : Nat} (hg : hG τ h) (hs : s ≤ 1) (hk : k < 5) (v : vis h a s k) (e1 : hsl h 55 (46 * s + 2 + 4 * k + 1) = some (zi l1)) (e2 : hsl h 55 (46 * s + 2 + 4 * k + 2) = some (zi l2)) (e3 : hsl h 55 (46 * s + 2 + 4 * k + 3) = some (zi l3)) (h1 : o1 = 1) (h2 : o2 = 1) (h3 : o3 = 1) : mono a (((a ||| (o1 <<< (l1 &&& 31))) ||| (o2 <<< (l2 &&& 31))) ||| (o3 <<< (l3 &&& 31))) ∧ vis h (((a ||| (o1 <<< (l1 &&& 31))) ||| (o2 <<< (l2 &&& 31))) ||| (o3 <<< (l3 &&& 31))) s (k + 1) := by
  subst h1 h2 h3
  have b : ∀ (w : Nat) (l : Int32), 1 ≤ w → w ≤ 3 → hsl h 55 (46 * s + 2 + 4 * k + w) = some (zi l) → 0 ≤ l.toInt ∧ l.toInt ≤ 5 := fun w l w1 w3 hl => by
    obtain ⟨x, e, q1, q2⟩ := g55 (i := 46 * s + 2 + 4 * k + w) hg (by omega) (by omega) (by rcases (show s = 0 ∨ s = 1 by omega) with rfl | rfl <;> omega)
    rw [hl] at e
    cases e
    exact ⟨q1, q2⟩
  have m : mono a (((a ||| (1 <<< (l1 &&& 31))) ||| (1 <<< (l2 &&& 31))) ||| (1 <<< (l3 &&& 31))) := fun l hl => bp_or (bp_or (bp_or hl))
  refine ⟨m, fun k' hk' w w1 w3 l hl => ?_⟩
  rcases (show k' < k ∨ k' = k by omega) with q | q
  · exact m _ (v k' q w w1 w3 l hl)
  · subst q
    have bb := b w l w1 w3 hl
    rcases (show w = 1 ∨ w = 2 ∨ w = 3 by omega) with rfl | rfl | rfl
    · rw [e1] at hl
      cases hl
      exact bp_or (bp_or (bp_new (by omega) (by omega)))
    · rw [e2] at hl
      cases hl
      exact bp_or (bp_new (by omega) (by omega))
    · rw [e3] at hl
      cases hl
      exact bp_new (by omega) (by omega)
theorem va_p {t s m : Nat} {τ : List Nat} {h : zh} {xs y : Int32} {P : zo × zh × Nat → Prop} (hg : hG τ h) (hxs : xs.toInt = (s : Int)) (hs : s ≤ 1) (hy : hsl h 55 (46 * s + 0) = some (zi y)) (hym : y.toInt = (m : Int)) (hm : m ≤ 5) : ∀ (n k : Nat) (xa xk : Int32) (l4 : Option zv), vis h xa s k → xk.toInt = (k : Int) → k ≤ m → m ≤ k + n → (∀ (xa' xk' : Int32) (l4' : Option zv), mono xa xa' → vis h xa' s m → qX 8 192 62 [some (.inl (some 52)), some (zi xa'), some (zi xs), some (zi xk'), l4'] [] h t P) → qX 8 192 11 [some (.inl (some 52)), some (zi xa), some (zi xs), some (zi xk), l4] [] h t P := by
  intro n
  induction n with
  | zero =>
    intro k xa xk l4 hv hxk hk hn kk
    ·
      refine y_same (i := .iload_n 3) (len := 1) (r := (0, 0, 0, 0)) (pc' := 12) (ls' := [some (.inl (some 52)), some (zi xa), some (zi xs), some (zi xk), l4]) (st' := [zi xk]) (by decide +kernel) (fun k q => by cases q) rfl ?_
      refine y_same (i := .aload_n 0) (len := 1) (r := (0, 0, 0, 0)) (pc' := 13) (ls' := [some (.inl (some 52)), some (zi xa), some (zi xs), some (zi xk), l4]) (st' := [.inl (some 52), zi xk]) (by decide +kernel) (fun k q => by cases q) rfl ?_
      refine y_get (j := 20) (len := 3) (r := (12, 9, 2, 1337)) (by decide +kernel) hg (t52 hg) at52 rfl rfl (g_r52 (f := 9) (T2 := 55) hg rfl (by decide)).1 ?_
      refine y_same (i := .iload_n 2) (len := 1) (r := (0, 0, 0, 0)) (pc' := 17) (ls' := [some (.inl (some 52)), some (zi xa), some (zi xs), some (zi xk), l4]) (st' := [zi xs, .inl (some 55), zi xk]) (by decide +kernel) (fun k q => by cases q) rfl ?_
      refine y_cI (i := .invokestatic 143) (len := 3) (r := (1, 166, 12, 1543)) (nL := 2) (k := 1) (n := 2) (hs := []) (args := [.inl (some 55), zi xs]) (rest := [zi xk]) (l0 := [some (.inl (some 55)), some (zi xs)]) (by decide +kernel) (Or.inl ⟨_, rfl⟩) rfl rfl rfl rfl (Nat.le_of_ble_eq_true rfl) rfl rfl (e_parts (s := s) hg (by omega) (by omega) hy) (fun y856 qy856 hRy856 => ?_)
      obtain ⟨rfl, rfl⟩ := hRy856
      refine y_cT (c := .ge) (off := 42) (pc' := 62) (len := 3) (r := (0, 0, 0, 0)) (by decide +kernel) (acmpT (c := .ge) (by show _ ≤ _; omega)) (by decide +kernel) ?_
      exact kk xa xk l4 (fun l hl => hl) ((show k = m by omega) ▸ hv)
  | succ n ih =>
    intro k xa xk l4 hv hxk hk hn kk
    rcases Nat.lt_or_ge k m with q | q
    ·
      refine y_same (i := .iload_n 3) (len := 1) (r := (0, 0, 0, 0)) (pc' := 12) (ls' := [some (.inl (some 52)), some (zi xa), some (zi xs), some (zi xk), l4]) (st' := [zi xk]) (by decide +kernel) (fun k q => by cases q) rfl ?_
      refine y_same (i := .aload_n 0) (len := 1) (r := (0, 0, 0, 0)) (pc' := 13) (ls' := [some (.inl (some 52)), some (zi xa), some (zi xs), some (zi xk), l4]) (st' := [.inl (some 52), zi xk]) (by decide +kernel) (fun k q => by cases q) rfl ?_
      refine y_get (j := 20) (len := 3) (r := (12, 9, 2, 1337)) (by decide +kernel) hg (t52 hg) at52 rfl rfl (g_r52 (f := 9) (T2 := 55) hg rfl (by decide)).1 ?_
      refine y_same (i := .iload_n 2) (len := 1) (r := (0, 0, 0, 0)) (pc' := 17) (ls' := [some (.inl (some 52)), some (zi xa), some (zi xs), some (zi xk), l4]) (st' := [zi xs, .inl (some 55), zi xk]) (by decide +kernel) (fun k q => by cases q) rfl ?_
      refine y_cI (i := .invokestatic 143) (len := 3) (r := (1, 166, 12, 1543)) (nL := 2) (k := 1) (n := 2) (hs := []) (args := [.inl (some 55), zi xs]) (rest := [zi xk]) (l0 := [some (.inl (some 55)), some (zi xs)]) (by decide +kernel) (Or.inl ⟨_, rfl⟩) rfl rfl rfl rfl (Nat.le_of_ble_eq_true rfl) rfl rfl (e_parts (s := s) hg (by omega) (by omega) hy) (fun y825 qy825 hRy825 => ?_)
      obtain ⟨rfl, rfl⟩ := hRy825
      refine y_cF (c := .ge) (off := 42) (len := 3) (r := (0, 0, 0, 0)) (by decide +kernel) (acmpF (c := .ge) (by show _ < _; omega)) ?_
      refine y_ic (c := 1) (len := 1) (r := (0, 0, 0, 0)) (by decide +kernel) (by decide) (fun y826 hy826 => ?_)
      refine y_same (i := .istore 4) (len := 2) (r := (0, 0, 0, 0)) (pc' := 26) (ls' := [some (.inl (some 52)), some (zi xa), some (zi xs), some (zi xk), some (zi y826)]) (st' := []) (by decide +kernel) (fun k q => by cases q) rfl ?_
      refine y_same (i := .iload 4) (len := 2) (r := (0, 0, 0, 0)) (pc' := 28) (ls' := [some (.inl (some 52)), some (zi xa), some (zi xs), some (zi xk), some (zi y826)]) (st' := [zi y826]) (by decide +kernel) (fun k q => by cases q) rfl ?_
      refine y_ic (c := 4) (len := 1) (r := (0, 0, 0, 0)) (by decide +kernel) (by decide) (fun y827 hy827 => ?_)
      refine y_cF (c := .ge) (off := 27) (len := 3) (r := (0, 0, 0, 0)) (by decide +kernel) (acmpF (c := .ge) (by show _ < _; omega)) ?_
      refine y_same (i := .iload_n 1) (len := 1) (r := (0, 0, 0, 0)) (pc' := 33) (ls' := [some (.inl (some 52)), some (zi xa), some (zi xs), some (zi xk), some (zi y826)]) (st' := [zi xa]) (by decide +kernel) (fun k q => by cases q) rfl ?_
      refine y_ic (c := 1) (len := 1) (r := (0, 0, 0, 0)) (by decide +kernel) (by decide) (fun y828 hy828 => ?_)
      refine y_same (i := .aload_n 0) (len := 1) (r := (0, 0, 0, 0)) (pc' := 35) (ls' := [some (.inl (some 52)), some (zi xa), some (zi xs), some (zi xk), some (zi y826)]) (st' := [.inl (some 52), zi y828, zi xa]) (by decide +kernel) (fun k q => by cases q) rfl ?_
      refine y_get (j := 20) (len := 3) (r := (12, 9, 2, 1337)) (by decide +kernel) hg (t52 hg) at52 rfl rfl (g_r52 (f := 9) (T2 := 55) hg rfl (by decide)).1 ?_
      refine y_same (i := .iload_n 2) (len := 1) (r := (0, 0, 0, 0)) (pc' := 39) (ls' := [some (.inl (some 52)), some (zi xa), some (zi xs), some (zi xk), some (zi y826)]) (st' := [zi xs, .inl (some 55), zi y828, zi xa]) (by decide +kernel) (fun k q => by cases q) rfl ?_
      refine y_same (i := .iload_n 3) (len := 1) (r := (0, 0, 0, 0)) (pc' := 40) (ls' := [some (.inl (some 52)), some (zi xa), some (zi xs), some (zi xk), some (zi y826)]) (st' := [zi xk, zi xs, .inl (some 55), zi y828, zi xa]) (by decide +kernel) (fun k q => by cases q) rfl ?_
      refine y_cI (i := .invokestatic 147) (len := 3) (r := (1, 168, 12, 1546)) (nL := 2) (k := 1) (n := 2) (hs := []) (args := [zi xs, zi xk]) (rest := [.inl (some 55), zi y828, zi xa]) (l0 := [some (zi xs), some (zi xk)]) (by decide +kernel) (Or.inl ⟨_, rfl⟩) rfl rfl rfl rfl (Nat.le_of_ble_eq_true rfl) rfl rfl (e_partAt (s := s) (k := k) (by omega) (by omega) (by omega) (by omega)) (fun y829 qy829 hRy829 => ?_)
      obtain ⟨rfl, hy829⟩ := hRy829
      refine y_same (i := .iload 4) (len := 2) (r := (0, 0, 0, 0)) (pc' := 45) (ls' := [some (.inl (some 52)), some (zi xa), some (zi xs), some (zi xk), some (zi y826)]) (st' := [zi y826, zi y829, .inl (some 55), zi y828, zi xa]) (by decide +kernel) (fun k q => by cases q) rfl ?_
      refine y_add (len := 1) (r := (0, 0, 0, 0)) (by decide +kernel) (by omega) (by omega) (fun y830 hy830 => ?_)
      obtain ⟨v831, hv832, lv831, uv831⟩ := g55 (i := ((46 * s + 2 + 4 * k) + 1)) hg (by omega) (by omega) (by omega)
      refine y_ial (i := ((46 * s + 2 + 4 * k) + 1)) (len := 1) (r := (0, 0, 0, 0)) (by decide +kernel) hg (tu55 hg) at55 (by omega) hv832 ?_
      refine y_bp (i := .ishl) (f := fun x y => x <<< (y &&& 31)) (len := 1) (r := (0, 0, 0, 0)) (by decide +kernel) rfl rfl (fun y833 hy833 => ?_)
      have hy833 : y833 = y828 <<< (v831 &&& 31) := hy833
      refine y_bp (i := .ior) (f := fun x y => x ||| y) (len := 1) (r := (0, 0, 0, 0)) (by decide +kernel) rfl rfl (fun y834 hy834 => ?_)
      have hy834 : y834 = xa ||| y833 := hy834
      refine y_same (i := .istore_n 1) (len := 1) (r := (0, 0, 0, 0)) (pc' := 50) (ls' := [some (.inl (some 52)), some (zi y834), some (zi xs), some (zi xk), some (zi y826)]) (st' := []) (by decide +kernel) (fun k q => by cases q) rfl ?_
      refine y_inc (j := 4) (a := y826) (c := 1) (ls' := fun v => [some (.inl (some 52)), some (zi y834), some (zi xs), some (zi xk), some v]) (len := 3) (r := (0, 0, 0, 0)) (by decide +kernel) rfl (fun _ => rfl) (by decide) (by omega) (by omega) (fun y835 hy835 => ?_)
      show qX 8 192 53 [some (.inl (some 52)), some (zi y834), some (zi xs), some (zi xk), some (zi y835)] [] h t _
      refine y_goto (off := (-27)) (pc' := 26) (len := 3) (r := (0, 0, 0, 0)) (by decide +kernel) (by decide +kernel) ?_
      refine y_same (i := .iload 4) (len := 2) (r := (0, 0, 0, 0)) (pc' := 28) (ls' := [some (.inl (some 52)), some (zi y834), some (zi xs), some (zi xk), some (zi y835)]) (st' := [zi y835]) (by decide +kernel) (fun k q => by cases q) rfl ?_
      refine y_ic (c := 4) (len := 1) (r := (0, 0, 0, 0)) (by decide +kernel) (by decide) (fun y836 hy836 => ?_)
      refine y_cF (c := .ge) (off := 27) (len := 3) (r := (0, 0, 0, 0)) (by decide +kernel) (acmpF (c := .ge) (by show _ < _; omega)) ?_
      refine y_same (i := .iload_n 1) (len := 1) (r := (0, 0, 0, 0)) (pc' := 33) (ls' := [some (.inl (some 52)), some (zi y834), some (zi xs), some (zi xk), some (zi y835)]) (st' := [zi y834]) (by decide +kernel) (fun k q => by cases q) rfl ?_
      refine y_ic (c := 1) (len := 1) (r := (0, 0, 0, 0)) (by decide +kernel) (by decide) (fun y837 hy837 => ?_)
      refine y_same (i := .aload_n 0) (len := 1) (r := (0, 0, 0, 0)) (pc' := 35) (ls' := [some (.inl (some 52)), some (zi y834), some (zi xs), some (zi xk), some (zi y835)]) (st' := [.inl (some 52), zi y837, zi y834]) (by decide +kernel) (fun k q => by cases q) rfl ?_
      refine y_get (j := 20) (len := 3) (r := (12, 9, 2, 1337)) (by decide +kernel) hg (t52 hg) at52 rfl rfl (g_r52 (f := 9) (T2 := 55) hg rfl (by decide)).1 ?_
      refine y_same (i := .iload_n 2) (len := 1) (r := (0, 0, 0, 0)) (pc' := 39) (ls' := [some (.inl (some 52)), some (zi y834), some (zi xs), some (zi xk), some (zi y835)]) (st' := [zi xs, .inl (some 55), zi y837, zi y834]) (by decide +kernel) (fun k q => by cases q) rfl ?_
      refine y_same (i := .iload_n 3) (len := 1) (r := (0, 0, 0, 0)) (pc' := 40) (ls' := [some (.inl (some 52)), some (zi y834), some (zi xs), some (zi xk), some (zi y835)]) (st' := [zi xk, zi xs, .inl (some 55), zi y837, zi y834]) (by decide +kernel) (fun k q => by cases q) rfl ?_
      refine y_cI (i := .invokestatic 147) (len := 3) (r := (1, 168, 12, 1546)) (nL := 2) (k := 1) (n := 2) (hs := []) (args := [zi xs, zi xk]) (rest := [.inl (some 55), zi y837, zi y834]) (l0 := [some (zi xs), some (zi xk)]) (by decide +kernel) (Or.inl ⟨_, rfl⟩) rfl rfl rfl rfl (Nat.le_of_ble_eq_true rfl) rfl rfl (e_partAt (s := s) (k := k) (by omega) (by omega) (by omega) (by omega)) (fun y838 qy838 hRy838 => ?_)
      obtain ⟨rfl, hy838⟩ := hRy838
      refine y_same (i := .iload 4) (len := 2) (r := (0, 0, 0, 0)) (pc' := 45) (ls' := [some (.inl (some 52)), some (zi y834), some (zi xs), some (zi xk), some (zi y835)]) (st' := [zi y835, zi y838, .inl (some 55), zi y837, zi y834]) (by decide +kernel) (fun k q => by cases q) rfl ?_
      refine y_add (len := 1) (r := (0, 0, 0, 0)) (by decide +kernel) (by omega) (by omega) (fun y839 hy839 => ?_)
      obtain ⟨v840, hv841, lv840, uv840⟩ := g55 (i := ((46 * s + 2 + 4 * k) + 2)) hg (by omega) (by omega) (by omega)
      refine y_ial (i := ((46 * s + 2 + 4 * k) + 2)) (len := 1) (r := (0, 0, 0, 0)) (by decide +kernel) hg (tu55 hg) at55 (by omega) hv841 ?_
      refine y_bp (i := .ishl) (f := fun x y => x <<< (y &&& 31)) (len := 1) (r := (0, 0, 0, 0)) (by decide +kernel) rfl rfl (fun y842 hy842 => ?_)
      have hy842 : y842 = y837 <<< (v840 &&& 31) := hy842
      refine y_bp (i := .ior) (f := fun x y => x ||| y) (len := 1) (r := (0, 0, 0, 0)) (by decide +kernel) rfl rfl (fun y843 hy843 => ?_)
      have hy843 : y843 = y834 ||| y842 := hy843
      refine y_same (i := .istore_n 1) (len := 1) (r := (0, 0, 0, 0)) (pc' := 50) (ls' := [some (.inl (some 52)), some (zi y843), some (zi xs), some (zi xk), some (zi y835)]) (st' := []) (by decide +kernel) (fun k q => by cases q) rfl ?_
      refine y_inc (j := 4) (a := y835) (c := 1) (ls' := fun v => [some (.inl (some 52)), some (zi y843), some (zi xs), some (zi xk), some v]) (len := 3) (r := (0, 0, 0, 0)) (by decide +kernel) rfl (fun _ => rfl) (by decide) (by omega) (by omega) (fun y844 hy844 => ?_)
      show qX 8 192 53 [some (.inl (some 52)), some (zi y843), some (zi xs), some (zi xk), some (zi y844)] [] h t _
      refine y_goto (off := (-27)) (pc' := 26) (len := 3) (r := (0, 0, 0, 0)) (by decide +kernel) (by decide +kernel) ?_
      refine y_same (i := .iload 4) (len := 2) (r := (0, 0, 0, 0)) (pc' := 28) (ls' := [some (.inl (some 52)), some (zi y843), some (zi xs), some (zi xk), some (zi y844)]) (st' := [zi y844]) (by decide +kernel) (fun k q => by cases q) rfl ?_
      refine y_ic (c := 4) (len := 1) (r := (0, 0, 0, 0)) (by decide +kernel) (by decide) (fun y845 hy845 => ?_)
      refine y_cF (c := .ge) (off := 27) (len := 3) (r := (0, 0, 0, 0)) (by decide +kernel) (acmpF (c := .ge) (by show _ < _; omega)) ?_
      refine y_same (i := .iload_n 1) (len := 1) (r := (0, 0, 0, 0)) (pc' := 33) (ls' := [some (.inl (some 52)), some (zi y843), some (zi xs), some (zi xk), some (zi y844)]) (st' := [zi y843]) (by decide +kernel) (fun k q => by cases q) rfl ?_
      refine y_ic (c := 1) (len := 1) (r := (0, 0, 0, 0)) (by decide +kernel) (by decide) (fun y846 hy846 => ?_)
      refine y_same (i := .aload_n 0) (len := 1) (r := (0, 0, 0, 0)) (pc' := 35) (ls' := [some (.inl (some 52)), some (zi y843), some (zi xs), some (zi xk), some (zi y844)]) (st' := [.inl (some 52), zi y846, zi y843]) (by decide +kernel) (fun k q => by cases q) rfl ?_
      refine y_get (j := 20) (len := 3) (r := (12, 9, 2, 1337)) (by decide +kernel) hg (t52 hg) at52 rfl rfl (g_r52 (f := 9) (T2 := 55) hg rfl (by decide)).1 ?_
      refine y_same (i := .iload_n 2) (len := 1) (r := (0, 0, 0, 0)) (pc' := 39) (ls' := [some (.inl (some 52)), some (zi y843), some (zi xs), some (zi xk), some (zi y844)]) (st' := [zi xs, .inl (some 55), zi y846, zi y843]) (by decide +kernel) (fun k q => by cases q) rfl ?_
      refine y_same (i := .iload_n 3) (len := 1) (r := (0, 0, 0, 0)) (pc' := 40) (ls' := [some (.inl (some 52)), some (zi y843), some (zi xs), some (zi xk), some (zi y844)]) (st' := [zi xk, zi xs, .inl (some 55), zi y846, zi y843]) (by decide +kernel) (fun k q => by cases q) rfl ?_
      refine y_cI (i := .invokestatic 147) (len := 3) (r := (1, 168, 12, 1546)) (nL := 2) (k := 1) (n := 2) (hs := []) (args := [zi xs, zi xk]) (rest := [.inl (some 55), zi y846, zi y843]) (l0 := [some (zi xs), some (zi xk)]) (by decide +kernel) (Or.inl ⟨_, rfl⟩) rfl rfl rfl rfl (Nat.le_of_ble_eq_true rfl) rfl rfl (e_partAt (s := s) (k := k) (by omega) (by omega) (by omega) (by omega)) (fun y847 qy847 hRy847 => ?_)
      obtain ⟨rfl, hy847⟩ := hRy847
      refine y_same (i := .iload 4) (len := 2) (r := (0, 0, 0, 0)) (pc' := 45) (ls' := [some (.inl (some 52)), some (zi y843), some (zi xs), some (zi xk), some (zi y844)]) (st' := [zi y844, zi y847, .inl (some 55), zi y846, zi y843]) (by decide +kernel) (fun k q => by cases q) rfl ?_
      refine y_add (len := 1) (r := (0, 0, 0, 0)) (by decide +kernel) (by omega) (by omega) (fun y848 hy848 => ?_)
      obtain ⟨v849, hv850, lv849, uv849⟩ := g55 (i := ((46 * s + 2 + 4 * k) + 3)) hg (by omega) (by omega) (by omega)
      refine y_ial (i := ((46 * s + 2 + 4 * k) + 3)) (len := 1) (r := (0, 0, 0, 0)) (by decide +kernel) hg (tu55 hg) at55 (by omega) hv850 ?_
      refine y_bp (i := .ishl) (f := fun x y => x <<< (y &&& 31)) (len := 1) (r := (0, 0, 0, 0)) (by decide +kernel) rfl rfl (fun y851 hy851 => ?_)
      have hy851 : y851 = y846 <<< (v849 &&& 31) := hy851
      refine y_bp (i := .ior) (f := fun x y => x ||| y) (len := 1) (r := (0, 0, 0, 0)) (by decide +kernel) rfl rfl (fun y852 hy852 => ?_)
      have hy852 : y852 = y843 ||| y851 := hy852
      refine y_same (i := .istore_n 1) (len := 1) (r := (0, 0, 0, 0)) (pc' := 50) (ls' := [some (.inl (some 52)), some (zi y852), some (zi xs), some (zi xk), some (zi y844)]) (st' := []) (by decide +kernel) (fun k q => by cases q) rfl ?_
      refine y_inc (j := 4) (a := y844) (c := 1) (ls' := fun v => [some (.inl (some 52)), some (zi y852), some (zi xs), some (zi xk), some v]) (len := 3) (r := (0, 0, 0, 0)) (by decide +kernel) rfl (fun _ => rfl) (by decide) (by omega) (by omega) (fun y853 hy853 => ?_)
      show qX 8 192 53 [some (.inl (some 52)), some (zi y852), some (zi xs), some (zi xk), some (zi y853)] [] h t _
      refine y_goto (off := (-27)) (pc' := 26) (len := 3) (r := (0, 0, 0, 0)) (by decide +kernel) (by decide +kernel) ?_
      refine y_same (i := .iload 4) (len := 2) (r := (0, 0, 0, 0)) (pc' := 28) (ls' := [some (.inl (some 52)), some (zi y852), some (zi xs), some (zi xk), some (zi y853)]) (st' := [zi y853]) (by decide +kernel) (fun k q => by cases q) rfl ?_
      refine y_ic (c := 4) (len := 1) (r := (0, 0, 0, 0)) (by decide +kernel) (by decide) (fun y854 hy854 => ?_)
      refine y_cT (c := .ge) (off := 27) (pc' := 56) (len := 3) (r := (0, 0, 0, 0)) (by decide +kernel) (acmpT (c := .ge) (by show _ ≤ _; omega)) (by decide +kernel) ?_
      refine y_inc (j := 3) (a := xk) (c := 1) (ls' := fun v => [some (.inl (some 52)), some (zi y852), some (zi xs), some v, some (zi y853)]) (len := 3) (r := (0, 0, 0, 0)) (by decide +kernel) rfl (fun _ => rfl) (by decide) (by omega) (by omega) (fun y855 hy855 => ?_)
      show qX 8 192 59 [some (.inl (some 52)), some (zi y852), some (zi xs), some (zi y855), some (zi y853)] [] h t _
      refine y_goto (off := (-48)) (pc' := 11) (len := 3) (r := (0, 0, 0, 0)) (by decide +kernel) (by decide +kernel) ?_
      have e9 : y852 = ((xa ||| (y828 <<< (v831 &&& 31))) ||| (y837 <<< (v840 &&& 31))) ||| (y846 <<< (v849 &&& 31)) := by rw [hy852, hy851, hy843, hy842, hy834, hy833]
      obtain ⟨m9, v9⟩ := vis_step hg hs (by omega) hv hv832 hv841 hv850 (ofI (w := 1) hy828 rfl) (ofI (w := 1) hy837 rfl) (ofI (w := 1) hy846 rfl)
      rw [← e9] at m9 v9
      refine ih (k + 1) y852 y855 _ v9 (by omega) (by omega) (by omega) (fun xa' xk' l4' mn vs => kk xa' xk' l4' (fun l hl => mn l (m9 l hl)) vs)
    ·
      refine y_same (i := .iload_n 3) (len := 1) (r := (0, 0, 0, 0)) (pc' := 12) (ls' := [some (.inl (some 52)), some (zi xa), some (zi xs), some (zi xk), l4]) (st' := [zi xk]) (by decide +kernel) (fun k q => by cases q) rfl ?_
      refine y_same (i := .aload_n 0) (len := 1) (r := (0, 0, 0, 0)) (pc' := 13) (ls' := [some (.inl (some 52)), some (zi xa), some (zi xs), some (zi xk), l4]) (st' := [.inl (some 52), zi xk]) (by decide +kernel) (fun k q => by cases q) rfl ?_
      refine y_get (j := 20) (len := 3) (r := (12, 9, 2, 1337)) (by decide +kernel) hg (t52 hg) at52 rfl rfl (g_r52 (f := 9) (T2 := 55) hg rfl (by decide)).1 ?_
      refine y_same (i := .iload_n 2) (len := 1) (r := (0, 0, 0, 0)) (pc' := 17) (ls' := [some (.inl (some 52)), some (zi xa), some (zi xs), some (zi xk), l4]) (st' := [zi xs, .inl (some 55), zi xk]) (by decide +kernel) (fun k q => by cases q) rfl ?_
      refine y_cI (i := .invokestatic 143) (len := 3) (r := (1, 166, 12, 1543)) (nL := 2) (k := 1) (n := 2) (hs := []) (args := [.inl (some 55), zi xs]) (rest := [zi xk]) (l0 := [some (.inl (some 55)), some (zi xs)]) (by decide +kernel) (Or.inl ⟨_, rfl⟩) rfl rfl rfl rfl (Nat.le_of_ble_eq_true rfl) rfl rfl (e_parts (s := s) hg (by omega) (by omega) hy) (fun y856 qy856 hRy856 => ?_)
      obtain ⟨rfl, rfl⟩ := hRy856
      refine y_cT (c := .ge) (off := 42) (pc' := 62) (len := 3) (r := (0, 0, 0, 0)) (by decide +kernel) (acmpT (c := .ge) (by show _ ≤ _; omega)) (by decide +kernel) ?_
      exact kk xa xk l4 (fun l hl => hl) ((show k = m by omega) ▸ hv)
theorem va_c {t s m : Nat} {τ : List Nat} {h : zh} {xs y : Int32} {P : zo × zh × Nat → Prop} (hg : hG τ h) (hxs : xs.toInt = (s : Int)) (hs : s ≤ 1) (hy : hsl h 55 (46 * s + 1) = some (zi y)) (hym : y.toInt = (m : Int)) (hm : m ≤ 6) : ∀ (n k : Nat) (xa xk : Int32) (l4 : Option zv), xk.toInt = (k : Int) → k ≤ m → m ≤ k + n → (∀ (xa' xk' : Int32) (l4' : Option zv), mono xa xa' → qX 8 192 115 [some (.inl (some 52)), some (zi xa'), some (zi xs), some (zi xk'), l4'] [] h t P) → qX 8 192 64 [some (.inl (some 52)), some (zi xa), some (zi xs), some (zi xk), l4] [] h t P := by
  intro n
  induction n with
  | zero =>
    intro k xa xk l4 hxk hk hn kk
    ·
      refine y_same (i := .iload_n 3) (len := 1) (r := (0, 0, 0, 0)) (pc' := 65) (ls' := [some (.inl (some 52)), some (zi xa), some (zi xs), some (zi xk), l4]) (st' := [zi xk]) (by decide +kernel) (fun k q => by cases q) rfl ?_
      refine y_same (i := .aload_n 0) (len := 1) (r := (0, 0, 0, 0)) (pc' := 66) (ls' := [some (.inl (some 52)), some (zi xa), some (zi xs), some (zi xk), l4]) (st' := [.inl (some 52), zi xk]) (by decide +kernel) (fun k q => by cases q) rfl ?_
      refine y_get (j := 20) (len := 3) (r := (12, 9, 2, 1337)) (by decide +kernel) hg (t52 hg) at52 rfl rfl (g_r52 (f := 9) (T2 := 55) hg rfl (by decide)).1 ?_
      refine y_same (i := .iload_n 2) (len := 1) (r := (0, 0, 0, 0)) (pc' := 70) (ls' := [some (.inl (some 52)), some (zi xa), some (zi xs), some (zi xk), l4]) (st' := [zi xs, .inl (some 55), zi xk]) (by decide +kernel) (fun k q => by cases q) rfl ?_
      refine y_cI (i := .invokestatic 155) (len := 3) (r := (1, 167, 12, 1560)) (nL := 2) (k := 1) (n := 2) (hs := []) (args := [.inl (some 55), zi xs]) (rest := [zi xk]) (l0 := [some (.inl (some 55)), some (zi xs)]) (by decide +kernel) (Or.inl ⟨_, rfl⟩) rfl rfl rfl rfl (Nat.le_of_ble_eq_true rfl) rfl rfl (e_claims (s := s) hg (by omega) (by omega) hy) (fun y879 qy879 hRy879 => ?_)
      obtain ⟨rfl, rfl⟩ := hRy879
      refine y_cT (c := .ge) (off := 42) (pc' := 115) (len := 3) (r := (0, 0, 0, 0)) (by decide +kernel) (acmpT (c := .ge) (by show _ ≤ _; omega)) (by decide +kernel) ?_
      exact kk xa xk l4 (fun l hl => hl)
  | succ n ih =>
    intro k xa xk l4 hxk hk hn kk
    rcases Nat.lt_or_ge k m with q | q
    ·
      refine y_same (i := .iload_n 3) (len := 1) (r := (0, 0, 0, 0)) (pc' := 65) (ls' := [some (.inl (some 52)), some (zi xa), some (zi xs), some (zi xk), l4]) (st' := [zi xk]) (by decide +kernel) (fun k q => by cases q) rfl ?_
      refine y_same (i := .aload_n 0) (len := 1) (r := (0, 0, 0, 0)) (pc' := 66) (ls' := [some (.inl (some 52)), some (zi xa), some (zi xs), some (zi xk), l4]) (st' := [.inl (some 52), zi xk]) (by decide +kernel) (fun k q => by cases q) rfl ?_
      refine y_get (j := 20) (len := 3) (r := (12, 9, 2, 1337)) (by decide +kernel) hg (t52 hg) at52 rfl rfl (g_r52 (f := 9) (T2 := 55) hg rfl (by decide)).1 ?_
      refine y_same (i := .iload_n 2) (len := 1) (r := (0, 0, 0, 0)) (pc' := 70) (ls' := [some (.inl (some 52)), some (zi xa), some (zi xs), some (zi xk), l4]) (st' := [zi xs, .inl (some 55), zi xk]) (by decide +kernel) (fun k q => by cases q) rfl ?_
      refine y_cI (i := .invokestatic 155) (len := 3) (r := (1, 167, 12, 1560)) (nL := 2) (k := 1) (n := 2) (hs := []) (args := [.inl (some 55), zi xs]) (rest := [zi xk]) (l0 := [some (.inl (some 55)), some (zi xs)]) (by decide +kernel) (Or.inl ⟨_, rfl⟩) rfl rfl rfl rfl (Nat.le_of_ble_eq_true rfl) rfl rfl (e_claims (s := s) hg (by omega) (by omega) hy) (fun y857 qy857 hRy857 => ?_)
      obtain ⟨rfl, rfl⟩ := hRy857
      refine y_cF (c := .ge) (off := 42) (len := 3) (r := (0, 0, 0, 0)) (by decide +kernel) (acmpF (c := .ge) (by show _ < _; omega)) ?_
      refine y_ic (c := 1) (len := 1) (r := (0, 0, 0, 0)) (by decide +kernel) (by decide) (fun y858 hy858 => ?_)
      refine y_same (i := .istore 4) (len := 2) (r := (0, 0, 0, 0)) (pc' := 79) (ls' := [some (.inl (some 52)), some (zi xa), some (zi xs), some (zi xk), some (zi y858)]) (st' := []) (by decide +kernel) (fun k q => by cases q) rfl ?_
      refine y_same (i := .iload 4) (len := 2) (r := (0, 0, 0, 0)) (pc' := 81) (ls' := [some (.inl (some 52)), some (zi xa), some (zi xs), some (zi xk), some (zi y858)]) (st' := [zi y858]) (by decide +kernel) (fun k q => by cases q) rfl ?_
      refine y_ic (c := 3) (len := 1) (r := (0, 0, 0, 0)) (by decide +kernel) (by decide) (fun y859 hy859 => ?_)
      refine y_cF (c := .ge) (off := 27) (len := 3) (r := (0, 0, 0, 0)) (by decide +kernel) (acmpF (c := .ge) (by show _ < _; omega)) ?_
      refine y_same (i := .iload_n 1) (len := 1) (r := (0, 0, 0, 0)) (pc' := 86) (ls' := [some (.inl (some 52)), some (zi xa), some (zi xs), some (zi xk), some (zi y858)]) (st' := [zi xa]) (by decide +kernel) (fun k q => by cases q) rfl ?_
      refine y_ic (c := 1) (len := 1) (r := (0, 0, 0, 0)) (by decide +kernel) (by decide) (fun y860 hy860 => ?_)
      refine y_same (i := .aload_n 0) (len := 1) (r := (0, 0, 0, 0)) (pc' := 88) (ls' := [some (.inl (some 52)), some (zi xa), some (zi xs), some (zi xk), some (zi y858)]) (st' := [.inl (some 52), zi y860, zi xa]) (by decide +kernel) (fun k q => by cases q) rfl ?_
      refine y_get (j := 20) (len := 3) (r := (12, 9, 2, 1337)) (by decide +kernel) hg (t52 hg) at52 rfl rfl (g_r52 (f := 9) (T2 := 55) hg rfl (by decide)).1 ?_
      refine y_same (i := .iload_n 2) (len := 1) (r := (0, 0, 0, 0)) (pc' := 92) (ls' := [some (.inl (some 52)), some (zi xa), some (zi xs), some (zi xk), some (zi y858)]) (st' := [zi xs, .inl (some 55), zi y860, zi xa]) (by decide +kernel) (fun k q => by cases q) rfl ?_
      refine y_same (i := .iload_n 3) (len := 1) (r := (0, 0, 0, 0)) (pc' := 93) (ls' := [some (.inl (some 52)), some (zi xa), some (zi xs), some (zi xk), some (zi y858)]) (st' := [zi xk, zi xs, .inl (some 55), zi y860, zi xa]) (by decide +kernel) (fun k q => by cases q) rfl ?_
      refine y_cI (i := .invokestatic 158) (len := 3) (r := (1, 169, 12, 1563)) (nL := 2) (k := 1) (n := 2) (hs := []) (args := [zi xs, zi xk]) (rest := [.inl (some 55), zi y860, zi xa]) (l0 := [some (zi xs), some (zi xk)]) (by decide +kernel) (Or.inl ⟨_, rfl⟩) rfl rfl rfl rfl (Nat.le_of_ble_eq_true rfl) rfl rfl (e_claimAt (s := s) (k := k) (by omega) (by omega) (by omega) (by omega)) (fun y861 qy861 hRy861 => ?_)
      obtain ⟨rfl, hy861⟩ := hRy861
      refine y_same (i := .iload 4) (len := 2) (r := (0, 0, 0, 0)) (pc' := 98) (ls' := [some (.inl (some 52)), some (zi xa), some (zi xs), some (zi xk), some (zi y858)]) (st' := [zi y858, zi y861, .inl (some 55), zi y860, zi xa]) (by decide +kernel) (fun k q => by cases q) rfl ?_
      refine y_add (len := 1) (r := (0, 0, 0, 0)) (by decide +kernel) (by omega) (by omega) (fun y862 hy862 => ?_)
      obtain ⟨v863, hv864, lv863, uv863⟩ := g55 (i := ((46 * s + 22 + 4 * k) + 1)) hg (by omega) (by omega) (by omega)
      refine y_ial (i := ((46 * s + 22 + 4 * k) + 1)) (len := 1) (r := (0, 0, 0, 0)) (by decide +kernel) hg (tu55 hg) at55 (by omega) hv864 ?_
      refine y_bp (i := .ishl) (f := fun x y => x <<< (y &&& 31)) (len := 1) (r := (0, 0, 0, 0)) (by decide +kernel) rfl rfl (fun y865 hy865 => ?_)
      have hy865 : y865 = y860 <<< (v863 &&& 31) := hy865
      refine y_bp (i := .ior) (f := fun x y => x ||| y) (len := 1) (r := (0, 0, 0, 0)) (by decide +kernel) rfl rfl (fun y866 hy866 => ?_)
      have hy866 : y866 = xa ||| y865 := hy866
      refine y_same (i := .istore_n 1) (len := 1) (r := (0, 0, 0, 0)) (pc' := 103) (ls' := [some (.inl (some 52)), some (zi y866), some (zi xs), some (zi xk), some (zi y858)]) (st' := []) (by decide +kernel) (fun k q => by cases q) rfl ?_
      refine y_inc (j := 4) (a := y858) (c := 1) (ls' := fun v => [some (.inl (some 52)), some (zi y866), some (zi xs), some (zi xk), some v]) (len := 3) (r := (0, 0, 0, 0)) (by decide +kernel) rfl (fun _ => rfl) (by decide) (by omega) (by omega) (fun y867 hy867 => ?_)
      show qX 8 192 106 [some (.inl (some 52)), some (zi y866), some (zi xs), some (zi xk), some (zi y867)] [] h t _
      refine y_goto (off := (-27)) (pc' := 79) (len := 3) (r := (0, 0, 0, 0)) (by decide +kernel) (by decide +kernel) ?_
      refine y_same (i := .iload 4) (len := 2) (r := (0, 0, 0, 0)) (pc' := 81) (ls' := [some (.inl (some 52)), some (zi y866), some (zi xs), some (zi xk), some (zi y867)]) (st' := [zi y867]) (by decide +kernel) (fun k q => by cases q) rfl ?_
      refine y_ic (c := 3) (len := 1) (r := (0, 0, 0, 0)) (by decide +kernel) (by decide) (fun y868 hy868 => ?_)
      refine y_cF (c := .ge) (off := 27) (len := 3) (r := (0, 0, 0, 0)) (by decide +kernel) (acmpF (c := .ge) (by show _ < _; omega)) ?_
      refine y_same (i := .iload_n 1) (len := 1) (r := (0, 0, 0, 0)) (pc' := 86) (ls' := [some (.inl (some 52)), some (zi y866), some (zi xs), some (zi xk), some (zi y867)]) (st' := [zi y866]) (by decide +kernel) (fun k q => by cases q) rfl ?_
      refine y_ic (c := 1) (len := 1) (r := (0, 0, 0, 0)) (by decide +kernel) (by decide) (fun y869 hy869 => ?_)
      refine y_same (i := .aload_n 0) (len := 1) (r := (0, 0, 0, 0)) (pc' := 88) (ls' := [some (.inl (some 52)), some (zi y866), some (zi xs), some (zi xk), some (zi y867)]) (st' := [.inl (some 52), zi y869, zi y866]) (by decide +kernel) (fun k q => by cases q) rfl ?_
      refine y_get (j := 20) (len := 3) (r := (12, 9, 2, 1337)) (by decide +kernel) hg (t52 hg) at52 rfl rfl (g_r52 (f := 9) (T2 := 55) hg rfl (by decide)).1 ?_
      refine y_same (i := .iload_n 2) (len := 1) (r := (0, 0, 0, 0)) (pc' := 92) (ls' := [some (.inl (some 52)), some (zi y866), some (zi xs), some (zi xk), some (zi y867)]) (st' := [zi xs, .inl (some 55), zi y869, zi y866]) (by decide +kernel) (fun k q => by cases q) rfl ?_
      refine y_same (i := .iload_n 3) (len := 1) (r := (0, 0, 0, 0)) (pc' := 93) (ls' := [some (.inl (some 52)), some (zi y866), some (zi xs), some (zi xk), some (zi y867)]) (st' := [zi xk, zi xs, .inl (some 55), zi y869, zi y866]) (by decide +kernel) (fun k q => by cases q) rfl ?_
      refine y_cI (i := .invokestatic 158) (len := 3) (r := (1, 169, 12, 1563)) (nL := 2) (k := 1) (n := 2) (hs := []) (args := [zi xs, zi xk]) (rest := [.inl (some 55), zi y869, zi y866]) (l0 := [some (zi xs), some (zi xk)]) (by decide +kernel) (Or.inl ⟨_, rfl⟩) rfl rfl rfl rfl (Nat.le_of_ble_eq_true rfl) rfl rfl (e_claimAt (s := s) (k := k) (by omega) (by omega) (by omega) (by omega)) (fun y870 qy870 hRy870 => ?_)
      obtain ⟨rfl, hy870⟩ := hRy870
      refine y_same (i := .iload 4) (len := 2) (r := (0, 0, 0, 0)) (pc' := 98) (ls' := [some (.inl (some 52)), some (zi y866), some (zi xs), some (zi xk), some (zi y867)]) (st' := [zi y867, zi y870, .inl (some 55), zi y869, zi y866]) (by decide +kernel) (fun k q => by cases q) rfl ?_
      refine y_add (len := 1) (r := (0, 0, 0, 0)) (by decide +kernel) (by omega) (by omega) (fun y871 hy871 => ?_)
      obtain ⟨v872, hv873, lv872, uv872⟩ := g55 (i := ((46 * s + 22 + 4 * k) + 2)) hg (by omega) (by omega) (by omega)
      refine y_ial (i := ((46 * s + 22 + 4 * k) + 2)) (len := 1) (r := (0, 0, 0, 0)) (by decide +kernel) hg (tu55 hg) at55 (by omega) hv873 ?_
      refine y_bp (i := .ishl) (f := fun x y => x <<< (y &&& 31)) (len := 1) (r := (0, 0, 0, 0)) (by decide +kernel) rfl rfl (fun y874 hy874 => ?_)
      have hy874 : y874 = y869 <<< (v872 &&& 31) := hy874
      refine y_bp (i := .ior) (f := fun x y => x ||| y) (len := 1) (r := (0, 0, 0, 0)) (by decide +kernel) rfl rfl (fun y875 hy875 => ?_)
      have hy875 : y875 = y866 ||| y874 := hy875
      refine y_same (i := .istore_n 1) (len := 1) (r := (0, 0, 0, 0)) (pc' := 103) (ls' := [some (.inl (some 52)), some (zi y875), some (zi xs), some (zi xk), some (zi y867)]) (st' := []) (by decide +kernel) (fun k q => by cases q) rfl ?_
      refine y_inc (j := 4) (a := y867) (c := 1) (ls' := fun v => [some (.inl (some 52)), some (zi y875), some (zi xs), some (zi xk), some v]) (len := 3) (r := (0, 0, 0, 0)) (by decide +kernel) rfl (fun _ => rfl) (by decide) (by omega) (by omega) (fun y876 hy876 => ?_)
      show qX 8 192 106 [some (.inl (some 52)), some (zi y875), some (zi xs), some (zi xk), some (zi y876)] [] h t _
      refine y_goto (off := (-27)) (pc' := 79) (len := 3) (r := (0, 0, 0, 0)) (by decide +kernel) (by decide +kernel) ?_
      refine y_same (i := .iload 4) (len := 2) (r := (0, 0, 0, 0)) (pc' := 81) (ls' := [some (.inl (some 52)), some (zi y875), some (zi xs), some (zi xk), some (zi y876)]) (st' := [zi y876]) (by decide +kernel) (fun k q => by cases q) rfl ?_
      refine y_ic (c := 3) (len := 1) (r := (0, 0, 0, 0)) (by decide +kernel) (by decide) (fun y877 hy877 => ?_)
      refine y_cT (c := .ge) (off := 27) (pc' := 109) (len := 3) (r := (0, 0, 0, 0)) (by decide +kernel) (acmpT (c := .ge) (by show _ ≤ _; omega)) (by decide +kernel) ?_
      refine y_inc (j := 3) (a := xk) (c := 1) (ls' := fun v => [some (.inl (some 52)), some (zi y875), some (zi xs), some v, some (zi y876)]) (len := 3) (r := (0, 0, 0, 0)) (by decide +kernel) rfl (fun _ => rfl) (by decide) (by omega) (by omega) (fun y878 hy878 => ?_)
      show qX 8 192 112 [some (.inl (some 52)), some (zi y875), some (zi xs), some (zi y878), some (zi y876)] [] h t _
      refine y_goto (off := (-48)) (pc' := 64) (len := 3) (r := (0, 0, 0, 0)) (by decide +kernel) (by decide +kernel) ?_
      refine ih (k + 1) y875 y878 _ (by omega) (by omega) (by omega) (fun xa' xk' l4' mn => kk xa' xk' l4' (fun l hl => mn l ?_))
      rw [hy875, hy866]
      exact bp_or (bp_or hl)
    ·
      refine y_same (i := .iload_n 3) (len := 1) (r := (0, 0, 0, 0)) (pc' := 65) (ls' := [some (.inl (some 52)), some (zi xa), some (zi xs), some (zi xk), l4]) (st' := [zi xk]) (by decide +kernel) (fun k q => by cases q) rfl ?_
      refine y_same (i := .aload_n 0) (len := 1) (r := (0, 0, 0, 0)) (pc' := 66) (ls' := [some (.inl (some 52)), some (zi xa), some (zi xs), some (zi xk), l4]) (st' := [.inl (some 52), zi xk]) (by decide +kernel) (fun k q => by cases q) rfl ?_
      refine y_get (j := 20) (len := 3) (r := (12, 9, 2, 1337)) (by decide +kernel) hg (t52 hg) at52 rfl rfl (g_r52 (f := 9) (T2 := 55) hg rfl (by decide)).1 ?_
      refine y_same (i := .iload_n 2) (len := 1) (r := (0, 0, 0, 0)) (pc' := 70) (ls' := [some (.inl (some 52)), some (zi xa), some (zi xs), some (zi xk), l4]) (st' := [zi xs, .inl (some 55), zi xk]) (by decide +kernel) (fun k q => by cases q) rfl ?_
      refine y_cI (i := .invokestatic 155) (len := 3) (r := (1, 167, 12, 1560)) (nL := 2) (k := 1) (n := 2) (hs := []) (args := [.inl (some 55), zi xs]) (rest := [zi xk]) (l0 := [some (.inl (some 55)), some (zi xs)]) (by decide +kernel) (Or.inl ⟨_, rfl⟩) rfl rfl rfl rfl (Nat.le_of_ble_eq_true rfl) rfl rfl (e_claims (s := s) hg (by omega) (by omega) hy) (fun y879 qy879 hRy879 => ?_)
      obtain ⟨rfl, rfl⟩ := hRy879
      refine y_cT (c := .ge) (off := 42) (pc' := 115) (len := 3) (r := (0, 0, 0, 0)) (by decide +kernel) (acmpT (c := .ge) (by show _ ≤ _; omega)) (by decide +kernel) ?_
      exact kk xa xk l4 (fun l hl => hl)
theorem e_variables {t : Nat} {τ : List Nat} {h : zh} {ya yb : Int32} (hg : hG τ h) (ha : hsl h 55 (46 * 0 + 0) = some (zi ya)) (hb : hsl h 55 (46 * 1 + 0) = some (zi yb)) : qI 9 192 [some (.inl (some 52)), none, none, none, none] h t (fun z h1 => h = h1 ∧ (∀ l, bp z l → True) ∧ ∀ (s k w : Nat) (l : Int32), ((s = 0 ∧ (k : Int) < ya.toInt) ∨ (s = 1 ∧ (k : Int) < yb.toInt)) → 1 ≤ w → w ≤ 3 → hsl h 55 (46 * s + 2 + 4 * k + w) = some (zi l) → l.toInt = 0 ∨ bp z l.toInt.toNat) := by
  obtain ⟨ya', ha', la, ua⟩ := g55 (i := 46 * 0 + 0) hg (by decide) (by decide) (by decide)
  rw [ha] at ha'
  cases ha'
  obtain ⟨yb', hb', lb, ub⟩ := g55 (i := 46 * 1 + 0) hg (by decide) (by decide) (by decide)
  rw [hb] at hb'
  cases hb'
  obtain ⟨yc, hc, lc, uc⟩ := g55c (i := 46 * 0 + 1) hg (by decide)
  obtain ⟨yd, hd, ld, ud⟩ := g55c (i := 46 * 1 + 1) hg (by decide)
  refine qI_of ?_
  refine y_ic (c := 0) (len := 1) (r := (0, 0, 0, 0)) (by decide +kernel) (by decide) (fun y880 hy880 => ?_)
  refine y_same (i := .istore_n 1) (len := 1) (r := (0, 0, 0, 0)) (pc' := 2) (ls' := [some (.inl (some 52)), some (zi y880), none, none, none]) (st' := []) (by decide +kernel) (fun k q => by cases q) rfl ?_
  refine y_ic (c := 0) (len := 1) (r := (0, 0, 0, 0)) (by decide +kernel) (by decide) (fun y881 hy881 => ?_)
  refine y_same (i := .istore_n 2) (len := 1) (r := (0, 0, 0, 0)) (pc' := 4) (ls' := [some (.inl (some 52)), some (zi y880), some (zi y881), none, none]) (st' := []) (by decide +kernel) (fun k q => by cases q) rfl ?_
  refine y_same (i := .iload_n 2) (len := 1) (r := (0, 0, 0, 0)) (pc' := 5) (ls' := [some (.inl (some 52)), some (zi y880), some (zi y881), none, none]) (st' := [zi y881]) (by decide +kernel) (fun k q => by cases q) rfl ?_
  refine y_ic (c := 2) (len := 1) (r := (0, 0, 0, 0)) (by decide +kernel) (by decide) (fun y882 hy882 => ?_)
  refine y_cF (c := .ge) (off := 115) (len := 3) (r := (0, 0, 0, 0)) (by decide +kernel) (acmpF (c := .ge) (by show _ < _; omega)) ?_
  refine y_ic (c := 0) (len := 1) (r := (0, 0, 0, 0)) (by decide +kernel) (by decide) (fun y883 hy883 => ?_)
  refine y_same (i := .istore_n 3) (len := 1) (r := (0, 0, 0, 0)) (pc' := 11) (ls' := [some (.inl (some 52)), some (zi y880), some (zi y881), some (zi y883), none]) (st' := []) (by decide +kernel) (fun k q => by cases q) rfl ?_
  refine va_p (s := 0) (m := ya.toInt.toNat) hg (by omega) (by omega) ha (by omega) (by omega) 5 0 y880 y883 none (fun k' hk => by omega) (by omega) (by omega) (by omega) (fun a1 k1 l1 m1 v1 => ?_)
  refine y_ic (c := 0) (len := 1) (r := (0, 0, 0, 0)) (by decide +kernel) (by decide) (fun y884 hy884 => ?_)
  refine y_same (i := .istore_n 3) (len := 1) (r := (0, 0, 0, 0)) (pc' := 64) (ls' := [some (.inl (some 52)), some (zi a1), some (zi y881), some (zi y884), l1]) (st' := []) (by decide +kernel) (fun k q => by cases q) rfl ?_
  refine va_c (s := 0) (m := yc.toInt.toNat) hg (by omega) (by omega) hc (by omega) (by omega) 6 0 a1 y884 l1 (by omega) (by omega) (by omega) (fun a2 k2 l2 m2 => ?_)
  refine y_inc (j := 2) (a := y881) (c := 1) (ls' := fun v => [some (.inl (some 52)), some (zi a2), some v, some (zi k2), l2]) (len := 3) (r := (0, 0, 0, 0)) (by decide +kernel) rfl (fun _ => rfl) (by decide) (by omega) (by omega) (fun y885 hy885 => ?_)
  show qX 8 192 118 [some (.inl (some 52)), some (zi a2), some (zi y885), some (zi k2), l2] [] h t _
  refine y_goto (off := (-114)) (pc' := 4) (len := 3) (r := (0, 0, 0, 0)) (by decide +kernel) (by decide +kernel) ?_
  refine y_same (i := .iload_n 2) (len := 1) (r := (0, 0, 0, 0)) (pc' := 5) (ls' := [some (.inl (some 52)), some (zi a2), some (zi y885), some (zi k2), l2]) (st' := [zi y885]) (by decide +kernel) (fun k q => by cases q) rfl ?_
  refine y_ic (c := 2) (len := 1) (r := (0, 0, 0, 0)) (by decide +kernel) (by decide) (fun y886 hy886 => ?_)
  refine y_cF (c := .ge) (off := 115) (len := 3) (r := (0, 0, 0, 0)) (by decide +kernel) (acmpF (c := .ge) (by show _ < _; omega)) ?_
  refine y_ic (c := 0) (len := 1) (r := (0, 0, 0, 0)) (by decide +kernel) (by decide) (fun y887 hy887 => ?_)
  refine y_same (i := .istore_n 3) (len := 1) (r := (0, 0, 0, 0)) (pc' := 11) (ls' := [some (.inl (some 52)), some (zi a2), some (zi y885), some (zi y887), l2]) (st' := []) (by decide +kernel) (fun k q => by cases q) rfl ?_
  refine va_p (s := 1) (m := yb.toInt.toNat) hg (by omega) (by omega) hb (by omega) (by omega) 5 0 a2 y887 l2 (fun k' hk => by omega) (by omega) (by omega) (by omega) (fun a3 k4 l3 m3 v3 => ?_)
  refine y_ic (c := 0) (len := 1) (r := (0, 0, 0, 0)) (by decide +kernel) (by decide) (fun y888 hy888 => ?_)
  refine y_same (i := .istore_n 3) (len := 1) (r := (0, 0, 0, 0)) (pc' := 64) (ls' := [some (.inl (some 52)), some (zi a3), some (zi y885), some (zi y888), l3]) (st' := []) (by decide +kernel) (fun k q => by cases q) rfl ?_
  refine va_c (s := 1) (m := yd.toInt.toNat) hg (by omega) (by omega) hd (by omega) (by omega) 6 0 a3 y888 l3 (by omega) (by omega) (by omega) (fun a4 k5 l4 m4 => ?_)
  refine y_inc (j := 2) (a := y885) (c := 1) (ls' := fun v => [some (.inl (some 52)), some (zi a4), some v, some (zi k5), l4]) (len := 3) (r := (0, 0, 0, 0)) (by decide +kernel) rfl (fun _ => rfl) (by decide) (by omega) (by omega) (fun y889 hy889 => ?_)
  show qX 8 192 118 [some (.inl (some 52)), some (zi a4), some (zi y889), some (zi k5), l4] [] h t _
  refine y_goto (off := (-114)) (pc' := 4) (len := 3) (r := (0, 0, 0, 0)) (by decide +kernel) (by decide +kernel) ?_
  refine y_same (i := .iload_n 2) (len := 1) (r := (0, 0, 0, 0)) (pc' := 5) (ls' := [some (.inl (some 52)), some (zi a4), some (zi y889), some (zi k5), l4]) (st' := [zi y889]) (by decide +kernel) (fun k q => by cases q) rfl ?_
  refine y_ic (c := 2) (len := 1) (r := (0, 0, 0, 0)) (by decide +kernel) (by decide) (fun y890 hy890 => ?_)
  refine y_cT (c := .ge) (off := 115) (pc' := 121) (len := 3) (r := (0, 0, 0, 0)) (by decide +kernel) (acmpT (c := .ge) (by show _ ≤ _; omega)) (by decide +kernel) ?_
  refine y_same (i := .iload_n 1) (len := 1) (r := (0, 0, 0, 0)) (pc' := 122) (ls' := [some (.inl (some 52)), some (zi a4), some (zi y889), some (zi k5), l4]) (st' := [zi a4]) (by decide +kernel) (fun k q => by cases q) rfl ?_
  refine y_bi (c := (-2)) (len := 2) (r := (0, 0, 0, 0)) (by decide +kernel) (by decide) (fun y891 hy891 => ?_)
  refine y_bp (i := .iand) (f := fun x y => x &&& y) (len := 1) (r := (0, 0, 0, 0)) (by decide +kernel) rfl rfl (fun y892 hy892 => ?_)
  have hy892 : y892 = a4 &&& y891 := hy892
  refine y_rI (len := 1) (r := (0, 0, 0, 0)) (nL := 5) (k := 1) (n9 := 1) (hs := []) (by decide +kernel) rfl rfl ?_
  refine ⟨rfl, fun _ _ => trivial, fun s k w l hsk w1 w3 hl => ?_⟩
  rcases Decidable.em (l.toInt = 0) with q0 | q0
  · exact Or.inl q0
  · right
    have bb : 0 ≤ l.toInt ∧ l.toInt ≤ 5 := by
      obtain ⟨x, e9, q1, q2⟩ := g55 (i := 46 * s + 2 + 4 * k + w) hg (by omega) (by omega) (by omega)
      rw [hl] at e9
      cases e9
      exact ⟨q1, q2⟩
    rw [hy892, ofI (w := -2) hy891 rfl]
    refine bp_m2 ?_ (by omega) (by omega)
    rcases hsk with ⟨rfl, hk⟩ | ⟨rfl, hk⟩
    · exact m4 _ (m3 _ (m2 _ (v1 k (by omega) w w1 w3 l hl)))
    · exact m4 _ (v3 k (by omega) w w1 w3 l hl)
/-- letters that are told already -/
def tfI (h : zh) (a : Int32) (v : Nat) : Prop := ∀ l, l < v → (l = 0 ∨ bp a l) → ∀ x : Int32, hsl h 381 l = some (zi x) → 0 ≤ x.toInt
/-- the letters of the parts are among those -/
def hsI (h : zh) (a ya yb : Int32) : Prop := hsl h 55 (46 * 0 + 0) = some (zi ya) ∧ hsl h 55 (46 * 1 + 0) = some (zi yb) ∧ ∀ (s k w : Nat) (l : Int32), ((s = 0 ∧ (k : Int) < ya.toInt) ∨ (s = 1 ∧ (k : Int) < yb.toInt)) → 1 ≤ w → w ≤ 3 → hsl h 55 (46 * s + 2 + 4 * k + w) = some (zi l) → l.toInt = 0 ∨ bp a l.toInt.toNat
theorem hsI_up {h h1 : zh} {a ya yb : Int32} (w : hsI h a ya yb) (e : ∀ j, hsl h1 55 j = hsl h 55 j) : hsI h1 a ya yb := ⟨(e _).trans w.1, (e _).trans w.2.1, fun s k w9 l h1 h2 h3 h4 => w.2.2 s k w9 l h1 h2 h3 ((e _).symm.trans h4)⟩
theorem wOK_of {τ : List Nat} {h : zh} {a ya yb : Int32} (hg : hG τ h) (t : tfI h a 6) (w : hsI h a ya yb) : wOK h ya yb := by
  have ca := g55 (i := 46 * 0 + 0) hg (by decide) (by decide) (by decide)
  have cb := g55 (i := 46 * 1 + 0) hg (by decide) (by decide) (by decide)
  obtain ⟨x, e1, la, ua⟩ := ca
  obtain ⟨y, e2, lb, ub⟩ := cb
  rw [w.1] at e1
  rw [w.2.1] at e2
  cases e1
  cases e2
  have key : ∀ (s k w9 : Nat) (l v : Int32), ((s = 0 ∧ (k : Int) < ya.toInt) ∨ (s = 1 ∧ (k : Int) < yb.toInt)) → 1 ≤ w9 → w9 ≤ 3 → hsl h 55 (46 * s + 2 + 4 * k + w9) = some (zi l) → hsl h 381 l.toInt.toNat = some (zi v) → 0 ≤ v.toInt := by
    intro s k w9 l v hs w1 w3 hl hv
    obtain ⟨x, e9, q1, q2⟩ := g55 (i := 46 * s + 2 + 4 * k + w9) hg (by omega) (by omega) (by omega)
    rw [hl] at e9
    cases e9
    refine t l.toInt.toNat (by omega) ?_ v hv
    rcases w.2.2 s k w9 l hs w1 w3 hl with q | q
    · exact Or.inl (by omega)
    · exact Or.inr q
  exact ⟨fun k hk w9 w1 w3 l v hl hv => key 0 k w9 l v (Or.inl ⟨rfl, by omega⟩) w1 w3 hl hv, fun k hk w9 w1 w3 l v hl hv => key 1 k w9 l v (Or.inr ⟨rfl, by omega⟩) w1 w3 hl hv, w.1, w.2.1⟩
def tfR (τ : List Nat) (h : zh) (v : Nat) (h1 : zh) : Prop := ∃ τ1, oF (fun k j => (k < 381 ∨ 387 < k ∨ (k = 381 ∧ j < v)) ∧ (k ≠ 52 ∨ j < 39 ∨ 45 < j)) τ h τ1 h1
theorem tf_l {D : Nat} {τ0 : List Nat} {h0 : zh} {t v w : Nat} {a ya yb xv xw : Int32} (hg0 : hG τ0 h0) (ht0 : tfI h0 a v) (hh0 : hsI h0 a ya yb) (hD : 1 ≤ D) (hxv : xv.toInt = (v : Int)) (hv1 : 1 ≤ v) (hv5 : v ≤ 5) (hxw : xw.toInt = (w : Int)) (hw : w + 1 ≤ v) (ihr : ∀ (τ : List Nat) (h : zh), hG τ h → tfI h a (v + 1) → hsI h a ya yb → ∀ (x xu : Int32), x.toInt = (v : Int) + 1 → hsl h 52 40 = some (zi xu) → 0 ≤ xu.toInt → xu.toInt ≤ (v : Int) → qV D 258 [some (.inl (some 52)), some (zi x), some (zi a), none, none] h t (tfR τ h (v + 1))) : ∀ (m : Nat) (τ : List Nat) (h : zh), oF (fun k j => (k < 381 ∨ 387 < k ∨ (k = 381 ∧ j < v)) ∧ (k ≠ 52 ∨ j < 39 ∨ 45 < j)) τ0 h0 τ h → ∀ (p : Nat) (xp : Int32), xp.toInt = (p : Int) → p ≤ w + 2 → w + 2 ≤ p + m → qX D 258 43 [some (.inl (some 52)), some (zi xv), some (zi a), some (zi xw), some (zi xp)] [] h t (rV (tfR τ0 h0 v) t) := by
  obtain ⟨D, rfl⟩ : ∃ E, D = E + 1 := ⟨D - 1, by omega⟩
  intro m
  induction m with
  | zero =>
    intro τ h O0 p xp hxp hp hm
    have hg := O0.2.1
    refine y_same (i := .iload 4) (len := 2) (r := (0, 0, 0, 0)) (pc' := 45) (ls' := [some (.inl (some 52)), some (zi xv), some (zi a), some (zi xw), some (zi xp)]) (st' := [zi xp]) (by decide +kernel) (fun k q => by cases q) rfl ?_
    refine y_same (i := .iload_n 3) (len := 1) (r := (0, 0, 0, 0)) (pc' := 46) (ls' := [some (.inl (some 52)), some (zi xv), some (zi a), some (zi xw), some (zi xp)]) (st' := [zi xw, zi xp]) (by decide +kernel) (fun k q => by cases q) rfl ?_
    refine y_ic (c := 1) (len := 1) (r := (0, 0, 0, 0)) (by decide +kernel) (by decide) (fun y893 hy893 => ?_)
    refine y_add (len := 1) (r := (0, 0, 0, 0)) (by decide +kernel) (by omega) (by omega) (fun y894 hy894 => ?_)
    refine y_cT (c := .gt) (off := 35) (pc' := 83) (len := 3) (r := (0, 0, 0, 0)) (by decide +kernel) (acmpT (c := .gt) (by show _ < _; omega)) (by decide +kernel) ?_
    refine y_same (i := .aload_n 0) (len := 1) (r := (0, 0, 0, 0)) (pc' := 84) (ls' := [some (.inl (some 52)), some (zi xv), some (zi a), some (zi xw), some (zi xp)]) (st' := [.inl (some 52)]) (by decide +kernel) (fun k q => by cases q) rfl ?_
    refine y_same (i := .iload_n 3) (len := 1) (r := (0, 0, 0, 0)) (pc' := 85) (ls' := [some (.inl (some 52)), some (zi xv), some (zi a), some (zi xw), some (zi xp)]) (st' := [zi xw, .inl (some 52)]) (by decide +kernel) (fun k q => by cases q) rfl ?_
    refine y_put (j := 420) (lo := 0) (hi := 5) (len := 3) (r := (12, 40, 0, 1368)) (by decide +kernel) hg (t52 hg) at52 rfl rfl (by decide) rfl (by omega) (by omega) rfl (fun h895 hg895 hl895 hs895 ho895 => ?_)
    have ho895 : hO 52 40 h h895 := ho895
    have hs895 : hsl h895 52 40 = some (zi xw) := hs895
    refine y_rV (len := 1) (r := (0, 0, 0, 0)) (nL := 5) (n9 := 3) (hs := []) (by decide +kernel) rfl ?_
    exact ⟨_, ⟨aup_trans O0.1 (aup_refl _), hg895, fun k T j hk (hC : (k < 381 ∨ 387 < k ∨ (k = 381 ∧ j < v)) ∧ (k ≠ 52 ∨ j < 39 ∨ 45 < j)) => ((ho895 k j (by omega))).trans (O0.2.2 k T j hk hC)⟩⟩
  | succ m ih =>
    intro τ h O0 p xp hxp hp hm
    have hg := O0.2.1
    refine y_same (i := .iload 4) (len := 2) (r := (0, 0, 0, 0)) (pc' := 45) (ls' := [some (.inl (some 52)), some (zi xv), some (zi a), some (zi xw), some (zi xp)]) (st' := [zi xp]) (by decide +kernel) (fun k q => by cases q) rfl ?_
    refine y_same (i := .iload_n 3) (len := 1) (r := (0, 0, 0, 0)) (pc' := 46) (ls' := [some (.inl (some 52)), some (zi xv), some (zi a), some (zi xw), some (zi xp)]) (st' := [zi xw, zi xp]) (by decide +kernel) (fun k q => by cases q) rfl ?_
    refine y_ic (c := 1) (len := 1) (r := (0, 0, 0, 0)) (by decide +kernel) (by decide) (fun y896 hy896 => ?_)
    refine y_add (len := 1) (r := (0, 0, 0, 0)) (by decide +kernel) (by omega) (by omega) (fun y897 hy897 => ?_)
    rcases Decidable.em (xp.toInt > y897.toInt) with q898 | q898
    ·
      refine y_cT (c := .gt) (off := 35) (pc' := 83) (len := 3) (r := (0, 0, 0, 0)) (by decide +kernel) (acmpT (c := .gt) (by show _ < _; omega)) (by decide +kernel) ?_
      refine y_same (i := .aload_n 0) (len := 1) (r := (0, 0, 0, 0)) (pc' := 84) (ls' := [some (.inl (some 52)), some (zi xv), some (zi a), some (zi xw), some (zi xp)]) (st' := [.inl (some 52)]) (by decide +kernel) (fun k q => by cases q) rfl ?_
      refine y_same (i := .iload_n 3) (len := 1) (r := (0, 0, 0, 0)) (pc' := 85) (ls' := [some (.inl (some 52)), some (zi xv), some (zi a), some (zi xw), some (zi xp)]) (st' := [zi xw, .inl (some 52)]) (by decide +kernel) (fun k q => by cases q) rfl ?_
      refine y_put (j := 420) (lo := 0) (hi := 5) (len := 3) (r := (12, 40, 0, 1368)) (by decide +kernel) hg (t52 hg) at52 rfl rfl (by decide) rfl (by omega) (by omega) rfl (fun h899 hg899 hl899 hs899 ho899 => ?_)
      have ho899 : hO 52 40 h h899 := ho899
      have hs899 : hsl h899 52 40 = some (zi xw) := hs899
      refine y_rV (len := 1) (r := (0, 0, 0, 0)) (nL := 5) (n9 := 3) (hs := []) (by decide +kernel) rfl ?_
      exact ⟨_, ⟨aup_trans O0.1 (aup_refl _), hg899, fun k T j hk (hC : (k < 381 ∨ 387 < k ∨ (k = 381 ∧ j < v)) ∧ (k ≠ 52 ∨ j < 39 ∨ 45 < j)) => ((ho899 k j (by omega))).trans (O0.2.2 k T j hk hC)⟩⟩
    ·
      refine y_cF (c := .gt) (off := 35) (len := 3) (r := (0, 0, 0, 0)) (by decide +kernel) (acmpF (c := .gt) (by show _ ≤ _; omega)) ?_
      refine y_same (i := .aload_n 0) (len := 1) (r := (0, 0, 0, 0)) (pc' := 52) (ls' := [some (.inl (some 52)), some (zi xv), some (zi a), some (zi xw), some (zi xp)]) (st' := [.inl (some 52)]) (by decide +kernel) (fun k q => by cases q) rfl ?_
      refine y_get (j := 70) (len := 3) (r := (12, 33, 2, 1361)) (by decide +kernel) hg (t52 hg) at52 rfl rfl (g_r52 (f := 33) (T2 := 381) hg rfl (by decide)).1 ?_
      refine y_same (i := .iload_n 1) (len := 1) (r := (0, 0, 0, 0)) (pc' := 56) (ls' := [some (.inl (some 52)), some (zi xv), some (zi a), some (zi xw), some (zi xp)]) (st' := [zi xv, .inl (some 381)]) (by decide +kernel) (fun k q => by cases q) rfl ?_
      refine y_same (i := .iload 4) (len := 2) (r := (0, 0, 0, 0)) (pc' := 58) (ls' := [some (.inl (some 52)), some (zi xv), some (zi a), some (zi xw), some (zi xp)]) (st' := [zi xp, zi xv, .inl (some 381)]) (by decide +kernel) (fun k q => by cases q) rfl ?_
      refine y_ias (i := v) (len := 1) (r := (0, 0, 0, 0)) (by decide +kernel) hg (tu381 hg) at381 rfl (by omega) (by omega) (sr1 (by omega)) (by omega) (by omega) (fun h900 hg900 hl900 hs900 ho900 => ?_)
      refine y_same (i := .aload_n 0) (len := 1) (r := (0, 0, 0, 0)) (pc' := 60) (ls' := [some (.inl (some 52)), some (zi xv), some (zi a), some (zi xw), some (zi xp)]) (st' := [.inl (some 52)]) (by decide +kernel) (fun k q => by cases q) rfl ?_
      refine y_same (i := .iload_n 3) (len := 1) (r := (0, 0, 0, 0)) (pc' := 61) (ls' := [some (.inl (some 52)), some (zi xv), some (zi a), some (zi xw), some (zi xp)]) (st' := [zi xw, .inl (some 52)]) (by decide +kernel) (fun k q => by cases q) rfl ?_
      refine y_same (i := .iload 4) (len := 2) (r := (0, 0, 0, 0)) (pc' := 63) (ls' := [some (.inl (some 52)), some (zi xv), some (zi a), some (zi xw), some (zi xp)]) (st' := [zi xp, zi xw, .inl (some 52)]) (by decide +kernel) (fun k q => by cases q) rfl ?_
      refine y_cI (i := .invokestatic 230) (len := 3) (r := (1, 164, 12, 1591)) (nL := 2) (k := 1) (n := 2) (hs := []) (args := [zi xw, zi xp]) (rest := [.inl (some 52)]) (l0 := [some (zi xw), some (zi xp)]) (by decide +kernel) (Or.inl ⟨_, rfl⟩) rfl rfl rfl rfl (Nat.le_of_ble_eq_true rfl) rfl rfl (e_more) (fun y901 qy901 hRy901 => ?_)
      obtain ⟨rfl, hy901⟩ := hRy901
      refine y_put (j := 420) (lo := 0) (hi := 5) (len := 3) (r := (12, 40, 0, 1368)) (by decide +kernel) hg900 (t52 hg900) at52 rfl rfl (by decide) rfl (by omega) (by omega) rfl (fun h902 hg902 hl902 hs902 ho902 => ?_)
      have ho902 : hO 52 40 h900 h902 := ho902
      have hs902 : hsl h902 52 40 = some (zi y901) := hs902
      refine y_same (i := .aload_n 0) (len := 1) (r := (0, 0, 0, 0)) (pc' := 70) (ls' := [some (.inl (some 52)), some (zi xv), some (zi a), some (zi xw), some (zi xp)]) (st' := [.inl (some 52)]) (by decide +kernel) (fun k q => by cases q) rfl ?_
      refine y_same (i := .iload_n 1) (len := 1) (r := (0, 0, 0, 0)) (pc' := 71) (ls' := [some (.inl (some 52)), some (zi xv), some (zi a), some (zi xw), some (zi xp)]) (st' := [zi xv, .inl (some 52)]) (by decide +kernel) (fun k q => by cases q) rfl ?_
      refine y_ic (c := 1) (len := 1) (r := (0, 0, 0, 0)) (by decide +kernel) (by decide) (fun y903 hy903 => ?_)
      refine y_add (len := 1) (r := (0, 0, 0, 0)) (by decide +kernel) (by omega) (by omega) (fun y904 hy904 => ?_)
      refine y_same (i := .iload_n 2) (len := 1) (r := (0, 0, 0, 0)) (pc' := 74) (ls' := [some (.inl (some 52)), some (zi xv), some (zi a), some (zi xw), some (zi xp)]) (st' := [zi a, zi y904, .inl (some 52)]) (by decide +kernel) (fun k q => by cases q) rfl ?_
      have F905 : oF (fun k j => (k < 381 ∨ 387 < k ∨ (k = 381 ∧ j < v)) ∧ (k ≠ 52 ∨ j < 39 ∨ 45 < j)) τ0 h0 τ h902 := ⟨aup_trans O0.1 (aup_refl _), hg902, fun k T j hk (hC : (k < 381 ∨ 387 < k ∨ (k = 381 ∧ j < v)) ∧ (k ≠ 52 ∨ j < 39 ∨ 45 < j)) => (((ho902 k j (by omega)).trans (ho900 k j (by omega)))).trans (O0.2.2 k T j hk hC)⟩
      have hh905 := hsI_up hh0 (fun j => F905.2.2 55 55 j (tu55 hg0) (show (55 < 381 ∨ 387 < 55 ∨ (55 = 381 ∧ j < v)) ∧ (55 ≠ 52 ∨ j < 39 ∨ 45 < j) by omega))
      have hv906 := (ho902 381 v (Or.inl (by omega))).trans hs900
      have ht905 : tfI h902 a (v + 1) := fun l hl hb x hx => by
        rcases (show l < v ∨ l = v by omega) with q | q
        · exact ht0 l q hb x ((F905.2.2 381 381 l (tu381 hg0) (show (381 < 381 ∨ 387 < 381 ∨ (381 = 381 ∧ l < v)) ∧ (381 ≠ 52 ∨ l < 39 ∨ 45 < l) by omega)).symm.trans hx)
        · subst q
          rw [hv906] at hx
          cases hx
          omega
      refine y_cV (i := .invokevirtual 468) (len := 3) (r := (0, 258, 12, 1802)) (nL := 5) (k := 0) (n := 3) (hs := []) (args := [.inl (some 52), zi y904, zi a]) (rest := []) (l0 := [some (.inl (some 52)), some (zi y904), some (zi a), none, none]) (by decide +kernel) (Or.inr (Or.inl ⟨_, rfl⟩)) rfl rfl rfl rfl (Nat.le_of_ble_eq_true rfl) (z52 hg902) rfl (ihr τ h902 hg902 ht905 hh905 y904 y901 (by omega) hs902 (by omega) (by omega)) (fun h905 hR905 => ?_)
      obtain ⟨τ905, O905⟩ := hR905
      refine y_inc (j := 4) (a := xp) (c := 1) (ls' := fun v => [some (.inl (some 52)), some (zi xv), some (zi a), some (zi xw), some v]) (len := 3) (r := (0, 0, 0, 0)) (by decide +kernel) rfl (fun _ => rfl) (by decide) (by omega) (by omega) (fun y907 hy907 => ?_)
      show qX (D + 1) 258 80 [some (.inl (some 52)), some (zi xv), some (zi a), some (zi xw), some (zi y907)] [] h905 t _
      refine y_goto (off := (-37)) (pc' := 43) (len := 3) (r := (0, 0, 0, 0)) (by decide +kernel) (by decide +kernel) ?_
      exact ih τ905 h905 ⟨aup_trans O0.1 O905.1, O905.2.1, fun k T j hk (hC : (k < 381 ∨ 387 < k ∨ (k = 381 ∧ j < v)) ∧ (k ≠ 52 ∨ j < 39 ∨ 45 < j)) => (((O905.2.2 k T j (O0.1 _ _ hk) (show (k < 381 ∨ 387 < k ∨ (k = 381 ∧ j < v + 1)) ∧ (k ≠ 52 ∨ j < 39 ∨ 45 < j) by omega)).trans ((ho902 k j (by omega)).trans (ho900 k j (by omega))))).trans (O0.2.2 k T j hk hC)⟩ (p + 1) y907 (by omega) (by omega) (by omega)
theorem e_tellsFrom {t : Nat} {a ya yb : Int32} : ∀ (jj v : Nat), v + jj = 6 → 1 ≤ v → ∀ (τ : List Nat) (h : zh), hG τ h → tfI h a v → hsI h a ya yb → ∀ (xv xu : Int32), xv.toInt = (v : Int) → hsl h 52 40 = some (zi xu) → 0 ≤ xu.toInt → xu.toInt + 1 ≤ (v : Int) → qV (50 + jj) 258 [some (.inl (some 52)), some (zi xv), some (zi a), none, none] h t (tfR τ h v) := by
  intro jj
  induction jj with
  | zero =>
    intro v hvj hv1 τ h hg ht hh xv xu hxv hu hu0 hu1
    have hc := cnt_le hg (wOK_of hg ((show v = 6 by omega) ▸ ht) hh)
    refine qV_of ?_
    generalize hD : 49 = D
    show qX D _ _ _ _ _ _ _
    refine y_same (i := .iload_n 1) (len := 1) (r := (0, 0, 0, 0)) (pc' := 1) (ls' := [some (.inl (some 52)), some (zi xv), some (zi a), none, none]) (st' := [zi xv]) (by decide +kernel) (fun k q => by cases q) rfl ?_
    refine y_ic (c := 5) (len := 1) (r := (0, 0, 0, 0)) (by decide +kernel) (by decide) (fun y908 hy908 => ?_)
    refine y_cF (c := .le) (off := 9) (len := 3) (r := (0, 0, 0, 0)) (by decide +kernel) (acmpF (c := .le) (by show _ < _; omega)) ?_
    refine y_same (i := .aload_n 0) (len := 1) (r := (0, 0, 0, 0)) (pc' := 6) (ls' := [some (.inl (some 52)), some (zi xv), some (zi a), none, none]) (st' := [.inl (some 52)]) (by decide +kernel) (fun k q => by cases q) rfl ?_
    refine y_ic (c := 0) (len := 1) (r := (0, 0, 0, 0)) (by decide +kernel) (by decide) (fun y909 hy909 => ?_)
    refine y_cV (i := .invokevirtual 465) (len := 3) (r := (0, 257, 12, 1806)) (nL := 5) (k := 0) (n := 2) (hs := []) (args := [.inl (some 52), zi y909]) (rest := []) (l0 := [some (.inl (some 52)), some (zi y909), none, none, none]) (by decide +kernel) (Or.inr (Or.inl ⟨_, rfl⟩)) rfl rfl rfl rfl (Nat.le_of_ble_eq_true rfl) (z52 hg) rfl (qV_le (by omega) (e_shapes (ya.toInt.toNat) 0 (by omega) τ h hg (wOK_of hg ((show v = 6 by omega) ▸ ht) hh) y909 (by omega))) (fun h910 hR910 => ?_)
    obtain ⟨τ910, O910⟩ := hR910
    refine y_rV (len := 1) (r := (0, 0, 0, 0)) (nL := 5) (n9 := 3) (hs := []) (by decide +kernel) rfl ?_
    exact ⟨_, ⟨O910.1, O910.2.1, fun k T j hk (hC : (k < 381 ∨ 387 < k ∨ (k = 381 ∧ j < v)) ∧ (k ≠ 52 ∨ j < 39 ∨ 45 < j)) => (O910.2.2 k T j hk (show (k < 382 ∨ 387 < k) ∧ (k ≠ 52 ∨ j < 39 ∨ j = 40 ∨ 45 < j) by omega))⟩⟩
  | succ jj ihj =>
    intro v hvj hv1 τ h hg ht hh xv xu hxv hu hu0 hu1
    obtain ⟨D, hD⟩ : ∃ D, D = 50 + jj := ⟨_, rfl⟩
    rw [show 50 + (jj + 1) = D + 1 by omega]
    have ihr : ∀ (τ : List Nat) (h : zh), hG τ h → tfI h a (v + 1) → hsI h a ya yb → ∀ (x xu : Int32), x.toInt = (v : Int) + 1 → hsl h 52 40 = some (zi xu) → 0 ≤ xu.toInt → xu.toInt ≤ (v : Int) → qV D 258 [some (.inl (some 52)), some (zi x), some (zi a), none, none] h t (tfR τ h (v + 1)) := fun τ h hg ht hh x xu hx hu hu0 hu1 => by
      rw [hD]
      exact ihj (v + 1) (by omega) (by omega) τ h hg ht hh x xu (by omega) hu hu0 (by omega)
    refine qV_of ?_
    refine y_same (i := .iload_n 1) (len := 1) (r := (0, 0, 0, 0)) (pc' := 1) (ls' := [some (.inl (some 52)), some (zi xv), some (zi a), none, none]) (st' := [zi xv]) (by decide +kernel) (fun k q => by cases q) rfl ?_
    refine y_ic (c := 5) (len := 1) (r := (0, 0, 0, 0)) (by decide +kernel) (by decide) (fun y911 hy911 => ?_)
    refine y_cT (c := .le) (off := 9) (pc' := 11) (len := 3) (r := (0, 0, 0, 0)) (by decide +kernel) (acmpT (c := .le) (by show _ ≤ _; omega)) (by decide +kernel) ?_
    refine y_same (i := .iload_n 2) (len := 1) (r := (0, 0, 0, 0)) (pc' := 12) (ls' := [some (.inl (some 52)), some (zi xv), some (zi a), none, none]) (st' := [zi a]) (by decide +kernel) (fun k q => by cases q) rfl ?_
    refine y_same (i := .iload_n 1) (len := 1) (r := (0, 0, 0, 0)) (pc' := 13) (ls' := [some (.inl (some 52)), some (zi xv), some (zi a), none, none]) (st' := [zi xv, zi a]) (by decide +kernel) (fun k q => by cases q) rfl ?_
    refine y_bp (i := .ishr) (f := fun x y => x >>> (y &&& 31)) (len := 1) (r := (0, 0, 0, 0)) (by decide +kernel) rfl rfl (fun y912 hy912 => ?_)
    have hy912 : y912 = a >>> (xv &&& 31) := hy912
    refine y_ic (c := 1) (len := 1) (r := (0, 0, 0, 0)) (by decide +kernel) (by decide) (fun y913 hy913 => ?_)
    refine y_bp (i := .iand) (f := fun x y => x &&& y) (len := 1) (r := (0, 0, 0, 0)) (by decide +kernel) rfl rfl (fun y914 hy914 => ?_)
    have hy914 : y914 = y912 &&& y913 := hy914
    rcases Decidable.em (y914.toInt ≠ 0) with q915 | q915
    ·
      refine y_iT (c := .ne) (off := 19) (pc' := 35) (len := 3) (r := (0, 0, 0, 0)) (by decide +kernel) (acmpT (c := .ne) (by show ¬ (_ = _); omega)) (by decide +kernel) ?_
      refine y_same (i := .aload_n 0) (len := 1) (r := (0, 0, 0, 0)) (pc' := 36) (ls' := [some (.inl (some 52)), some (zi xv), some (zi a), none, none]) (st' := [.inl (some 52)]) (by decide +kernel) (fun k q => by cases q) rfl ?_
      refine y_get (j := 420) (len := 3) (r := (12, 40, 0, 1368)) (by decide +kernel) hg (t52 hg) at52 rfl rfl hu ?_
      refine y_same (i := .istore_n 3) (len := 1) (r := (0, 0, 0, 0)) (pc' := 40) (ls' := [some (.inl (some 52)), some (zi xv), some (zi a), some (zi xu), none]) (st' := []) (by decide +kernel) (fun k q => by cases q) rfl ?_
      refine y_ic (c := 0) (len := 1) (r := (0, 0, 0, 0)) (by decide +kernel) (by decide) (fun y916 hy916 => ?_)
      refine y_same (i := .istore 4) (len := 2) (r := (0, 0, 0, 0)) (pc' := 43) (ls' := [some (.inl (some 52)), some (zi xv), some (zi a), some (zi xu), some (zi y916)]) (st' := []) (by decide +kernel) (fun k q => by cases q) rfl ?_
      exact tf_l (w := xu.toInt.toNat) hg ht hh (by omega) hxv (by omega) (by omega) (by omega) (by omega) ihr 7 τ h (oF_refl hg) 0 y916 (by omega) (by omega) (by omega)
    ·
      refine y_iF (c := .ne) (off := 19) (len := 3) (r := (0, 0, 0, 0)) (by decide +kernel) (acmpF (c := .ne) (by show _ = _; omega)) ?_
      have hnb : ¬ bp a v := fun hb => by
        have e9 := bit_on (by omega) hb
        rw [← nI_is hxv (by omega), ← hy912, ← ofI (w := 1) hy913 rfl, ← hy914] at e9
        omega
      refine y_same (i := .aload_n 0) (len := 1) (r := (0, 0, 0, 0)) (pc' := 20) (ls' := [some (.inl (some 52)), some (zi xv), some (zi a), none, none]) (st' := [.inl (some 52)]) (by decide +kernel) (fun k q => by cases q) rfl ?_
      refine y_get (j := 70) (len := 3) (r := (12, 33, 2, 1361)) (by decide +kernel) hg (t52 hg) at52 rfl rfl (g_r52 (f := 33) (T2 := 381) hg rfl (by decide)).1 ?_
      refine y_same (i := .iload_n 1) (len := 1) (r := (0, 0, 0, 0)) (pc' := 24) (ls' := [some (.inl (some 52)), some (zi xv), some (zi a), none, none]) (st' := [zi xv, .inl (some 381)]) (by decide +kernel) (fun k q => by cases q) rfl ?_
      refine y_ic (c := (-1)) (len := 1) (r := (0, 0, 0, 0)) (by decide +kernel) (by decide) (fun y917 hy917 => ?_)
      refine y_ias (i := v) (len := 1) (r := (0, 0, 0, 0)) (by decide +kernel) hg (tu381 hg) at381 rfl (by omega) (by omega) (sr1 (by omega)) (by omega) (by omega) (fun h918 hg918 hl918 hs918 ho918 => ?_)
      refine y_same (i := .aload_n 0) (len := 1) (r := (0, 0, 0, 0)) (pc' := 27) (ls' := [some (.inl (some 52)), some (zi xv), some (zi a), none, none]) (st' := [.inl (some 52)]) (by decide +kernel) (fun k q => by cases q) rfl ?_
      refine y_same (i := .iload_n 1) (len := 1) (r := (0, 0, 0, 0)) (pc' := 28) (ls' := [some (.inl (some 52)), some (zi xv), some (zi a), none, none]) (st' := [zi xv, .inl (some 52)]) (by decide +kernel) (fun k q => by cases q) rfl ?_
      refine y_ic (c := 1) (len := 1) (r := (0, 0, 0, 0)) (by decide +kernel) (by decide) (fun y919 hy919 => ?_)
      refine y_add (len := 1) (r := (0, 0, 0, 0)) (by decide +kernel) (by omega) (by omega) (fun y920 hy920 => ?_)
      refine y_same (i := .iload_n 2) (len := 1) (r := (0, 0, 0, 0)) (pc' := 31) (ls' := [some (.inl (some 52)), some (zi xv), some (zi a), none, none]) (st' := [zi a, zi y920, .inl (some 52)]) (by decide +kernel) (fun k q => by cases q) rfl ?_
      have F921 : oF (fun k j => (k < 381 ∨ 387 < k ∨ (k = 381 ∧ j < v)) ∧ (k ≠ 52 ∨ j < 39 ∨ 45 < j)) τ h τ h918 := ⟨(aup_refl _), hg918, fun k T j hk (hC : (k < 381 ∨ 387 < k ∨ (k = 381 ∧ j < v)) ∧ (k ≠ 52 ∨ j < 39 ∨ 45 < j)) => (ho918 k j (by omega))⟩
      have hh921 := hsI_up hh (fun j => F921.2.2 55 55 j (tu55 hg) (show (55 < 381 ∨ 387 < 55 ∨ (55 = 381 ∧ j < v)) ∧ (55 ≠ 52 ∨ j < 39 ∨ 45 < j) by omega))
      have ht921 : tfI h918 a (v + 1) := fun l hl hb x hx => by
        rcases (show l < v ∨ l = v by omega) with q | q
        · exact ht l q hb x ((F921.2.2 381 381 l (tu381 hg) (show (381 < 381 ∨ 387 < 381 ∨ (381 = 381 ∧ l < v)) ∧ (381 ≠ 52 ∨ l < 39 ∨ 45 < l) by omega)).symm.trans hx)
        · subst q
          rw [hs918] at hx
          cases hx
          rcases hb with hb | hb
          · omega
          · exact absurd hb hnb
      have hv922 := (ho918 52 40 (Or.inl (by omega))).trans hu
      refine y_cV (i := .invokevirtual 468) (len := 3) (r := (0, 258, 12, 1802)) (nL := 5) (k := 0) (n := 3) (hs := []) (args := [.inl (some 52), zi y920, zi a]) (rest := []) (l0 := [some (.inl (some 52)), some (zi y920), some (zi a), none, none]) (by decide +kernel) (Or.inr (Or.inl ⟨_, rfl⟩)) rfl rfl rfl rfl (Nat.le_of_ble_eq_true rfl) (z52 hg918) rfl (ihr τ h918 hg918 ht921 hh921 y920 xu (by omega) hv922 (by omega) (by omega)) (fun h921 hR921 => ?_)
      obtain ⟨τ921, O921⟩ := hR921
      refine y_rV (len := 1) (r := (0, 0, 0, 0)) (nL := 5) (n9 := 3) (hs := []) (by decide +kernel) rfl ?_
      exact ⟨_, ⟨O921.1, O921.2.1, fun k T j hk (hC : (k < 381 ∨ 387 < k ∨ (k = 381 ∧ j < v)) ∧ (k ≠ 52 ∨ j < 39 ∨ 45 < j)) => ((O921.2.2 k T j hk (show (k < 381 ∨ 387 < k ∨ (k = 381 ∧ j < v + 1)) ∧ (k ≠ 52 ∨ j < 39 ∨ 45 < j) by omega)).trans (ho918 k j (by omega)))⟩⟩
theorem e_laysHeaps {t : Nat} {τ : List Nat} {h : zh} (hg : hG τ h) : qV 56 259 [some (.inl (some 52))] h t (fun h1 => ∃ τ1, oF (fun k j => (k < 381 ∨ 387 < k) ∧ (k ≠ 52 ∨ j < 39 ∨ (45 < j ∧ j ≠ 47))) τ h τ1 h1) := by
  refine qV_of ?_
  refine y_same (i := .aload_n 0) (len := 1) (r := (0, 0, 0, 0)) (pc' := 1) (ls' := [some (.inl (some 52))]) (st' := [.inl (some 52)]) (by decide +kernel) (fun k q => by cases q) rfl ?_
  obtain ⟨v923, hv924, lv923, uv923⟩ := g_int (i := 47) (lo := 0) (hi := 1) hg (t52 hg) at52 (by decide) rfl
  refine y_get (j := 224) (len := 3) (r := (12, 47, 1, 1375)) (by decide +kernel) hg (t52 hg) at52 rfl rfl hv924 ?_
  rcases Decidable.em (v923.toInt = 0) with q925 | q925
  ·
    refine y_iT (c := .eq) (off := 4) (pc' := 8) (len := 3) (r := (0, 0, 0, 0)) (by decide +kernel) (acmpT (c := .eq) (by show _ = _; omega)) (by decide +kernel) ?_
    refine y_same (i := .aload_n 0) (len := 1) (r := (0, 0, 0, 0)) (pc' := 9) (ls' := [some (.inl (some 52))]) (st' := [.inl (some 52)]) (by decide +kernel) (fun k q => by cases q) rfl ?_
    refine y_ic (c := 1) (len := 1) (r := (0, 0, 0, 0)) (by decide +kernel) (by decide) (fun y926 hy926 => ?_)
    refine y_put (j := 224) (lo := 0) (hi := 1) (len := 3) (r := (12, 47, 1, 1375)) (by decide +kernel) hg (t52 hg) at52 rfl rfl (by decide) rfl (by omega) (by omega) (zfit_b (by omega) (by omega)).1 (fun h927 hg927 hl927 hs927 ho927 => ?_)
    have ho927 : hO 52 47 h h927 := ho927
    have hs927 : hsl h927 52 47 = some (zi y926) := hs927
    refine y_same (i := .aload_n 0) (len := 1) (r := (0, 0, 0, 0)) (pc' := 14) (ls' := [some (.inl (some 52))]) (st' := [.inl (some 52)]) (by decide +kernel) (fun k q => by cases q) rfl ?_
    refine y_ic (c := 0) (len := 1) (r := (0, 0, 0, 0)) (by decide +kernel) (by decide) (fun y928 hy928 => ?_)
    refine y_put (j := 441) (lo := (-2147483648)) (hi := 2147483647) (len := 3) (r := (12, 41, 0, 1369)) (by decide +kernel) hg927 (t52 hg927) at52 rfl rfl (by decide) rfl (qin_full _).1 (qin_full _).2 rfl (fun h929 hg929 hl929 hs929 ho929 => ?_)
    have ho929 : hO 52 41 h927 h929 := ho929
    have hs929 : hsl h929 52 41 = some (zi y928) := hs929
    refine y_same (i := .aload_n 0) (len := 1) (r := (0, 0, 0, 0)) (pc' := 19) (ls' := [some (.inl (some 52))]) (st' := [.inl (some 52)]) (by decide +kernel) (fun k q => by cases q) rfl ?_
    refine y_ic (c := 0) (len := 1) (r := (0, 0, 0, 0)) (by decide +kernel) (by decide) (fun y930 hy930 => ?_)
    refine y_put (j := 447) (lo := (-2147483648)) (hi := 2147483647) (len := 3) (r := (12, 42, 0, 1370)) (by decide +kernel) hg929 (t52 hg929) at52 rfl rfl (by decide) rfl (qin_full _).1 (qin_full _).2 rfl (fun h931 hg931 hl931 hs931 ho931 => ?_)
    have ho931 : hO 52 42 h929 h931 := ho931
    have hs931 : hsl h931 52 42 = some (zi y930) := hs931
    refine y_same (i := .aload_n 0) (len := 1) (r := (0, 0, 0, 0)) (pc' := 24) (ls' := [some (.inl (some 52))]) (st' := [.inl (some 52)]) (by decide +kernel) (fun k q => by cases q) rfl ?_
    refine y_ic (c := (-1)) (len := 1) (r := (0, 0, 0, 0)) (by decide +kernel) (by decide) (fun y932 hy932 => ?_)
    refine y_put (j := 450) (lo := (-2147483648)) (hi := 2147483647) (len := 3) (r := (12, 43, 0, 1371)) (by decide +kernel) hg931 (t52 hg931) at52 rfl rfl (by decide) rfl (qin_full _).1 (qin_full _).2 rfl (fun h933 hg933 hl933 hs933 ho933 => ?_)
    have ho933 : hO 52 43 h931 h933 := ho933
    have hs933 : hsl h933 52 43 = some (zi y932) := hs933
    refine y_same (i := .aload_n 0) (len := 1) (r := (0, 0, 0, 0)) (pc' := 29) (ls' := [some (.inl (some 52))]) (st' := [.inl (some 52)]) (by decide +kernel) (fun k q => by cases q) rfl ?_
    refine y_ic (c := 0) (len := 1) (r := (0, 0, 0, 0)) (by decide +kernel) (by decide) (fun y934 hy934 => ?_)
    refine y_put (j := 420) (lo := 0) (hi := 5) (len := 3) (r := (12, 40, 0, 1368)) (by decide +kernel) hg933 (t52 hg933) at52 rfl rfl (by decide) rfl (by omega) (by omega) rfl (fun h935 hg935 hl935 hs935 ho935 => ?_)
    have ho935 : hO 52 40 h933 h935 := ho935
    have hs935 : hsl h935 52 40 = some (zi y934) := hs935
    refine y_same (i := .aload_n 0) (len := 1) (r := (0, 0, 0, 0)) (pc' := 34) (ls' := [some (.inl (some 52))]) (st' := [.inl (some 52)]) (by decide +kernel) (fun k q => by cases q) rfl ?_
    refine y_get (j := 70) (len := 3) (r := (12, 33, 2, 1361)) (by decide +kernel) hg935 (t52 hg935) at52 rfl rfl (g_r52 (f := 33) (T2 := 381) hg935 rfl (by decide)).1 ?_
    refine y_ic (c := 0) (len := 1) (r := (0, 0, 0, 0)) (by decide +kernel) (by decide) (fun y936 hy936 => ?_)
    refine y_ic (c := 0) (len := 1) (r := (0, 0, 0, 0)) (by decide +kernel) (by decide) (fun y937 hy937 => ?_)
    refine y_ias (i := 0) (len := 1) (r := (0, 0, 0, 0)) (by decide +kernel) hg935 (tu381 hg935) at381 rfl (by omega) (by omega) (sr1 (by omega)) (by omega) (by omega) (fun h938 hg938 hl938 hs938 ho938 => ?_)
    refine y_same (i := .aload_n 0) (len := 1) (r := (0, 0, 0, 0)) (pc' := 41) (ls' := [some (.inl (some 52))]) (st' := [.inl (some 52)]) (by decide +kernel) (fun k q => by cases q) rfl ?_
    refine y_ic (c := 1) (len := 1) (r := (0, 0, 0, 0)) (by decide +kernel) (by decide) (fun y939 hy939 => ?_)
    refine y_same (i := .aload_n 0) (len := 1) (r := (0, 0, 0, 0)) (pc' := 43) (ls' := [some (.inl (some 52))]) (st' := [.inl (some 52), zi y939, .inl (some 52)]) (by decide +kernel) (fun k q => by cases q) rfl ?_
    obtain ⟨ya, ha, -, -⟩ := g55 (i := 46 * 0 + 0) hg938 (by decide) (by decide) (by decide)
    obtain ⟨yb, hb, -, -⟩ := g55 (i := 46 * 1 + 0) hg938 (by decide) (by decide) (by decide)
    refine y_cI (i := .invokevirtual 239) (len := 3) (r := (0, 192, 12, 1609)) (nL := 5) (k := 1) (n := 1) (hs := []) (args := [.inl (some 52)]) (rest := [zi y939, .inl (some 52)]) (l0 := [some (.inl (some 52)), none, none, none, none]) (by decide +kernel) (Or.inr (Or.inl ⟨_, rfl⟩)) rfl rfl rfl rfl (Nat.le_of_ble_eq_true rfl) (z52 hg938) rfl (qI_le (by decide) (e_variables hg938 ha hb)) (fun y940 qy940 hRy940 => ?_)
    obtain ⟨hqy940, -, hsy940⟩ := hRy940
    subst hqy940
    have hv942 := (ho938 52 40 (Or.inl (by omega))).trans hs935
    have ht : tfI h938 y940 1 := fun l hl _ x hx => by
      rw [show l = 0 by omega, hs938] at hx
      cases hx
      omega
    refine y_cV (i := .invokevirtual 468) (len := 3) (r := (0, 258, 12, 1802)) (nL := 5) (k := 0) (n := 3) (hs := []) (args := [.inl (some 52), zi y939, zi y940]) (rest := []) (l0 := [some (.inl (some 52)), some (zi y939), some (zi y940), none, none]) (by decide +kernel) (Or.inr (Or.inl ⟨_, rfl⟩)) rfl rfl rfl rfl (Nat.le_of_ble_eq_true rfl) (z52 hg938) rfl (e_tellsFrom 5 1 (by decide) (by decide) τ h938 hg938 ht ⟨ha, hb, hsy940⟩ y939 y934 (by omega) hv942 (by omega) (by omega)) (fun h941 hR941 => ?_)
    obtain ⟨τ941, O941⟩ := hR941
    refine y_rV (len := 1) (r := (0, 0, 0, 0)) (nL := 1) (n9 := 1) (hs := []) (by decide +kernel) rfl ?_
    exact ⟨_, ⟨O941.1, O941.2.1, fun k T j hk (hC : (k < 381 ∨ 387 < k) ∧ (k ≠ 52 ∨ j < 39 ∨ (45 < j ∧ j ≠ 47))) => ((O941.2.2 k T j hk (show (k < 381 ∨ 387 < k ∨ (k = 381 ∧ j < 1)) ∧ (k ≠ 52 ∨ j < 39 ∨ 45 < j) by omega)).trans ((ho938 k j (by omega)).trans ((ho935 k j (by omega)).trans ((ho933 k j (by omega)).trans ((ho931 k j (by omega)).trans ((ho929 k j (by omega)).trans (ho927 k j (by omega))))))))⟩⟩
  ·
    refine y_iF (c := .eq) (off := 4) (len := 3) (r := (0, 0, 0, 0)) (by decide +kernel) (acmpF (c := .eq) (by show ¬ (_ = _); omega)) ?_
    refine y_rV (len := 1) (r := (0, 0, 0, 0)) (nL := 1) (n9 := 1) (hs := []) (by decide +kernel) rfl ?_
    exact ⟨_, oF_refl hg⟩
