/-! the reference: pairs counted, ALIKE of two sequents -/
theorem prs_y {d t A : Nat} {τ : List Nat} {h : zh} {s : sqT} (Q : QM τ h A s) {x : Nat} (hx : x < 21) {xx : Int32} (hxx : xx.toInt = (x : Int)) {P : zo × zh × Nat → Prop} (kk : ∀ (xn xy : Int32), xn.toInt = ((trA s.2.2.2 x + rLo s.2.2.2 x (x + 1) : Nat) : Int) → qX (d + 1) 203 40 [some (.inl (some A)), some (zi xn), some (zi xx), some (zi xy)] [] h t P) : ∀ (n : Nat) (y : Nat) (xn : Int32) (xy : Int32), (xn.toInt = ((trA s.2.2.2 x + rLo s.2.2.2 x y : Nat) : Int)) → (xy.toInt = (y : Int)) → (y ≤ x + 1) → (x + 1 < y + n) → qX (d + 1) 203 12 [some (.inl (some A)), some (zi xn), some (zi xx), some (zi xy)] [] h t P := by
  intro n
  induction n with
  | zero =>
    intro y xn xy hn hxy hy hm
    exfalso
    omega
  | succ n ih =>
    intro y xn xy hn hxy hy hm
    obtain ⟨T, c0, tA, aT, hc0, pT⟩ := Q.2.1
    have b1 := trA_le (D := s.2.2.2) x (by omega)
    have b2 := rLo_le (D := s.2.2.2) (x := x) y
    refine y_same (i := .iload_n 3) (len := 1) (r := (0, 0, 0, 0)) (pc' := 13) (ls' := [some (.inl (some A)), some (zi xn), some (zi xx), some (zi xy)]) (st' := [zi xy]) (by decide +kernel) (fun k q => by cases q) rfl ?_
    refine y_same (i := .iload_n 2) (len := 1) (r := (0, 0, 0, 0)) (pc' := 14) (ls' := [some (.inl (some A)), some (zi xn), some (zi xx), some (zi xy)]) (st' := [zi xx, zi xy]) (by decide +kernel) (fun k q => by cases q) rfl ?_
    rcases Decidable.em (xy.toInt > xx.toInt) with q3833 | q3833
    ·
      refine y_cT (c := .gt) (off := 26) (pc' := 40) (len := 3) (r := (0, 0, 0, 0)) (by decide +kernel) (acmpT (c := .gt) (by show _ < _; omega)) (by decide +kernel) ?_
      obtain rfl : y = x + 1 := by omega
      exact kk _ _ hn
    ·
      refine y_cF (c := .gt) (off := 26) (len := 3) (r := (0, 0, 0, 0)) (by decide +kernel) (acmpF (c := .gt) (by show _ ≤ _; omega)) ?_
      refine y_same (i := .iload_n 1) (len := 1) (r := (0, 0, 0, 0)) (pc' := 18) (ls' := [some (.inl (some A)), some (zi xn), some (zi xx), some (zi xy)]) (st' := [zi xn]) (by decide +kernel) (fun k q => by cases q) rfl ?_
      refine y_same (i := .aload_n 0) (len := 1) (r := (0, 0, 0, 0)) (pc' := 19) (ls' := [some (.inl (some A)), some (zi xn), some (zi xx), some (zi xy)]) (st' := [.inl (some A), zi xn]) (by decide +kernel) (fun k q => by cases q) rfl ?_
      refine y_same (i := .iload_n 2) (len := 1) (r := (0, 0, 0, 0)) (pc' := 20) (ls' := [some (.inl (some A)), some (zi xn), some (zi xx), some (zi xy)]) (st' := [zi xx, .inl (some A), zi xn]) (by decide +kernel) (fun k q => by cases q) rfl ?_
      refine y_same (i := .iload_n 3) (len := 1) (r := (0, 0, 0, 0)) (pc' := 21) (ls' := [some (.inl (some A)), some (zi xn), some (zi xx), some (zi xy)]) (st' := [zi xy, zi xx, .inl (some A), zi xn]) (by decide +kernel) (fun k q => by cases q) rfl ?_
      refine y_cI (i := .invokestatic 245) (len := 3) (r := (1, 200, 12, 1666)) (nL := 3) (k := 2) (n := 3) (hs := []) (args := [.inl (some A), zi xx, zi xy]) (rest := [zi xn]) (l0 := [some (.inl (some A)), some (zi xx), some (zi xy)]) (by decide +kernel) (Or.inl ⟨_, rfl⟩) rfl rfl rfl rfl (Nat.le_of_ble_eq_true rfl) rfl rfl (qI_le (by omega) (m_dif (d := 0) (x := x) (y := y) Q (by omega) (by omega) (by omega) (by omega))) (fun y3834 qy3834 hRy3834 => ?_)
      obtain ⟨rfl, hDy3834⟩ := hRy3834
      rcases hDy3834 with ⟨vy3834, by3834⟩ | ⟨vy3834, by3834⟩
      ·
        refine y_iF (c := .eq) (off := 7) (len := 3) (r := (0, 0, 0, 0)) (by decide +kernel) (acmpF (c := .eq) (by show ¬ (_ = _); omega)) ?_
        refine y_ic (c := 1) (len := 1) (r := (0, 0, 0, 0)) (by decide +kernel) (by decide) (fun y3835 hy3835 => ?_)
        refine y_goto (off := 4) (pc' := 32) (len := 3) (r := (0, 0, 0, 0)) (by decide +kernel) (by decide +kernel) ?_
        refine y_add (len := 1) (r := (0, 0, 0, 0)) (by decide +kernel) (by omega) (by omega) (fun y3836 hy3836 => ?_)
        refine y_same (i := .istore_n 1) (len := 1) (r := (0, 0, 0, 0)) (pc' := 34) (ls' := [some (.inl (some A)), some (zi y3836), some (zi xx), some (zi xy)]) (st' := []) (by decide +kernel) (fun k q => by cases q) rfl ?_
        refine y_inc (j := 3) (a := xy) (c := 1) (ls' := fun v => [some (.inl (some A)), some (zi y3836), some (zi xx), some v]) (len := 3) (r := (0, 0, 0, 0)) (by decide +kernel) rfl (fun _ => rfl) (by decide) (by omega) (by omega) (fun y3837 hy3837 => ?_)
        show qX (d + 1) 203 37 [some (.inl (some A)), some (zi y3836), some (zi xx), some (zi y3837)] [] h t _
        refine y_goto (off := (-25)) (pc' := 12) (len := 3) (r := (0, 0, 0, 0)) (by decide +kernel) (by decide +kernel) ?_
        have e9 : rLo s.2.2.2 x (y + 1) = rLo s.2.2.2 x y + 1 := by
          show rLo s.2.2.2 x y + dBn s.2.2.2 x y = _
          rw [dBn_1 by3834]
        exact ih (y + 1) y3836 y3837 (by omega) (by omega) (by omega) (by omega)
      ·
        refine y_iT (c := .eq) (off := 7) (pc' := 31) (len := 3) (r := (0, 0, 0, 0)) (by decide +kernel) (acmpT (c := .eq) (by show _ = _; omega)) (by decide +kernel) ?_
        refine y_ic (c := 0) (len := 1) (r := (0, 0, 0, 0)) (by decide +kernel) (by decide) (fun y3838 hy3838 => ?_)
        refine y_add (len := 1) (r := (0, 0, 0, 0)) (by decide +kernel) (by omega) (by omega) (fun y3839 hy3839 => ?_)
        refine y_same (i := .istore_n 1) (len := 1) (r := (0, 0, 0, 0)) (pc' := 34) (ls' := [some (.inl (some A)), some (zi y3839), some (zi xx), some (zi xy)]) (st' := []) (by decide +kernel) (fun k q => by cases q) rfl ?_
        refine y_inc (j := 3) (a := xy) (c := 1) (ls' := fun v => [some (.inl (some A)), some (zi y3839), some (zi xx), some v]) (len := 3) (r := (0, 0, 0, 0)) (by decide +kernel) rfl (fun _ => rfl) (by decide) (by omega) (by omega) (fun y3840 hy3840 => ?_)
        show qX (d + 1) 203 37 [some (.inl (some A)), some (zi y3839), some (zi xx), some (zi y3840)] [] h t _
        refine y_goto (off := (-25)) (pc' := 12) (len := 3) (r := (0, 0, 0, 0)) (by decide +kernel) (by decide +kernel) ?_
        have e9 : rLo s.2.2.2 x (y + 1) = rLo s.2.2.2 x y + 0 := by
          show rLo s.2.2.2 x y + dBn s.2.2.2 x y = _
          rw [dBn_0 by3834]
        exact ih (y + 1) y3839 y3840 (by omega) (by omega) (by omega) (by omega)
theorem prs_x {d t A : Nat} {τ : List Nat} {h : zh} {s : sqT} (Q : QM τ h A s) : ∀ (n : Nat) (x : Nat) (xn : Int32) (xx : Int32) (l3 : Option zv), (xn.toInt = ((trA s.2.2.2 x : Nat) : Int)) → (xx.toInt = (x : Int)) → (x ≤ 21) → (21 < x + n) → qX (d + 1) 203 4 [some (.inl (some A)), some (zi xn), some (zi xx), l3] [] h t (rI (fun y h1 => h = h1 ∧ y.toInt = ((pD s.2.2.2 : Nat) : Int)) t) := by
  intro n
  induction n with
  | zero =>
    intro x xn xx l3 hn hxx hx hm
    exfalso
    omega
  | succ n ih =>
    intro x xn xx l3 hn hxx hx hm
    skip
    refine y_same (i := .iload_n 2) (len := 1) (r := (0, 0, 0, 0)) (pc' := 5) (ls' := [some (.inl (some A)), some (zi xn), some (zi xx), l3]) (st' := [zi xx]) (by decide +kernel) (fun k q => by cases q) rfl ?_
    refine y_bi (c := 21) (len := 2) (r := (0, 0, 0, 0)) (by decide +kernel) (by decide) (fun y3841 hy3841 => ?_)
    rcases Decidable.em (xx.toInt ≥ y3841.toInt) with q3842 | q3842
    ·
      refine y_cT (c := .ge) (off := 39) (pc' := 46) (len := 3) (r := (0, 0, 0, 0)) (by decide +kernel) (acmpT (c := .ge) (by show _ ≤ _; omega)) (by decide +kernel) ?_
      refine y_same (i := .iload_n 1) (len := 1) (r := (0, 0, 0, 0)) (pc' := 47) (ls' := [some (.inl (some A)), some (zi xn), some (zi xx), l3]) (st' := [zi xn]) (by decide +kernel) (fun k q => by cases q) rfl ?_
      refine y_rI (len := 1) (r := (0, 0, 0, 0)) (nL := 4) (k := 1) (n9 := 1) (hs := []) (by decide +kernel) rfl rfl ?_
      obtain rfl : x = 21 := by omega
      exact ⟨rfl, hn⟩
    ·
      refine y_cF (c := .ge) (off := 39) (len := 3) (r := (0, 0, 0, 0)) (by decide +kernel) (acmpF (c := .ge) (by show _ < _; omega)) ?_
      refine y_ic (c := 0) (len := 1) (r := (0, 0, 0, 0)) (by decide +kernel) (by decide) (fun y3843 hy3843 => ?_)
      refine y_same (i := .istore_n 3) (len := 1) (r := (0, 0, 0, 0)) (pc' := 12) (ls' := [some (.inl (some A)), some (zi xn), some (zi xx), some (zi y3843)]) (st' := []) (by decide +kernel) (fun k q => by cases q) rfl ?_
      refine prs_y Q (by omega) hxx (fun xn9 xy9 hn9 => ?_) (x + 2) 0 xn y3843 (by show xn.toInt = ((trA s.2.2.2 x + 0 : Nat) : Int); omega) (by omega) (by omega) (by omega)
      refine y_inc (j := 2) (a := xx) (c := 1) (ls' := fun v => [some (.inl (some A)), some (zi xn9), some v, some (zi xy9)]) (len := 3) (r := (0, 0, 0, 0)) (by decide +kernel) rfl (fun _ => rfl) (by decide) (by omega) (by omega) (fun y3844 hy3844 => ?_)
      show qX (d + 1) 203 43 [some (.inl (some A)), some (zi xn9), some (zi y3844), some (zi xy9)] [] h t _
      refine y_goto (off := (-39)) (pc' := 4) (len := 3) (r := (0, 0, 0, 0)) (by decide +kernel) (by decide +kernel) ?_
      exact ih (x + 1) xn9 y3844 (some (zi xy9)) hn9 (by omega) (by omega) (by omega)
theorem m_prs {d t A : Nat} {τ : List Nat} {h : zh} {s : sqT} (Q : QM τ h A s) : qI (d + 2) 203 [some (.inl (some A)), none, none, none] h t (fun y h1 => h = h1 ∧ y.toInt = ((pD s.2.2.2 : Nat) : Int)) := by
  refine qI_of ?_
  refine y_ic (c := 0) (len := 1) (r := (0, 0, 0, 0)) (by decide +kernel) (by decide) (fun y3845 hy3845 => ?_)
  refine y_same (i := .istore_n 1) (len := 1) (r := (0, 0, 0, 0)) (pc' := 2) (ls' := [some (.inl (some A)), some (zi y3845), none, none]) (st' := []) (by decide +kernel) (fun k q => by cases q) rfl ?_
  refine y_ic (c := 0) (len := 1) (r := (0, 0, 0, 0)) (by decide +kernel) (by decide) (fun y3846 hy3846 => ?_)
  refine y_same (i := .istore_n 2) (len := 1) (r := (0, 0, 0, 0)) (pc' := 4) (ls' := [some (.inl (some A)), some (zi y3845), some (zi y3846), none]) (st' := []) (by decide +kernel) (fun k q => by cases q) rfl ?_
  exact prs_x Q 22 0 y3845 y3846 none (by show _ = ((0 : Nat) : Int); omega) (by omega) (by omega) (by omega)
theorem akQ_len {s s' : sqT} (a : akQ s s') : s.1.length = s'.1.length ∧ s.2.1.length = s'.2.1.length ∧ s.2.2.1.length = s'.2.2.1.length := by
  obtain ⟨-, m, e, -⟩ := a
  unfold akM at e
  cases h1 : tlR s.1 s'.1 mp0 with
  | none => rw [h1] at e; cases e
  | some m1 =>
    rw [h1] at e
    have e : (tlR s.2.1 s'.2.1 m1).bind (tlR s.2.2.1 s'.2.2.1) = some m := e
    cases h2 : tlR s.2.1 s'.2.1 m1 with
    | none => rw [h2] at e; cases e
    | some m2 =>
      rw [h2] at e
      exact ⟨tlR_len h1, tlR_len h2, tlR_len e⟩
def mpN : mp2 := (fun _ => -1, fun _ => -1)
theorem mpN_0 : tlO 0 0 mpN = some mp0 := tlO_new ⟨rfl, rfl⟩
theorem mfl_l {d t A B : Nat} {τ : List Nat} {h0 : zh} {l4 l5 : Option zv} {P : zo × zh × Nat → Prop} (kk : ∀ (h : zh) (xi : Int32), hG τ h → mpM h mpN → FK h0 h → qX (d + 4) 224 68 [some (.inl (some 52)), some (.inl (some A)), some (.inl (some B)), some (zi xi), l4, l5] [] h t P) : ∀ (n : Nat) (h : zh) (i : Nat) (xi : Int32), hG τ h → (∀ j, j < i → kx_ h 68 j (-1) ∧ kx_ h 69 j (-1)) → FK h0 h → xi.toInt = (i : Int) → i ≤ 21 → 21 ≤ i + n → qX (d + 4) 224 42 [some (.inl (some 52)), some (.inl (some A)), some (.inl (some B)), some (zi xi), l4, l5] [] h t P := by
  intro n
  induction n with
  | zero =>
    intro h i xi hg c1 F0 hxi hi hn
    refine y_same (i := .iload_n 3) (len := 1) (r := (0, 0, 0, 0)) (pc' := 43) (ls' := [some (.inl (some 52)), some (.inl (some A)), some (.inl (some B)), some (zi xi), l4, l5]) (st' := [zi xi]) (by decide +kernel) (fun k q => by cases q) rfl ?_
    refine y_bi (c := 21) (len := 2) (r := (0, 0, 0, 0)) (by decide +kernel) (by decide) (fun y3854 hy3854 => ?_)
    refine y_cT (c := .ge) (off := 23) (pc' := 68) (len := 3) (r := (0, 0, 0, 0)) (by decide +kernel) (acmpT (c := .ge) (by show _ ≤ _; omega)) (by decide +kernel) ?_
    exact kk h _ hg (fun j hj => c1 j (by omega)) F0
  | succ n ih =>
    intro h i xi hg c1 F0 hxi hi hn
    rcases Nat.lt_or_ge i 21 with q | q
    ·
      refine y_same (i := .iload_n 3) (len := 1) (r := (0, 0, 0, 0)) (pc' := 43) (ls' := [some (.inl (some 52)), some (.inl (some A)), some (.inl (some B)), some (zi xi), l4, l5]) (st' := [zi xi]) (by decide +kernel) (fun k q => by cases q) rfl ?_
      refine y_bi (c := 21) (len := 2) (r := (0, 0, 0, 0)) (by decide +kernel) (by decide) (fun y3847 hy3847 => ?_)
      refine y_cF (c := .ge) (off := 23) (len := 3) (r := (0, 0, 0, 0)) (by decide +kernel) (acmpF (c := .ge) (by show _ < _; omega)) ?_
      refine y_same (i := .aload_n 0) (len := 1) (r := (0, 0, 0, 0)) (pc' := 49) (ls' := [some (.inl (some 52)), some (.inl (some A)), some (.inl (some B)), some (zi xi), l4, l5]) (st' := [.inl (some 52)]) (by decide +kernel) (fun k q => by cases q) rfl ?_
      refine y_get (j := 31) (len := 3) (r := (12, 13, 2, 1341)) (by decide +kernel) hg (t52 hg) at52 rfl rfl (g_r52 (f := 13) (T2 := 68) hg rfl (by decide)).1 ?_
      refine y_same (i := .iload_n 3) (len := 1) (r := (0, 0, 0, 0)) (pc' := 53) (ls' := [some (.inl (some 52)), some (.inl (some A)), some (.inl (some B)), some (zi xi), l4, l5]) (st' := [zi xi, .inl (some 68)]) (by decide +kernel) (fun k q => by cases q) rfl ?_
      refine y_ic (c := (-1)) (len := 1) (r := (0, 0, 0, 0)) (by decide +kernel) (by decide) (fun y3848 hy3848 => ?_)
      refine y_ias (i := i) (len := 1) (r := (0, 0, 0, 0)) (by decide +kernel) hg (tu68 hg) at68 rfl (by omega) (by omega) (sr1 (by omega)) (by omega) (by omega) (fun h3849 hg3849 hl3849 hs3849 ho3849 => ?_)
      refine y_same (i := .aload_n 0) (len := 1) (r := (0, 0, 0, 0)) (pc' := 56) (ls' := [some (.inl (some 52)), some (.inl (some A)), some (.inl (some B)), some (zi xi), l4, l5]) (st' := [.inl (some 52)]) (by decide +kernel) (fun k q => by cases q) rfl ?_
      refine y_get (j := 34) (len := 3) (r := (12, 14, 2, 1342)) (by decide +kernel) hg3849 (t52 hg3849) at52 rfl rfl (g_r52 (f := 14) (T2 := 69) hg3849 rfl (by decide)).1 ?_
      refine y_same (i := .iload_n 3) (len := 1) (r := (0, 0, 0, 0)) (pc' := 60) (ls' := [some (.inl (some 52)), some (.inl (some A)), some (.inl (some B)), some (zi xi), l4, l5]) (st' := [zi xi, .inl (some 69)]) (by decide +kernel) (fun k q => by cases q) rfl ?_
      refine y_ic (c := (-1)) (len := 1) (r := (0, 0, 0, 0)) (by decide +kernel) (by decide) (fun y3850 hy3850 => ?_)
      refine y_ias (i := i) (len := 1) (r := (0, 0, 0, 0)) (by decide +kernel) hg3849 (tu69 hg3849) at69 rfl (by omega) (by omega) (sr1 (by omega)) (by omega) (by omega) (fun h3851 hg3851 hl3851 hs3851 ho3851 => ?_)
      refine y_inc (j := 3) (a := xi) (c := 1) (ls' := fun v => [some (.inl (some 52)), some (.inl (some A)), some (.inl (some B)), some v, l4, l5]) (len := 3) (r := (0, 0, 0, 0)) (by decide +kernel) rfl (fun _ => rfl) (by decide) (by omega) (by omega) (fun y3852 hy3852 => ?_)
      show qX (d + 4) 224 65 [some (.inl (some 52)), some (.inl (some A)), some (.inl (some B)), some (zi y3852), l4, l5] [] h3851 t _
      refine y_goto (off := (-23)) (pc' := 42) (len := 3) (r := (0, 0, 0, 0)) (by decide +kernel) (by decide +kernel) ?_
      have hv3853 := (ho3851 68 i (Or.inl (by omega))).trans hs3849
      refine ih h3851 (i + 1) y3852 hg3851 (fun j hj => ?_) (FK_tr F0 (fun k j h1 h2 => ((ho3851 k j (by omega)).trans (ho3849 k j (by omega))))) (by omega) (by omega) (by omega)
      rcases Nat.lt_or_ge j i with q9 | q9
      · exact ⟨kx_up (c1 j q9).1 (((ho3851 68 j (by omega)).trans (ho3849 68 j (by omega)))), kx_up (c1 j q9).2 (((ho3851 69 j (by omega)).trans (ho3849 69 j (by omega))))⟩
      · obtain rfl : j = i := by omega
        exact ⟨⟨_, hv3853, by omega⟩, ⟨_, hs3851, by omega⟩⟩
    ·
      refine y_same (i := .iload_n 3) (len := 1) (r := (0, 0, 0, 0)) (pc' := 43) (ls' := [some (.inl (some 52)), some (.inl (some A)), some (.inl (some B)), some (zi xi), l4, l5]) (st' := [zi xi]) (by decide +kernel) (fun k q => by cases q) rfl ?_
      refine y_bi (c := 21) (len := 2) (r := (0, 0, 0, 0)) (by decide +kernel) (by decide) (fun y3854 hy3854 => ?_)
      refine y_cT (c := .ge) (off := 23) (pc' := 68) (len := 3) (r := (0, 0, 0, 0)) (by decide +kernel) (acmpT (c := .ge) (by show _ ≤ _; omega)) (by decide +kernel) ?_
      exact kk h _ hg (fun j hj => c1 j (by omega)) F0
theorem tpm_y {d t : Nat} {τ : List Nat} {h : zh} {A B : Nat} {s s2 : sqT} {m : mp2} (Q : QM τ h A s) (Q2 : QM τ h B s2) (H : mpM h m) {x : Nat} (hx : x < 21) {xx : Int32} (hxx : xx.toInt = (x : Int)) (kk : ∀ (xa : Int32) (l5 : Option zv), xa.toInt = 1 → (∀ j : Nat, j < x → s.2.2.2 (x : Int) (j : Int) → s2.2.2.2 (m.1 x) (m.1 j)) → qX (d + 4) 224 216 [some (.inl (some 52)), some (.inl (some A)), some (.inl (some B)), some (zi xa), some (zi xx), l5] [] h t (rI (fun y1 h1 => h = h1 ∧ ((y1.toInt = 1 ∧ (∀ a b, s.2.2.2 a b → s2.2.2.2 (m.1 a) (m.1 b))) ∨ (y1.toInt = 0 ∧ ¬ (∀ a b, s.2.2.2 a b → s2.2.2.2 (m.1 a) (m.1 b))))) t)) : ∀ (n : Nat) (y : Nat) (xa : Int32) (xy : Int32), (xa.toInt = 1) → (xy.toInt = (y : Int)) → (y ≤ x) → (∀ j : Nat, j < y → s.2.2.2 (x : Int) (j : Int) → s2.2.2.2 (m.1 x) (m.1 j)) → (x < y + n) → qX (d + 4) 224 139 [some (.inl (some 52)), some (.inl (some A)), some (.inl (some B)), some (zi xa), some (zi xx), some (zi xy)] [] h t (rI (fun y1 h1 => h = h1 ∧ ((y1.toInt = 1 ∧ (∀ a b, s.2.2.2 a b → s2.2.2.2 (m.1 a) (m.1 b))) ∨ (y1.toInt = 0 ∧ ¬ (∀ a b, s.2.2.2 a b → s2.2.2.2 (m.1 a) (m.1 b))))) t) := by
  intro n
  induction n with
  | zero =>
    intro y xa xy hxa hxy hy c1 hn
    exfalso
    omega
  | succ n ih =>
    intro y xa xy hxa hxy hy c1 hn
    skip
    refine y_same (i := .iload 5) (len := 2) (r := (0, 0, 0, 0)) (pc' := 141) (ls' := [some (.inl (some 52)), some (.inl (some A)), some (.inl (some B)), some (zi xa), some (zi xx), some (zi xy)]) (st' := [zi xy]) (by decide +kernel) (fun k q => by cases q) rfl ?_
    refine y_same (i := .iload 4) (len := 2) (r := (0, 0, 0, 0)) (pc' := 143) (ls' := [some (.inl (some 52)), some (.inl (some A)), some (.inl (some B)), some (zi xa), some (zi xx), some (zi xy)]) (st' := [zi xx, zi xy]) (by decide +kernel) (fun k q => by cases q) rfl ?_
    rcases Decidable.em (xy.toInt ≥ xx.toInt) with q3855 | q3855
    ·
      refine y_cT (c := .ge) (off := 73) (pc' := 216) (len := 3) (r := (0, 0, 0, 0)) (by decide +kernel) (acmpT (c := .ge) (by show _ ≤ _; omega)) (by decide +kernel) ?_
      exact kk _ _ (by omega) (fun j hj => c1 j (by omega))
    ·
      refine y_cF (c := .ge) (off := 73) (len := 3) (r := (0, 0, 0, 0)) (by decide +kernel) (acmpF (c := .ge) (by show _ < _; omega)) ?_
      refine y_same (i := .iload_n 3) (len := 1) (r := (0, 0, 0, 0)) (pc' := 147) (ls' := [some (.inl (some 52)), some (.inl (some A)), some (.inl (some B)), some (zi xa), some (zi xx), some (zi xy)]) (st' := [zi xa]) (by decide +kernel) (fun k q => by cases q) rfl ?_
      refine y_iF (c := .eq) (off := 69) (len := 3) (r := (0, 0, 0, 0)) (by decide +kernel) (acmpF (c := .eq) (by show ¬ (_ = _); omega)) ?_
      refine y_same (i := .aload_n 1) (len := 1) (r := (0, 0, 0, 0)) (pc' := 151) (ls' := [some (.inl (some 52)), some (.inl (some A)), some (.inl (some B)), some (zi xa), some (zi xx), some (zi xy)]) (st' := [.inl (some A)]) (by decide +kernel) (fun k q => by cases q) rfl ?_
      refine y_same (i := .iload 4) (len := 2) (r := (0, 0, 0, 0)) (pc' := 153) (ls' := [some (.inl (some 52)), some (.inl (some A)), some (.inl (some B)), some (zi xa), some (zi xx), some (zi xy)]) (st' := [zi xx, .inl (some A)]) (by decide +kernel) (fun k q => by cases q) rfl ?_
      refine y_same (i := .iload 5) (len := 2) (r := (0, 0, 0, 0)) (pc' := 155) (ls' := [some (.inl (some 52)), some (.inl (some A)), some (.inl (some B)), some (zi xa), some (zi xx), some (zi xy)]) (st' := [zi xy, zi xx, .inl (some A)]) (by decide +kernel) (fun k q => by cases q) rfl ?_
      refine y_cI (i := .invokestatic 245) (len := 3) (r := (1, 200, 12, 1666)) (nL := 3) (k := 2) (n := 3) (hs := []) (args := [.inl (some A), zi xx, zi xy]) (rest := []) (l0 := [some (.inl (some A)), some (zi xx), some (zi xy)]) (by decide +kernel) (Or.inl ⟨_, rfl⟩) rfl rfl rfl rfl (Nat.le_of_ble_eq_true rfl) rfl rfl (qI_le (by omega) (m_dif (d := 0) (x := x) (y := y) Q (by omega) (by omega) (by omega) (by omega))) (fun y3856 qy3856 hRy3856 => ?_)
      obtain ⟨rfl, hDy3856⟩ := hRy3856
      rcases hDy3856 with ⟨vy3856, by3856⟩ | ⟨vy3856, by3856⟩
      ·
        refine y_iF (c := .eq) (off := 52) (len := 3) (r := (0, 0, 0, 0)) (by decide +kernel) (acmpF (c := .eq) (by show ¬ (_ = _); omega)) ?_
        obtain ⟨xp, hp, ep⟩ := (H x (by omega)).1
        obtain ⟨wp, fp, lp, up⟩ := g_int (i := x) (lo := -1) (hi := 20) Q.1 (tu68 Q.1) at68 (show x < 21 by omega) (sr1 (by omega))
        have gp := hp.symm.trans fp
        cases gp
        refine y_same (i := .aload_n 0) (len := 1) (r := (0, 0, 0, 0)) (pc' := 162) (ls' := [some (.inl (some 52)), some (.inl (some A)), some (.inl (some B)), some (zi xa), some (zi xx), some (zi xy)]) (st' := [.inl (some 52)]) (by decide +kernel) (fun k q => by cases q) rfl ?_
        refine y_get (j := 31) (len := 3) (r := (12, 13, 2, 1341)) (by decide +kernel) Q.1 (t52 Q.1) at52 rfl rfl (g_r52 (f := 13) (T2 := 68) Q.1 rfl (by decide)).1 ?_
        refine y_same (i := .iload 4) (len := 2) (r := (0, 0, 0, 0)) (pc' := 167) (ls' := [some (.inl (some 52)), some (.inl (some A)), some (.inl (some B)), some (zi xa), some (zi xx), some (zi xy)]) (st' := [zi xx, .inl (some 68)]) (by decide +kernel) (fun k q => by cases q) rfl ?_
        refine y_ial (i := x) (len := 1) (r := (0, 0, 0, 0)) (by decide +kernel) Q.1 (tu68 Q.1) at68 (by omega) hp ?_
        refine y_ic (c := (-1)) (len := 1) (r := (0, 0, 0, 0)) (by decide +kernel) (by decide) (fun y3857 hy3857 => ?_)
        rcases Decidable.em (xp.toInt = y3857.toInt) with q3858 | q3858
        ·
          refine y_cT (c := .eq) (off := 39) (pc' := 208) (len := 3) (r := (0, 0, 0, 0)) (by decide +kernel) (acmpT (c := .eq) (by show _ = _; omega)) (by decide +kernel) ?_
          refine y_ic (c := 0) (len := 1) (r := (0, 0, 0, 0)) (by decide +kernel) (by decide) (fun y3859 hy3859 => ?_)
          refine y_same (i := .istore_n 3) (len := 1) (r := (0, 0, 0, 0)) (pc' := 210) (ls' := [some (.inl (some 52)), some (.inl (some A)), some (.inl (some B)), some (zi y3859), some (zi xx), some (zi xy)]) (st' := []) (by decide +kernel) (fun k q => by cases q) rfl ?_
          refine y_inc (j := 5) (a := xy) (c := 1) (ls' := fun v => [some (.inl (some 52)), some (.inl (some A)), some (.inl (some B)), some (zi y3859), some (zi xx), some v]) (len := 3) (r := (0, 0, 0, 0)) (by decide +kernel) rfl (fun _ => rfl) (by decide) (by omega) (by omega) (fun y3860 hy3860 => ?_)
          show qX (d + 4) 224 213 [some (.inl (some 52)), some (.inl (some A)), some (.inl (some B)), some (zi y3859), some (zi xx), some (zi y3860)] [] h t _
          refine y_goto (off := (-74)) (pc' := 139) (len := 3) (r := (0, 0, 0, 0)) (by decide +kernel) (by decide +kernel) ?_
          refine y_same (i := .iload 5) (len := 2) (r := (0, 0, 0, 0)) (pc' := 141) (ls' := [some (.inl (some 52)), some (.inl (some A)), some (.inl (some B)), some (zi y3859), some (zi xx), some (zi y3860)]) (st' := [zi y3860]) (by decide +kernel) (fun k q => by cases q) rfl ?_
          refine y_same (i := .iload 4) (len := 2) (r := (0, 0, 0, 0)) (pc' := 143) (ls' := [some (.inl (some 52)), some (.inl (some A)), some (.inl (some B)), some (zi y3859), some (zi xx), some (zi y3860)]) (st' := [zi xx, zi y3860]) (by decide +kernel) (fun k q => by cases q) rfl ?_
          rcases Decidable.em (y3860.toInt ≥ xx.toInt) with q3861 | q3861
          ·
            refine y_cT (c := .ge) (off := 73) (pc' := 216) (len := 3) (r := (0, 0, 0, 0)) (by decide +kernel) (acmpT (c := .ge) (by show _ ≤ _; omega)) (by decide +kernel) ?_
            refine y_inc (j := 4) (a := xx) (c := 1) (ls' := fun v => [some (.inl (some 52)), some (.inl (some A)), some (.inl (some B)), some (zi y3859), some v, some (zi y3860)]) (len := 3) (r := (0, 0, 0, 0)) (by decide +kernel) rfl (fun _ => rfl) (by decide) (by omega) (by omega) (fun y3862 hy3862 => ?_)
            show qX (d + 4) 224 219 [some (.inl (some 52)), some (.inl (some A)), some (.inl (some B)), some (zi y3859), some (zi y3862), some (zi y3860)] [] h t _
            refine y_goto (off := (-94)) (pc' := 125) (len := 3) (r := (0, 0, 0, 0)) (by decide +kernel) (by decide +kernel) ?_
            refine y_same (i := .iload 4) (len := 2) (r := (0, 0, 0, 0)) (pc' := 127) (ls' := [some (.inl (some 52)), some (.inl (some A)), some (.inl (some B)), some (zi y3859), some (zi y3862), some (zi y3860)]) (st' := [zi y3862]) (by decide +kernel) (fun k q => by cases q) rfl ?_
            refine y_bi (c := 21) (len := 2) (r := (0, 0, 0, 0)) (by decide +kernel) (by decide) (fun y3863 hy3863 => ?_)
            rcases Decidable.em (y3862.toInt ≥ y3863.toInt) with q3864 | q3864
            ·
              refine y_cT (c := .ge) (off := 93) (pc' := 222) (len := 3) (r := (0, 0, 0, 0)) (by decide +kernel) (acmpT (c := .ge) (by show _ ≤ _; omega)) (by decide +kernel) ?_
              refine y_same (i := .iload_n 3) (len := 1) (r := (0, 0, 0, 0)) (pc' := 223) (ls' := [some (.inl (some 52)), some (.inl (some A)), some (.inl (some B)), some (zi y3859), some (zi y3862), some (zi y3860)]) (st' := [zi y3859]) (by decide +kernel) (fun k q => by cases q) rfl ?_
              refine y_rI (len := 1) (r := (0, 0, 0, 0)) (nL := 6) (k := 2) (n9 := 3) (hs := []) (by decide +kernel) rfl (zfit_b (by omega) (by omega)).2 ?_
              exact ⟨rfl, Or.inr ⟨by omega, fun q8 => by have q7 := Q2.2.2.2.2.2.2.1 _ _ (q8 _ _ by3856); omega⟩⟩
            ·
              refine y_cF (c := .ge) (off := 93) (len := 3) (r := (0, 0, 0, 0)) (by decide +kernel) (acmpF (c := .ge) (by show _ < _; omega)) ?_
              refine y_same (i := .iload_n 3) (len := 1) (r := (0, 0, 0, 0)) (pc' := 133) (ls' := [some (.inl (some 52)), some (.inl (some A)), some (.inl (some B)), some (zi y3859), some (zi y3862), some (zi y3860)]) (st' := [zi y3859]) (by decide +kernel) (fun k q => by cases q) rfl ?_
              refine y_iT (c := .eq) (off := 89) (pc' := 222) (len := 3) (r := (0, 0, 0, 0)) (by decide +kernel) (acmpT (c := .eq) (by show _ = _; omega)) (by decide +kernel) ?_
              refine y_same (i := .iload_n 3) (len := 1) (r := (0, 0, 0, 0)) (pc' := 223) (ls' := [some (.inl (some 52)), some (.inl (some A)), some (.inl (some B)), some (zi y3859), some (zi y3862), some (zi y3860)]) (st' := [zi y3859]) (by decide +kernel) (fun k q => by cases q) rfl ?_
              refine y_rI (len := 1) (r := (0, 0, 0, 0)) (nL := 6) (k := 2) (n9 := 3) (hs := []) (by decide +kernel) rfl (zfit_b (by omega) (by omega)).2 ?_
              exact ⟨rfl, Or.inr ⟨by omega, fun q8 => by have q7 := Q2.2.2.2.2.2.2.1 _ _ (q8 _ _ by3856); omega⟩⟩
          ·
            refine y_cF (c := .ge) (off := 73) (len := 3) (r := (0, 0, 0, 0)) (by decide +kernel) (acmpF (c := .ge) (by show _ < _; omega)) ?_
            refine y_same (i := .iload_n 3) (len := 1) (r := (0, 0, 0, 0)) (pc' := 147) (ls' := [some (.inl (some 52)), some (.inl (some A)), some (.inl (some B)), some (zi y3859), some (zi xx), some (zi y3860)]) (st' := [zi y3859]) (by decide +kernel) (fun k q => by cases q) rfl ?_
            refine y_iT (c := .eq) (off := 69) (pc' := 216) (len := 3) (r := (0, 0, 0, 0)) (by decide +kernel) (acmpT (c := .eq) (by show _ = _; omega)) (by decide +kernel) ?_
            refine y_inc (j := 4) (a := xx) (c := 1) (ls' := fun v => [some (.inl (some 52)), some (.inl (some A)), some (.inl (some B)), some (zi y3859), some v, some (zi y3860)]) (len := 3) (r := (0, 0, 0, 0)) (by decide +kernel) rfl (fun _ => rfl) (by decide) (by omega) (by omega) (fun y3865 hy3865 => ?_)
            show qX (d + 4) 224 219 [some (.inl (some 52)), some (.inl (some A)), some (.inl (some B)), some (zi y3859), some (zi y3865), some (zi y3860)] [] h t _
            refine y_goto (off := (-94)) (pc' := 125) (len := 3) (r := (0, 0, 0, 0)) (by decide +kernel) (by decide +kernel) ?_
            refine y_same (i := .iload 4) (len := 2) (r := (0, 0, 0, 0)) (pc' := 127) (ls' := [some (.inl (some 52)), some (.inl (some A)), some (.inl (some B)), some (zi y3859), some (zi y3865), some (zi y3860)]) (st' := [zi y3865]) (by decide +kernel) (fun k q => by cases q) rfl ?_
            refine y_bi (c := 21) (len := 2) (r := (0, 0, 0, 0)) (by decide +kernel) (by decide) (fun y3866 hy3866 => ?_)
            rcases Decidable.em (y3865.toInt ≥ y3866.toInt) with q3867 | q3867
            ·
              refine y_cT (c := .ge) (off := 93) (pc' := 222) (len := 3) (r := (0, 0, 0, 0)) (by decide +kernel) (acmpT (c := .ge) (by show _ ≤ _; omega)) (by decide +kernel) ?_
              refine y_same (i := .iload_n 3) (len := 1) (r := (0, 0, 0, 0)) (pc' := 223) (ls' := [some (.inl (some 52)), some (.inl (some A)), some (.inl (some B)), some (zi y3859), some (zi y3865), some (zi y3860)]) (st' := [zi y3859]) (by decide +kernel) (fun k q => by cases q) rfl ?_
              refine y_rI (len := 1) (r := (0, 0, 0, 0)) (nL := 6) (k := 2) (n9 := 3) (hs := []) (by decide +kernel) rfl (zfit_b (by omega) (by omega)).2 ?_
              exact ⟨rfl, Or.inr ⟨by omega, fun q8 => by have q7 := Q2.2.2.2.2.2.2.1 _ _ (q8 _ _ by3856); omega⟩⟩
            ·
              refine y_cF (c := .ge) (off := 93) (len := 3) (r := (0, 0, 0, 0)) (by decide +kernel) (acmpF (c := .ge) (by show _ < _; omega)) ?_
              refine y_same (i := .iload_n 3) (len := 1) (r := (0, 0, 0, 0)) (pc' := 133) (ls' := [some (.inl (some 52)), some (.inl (some A)), some (.inl (some B)), some (zi y3859), some (zi y3865), some (zi y3860)]) (st' := [zi y3859]) (by decide +kernel) (fun k q => by cases q) rfl ?_
              refine y_iT (c := .eq) (off := 89) (pc' := 222) (len := 3) (r := (0, 0, 0, 0)) (by decide +kernel) (acmpT (c := .eq) (by show _ = _; omega)) (by decide +kernel) ?_
              refine y_same (i := .iload_n 3) (len := 1) (r := (0, 0, 0, 0)) (pc' := 223) (ls' := [some (.inl (some 52)), some (.inl (some A)), some (.inl (some B)), some (zi y3859), some (zi y3865), some (zi y3860)]) (st' := [zi y3859]) (by decide +kernel) (fun k q => by cases q) rfl ?_
              refine y_rI (len := 1) (r := (0, 0, 0, 0)) (nL := 6) (k := 2) (n9 := 3) (hs := []) (by decide +kernel) rfl (zfit_b (by omega) (by omega)).2 ?_
              exact ⟨rfl, Or.inr ⟨by omega, fun q8 => by have q7 := Q2.2.2.2.2.2.2.1 _ _ (q8 _ _ by3856); omega⟩⟩
        ·
          refine y_cF (c := .eq) (off := 39) (len := 3) (r := (0, 0, 0, 0)) (by decide +kernel) (acmpF (c := .eq) (by show ¬ (_ = _); omega)) ?_
          obtain ⟨xr, hr, er⟩ := (H y (by omega)).1
          obtain ⟨wr, fr, lr, ur⟩ := g_int (i := y) (lo := -1) (hi := 20) Q.1 (tu68 Q.1) at68 (show y < 21 by omega) (sr1 (by omega))
          have gr := hr.symm.trans fr
          cases gr
          refine y_same (i := .aload_n 0) (len := 1) (r := (0, 0, 0, 0)) (pc' := 173) (ls' := [some (.inl (some 52)), some (.inl (some A)), some (.inl (some B)), some (zi xa), some (zi xx), some (zi xy)]) (st' := [.inl (some 52)]) (by decide +kernel) (fun k q => by cases q) rfl ?_
          refine y_get (j := 31) (len := 3) (r := (12, 13, 2, 1341)) (by decide +kernel) Q.1 (t52 Q.1) at52 rfl rfl (g_r52 (f := 13) (T2 := 68) Q.1 rfl (by decide)).1 ?_
          refine y_same (i := .iload 5) (len := 2) (r := (0, 0, 0, 0)) (pc' := 178) (ls' := [some (.inl (some 52)), some (.inl (some A)), some (.inl (some B)), some (zi xa), some (zi xx), some (zi xy)]) (st' := [zi xy, .inl (some 68)]) (by decide +kernel) (fun k q => by cases q) rfl ?_
          refine y_ial (i := y) (len := 1) (r := (0, 0, 0, 0)) (by decide +kernel) Q.1 (tu68 Q.1) at68 (by omega) hr ?_
          refine y_ic (c := (-1)) (len := 1) (r := (0, 0, 0, 0)) (by decide +kernel) (by decide) (fun y3868 hy3868 => ?_)
          rcases Decidable.em (xr.toInt = y3868.toInt) with q3869 | q3869
          ·
            refine y_cT (c := .eq) (off := 28) (pc' := 208) (len := 3) (r := (0, 0, 0, 0)) (by decide +kernel) (acmpT (c := .eq) (by show _ = _; omega)) (by decide +kernel) ?_
            refine y_ic (c := 0) (len := 1) (r := (0, 0, 0, 0)) (by decide +kernel) (by decide) (fun y3870 hy3870 => ?_)
            refine y_same (i := .istore_n 3) (len := 1) (r := (0, 0, 0, 0)) (pc' := 210) (ls' := [some (.inl (some 52)), some (.inl (some A)), some (.inl (some B)), some (zi y3870), some (zi xx), some (zi xy)]) (st' := []) (by decide +kernel) (fun k q => by cases q) rfl ?_
            refine y_inc (j := 5) (a := xy) (c := 1) (ls' := fun v => [some (.inl (some 52)), some (.inl (some A)), some (.inl (some B)), some (zi y3870), some (zi xx), some v]) (len := 3) (r := (0, 0, 0, 0)) (by decide +kernel) rfl (fun _ => rfl) (by decide) (by omega) (by omega) (fun y3871 hy3871 => ?_)
            show qX (d + 4) 224 213 [some (.inl (some 52)), some (.inl (some A)), some (.inl (some B)), some (zi y3870), some (zi xx), some (zi y3871)] [] h t _
            refine y_goto (off := (-74)) (pc' := 139) (len := 3) (r := (0, 0, 0, 0)) (by decide +kernel) (by decide +kernel) ?_
            refine y_same (i := .iload 5) (len := 2) (r := (0, 0, 0, 0)) (pc' := 141) (ls' := [some (.inl (some 52)), some (.inl (some A)), some (.inl (some B)), some (zi y3870), some (zi xx), some (zi y3871)]) (st' := [zi y3871]) (by decide +kernel) (fun k q => by cases q) rfl ?_
            refine y_same (i := .iload 4) (len := 2) (r := (0, 0, 0, 0)) (pc' := 143) (ls' := [some (.inl (some 52)), some (.inl (some A)), some (.inl (some B)), some (zi y3870), some (zi xx), some (zi y3871)]) (st' := [zi xx, zi y3871]) (by decide +kernel) (fun k q => by cases q) rfl ?_
            rcases Decidable.em (y3871.toInt ≥ xx.toInt) with q3872 | q3872
            ·
              refine y_cT (c := .ge) (off := 73) (pc' := 216) (len := 3) (r := (0, 0, 0, 0)) (by decide +kernel) (acmpT (c := .ge) (by show _ ≤ _; omega)) (by decide +kernel) ?_
              refine y_inc (j := 4) (a := xx) (c := 1) (ls' := fun v => [some (.inl (some 52)), some (.inl (some A)), some (.inl (some B)), some (zi y3870), some v, some (zi y3871)]) (len := 3) (r := (0, 0, 0, 0)) (by decide +kernel) rfl (fun _ => rfl) (by decide) (by omega) (by omega) (fun y3873 hy3873 => ?_)
              show qX (d + 4) 224 219 [some (.inl (some 52)), some (.inl (some A)), some (.inl (some B)), some (zi y3870), some (zi y3873), some (zi y3871)] [] h t _
              refine y_goto (off := (-94)) (pc' := 125) (len := 3) (r := (0, 0, 0, 0)) (by decide +kernel) (by decide +kernel) ?_
              refine y_same (i := .iload 4) (len := 2) (r := (0, 0, 0, 0)) (pc' := 127) (ls' := [some (.inl (some 52)), some (.inl (some A)), some (.inl (some B)), some (zi y3870), some (zi y3873), some (zi y3871)]) (st' := [zi y3873]) (by decide +kernel) (fun k q => by cases q) rfl ?_
              refine y_bi (c := 21) (len := 2) (r := (0, 0, 0, 0)) (by decide +kernel) (by decide) (fun y3874 hy3874 => ?_)
              rcases Decidable.em (y3873.toInt ≥ y3874.toInt) with q3875 | q3875
              ·
                refine y_cT (c := .ge) (off := 93) (pc' := 222) (len := 3) (r := (0, 0, 0, 0)) (by decide +kernel) (acmpT (c := .ge) (by show _ ≤ _; omega)) (by decide +kernel) ?_
                refine y_same (i := .iload_n 3) (len := 1) (r := (0, 0, 0, 0)) (pc' := 223) (ls' := [some (.inl (some 52)), some (.inl (some A)), some (.inl (some B)), some (zi y3870), some (zi y3873), some (zi y3871)]) (st' := [zi y3870]) (by decide +kernel) (fun k q => by cases q) rfl ?_
                refine y_rI (len := 1) (r := (0, 0, 0, 0)) (nL := 6) (k := 2) (n9 := 3) (hs := []) (by decide +kernel) rfl (zfit_b (by omega) (by omega)).2 ?_
                exact ⟨rfl, Or.inr ⟨by omega, fun q8 => by have q7 := Q2.2.2.2.2.2.2.1 _ _ (q8 _ _ by3856); omega⟩⟩
              ·
                refine y_cF (c := .ge) (off := 93) (len := 3) (r := (0, 0, 0, 0)) (by decide +kernel) (acmpF (c := .ge) (by show _ < _; omega)) ?_
                refine y_same (i := .iload_n 3) (len := 1) (r := (0, 0, 0, 0)) (pc' := 133) (ls' := [some (.inl (some 52)), some (.inl (some A)), some (.inl (some B)), some (zi y3870), some (zi y3873), some (zi y3871)]) (st' := [zi y3870]) (by decide +kernel) (fun k q => by cases q) rfl ?_
                refine y_iT (c := .eq) (off := 89) (pc' := 222) (len := 3) (r := (0, 0, 0, 0)) (by decide +kernel) (acmpT (c := .eq) (by show _ = _; omega)) (by decide +kernel) ?_
                refine y_same (i := .iload_n 3) (len := 1) (r := (0, 0, 0, 0)) (pc' := 223) (ls' := [some (.inl (some 52)), some (.inl (some A)), some (.inl (some B)), some (zi y3870), some (zi y3873), some (zi y3871)]) (st' := [zi y3870]) (by decide +kernel) (fun k q => by cases q) rfl ?_
                refine y_rI (len := 1) (r := (0, 0, 0, 0)) (nL := 6) (k := 2) (n9 := 3) (hs := []) (by decide +kernel) rfl (zfit_b (by omega) (by omega)).2 ?_
                exact ⟨rfl, Or.inr ⟨by omega, fun q8 => by have q7 := Q2.2.2.2.2.2.2.1 _ _ (q8 _ _ by3856); omega⟩⟩
            ·
              refine y_cF (c := .ge) (off := 73) (len := 3) (r := (0, 0, 0, 0)) (by decide +kernel) (acmpF (c := .ge) (by show _ < _; omega)) ?_
              refine y_same (i := .iload_n 3) (len := 1) (r := (0, 0, 0, 0)) (pc' := 147) (ls' := [some (.inl (some 52)), some (.inl (some A)), some (.inl (some B)), some (zi y3870), some (zi xx), some (zi y3871)]) (st' := [zi y3870]) (by decide +kernel) (fun k q => by cases q) rfl ?_
              refine y_iT (c := .eq) (off := 69) (pc' := 216) (len := 3) (r := (0, 0, 0, 0)) (by decide +kernel) (acmpT (c := .eq) (by show _ = _; omega)) (by decide +kernel) ?_
              refine y_inc (j := 4) (a := xx) (c := 1) (ls' := fun v => [some (.inl (some 52)), some (.inl (some A)), some (.inl (some B)), some (zi y3870), some v, some (zi y3871)]) (len := 3) (r := (0, 0, 0, 0)) (by decide +kernel) rfl (fun _ => rfl) (by decide) (by omega) (by omega) (fun y3876 hy3876 => ?_)
              show qX (d + 4) 224 219 [some (.inl (some 52)), some (.inl (some A)), some (.inl (some B)), some (zi y3870), some (zi y3876), some (zi y3871)] [] h t _
              refine y_goto (off := (-94)) (pc' := 125) (len := 3) (r := (0, 0, 0, 0)) (by decide +kernel) (by decide +kernel) ?_
              refine y_same (i := .iload 4) (len := 2) (r := (0, 0, 0, 0)) (pc' := 127) (ls' := [some (.inl (some 52)), some (.inl (some A)), some (.inl (some B)), some (zi y3870), some (zi y3876), some (zi y3871)]) (st' := [zi y3876]) (by decide +kernel) (fun k q => by cases q) rfl ?_
              refine y_bi (c := 21) (len := 2) (r := (0, 0, 0, 0)) (by decide +kernel) (by decide) (fun y3877 hy3877 => ?_)
              rcases Decidable.em (y3876.toInt ≥ y3877.toInt) with q3878 | q3878
              ·
                refine y_cT (c := .ge) (off := 93) (pc' := 222) (len := 3) (r := (0, 0, 0, 0)) (by decide +kernel) (acmpT (c := .ge) (by show _ ≤ _; omega)) (by decide +kernel) ?_
                refine y_same (i := .iload_n 3) (len := 1) (r := (0, 0, 0, 0)) (pc' := 223) (ls' := [some (.inl (some 52)), some (.inl (some A)), some (.inl (some B)), some (zi y3870), some (zi y3876), some (zi y3871)]) (st' := [zi y3870]) (by decide +kernel) (fun k q => by cases q) rfl ?_
                refine y_rI (len := 1) (r := (0, 0, 0, 0)) (nL := 6) (k := 2) (n9 := 3) (hs := []) (by decide +kernel) rfl (zfit_b (by omega) (by omega)).2 ?_
                exact ⟨rfl, Or.inr ⟨by omega, fun q8 => by have q7 := Q2.2.2.2.2.2.2.1 _ _ (q8 _ _ by3856); omega⟩⟩
              ·
                refine y_cF (c := .ge) (off := 93) (len := 3) (r := (0, 0, 0, 0)) (by decide +kernel) (acmpF (c := .ge) (by show _ < _; omega)) ?_
                refine y_same (i := .iload_n 3) (len := 1) (r := (0, 0, 0, 0)) (pc' := 133) (ls' := [some (.inl (some 52)), some (.inl (some A)), some (.inl (some B)), some (zi y3870), some (zi y3876), some (zi y3871)]) (st' := [zi y3870]) (by decide +kernel) (fun k q => by cases q) rfl ?_
                refine y_iT (c := .eq) (off := 89) (pc' := 222) (len := 3) (r := (0, 0, 0, 0)) (by decide +kernel) (acmpT (c := .eq) (by show _ = _; omega)) (by decide +kernel) ?_
                refine y_same (i := .iload_n 3) (len := 1) (r := (0, 0, 0, 0)) (pc' := 223) (ls' := [some (.inl (some 52)), some (.inl (some A)), some (.inl (some B)), some (zi y3870), some (zi y3876), some (zi y3871)]) (st' := [zi y3870]) (by decide +kernel) (fun k q => by cases q) rfl ?_
                refine y_rI (len := 1) (r := (0, 0, 0, 0)) (nL := 6) (k := 2) (n9 := 3) (hs := []) (by decide +kernel) rfl (zfit_b (by omega) (by omega)).2 ?_
                exact ⟨rfl, Or.inr ⟨by omega, fun q8 => by have q7 := Q2.2.2.2.2.2.2.1 _ _ (q8 _ _ by3856); omega⟩⟩
          ·
            refine y_cF (c := .eq) (off := 28) (len := 3) (r := (0, 0, 0, 0)) (by decide +kernel) (acmpF (c := .eq) (by show ¬ (_ = _); omega)) ?_
            refine y_same (i := .aload_n 2) (len := 1) (r := (0, 0, 0, 0)) (pc' := 184) (ls' := [some (.inl (some 52)), some (.inl (some A)), some (.inl (some B)), some (zi xa), some (zi xx), some (zi xy)]) (st' := [.inl (some B)]) (by decide +kernel) (fun k q => by cases q) rfl ?_
            refine y_same (i := .aload_n 0) (len := 1) (r := (0, 0, 0, 0)) (pc' := 185) (ls' := [some (.inl (some 52)), some (.inl (some A)), some (.inl (some B)), some (zi xa), some (zi xx), some (zi xy)]) (st' := [.inl (some 52), .inl (some B)]) (by decide +kernel) (fun k q => by cases q) rfl ?_
            refine y_get (j := 31) (len := 3) (r := (12, 13, 2, 1341)) (by decide +kernel) Q.1 (t52 Q.1) at52 rfl rfl (g_r52 (f := 13) (T2 := 68) Q.1 rfl (by decide)).1 ?_
            refine y_same (i := .iload 4) (len := 2) (r := (0, 0, 0, 0)) (pc' := 190) (ls' := [some (.inl (some 52)), some (.inl (some A)), some (.inl (some B)), some (zi xa), some (zi xx), some (zi xy)]) (st' := [zi xx, .inl (some 68), .inl (some B)]) (by decide +kernel) (fun k q => by cases q) rfl ?_
            refine y_ial (i := x) (len := 1) (r := (0, 0, 0, 0)) (by decide +kernel) Q.1 (tu68 Q.1) at68 (by omega) hp ?_
            refine y_same (i := .aload_n 0) (len := 1) (r := (0, 0, 0, 0)) (pc' := 192) (ls' := [some (.inl (some 52)), some (.inl (some A)), some (.inl (some B)), some (zi xa), some (zi xx), some (zi xy)]) (st' := [.inl (some 52), zi xp, .inl (some B)]) (by decide +kernel) (fun k q => by cases q) rfl ?_
            refine y_get (j := 31) (len := 3) (r := (12, 13, 2, 1341)) (by decide +kernel) Q.1 (t52 Q.1) at52 rfl rfl (g_r52 (f := 13) (T2 := 68) Q.1 rfl (by decide)).1 ?_
            refine y_same (i := .iload 5) (len := 2) (r := (0, 0, 0, 0)) (pc' := 197) (ls' := [some (.inl (some 52)), some (.inl (some A)), some (.inl (some B)), some (zi xa), some (zi xx), some (zi xy)]) (st' := [zi xy, .inl (some 68), zi xp, .inl (some B)]) (by decide +kernel) (fun k q => by cases q) rfl ?_
            refine y_ial (i := y) (len := 1) (r := (0, 0, 0, 0)) (by decide +kernel) Q.1 (tu68 Q.1) at68 (by omega) hr ?_
            refine y_cI (i := .invokestatic 245) (len := 3) (r := (1, 200, 12, 1666)) (nL := 3) (k := 2) (n := 3) (hs := []) (args := [.inl (some B), zi xp, zi xr]) (rest := []) (l0 := [some (.inl (some B)), some (zi xp), some (zi xr)]) (by decide +kernel) (Or.inl ⟨_, rfl⟩) rfl rfl rfl rfl (Nat.le_of_ble_eq_true rfl) rfl rfl (qI_le (by omega) (m_dif (d := 0) (x := (m.1 x).toNat) (y := (m.1 y).toNat) Q2 (by omega) (by omega) (by omega) (by omega))) (fun y3879 qy3879 hRy3879 => ?_)
            obtain ⟨rfl, hDy3879⟩ := hRy3879
            rcases hDy3879 with ⟨vy3879, by3879⟩ | ⟨vy3879, by3879⟩
            ·
              refine y_iF (c := .eq) (off := 7) (len := 3) (r := (0, 0, 0, 0)) (by decide +kernel) (acmpF (c := .eq) (by show ¬ (_ = _); omega)) ?_
              refine y_ic (c := 1) (len := 1) (r := (0, 0, 0, 0)) (by decide +kernel) (by decide) (fun y3880 hy3880 => ?_)
              refine y_goto (off := 4) (pc' := 209) (len := 3) (r := (0, 0, 0, 0)) (by decide +kernel) (by decide +kernel) ?_
              refine y_same (i := .istore_n 3) (len := 1) (r := (0, 0, 0, 0)) (pc' := 210) (ls' := [some (.inl (some 52)), some (.inl (some A)), some (.inl (some B)), some (zi y3880), some (zi xx), some (zi xy)]) (st' := []) (by decide +kernel) (fun k q => by cases q) rfl ?_
              refine y_inc (j := 5) (a := xy) (c := 1) (ls' := fun v => [some (.inl (some 52)), some (.inl (some A)), some (.inl (some B)), some (zi y3880), some (zi xx), some v]) (len := 3) (r := (0, 0, 0, 0)) (by decide +kernel) rfl (fun _ => rfl) (by decide) (by omega) (by omega) (fun y3881 hy3881 => ?_)
              show qX (d + 4) 224 213 [some (.inl (some 52)), some (.inl (some A)), some (.inl (some B)), some (zi y3880), some (zi xx), some (zi y3881)] [] h t _
              refine y_goto (off := (-74)) (pc' := 139) (len := 3) (r := (0, 0, 0, 0)) (by decide +kernel) (by decide +kernel) ?_
              have e9 : s2.2.2.2 (m.1 x) (m.1 y) := by rw [show m.1 x = (((m.1 x).toNat : Nat) : Int) by omega, show m.1 y = (((m.1 y).toNat : Nat) : Int) by omega]; exact by3879
              refine ih (y + 1) y3880 y3881 (by omega) (by omega) (by omega) (fun j hj q5 => ?_) (by omega)
              rcases Nat.lt_or_ge j y with q9 | q9
              · exact c1 j q9 q5
              · obtain rfl : j = y := by omega
                exact e9
            ·
              refine y_iT (c := .eq) (off := 7) (pc' := 208) (len := 3) (r := (0, 0, 0, 0)) (by decide +kernel) (acmpT (c := .eq) (by show _ = _; omega)) (by decide +kernel) ?_
              refine y_ic (c := 0) (len := 1) (r := (0, 0, 0, 0)) (by decide +kernel) (by decide) (fun y3882 hy3882 => ?_)
              refine y_same (i := .istore_n 3) (len := 1) (r := (0, 0, 0, 0)) (pc' := 210) (ls' := [some (.inl (some 52)), some (.inl (some A)), some (.inl (some B)), some (zi y3882), some (zi xx), some (zi xy)]) (st' := []) (by decide +kernel) (fun k q => by cases q) rfl ?_
              refine y_inc (j := 5) (a := xy) (c := 1) (ls' := fun v => [some (.inl (some 52)), some (.inl (some A)), some (.inl (some B)), some (zi y3882), some (zi xx), some v]) (len := 3) (r := (0, 0, 0, 0)) (by decide +kernel) rfl (fun _ => rfl) (by decide) (by omega) (by omega) (fun y3883 hy3883 => ?_)
              show qX (d + 4) 224 213 [some (.inl (some 52)), some (.inl (some A)), some (.inl (some B)), some (zi y3882), some (zi xx), some (zi y3883)] [] h t _
              refine y_goto (off := (-74)) (pc' := 139) (len := 3) (r := (0, 0, 0, 0)) (by decide +kernel) (by decide +kernel) ?_
              refine y_same (i := .iload 5) (len := 2) (r := (0, 0, 0, 0)) (pc' := 141) (ls' := [some (.inl (some 52)), some (.inl (some A)), some (.inl (some B)), some (zi y3882), some (zi xx), some (zi y3883)]) (st' := [zi y3883]) (by decide +kernel) (fun k q => by cases q) rfl ?_
              refine y_same (i := .iload 4) (len := 2) (r := (0, 0, 0, 0)) (pc' := 143) (ls' := [some (.inl (some 52)), some (.inl (some A)), some (.inl (some B)), some (zi y3882), some (zi xx), some (zi y3883)]) (st' := [zi xx, zi y3883]) (by decide +kernel) (fun k q => by cases q) rfl ?_
              rcases Decidable.em (y3883.toInt ≥ xx.toInt) with q3884 | q3884
              ·
                refine y_cT (c := .ge) (off := 73) (pc' := 216) (len := 3) (r := (0, 0, 0, 0)) (by decide +kernel) (acmpT (c := .ge) (by show _ ≤ _; omega)) (by decide +kernel) ?_
                refine y_inc (j := 4) (a := xx) (c := 1) (ls' := fun v => [some (.inl (some 52)), some (.inl (some A)), some (.inl (some B)), some (zi y3882), some v, some (zi y3883)]) (len := 3) (r := (0, 0, 0, 0)) (by decide +kernel) rfl (fun _ => rfl) (by decide) (by omega) (by omega) (fun y3885 hy3885 => ?_)
                show qX (d + 4) 224 219 [some (.inl (some 52)), some (.inl (some A)), some (.inl (some B)), some (zi y3882), some (zi y3885), some (zi y3883)] [] h t _
                refine y_goto (off := (-94)) (pc' := 125) (len := 3) (r := (0, 0, 0, 0)) (by decide +kernel) (by decide +kernel) ?_
                refine y_same (i := .iload 4) (len := 2) (r := (0, 0, 0, 0)) (pc' := 127) (ls' := [some (.inl (some 52)), some (.inl (some A)), some (.inl (some B)), some (zi y3882), some (zi y3885), some (zi y3883)]) (st' := [zi y3885]) (by decide +kernel) (fun k q => by cases q) rfl ?_
                refine y_bi (c := 21) (len := 2) (r := (0, 0, 0, 0)) (by decide +kernel) (by decide) (fun y3886 hy3886 => ?_)
                rcases Decidable.em (y3885.toInt ≥ y3886.toInt) with q3887 | q3887
                ·
                  refine y_cT (c := .ge) (off := 93) (pc' := 222) (len := 3) (r := (0, 0, 0, 0)) (by decide +kernel) (acmpT (c := .ge) (by show _ ≤ _; omega)) (by decide +kernel) ?_
                  refine y_same (i := .iload_n 3) (len := 1) (r := (0, 0, 0, 0)) (pc' := 223) (ls' := [some (.inl (some 52)), some (.inl (some A)), some (.inl (some B)), some (zi y3882), some (zi y3885), some (zi y3883)]) (st' := [zi y3882]) (by decide +kernel) (fun k q => by cases q) rfl ?_
                  refine y_rI (len := 1) (r := (0, 0, 0, 0)) (nL := 6) (k := 2) (n9 := 3) (hs := []) (by decide +kernel) rfl (zfit_b (by omega) (by omega)).2 ?_
                  exact ⟨rfl, Or.inr ⟨by omega, fun q8 => by3879 (by have q7 := q8 _ _ by3856; rw [show m.1 x = (((m.1 x).toNat : Nat) : Int) by omega, show m.1 y = (((m.1 y).toNat : Nat) : Int) by omega] at q7; exact q7)⟩⟩
                ·
                  refine y_cF (c := .ge) (off := 93) (len := 3) (r := (0, 0, 0, 0)) (by decide +kernel) (acmpF (c := .ge) (by show _ < _; omega)) ?_
                  refine y_same (i := .iload_n 3) (len := 1) (r := (0, 0, 0, 0)) (pc' := 133) (ls' := [some (.inl (some 52)), some (.inl (some A)), some (.inl (some B)), some (zi y3882), some (zi y3885), some (zi y3883)]) (st' := [zi y3882]) (by decide +kernel) (fun k q => by cases q) rfl ?_
                  refine y_iT (c := .eq) (off := 89) (pc' := 222) (len := 3) (r := (0, 0, 0, 0)) (by decide +kernel) (acmpT (c := .eq) (by show _ = _; omega)) (by decide +kernel) ?_
                  refine y_same (i := .iload_n 3) (len := 1) (r := (0, 0, 0, 0)) (pc' := 223) (ls' := [some (.inl (some 52)), some (.inl (some A)), some (.inl (some B)), some (zi y3882), some (zi y3885), some (zi y3883)]) (st' := [zi y3882]) (by decide +kernel) (fun k q => by cases q) rfl ?_
                  refine y_rI (len := 1) (r := (0, 0, 0, 0)) (nL := 6) (k := 2) (n9 := 3) (hs := []) (by decide +kernel) rfl (zfit_b (by omega) (by omega)).2 ?_
                  exact ⟨rfl, Or.inr ⟨by omega, fun q8 => by3879 (by have q7 := q8 _ _ by3856; rw [show m.1 x = (((m.1 x).toNat : Nat) : Int) by omega, show m.1 y = (((m.1 y).toNat : Nat) : Int) by omega] at q7; exact q7)⟩⟩
              ·
                refine y_cF (c := .ge) (off := 73) (len := 3) (r := (0, 0, 0, 0)) (by decide +kernel) (acmpF (c := .ge) (by show _ < _; omega)) ?_
                refine y_same (i := .iload_n 3) (len := 1) (r := (0, 0, 0, 0)) (pc' := 147) (ls' := [some (.inl (some 52)), some (.inl (some A)), some (.inl (some B)), some (zi y3882), some (zi xx), some (zi y3883)]) (st' := [zi y3882]) (by decide +kernel) (fun k q => by cases q) rfl ?_
                refine y_iT (c := .eq) (off := 69) (pc' := 216) (len := 3) (r := (0, 0, 0, 0)) (by decide +kernel) (acmpT (c := .eq) (by show _ = _; omega)) (by decide +kernel) ?_
                refine y_inc (j := 4) (a := xx) (c := 1) (ls' := fun v => [some (.inl (some 52)), some (.inl (some A)), some (.inl (some B)), some (zi y3882), some v, some (zi y3883)]) (len := 3) (r := (0, 0, 0, 0)) (by decide +kernel) rfl (fun _ => rfl) (by decide) (by omega) (by omega) (fun y3888 hy3888 => ?_)
                show qX (d + 4) 224 219 [some (.inl (some 52)), some (.inl (some A)), some (.inl (some B)), some (zi y3882), some (zi y3888), some (zi y3883)] [] h t _
                refine y_goto (off := (-94)) (pc' := 125) (len := 3) (r := (0, 0, 0, 0)) (by decide +kernel) (by decide +kernel) ?_
                refine y_same (i := .iload 4) (len := 2) (r := (0, 0, 0, 0)) (pc' := 127) (ls' := [some (.inl (some 52)), some (.inl (some A)), some (.inl (some B)), some (zi y3882), some (zi y3888), some (zi y3883)]) (st' := [zi y3888]) (by decide +kernel) (fun k q => by cases q) rfl ?_
                refine y_bi (c := 21) (len := 2) (r := (0, 0, 0, 0)) (by decide +kernel) (by decide) (fun y3889 hy3889 => ?_)
                rcases Decidable.em (y3888.toInt ≥ y3889.toInt) with q3890 | q3890
                ·
                  refine y_cT (c := .ge) (off := 93) (pc' := 222) (len := 3) (r := (0, 0, 0, 0)) (by decide +kernel) (acmpT (c := .ge) (by show _ ≤ _; omega)) (by decide +kernel) ?_
                  refine y_same (i := .iload_n 3) (len := 1) (r := (0, 0, 0, 0)) (pc' := 223) (ls' := [some (.inl (some 52)), some (.inl (some A)), some (.inl (some B)), some (zi y3882), some (zi y3888), some (zi y3883)]) (st' := [zi y3882]) (by decide +kernel) (fun k q => by cases q) rfl ?_
                  refine y_rI (len := 1) (r := (0, 0, 0, 0)) (nL := 6) (k := 2) (n9 := 3) (hs := []) (by decide +kernel) rfl (zfit_b (by omega) (by omega)).2 ?_
                  exact ⟨rfl, Or.inr ⟨by omega, fun q8 => by3879 (by have q7 := q8 _ _ by3856; rw [show m.1 x = (((m.1 x).toNat : Nat) : Int) by omega, show m.1 y = (((m.1 y).toNat : Nat) : Int) by omega] at q7; exact q7)⟩⟩
                ·
                  refine y_cF (c := .ge) (off := 93) (len := 3) (r := (0, 0, 0, 0)) (by decide +kernel) (acmpF (c := .ge) (by show _ < _; omega)) ?_
                  refine y_same (i := .iload_n 3) (len := 1) (r := (0, 0, 0, 0)) (pc' := 133) (ls' := [some (.inl (some 52)), some (.inl (some A)), some (.inl (some B)), some (zi y3882), some (zi y3888), some (zi y3883)]) (st' := [zi y3882]) (by decide +kernel) (fun k q => by cases q) rfl ?_
                  refine y_iT (c := .eq) (off := 89) (pc' := 222) (len := 3) (r := (0, 0, 0, 0)) (by decide +kernel) (acmpT (c := .eq) (by show _ = _; omega)) (by decide +kernel) ?_
                  refine y_same (i := .iload_n 3) (len := 1) (r := (0, 0, 0, 0)) (pc' := 223) (ls' := [some (.inl (some 52)), some (.inl (some A)), some (.inl (some B)), some (zi y3882), some (zi y3888), some (zi y3883)]) (st' := [zi y3882]) (by decide +kernel) (fun k q => by cases q) rfl ?_
                  refine y_rI (len := 1) (r := (0, 0, 0, 0)) (nL := 6) (k := 2) (n9 := 3) (hs := []) (by decide +kernel) rfl (zfit_b (by omega) (by omega)).2 ?_
                  exact ⟨rfl, Or.inr ⟨by omega, fun q8 => by3879 (by have q7 := q8 _ _ by3856; rw [show m.1 x = (((m.1 x).toNat : Nat) : Int) by omega, show m.1 y = (((m.1 y).toNat : Nat) : Int) by omega] at q7; exact q7)⟩⟩
      ·
        refine y_iT (c := .eq) (off := 52) (pc' := 210) (len := 3) (r := (0, 0, 0, 0)) (by decide +kernel) (acmpT (c := .eq) (by show _ = _; omega)) (by decide +kernel) ?_
        refine y_inc (j := 5) (a := xy) (c := 1) (ls' := fun v => [some (.inl (some 52)), some (.inl (some A)), some (.inl (some B)), some (zi xa), some (zi xx), some v]) (len := 3) (r := (0, 0, 0, 0)) (by decide +kernel) rfl (fun _ => rfl) (by decide) (by omega) (by omega) (fun y3891 hy3891 => ?_)
        show qX (d + 4) 224 213 [some (.inl (some 52)), some (.inl (some A)), some (.inl (some B)), some (zi xa), some (zi xx), some (zi y3891)] [] h t _
        refine y_goto (off := (-74)) (pc' := 139) (len := 3) (r := (0, 0, 0, 0)) (by decide +kernel) (by decide +kernel) ?_
        refine ih (y + 1) xa y3891 (by omega) (by omega) (by omega) (fun j hj q5 => ?_) (by omega)
        rcases Nat.lt_or_ge j y with q9 | q9
        · exact c1 j q9 q5
        · obtain rfl : j = y := by omega
          exact absurd q5 by3856
theorem tpm_x {d t : Nat} {τ : List Nat} {h : zh} {A B : Nat} {s s2 : sqT} {m : mp2} (Q : QM τ h A s) (Q2 : QM τ h B s2) (H : mpM h m) (nD : ∀ a, ¬ s.2.2.2 a a) : ∀ (n : Nat) (x : Nat) (xa : Int32) (xx : Int32) (l5 : Option zv), (xa.toInt = 1) → (xx.toInt = (x : Int)) → (x ≤ 21) → (∀ i : Nat, i < x → ∀ j : Nat, j < i → s.2.2.2 (i : Int) (j : Int) → s2.2.2.2 (m.1 i) (m.1 j)) → (21 < x + n) → qX (d + 4) 224 125 [some (.inl (some 52)), some (.inl (some A)), some (.inl (some B)), some (zi xa), some (zi xx), l5] [] h t (rI (fun y1 h1 => h = h1 ∧ ((y1.toInt = 1 ∧ (∀ a b, s.2.2.2 a b → s2.2.2.2 (m.1 a) (m.1 b))) ∨ (y1.toInt = 0 ∧ ¬ (∀ a b, s.2.2.2 a b → s2.2.2.2 (m.1 a) (m.1 b))))) t) := by
  intro n
  induction n with
  | zero =>
    intro x xa xx l5 hxa hxx hx c1 hn
    exfalso
    omega
  | succ n ih =>
    intro x xa xx l5 hxa hxx hx c1 hn
    skip
    refine y_same (i := .iload 4) (len := 2) (r := (0, 0, 0, 0)) (pc' := 127) (ls' := [some (.inl (some 52)), some (.inl (some A)), some (.inl (some B)), some (zi xa), some (zi xx), l5]) (st' := [zi xx]) (by decide +kernel) (fun k q => by cases q) rfl ?_
    refine y_bi (c := 21) (len := 2) (r := (0, 0, 0, 0)) (by decide +kernel) (by decide) (fun y3892 hy3892 => ?_)
    rcases Decidable.em (xx.toInt ≥ y3892.toInt) with q3893 | q3893
    ·
      refine y_cT (c := .ge) (off := 93) (pc' := 222) (len := 3) (r := (0, 0, 0, 0)) (by decide +kernel) (acmpT (c := .ge) (by show _ ≤ _; omega)) (by decide +kernel) ?_
      refine y_same (i := .iload_n 3) (len := 1) (r := (0, 0, 0, 0)) (pc' := 223) (ls' := [some (.inl (some 52)), some (.inl (some A)), some (.inl (some B)), some (zi xa), some (zi xx), l5]) (st' := [zi xa]) (by decide +kernel) (fun k q => by cases q) rfl ?_
      refine y_rI (len := 1) (r := (0, 0, 0, 0)) (nL := 6) (k := 2) (n9 := 3) (hs := []) (by decide +kernel) rfl (zfit_b (by omega) (by omega)).2 ?_
      refine ⟨rfl, Or.inl ⟨by omega, fun a b q9 => ?_⟩⟩
      obtain ⟨⟨a1, a2⟩, b1, b2⟩ := Q.2.2.2.2.2.2.1 a b q9
      have ea : ((a.toNat : Nat) : Int) = a := by omega
      have eb : ((b.toNat : Nat) : Int) = b := by omega
      rw [← ea, ← eb] at q9 ⊢
      rcases Nat.lt_trichotomy a.toNat b.toNat with q8 | q8 | q8
      · exact Q2.2.2.2.2.2.2.2 _ _ (c1 b.toNat (by omega) a.toNat q8 (Q.2.2.2.2.2.2.2 _ _ q9))
      · rw [q8] at q9
        exact absurd q9 (nD _)
      · exact c1 a.toNat (by omega) b.toNat q8 q9
    ·
      refine y_cF (c := .ge) (off := 93) (len := 3) (r := (0, 0, 0, 0)) (by decide +kernel) (acmpF (c := .ge) (by show _ < _; omega)) ?_
      refine y_same (i := .iload_n 3) (len := 1) (r := (0, 0, 0, 0)) (pc' := 133) (ls' := [some (.inl (some 52)), some (.inl (some A)), some (.inl (some B)), some (zi xa), some (zi xx), l5]) (st' := [zi xa]) (by decide +kernel) (fun k q => by cases q) rfl ?_
      refine y_iF (c := .eq) (off := 89) (len := 3) (r := (0, 0, 0, 0)) (by decide +kernel) (acmpF (c := .eq) (by show ¬ (_ = _); omega)) ?_
      refine y_ic (c := 0) (len := 1) (r := (0, 0, 0, 0)) (by decide +kernel) (by decide) (fun y3894 hy3894 => ?_)
      refine y_same (i := .istore 5) (len := 2) (r := (0, 0, 0, 0)) (pc' := 139) (ls' := [some (.inl (some 52)), some (.inl (some A)), some (.inl (some B)), some (zi xa), some (zi xx), some (zi y3894)]) (st' := []) (by decide +kernel) (fun k q => by cases q) rfl ?_
      refine tpm_y Q Q2 H (by omega) hxx (fun xa9 l9 a9 c9 => ?_) (x + 1) 0 xa y3894 (by omega) (by omega) (by omega) (fun j hj => absurd hj (Nat.not_lt_zero j)) (by omega)
      refine y_inc (j := 4) (a := xx) (c := 1) (ls' := fun v => [some (.inl (some 52)), some (.inl (some A)), some (.inl (some B)), some (zi xa9), some v, l9]) (len := 3) (r := (0, 0, 0, 0)) (by decide +kernel) rfl (fun _ => rfl) (by decide) (by omega) (by omega) (fun y3895 hy3895 => ?_)
      show qX (d + 4) 224 219 [some (.inl (some 52)), some (.inl (some A)), some (.inl (some B)), some (zi xa9), some (zi y3895), l9] [] h t _
      refine y_goto (off := (-94)) (pc' := 125) (len := 3) (r := (0, 0, 0, 0)) (by decide +kernel) (by decide +kernel) ?_
      refine ih (x + 1) xa9 y3895 l9 a9 (by omega) (by omega) (fun i hi j hj => ?_) (by omega)
      rcases Nat.lt_or_ge i x with q9 | q9
      · exact c1 i q9 j hj
      · obtain rfl : i = x := by omega
        exact c9 j hj
theorem m_akA {d t : Nat} {τ : List Nat} {h h9 : zh} {A B : Nat} {s s2 : sqT} (nA : 70 < A) (nB : 70 < B) (nD : ∀ a, ¬ s.2.2.2 a a) (Q9 : QM τ h9 A s) (Q8 : QM τ h9 B s2) (xi9 : Int32) (l4 l5 : Option zv) (g9 : hG τ h9) (H9 : mpM h9 mpN) (F9 : FK h h9) (hL : s.1.length = s2.1.length) (hR9 : s.2.1.length = s2.2.1.length) (hC : s.2.2.1.length = s2.2.2.1.length) (hc : pD s.2.2.2 = pD s2.2.2.2) : qX (d + 4) 224 68 [some (.inl (some 52)), some (.inl (some A)), some (.inl (some B)), some (zi xi9), l4, l5] [] h9 t (rI (fun y1 h1 => hG τ h1 ∧ FK h h1 ∧ ((y1.toInt = 1 ∧ akQ s s2) ∨ (y1.toInt = 0 ∧ ¬ akQ s s2))) t) := by
  obtain ⟨T, c0, tA, aT, hc0, pT⟩ := Q9.2.1
  obtain ⟨T2, c2, tB, aB, hc2, pB⟩ := Q8.2.1
  refine y_same (i := .aload_n 0) (len := 1) (r := (0, 0, 0, 0)) (pc' := 69) (ls' := [some (.inl (some 52)), some (.inl (some A)), some (.inl (some B)), some (zi xi9), l4, l5]) (st' := [.inl (some 52)]) (by decide +kernel) (fun k q => by cases q) rfl ?_
  refine y_ic (c := 0) (len := 1) (r := (0, 0, 0, 0)) (by decide +kernel) (by decide) (fun y3919 hy3919 => ?_)
  refine y_ic (c := 0) (len := 1) (r := (0, 0, 0, 0)) (by decide +kernel) (by decide) (fun y3920 hy3920 => ?_)
  refine y_cI (i := .invokevirtual 312) (len := 3) (r := (0, 220, 12, 1745)) (nL := 3) (k := 2) (n := 3) (hs := []) (args := [.inl (some 52), zi y3919, zi y3920]) (rest := []) (l0 := [some (.inl (some 52)), some (zi y3919), some (zi y3920)]) (by decide +kernel) (Or.inr (Or.inl ⟨_, rfl⟩)) rfl rfl rfl rfl (Nat.le_of_ble_eq_true rfl) (z52 g9) rfl (qI_le (by omega) (m_tlsI (d := 0) (x := 0) (y := 0) g9 H9 (by omega) (by omega) (by omega) (by omega))) (fun y3921 h3921 hRy3921 => ?_)
  obtain ⟨hg3921, F3921, hDy3921⟩ := hRy3921
  rw [mpN_0] at hDy3921
  have Q3921_A := QM_up Q9 hg3921 (fun j => F3921 A j (by omega) (by omega))
  have Q3921_B := QM_up Q8 hg3921 (fun j => F3921 B j (by omega) (by omega))
  rcases hDy3921 with ⟨v3921, m3921, e3921, H3921⟩ | ⟨v3921, e3921⟩
  ·
    cases e3921
    refine y_iF (c := .eq) (off := 46) (len := 3) (r := (0, 0, 0, 0)) (by decide +kernel) (acmpF (c := .eq) (by show ¬ (_ = _); omega)) ?_
    refine y_same (i := .aload_n 0) (len := 1) (r := (0, 0, 0, 0)) (pc' := 78) (ls' := [some (.inl (some 52)), some (.inl (some A)), some (.inl (some B)), some (zi xi9), l4, l5]) (st' := [.inl (some 52)]) (by decide +kernel) (fun k q => by cases q) rfl ?_
    refine y_same (i := .aload_n 1) (len := 1) (r := (0, 0, 0, 0)) (pc' := 79) (ls' := [some (.inl (some 52)), some (.inl (some A)), some (.inl (some B)), some (zi xi9), l4, l5]) (st' := [.inl (some A), .inl (some 52)]) (by decide +kernel) (fun k q => by cases q) rfl ?_
    refine y_same (i := .aload_n 2) (len := 1) (r := (0, 0, 0, 0)) (pc' := 80) (ls' := [some (.inl (some 52)), some (.inl (some A)), some (.inl (some B)), some (zi xi9), l4, l5]) (st' := [.inl (some B), .inl (some A), .inl (some 52)]) (by decide +kernel) (fun k q => by cases q) rfl ?_
    refine y_bi (c := 24) (len := 2) (r := (0, 0, 0, 0)) (by decide +kernel) (by decide) (fun y3922 hy3922 => ?_)
    refine y_same (i := .aload_n 1) (len := 1) (r := (0, 0, 0, 0)) (pc' := 83) (ls' := [some (.inl (some 52)), some (.inl (some A)), some (.inl (some B)), some (zi xi9), l4, l5]) (st' := [.inl (some A), zi y3922, .inl (some B), .inl (some A), .inl (some 52)]) (by decide +kernel) (fun k q => by cases q) rfl ?_
    refine y_ic (c := 0) (len := 1) (r := (0, 0, 0, 0)) (by decide +kernel) (by decide) (fun y3923 hy3923 => ?_)
    obtain ⟨z3924, hz3924, ez3924⟩ := Q3921_A.2.2.1.1
    have ez3924 : z3924.toInt = ((s.1.length : Nat) : Int) := ez3924
    have mz3924 := qm_lenL Q3921_A
    have mz3924 : s.1.length ≤ 14 := mz3924
    refine y_ial (i := 0) (len := 1) (r := (0, 0, 0, 0)) (by decide +kernel) hg3921 tA aT (by omega) hz3924 ?_
    refine y_ic (c := 4) (len := 1) (r := (0, 0, 0, 0)) (by decide +kernel) (by decide) (fun y3925 hy3925 => ?_)
    refine y_cI (i := .invokevirtual 318) (len := 3) (r := (0, 221, 12, 1749)) (nL := 9) (k := 2) (n := 6) (hs := []) (args := [.inl (some 52), .inl (some A), .inl (some B), zi y3922, zi z3924, zi y3925]) (rest := []) (l0 := [some (.inl (some 52)), some (.inl (some A)), some (.inl (some B)), some (zi y3922), some (zi z3924), some (zi y3925), none, none, none]) (by decide +kernel) (Or.inr (Or.inl ⟨_, rfl⟩)) rfl rfl rfl rfl (Nat.le_of_ble_eq_true rfl) (z52 hg3921) rfl (qI_le (by omega) (m_rwL (d := 0) nA nB (by omega) (by omega) (by omega) (by omega) Q3921_A Q3921_B H3921 mpZ_0)) (fun y3926 h3926 hRy3926 => ?_)
    obtain ⟨hg3926, F3926, hDy3926⟩ := hRy3926
    have Q3926_A := QM_up Q3921_A hg3926 (fun j => F3926 A j (by omega) (by omega))
    have Q3926_B := QM_up Q3921_B hg3926 (fun j => F3926 B j (by omega) (by omega))
    rcases hDy3926 with ⟨v3926, m3926, e3926, H3926⟩ | ⟨v3926, e3926⟩
    ·
      have hz3926 : mpZ m3926 := mpZ_R mpZ_0 e3926
      refine y_iF (c := .eq) (off := 31) (len := 3) (r := (0, 0, 0, 0)) (by decide +kernel) (acmpF (c := .eq) (by show ¬ (_ = _); omega)) ?_
      refine y_same (i := .aload_n 0) (len := 1) (r := (0, 0, 0, 0)) (pc' := 93) (ls' := [some (.inl (some 52)), some (.inl (some A)), some (.inl (some B)), some (zi xi9), l4, l5]) (st' := [.inl (some 52)]) (by decide +kernel) (fun k q => by cases q) rfl ?_
      refine y_same (i := .aload_n 1) (len := 1) (r := (0, 0, 0, 0)) (pc' := 94) (ls' := [some (.inl (some 52)), some (.inl (some A)), some (.inl (some B)), some (zi xi9), l4, l5]) (st' := [.inl (some A), .inl (some 52)]) (by decide +kernel) (fun k q => by cases q) rfl ?_
      refine y_same (i := .aload_n 2) (len := 1) (r := (0, 0, 0, 0)) (pc' := 95) (ls' := [some (.inl (some 52)), some (.inl (some A)), some (.inl (some B)), some (zi xi9), l4, l5]) (st' := [.inl (some B), .inl (some A), .inl (some 52)]) (by decide +kernel) (fun k q => by cases q) rfl ?_
      refine y_bi (c := 80) (len := 2) (r := (0, 0, 0, 0)) (by decide +kernel) (by decide) (fun y3927 hy3927 => ?_)
      refine y_same (i := .aload_n 1) (len := 1) (r := (0, 0, 0, 0)) (pc' := 98) (ls' := [some (.inl (some 52)), some (.inl (some A)), some (.inl (some B)), some (zi xi9), l4, l5]) (st' := [.inl (some A), zi y3927, .inl (some B), .inl (some A), .inl (some 52)]) (by decide +kernel) (fun k q => by cases q) rfl ?_
      refine y_ic (c := 1) (len := 1) (r := (0, 0, 0, 0)) (by decide +kernel) (by decide) (fun y3928 hy3928 => ?_)
      obtain ⟨z3929, hz3929, ez3929⟩ := Q3926_A.2.2.1.2.1
      have ez3929 : z3929.toInt = ((s.2.1.length : Nat) : Int) := ez3929
      have mz3929 := qm_lenR Q3926_A
      have mz3929 : s.2.1.length ≤ 14 := mz3929
      refine y_ial (i := 1) (len := 1) (r := (0, 0, 0, 0)) (by decide +kernel) hg3926 tA aT (by omega) hz3929 ?_
      refine y_ic (c := 4) (len := 1) (r := (0, 0, 0, 0)) (by decide +kernel) (by decide) (fun y3930 hy3930 => ?_)
      refine y_cI (i := .invokevirtual 318) (len := 3) (r := (0, 221, 12, 1749)) (nL := 9) (k := 2) (n := 6) (hs := []) (args := [.inl (some 52), .inl (some A), .inl (some B), zi y3927, zi z3929, zi y3930]) (rest := []) (l0 := [some (.inl (some 52)), some (.inl (some A)), some (.inl (some B)), some (zi y3927), some (zi z3929), some (zi y3930), none, none, none]) (by decide +kernel) (Or.inr (Or.inl ⟨_, rfl⟩)) rfl rfl rfl rfl (Nat.le_of_ble_eq_true rfl) (z52 hg3926) rfl (qI_le (by omega) (m_rwR (d := 0) nA nB (by omega) (by omega) (by omega) (by omega) Q3926_A Q3926_B H3926 hz3926)) (fun y3931 h3931 hRy3931 => ?_)
      obtain ⟨hg3931, F3931, hDy3931⟩ := hRy3931
      have Q3931_A := QM_up Q3926_A hg3931 (fun j => F3931 A j (by omega) (by omega))
      have Q3931_B := QM_up Q3926_B hg3931 (fun j => F3931 B j (by omega) (by omega))
      rcases hDy3931 with ⟨v3931, m3931, e3931, H3931⟩ | ⟨v3931, e3931⟩
      ·
        have hz3931 : mpZ m3931 := mpZ_R hz3926 e3931
        refine y_iF (c := .eq) (off := 16) (len := 3) (r := (0, 0, 0, 0)) (by decide +kernel) (acmpF (c := .eq) (by show ¬ (_ = _); omega)) ?_
        refine y_same (i := .aload_n 0) (len := 1) (r := (0, 0, 0, 0)) (pc' := 108) (ls' := [some (.inl (some 52)), some (.inl (some A)), some (.inl (some B)), some (zi xi9), l4, l5]) (st' := [.inl (some 52)]) (by decide +kernel) (fun k q => by cases q) rfl ?_
        refine y_same (i := .aload_n 1) (len := 1) (r := (0, 0, 0, 0)) (pc' := 109) (ls' := [some (.inl (some 52)), some (.inl (some A)), some (.inl (some B)), some (zi xi9), l4, l5]) (st' := [.inl (some A), .inl (some 52)]) (by decide +kernel) (fun k q => by cases q) rfl ?_
        refine y_same (i := .aload_n 2) (len := 1) (r := (0, 0, 0, 0)) (pc' := 110) (ls' := [some (.inl (some 52)), some (.inl (some A)), some (.inl (some B)), some (zi xi9), l4, l5]) (st' := [.inl (some B), .inl (some A), .inl (some 52)]) (by decide +kernel) (fun k q => by cases q) rfl ?_
        refine y_cI (i := .invokevirtual 322) (len := 3) (r := (0, 223, 12, 1756)) (nL := 5) (k := 2) (n := 3) (hs := []) (args := [.inl (some 52), .inl (some A), .inl (some B)]) (rest := []) (l0 := [some (.inl (some 52)), some (.inl (some A)), some (.inl (some B)), none, none]) (by decide +kernel) (Or.inr (Or.inl ⟨_, rfl⟩)) rfl rfl rfl rfl (Nat.le_of_ble_eq_true rfl) (z52 hg3931) rfl (qI_le (by omega) (m_cw (d := 0) nA nB (by omega) Q3931_A Q3931_B H3931 hz3931)) (fun y3932 h3932 hRy3932 => ?_)
        obtain ⟨hg3932, F3932, hDy3932⟩ := hRy3932
        have Q3932_A := QM_up Q3931_A hg3932 (fun j => F3932 A j (by omega) (by omega))
        have Q3932_B := QM_up Q3931_B hg3932 (fun j => F3932 B j (by omega) (by omega))
        rcases hDy3932 with ⟨v3932, m3932, e3932, H3932⟩ | ⟨v3932, e3932⟩
        ·
          have hz3932 : mpZ m3932 := mpZ_R hz3931 e3932
          refine y_iF (c := .eq) (off := 7) (len := 3) (r := (0, 0, 0, 0)) (by decide +kernel) (acmpF (c := .eq) (by show ¬ (_ = _); omega)) ?_
          refine y_ic (c := 1) (len := 1) (r := (0, 0, 0, 0)) (by decide +kernel) (by decide) (fun y3933 hy3933 => ?_)
          refine y_goto (off := 4) (pc' := 121) (len := 3) (r := (0, 0, 0, 0)) (by decide +kernel) (by decide +kernel) ?_
          refine y_same (i := .istore_n 3) (len := 1) (r := (0, 0, 0, 0)) (pc' := 122) (ls' := [some (.inl (some 52)), some (.inl (some A)), some (.inl (some B)), some (zi y3933), l4, l5]) (st' := []) (by decide +kernel) (fun k q => by cases q) rfl ?_
          refine y_ic (c := 0) (len := 1) (r := (0, 0, 0, 0)) (by decide +kernel) (by decide) (fun y3934 hy3934 => ?_)
          refine y_same (i := .istore 4) (len := 2) (r := (0, 0, 0, 0)) (pc' := 125) (ls' := [some (.inl (some 52)), some (.inl (some A)), some (.inl (some B)), some (zi y3933), some (zi y3934), l5]) (st' := []) (by decide +kernel) (fun k q => by cases q) rfl ?_
          refine qX_I (tpm_x Q3932_A Q3932_B H3932 nD 22 0 y3933 y3934 l5 (by omega) (by omega) (by omega) (fun i hi => absurd hi (Nat.not_lt_zero i)) (by omega)) (fun y1 h1 hR => ?_)
          obtain ⟨rfl, hR⟩ := hR
          refine ⟨hg3932, FK_tr F9 (fun k j h1 h2 => ((F3932 k j (by omega) (by omega)).trans ((F3931 k j (by omega) (by omega)).trans ((F3926 k j (by omega) (by omega)).trans (F3921 k j (by omega) (by omega)))))), hR.elim (fun q => Or.inl ⟨q.1, hc, _, akM_e e3926 e3931 e3932, q.2⟩) (fun q => Or.inr ⟨q.1, akM_4 e3926 e3931 e3932 (fun q8 => q.2 q8.2)⟩)⟩
        ·
          refine y_iT (c := .eq) (off := 7) (pc' := 120) (len := 3) (r := (0, 0, 0, 0)) (by decide +kernel) (acmpT (c := .eq) (by show _ = _; omega)) (by decide +kernel) ?_
          refine y_ic (c := 0) (len := 1) (r := (0, 0, 0, 0)) (by decide +kernel) (by decide) (fun y3935 hy3935 => ?_)
          refine y_same (i := .istore_n 3) (len := 1) (r := (0, 0, 0, 0)) (pc' := 122) (ls' := [some (.inl (some 52)), some (.inl (some A)), some (.inl (some B)), some (zi y3935), l4, l5]) (st' := []) (by decide +kernel) (fun k q => by cases q) rfl ?_
          refine y_ic (c := 0) (len := 1) (r := (0, 0, 0, 0)) (by decide +kernel) (by decide) (fun y3936 hy3936 => ?_)
          refine y_same (i := .istore 4) (len := 2) (r := (0, 0, 0, 0)) (pc' := 125) (ls' := [some (.inl (some 52)), some (.inl (some A)), some (.inl (some B)), some (zi y3935), some (zi y3936), l5]) (st' := []) (by decide +kernel) (fun k q => by cases q) rfl ?_
          refine y_same (i := .iload 4) (len := 2) (r := (0, 0, 0, 0)) (pc' := 127) (ls' := [some (.inl (some 52)), some (.inl (some A)), some (.inl (some B)), some (zi y3935), some (zi y3936), l5]) (st' := [zi y3936]) (by decide +kernel) (fun k q => by cases q) rfl ?_
          refine y_bi (c := 21) (len := 2) (r := (0, 0, 0, 0)) (by decide +kernel) (by decide) (fun y3937 hy3937 => ?_)
          refine y_cF (c := .ge) (off := 93) (len := 3) (r := (0, 0, 0, 0)) (by decide +kernel) (acmpF (c := .ge) (by show _ < _; omega)) ?_
          refine y_same (i := .iload_n 3) (len := 1) (r := (0, 0, 0, 0)) (pc' := 133) (ls' := [some (.inl (some 52)), some (.inl (some A)), some (.inl (some B)), some (zi y3935), some (zi y3936), l5]) (st' := [zi y3935]) (by decide +kernel) (fun k q => by cases q) rfl ?_
          refine y_iT (c := .eq) (off := 89) (pc' := 222) (len := 3) (r := (0, 0, 0, 0)) (by decide +kernel) (acmpT (c := .eq) (by show _ = _; omega)) (by decide +kernel) ?_
          refine y_same (i := .iload_n 3) (len := 1) (r := (0, 0, 0, 0)) (pc' := 223) (ls' := [some (.inl (some 52)), some (.inl (some A)), some (.inl (some B)), some (zi y3935), some (zi y3936), l5]) (st' := [zi y3935]) (by decide +kernel) (fun k q => by cases q) rfl ?_
          refine y_rI (len := 1) (r := (0, 0, 0, 0)) (nL := 6) (k := 2) (n9 := 3) (hs := []) (by decide +kernel) rfl (zfit_b (by omega) (by omega)).2 ?_
          exact ⟨hg3932, FK_tr F9 (fun k j h1 h2 => ((F3932 k j (by omega) (by omega)).trans ((F3931 k j (by omega) (by omega)).trans ((F3926 k j (by omega) (by omega)).trans (F3921 k j (by omega) (by omega)))))), Or.inr ⟨by omega, akM_3 e3926 e3931 e3932⟩⟩
      ·
        refine y_iT (c := .eq) (off := 16) (pc' := 120) (len := 3) (r := (0, 0, 0, 0)) (by decide +kernel) (acmpT (c := .eq) (by show _ = _; omega)) (by decide +kernel) ?_
        refine y_ic (c := 0) (len := 1) (r := (0, 0, 0, 0)) (by decide +kernel) (by decide) (fun y3938 hy3938 => ?_)
        refine y_same (i := .istore_n 3) (len := 1) (r := (0, 0, 0, 0)) (pc' := 122) (ls' := [some (.inl (some 52)), some (.inl (some A)), some (.inl (some B)), some (zi y3938), l4, l5]) (st' := []) (by decide +kernel) (fun k q => by cases q) rfl ?_
        refine y_ic (c := 0) (len := 1) (r := (0, 0, 0, 0)) (by decide +kernel) (by decide) (fun y3939 hy3939 => ?_)
        refine y_same (i := .istore 4) (len := 2) (r := (0, 0, 0, 0)) (pc' := 125) (ls' := [some (.inl (some 52)), some (.inl (some A)), some (.inl (some B)), some (zi y3938), some (zi y3939), l5]) (st' := []) (by decide +kernel) (fun k q => by cases q) rfl ?_
        refine y_same (i := .iload 4) (len := 2) (r := (0, 0, 0, 0)) (pc' := 127) (ls' := [some (.inl (some 52)), some (.inl (some A)), some (.inl (some B)), some (zi y3938), some (zi y3939), l5]) (st' := [zi y3939]) (by decide +kernel) (fun k q => by cases q) rfl ?_
        refine y_bi (c := 21) (len := 2) (r := (0, 0, 0, 0)) (by decide +kernel) (by decide) (fun y3940 hy3940 => ?_)
        refine y_cF (c := .ge) (off := 93) (len := 3) (r := (0, 0, 0, 0)) (by decide +kernel) (acmpF (c := .ge) (by show _ < _; omega)) ?_
        refine y_same (i := .iload_n 3) (len := 1) (r := (0, 0, 0, 0)) (pc' := 133) (ls' := [some (.inl (some 52)), some (.inl (some A)), some (.inl (some B)), some (zi y3938), some (zi y3939), l5]) (st' := [zi y3938]) (by decide +kernel) (fun k q => by cases q) rfl ?_
        refine y_iT (c := .eq) (off := 89) (pc' := 222) (len := 3) (r := (0, 0, 0, 0)) (by decide +kernel) (acmpT (c := .eq) (by show _ = _; omega)) (by decide +kernel) ?_
        refine y_same (i := .iload_n 3) (len := 1) (r := (0, 0, 0, 0)) (pc' := 223) (ls' := [some (.inl (some 52)), some (.inl (some A)), some (.inl (some B)), some (zi y3938), some (zi y3939), l5]) (st' := [zi y3938]) (by decide +kernel) (fun k q => by cases q) rfl ?_
        refine y_rI (len := 1) (r := (0, 0, 0, 0)) (nL := 6) (k := 2) (n9 := 3) (hs := []) (by decide +kernel) rfl (zfit_b (by omega) (by omega)).2 ?_
        exact ⟨hg3931, FK_tr F9 (fun k j h1 h2 => ((F3931 k j (by omega) (by omega)).trans ((F3926 k j (by omega) (by omega)).trans (F3921 k j (by omega) (by omega))))), Or.inr ⟨by omega, akM_2 e3926 e3931⟩⟩
    ·
      refine y_iT (c := .eq) (off := 31) (pc' := 120) (len := 3) (r := (0, 0, 0, 0)) (by decide +kernel) (acmpT (c := .eq) (by show _ = _; omega)) (by decide +kernel) ?_
      refine y_ic (c := 0) (len := 1) (r := (0, 0, 0, 0)) (by decide +kernel) (by decide) (fun y3941 hy3941 => ?_)
      refine y_same (i := .istore_n 3) (len := 1) (r := (0, 0, 0, 0)) (pc' := 122) (ls' := [some (.inl (some 52)), some (.inl (some A)), some (.inl (some B)), some (zi y3941), l4, l5]) (st' := []) (by decide +kernel) (fun k q => by cases q) rfl ?_
      refine y_ic (c := 0) (len := 1) (r := (0, 0, 0, 0)) (by decide +kernel) (by decide) (fun y3942 hy3942 => ?_)
      refine y_same (i := .istore 4) (len := 2) (r := (0, 0, 0, 0)) (pc' := 125) (ls' := [some (.inl (some 52)), some (.inl (some A)), some (.inl (some B)), some (zi y3941), some (zi y3942), l5]) (st' := []) (by decide +kernel) (fun k q => by cases q) rfl ?_
      refine y_same (i := .iload 4) (len := 2) (r := (0, 0, 0, 0)) (pc' := 127) (ls' := [some (.inl (some 52)), some (.inl (some A)), some (.inl (some B)), some (zi y3941), some (zi y3942), l5]) (st' := [zi y3942]) (by decide +kernel) (fun k q => by cases q) rfl ?_
      refine y_bi (c := 21) (len := 2) (r := (0, 0, 0, 0)) (by decide +kernel) (by decide) (fun y3943 hy3943 => ?_)
      refine y_cF (c := .ge) (off := 93) (len := 3) (r := (0, 0, 0, 0)) (by decide +kernel) (acmpF (c := .ge) (by show _ < _; omega)) ?_
      refine y_same (i := .iload_n 3) (len := 1) (r := (0, 0, 0, 0)) (pc' := 133) (ls' := [some (.inl (some 52)), some (.inl (some A)), some (.inl (some B)), some (zi y3941), some (zi y3942), l5]) (st' := [zi y3941]) (by decide +kernel) (fun k q => by cases q) rfl ?_
      refine y_iT (c := .eq) (off := 89) (pc' := 222) (len := 3) (r := (0, 0, 0, 0)) (by decide +kernel) (acmpT (c := .eq) (by show _ = _; omega)) (by decide +kernel) ?_
      refine y_same (i := .iload_n 3) (len := 1) (r := (0, 0, 0, 0)) (pc' := 223) (ls' := [some (.inl (some 52)), some (.inl (some A)), some (.inl (some B)), some (zi y3941), some (zi y3942), l5]) (st' := [zi y3941]) (by decide +kernel) (fun k q => by cases q) rfl ?_
      refine y_rI (len := 1) (r := (0, 0, 0, 0)) (nL := 6) (k := 2) (n9 := 3) (hs := []) (by decide +kernel) rfl (zfit_b (by omega) (by omega)).2 ?_
      exact ⟨hg3926, FK_tr F9 (fun k j h1 h2 => ((F3926 k j (by omega) (by omega)).trans (F3921 k j (by omega) (by omega)))), Or.inr ⟨by omega, akM_1 e3926⟩⟩
  ·
    cases e3921
theorem m_alk {d t : Nat} {τ : List Nat} {h : zh} {A B : Nat} {s s2 : sqT} (nA : 70 < A) (nB : 70 < B) (nD : ∀ a, ¬ s.2.2.2 a a) (Q : QM τ h A s) (Q2 : QM τ h B s2) : qI (d + 5) 224 [some (.inl (some 52)), some (.inl (some A)), some (.inl (some B)), none, none, none] h t (fun y1 h1 => hG τ h1 ∧ FK h h1 ∧ ((y1.toInt = 1 ∧ akQ s s2) ∨ (y1.toInt = 0 ∧ ¬ akQ s s2))) := by
  have aft : ∀ {h9 : zh} (xi9 : Int32) (l4 l5 : Option zv), hG τ h9 → mpM h9 mpN → FK h h9 → s.1.length = s2.1.length → s.2.1.length = s2.2.1.length → s.2.2.1.length = s2.2.2.1.length → pD s.2.2.2 = pD s2.2.2.2 → qX (d + 4) 224 68 [some (.inl (some 52)), some (.inl (some A)), some (.inl (some B)), some (zi xi9), l4, l5] [] h9 t (rI (fun y1 h1 => hG τ h1 ∧ FK h h1 ∧ ((y1.toInt = 1 ∧ akQ s s2) ∨ (y1.toInt = 0 ∧ ¬ akQ s s2))) t) := fun xi9 l4 l5 g9 H9 F9 a b c e => m_akA nA nB nD (QM_up Q g9 (fun j => F9 A j (by omega) (by omega))) (QM_up Q2 g9 (fun j => F9 B j (by omega) (by omega))) xi9 l4 l5 g9 H9 F9 a b c e
  obtain ⟨T, c0, tA, aT, hc0, pT⟩ := Q.2.1
  obtain ⟨T2, c2, tB, aB, hc2, pB⟩ := Q2.2.1
  refine qI_of ?_
  refine y_same (i := .aload_n 1) (len := 1) (r := (0, 0, 0, 0)) (pc' := 1) (ls' := [some (.inl (some 52)), some (.inl (some A)), some (.inl (some B)), none, none, none]) (st' := [.inl (some A)]) (by decide +kernel) (fun k q => by cases q) rfl ?_
  refine y_ic (c := 0) (len := 1) (r := (0, 0, 0, 0)) (by decide +kernel) (by decide) (fun y3896 hy3896 => ?_)
  obtain ⟨z3897, hz3897, ez3897⟩ := Q.2.2.1.1
  have ez3897 : z3897.toInt = ((s.1.length : Nat) : Int) := ez3897
  have mz3897 := qm_lenL Q
  have mz3897 : s.1.length ≤ 14 := mz3897
  refine y_ial (i := 0) (len := 1) (r := (0, 0, 0, 0)) (by decide +kernel) Q.1 tA aT (by omega) hz3897 ?_
  refine y_same (i := .aload_n 2) (len := 1) (r := (0, 0, 0, 0)) (pc' := 4) (ls' := [some (.inl (some 52)), some (.inl (some A)), some (.inl (some B)), none, none, none]) (st' := [.inl (some B), zi z3897]) (by decide +kernel) (fun k q => by cases q) rfl ?_
  refine y_ic (c := 0) (len := 1) (r := (0, 0, 0, 0)) (by decide +kernel) (by decide) (fun y3898 hy3898 => ?_)
  obtain ⟨z3899, hz3899, ez3899⟩ := Q2.2.2.1.1
  have ez3899 : z3899.toInt = ((s2.1.length : Nat) : Int) := ez3899
  have mz3899 := qm_lenL Q2
  have mz3899 : s2.1.length ≤ 14 := mz3899
  refine y_ial (i := 0) (len := 1) (r := (0, 0, 0, 0)) (by decide +kernel) Q.1 tB aB (by omega) hz3899 ?_
  rcases Decidable.em (z3897.toInt ≠ z3899.toInt) with q3900 | q3900
  ·
    refine y_cT (c := .ne) (off := 32) (pc' := 38) (len := 3) (r := (0, 0, 0, 0)) (by decide +kernel) (acmpT (c := .ne) (by show ¬ (_ = _); omega)) (by decide +kernel) ?_
    refine y_ic (c := 0) (len := 1) (r := (0, 0, 0, 0)) (by decide +kernel) (by decide) (fun y3901 hy3901 => ?_)
    refine y_rI (len := 1) (r := (0, 0, 0, 0)) (nL := 6) (k := 2) (n9 := 3) (hs := []) (by decide +kernel) rfl (zfit_b (by omega) (by omega)).2 ?_
    exact ⟨Q.1, fun k j _ _ => rfl, Or.inr ⟨by omega, fun q9 => by have q8 := akQ_len q9; have q7 := q9.1; omega⟩⟩
  ·
    refine y_cF (c := .ne) (off := 32) (len := 3) (r := (0, 0, 0, 0)) (by decide +kernel) (acmpF (c := .ne) (by show _ = _; omega)) ?_
    refine y_same (i := .aload_n 1) (len := 1) (r := (0, 0, 0, 0)) (pc' := 10) (ls' := [some (.inl (some 52)), some (.inl (some A)), some (.inl (some B)), none, none, none]) (st' := [.inl (some A)]) (by decide +kernel) (fun k q => by cases q) rfl ?_
    refine y_ic (c := 1) (len := 1) (r := (0, 0, 0, 0)) (by decide +kernel) (by decide) (fun y3902 hy3902 => ?_)
    obtain ⟨z3903, hz3903, ez3903⟩ := Q.2.2.1.2.1
    have ez3903 : z3903.toInt = ((s.2.1.length : Nat) : Int) := ez3903
    have mz3903 := qm_lenR Q
    have mz3903 : s.2.1.length ≤ 14 := mz3903
    refine y_ial (i := 1) (len := 1) (r := (0, 0, 0, 0)) (by decide +kernel) Q.1 tA aT (by omega) hz3903 ?_
    refine y_same (i := .aload_n 2) (len := 1) (r := (0, 0, 0, 0)) (pc' := 13) (ls' := [some (.inl (some 52)), some (.inl (some A)), some (.inl (some B)), none, none, none]) (st' := [.inl (some B), zi z3903]) (by decide +kernel) (fun k q => by cases q) rfl ?_
    refine y_ic (c := 1) (len := 1) (r := (0, 0, 0, 0)) (by decide +kernel) (by decide) (fun y3904 hy3904 => ?_)
    obtain ⟨z3905, hz3905, ez3905⟩ := Q2.2.2.1.2.1
    have ez3905 : z3905.toInt = ((s2.2.1.length : Nat) : Int) := ez3905
    have mz3905 := qm_lenR Q2
    have mz3905 : s2.2.1.length ≤ 14 := mz3905
    refine y_ial (i := 1) (len := 1) (r := (0, 0, 0, 0)) (by decide +kernel) Q.1 tB aB (by omega) hz3905 ?_
    rcases Decidable.em (z3903.toInt ≠ z3905.toInt) with q3906 | q3906
    ·
      refine y_cT (c := .ne) (off := 23) (pc' := 38) (len := 3) (r := (0, 0, 0, 0)) (by decide +kernel) (acmpT (c := .ne) (by show ¬ (_ = _); omega)) (by decide +kernel) ?_
      refine y_ic (c := 0) (len := 1) (r := (0, 0, 0, 0)) (by decide +kernel) (by decide) (fun y3907 hy3907 => ?_)
      refine y_rI (len := 1) (r := (0, 0, 0, 0)) (nL := 6) (k := 2) (n9 := 3) (hs := []) (by decide +kernel) rfl (zfit_b (by omega) (by omega)).2 ?_
      exact ⟨Q.1, fun k j _ _ => rfl, Or.inr ⟨by omega, fun q9 => by have q8 := akQ_len q9; have q7 := q9.1; omega⟩⟩
    ·
      refine y_cF (c := .ne) (off := 23) (len := 3) (r := (0, 0, 0, 0)) (by decide +kernel) (acmpF (c := .ne) (by show _ = _; omega)) ?_
      refine y_same (i := .aload_n 1) (len := 1) (r := (0, 0, 0, 0)) (pc' := 19) (ls' := [some (.inl (some 52)), some (.inl (some A)), some (.inl (some B)), none, none, none]) (st' := [.inl (some A)]) (by decide +kernel) (fun k q => by cases q) rfl ?_
      refine y_ic (c := 2) (len := 1) (r := (0, 0, 0, 0)) (by decide +kernel) (by decide) (fun y3908 hy3908 => ?_)
      obtain ⟨z3909, hz3909, ez3909⟩ := Q.2.2.1.2.2.1
      have ez3909 : z3909.toInt = ((s.2.2.1.length : Nat) : Int) := ez3909
      have mz3909 := qm_lenC Q
      have mz3909 : s.2.2.1.length ≤ 14 := mz3909
      refine y_ial (i := 2) (len := 1) (r := (0, 0, 0, 0)) (by decide +kernel) Q.1 tA aT (by omega) hz3909 ?_
      refine y_same (i := .aload_n 2) (len := 1) (r := (0, 0, 0, 0)) (pc' := 22) (ls' := [some (.inl (some 52)), some (.inl (some A)), some (.inl (some B)), none, none, none]) (st' := [.inl (some B), zi z3909]) (by decide +kernel) (fun k q => by cases q) rfl ?_
      refine y_ic (c := 2) (len := 1) (r := (0, 0, 0, 0)) (by decide +kernel) (by decide) (fun y3910 hy3910 => ?_)
      obtain ⟨z3911, hz3911, ez3911⟩ := Q2.2.2.1.2.2.1
      have ez3911 : z3911.toInt = ((s2.2.2.1.length : Nat) : Int) := ez3911
      have mz3911 := qm_lenC Q2
      have mz3911 : s2.2.2.1.length ≤ 14 := mz3911
      refine y_ial (i := 2) (len := 1) (r := (0, 0, 0, 0)) (by decide +kernel) Q.1 tB aB (by omega) hz3911 ?_
      rcases Decidable.em (z3909.toInt ≠ z3911.toInt) with q3912 | q3912
      ·
        refine y_cT (c := .ne) (off := 14) (pc' := 38) (len := 3) (r := (0, 0, 0, 0)) (by decide +kernel) (acmpT (c := .ne) (by show ¬ (_ = _); omega)) (by decide +kernel) ?_
        refine y_ic (c := 0) (len := 1) (r := (0, 0, 0, 0)) (by decide +kernel) (by decide) (fun y3913 hy3913 => ?_)
        refine y_rI (len := 1) (r := (0, 0, 0, 0)) (nL := 6) (k := 2) (n9 := 3) (hs := []) (by decide +kernel) rfl (zfit_b (by omega) (by omega)).2 ?_
        exact ⟨Q.1, fun k j _ _ => rfl, Or.inr ⟨by omega, fun q9 => by have q8 := akQ_len q9; have q7 := q9.1; omega⟩⟩
      ·
        refine y_cF (c := .ne) (off := 14) (len := 3) (r := (0, 0, 0, 0)) (by decide +kernel) (acmpF (c := .ne) (by show _ = _; omega)) ?_
        refine y_same (i := .aload_n 1) (len := 1) (r := (0, 0, 0, 0)) (pc' := 28) (ls' := [some (.inl (some 52)), some (.inl (some A)), some (.inl (some B)), none, none, none]) (st' := [.inl (some A)]) (by decide +kernel) (fun k q => by cases q) rfl ?_
        refine y_cI (i := .invokestatic 315) (len := 3) (r := (1, 203, 12, 1742)) (nL := 4) (k := 1) (n := 1) (hs := []) (args := [.inl (some A)]) (rest := []) (l0 := [some (.inl (some A)), none, none, none]) (by decide +kernel) (Or.inl ⟨_, rfl⟩) rfl rfl rfl rfl (Nat.le_of_ble_eq_true rfl) rfl rfl (qI_le (by omega) (m_prs (d := 0) Q)) (fun y3914 qy3914 hRy3914 => ?_)
        obtain ⟨rfl, ey3914⟩ := hRy3914
        refine y_same (i := .aload_n 2) (len := 1) (r := (0, 0, 0, 0)) (pc' := 32) (ls' := [some (.inl (some 52)), some (.inl (some A)), some (.inl (some B)), none, none, none]) (st' := [.inl (some B), zi y3914]) (by decide +kernel) (fun k q => by cases q) rfl ?_
        refine y_cI (i := .invokestatic 315) (len := 3) (r := (1, 203, 12, 1742)) (nL := 4) (k := 1) (n := 1) (hs := []) (args := [.inl (some B)]) (rest := [zi y3914]) (l0 := [some (.inl (some B)), none, none, none]) (by decide +kernel) (Or.inl ⟨_, rfl⟩) rfl rfl rfl rfl (Nat.le_of_ble_eq_true rfl) rfl rfl (qI_le (by omega) (m_prs (d := 0) Q2)) (fun y3915 qy3915 hRy3915 => ?_)
        obtain ⟨rfl, ey3915⟩ := hRy3915
        rcases Decidable.em (y3914.toInt = y3915.toInt) with q3916 | q3916
        ·
          refine y_cT (c := .eq) (off := 5) (pc' := 40) (len := 3) (r := (0, 0, 0, 0)) (by decide +kernel) (acmpT (c := .eq) (by show _ = _; omega)) (by decide +kernel) ?_
          refine y_ic (c := 0) (len := 1) (r := (0, 0, 0, 0)) (by decide +kernel) (by decide) (fun y3917 hy3917 => ?_)
          refine y_same (i := .istore_n 3) (len := 1) (r := (0, 0, 0, 0)) (pc' := 42) (ls' := [some (.inl (some 52)), some (.inl (some A)), some (.inl (some B)), some (zi y3917), none, none]) (st' := []) (by decide +kernel) (fun k q => by cases q) rfl ?_
          refine mfl_l (h0 := h) (fun h9 xi9 g9 H9 F9 => ?_) 21 h 0 y3917 Q.1 (fun j hj => absurd hj (Nat.not_lt_zero j)) (fun _ _ _ _ => rfl) (by omega) (by omega) (by omega)
          exact aft xi9 none none g9 H9 F9 (by omega) (by omega) (by omega) (by omega)
        ·
          refine y_cF (c := .eq) (off := 5) (len := 3) (r := (0, 0, 0, 0)) (by decide +kernel) (acmpF (c := .eq) (by show ¬ (_ = _); omega)) ?_
          refine y_ic (c := 0) (len := 1) (r := (0, 0, 0, 0)) (by decide +kernel) (by decide) (fun y3918 hy3918 => ?_)
          refine y_rI (len := 1) (r := (0, 0, 0, 0)) (nL := 6) (k := 2) (n9 := 3) (hs := []) (by decide +kernel) rfl (zfit_b (by omega) (by omega)).2 ?_
          exact ⟨Q.1, fun k j _ _ => rfl, Or.inr ⟨by omega, fun q9 => by have q8 := akQ_len q9; have q7 := q9.1; omega⟩⟩
theorem m_lst {d t n : Nat} {τ : List Nat} {h : zh} {e : enT} (wf : wfE e) (h3 : 3 ≤ e.2.1) (h8 : e.2.1 ≤ 8) (hn9 : n < 300) (Q : QM τ h (71 + n) e.1) (c3 : ci_ h 373 n e.2.1) (c5 : e.2.1 ≤ 7 → ci_ h 375 n e.2.2.2.1) {xk : Int32} (hxk : xk.toInt = (n : Int)) : qI (d + 3) 232 [some (.inl (some 52)), some (zi xk)] h t (fun y h1 => h = h1 ∧ ((y.toInt = 1 ∧ lst_ e) ∨ (y.toInt = 0 ∧ ¬ lst_ e))) := by
  obtain ⟨-, -, -, kiq, -⟩ := wf_it wf h3 h8
  obtain ⟨xs, hs373, es⟩ := c3
  obtain ⟨T, c0, tA, aT, hc0, pT⟩ := Q.2.1
  have lL := qm_lenL Q
  refine qI_of ?_
  refine y_same (i := .aload_n 0) (len := 1) (r := (0, 0, 0, 0)) (pc' := 1) (ls' := [some (.inl (some 52)), some (zi xk)]) (st' := [.inl (some 52)]) (by decide +kernel) (fun k q => by cases q) rfl ?_
  refine y_get (j := 46) (len := 3) (r := (12, 18, 2, 1346)) (by decide +kernel) Q.1 (t52 Q.1) at52 rfl rfl (g_r52 (f := 18) (T2 := 373) Q.1 rfl (by decide)).1 ?_
  refine y_same (i := .iload_n 1) (len := 1) (r := (0, 0, 0, 0)) (pc' := 5) (ls' := [some (.inl (some 52)), some (zi xk)]) (st' := [zi xk, .inl (some 373)]) (by decide +kernel) (fun k q => by cases q) rfl ?_
  refine y_ial (i := n) (len := 1) (r := (0, 0, 0, 0)) (by decide +kernel) Q.1 (tu373 Q.1) at373 (by omega) hs373 ?_
  refine y_ic (c := 4) (len := 1) (r := (0, 0, 0, 0)) (by decide +kernel) (by decide) (fun y3944 hy3944 => ?_)
  rcases Decidable.em (xs.toInt = y3944.toInt) with q3945 | q3945
  ·
    refine y_cT (c := .eq) (off := 45) (pc' := 52) (len := 3) (r := (0, 0, 0, 0)) (by decide +kernel) (acmpT (c := .eq) (by show _ = _; omega)) (by decide +kernel) ?_
    refine y_ic (c := 1) (len := 1) (r := (0, 0, 0, 0)) (by decide +kernel) (by decide) (fun y3946 hy3946 => ?_)
    refine y_goto (off := 4) (pc' := 57) (len := 3) (r := (0, 0, 0, 0)) (by decide +kernel) (by decide +kernel) ?_
    refine y_rI (len := 1) (r := (0, 0, 0, 0)) (nL := 2) (k := 2) (n9 := 2) (hs := []) (by decide +kernel) rfl (zfit_b (by omega) (by omega)).2 ?_
    exact ⟨rfl, Or.inl ⟨by omega, by unfold lst_; omega⟩⟩
  ·
    refine y_cF (c := .eq) (off := 45) (len := 3) (r := (0, 0, 0, 0)) (by decide +kernel) (acmpF (c := .eq) (by show ¬ (_ = _); omega)) ?_
    refine y_same (i := .aload_n 0) (len := 1) (r := (0, 0, 0, 0)) (pc' := 11) (ls' := [some (.inl (some 52)), some (zi xk)]) (st' := [.inl (some 52)]) (by decide +kernel) (fun k q => by cases q) rfl ?_
    refine y_get (j := 46) (len := 3) (r := (12, 18, 2, 1346)) (by decide +kernel) Q.1 (t52 Q.1) at52 rfl rfl (g_r52 (f := 18) (T2 := 373) Q.1 rfl (by decide)).1 ?_
    refine y_same (i := .iload_n 1) (len := 1) (r := (0, 0, 0, 0)) (pc' := 15) (ls' := [some (.inl (some 52)), some (zi xk)]) (st' := [zi xk, .inl (some 373)]) (by decide +kernel) (fun k q => by cases q) rfl ?_
    refine y_ial (i := n) (len := 1) (r := (0, 0, 0, 0)) (by decide +kernel) Q.1 (tu373 Q.1) at373 (by omega) hs373 ?_
    refine y_ic (c := 5) (len := 1) (r := (0, 0, 0, 0)) (by decide +kernel) (by decide) (fun y3947 hy3947 => ?_)
    rcases Decidable.em (xs.toInt = y3947.toInt) with q3948 | q3948
    ·
      refine y_cT (c := .eq) (off := 35) (pc' := 52) (len := 3) (r := (0, 0, 0, 0)) (by decide +kernel) (acmpT (c := .eq) (by show _ = _; omega)) (by decide +kernel) ?_
      refine y_ic (c := 1) (len := 1) (r := (0, 0, 0, 0)) (by decide +kernel) (by decide) (fun y3949 hy3949 => ?_)
      refine y_goto (off := 4) (pc' := 57) (len := 3) (r := (0, 0, 0, 0)) (by decide +kernel) (by decide +kernel) ?_
      refine y_rI (len := 1) (r := (0, 0, 0, 0)) (nL := 2) (k := 2) (n9 := 2) (hs := []) (by decide +kernel) rfl (zfit_b (by omega) (by omega)).2 ?_
      exact ⟨rfl, Or.inl ⟨by omega, by unfold lst_; omega⟩⟩
    ·
      refine y_cF (c := .eq) (off := 35) (len := 3) (r := (0, 0, 0, 0)) (by decide +kernel) (acmpF (c := .eq) (by show ¬ (_ = _); omega)) ?_
      refine y_same (i := .aload_n 0) (len := 1) (r := (0, 0, 0, 0)) (pc' := 21) (ls' := [some (.inl (some 52)), some (zi xk)]) (st' := [.inl (some 52)]) (by decide +kernel) (fun k q => by cases q) rfl ?_
      refine y_get (j := 46) (len := 3) (r := (12, 18, 2, 1346)) (by decide +kernel) Q.1 (t52 Q.1) at52 rfl rfl (g_r52 (f := 18) (T2 := 373) Q.1 rfl (by decide)).1 ?_
      refine y_same (i := .iload_n 1) (len := 1) (r := (0, 0, 0, 0)) (pc' := 25) (ls' := [some (.inl (some 52)), some (zi xk)]) (st' := [zi xk, .inl (some 373)]) (by decide +kernel) (fun k q => by cases q) rfl ?_
      refine y_ial (i := n) (len := 1) (r := (0, 0, 0, 0)) (by decide +kernel) Q.1 (tu373 Q.1) at373 (by omega) hs373 ?_
      refine y_ic (c := 3) (len := 1) (r := (0, 0, 0, 0)) (by decide +kernel) (by decide) (fun y3950 hy3950 => ?_)
      rcases Decidable.em (xs.toInt ≠ y3950.toInt) with q3951 | q3951
      ·
        refine y_cT (c := .ne) (off := 29) (pc' := 56) (len := 3) (r := (0, 0, 0, 0)) (by decide +kernel) (acmpT (c := .ne) (by show ¬ (_ = _); omega)) (by decide +kernel) ?_
        refine y_ic (c := 0) (len := 1) (r := (0, 0, 0, 0)) (by decide +kernel) (by decide) (fun y3952 hy3952 => ?_)
        refine y_rI (len := 1) (r := (0, 0, 0, 0)) (nL := 2) (k := 2) (n9 := 2) (hs := []) (by decide +kernel) rfl (zfit_b (by omega) (by omega)).2 ?_
        exact ⟨rfl, Or.inr ⟨by omega, by unfold lst_; omega⟩⟩
      ·
        refine y_cF (c := .ne) (off := 29) (len := 3) (r := (0, 0, 0, 0)) (by decide +kernel) (acmpF (c := .ne) (by show _ = _; omega)) ?_
        obtain ⟨xl, hl375, el⟩ := c5 (by omega)
        have kq := kiq (by omega)
        have hll := (List.getElem?_eq_some_iff.mp kq).1
        refine y_same (i := .aload_n 0) (len := 1) (r := (0, 0, 0, 0)) (pc' := 31) (ls' := [some (.inl (some 52)), some (zi xk)]) (st' := [.inl (some 52)]) (by decide +kernel) (fun k q => by cases q) rfl ?_
        refine y_get (j := 37) (len := 3) (r := (12, 15, 2, 1343)) (by decide +kernel) Q.1 (t52 Q.1) at52 rfl rfl (g_r52 (f := 15) (T2 := 70) Q.1 rfl (by decide)).1 ?_
        refine y_same (i := .iload_n 1) (len := 1) (r := (0, 0, 0, 0)) (pc' := 35) (ls' := [some (.inl (some 52)), some (zi xk)]) (st' := [zi xk, .inl (some 70)]) (by decide +kernel) (fun k q => by cases q) rfl ?_
        refine y_aal (i := n) (len := 1) (r := (0, 0, 0, 0)) (by decide +kernel) Q.1 (tu70 Q.1) at70 rfl (by omega) (Q.1.2.2 n (by omega)) ?_
        refine y_same (i := .aload_n 0) (len := 1) (r := (0, 0, 0, 0)) (pc' := 37) (ls' := [some (.inl (some 52)), some (zi xk)]) (st' := [.inl (some 52), .inl (some ((71 + n)))]) (by decide +kernel) (fun k q => by cases q) rfl ?_
        refine y_get (j := 52) (len := 3) (r := (12, 20, 2, 1348)) (by decide +kernel) Q.1 (t52 Q.1) at52 rfl rfl (g_r52 (f := 20) (T2 := 375) Q.1 rfl (by decide)).1 ?_
        refine y_same (i := .iload_n 1) (len := 1) (r := (0, 0, 0, 0)) (pc' := 41) (ls' := [some (.inl (some 52)), some (zi xk)]) (st' := [zi xk, .inl (some 375), .inl (some ((71 + n)))]) (by decide +kernel) (fun k q => by cases q) rfl ?_
        refine y_ial (i := n) (len := 1) (r := (0, 0, 0, 0)) (by decide +kernel) Q.1 (tu375 Q.1) at375 (by omega) hl375 ?_
        refine y_cI (i := .invokestatic 249) (len := 3) (r := (1, 197, 12, 1644)) (nL := 1) (k := 1) (n := 1) (hs := []) (args := [zi xl]) (rest := [.inl (some ((71 + n)))]) (l0 := [some (zi xl)]) (by decide +kernel) (Or.inl ⟨_, rfl⟩) rfl rfl rfl rfl (Nat.le_of_ble_eq_true rfl) rfl rfl (qI_le (by omega) (e_leftAt (d := 0) (by omega) (by omega))) (fun y3953 qy3953 hRy3953 => ?_)
        obtain ⟨rfl, hy3953⟩ := hRy3953
        obtain ⟨i3954, ki3954⟩ : ∃ i9, e.1.1[e.2.2.2.1]? = some i9 := ⟨_, List.getElem?_eq_getElem (by omega)⟩
        have oi3954 := okQ_L Q.2.2.2 ki3954
        have pi3954 := oi3954.1
        unfold okV at pi3954
        obtain ⟨ai3954, bi3954, ci3954, di3954, ⟨hai3954, hbi3954, hci3954, hdi3954⟩, eai3954, ebi3954, eci3954, edi3954⟩ := qm_itL Q ki3954
        refine y_ial (i := (24 + 4 * e.2.2.2.1)) (len := 1) (r := (0, 0, 0, 0)) (by decide +kernel) Q.1 tA aT (by omega) hai3954 ?_
        refine y_cI (i := .invokestatic 273) (len := 3) (r := (1, 204, 12, 1715)) (nL := 1) (k := 2) (n := 1) (hs := []) (args := [zi ai3954]) (rest := []) (l0 := [some (zi ai3954)]) (by decide +kernel) (Or.inl ⟨_, rfl⟩) rfl rfl rfl rfl (Nat.le_of_ble_eq_true rfl) rfl rfl (qI_le (by omega) (m_isc (d := 0))) (fun y3955 qy3955 hRy3955 => ?_)
        obtain ⟨rfl, hDy3955⟩ := hRy3955
        rcases hDy3955 with ⟨vy3955, ty3955⟩ | ⟨vy3955, ty3955⟩
        ·
          refine y_iF (c := .eq) (off := 7) (len := 3) (r := (0, 0, 0, 0)) (by decide +kernel) (acmpF (c := .eq) (by show ¬ (_ = _); omega)) ?_
          refine y_ic (c := 1) (len := 1) (r := (0, 0, 0, 0)) (by decide +kernel) (by decide) (fun y3956 hy3956 => ?_)
          refine y_goto (off := 4) (pc' := 57) (len := 3) (r := (0, 0, 0, 0)) (by decide +kernel) (by decide +kernel) ?_
          refine y_rI (len := 1) (r := (0, 0, 0, 0)) (nL := 2) (k := 2) (n9 := 2) (hs := []) (by decide +kernel) rfl (zfit_b (by omega) (by omega)).2 ?_
          have eq9 : i3954 = gq_ e := Option.some.inj (ki3954.symm.trans kq)
          exact ⟨rfl, Or.inl ⟨by omega, by unfold lst_; rw [← eq9]; omega⟩⟩
        ·
          refine y_iT (c := .eq) (off := 7) (pc' := 56) (len := 3) (r := (0, 0, 0, 0)) (by decide +kernel) (acmpT (c := .eq) (by show _ = _; omega)) (by decide +kernel) ?_
          refine y_ic (c := 0) (len := 1) (r := (0, 0, 0, 0)) (by decide +kernel) (by decide) (fun y3957 hy3957 => ?_)
          refine y_rI (len := 1) (r := (0, 0, 0, 0)) (nL := 2) (k := 2) (n9 := 2) (hs := []) (by decide +kernel) rfl (zfit_b (by omega) (by omega)).2 ?_
          have eq9 : i3954 = gq_ e := Option.some.inj (ki3954.symm.trans kq)
          exact ⟨rfl, Or.inr ⟨by omega, by unfold lst_; rw [← eq9]; omega⟩⟩
