/-! MAKE, told exactly: no slot of a part is greater behind it, and that of the greater one is less -/
def sv (h : zh) (R i : Nat) : Nat := match hsl h R i with
  | some (.inr (.inl (x, none))) => x.toBitVec.toNat
  | _ => 0
theorem sv_at {h : zh} {R i : Nat} {x : Int32} (hv : hsl h R i = some (zi x)) : sv h R i = x.toBitVec.toNat := by
  unfold sv
  rw [hv]
  rfl
theorem sv_nn {h : zh} {R i : Nat} {x : Int32} (hv : hsl h R i = some (zi x)) (h0 : 0 ≤ x.toInt) : (sv h R i : Int) = x.toInt := by
  rw [sv_at hv, ztoNat h0]
theorem sv_eq {h h2 : zh} {R i : Nat} (e : hsl h2 R i = hsl h R i) : sv h2 R i = sv h R i := by
  unfold sv
  rw [e]
def sm (h : zh) (R o : Nat) : Nat → Nat
  | 0 => 0
  | n + 1 => sm h R o n + sv h R (o + n)
theorem sm_le {h h2 : zh} {R o : Nat} : ∀ {n : Nat}, (∀ i, i < n → sv h2 R (o + i) ≤ sv h R (o + i)) → sm h2 R o n ≤ sm h R o n
  | 0, _ => Nat.le_refl _
  | n + 1, hl => by
    have h1 := sm_le (n := n) (fun i hi => hl i (by omega))
    have h2 := hl n (by omega)
    show sm _ R o n + sv _ R (o + n) ≤ sm _ R o n + sv _ R (o + n)
    omega
theorem sm_lt {h h2 : zh} {R o j : Nat} : ∀ {n : Nat}, (∀ i, i < n → sv h2 R (o + i) ≤ sv h R (o + i)) → j < n → sv h2 R (o + j) < sv h R (o + j) → sm h2 R o n < sm h R o n
  | 0, _, hj, _ => by omega
  | n + 1, hl, hj, hs => by
    have h9 := hl n (by omega)
    show sm _ R o n + sv _ R (o + n) < sm _ R o n + sv _ R (o + n)
    rcases Nat.lt_or_ge j n with q | q
    · have h1 := sm_lt (n := n) (fun i hi => hl i (by omega)) q hs
      omega
    · have : j = n := by omega
      subst this
      have h1 := sm_le (n := j) (h := h) (h2 := h2) (R := R) (o := o) (fun i hi => hl i (by omega))
      omega
theorem sm_eq {h h2 : zh} {R o : Nat} : ∀ {n : Nat}, (∀ i, i < n → hsl h2 R (o + i) = hsl h R (o + i)) → sm h2 R o n = sm h R o n
  | 0, _ => rfl
  | n + 1, hl => by
    show sm _ R o n + sv _ R (o + n) = sm _ R o n + sv _ R (o + n)
    rw [sm_eq (n := n) (fun i hi => hl i (by omega)), sv_eq (hl n (by omega))]
/-- one slot is renamed -/
def mk1 (R : Nat) (fr to : Int) (i : Nat) (h h2 : zh) : Prop := hO R i h h2 ∧ ∃ v y : Int32, hsl h R i = some (zi v) ∧ hsl h2 R i = some (zi y) ∧ 0 ≤ v.toInt ∧ 0 ≤ y.toInt ∧ (v.toInt = fr → y.toInt = to) ∧ (v.toInt ≠ fr → y.toInt = v.toInt)
theorem mk1_le {R i : Nat} {fr to : Int} {h h2 : zh} (hm : mk1 R fr to i h h2) (ht : to < fr) (j : Nat) : sv h2 R j ≤ sv h R j := by
  obtain ⟨ho, v, y, e1, e2, e3, e4, e5, e6⟩ := hm
  by_cases hj : j = i
  · subst hj
    have h1 := sv_nn e1 e3
    have h2 := sv_nn e2 e4
    by_cases hv : v.toInt = fr
    · have := e5 hv
      omega
    · have := e6 hv
      omega
  · rw [sv_eq (ho R j (Or.inr hj))]
    exact Nat.le_refl _
theorem mk1_lt {R i : Nat} {fr to : Int} {h h2 : zh} {v : Int32} (hm : mk1 R fr to i h h2) (ht : to < fr) (hv : hsl h R i = some (zi v)) (hf : v.toInt = fr) : sv h2 R i < sv h R i := by
  obtain ⟨ho, v', y, e1, e2, e3, e4, e5, e6⟩ := hm
  rw [hv] at e1
  cases e1
  have h1 := sv_nn hv e3
  have h2 := sv_nn e2 e4
  have := e5 hf
  omega
/-- nothing but slots of parts and claims, and none is greater -/
def mkL (τ : List Nat) (R : Nat) (h h1 : zh) : Prop := hG τ h1 ∧ h1.length = h.length ∧ (∀ k j, (k ≠ R ∨ j < 24) → hsl h1 k j = hsl h k j) ∧ ∀ j, sv h1 R j ≤ sv h R j
theorem mkL_refl {τ : List Nat} {R : Nat} {h : zh} (hg : hG τ h) : mkL τ R h h := ⟨hg, rfl, fun _ _ _ => rfl, fun _ => Nat.le_refl _⟩
theorem mkL_trans {τ : List Nat} {R : Nat} {h h1 h2 : zh} (a : mkL τ R h h1) (b : mkL τ R h1 h2) : mkL τ R h h2 := ⟨b.1, b.2.1.trans a.2.1, fun k j hk => (b.2.2.1 k j hk).trans (a.2.2.1 k j hk), fun j => Nat.le_trans (b.2.2.2 j) (a.2.2.2 j)⟩
theorem mk1_L {τ : List Nat} {R i : Nat} {fr to : Int} {h h2 : zh} (hm : mk1 R fr to i h h2) (ht : to < fr) (hi : 24 ≤ i) (hg : hG τ h2) (hl : h2.length = h.length) : mkL τ R h h2 := ⟨hg, hl, fun k j hk => hm.1 k j (by omega), mk1_le hm ht⟩
/-- from part k on, the slots of the greater one are less -/
def mkS (R b m k0 : Nat) (fr : Int) (h h1 : zh) : Prop := ∀ (k w : Nat) (v : Int32), k0 ≤ k → k < m → 1 ≤ w → w ≤ 3 → hsl h R (b + 4 * k + w) = some (zi v) → v.toInt = fr → sv h1 R (b + 4 * k + w) < sv h R (b + 4 * k + w)
theorem mkS_step {τ : List Nat} {R b m k : Nat} {fr to : Int} {h ha hb hc h1 : zh} (ht : to < fr) (m1 : mk1 R fr to (b + 4 * k + 1) h ha) (m2 : mk1 R fr to (b + 4 * k + 2) ha hb) (m3 : mk1 R fr to (b + 4 * k + 3) hb hc) (hl : mkL τ R hc h1) (hs : mkS R b m (k + 1) fr hc h1) : mkS R b m k fr h h1 := by
  intro k' w v hk hm hw hw3 hv hf
  have l1 := mk1_le m1 ht
  have l2 := mk1_le m2 ht
  have l3 := mk1_le m3 ht
  have l4 := hl.2.2.2 (b + 4 * k' + w)
  have a1 := l1 (b + 4 * k' + w)
  have a2 := l2 (b + 4 * k' + w)
  have a3 := l3 (b + 4 * k' + w)
  by_cases hkk : k' = k
  · subst hkk
    rcases (show w = 1 ∨ w = 2 ∨ w = 3 by omega) with rfl | rfl | rfl
    · have := mk1_lt m1 ht hv hf
      omega
    · have := mk1_lt m2 ht ((m1.1 R _ (Or.inr (by omega))).trans hv) hf
      omega
    · have := mk1_lt m3 ht ((m2.1 R _ (Or.inr (by omega))).trans ((m1.1 R _ (Or.inr (by omega))).trans hv)) hf
      omega
  · have := hs k' w v (by omega) hm hw hw3 ((m3.1 R _ (Or.inr (by omega))).trans ((m2.1 R _ (Or.inr (by omega))).trans ((m1.1 R _ (Or.inr (by omega))).trans hv))) hf
    omega
theorem mk_loop0 {d t to fr R m : Nat} {τ : List Nat} {xx xz xt xf xm : Int32} {P : zo × zh × Nat → Prop} (hR : τ[R]? = some 1012) (hxt : xt.toInt = (to : Int)) (hxf : xf.toInt = (fr : Int)) (htf : to < fr) (hfr : fr ≤ 20) (hxm : xm.toInt = (m : Int)) (hm9 : m ≤ 12) : ∀ (n : Nat) (h : zh) (k : Nat) (xk : Int32) (l6 : Option zv), hG τ h → hsl h R 0 = some (zi xm) → xk.toInt = (k : Int) → m ≤ k + n → k ≤ m → (∀ (h1 : zh) (xk' : Int32) (l6' : Option zv), mkL τ R h h1 → mkS R 24 m k fr h h1 → qX (d + 1) 206 77 [some (.inl (some R)), some (zi xx), some (zi xz), some (zi xt), some (zi xf), some (zi xk'), l6'] [] h1 t P) → qX (d + 1) 206 22 [some (.inl (some R)), some (zi xx), some (zi xz), some (zi xt), some (zi xf), some (zi xk), l6] [] h t P := by
  intro n
  induction n with
  | zero =>
    intro h k xk l6 hg hm hxk hn hkm kk
    ·
      refine y_same (i := .iload 5) (len := 2) (r := (0, 0, 0, 0)) (pc' := 24) (ls' := [some (.inl (some R)), some (zi xx), some (zi xz), some (zi xt), some (zi xf), some (zi xk), l6]) (st' := [zi xk]) (by decide +kernel) (fun k q => by cases q) rfl ?_
      refine y_same (i := .aload_n 0) (len := 1) (r := (0, 0, 0, 0)) (pc' := 25) (ls' := [some (.inl (some R)), some (zi xx), some (zi xz), some (zi xt), some (zi xf), some (zi xk), l6]) (st' := [.inl (some R), zi xk]) (by decide +kernel) (fun k q => by cases q) rfl ?_
      refine y_ic (c := 0) (len := 1) (r := (0, 0, 0, 0)) (by decide +kernel) (by decide) (fun y155 hy155 => ?_)
      refine y_ial (i := 0) (len := 1) (r := (0, 0, 0, 0)) (by decide +kernel) hg hR at1012 (by omega) hm ?_
      refine y_cT (c := .ge) (off := 50) (pc' := 77) (len := 3) (r := (0, 0, 0, 0)) (by decide +kernel) (acmpT (c := .ge) (by show _ ≤ _; omega)) (by decide +kernel) ?_
      exact kk h xk l6 (mkL_refl hg) (fun _ _ _ q1 q2 => by omega)
  | succ n ih =>
    intro h k xk l6 hg hm hxk hn hkm kk
    rcases Nat.lt_or_ge k m with hc9 | hc9
    ·
      refine y_same (i := .iload 5) (len := 2) (r := (0, 0, 0, 0)) (pc' := 24) (ls' := [some (.inl (some R)), some (zi xx), some (zi xz), some (zi xt), some (zi xf), some (zi xk), l6]) (st' := [zi xk]) (by decide +kernel) (fun k q => by cases q) rfl ?_
      refine y_same (i := .aload_n 0) (len := 1) (r := (0, 0, 0, 0)) (pc' := 25) (ls' := [some (.inl (some R)), some (zi xx), some (zi xz), some (zi xt), some (zi xf), some (zi xk), l6]) (st' := [.inl (some R), zi xk]) (by decide +kernel) (fun k q => by cases q) rfl ?_
      refine y_ic (c := 0) (len := 1) (r := (0, 0, 0, 0)) (by decide +kernel) (by decide) (fun y121 hy121 => ?_)
      refine y_ial (i := 0) (len := 1) (r := (0, 0, 0, 0)) (by decide +kernel) hg hR at1012 (by omega) hm ?_
      refine y_cF (c := .ge) (off := 50) (len := 3) (r := (0, 0, 0, 0)) (by decide +kernel) (acmpF (c := .ge) (by show _ < _; omega)) ?_
      refine y_ic (c := 1) (len := 1) (r := (0, 0, 0, 0)) (by decide +kernel) (by decide) (fun y122 hy122 => ?_)
      refine y_same (i := .istore 6) (len := 2) (r := (0, 0, 0, 0)) (pc' := 33) (ls' := [some (.inl (some R)), some (zi xx), some (zi xz), some (zi xt), some (zi xf), some (zi xk), some (zi y122)]) (st' := []) (by decide +kernel) (fun k q => by cases q) rfl ?_
      refine y_same (i := .iload 6) (len := 2) (r := (0, 0, 0, 0)) (pc' := 35) (ls' := [some (.inl (some R)), some (zi xx), some (zi xz), some (zi xt), some (zi xf), some (zi xk), some (zi y122)]) (st' := [zi y122]) (by decide +kernel) (fun k q => by cases q) rfl ?_
      refine y_ic (c := 4) (len := 1) (r := (0, 0, 0, 0)) (by decide +kernel) (by decide) (fun y123 hy123 => ?_)
      refine y_cF (c := .ge) (off := 35) (len := 3) (r := (0, 0, 0, 0)) (by decide +kernel) (acmpF (c := .ge) (by show _ < _; omega)) ?_
      refine y_same (i := .aload_n 0) (len := 1) (r := (0, 0, 0, 0)) (pc' := 40) (ls' := [some (.inl (some R)), some (zi xx), some (zi xz), some (zi xt), some (zi xf), some (zi xk), some (zi y122)]) (st' := [.inl (some R)]) (by decide +kernel) (fun k q => by cases q) rfl ?_
      refine y_same (i := .iload 5) (len := 2) (r := (0, 0, 0, 0)) (pc' := 42) (ls' := [some (.inl (some R)), some (zi xx), some (zi xz), some (zi xt), some (zi xf), some (zi xk), some (zi y122)]) (st' := [zi xk, .inl (some R)]) (by decide +kernel) (fun k q => by cases q) rfl ?_
      refine y_cI (i := .invokestatic 249) (len := 3) (r := (1, 197, 12, 1644)) (nL := 1) (k := 1) (n := 1) (hs := []) (args := [zi xk]) (rest := [.inl (some R)]) (l0 := [some (zi xk)]) (by decide +kernel) (Or.inl ⟨_, rfl⟩) rfl rfl rfl rfl (Nat.le_of_ble_eq_true rfl) rfl rfl (e_leftAt (by omega) (by omega)) (fun y124 qy124 hRy124 => ?_)
      obtain ⟨rfl, hy124⟩ := hRy124
      refine y_same (i := .iload 6) (len := 2) (r := (0, 0, 0, 0)) (pc' := 47) (ls' := [some (.inl (some R)), some (zi xx), some (zi xz), some (zi xt), some (zi xf), some (zi xk), some (zi y122)]) (st' := [zi y122, zi y124, .inl (some R)]) (by decide +kernel) (fun k q => by cases q) rfl ?_
      refine y_add (len := 1) (r := (0, 0, 0, 0)) (by decide +kernel) (by omega) (by omega) (fun y125 hy125 => ?_)
      refine y_same (i := .aload_n 0) (len := 1) (r := (0, 0, 0, 0)) (pc' := 49) (ls' := [some (.inl (some R)), some (zi xx), some (zi xz), some (zi xt), some (zi xf), some (zi xk), some (zi y122)]) (st' := [.inl (some R), zi y125, .inl (some R)]) (by decide +kernel) (fun k q => by cases q) rfl ?_
      refine y_same (i := .iload 5) (len := 2) (r := (0, 0, 0, 0)) (pc' := 51) (ls' := [some (.inl (some R)), some (zi xx), some (zi xz), some (zi xt), some (zi xf), some (zi xk), some (zi y122)]) (st' := [zi xk, .inl (some R), zi y125, .inl (some R)]) (by decide +kernel) (fun k q => by cases q) rfl ?_
      refine y_cI (i := .invokestatic 249) (len := 3) (r := (1, 197, 12, 1644)) (nL := 1) (k := 1) (n := 1) (hs := []) (args := [zi xk]) (rest := [.inl (some R), zi y125, .inl (some R)]) (l0 := [some (zi xk)]) (by decide +kernel) (Or.inl ⟨_, rfl⟩) rfl rfl rfl rfl (Nat.le_of_ble_eq_true rfl) rfl rfl (e_leftAt (by omega) (by omega)) (fun y126 qy126 hRy126 => ?_)
      obtain ⟨rfl, hy126⟩ := hRy126
      refine y_same (i := .iload 6) (len := 2) (r := (0, 0, 0, 0)) (pc' := 56) (ls' := [some (.inl (some R)), some (zi xx), some (zi xz), some (zi xt), some (zi xf), some (zi xk), some (zi y122)]) (st' := [zi y122, zi y126, .inl (some R), zi y125, .inl (some R)]) (by decide +kernel) (fun k q => by cases q) rfl ?_
      refine y_add (len := 1) (r := (0, 0, 0, 0)) (by decide +kernel) (by omega) (by omega) (fun y127 hy127 => ?_)
      obtain ⟨v128, hv129, lv128, uv128⟩ := g_int (i := ((24 + 4 * k) + 1)) hg hR at1012 (show ((24 + 4 * k) + 1) < 200 by omega) (srC (by omega) (by omega))
      refine y_ial (i := ((24 + 4 * k) + 1)) (len := 1) (r := (0, 0, 0, 0)) (by decide +kernel) hg hR at1012 (by omega) hv129 ?_
      refine y_same (i := .iload 4) (len := 2) (r := (0, 0, 0, 0)) (pc' := 60) (ls' := [some (.inl (some R)), some (zi xx), some (zi xz), some (zi xt), some (zi xf), some (zi xk), some (zi y122)]) (st' := [zi xf, zi v128, zi y125, .inl (some R)]) (by decide +kernel) (fun k q => by cases q) rfl ?_
      refine y_same (i := .iload_n 3) (len := 1) (r := (0, 0, 0, 0)) (pc' := 61) (ls' := [some (.inl (some R)), some (zi xx), some (zi xz), some (zi xt), some (zi xf), some (zi xk), some (zi y122)]) (st' := [zi xt, zi xf, zi v128, zi y125, .inl (some R)]) (by decide +kernel) (fun k q => by cases q) rfl ?_
      refine y_cI (i := .invokestatic 252) (len := 3) (r := (1, 205, 12, 1663)) (nL := 3) (k := 1) (n := 3) (hs := []) (args := [zi v128, zi xf, zi xt]) (rest := [zi y125, .inl (some R)]) (l0 := [some (zi v128), some (zi xf), some (zi xt)]) (by decide +kernel) (Or.inl ⟨_, rfl⟩) rfl rfl rfl rfl (Nat.le_of_ble_eq_true rfl) rfl rfl (e_becomes) (fun y130 qy130 hRy130 => ?_)
      obtain ⟨rfl, hy130⟩ := hRy130
      refine y_ias (i := ((24 + 4 * k) + 1)) (len := 1) (r := (0, 0, 0, 0)) (by decide +kernel) hg hR at1012 rfl (by omega) (by omega) (srC (by omega) (by omega)) (by omega) (by omega) (fun h131 hg131 hl131 hs131 ho131 => ?_)
      refine y_inc (j := 6) (a := y122) (c := 1) (ls' := fun v => [some (.inl (some R)), some (zi xx), some (zi xz), some (zi xt), some (zi xf), some (zi xk), some v]) (len := 3) (r := (0, 0, 0, 0)) (by decide +kernel) rfl (fun _ => rfl) (by decide) (by omega) (by omega) (fun y132 hy132 => ?_)
      show qX (d + 1) 206 68 [some (.inl (some R)), some (zi xx), some (zi xz), some (zi xt), some (zi xf), some (zi xk), some (zi y132)] [] h131 t _
      refine y_goto (off := (-35)) (pc' := 33) (len := 3) (r := (0, 0, 0, 0)) (by decide +kernel) (by decide +kernel) ?_
      refine y_same (i := .iload 6) (len := 2) (r := (0, 0, 0, 0)) (pc' := 35) (ls' := [some (.inl (some R)), some (zi xx), some (zi xz), some (zi xt), some (zi xf), some (zi xk), some (zi y132)]) (st' := [zi y132]) (by decide +kernel) (fun k q => by cases q) rfl ?_
      refine y_ic (c := 4) (len := 1) (r := (0, 0, 0, 0)) (by decide +kernel) (by decide) (fun y133 hy133 => ?_)
      refine y_cF (c := .ge) (off := 35) (len := 3) (r := (0, 0, 0, 0)) (by decide +kernel) (acmpF (c := .ge) (by show _ < _; omega)) ?_
      refine y_same (i := .aload_n 0) (len := 1) (r := (0, 0, 0, 0)) (pc' := 40) (ls' := [some (.inl (some R)), some (zi xx), some (zi xz), some (zi xt), some (zi xf), some (zi xk), some (zi y132)]) (st' := [.inl (some R)]) (by decide +kernel) (fun k q => by cases q) rfl ?_
      refine y_same (i := .iload 5) (len := 2) (r := (0, 0, 0, 0)) (pc' := 42) (ls' := [some (.inl (some R)), some (zi xx), some (zi xz), some (zi xt), some (zi xf), some (zi xk), some (zi y132)]) (st' := [zi xk, .inl (some R)]) (by decide +kernel) (fun k q => by cases q) rfl ?_
      refine y_cI (i := .invokestatic 249) (len := 3) (r := (1, 197, 12, 1644)) (nL := 1) (k := 1) (n := 1) (hs := []) (args := [zi xk]) (rest := [.inl (some R)]) (l0 := [some (zi xk)]) (by decide +kernel) (Or.inl ⟨_, rfl⟩) rfl rfl rfl rfl (Nat.le_of_ble_eq_true rfl) rfl rfl (e_leftAt (by omega) (by omega)) (fun y134 qy134 hRy134 => ?_)
      obtain ⟨rfl, hy134⟩ := hRy134
      refine y_same (i := .iload 6) (len := 2) (r := (0, 0, 0, 0)) (pc' := 47) (ls' := [some (.inl (some R)), some (zi xx), some (zi xz), some (zi xt), some (zi xf), some (zi xk), some (zi y132)]) (st' := [zi y132, zi y134, .inl (some R)]) (by decide +kernel) (fun k q => by cases q) rfl ?_
      refine y_add (len := 1) (r := (0, 0, 0, 0)) (by decide +kernel) (by omega) (by omega) (fun y135 hy135 => ?_)
      refine y_same (i := .aload_n 0) (len := 1) (r := (0, 0, 0, 0)) (pc' := 49) (ls' := [some (.inl (some R)), some (zi xx), some (zi xz), some (zi xt), some (zi xf), some (zi xk), some (zi y132)]) (st' := [.inl (some R), zi y135, .inl (some R)]) (by decide +kernel) (fun k q => by cases q) rfl ?_
      refine y_same (i := .iload 5) (len := 2) (r := (0, 0, 0, 0)) (pc' := 51) (ls' := [some (.inl (some R)), some (zi xx), some (zi xz), some (zi xt), some (zi xf), some (zi xk), some (zi y132)]) (st' := [zi xk, .inl (some R), zi y135, .inl (some R)]) (by decide +kernel) (fun k q => by cases q) rfl ?_
      refine y_cI (i := .invokestatic 249) (len := 3) (r := (1, 197, 12, 1644)) (nL := 1) (k := 1) (n := 1) (hs := []) (args := [zi xk]) (rest := [.inl (some R), zi y135, .inl (some R)]) (l0 := [some (zi xk)]) (by decide +kernel) (Or.inl ⟨_, rfl⟩) rfl rfl rfl rfl (Nat.le_of_ble_eq_true rfl) rfl rfl (e_leftAt (by omega) (by omega)) (fun y136 qy136 hRy136 => ?_)
      obtain ⟨rfl, hy136⟩ := hRy136
      refine y_same (i := .iload 6) (len := 2) (r := (0, 0, 0, 0)) (pc' := 56) (ls' := [some (.inl (some R)), some (zi xx), some (zi xz), some (zi xt), some (zi xf), some (zi xk), some (zi y132)]) (st' := [zi y132, zi y136, .inl (some R), zi y135, .inl (some R)]) (by decide +kernel) (fun k q => by cases q) rfl ?_
      refine y_add (len := 1) (r := (0, 0, 0, 0)) (by decide +kernel) (by omega) (by omega) (fun y137 hy137 => ?_)
      obtain ⟨v138, hv139, lv138, uv138⟩ := g_int (i := ((24 + 4 * k) + (1 + 1))) hg131 hR at1012 (show ((24 + 4 * k) + (1 + 1)) < 200 by omega) (srC (by omega) (by omega))
      refine y_ial (i := ((24 + 4 * k) + (1 + 1))) (len := 1) (r := (0, 0, 0, 0)) (by decide +kernel) hg131 hR at1012 (by omega) hv139 ?_
      refine y_same (i := .iload 4) (len := 2) (r := (0, 0, 0, 0)) (pc' := 60) (ls' := [some (.inl (some R)), some (zi xx), some (zi xz), some (zi xt), some (zi xf), some (zi xk), some (zi y132)]) (st' := [zi xf, zi v138, zi y135, .inl (some R)]) (by decide +kernel) (fun k q => by cases q) rfl ?_
      refine y_same (i := .iload_n 3) (len := 1) (r := (0, 0, 0, 0)) (pc' := 61) (ls' := [some (.inl (some R)), some (zi xx), some (zi xz), some (zi xt), some (zi xf), some (zi xk), some (zi y132)]) (st' := [zi xt, zi xf, zi v138, zi y135, .inl (some R)]) (by decide +kernel) (fun k q => by cases q) rfl ?_
      refine y_cI (i := .invokestatic 252) (len := 3) (r := (1, 205, 12, 1663)) (nL := 3) (k := 1) (n := 3) (hs := []) (args := [zi v138, zi xf, zi xt]) (rest := [zi y135, .inl (some R)]) (l0 := [some (zi v138), some (zi xf), some (zi xt)]) (by decide +kernel) (Or.inl ⟨_, rfl⟩) rfl rfl rfl rfl (Nat.le_of_ble_eq_true rfl) rfl rfl (e_becomes) (fun y140 qy140 hRy140 => ?_)
      obtain ⟨rfl, hy140⟩ := hRy140
      refine y_ias (i := ((24 + 4 * k) + (1 + 1))) (len := 1) (r := (0, 0, 0, 0)) (by decide +kernel) hg131 hR at1012 rfl (by omega) (by omega) (srC (by omega) (by omega)) (by omega) (by omega) (fun h141 hg141 hl141 hs141 ho141 => ?_)
      refine y_inc (j := 6) (a := y132) (c := 1) (ls' := fun v => [some (.inl (some R)), some (zi xx), some (zi xz), some (zi xt), some (zi xf), some (zi xk), some v]) (len := 3) (r := (0, 0, 0, 0)) (by decide +kernel) rfl (fun _ => rfl) (by decide) (by omega) (by omega) (fun y142 hy142 => ?_)
      show qX (d + 1) 206 68 [some (.inl (some R)), some (zi xx), some (zi xz), some (zi xt), some (zi xf), some (zi xk), some (zi y142)] [] h141 t _
      refine y_goto (off := (-35)) (pc' := 33) (len := 3) (r := (0, 0, 0, 0)) (by decide +kernel) (by decide +kernel) ?_
      refine y_same (i := .iload 6) (len := 2) (r := (0, 0, 0, 0)) (pc' := 35) (ls' := [some (.inl (some R)), some (zi xx), some (zi xz), some (zi xt), some (zi xf), some (zi xk), some (zi y142)]) (st' := [zi y142]) (by decide +kernel) (fun k q => by cases q) rfl ?_
      refine y_ic (c := 4) (len := 1) (r := (0, 0, 0, 0)) (by decide +kernel) (by decide) (fun y143 hy143 => ?_)
      refine y_cF (c := .ge) (off := 35) (len := 3) (r := (0, 0, 0, 0)) (by decide +kernel) (acmpF (c := .ge) (by show _ < _; omega)) ?_
      refine y_same (i := .aload_n 0) (len := 1) (r := (0, 0, 0, 0)) (pc' := 40) (ls' := [some (.inl (some R)), some (zi xx), some (zi xz), some (zi xt), some (zi xf), some (zi xk), some (zi y142)]) (st' := [.inl (some R)]) (by decide +kernel) (fun k q => by cases q) rfl ?_
      refine y_same (i := .iload 5) (len := 2) (r := (0, 0, 0, 0)) (pc' := 42) (ls' := [some (.inl (some R)), some (zi xx), some (zi xz), some (zi xt), some (zi xf), some (zi xk), some (zi y142)]) (st' := [zi xk, .inl (some R)]) (by decide +kernel) (fun k q => by cases q) rfl ?_
      refine y_cI (i := .invokestatic 249) (len := 3) (r := (1, 197, 12, 1644)) (nL := 1) (k := 1) (n := 1) (hs := []) (args := [zi xk]) (rest := [.inl (some R)]) (l0 := [some (zi xk)]) (by decide +kernel) (Or.inl ⟨_, rfl⟩) rfl rfl rfl rfl (Nat.le_of_ble_eq_true rfl) rfl rfl (e_leftAt (by omega) (by omega)) (fun y144 qy144 hRy144 => ?_)
      obtain ⟨rfl, hy144⟩ := hRy144
      refine y_same (i := .iload 6) (len := 2) (r := (0, 0, 0, 0)) (pc' := 47) (ls' := [some (.inl (some R)), some (zi xx), some (zi xz), some (zi xt), some (zi xf), some (zi xk), some (zi y142)]) (st' := [zi y142, zi y144, .inl (some R)]) (by decide +kernel) (fun k q => by cases q) rfl ?_
      refine y_add (len := 1) (r := (0, 0, 0, 0)) (by decide +kernel) (by omega) (by omega) (fun y145 hy145 => ?_)
      refine y_same (i := .aload_n 0) (len := 1) (r := (0, 0, 0, 0)) (pc' := 49) (ls' := [some (.inl (some R)), some (zi xx), some (zi xz), some (zi xt), some (zi xf), some (zi xk), some (zi y142)]) (st' := [.inl (some R), zi y145, .inl (some R)]) (by decide +kernel) (fun k q => by cases q) rfl ?_
      refine y_same (i := .iload 5) (len := 2) (r := (0, 0, 0, 0)) (pc' := 51) (ls' := [some (.inl (some R)), some (zi xx), some (zi xz), some (zi xt), some (zi xf), some (zi xk), some (zi y142)]) (st' := [zi xk, .inl (some R), zi y145, .inl (some R)]) (by decide +kernel) (fun k q => by cases q) rfl ?_
      refine y_cI (i := .invokestatic 249) (len := 3) (r := (1, 197, 12, 1644)) (nL := 1) (k := 1) (n := 1) (hs := []) (args := [zi xk]) (rest := [.inl (some R), zi y145, .inl (some R)]) (l0 := [some (zi xk)]) (by decide +kernel) (Or.inl ⟨_, rfl⟩) rfl rfl rfl rfl (Nat.le_of_ble_eq_true rfl) rfl rfl (e_leftAt (by omega) (by omega)) (fun y146 qy146 hRy146 => ?_)
      obtain ⟨rfl, hy146⟩ := hRy146
      refine y_same (i := .iload 6) (len := 2) (r := (0, 0, 0, 0)) (pc' := 56) (ls' := [some (.inl (some R)), some (zi xx), some (zi xz), some (zi xt), some (zi xf), some (zi xk), some (zi y142)]) (st' := [zi y142, zi y146, .inl (some R), zi y145, .inl (some R)]) (by decide +kernel) (fun k q => by cases q) rfl ?_
      refine y_add (len := 1) (r := (0, 0, 0, 0)) (by decide +kernel) (by omega) (by omega) (fun y147 hy147 => ?_)
      obtain ⟨v148, hv149, lv148, uv148⟩ := g_int (i := ((24 + 4 * k) + ((1 + 1) + 1))) hg141 hR at1012 (show ((24 + 4 * k) + ((1 + 1) + 1)) < 200 by omega) (srC (by omega) (by omega))
      refine y_ial (i := ((24 + 4 * k) + ((1 + 1) + 1))) (len := 1) (r := (0, 0, 0, 0)) (by decide +kernel) hg141 hR at1012 (by omega) hv149 ?_
      refine y_same (i := .iload 4) (len := 2) (r := (0, 0, 0, 0)) (pc' := 60) (ls' := [some (.inl (some R)), some (zi xx), some (zi xz), some (zi xt), some (zi xf), some (zi xk), some (zi y142)]) (st' := [zi xf, zi v148, zi y145, .inl (some R)]) (by decide +kernel) (fun k q => by cases q) rfl ?_
      refine y_same (i := .iload_n 3) (len := 1) (r := (0, 0, 0, 0)) (pc' := 61) (ls' := [some (.inl (some R)), some (zi xx), some (zi xz), some (zi xt), some (zi xf), some (zi xk), some (zi y142)]) (st' := [zi xt, zi xf, zi v148, zi y145, .inl (some R)]) (by decide +kernel) (fun k q => by cases q) rfl ?_
      refine y_cI (i := .invokestatic 252) (len := 3) (r := (1, 205, 12, 1663)) (nL := 3) (k := 1) (n := 3) (hs := []) (args := [zi v148, zi xf, zi xt]) (rest := [zi y145, .inl (some R)]) (l0 := [some (zi v148), some (zi xf), some (zi xt)]) (by decide +kernel) (Or.inl ⟨_, rfl⟩) rfl rfl rfl rfl (Nat.le_of_ble_eq_true rfl) rfl rfl (e_becomes) (fun y150 qy150 hRy150 => ?_)
      obtain ⟨rfl, hy150⟩ := hRy150
      refine y_ias (i := ((24 + 4 * k) + ((1 + 1) + 1))) (len := 1) (r := (0, 0, 0, 0)) (by decide +kernel) hg141 hR at1012 rfl (by omega) (by omega) (srC (by omega) (by omega)) (by omega) (by omega) (fun h151 hg151 hl151 hs151 ho151 => ?_)
      refine y_inc (j := 6) (a := y142) (c := 1) (ls' := fun v => [some (.inl (some R)), some (zi xx), some (zi xz), some (zi xt), some (zi xf), some (zi xk), some v]) (len := 3) (r := (0, 0, 0, 0)) (by decide +kernel) rfl (fun _ => rfl) (by decide) (by omega) (by omega) (fun y152 hy152 => ?_)
      show qX (d + 1) 206 68 [some (.inl (some R)), some (zi xx), some (zi xz), some (zi xt), some (zi xf), some (zi xk), some (zi y152)] [] h151 t _
      refine y_goto (off := (-35)) (pc' := 33) (len := 3) (r := (0, 0, 0, 0)) (by decide +kernel) (by decide +kernel) ?_
      refine y_same (i := .iload 6) (len := 2) (r := (0, 0, 0, 0)) (pc' := 35) (ls' := [some (.inl (some R)), some (zi xx), some (zi xz), some (zi xt), some (zi xf), some (zi xk), some (zi y152)]) (st' := [zi y152]) (by decide +kernel) (fun k q => by cases q) rfl ?_
      refine y_ic (c := 4) (len := 1) (r := (0, 0, 0, 0)) (by decide +kernel) (by decide) (fun y153 hy153 => ?_)
      refine y_cT (c := .ge) (off := 35) (pc' := 71) (len := 3) (r := (0, 0, 0, 0)) (by decide +kernel) (acmpT (c := .ge) (by show _ ≤ _; omega)) (by decide +kernel) ?_
      refine y_inc (j := 5) (a := xk) (c := 1) (ls' := fun v => [some (.inl (some R)), some (zi xx), some (zi xz), some (zi xt), some (zi xf), some v, some (zi y152)]) (len := 3) (r := (0, 0, 0, 0)) (by decide +kernel) rfl (fun _ => rfl) (by decide) (by omega) (by omega) (fun y154 hy154 => ?_)
      show qX (d + 1) 206 74 [some (.inl (some R)), some (zi xx), some (zi xz), some (zi xt), some (zi xf), some (zi y154), some (zi y152)] [] h151 t _
      refine y_goto (off := (-52)) (pc' := 22) (len := 3) (r := (0, 0, 0, 0)) (by decide +kernel) (by decide +kernel) ?_
      have m1 : mk1 R fr to (24 + 4 * k + 1) h h131 := ⟨ho131, v128, y130, hv129, hs131, by omega, by omega, by omega, by omega⟩
      have m2 : mk1 R fr to (24 + 4 * k + 2) h131 h141 := ⟨ho141, v138, y140, hv139, hs141, by omega, by omega, by omega, by omega⟩
      have m3 : mk1 R fr to (24 + 4 * k + 3) h141 h151 := ⟨ho151, v148, y150, hv149, hs151, by omega, by omega, by omega, by omega⟩
      have L : mkL τ R h h151 := mkL_trans (mkL_trans (mk1_L m1 (by omega) (by omega) hg131 hl131) (mk1_L m2 (by omega) (by omega) hg141 hl141)) (mk1_L m3 (by omega) (by omega) hg151 hl151)
      refine ih h151 (k + 1) y154 _ hg151 ((L.2.2.1 R 0 (Or.inr (by omega))).trans hm) (by omega) (by omega) (by omega) (fun h1 xk' l6' L1 S1 => ?_)
      exact kk h1 xk' l6' (mkL_trans L L1) (mkS_step (by omega) m1 m2 m3 L1 S1)
    ·
      refine y_same (i := .iload 5) (len := 2) (r := (0, 0, 0, 0)) (pc' := 24) (ls' := [some (.inl (some R)), some (zi xx), some (zi xz), some (zi xt), some (zi xf), some (zi xk), l6]) (st' := [zi xk]) (by decide +kernel) (fun k q => by cases q) rfl ?_
      refine y_same (i := .aload_n 0) (len := 1) (r := (0, 0, 0, 0)) (pc' := 25) (ls' := [some (.inl (some R)), some (zi xx), some (zi xz), some (zi xt), some (zi xf), some (zi xk), l6]) (st' := [.inl (some R), zi xk]) (by decide +kernel) (fun k q => by cases q) rfl ?_
      refine y_ic (c := 0) (len := 1) (r := (0, 0, 0, 0)) (by decide +kernel) (by decide) (fun y155 hy155 => ?_)
      refine y_ial (i := 0) (len := 1) (r := (0, 0, 0, 0)) (by decide +kernel) hg hR at1012 (by omega) hm ?_
      refine y_cT (c := .ge) (off := 50) (pc' := 77) (len := 3) (r := (0, 0, 0, 0)) (by decide +kernel) (acmpT (c := .ge) (by show _ ≤ _; omega)) (by decide +kernel) ?_
      exact kk h xk l6 (mkL_refl hg) (fun _ _ _ q1 q2 => by omega)
theorem mk_loop1 {d t to fr R m : Nat} {τ : List Nat} {xx xz xt xf xm : Int32} {P : zo × zh × Nat → Prop} (hR : τ[R]? = some 1012) (hxt : xt.toInt = (to : Int)) (hxf : xf.toInt = (fr : Int)) (htf : to < fr) (hfr : fr ≤ 20) (hxm : xm.toInt = (m : Int)) (hm9 : m ≤ 12) : ∀ (n : Nat) (h : zh) (k : Nat) (xk : Int32) (l6 : Option zv), hG τ h → hsl h R 1 = some (zi xm) → xk.toInt = (k : Int) → m ≤ k + n → k ≤ m → (∀ (h1 : zh) (xk' : Int32) (l6' : Option zv), mkL τ R h h1 → qX (d + 1) 206 135 [some (.inl (some R)), some (zi xx), some (zi xz), some (zi xt), some (zi xf), some (zi xk'), l6'] [] h1 t P) → qX (d + 1) 206 80 [some (.inl (some R)), some (zi xx), some (zi xz), some (zi xt), some (zi xf), some (zi xk), l6] [] h t P := by
  intro n
  induction n with
  | zero =>
    intro h k xk l6 hg hm hxk hn hkm kk
    ·
      refine y_same (i := .iload 5) (len := 2) (r := (0, 0, 0, 0)) (pc' := 82) (ls' := [some (.inl (some R)), some (zi xx), some (zi xz), some (zi xt), some (zi xf), some (zi xk), l6]) (st' := [zi xk]) (by decide +kernel) (fun k q => by cases q) rfl ?_
      refine y_same (i := .aload_n 0) (len := 1) (r := (0, 0, 0, 0)) (pc' := 83) (ls' := [some (.inl (some R)), some (zi xx), some (zi xz), some (zi xt), some (zi xf), some (zi xk), l6]) (st' := [.inl (some R), zi xk]) (by decide +kernel) (fun k q => by cases q) rfl ?_
      refine y_ic (c := 1) (len := 1) (r := (0, 0, 0, 0)) (by decide +kernel) (by decide) (fun y191 hy191 => ?_)
      refine y_ial (i := 1) (len := 1) (r := (0, 0, 0, 0)) (by decide +kernel) hg hR at1012 (by omega) hm ?_
      refine y_cT (c := .ge) (off := 50) (pc' := 135) (len := 3) (r := (0, 0, 0, 0)) (by decide +kernel) (acmpT (c := .ge) (by show _ ≤ _; omega)) (by decide +kernel) ?_
      exact kk h xk l6 (mkL_refl hg)
  | succ n ih =>
    intro h k xk l6 hg hm hxk hn hkm kk
    rcases Nat.lt_or_ge k m with hc9 | hc9
    ·
      refine y_same (i := .iload 5) (len := 2) (r := (0, 0, 0, 0)) (pc' := 82) (ls' := [some (.inl (some R)), some (zi xx), some (zi xz), some (zi xt), some (zi xf), some (zi xk), l6]) (st' := [zi xk]) (by decide +kernel) (fun k q => by cases q) rfl ?_
      refine y_same (i := .aload_n 0) (len := 1) (r := (0, 0, 0, 0)) (pc' := 83) (ls' := [some (.inl (some R)), some (zi xx), some (zi xz), some (zi xt), some (zi xf), some (zi xk), l6]) (st' := [.inl (some R), zi xk]) (by decide +kernel) (fun k q => by cases q) rfl ?_
      refine y_ic (c := 1) (len := 1) (r := (0, 0, 0, 0)) (by decide +kernel) (by decide) (fun y157 hy157 => ?_)
      refine y_ial (i := 1) (len := 1) (r := (0, 0, 0, 0)) (by decide +kernel) hg hR at1012 (by omega) hm ?_
      refine y_cF (c := .ge) (off := 50) (len := 3) (r := (0, 0, 0, 0)) (by decide +kernel) (acmpF (c := .ge) (by show _ < _; omega)) ?_
      refine y_ic (c := 1) (len := 1) (r := (0, 0, 0, 0)) (by decide +kernel) (by decide) (fun y158 hy158 => ?_)
      refine y_same (i := .istore 6) (len := 2) (r := (0, 0, 0, 0)) (pc' := 91) (ls' := [some (.inl (some R)), some (zi xx), some (zi xz), some (zi xt), some (zi xf), some (zi xk), some (zi y158)]) (st' := []) (by decide +kernel) (fun k q => by cases q) rfl ?_
      refine y_same (i := .iload 6) (len := 2) (r := (0, 0, 0, 0)) (pc' := 93) (ls' := [some (.inl (some R)), some (zi xx), some (zi xz), some (zi xt), some (zi xf), some (zi xk), some (zi y158)]) (st' := [zi y158]) (by decide +kernel) (fun k q => by cases q) rfl ?_
      refine y_ic (c := 4) (len := 1) (r := (0, 0, 0, 0)) (by decide +kernel) (by decide) (fun y159 hy159 => ?_)
      refine y_cF (c := .ge) (off := 35) (len := 3) (r := (0, 0, 0, 0)) (by decide +kernel) (acmpF (c := .ge) (by show _ < _; omega)) ?_
      refine y_same (i := .aload_n 0) (len := 1) (r := (0, 0, 0, 0)) (pc' := 98) (ls' := [some (.inl (some R)), some (zi xx), some (zi xz), some (zi xt), some (zi xf), some (zi xk), some (zi y158)]) (st' := [.inl (some R)]) (by decide +kernel) (fun k q => by cases q) rfl ?_
      refine y_same (i := .iload 5) (len := 2) (r := (0, 0, 0, 0)) (pc' := 100) (ls' := [some (.inl (some R)), some (zi xx), some (zi xz), some (zi xt), some (zi xf), some (zi xk), some (zi y158)]) (st' := [zi xk, .inl (some R)]) (by decide +kernel) (fun k q => by cases q) rfl ?_
      refine y_cI (i := .invokestatic 256) (len := 3) (r := (1, 198, 12, 1651)) (nL := 1) (k := 1) (n := 1) (hs := []) (args := [zi xk]) (rest := [.inl (some R)]) (l0 := [some (zi xk)]) (by decide +kernel) (Or.inl ⟨_, rfl⟩) rfl rfl rfl rfl (Nat.le_of_ble_eq_true rfl) rfl rfl (e_rightAt (by omega) (by omega)) (fun y160 qy160 hRy160 => ?_)
      obtain ⟨rfl, hy160⟩ := hRy160
      refine y_same (i := .iload 6) (len := 2) (r := (0, 0, 0, 0)) (pc' := 105) (ls' := [some (.inl (some R)), some (zi xx), some (zi xz), some (zi xt), some (zi xf), some (zi xk), some (zi y158)]) (st' := [zi y158, zi y160, .inl (some R)]) (by decide +kernel) (fun k q => by cases q) rfl ?_
      refine y_add (len := 1) (r := (0, 0, 0, 0)) (by decide +kernel) (by omega) (by omega) (fun y161 hy161 => ?_)
      refine y_same (i := .aload_n 0) (len := 1) (r := (0, 0, 0, 0)) (pc' := 107) (ls' := [some (.inl (some R)), some (zi xx), some (zi xz), some (zi xt), some (zi xf), some (zi xk), some (zi y158)]) (st' := [.inl (some R), zi y161, .inl (some R)]) (by decide +kernel) (fun k q => by cases q) rfl ?_
      refine y_same (i := .iload 5) (len := 2) (r := (0, 0, 0, 0)) (pc' := 109) (ls' := [some (.inl (some R)), some (zi xx), some (zi xz), some (zi xt), some (zi xf), some (zi xk), some (zi y158)]) (st' := [zi xk, .inl (some R), zi y161, .inl (some R)]) (by decide +kernel) (fun k q => by cases q) rfl ?_
      refine y_cI (i := .invokestatic 256) (len := 3) (r := (1, 198, 12, 1651)) (nL := 1) (k := 1) (n := 1) (hs := []) (args := [zi xk]) (rest := [.inl (some R), zi y161, .inl (some R)]) (l0 := [some (zi xk)]) (by decide +kernel) (Or.inl ⟨_, rfl⟩) rfl rfl rfl rfl (Nat.le_of_ble_eq_true rfl) rfl rfl (e_rightAt (by omega) (by omega)) (fun y162 qy162 hRy162 => ?_)
      obtain ⟨rfl, hy162⟩ := hRy162
      refine y_same (i := .iload 6) (len := 2) (r := (0, 0, 0, 0)) (pc' := 114) (ls' := [some (.inl (some R)), some (zi xx), some (zi xz), some (zi xt), some (zi xf), some (zi xk), some (zi y158)]) (st' := [zi y158, zi y162, .inl (some R), zi y161, .inl (some R)]) (by decide +kernel) (fun k q => by cases q) rfl ?_
      refine y_add (len := 1) (r := (0, 0, 0, 0)) (by decide +kernel) (by omega) (by omega) (fun y163 hy163 => ?_)
      obtain ⟨v164, hv165, lv164, uv164⟩ := g_int (i := ((80 + 4 * k) + 1)) hg hR at1012 (show ((80 + 4 * k) + 1) < 200 by omega) (srC (by omega) (by omega))
      refine y_ial (i := ((80 + 4 * k) + 1)) (len := 1) (r := (0, 0, 0, 0)) (by decide +kernel) hg hR at1012 (by omega) hv165 ?_
      refine y_same (i := .iload 4) (len := 2) (r := (0, 0, 0, 0)) (pc' := 118) (ls' := [some (.inl (some R)), some (zi xx), some (zi xz), some (zi xt), some (zi xf), some (zi xk), some (zi y158)]) (st' := [zi xf, zi v164, zi y161, .inl (some R)]) (by decide +kernel) (fun k q => by cases q) rfl ?_
      refine y_same (i := .iload_n 3) (len := 1) (r := (0, 0, 0, 0)) (pc' := 119) (ls' := [some (.inl (some R)), some (zi xx), some (zi xz), some (zi xt), some (zi xf), some (zi xk), some (zi y158)]) (st' := [zi xt, zi xf, zi v164, zi y161, .inl (some R)]) (by decide +kernel) (fun k q => by cases q) rfl ?_
      refine y_cI (i := .invokestatic 252) (len := 3) (r := (1, 205, 12, 1663)) (nL := 3) (k := 1) (n := 3) (hs := []) (args := [zi v164, zi xf, zi xt]) (rest := [zi y161, .inl (some R)]) (l0 := [some (zi v164), some (zi xf), some (zi xt)]) (by decide +kernel) (Or.inl ⟨_, rfl⟩) rfl rfl rfl rfl (Nat.le_of_ble_eq_true rfl) rfl rfl (e_becomes) (fun y166 qy166 hRy166 => ?_)
      obtain ⟨rfl, hy166⟩ := hRy166
      refine y_ias (i := ((80 + 4 * k) + 1)) (len := 1) (r := (0, 0, 0, 0)) (by decide +kernel) hg hR at1012 rfl (by omega) (by omega) (srC (by omega) (by omega)) (by omega) (by omega) (fun h167 hg167 hl167 hs167 ho167 => ?_)
      refine y_inc (j := 6) (a := y158) (c := 1) (ls' := fun v => [some (.inl (some R)), some (zi xx), some (zi xz), some (zi xt), some (zi xf), some (zi xk), some v]) (len := 3) (r := (0, 0, 0, 0)) (by decide +kernel) rfl (fun _ => rfl) (by decide) (by omega) (by omega) (fun y168 hy168 => ?_)
      show qX (d + 1) 206 126 [some (.inl (some R)), some (zi xx), some (zi xz), some (zi xt), some (zi xf), some (zi xk), some (zi y168)] [] h167 t _
      refine y_goto (off := (-35)) (pc' := 91) (len := 3) (r := (0, 0, 0, 0)) (by decide +kernel) (by decide +kernel) ?_
      refine y_same (i := .iload 6) (len := 2) (r := (0, 0, 0, 0)) (pc' := 93) (ls' := [some (.inl (some R)), some (zi xx), some (zi xz), some (zi xt), some (zi xf), some (zi xk), some (zi y168)]) (st' := [zi y168]) (by decide +kernel) (fun k q => by cases q) rfl ?_
      refine y_ic (c := 4) (len := 1) (r := (0, 0, 0, 0)) (by decide +kernel) (by decide) (fun y169 hy169 => ?_)
      refine y_cF (c := .ge) (off := 35) (len := 3) (r := (0, 0, 0, 0)) (by decide +kernel) (acmpF (c := .ge) (by show _ < _; omega)) ?_
      refine y_same (i := .aload_n 0) (len := 1) (r := (0, 0, 0, 0)) (pc' := 98) (ls' := [some (.inl (some R)), some (zi xx), some (zi xz), some (zi xt), some (zi xf), some (zi xk), some (zi y168)]) (st' := [.inl (some R)]) (by decide +kernel) (fun k q => by cases q) rfl ?_
      refine y_same (i := .iload 5) (len := 2) (r := (0, 0, 0, 0)) (pc' := 100) (ls' := [some (.inl (some R)), some (zi xx), some (zi xz), some (zi xt), some (zi xf), some (zi xk), some (zi y168)]) (st' := [zi xk, .inl (some R)]) (by decide +kernel) (fun k q => by cases q) rfl ?_
      refine y_cI (i := .invokestatic 256) (len := 3) (r := (1, 198, 12, 1651)) (nL := 1) (k := 1) (n := 1) (hs := []) (args := [zi xk]) (rest := [.inl (some R)]) (l0 := [some (zi xk)]) (by decide +kernel) (Or.inl ⟨_, rfl⟩) rfl rfl rfl rfl (Nat.le_of_ble_eq_true rfl) rfl rfl (e_rightAt (by omega) (by omega)) (fun y170 qy170 hRy170 => ?_)
      obtain ⟨rfl, hy170⟩ := hRy170
      refine y_same (i := .iload 6) (len := 2) (r := (0, 0, 0, 0)) (pc' := 105) (ls' := [some (.inl (some R)), some (zi xx), some (zi xz), some (zi xt), some (zi xf), some (zi xk), some (zi y168)]) (st' := [zi y168, zi y170, .inl (some R)]) (by decide +kernel) (fun k q => by cases q) rfl ?_
      refine y_add (len := 1) (r := (0, 0, 0, 0)) (by decide +kernel) (by omega) (by omega) (fun y171 hy171 => ?_)
      refine y_same (i := .aload_n 0) (len := 1) (r := (0, 0, 0, 0)) (pc' := 107) (ls' := [some (.inl (some R)), some (zi xx), some (zi xz), some (zi xt), some (zi xf), some (zi xk), some (zi y168)]) (st' := [.inl (some R), zi y171, .inl (some R)]) (by decide +kernel) (fun k q => by cases q) rfl ?_
      refine y_same (i := .iload 5) (len := 2) (r := (0, 0, 0, 0)) (pc' := 109) (ls' := [some (.inl (some R)), some (zi xx), some (zi xz), some (zi xt), some (zi xf), some (zi xk), some (zi y168)]) (st' := [zi xk, .inl (some R), zi y171, .inl (some R)]) (by decide +kernel) (fun k q => by cases q) rfl ?_
      refine y_cI (i := .invokestatic 256) (len := 3) (r := (1, 198, 12, 1651)) (nL := 1) (k := 1) (n := 1) (hs := []) (args := [zi xk]) (rest := [.inl (some R), zi y171, .inl (some R)]) (l0 := [some (zi xk)]) (by decide +kernel) (Or.inl ⟨_, rfl⟩) rfl rfl rfl rfl (Nat.le_of_ble_eq_true rfl) rfl rfl (e_rightAt (by omega) (by omega)) (fun y172 qy172 hRy172 => ?_)
      obtain ⟨rfl, hy172⟩ := hRy172
      refine y_same (i := .iload 6) (len := 2) (r := (0, 0, 0, 0)) (pc' := 114) (ls' := [some (.inl (some R)), some (zi xx), some (zi xz), some (zi xt), some (zi xf), some (zi xk), some (zi y168)]) (st' := [zi y168, zi y172, .inl (some R), zi y171, .inl (some R)]) (by decide +kernel) (fun k q => by cases q) rfl ?_
      refine y_add (len := 1) (r := (0, 0, 0, 0)) (by decide +kernel) (by omega) (by omega) (fun y173 hy173 => ?_)
      obtain ⟨v174, hv175, lv174, uv174⟩ := g_int (i := ((80 + 4 * k) + (1 + 1))) hg167 hR at1012 (show ((80 + 4 * k) + (1 + 1)) < 200 by omega) (srC (by omega) (by omega))
      refine y_ial (i := ((80 + 4 * k) + (1 + 1))) (len := 1) (r := (0, 0, 0, 0)) (by decide +kernel) hg167 hR at1012 (by omega) hv175 ?_
      refine y_same (i := .iload 4) (len := 2) (r := (0, 0, 0, 0)) (pc' := 118) (ls' := [some (.inl (some R)), some (zi xx), some (zi xz), some (zi xt), some (zi xf), some (zi xk), some (zi y168)]) (st' := [zi xf, zi v174, zi y171, .inl (some R)]) (by decide +kernel) (fun k q => by cases q) rfl ?_
      refine y_same (i := .iload_n 3) (len := 1) (r := (0, 0, 0, 0)) (pc' := 119) (ls' := [some (.inl (some R)), some (zi xx), some (zi xz), some (zi xt), some (zi xf), some (zi xk), some (zi y168)]) (st' := [zi xt, zi xf, zi v174, zi y171, .inl (some R)]) (by decide +kernel) (fun k q => by cases q) rfl ?_
      refine y_cI (i := .invokestatic 252) (len := 3) (r := (1, 205, 12, 1663)) (nL := 3) (k := 1) (n := 3) (hs := []) (args := [zi v174, zi xf, zi xt]) (rest := [zi y171, .inl (some R)]) (l0 := [some (zi v174), some (zi xf), some (zi xt)]) (by decide +kernel) (Or.inl ⟨_, rfl⟩) rfl rfl rfl rfl (Nat.le_of_ble_eq_true rfl) rfl rfl (e_becomes) (fun y176 qy176 hRy176 => ?_)
      obtain ⟨rfl, hy176⟩ := hRy176
      refine y_ias (i := ((80 + 4 * k) + (1 + 1))) (len := 1) (r := (0, 0, 0, 0)) (by decide +kernel) hg167 hR at1012 rfl (by omega) (by omega) (srC (by omega) (by omega)) (by omega) (by omega) (fun h177 hg177 hl177 hs177 ho177 => ?_)
      refine y_inc (j := 6) (a := y168) (c := 1) (ls' := fun v => [some (.inl (some R)), some (zi xx), some (zi xz), some (zi xt), some (zi xf), some (zi xk), some v]) (len := 3) (r := (0, 0, 0, 0)) (by decide +kernel) rfl (fun _ => rfl) (by decide) (by omega) (by omega) (fun y178 hy178 => ?_)
      show qX (d + 1) 206 126 [some (.inl (some R)), some (zi xx), some (zi xz), some (zi xt), some (zi xf), some (zi xk), some (zi y178)] [] h177 t _
      refine y_goto (off := (-35)) (pc' := 91) (len := 3) (r := (0, 0, 0, 0)) (by decide +kernel) (by decide +kernel) ?_
      refine y_same (i := .iload 6) (len := 2) (r := (0, 0, 0, 0)) (pc' := 93) (ls' := [some (.inl (some R)), some (zi xx), some (zi xz), some (zi xt), some (zi xf), some (zi xk), some (zi y178)]) (st' := [zi y178]) (by decide +kernel) (fun k q => by cases q) rfl ?_
      refine y_ic (c := 4) (len := 1) (r := (0, 0, 0, 0)) (by decide +kernel) (by decide) (fun y179 hy179 => ?_)
      refine y_cF (c := .ge) (off := 35) (len := 3) (r := (0, 0, 0, 0)) (by decide +kernel) (acmpF (c := .ge) (by show _ < _; omega)) ?_
      refine y_same (i := .aload_n 0) (len := 1) (r := (0, 0, 0, 0)) (pc' := 98) (ls' := [some (.inl (some R)), some (zi xx), some (zi xz), some (zi xt), some (zi xf), some (zi xk), some (zi y178)]) (st' := [.inl (some R)]) (by decide +kernel) (fun k q => by cases q) rfl ?_
      refine y_same (i := .iload 5) (len := 2) (r := (0, 0, 0, 0)) (pc' := 100) (ls' := [some (.inl (some R)), some (zi xx), some (zi xz), some (zi xt), some (zi xf), some (zi xk), some (zi y178)]) (st' := [zi xk, .inl (some R)]) (by decide +kernel) (fun k q => by cases q) rfl ?_
      refine y_cI (i := .invokestatic 256) (len := 3) (r := (1, 198, 12, 1651)) (nL := 1) (k := 1) (n := 1) (hs := []) (args := [zi xk]) (rest := [.inl (some R)]) (l0 := [some (zi xk)]) (by decide +kernel) (Or.inl ⟨_, rfl⟩) rfl rfl rfl rfl (Nat.le_of_ble_eq_true rfl) rfl rfl (e_rightAt (by omega) (by omega)) (fun y180 qy180 hRy180 => ?_)
      obtain ⟨rfl, hy180⟩ := hRy180
      refine y_same (i := .iload 6) (len := 2) (r := (0, 0, 0, 0)) (pc' := 105) (ls' := [some (.inl (some R)), some (zi xx), some (zi xz), some (zi xt), some (zi xf), some (zi xk), some (zi y178)]) (st' := [zi y178, zi y180, .inl (some R)]) (by decide +kernel) (fun k q => by cases q) rfl ?_
      refine y_add (len := 1) (r := (0, 0, 0, 0)) (by decide +kernel) (by omega) (by omega) (fun y181 hy181 => ?_)
      refine y_same (i := .aload_n 0) (len := 1) (r := (0, 0, 0, 0)) (pc' := 107) (ls' := [some (.inl (some R)), some (zi xx), some (zi xz), some (zi xt), some (zi xf), some (zi xk), some (zi y178)]) (st' := [.inl (some R), zi y181, .inl (some R)]) (by decide +kernel) (fun k q => by cases q) rfl ?_
      refine y_same (i := .iload 5) (len := 2) (r := (0, 0, 0, 0)) (pc' := 109) (ls' := [some (.inl (some R)), some (zi xx), some (zi xz), some (zi xt), some (zi xf), some (zi xk), some (zi y178)]) (st' := [zi xk, .inl (some R), zi y181, .inl (some R)]) (by decide +kernel) (fun k q => by cases q) rfl ?_
      refine y_cI (i := .invokestatic 256) (len := 3) (r := (1, 198, 12, 1651)) (nL := 1) (k := 1) (n := 1) (hs := []) (args := [zi xk]) (rest := [.inl (some R), zi y181, .inl (some R)]) (l0 := [some (zi xk)]) (by decide +kernel) (Or.inl ⟨_, rfl⟩) rfl rfl rfl rfl (Nat.le_of_ble_eq_true rfl) rfl rfl (e_rightAt (by omega) (by omega)) (fun y182 qy182 hRy182 => ?_)
      obtain ⟨rfl, hy182⟩ := hRy182
      refine y_same (i := .iload 6) (len := 2) (r := (0, 0, 0, 0)) (pc' := 114) (ls' := [some (.inl (some R)), some (zi xx), some (zi xz), some (zi xt), some (zi xf), some (zi xk), some (zi y178)]) (st' := [zi y178, zi y182, .inl (some R), zi y181, .inl (some R)]) (by decide +kernel) (fun k q => by cases q) rfl ?_
      refine y_add (len := 1) (r := (0, 0, 0, 0)) (by decide +kernel) (by omega) (by omega) (fun y183 hy183 => ?_)
      obtain ⟨v184, hv185, lv184, uv184⟩ := g_int (i := ((80 + 4 * k) + ((1 + 1) + 1))) hg177 hR at1012 (show ((80 + 4 * k) + ((1 + 1) + 1)) < 200 by omega) (srC (by omega) (by omega))
      refine y_ial (i := ((80 + 4 * k) + ((1 + 1) + 1))) (len := 1) (r := (0, 0, 0, 0)) (by decide +kernel) hg177 hR at1012 (by omega) hv185 ?_
      refine y_same (i := .iload 4) (len := 2) (r := (0, 0, 0, 0)) (pc' := 118) (ls' := [some (.inl (some R)), some (zi xx), some (zi xz), some (zi xt), some (zi xf), some (zi xk), some (zi y178)]) (st' := [zi xf, zi v184, zi y181, .inl (some R)]) (by decide +kernel) (fun k q => by cases q) rfl ?_
      refine y_same (i := .iload_n 3) (len := 1) (r := (0, 0, 0, 0)) (pc' := 119) (ls' := [some (.inl (some R)), some (zi xx), some (zi xz), some (zi xt), some (zi xf), some (zi xk), some (zi y178)]) (st' := [zi xt, zi xf, zi v184, zi y181, .inl (some R)]) (by decide +kernel) (fun k q => by cases q) rfl ?_
      refine y_cI (i := .invokestatic 252) (len := 3) (r := (1, 205, 12, 1663)) (nL := 3) (k := 1) (n := 3) (hs := []) (args := [zi v184, zi xf, zi xt]) (rest := [zi y181, .inl (some R)]) (l0 := [some (zi v184), some (zi xf), some (zi xt)]) (by decide +kernel) (Or.inl ⟨_, rfl⟩) rfl rfl rfl rfl (Nat.le_of_ble_eq_true rfl) rfl rfl (e_becomes) (fun y186 qy186 hRy186 => ?_)
      obtain ⟨rfl, hy186⟩ := hRy186
      refine y_ias (i := ((80 + 4 * k) + ((1 + 1) + 1))) (len := 1) (r := (0, 0, 0, 0)) (by decide +kernel) hg177 hR at1012 rfl (by omega) (by omega) (srC (by omega) (by omega)) (by omega) (by omega) (fun h187 hg187 hl187 hs187 ho187 => ?_)
      refine y_inc (j := 6) (a := y178) (c := 1) (ls' := fun v => [some (.inl (some R)), some (zi xx), some (zi xz), some (zi xt), some (zi xf), some (zi xk), some v]) (len := 3) (r := (0, 0, 0, 0)) (by decide +kernel) rfl (fun _ => rfl) (by decide) (by omega) (by omega) (fun y188 hy188 => ?_)
      show qX (d + 1) 206 126 [some (.inl (some R)), some (zi xx), some (zi xz), some (zi xt), some (zi xf), some (zi xk), some (zi y188)] [] h187 t _
      refine y_goto (off := (-35)) (pc' := 91) (len := 3) (r := (0, 0, 0, 0)) (by decide +kernel) (by decide +kernel) ?_
      refine y_same (i := .iload 6) (len := 2) (r := (0, 0, 0, 0)) (pc' := 93) (ls' := [some (.inl (some R)), some (zi xx), some (zi xz), some (zi xt), some (zi xf), some (zi xk), some (zi y188)]) (st' := [zi y188]) (by decide +kernel) (fun k q => by cases q) rfl ?_
      refine y_ic (c := 4) (len := 1) (r := (0, 0, 0, 0)) (by decide +kernel) (by decide) (fun y189 hy189 => ?_)
      refine y_cT (c := .ge) (off := 35) (pc' := 129) (len := 3) (r := (0, 0, 0, 0)) (by decide +kernel) (acmpT (c := .ge) (by show _ ≤ _; omega)) (by decide +kernel) ?_
      refine y_inc (j := 5) (a := xk) (c := 1) (ls' := fun v => [some (.inl (some R)), some (zi xx), some (zi xz), some (zi xt), some (zi xf), some v, some (zi y188)]) (len := 3) (r := (0, 0, 0, 0)) (by decide +kernel) rfl (fun _ => rfl) (by decide) (by omega) (by omega) (fun y190 hy190 => ?_)
      show qX (d + 1) 206 132 [some (.inl (some R)), some (zi xx), some (zi xz), some (zi xt), some (zi xf), some (zi y190), some (zi y188)] [] h187 t _
      refine y_goto (off := (-52)) (pc' := 80) (len := 3) (r := (0, 0, 0, 0)) (by decide +kernel) (by decide +kernel) ?_
      have m1 : mk1 R fr to (80 + 4 * k + 1) h h167 := ⟨ho167, v164, y166, hv165, hs167, by omega, by omega, by omega, by omega⟩
      have m2 : mk1 R fr to (80 + 4 * k + 2) h167 h177 := ⟨ho177, v174, y176, hv175, hs177, by omega, by omega, by omega, by omega⟩
      have m3 : mk1 R fr to (80 + 4 * k + 3) h177 h187 := ⟨ho187, v184, y186, hv185, hs187, by omega, by omega, by omega, by omega⟩
      have L : mkL τ R h h187 := mkL_trans (mkL_trans (mk1_L m1 (by omega) (by omega) hg167 hl167) (mk1_L m2 (by omega) (by omega) hg177 hl177)) (mk1_L m3 (by omega) (by omega) hg187 hl187)
      refine ih h187 (k + 1) y190 _ hg187 ((L.2.2.1 R 1 (Or.inr (by omega))).trans hm) (by omega) (by omega) (by omega) (fun h1 xk' l6' L1 => ?_)
      exact kk h1 xk' l6' (mkL_trans L L1)
    ·
      refine y_same (i := .iload 5) (len := 2) (r := (0, 0, 0, 0)) (pc' := 82) (ls' := [some (.inl (some R)), some (zi xx), some (zi xz), some (zi xt), some (zi xf), some (zi xk), l6]) (st' := [zi xk]) (by decide +kernel) (fun k q => by cases q) rfl ?_
      refine y_same (i := .aload_n 0) (len := 1) (r := (0, 0, 0, 0)) (pc' := 83) (ls' := [some (.inl (some R)), some (zi xx), some (zi xz), some (zi xt), some (zi xf), some (zi xk), l6]) (st' := [.inl (some R), zi xk]) (by decide +kernel) (fun k q => by cases q) rfl ?_
      refine y_ic (c := 1) (len := 1) (r := (0, 0, 0, 0)) (by decide +kernel) (by decide) (fun y191 hy191 => ?_)
      refine y_ial (i := 1) (len := 1) (r := (0, 0, 0, 0)) (by decide +kernel) hg hR at1012 (by omega) hm ?_
      refine y_cT (c := .ge) (off := 50) (pc' := 135) (len := 3) (r := (0, 0, 0, 0)) (by decide +kernel) (acmpT (c := .ge) (by show _ ≤ _; omega)) (by decide +kernel) ?_
      exact kk h xk l6 (mkL_refl hg)
theorem mk_loop2 {d t to fr R m : Nat} {τ : List Nat} {xx xz xt xf xm : Int32} {P : zo × zh × Nat → Prop} (hR : τ[R]? = some 1012) (hxt : xt.toInt = (to : Int)) (hxf : xf.toInt = (fr : Int)) (htf : to < fr) (hfr : fr ≤ 20) (hxm : xm.toInt = (m : Int)) (hm9 : m ≤ 12) : ∀ (n : Nat) (h : zh) (k : Nat) (xk : Int32) (l6 : Option zv), hG τ h → hsl h R 2 = some (zi xm) → xk.toInt = (k : Int) → m ≤ k + n → k ≤ m → (∀ (h1 : zh) (xk' : Int32) (l6' : Option zv), mkL τ R h h1 → qX (d + 1) 206 193 [some (.inl (some R)), some (zi xx), some (zi xz), some (zi xt), some (zi xf), some (zi xk'), l6'] [] h1 t P) → qX (d + 1) 206 138 [some (.inl (some R)), some (zi xx), some (zi xz), some (zi xt), some (zi xf), some (zi xk), l6] [] h t P := by
  intro n
  induction n with
  | zero =>
    intro h k xk l6 hg hm hxk hn hkm kk
    ·
      refine y_same (i := .iload 5) (len := 2) (r := (0, 0, 0, 0)) (pc' := 140) (ls' := [some (.inl (some R)), some (zi xx), some (zi xz), some (zi xt), some (zi xf), some (zi xk), l6]) (st' := [zi xk]) (by decide +kernel) (fun k q => by cases q) rfl ?_
      refine y_same (i := .aload_n 0) (len := 1) (r := (0, 0, 0, 0)) (pc' := 141) (ls' := [some (.inl (some R)), some (zi xx), some (zi xz), some (zi xt), some (zi xf), some (zi xk), l6]) (st' := [.inl (some R), zi xk]) (by decide +kernel) (fun k q => by cases q) rfl ?_
      refine y_ic (c := 2) (len := 1) (r := (0, 0, 0, 0)) (by decide +kernel) (by decide) (fun y217 hy217 => ?_)
      refine y_ial (i := 2) (len := 1) (r := (0, 0, 0, 0)) (by decide +kernel) hg hR at1012 (by omega) hm ?_
      refine y_cT (c := .ge) (off := 50) (pc' := 193) (len := 3) (r := (0, 0, 0, 0)) (by decide +kernel) (acmpT (c := .ge) (by show _ ≤ _; omega)) (by decide +kernel) ?_
      exact kk h xk l6 (mkL_refl hg)
  | succ n ih =>
    intro h k xk l6 hg hm hxk hn hkm kk
    rcases Nat.lt_or_ge k m with hc9 | hc9
    ·
      refine y_same (i := .iload 5) (len := 2) (r := (0, 0, 0, 0)) (pc' := 140) (ls' := [some (.inl (some R)), some (zi xx), some (zi xz), some (zi xt), some (zi xf), some (zi xk), l6]) (st' := [zi xk]) (by decide +kernel) (fun k q => by cases q) rfl ?_
      refine y_same (i := .aload_n 0) (len := 1) (r := (0, 0, 0, 0)) (pc' := 141) (ls' := [some (.inl (some R)), some (zi xx), some (zi xz), some (zi xt), some (zi xf), some (zi xk), l6]) (st' := [.inl (some R), zi xk]) (by decide +kernel) (fun k q => by cases q) rfl ?_
      refine y_ic (c := 2) (len := 1) (r := (0, 0, 0, 0)) (by decide +kernel) (by decide) (fun y193 hy193 => ?_)
      refine y_ial (i := 2) (len := 1) (r := (0, 0, 0, 0)) (by decide +kernel) hg hR at1012 (by omega) hm ?_
      refine y_cF (c := .ge) (off := 50) (len := 3) (r := (0, 0, 0, 0)) (by decide +kernel) (acmpF (c := .ge) (by show _ < _; omega)) ?_
      refine y_ic (c := 1) (len := 1) (r := (0, 0, 0, 0)) (by decide +kernel) (by decide) (fun y194 hy194 => ?_)
      refine y_same (i := .istore 6) (len := 2) (r := (0, 0, 0, 0)) (pc' := 149) (ls' := [some (.inl (some R)), some (zi xx), some (zi xz), some (zi xt), some (zi xf), some (zi xk), some (zi y194)]) (st' := []) (by decide +kernel) (fun k q => by cases q) rfl ?_
      refine y_same (i := .iload 6) (len := 2) (r := (0, 0, 0, 0)) (pc' := 151) (ls' := [some (.inl (some R)), some (zi xx), some (zi xz), some (zi xt), some (zi xf), some (zi xk), some (zi y194)]) (st' := [zi y194]) (by decide +kernel) (fun k q => by cases q) rfl ?_
      refine y_ic (c := 3) (len := 1) (r := (0, 0, 0, 0)) (by decide +kernel) (by decide) (fun y195 hy195 => ?_)
      refine y_cF (c := .ge) (off := 35) (len := 3) (r := (0, 0, 0, 0)) (by decide +kernel) (acmpF (c := .ge) (by show _ < _; omega)) ?_
      refine y_same (i := .aload_n 0) (len := 1) (r := (0, 0, 0, 0)) (pc' := 156) (ls' := [some (.inl (some R)), some (zi xx), some (zi xz), some (zi xt), some (zi xf), some (zi xk), some (zi y194)]) (st' := [.inl (some R)]) (by decide +kernel) (fun k q => by cases q) rfl ?_
      refine y_same (i := .iload 5) (len := 2) (r := (0, 0, 0, 0)) (pc' := 158) (ls' := [some (.inl (some R)), some (zi xx), some (zi xz), some (zi xt), some (zi xf), some (zi xk), some (zi y194)]) (st' := [zi xk, .inl (some R)]) (by decide +kernel) (fun k q => by cases q) rfl ?_
      refine y_cI (i := .invokestatic 259) (len := 3) (r := (1, 199, 12, 1654)) (nL := 1) (k := 1) (n := 1) (hs := []) (args := [zi xk]) (rest := [.inl (some R)]) (l0 := [some (zi xk)]) (by decide +kernel) (Or.inl ⟨_, rfl⟩) rfl rfl rfl rfl (Nat.le_of_ble_eq_true rfl) rfl rfl (e_claimIn (by omega) (by omega)) (fun y196 qy196 hRy196 => ?_)
      obtain ⟨rfl, hy196⟩ := hRy196
      refine y_same (i := .iload 6) (len := 2) (r := (0, 0, 0, 0)) (pc' := 163) (ls' := [some (.inl (some R)), some (zi xx), some (zi xz), some (zi xt), some (zi xf), some (zi xk), some (zi y194)]) (st' := [zi y194, zi y196, .inl (some R)]) (by decide +kernel) (fun k q => by cases q) rfl ?_
      refine y_add (len := 1) (r := (0, 0, 0, 0)) (by decide +kernel) (by omega) (by omega) (fun y197 hy197 => ?_)
      refine y_same (i := .aload_n 0) (len := 1) (r := (0, 0, 0, 0)) (pc' := 165) (ls' := [some (.inl (some R)), some (zi xx), some (zi xz), some (zi xt), some (zi xf), some (zi xk), some (zi y194)]) (st' := [.inl (some R), zi y197, .inl (some R)]) (by decide +kernel) (fun k q => by cases q) rfl ?_
      refine y_same (i := .iload 5) (len := 2) (r := (0, 0, 0, 0)) (pc' := 167) (ls' := [some (.inl (some R)), some (zi xx), some (zi xz), some (zi xt), some (zi xf), some (zi xk), some (zi y194)]) (st' := [zi xk, .inl (some R), zi y197, .inl (some R)]) (by decide +kernel) (fun k q => by cases q) rfl ?_
      refine y_cI (i := .invokestatic 259) (len := 3) (r := (1, 199, 12, 1654)) (nL := 1) (k := 1) (n := 1) (hs := []) (args := [zi xk]) (rest := [.inl (some R), zi y197, .inl (some R)]) (l0 := [some (zi xk)]) (by decide +kernel) (Or.inl ⟨_, rfl⟩) rfl rfl rfl rfl (Nat.le_of_ble_eq_true rfl) rfl rfl (e_claimIn (by omega) (by omega)) (fun y198 qy198 hRy198 => ?_)
      obtain ⟨rfl, hy198⟩ := hRy198
      refine y_same (i := .iload 6) (len := 2) (r := (0, 0, 0, 0)) (pc' := 172) (ls' := [some (.inl (some R)), some (zi xx), some (zi xz), some (zi xt), some (zi xf), some (zi xk), some (zi y194)]) (st' := [zi y194, zi y198, .inl (some R), zi y197, .inl (some R)]) (by decide +kernel) (fun k q => by cases q) rfl ?_
      refine y_add (len := 1) (r := (0, 0, 0, 0)) (by decide +kernel) (by omega) (by omega) (fun y199 hy199 => ?_)
      obtain ⟨v200, hv201, lv200, uv200⟩ := g_int (i := ((136 + 4 * k) + 1)) hg hR at1012 (show ((136 + 4 * k) + 1) < 200 by omega) (srC (by omega) (by omega))
      refine y_ial (i := ((136 + 4 * k) + 1)) (len := 1) (r := (0, 0, 0, 0)) (by decide +kernel) hg hR at1012 (by omega) hv201 ?_
      refine y_same (i := .iload 4) (len := 2) (r := (0, 0, 0, 0)) (pc' := 176) (ls' := [some (.inl (some R)), some (zi xx), some (zi xz), some (zi xt), some (zi xf), some (zi xk), some (zi y194)]) (st' := [zi xf, zi v200, zi y197, .inl (some R)]) (by decide +kernel) (fun k q => by cases q) rfl ?_
      refine y_same (i := .iload_n 3) (len := 1) (r := (0, 0, 0, 0)) (pc' := 177) (ls' := [some (.inl (some R)), some (zi xx), some (zi xz), some (zi xt), some (zi xf), some (zi xk), some (zi y194)]) (st' := [zi xt, zi xf, zi v200, zi y197, .inl (some R)]) (by decide +kernel) (fun k q => by cases q) rfl ?_
      refine y_cI (i := .invokestatic 252) (len := 3) (r := (1, 205, 12, 1663)) (nL := 3) (k := 1) (n := 3) (hs := []) (args := [zi v200, zi xf, zi xt]) (rest := [zi y197, .inl (some R)]) (l0 := [some (zi v200), some (zi xf), some (zi xt)]) (by decide +kernel) (Or.inl ⟨_, rfl⟩) rfl rfl rfl rfl (Nat.le_of_ble_eq_true rfl) rfl rfl (e_becomes) (fun y202 qy202 hRy202 => ?_)
      obtain ⟨rfl, hy202⟩ := hRy202
      refine y_ias (i := ((136 + 4 * k) + 1)) (len := 1) (r := (0, 0, 0, 0)) (by decide +kernel) hg hR at1012 rfl (by omega) (by omega) (srC (by omega) (by omega)) (by omega) (by omega) (fun h203 hg203 hl203 hs203 ho203 => ?_)
      refine y_inc (j := 6) (a := y194) (c := 1) (ls' := fun v => [some (.inl (some R)), some (zi xx), some (zi xz), some (zi xt), some (zi xf), some (zi xk), some v]) (len := 3) (r := (0, 0, 0, 0)) (by decide +kernel) rfl (fun _ => rfl) (by decide) (by omega) (by omega) (fun y204 hy204 => ?_)
      show qX (d + 1) 206 184 [some (.inl (some R)), some (zi xx), some (zi xz), some (zi xt), some (zi xf), some (zi xk), some (zi y204)] [] h203 t _
      refine y_goto (off := (-35)) (pc' := 149) (len := 3) (r := (0, 0, 0, 0)) (by decide +kernel) (by decide +kernel) ?_
      refine y_same (i := .iload 6) (len := 2) (r := (0, 0, 0, 0)) (pc' := 151) (ls' := [some (.inl (some R)), some (zi xx), some (zi xz), some (zi xt), some (zi xf), some (zi xk), some (zi y204)]) (st' := [zi y204]) (by decide +kernel) (fun k q => by cases q) rfl ?_
      refine y_ic (c := 3) (len := 1) (r := (0, 0, 0, 0)) (by decide +kernel) (by decide) (fun y205 hy205 => ?_)
      refine y_cF (c := .ge) (off := 35) (len := 3) (r := (0, 0, 0, 0)) (by decide +kernel) (acmpF (c := .ge) (by show _ < _; omega)) ?_
      refine y_same (i := .aload_n 0) (len := 1) (r := (0, 0, 0, 0)) (pc' := 156) (ls' := [some (.inl (some R)), some (zi xx), some (zi xz), some (zi xt), some (zi xf), some (zi xk), some (zi y204)]) (st' := [.inl (some R)]) (by decide +kernel) (fun k q => by cases q) rfl ?_
      refine y_same (i := .iload 5) (len := 2) (r := (0, 0, 0, 0)) (pc' := 158) (ls' := [some (.inl (some R)), some (zi xx), some (zi xz), some (zi xt), some (zi xf), some (zi xk), some (zi y204)]) (st' := [zi xk, .inl (some R)]) (by decide +kernel) (fun k q => by cases q) rfl ?_
      refine y_cI (i := .invokestatic 259) (len := 3) (r := (1, 199, 12, 1654)) (nL := 1) (k := 1) (n := 1) (hs := []) (args := [zi xk]) (rest := [.inl (some R)]) (l0 := [some (zi xk)]) (by decide +kernel) (Or.inl ⟨_, rfl⟩) rfl rfl rfl rfl (Nat.le_of_ble_eq_true rfl) rfl rfl (e_claimIn (by omega) (by omega)) (fun y206 qy206 hRy206 => ?_)
      obtain ⟨rfl, hy206⟩ := hRy206
      refine y_same (i := .iload 6) (len := 2) (r := (0, 0, 0, 0)) (pc' := 163) (ls' := [some (.inl (some R)), some (zi xx), some (zi xz), some (zi xt), some (zi xf), some (zi xk), some (zi y204)]) (st' := [zi y204, zi y206, .inl (some R)]) (by decide +kernel) (fun k q => by cases q) rfl ?_
      refine y_add (len := 1) (r := (0, 0, 0, 0)) (by decide +kernel) (by omega) (by omega) (fun y207 hy207 => ?_)
      refine y_same (i := .aload_n 0) (len := 1) (r := (0, 0, 0, 0)) (pc' := 165) (ls' := [some (.inl (some R)), some (zi xx), some (zi xz), some (zi xt), some (zi xf), some (zi xk), some (zi y204)]) (st' := [.inl (some R), zi y207, .inl (some R)]) (by decide +kernel) (fun k q => by cases q) rfl ?_
      refine y_same (i := .iload 5) (len := 2) (r := (0, 0, 0, 0)) (pc' := 167) (ls' := [some (.inl (some R)), some (zi xx), some (zi xz), some (zi xt), some (zi xf), some (zi xk), some (zi y204)]) (st' := [zi xk, .inl (some R), zi y207, .inl (some R)]) (by decide +kernel) (fun k q => by cases q) rfl ?_
      refine y_cI (i := .invokestatic 259) (len := 3) (r := (1, 199, 12, 1654)) (nL := 1) (k := 1) (n := 1) (hs := []) (args := [zi xk]) (rest := [.inl (some R), zi y207, .inl (some R)]) (l0 := [some (zi xk)]) (by decide +kernel) (Or.inl ⟨_, rfl⟩) rfl rfl rfl rfl (Nat.le_of_ble_eq_true rfl) rfl rfl (e_claimIn (by omega) (by omega)) (fun y208 qy208 hRy208 => ?_)
      obtain ⟨rfl, hy208⟩ := hRy208
      refine y_same (i := .iload 6) (len := 2) (r := (0, 0, 0, 0)) (pc' := 172) (ls' := [some (.inl (some R)), some (zi xx), some (zi xz), some (zi xt), some (zi xf), some (zi xk), some (zi y204)]) (st' := [zi y204, zi y208, .inl (some R), zi y207, .inl (some R)]) (by decide +kernel) (fun k q => by cases q) rfl ?_
      refine y_add (len := 1) (r := (0, 0, 0, 0)) (by decide +kernel) (by omega) (by omega) (fun y209 hy209 => ?_)
      obtain ⟨v210, hv211, lv210, uv210⟩ := g_int (i := ((136 + 4 * k) + (1 + 1))) hg203 hR at1012 (show ((136 + 4 * k) + (1 + 1)) < 200 by omega) (srC (by omega) (by omega))
      refine y_ial (i := ((136 + 4 * k) + (1 + 1))) (len := 1) (r := (0, 0, 0, 0)) (by decide +kernel) hg203 hR at1012 (by omega) hv211 ?_
      refine y_same (i := .iload 4) (len := 2) (r := (0, 0, 0, 0)) (pc' := 176) (ls' := [some (.inl (some R)), some (zi xx), some (zi xz), some (zi xt), some (zi xf), some (zi xk), some (zi y204)]) (st' := [zi xf, zi v210, zi y207, .inl (some R)]) (by decide +kernel) (fun k q => by cases q) rfl ?_
      refine y_same (i := .iload_n 3) (len := 1) (r := (0, 0, 0, 0)) (pc' := 177) (ls' := [some (.inl (some R)), some (zi xx), some (zi xz), some (zi xt), some (zi xf), some (zi xk), some (zi y204)]) (st' := [zi xt, zi xf, zi v210, zi y207, .inl (some R)]) (by decide +kernel) (fun k q => by cases q) rfl ?_
      refine y_cI (i := .invokestatic 252) (len := 3) (r := (1, 205, 12, 1663)) (nL := 3) (k := 1) (n := 3) (hs := []) (args := [zi v210, zi xf, zi xt]) (rest := [zi y207, .inl (some R)]) (l0 := [some (zi v210), some (zi xf), some (zi xt)]) (by decide +kernel) (Or.inl ⟨_, rfl⟩) rfl rfl rfl rfl (Nat.le_of_ble_eq_true rfl) rfl rfl (e_becomes) (fun y212 qy212 hRy212 => ?_)
      obtain ⟨rfl, hy212⟩ := hRy212
      refine y_ias (i := ((136 + 4 * k) + (1 + 1))) (len := 1) (r := (0, 0, 0, 0)) (by decide +kernel) hg203 hR at1012 rfl (by omega) (by omega) (srC (by omega) (by omega)) (by omega) (by omega) (fun h213 hg213 hl213 hs213 ho213 => ?_)
      refine y_inc (j := 6) (a := y204) (c := 1) (ls' := fun v => [some (.inl (some R)), some (zi xx), some (zi xz), some (zi xt), some (zi xf), some (zi xk), some v]) (len := 3) (r := (0, 0, 0, 0)) (by decide +kernel) rfl (fun _ => rfl) (by decide) (by omega) (by omega) (fun y214 hy214 => ?_)
      show qX (d + 1) 206 184 [some (.inl (some R)), some (zi xx), some (zi xz), some (zi xt), some (zi xf), some (zi xk), some (zi y214)] [] h213 t _
      refine y_goto (off := (-35)) (pc' := 149) (len := 3) (r := (0, 0, 0, 0)) (by decide +kernel) (by decide +kernel) ?_
      refine y_same (i := .iload 6) (len := 2) (r := (0, 0, 0, 0)) (pc' := 151) (ls' := [some (.inl (some R)), some (zi xx), some (zi xz), some (zi xt), some (zi xf), some (zi xk), some (zi y214)]) (st' := [zi y214]) (by decide +kernel) (fun k q => by cases q) rfl ?_
      refine y_ic (c := 3) (len := 1) (r := (0, 0, 0, 0)) (by decide +kernel) (by decide) (fun y215 hy215 => ?_)
      refine y_cT (c := .ge) (off := 35) (pc' := 187) (len := 3) (r := (0, 0, 0, 0)) (by decide +kernel) (acmpT (c := .ge) (by show _ ≤ _; omega)) (by decide +kernel) ?_
      refine y_inc (j := 5) (a := xk) (c := 1) (ls' := fun v => [some (.inl (some R)), some (zi xx), some (zi xz), some (zi xt), some (zi xf), some v, some (zi y214)]) (len := 3) (r := (0, 0, 0, 0)) (by decide +kernel) rfl (fun _ => rfl) (by decide) (by omega) (by omega) (fun y216 hy216 => ?_)
      show qX (d + 1) 206 190 [some (.inl (some R)), some (zi xx), some (zi xz), some (zi xt), some (zi xf), some (zi y216), some (zi y214)] [] h213 t _
      refine y_goto (off := (-52)) (pc' := 138) (len := 3) (r := (0, 0, 0, 0)) (by decide +kernel) (by decide +kernel) ?_
      have m1 : mk1 R fr to (136 + 4 * k + 1) h h203 := ⟨ho203, v200, y202, hv201, hs203, by omega, by omega, by omega, by omega⟩
      have m2 : mk1 R fr to (136 + 4 * k + 2) h203 h213 := ⟨ho213, v210, y212, hv211, hs213, by omega, by omega, by omega, by omega⟩
      have L : mkL τ R h h213 := mkL_trans (mk1_L m1 (by omega) (by omega) hg203 hl203) (mk1_L m2 (by omega) (by omega) hg213 hl213)
      refine ih h213 (k + 1) y216 _ hg213 ((L.2.2.1 R 2 (Or.inr (by omega))).trans hm) (by omega) (by omega) (by omega) (fun h1 xk' l6' L1 => ?_)
      exact kk h1 xk' l6' (mkL_trans L L1)
    ·
      refine y_same (i := .iload 5) (len := 2) (r := (0, 0, 0, 0)) (pc' := 140) (ls' := [some (.inl (some R)), some (zi xx), some (zi xz), some (zi xt), some (zi xf), some (zi xk), l6]) (st' := [zi xk]) (by decide +kernel) (fun k q => by cases q) rfl ?_
      refine y_same (i := .aload_n 0) (len := 1) (r := (0, 0, 0, 0)) (pc' := 141) (ls' := [some (.inl (some R)), some (zi xx), some (zi xz), some (zi xt), some (zi xf), some (zi xk), l6]) (st' := [.inl (some R), zi xk]) (by decide +kernel) (fun k q => by cases q) rfl ?_
      refine y_ic (c := 2) (len := 1) (r := (0, 0, 0, 0)) (by decide +kernel) (by decide) (fun y217 hy217 => ?_)
      refine y_ial (i := 2) (len := 1) (r := (0, 0, 0, 0)) (by decide +kernel) hg hR at1012 (by omega) hm ?_
      refine y_cT (c := .ge) (off := 50) (pc' := 193) (len := 3) (r := (0, 0, 0, 0)) (by decide +kernel) (acmpT (c := .ge) (by show _ ≤ _; omega)) (by decide +kernel) ?_
      exact kk h xk l6 (mkL_refl hg)
theorem mk_loop4 {d t to fr R : Nat} {τ : List Nat} {xx xz xt xf : Int32} (hR : τ[R]? = some 1012) (hxt : xt.toInt = (to : Int)) (hxf : xf.toInt = (fr : Int)) (htf : to < fr) (hfr : fr ≤ 20) : ∀ (n : Nat) (h : zh) (k : Nat) (xk : Int32) (l6 : Option zv), hG τ h → xk.toInt = (k : Int) → 21 ≤ k + n → k ≤ 21 → qX (d + 1) 206 196 [some (.inl (some R)), some (zi xx), some (zi xz), some (zi xt), some (zi xf), some (zi xk), l6] [] h t (rV (fun h1 => hG τ h1 ∧ h1.length = h.length ∧ ∀ k j, (k ≠ R ∨ j < 3 ∨ 24 ≤ j) → hsl h1 k j = hsl h k j) t)
  | 0, h, k, xk, l6, hg, hxk, hn, hk => by
    ·
      refine y_same (i := .iload 5) (len := 2) (r := (0, 0, 0, 0)) (pc' := 198) (ls' := [some (.inl (some R)), some (zi xx), some (zi xz), some (zi xt), some (zi xf), some (zi xk), l6]) (st' := [zi xk]) (by decide +kernel) (fun k q => by cases q) rfl ?_
      refine y_bi (c := 21) (len := 2) (r := (0, 0, 0, 0)) (by decide +kernel) (by decide) (fun y219 hy219 => ?_)
      refine y_cT (c := .ge) (off := 49) (pc' := 249) (len := 3) (r := (0, 0, 0, 0)) (by decide +kernel) (acmpT (c := .ge) (by show _ ≤ _; omega)) (by decide +kernel) ?_
      refine y_rV (len := 1) (r := (0, 0, 0, 0)) (nL := 7) (n9 := 3) (hs := []) (by decide +kernel) rfl ?_
      exact ⟨hg, rfl, fun _ _ _ => rfl⟩
  | n + 1, h, k, xk, l6, hg, hxk, hn, hk => by
    rcases Nat.lt_or_ge k 21 with hc9 | hc9
    ·
      refine y_same (i := .iload 5) (len := 2) (r := (0, 0, 0, 0)) (pc' := 198) (ls' := [some (.inl (some R)), some (zi xx), some (zi xz), some (zi xt), some (zi xf), some (zi xk), l6]) (st' := [zi xk]) (by decide +kernel) (fun k q => by cases q) rfl ?_
      refine y_bi (c := 21) (len := 2) (r := (0, 0, 0, 0)) (by decide +kernel) (by decide) (fun y220 hy220 => ?_)
      refine y_cF (c := .ge) (off := 49) (len := 3) (r := (0, 0, 0, 0)) (by decide +kernel) (acmpF (c := .ge) (by show _ < _; omega)) ?_
      refine y_same (i := .aload_n 0) (len := 1) (r := (0, 0, 0, 0)) (pc' := 204) (ls' := [some (.inl (some R)), some (zi xx), some (zi xz), some (zi xt), some (zi xf), some (zi xk), l6]) (st' := [.inl (some R)]) (by decide +kernel) (fun k q => by cases q) rfl ?_
      refine y_same (i := .iload 4) (len := 2) (r := (0, 0, 0, 0)) (pc' := 206) (ls' := [some (.inl (some R)), some (zi xx), some (zi xz), some (zi xt), some (zi xf), some (zi xk), l6]) (st' := [zi xf, .inl (some R)]) (by decide +kernel) (fun k q => by cases q) rfl ?_
      refine y_same (i := .iload 5) (len := 2) (r := (0, 0, 0, 0)) (pc' := 208) (ls' := [some (.inl (some R)), some (zi xx), some (zi xz), some (zi xt), some (zi xf), some (zi xk), l6]) (st' := [zi xk, zi xf, .inl (some R)]) (by decide +kernel) (fun k q => by cases q) rfl ?_
      obtain ⟨v221, hv222, lv221, uv221⟩ := g_int (i := (3 + fr)) hg hR at1012 (show (3 + fr) < 200 by omega) (srB (by omega) (by omega))
      refine y_cI (i := .invokestatic 245) (len := 3) (r := (1, 200, 12, 1666)) (nL := 3) (k := 2) (n := 3) (hs := []) (args := [.inl (some R), zi xf, zi xk]) (rest := []) (l0 := [some (.inl (some R)), some (zi xf), some (zi xk)]) (by decide +kernel) (Or.inl ⟨_, rfl⟩) rfl rfl rfl rfl (Nat.le_of_ble_eq_true rfl) rfl rfl (e_differ (p := fr) hg hR (by omega) (by omega) hv222) (fun y223 qy223 hRy223 => ?_)
      obtain ⟨rfl, hy223a, hy223b, hy223c⟩ := hRy223
      rcases Decidable.em (y223.toInt = 0) with qb | qb
      ·
        refine y_iF (c := .ne) (off := 6) (len := 3) (r := (0, 0, 0, 0)) (by decide +kernel) (acmpF (c := .ne) (by show _ = _; omega)) ?_
        refine y_goto (off := 29) (pc' := 243) (len := 3) (r := (0, 0, 0, 0)) (by decide +kernel) (by decide +kernel) ?_
        refine y_inc (j := 5) (a := xk) (c := 1) (ls' := fun v => [some (.inl (some R)), some (zi xx), some (zi xz), some (zi xt), some (zi xf), some v, l6]) (len := 3) (r := (0, 0, 0, 0)) (by decide +kernel) rfl (fun _ => rfl) (by decide) (by omega) (by omega) (fun y224 hy224 => ?_)
        show qX (d + 1) 206 246 [some (.inl (some R)), some (zi xx), some (zi xz), some (zi xt), some (zi xf), some (zi y224), l6] [] h t _
        refine y_goto (off := (-50)) (pc' := 196) (len := 3) (r := (0, 0, 0, 0)) (by decide +kernel) (by decide +kernel) ?_
        exact mk_loop4 hR hxt hxf htf hfr n h (k + 1) y224 l6 hg (by omega) (by omega) (by omega)
      ·
        refine y_iT (c := .ne) (off := 6) (pc' := 217) (len := 3) (r := (0, 0, 0, 0)) (by decide +kernel) (acmpT (c := .ne) (by show ¬ (_ = _); omega)) (by decide +kernel) ?_
        refine y_same (i := .aload_n 0) (len := 1) (r := (0, 0, 0, 0)) (pc' := 218) (ls' := [some (.inl (some R)), some (zi xx), some (zi xz), some (zi xt), some (zi xf), some (zi xk), l6]) (st' := [.inl (some R)]) (by decide +kernel) (fun k q => by cases q) rfl ?_
        refine y_same (i := .iload 4) (len := 2) (r := (0, 0, 0, 0)) (pc' := 220) (ls' := [some (.inl (some R)), some (zi xx), some (zi xz), some (zi xt), some (zi xf), some (zi xk), l6]) (st' := [zi xf, .inl (some R)]) (by decide +kernel) (fun k q => by cases q) rfl ?_
        refine y_same (i := .iload 5) (len := 2) (r := (0, 0, 0, 0)) (pc' := 222) (ls' := [some (.inl (some R)), some (zi xx), some (zi xz), some (zi xt), some (zi xf), some (zi xk), l6]) (st' := [zi xk, zi xf, .inl (some R)]) (by decide +kernel) (fun k q => by cases q) rfl ?_
        obtain ⟨v225, hv226, lv225, uv225⟩ := g_int (i := (3 + fr)) hg hR at1012 (show (3 + fr) < 200 by omega) (srB (by omega) (by omega))
        refine y_cV (i := .invokestatic 262) (len := 3) (r := (1, 202, 12, 1669)) (nL := 3) (k := 0) (n := 3) (hs := []) (args := [.inl (some R), zi xf, zi xk]) (rest := []) (l0 := [some (.inl (some R)), some (zi xf), some (zi xk)]) (by decide +kernel) (Or.inl ⟨_, rfl⟩) rfl rfl rfl rfl (Nat.le_of_ble_eq_true rfl) rfl rfl (e_agrees (p := fr) (q := k) hg hR (by omega) (by omega) (by omega) (by omega) hv226) (fun h227 hR227 => ?_)
        obtain ⟨hg227, hl227, ho227, hx227⟩ := hR227
        refine y_same (i := .aload_n 0) (len := 1) (r := (0, 0, 0, 0)) (pc' := 226) (ls' := [some (.inl (some R)), some (zi xx), some (zi xz), some (zi xt), some (zi xf), some (zi xk), l6]) (st' := [.inl (some R)]) (by decide +kernel) (fun k q => by cases q) rfl ?_
        refine y_same (i := .iload_n 3) (len := 1) (r := (0, 0, 0, 0)) (pc' := 227) (ls' := [some (.inl (some R)), some (zi xx), some (zi xz), some (zi xt), some (zi xf), some (zi xk), l6]) (st' := [zi xt, .inl (some R)]) (by decide +kernel) (fun k q => by cases q) rfl ?_
        refine y_same (i := .iload 5) (len := 2) (r := (0, 0, 0, 0)) (pc' := 229) (ls' := [some (.inl (some R)), some (zi xx), some (zi xz), some (zi xt), some (zi xf), some (zi xk), l6]) (st' := [zi xk, zi xt, .inl (some R)]) (by decide +kernel) (fun k q => by cases q) rfl ?_
        refine y_same (i := .iload 4) (len := 2) (r := (0, 0, 0, 0)) (pc' := 231) (ls' := [some (.inl (some R)), some (zi xx), some (zi xz), some (zi xt), some (zi xf), some (zi xk), l6]) (st' := [zi xf, zi xk, zi xt, .inl (some R)]) (by decide +kernel) (fun k q => by cases q) rfl ?_
        rcases Decidable.em (xk.toInt = xf.toInt) with qe | qe
        ·
          refine y_cF (c := .ne) (off := 7) (len := 3) (r := (0, 0, 0, 0)) (by decide +kernel) (acmpF (c := .ne) (by show _ = _; omega)) ?_
          refine y_same (i := .iload_n 3) (len := 1) (r := (0, 0, 0, 0)) (pc' := 235) (ls' := [some (.inl (some R)), some (zi xx), some (zi xz), some (zi xt), some (zi xf), some (zi xk), l6]) (st' := [zi xt, zi xt, .inl (some R)]) (by decide +kernel) (fun k q => by cases q) rfl ?_
          refine y_goto (off := 5) (pc' := 240) (len := 3) (r := (0, 0, 0, 0)) (by decide +kernel) (by decide +kernel) ?_
          obtain ⟨v228, hv229, lv228, uv228⟩ := g_int (i := (3 + to)) hg227 hR at1012 (show (3 + to) < 200 by omega) (srB (by omega) (by omega))
          refine y_cV (i := .invokestatic 266) (len := 3) (r := (1, 201, 12, 1672)) (nL := 3) (k := 0) (n := 3) (hs := []) (args := [.inl (some R), zi xt, zi xt]) (rest := []) (l0 := [some (.inl (some R)), some (zi xt), some (zi xt)]) (by decide +kernel) (Or.inl ⟨_, rfl⟩) rfl rfl rfl rfl (Nat.le_of_ble_eq_true rfl) rfl rfl (e_differs (p := to) (q := to) hg227 hR (by omega) (by omega) (by omega) (by omega) hv229) (fun h230 hR230 => ?_)
          obtain ⟨hg230, hl230, ho230⟩ := hR230
          refine y_inc (j := 5) (a := xk) (c := 1) (ls' := fun v => [some (.inl (some R)), some (zi xx), some (zi xz), some (zi xt), some (zi xf), some v, l6]) (len := 3) (r := (0, 0, 0, 0)) (by decide +kernel) rfl (fun _ => rfl) (by decide) (by omega) (by omega) (fun y231 hy231 => ?_)
          show qX (d + 1) 206 246 [some (.inl (some R)), some (zi xx), some (zi xz), some (zi xt), some (zi xf), some (zi y231), l6] [] h230 t _
          refine y_goto (off := (-50)) (pc' := 196) (len := 3) (r := (0, 0, 0, 0)) (by decide +kernel) (by decide +kernel) ?_
          refine qX_V (mk_loop4 hR hxt hxf htf hfr n h230 (k + 1) y231 l6 hg230 (by omega) (by omega) (by omega)) (fun h1 hR1 => ?_)
          exact ⟨hR1.1, by have := hR1.2.1; omega, fun k j hkj => (hR1.2.2 k j hkj).trans ((ho230 k j (by omega)).trans (ho227 k j (by omega)))⟩
        ·
          refine y_cT (c := .ne) (off := 7) (pc' := 238) (len := 3) (r := (0, 0, 0, 0)) (by decide +kernel) (acmpT (c := .ne) (by show ¬ (_ = _); omega)) (by decide +kernel) ?_
          refine y_same (i := .iload 5) (len := 2) (r := (0, 0, 0, 0)) (pc' := 240) (ls' := [some (.inl (some R)), some (zi xx), some (zi xz), some (zi xt), some (zi xf), some (zi xk), l6]) (st' := [zi xk, zi xt, .inl (some R)]) (by decide +kernel) (fun k q => by cases q) rfl ?_
          obtain ⟨v232, hv233, lv232, uv232⟩ := g_int (i := (3 + to)) hg227 hR at1012 (show (3 + to) < 200 by omega) (srB (by omega) (by omega))
          refine y_cV (i := .invokestatic 266) (len := 3) (r := (1, 201, 12, 1672)) (nL := 3) (k := 0) (n := 3) (hs := []) (args := [.inl (some R), zi xt, zi xk]) (rest := []) (l0 := [some (.inl (some R)), some (zi xt), some (zi xk)]) (by decide +kernel) (Or.inl ⟨_, rfl⟩) rfl rfl rfl rfl (Nat.le_of_ble_eq_true rfl) rfl rfl (e_differs (p := to) (q := k) hg227 hR (by omega) (by omega) (by omega) (by omega) hv233) (fun h234 hR234 => ?_)
          obtain ⟨hg234, hl234, ho234⟩ := hR234
          refine y_inc (j := 5) (a := xk) (c := 1) (ls' := fun v => [some (.inl (some R)), some (zi xx), some (zi xz), some (zi xt), some (zi xf), some v, l6]) (len := 3) (r := (0, 0, 0, 0)) (by decide +kernel) rfl (fun _ => rfl) (by decide) (by omega) (by omega) (fun y235 hy235 => ?_)
          show qX (d + 1) 206 246 [some (.inl (some R)), some (zi xx), some (zi xz), some (zi xt), some (zi xf), some (zi y235), l6] [] h234 t _
          refine y_goto (off := (-50)) (pc' := 196) (len := 3) (r := (0, 0, 0, 0)) (by decide +kernel) (by decide +kernel) ?_
          refine qX_V (mk_loop4 hR hxt hxf htf hfr n h234 (k + 1) y235 l6 hg234 (by omega) (by omega) (by omega)) (fun h1 hR1 => ?_)
          exact ⟨hR1.1, by have := hR1.2.1; omega, fun k j hkj => (hR1.2.2 k j hkj).trans ((ho234 k j (by omega)).trans (ho227 k j (by omega)))⟩
    ·
      refine y_same (i := .iload 5) (len := 2) (r := (0, 0, 0, 0)) (pc' := 198) (ls' := [some (.inl (some R)), some (zi xx), some (zi xz), some (zi xt), some (zi xf), some (zi xk), l6]) (st' := [zi xk]) (by decide +kernel) (fun k q => by cases q) rfl ?_
      refine y_bi (c := 21) (len := 2) (r := (0, 0, 0, 0)) (by decide +kernel) (by decide) (fun y219 hy219 => ?_)
      refine y_cT (c := .ge) (off := 49) (pc' := 249) (len := 3) (r := (0, 0, 0, 0)) (by decide +kernel) (acmpT (c := .ge) (by show _ ≤ _; omega)) (by decide +kernel) ?_
      refine y_rV (len := 1) (r := (0, 0, 0, 0)) (nL := 7) (n9 := 3) (hs := []) (by decide +kernel) rfl ?_
      exact ⟨hg, rfl, fun _ _ _ => rfl⟩
theorem e_makes {d t R : Nat} {τ : List Nat} {h : zh} {xx xz xm : Int32} (hg : hG τ h) (hR : τ[R]? = some 1012) (h1 : 0 ≤ xx.toInt) (h2 : xx.toInt ≤ 20) (h3 : 0 ≤ xz.toInt) (h4 : xz.toInt ≤ 20) (hne : xx.toInt ≠ xz.toInt) (hm : hsl h R 0 = some (zi xm)) : qV (d + 2) 206 [some (.inl (some R)), some (zi xx), some (zi xz), none, none, none, none] h t (fun h1 => hG τ h1 ∧ h1.length = h.length ∧ (∀ k j, (k ≠ R ∨ j < 3) → hsl h1 k j = hsl h k j) ∧ (∀ j, 24 ≤ j → sv h1 R j ≤ sv h R j) ∧ ∀ (k w : Nat) (v : Int32), (k : Int) < xm.toInt → 1 ≤ w → w ≤ 3 → hsl h R (24 + 4 * k + w) = some (zi v) → xx.toInt ≤ v.toInt → xz.toInt ≤ v.toInt → (v.toInt = xx.toInt ∨ v.toInt = xz.toInt) → sv h1 R (24 + 4 * k + w) < sv h R (24 + 4 * k + w)) := by
  refine qV_of ?_
  refine y_same (i := .iload_n 1) (len := 1) (r := (0, 0, 0, 0)) (pc' := 1) (ls' := [some (.inl (some R)), some (zi xx), some (zi xz), none, none, none, none]) (st' := [zi xx]) (by decide +kernel) (fun k q => by cases q) rfl ?_
  refine y_same (i := .iload_n 2) (len := 1) (r := (0, 0, 0, 0)) (pc' := 2) (ls' := [some (.inl (some R)), some (zi xx), some (zi xz), none, none, none, none]) (st' := [zi xz, zi xx]) (by decide +kernel) (fun k q => by cases q) rfl ?_
  refine y_cT (c := .ne) (off := 4) (pc' := 6) (len := 3) (r := (0, 0, 0, 0)) (by decide +kernel) (acmpT (c := .ne) (by show ¬ (_ = _); omega)) (by decide +kernel) ?_
  refine y_same (i := .iload_n 1) (len := 1) (r := (0, 0, 0, 0)) (pc' := 7) (ls' := [some (.inl (some R)), some (zi xx), some (zi xz), none, none, none, none]) (st' := [zi xx]) (by decide +kernel) (fun k q => by cases q) rfl ?_
  refine y_same (i := .iload_n 2) (len := 1) (r := (0, 0, 0, 0)) (pc' := 8) (ls' := [some (.inl (some R)), some (zi xx), some (zi xz), none, none, none, none]) (st' := [zi xz, zi xx]) (by decide +kernel) (fun k q => by cases q) rfl ?_
  refine y_cI (i := .invokestatic 233) (len := 3) (r := (1, 163, 12, 1594)) (nL := 2) (k := 1) (n := 2) (hs := []) (args := [zi xx, zi xz]) (rest := []) (l0 := [some (zi xx), some (zi xz)]) (by decide +kernel) (Or.inl ⟨_, rfl⟩) rfl rfl rfl rfl (Nat.le_of_ble_eq_true rfl) rfl rfl (e_less) (fun y236 qy236 hRy236 => ?_)
  obtain ⟨rfl, hy236⟩ := hRy236
  refine y_same (i := .istore_n 3) (len := 1) (r := (0, 0, 0, 0)) (pc' := 12) (ls' := [some (.inl (some R)), some (zi xx), some (zi xz), some (zi y236), none, none, none]) (st' := []) (by decide +kernel) (fun k q => by cases q) rfl ?_
  refine y_same (i := .iload_n 1) (len := 1) (r := (0, 0, 0, 0)) (pc' := 13) (ls' := [some (.inl (some R)), some (zi xx), some (zi xz), some (zi y236), none, none, none]) (st' := [zi xx]) (by decide +kernel) (fun k q => by cases q) rfl ?_
  refine y_same (i := .iload_n 2) (len := 1) (r := (0, 0, 0, 0)) (pc' := 14) (ls' := [some (.inl (some R)), some (zi xx), some (zi xz), some (zi y236), none, none, none]) (st' := [zi xz, zi xx]) (by decide +kernel) (fun k q => by cases q) rfl ?_
  refine y_cI (i := .invokestatic 230) (len := 3) (r := (1, 164, 12, 1591)) (nL := 2) (k := 1) (n := 2) (hs := []) (args := [zi xx, zi xz]) (rest := []) (l0 := [some (zi xx), some (zi xz)]) (by decide +kernel) (Or.inl ⟨_, rfl⟩) rfl rfl rfl rfl (Nat.le_of_ble_eq_true rfl) rfl rfl (e_more) (fun y237 qy237 hRy237 => ?_)
  obtain ⟨rfl, hy237⟩ := hRy237
  refine y_same (i := .istore 4) (len := 2) (r := (0, 0, 0, 0)) (pc' := 19) (ls' := [some (.inl (some R)), some (zi xx), some (zi xz), some (zi y236), some (zi y237), none, none]) (st' := []) (by decide +kernel) (fun k q => by cases q) rfl ?_
  refine y_ic (c := 0) (len := 1) (r := (0, 0, 0, 0)) (by decide +kernel) (by decide) (fun y238 hy238 => ?_)
  refine y_same (i := .istore 5) (len := 2) (r := (0, 0, 0, 0)) (pc' := 22) (ls' := [some (.inl (some R)), some (zi xx), some (zi xz), some (zi y236), some (zi y237), some (zi y238), none]) (st' := []) (by decide +kernel) (fun k q => by cases q) rfl ?_
  obtain ⟨xm', hm', l0, u0⟩ := g_int (i := 0) hg hR at1012 (by decide) (srA (by decide))
  rw [hm] at hm'
  cases hm'
  refine mk_loop0 (to := y236.toInt.toNat) (fr := y237.toInt.toNat) (m := xm.toInt.toNat) hR (by omega) (by omega) (by omega) (by omega) (by omega) (by omega) 12 h 0 y238 none hg hm (by omega) (by omega) (by omega) (fun ha xk1 l61 La Sa => ?_)
  refine y_ic (c := 0) (len := 1) (r := (0, 0, 0, 0)) (by decide +kernel) (by decide) (fun y239 hy239 => ?_)
  refine y_same (i := .istore 5) (len := 2) (r := (0, 0, 0, 0)) (pc' := 80) (ls' := [some (.inl (some R)), some (zi xx), some (zi xz), some (zi y236), some (zi y237), some (zi y239), l61]) (st' := []) (by decide +kernel) (fun k q => by cases q) rfl ?_
  obtain ⟨xm1, hm1, l1, u1⟩ := g_int (i := 1) La.1 hR at1012 (by decide) (srA (by decide))
  refine mk_loop1 (to := y236.toInt.toNat) (fr := y237.toInt.toNat) (m := xm1.toInt.toNat) hR (by omega) (by omega) (by omega) (by omega) (by omega) (by omega) 12 ha 0 y239 l61 La.1 hm1 (by omega) (by omega) (by omega) (fun hb xk2 l62 Lb => ?_)
  refine y_ic (c := 0) (len := 1) (r := (0, 0, 0, 0)) (by decide +kernel) (by decide) (fun y240 hy240 => ?_)
  refine y_same (i := .istore 5) (len := 2) (r := (0, 0, 0, 0)) (pc' := 138) (ls' := [some (.inl (some R)), some (zi xx), some (zi xz), some (zi y236), some (zi y237), some (zi y240), l62]) (st' := []) (by decide +kernel) (fun k q => by cases q) rfl ?_
  obtain ⟨xm2, hm2, l2, u2⟩ := g_int (i := 2) Lb.1 hR at1012 (by decide) (srA (by decide))
  refine mk_loop2 (to := y236.toInt.toNat) (fr := y237.toInt.toNat) (m := xm2.toInt.toNat) hR (by omega) (by omega) (by omega) (by omega) (by omega) (by omega) 12 hb 0 y240 l62 Lb.1 hm2 (by omega) (by omega) (by omega) (fun hc xk3 l63 Lc => ?_)
  refine y_ic (c := 0) (len := 1) (r := (0, 0, 0, 0)) (by decide +kernel) (by decide) (fun y241 hy241 => ?_)
  refine y_same (i := .istore 5) (len := 2) (r := (0, 0, 0, 0)) (pc' := 196) (ls' := [some (.inl (some R)), some (zi xx), some (zi xz), some (zi y236), some (zi y237), some (zi y241), l63]) (st' := []) (by decide +kernel) (fun k q => by cases q) rfl ?_
  have L := mkL_trans La (mkL_trans Lb Lc)
  refine qX_V (mk_loop4 (to := y236.toInt.toNat) (fr := y237.toInt.toNat) hR (by omega) (by omega) (by omega) (by omega) 21 hc 0 y241 l63 Lc.1 (by omega) (by omega) (by omega)) (fun h9 hR9 => ?_)
  obtain ⟨k1, k2, k3⟩ := hR9
  have hL := L.2.1
  refine ⟨k1, by omega, fun k j hkj => (k3 k j (by omega)).trans (L.2.2.1 k j (by omega)), fun j hj => ?_, fun k w v hk hw hw3 hv q1 q2 q3 => ?_⟩
  · rw [sv_eq (k3 R j (Or.inr (Or.inr hj)))]
    exact L.2.2.2 j
  · rw [sv_eq (k3 R _ (Or.inr (Or.inr (by omega))))]
    have s1 := Sa k w v (by omega) (by omega) hw hw3 hv (by omega)
    have s2 := (mkL_trans Lb Lc).2.2.2 (24 + 4 * k + w)
    omega
