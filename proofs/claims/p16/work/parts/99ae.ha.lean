/-! the class's small heaps: all shapes -/
def loS (l : List it4) (f : tlT) (k : Nat) : Nat := match l[k]? with
  | some i => lo1 f i
  | none => 0
def hiS (l : List it4) (f : tlT) (k : Nat) : Nat := match l[k]? with
  | some i => hi1 f i
  | none => 0
theorem loS_s {l : List it4} {f : tlT} {k : Nat} {i : it4} (h : l[k]? = some i) : loS l f k = lo1 f i := by
  unfold loS
  rw [h]
theorem hiS_s {l : List it4} {f : tlT} {k : Nat} {i : it4} (h : l[k]? = some i) : hiS l f k = hi1 f i := by
  unfold hiS
  rw [h]
theorem shL_eq {b : bsT} {f : tlT} : shL b f = en_ (loS b.1.1 f) (fun _ k => hiS b.1.1 f k) (fun m _ => m) (List.range b.1.1.length) 0 (fun _ => 0) := rfl
theorem lo_le {f : tlT} {i : it4} : lo1 f i ≤ hi1 f i ∧ hi1 f i ≤ lo1 f i + 2 := by
  unfold hi1
  by_cases q : lo1 f i = 0
  · rw [if_pos q]
    omega
  · rw [if_neg q]
    have h1 : lo1 f i = 1 := by
      unfold lo1 at q ⊢
      split
      · rfl
      · rename_i q1
        rw [if_neg q1] at q
        exact absurd rfl q
    split <;> omega
theorem loS_le {l : List it4} {f : tlT} (k : Nat) : loS l f k ≤ hiS l f k ∧ hiS l f k ≤ loS l f k + 2 := by
  unfold loS hiS
  split
  · exact lo_le
  · omega
theorem hiS_3 {l : List it4} {f : tlT} (k : Nat) : hiS l f k ≤ 3 := by
  have h := loS_le (l := l) (f := f) k
  have h1 : loS l f k ≤ 1 := by
    unfold loS
    split
    · unfold lo1
      split <;> omega
    · omega
  omega
abbrev nbS (l : List it4) (f sh : tlT) (rp suf : List Nat) : Option tlT := nbx_ (loS l f) (fun _ k => hiS l f k) (fun m _ => m) 0 sh rp suf
theorem rst_s {lo f : tlT} {suf : List Nat} {v : Nat} {g : tlT} (n1 : v ∉ suf) (e : g = rst_ lo suf f) : upd_ g v (lo v) = rst_ lo (v :: suf) f := by
  subst e
  funext w
  show (if w = v then lo v else if w ∈ suf then lo w else f w) = if w ∈ v :: suf then lo w else f w
  by_cases h1 : w = v
  · rw [if_pos h1, if_pos (by rw [h1]; exact List.mem_cons_self), h1]
  · rw [if_neg h1]
    by_cases h2 : w ∈ suf
    · rw [if_pos h2, if_pos (List.mem_cons_of_mem _ h2)]
    · rw [if_neg h2, if_neg (fun q => (List.mem_cons.mp q).elim h1 h2)]
theorem shC_set {h h1 : zh} {f : tlT} {v n m : Nat} (c : shC h f m) (hn : ci_ h1 50 v n) (F : ∀ j, j ≠ v → hsl h1 50 j = hsl h 50 j) : shC h1 (upd_ f v n) m := fun w hw => by
  unfold upd_
  by_cases q : w = v
  · rw [if_pos q, q]
    exact hn
  · rw [if_neg q]
    exact ci_up (c w hw) (F w q)
theorem shC_up {h h1 : zh} {f : tlT} {m : Nat} (c : shC h f m) (e : ∀ j, hsl h1 50 j = hsl h 50 j) : shC h1 f m := fun w hw => ci_up (c w hw) (e w)
theorem rg_d {i n : Nat} (h : i < n) : (List.range n).drop i = i :: (List.range n).drop (i + 1) := by
  rw [List.drop_eq_getElem_cons (by rw [List.length_range]; exact h), List.getElem_range]
theorem rg_t {i n : Nat} (h : i < n) : ((List.range n).take (i + 1)).reverse = i :: ((List.range n).take i).reverse := by
  rw [List.take_succ, List.getElem?_range h]
  simp
theorem sn_l {d t : Nat} {τ : List Nat} {h0 : zh} {f sh : tlT} {RA IA : Nat} {l : List it4} (tRA : τ[RA]? = some 1002) (tIA : τ[IA]? = some 1005) (hRA : RA < 42) (hIA : IA < 42) (pA0 : hsl h0 RA 0 = some (.inl (some IA))) (r0 : rwC h0 RA IA l) (ok : ∀ (j : Nat) (i : it4), l[j]? = some i → okI i) (vc0 : vC_ h0 f) (hl5 : l.length ≤ 5) (hsb : ∀ k, k < l.length → sh k ≤ 3) : ∀ (i : Nat) (h : zh) (xi : Int32), hG τ h → shC h (rst_ (loS l f) ((List.range l.length).drop i) sh) l.length → (∀ k j, k ≠ 50 → hsl h k j = hsl h0 k j) → xi.toInt = (i : Int) - 1 → i ≤ l.length → qX (d + 4) 126 11 [some (.inl (some 42)), some (.inl (some RA)), some (zi xi)] [] h t (rI (fun y h1 => hG τ h1 ∧ (∀ k j, k ≠ 50 → hsl h1 k j = hsl h0 k j) ∧ ((y.toInt = 1 ∧ ∃ sh', nbS l f sh ((List.range l.length).take i).reverse ((List.range l.length).drop i) = some sh' ∧ shC h1 sh' l.length) ∨ (y.toInt = 0 ∧ nbS l f sh ((List.range l.length).take i).reverse ((List.range l.length).drop i) = none))) t) := by
  intro i
  induction i with
  | zero =>
    intro h xi hg sc F0 hxi hi
    refine y_same (i := .iload_n 2) (len := 1) (r := (0, 0, 0, 0)) (pc' := 12) (ls' := [some (.inl (some 42)), some (.inl (some RA)), some (zi xi)]) (st' := [zi xi]) (by decide +kernel) (fun k q => by cases q) rfl ?_
    refine y_iT (c := .lt) (off := 48) (pc' := 60) (len := 3) (r := (0, 0, 0, 0)) (by decide +kernel) (acmpT (c := .lt) (by show _ < _; omega)) (by decide +kernel) ?_
    refine y_ic (c := 0) (len := 1) (r := (0, 0, 0, 0)) (by decide +kernel) (by decide) (fun y3522 hy3522 => ?_)
    refine y_rI (len := 1) (r := (0, 0, 0, 0)) (nL := 3) (k := 2) (n9 := 2) (hs := []) (by decide +kernel) rfl (zfit_b (by omega) (by omega)).2 ?_
    exact ⟨hg, F0, Or.inr ⟨by omega, rfl⟩⟩
  | succ i ih =>
    intro h xi hg sc F0 hxi hi
    have q2 : i < l.length := by omega
    have pA : hsl h RA 0 = some (.inl (some IA)) := (F0 _ _ (by omega)).trans pA0
    have r : rwC h RA IA l := rwC_up2 r0 (fun k j hk => F0 _ _ (by omega))
    have vc : vC_ h f := vC_up vc0 (fun j => F0 _ _ (by omega))
    obtain ⟨ik, hk⟩ : ∃ ik, l[i]? = some ik := ⟨_, List.getElem?_eq_getElem q2⟩
    obtain ⟨xn, hn9, en9⟩ := sc i q2
    have n1 : i ∉ (List.range l.length).drop (i + 1) := by
      have nd := List.nodup_range (n := l.length)
      rw [← List.take_append_drop i (List.range l.length), rg_d q2] at nd
      exact (List.nodup_cons.mp (List.nodup_append.mp nd).2.1).1
    have gi : rst_ (loS l f) ((List.range l.length).drop (i + 1)) sh i = sh i := if_neg n1
    rw [gi] at en9
    have nbv : nbS l f sh ((List.range l.length).take (i + 1)).reverse ((List.range l.length).drop (i + 1)) = if sh i < hiS l f i then some (upd_ (rst_ (loS l f) ((List.range l.length).drop (i + 1)) sh) i (sh i + 1)) else nbS l f sh ((List.range l.length).take i).reverse (i :: (List.range l.length).drop (i + 1)) := by
      rw [rg_t q2]
      rfl
    have hb3 := hsb i q2
    have hxi : xi.toInt = (i : Int) := by omega
    refine y_same (i := .iload_n 2) (len := 1) (r := (0, 0, 0, 0)) (pc' := 12) (ls' := [some (.inl (some 42)), some (.inl (some RA)), some (zi xi)]) (st' := [zi xi]) (by decide +kernel) (fun k q => by cases q) rfl ?_
    refine y_iF (c := .lt) (off := 48) (len := 3) (r := (0, 0, 0, 0)) (by decide +kernel) (acmpF (c := .lt) (by show _ ≤ _; omega)) ?_
    refine y_same (i := .aload_n 0) (len := 1) (r := (0, 0, 0, 0)) (pc' := 16) (ls' := [some (.inl (some 42)), some (.inl (some RA)), some (zi xi)]) (st' := [.inl (some 42)]) (by decide +kernel) (fun k q => by cases q) rfl ?_
    refine y_get (j := 22) (len := 3) (r := (10, 2, 2, 361)) (by decide +kernel) hg (tv42 hg) aw42 rfl rfl (g_rU (f := 2) (T2 := 50) hg (tv42 hg) aw42 rfl (by decide)) ?_
    refine y_same (i := .iload_n 2) (len := 1) (r := (0, 0, 0, 0)) (pc' := 20) (ls' := [some (.inl (some 42)), some (.inl (some RA)), some (zi xi)]) (st' := [zi xi, .inl (some 50)]) (by decide +kernel) (fun k q => by cases q) rfl ?_
    refine y_ial (i := i) (len := 1) (r := (0, 0, 0, 0)) (by decide +kernel) hg (tv50 hg) aw50 (by omega) hn9 ?_
    refine y_same (i := .aload_n 0) (len := 1) (r := (0, 0, 0, 0)) (pc' := 22) (ls' := [some (.inl (some 42)), some (.inl (some RA)), some (zi xi)]) (st' := [.inl (some 42), zi xn]) (by decide +kernel) (fun k q => by cases q) rfl ?_
    refine y_same (i := .aload_n 1) (len := 1) (r := (0, 0, 0, 0)) (pc' := 23) (ls' := [some (.inl (some 42)), some (.inl (some RA)), some (zi xi)]) (st' := [.inl (some RA), .inl (some 42), zi xn]) (by decide +kernel) (fun k q => by cases q) rfl ?_
    refine y_same (i := .iload_n 2) (len := 1) (r := (0, 0, 0, 0)) (pc' := 24) (ls' := [some (.inl (some 42)), some (.inl (some RA)), some (zi xi)]) (st' := [zi xi, .inl (some RA), .inl (some 42), zi xn]) (by decide +kernel) (fun k q => by cases q) rfl ?_
    refine y_cI (i := .invokevirtual 148) (len := 3) (r := (0, 124, 10, 1289)) (nL := 3) (k := 1) (n := 3) (hs := []) (args := [.inl (some 42), .inl (some RA), zi xi]) (rest := [zi xn]) (l0 := [some (.inl (some 42)), some (.inl (some RA)), some (zi xi)]) (by decide +kernel) (Or.inr (Or.inl ⟨_, rfl⟩)) rfl rfl rfl rfl (Nat.le_of_ble_eq_true rfl) (zO hg (tv42 hg) aw42 rfl) rfl (qI_le (by omega) (e_gs (d := 0) (k := i) (ik := ik) hg vc tRA tIA pA r ok (by omega) hk)) (fun y3513 qy3513 hRy3513 => ?_)
    obtain ⟨rfl, ey3513⟩ := hRy3513
    rw [← hiS_s hk] at ey3513
    rcases Decidable.em (xn.toInt ≥ y3513.toInt) with q3514 | q3514
    ·
      refine y_cT (c := .ge) (off := 15) (pc' := 42) (len := 3) (r := (0, 0, 0, 0)) (by decide +kernel) (acmpT (c := .ge) (by show _ ≤ _; omega)) (by decide +kernel) ?_
      refine y_same (i := .aload_n 0) (len := 1) (r := (0, 0, 0, 0)) (pc' := 43) (ls' := [some (.inl (some 42)), some (.inl (some RA)), some (zi xi)]) (st' := [.inl (some 42)]) (by decide +kernel) (fun k q => by cases q) rfl ?_
      refine y_get (j := 22) (len := 3) (r := (10, 2, 2, 361)) (by decide +kernel) hg (tv42 hg) aw42 rfl rfl (g_rU (f := 2) (T2 := 50) hg (tv42 hg) aw42 rfl (by decide)) ?_
      refine y_same (i := .iload_n 2) (len := 1) (r := (0, 0, 0, 0)) (pc' := 47) (ls' := [some (.inl (some 42)), some (.inl (some RA)), some (zi xi)]) (st' := [zi xi, .inl (some 50)]) (by decide +kernel) (fun k q => by cases q) rfl ?_
      refine y_same (i := .aload_n 0) (len := 1) (r := (0, 0, 0, 0)) (pc' := 48) (ls' := [some (.inl (some 42)), some (.inl (some RA)), some (zi xi)]) (st' := [.inl (some 42), zi xi, .inl (some 50)]) (by decide +kernel) (fun k q => by cases q) rfl ?_
      refine y_same (i := .aload_n 1) (len := 1) (r := (0, 0, 0, 0)) (pc' := 49) (ls' := [some (.inl (some 42)), some (.inl (some RA)), some (zi xi)]) (st' := [.inl (some RA), .inl (some 42), zi xi, .inl (some 50)]) (by decide +kernel) (fun k q => by cases q) rfl ?_
      refine y_same (i := .iload_n 2) (len := 1) (r := (0, 0, 0, 0)) (pc' := 50) (ls' := [some (.inl (some 42)), some (.inl (some RA)), some (zi xi)]) (st' := [zi xi, .inl (some RA), .inl (some 42), zi xi, .inl (some 50)]) (by decide +kernel) (fun k q => by cases q) rfl ?_
      refine y_cI (i := .invokevirtual 127) (len := 3) (r := (0, 123, 10, 1225)) (nL := 3) (k := 1) (n := 3) (hs := []) (args := [.inl (some 42), .inl (some RA), zi xi]) (rest := [zi xi, .inl (some 50)]) (l0 := [some (.inl (some 42)), some (.inl (some RA)), some (zi xi)]) (by decide +kernel) (Or.inr (Or.inl ⟨_, rfl⟩)) rfl rfl rfl rfl (Nat.le_of_ble_eq_true rfl) (zO hg (tv42 hg) aw42 rfl) rfl (qI_le (by omega) (e_ls (d := 0) (k := i) (ik := ik) hg vc tRA tIA pA r ok (by omega) hk)) (fun y3515 qy3515 hRy3515 => ?_)
      obtain ⟨rfl, ey3515⟩ := hRy3515
      rw [← loS_s hk] at ey3515
      refine y_ias (i := i) (len := 1) (r := (0, 0, 0, 0)) (by decide +kernel) hg (tv50 hg) aw50 rfl (by omega) (by omega) (sr1 (by omega)) (qin_full _).1 (qin_full _).2 (fun h3516 hg3516 hl3516 hs3516 ho3516 => ?_)
      refine y_inc (j := 2) (a := xi) (c := (-1)) (ls' := fun v => [some (.inl (some 42)), some (.inl (some RA)), some v]) (len := 3) (r := (0, 0, 0, 0)) (by decide +kernel) rfl (fun _ => rfl) (by decide) (by omega) (by omega) (fun y3517 hy3517 => ?_)
      show qX (d + 4) 126 57 [some (.inl (some 42)), some (.inl (some RA)), some (zi y3517)] [] h3516 t _
      refine y_goto (off := (-46)) (pc' := 11) (len := 3) (r := (0, 0, 0, 0)) (by decide +kernel) (by decide +kernel) ?_
      have sc9 := shC_set (v := i) (n := loS l f i) sc ⟨_, hs3516, ey3515⟩ (fun j hj => ho3516 50 j (Or.inr hj))
      rw [rst_s n1 rfl, ← rg_d q2] at sc9
      refine qX_I (ih h3516 y3517 hg3516 sc9 (fun k j hC => (ho3516 k j (by omega)).trans (F0 k j hC)) (by omega) (by omega)) (fun y h1 hR => ?_)
      rw [nbv, if_neg (by omega), ← rg_d q2]
      exact hR
    ·
      refine y_cF (c := .ge) (off := 15) (len := 3) (r := (0, 0, 0, 0)) (by decide +kernel) (acmpF (c := .ge) (by show _ < _; omega)) ?_
      refine y_same (i := .aload_n 0) (len := 1) (r := (0, 0, 0, 0)) (pc' := 31) (ls' := [some (.inl (some 42)), some (.inl (some RA)), some (zi xi)]) (st' := [.inl (some 42)]) (by decide +kernel) (fun k q => by cases q) rfl ?_
      refine y_get (j := 22) (len := 3) (r := (10, 2, 2, 361)) (by decide +kernel) hg (tv42 hg) aw42 rfl rfl (g_rU (f := 2) (T2 := 50) hg (tv42 hg) aw42 rfl (by decide)) ?_
      refine y_same (i := .iload_n 2) (len := 1) (r := (0, 0, 0, 0)) (pc' := 35) (ls' := [some (.inl (some 42)), some (.inl (some RA)), some (zi xi)]) (st' := [zi xi, .inl (some 50)]) (by decide +kernel) (fun k q => by cases q) rfl ?_
      refine y_same (i := .dup2) (len := 1) (r := (0, 0, 0, 0)) (pc' := 36) (ls' := [some (.inl (some 42)), some (.inl (some RA)), some (zi xi)]) (st' := [zi xi, .inl (some 50), zi xi, .inl (some 50)]) (by decide +kernel) (fun k q => by cases q) rfl ?_
      refine y_ial (i := i) (len := 1) (r := (0, 0, 0, 0)) (by decide +kernel) hg (tv50 hg) aw50 (by omega) hn9 ?_
      refine y_ic (c := 1) (len := 1) (r := (0, 0, 0, 0)) (by decide +kernel) (by decide) (fun y3518 hy3518 => ?_)
      refine y_add (len := 1) (r := (0, 0, 0, 0)) (by decide +kernel) (by omega) (by omega) (fun y3519 hy3519 => ?_)
      refine y_ias (i := i) (len := 1) (r := (0, 0, 0, 0)) (by decide +kernel) hg (tv50 hg) aw50 rfl (by omega) (by omega) (sr1 (by omega)) (qin_full _).1 (qin_full _).2 (fun h3520 hg3520 hl3520 hs3520 ho3520 => ?_)
      refine y_ic (c := 1) (len := 1) (r := (0, 0, 0, 0)) (by decide +kernel) (by decide) (fun y3521 hy3521 => ?_)
      refine y_rI (len := 1) (r := (0, 0, 0, 0)) (nL := 3) (k := 2) (n9 := 2) (hs := []) (by decide +kernel) rfl (zfit_b (by omega) (by omega)).2 ?_
      refine ⟨hg3520, fun k j hC => (ho3520 k j (by omega)).trans (F0 k j hC), Or.inl ⟨by omega, _, ?_, shC_set (v := i) (n := sh i + 1) sc ⟨_, hs3520, by omega⟩ (fun j hj => ho3520 50 j (Or.inr hj))⟩⟩
      rw [nbv, if_pos (by omega)]
theorem e_sn {d t : Nat} {τ : List Nat} {h : zh} {f sh : tlT} {RA IA : Nat} {l : List it4} (tRA : τ[RA]? = some 1002) (tIA : τ[IA]? = some 1005) (hRA : RA < 42) (hIA : IA < 42) (hg : hG τ h) (pA : hsl h RA 0 = some (.inl (some IA))) (r : rwC h RA IA l) (ok : ∀ (j : Nat) (i : it4), l[j]? = some i → okI i) (vc : vC_ h f) (hl5 : l.length ≤ 5) (hsb : ∀ k, k < l.length → sh k ≤ 3) (sc : shC h sh l.length) : qI (d + 5) 126 [some (.inl (some 42)), some (.inl (some RA)), none] h t (fun y h1 => hG τ h1 ∧ (∀ k j, k ≠ 50 → hsl h1 k j = hsl h k j) ∧ ((y.toInt = 1 ∧ ∃ sh', nx_ (loS l f) (fun _ k => hiS l f k) (fun m _ => m) (List.range l.length) 0 sh = some sh' ∧ shC h1 sh' l.length) ∨ (y.toInt = 0 ∧ nx_ (loS l f) (fun _ k => hiS l f k) (fun m _ => m) (List.range l.length) 0 sh = none))) := by
  obtain ⟨xl, hl, el⟩ := r.1
  refine qI_of ?_
  refine y_same (i := .aload_n 1) (len := 1) (r := (0, 0, 0, 0)) (pc' := 1) (ls' := [some (.inl (some 42)), some (.inl (some RA)), none]) (st' := [.inl (some RA)]) (by decide +kernel) (fun k q => by cases q) rfl ?_
  refine y_get (j := 115) (len := 3) (r := (6, 1, 0, 20170)) (by decide +kernel) hg tRA aw1002 rfl rfl hl ?_
  refine y_ic (c := 5) (len := 1) (r := (0, 0, 0, 0)) (by decide +kernel) (by decide) (fun y3523 hy3523 => ?_)
  refine y_cI (i := .invokestatic 145) (len := 3) (r := (1, 267, 60, 1288)) (nL := 2) (k := 1) (n := 2) (hs := []) (args := [zi xl, zi y3523]) (rest := []) (l0 := [some (zi xl), some (zi y3523)]) (by decide +kernel) (Or.inl ⟨_, rfl⟩) rfl rfl rfl rfl (Nat.le_of_ble_eq_true rfl) rfl rfl (qI_le (by omega) (e_jmin (d := 0))) (fun y3524 qy3524 hRy3524 => ?_)
  obtain ⟨rfl, my3524, wy3524⟩ := hRy3524
  have ey3524 : y3524.toInt = (l.length : Int) := by omega
  refine y_ic (c := 1) (len := 1) (r := (0, 0, 0, 0)) (by decide +kernel) (by decide) (fun y3525 hy3525 => ?_)
  refine y_sub (len := 1) (r := (0, 0, 0, 0)) (by decide +kernel) (by omega) (by omega) (fun y3526 hy3526 => ?_)
  refine y_same (i := .istore_n 2) (len := 1) (r := (0, 0, 0, 0)) (pc' := 11) (ls' := [some (.inl (some 42)), some (.inl (some RA)), some (zi y3526)]) (st' := []) (by decide +kernel) (fun k q => by cases q) rfl ?_
  have e1 : (List.range l.length).drop l.length = [] := List.drop_of_length_le (by rw [List.length_range]; exact Nat.le_refl _)
  have e2 : (List.range l.length).take l.length = List.range l.length := List.take_of_length_le (by rw [List.length_range]; exact Nat.le_refl _)
  have e3 : rst_ (loS l f) ([] : List Nat) sh = sh := funext fun w => if_neg (fun q => by cases q)
  refine qX_I (sn_l (h0 := h) tRA tIA hRA hIA pA r ok vc hl5 hsb l.length h y3526 hg (by rw [e1, e3]; exact sc) (fun k j _ => rfl) (by omega) (Nat.le_refl _)) (fun y h1 hR => ?_)
  rw [e1, e2] at hR
  rw [nb_all]
  exact hR
theorem e_tell0 {d t k : Nat} {τ : List Nat} {h : zh} {RA IA : Nat} {l : List it4} {xk xw : Int32} (hg : hG τ h) (tRA : τ[RA]? = some 1002) (r : rwC h RA IA l) (exk : xk.toInt = (k : Int)) (hk : l.length ≤ k) : qI (d + 1) 64 [some (.inl (some RA)), some (zi xk), some (zi xw)] h t (fun y h1 => h = h1 ∧ y.toInt = 0) := by
  obtain ⟨xl, hl, el⟩ := r.1
  refine qI_of ?_
  refine y_same (i := .iload_n 1) (len := 1) (r := (0, 0, 0, 0)) (pc' := 1) (ls' := [some (.inl (some RA)), some (zi xk), some (zi xw)]) (st' := [zi xk]) (by decide +kernel) (fun k q => by cases q) rfl ?_
  refine y_iF (c := .lt) (off := 20) (len := 3) (r := (0, 0, 0, 0)) (by decide +kernel) (acmpF (c := .lt) (by show _ ≤ _; omega)) ?_
  refine y_same (i := .iload_n 1) (len := 1) (r := (0, 0, 0, 0)) (pc' := 5) (ls' := [some (.inl (some RA)), some (zi xk), some (zi xw)]) (st' := [zi xk]) (by decide +kernel) (fun k q => by cases q) rfl ?_
  refine y_same (i := .aload_n 0) (len := 1) (r := (0, 0, 0, 0)) (pc' := 6) (ls' := [some (.inl (some RA)), some (zi xk), some (zi xw)]) (st' := [.inl (some RA), zi xk]) (by decide +kernel) (fun k q => by cases q) rfl ?_
  refine y_get (j := 9) (len := 3) (r := (6, 1, 0, 164)) (by decide +kernel) hg tRA aw1002 rfl rfl hl ?_
  refine y_cT (c := .ge) (off := 12) (pc' := 21) (len := 3) (r := (0, 0, 0, 0)) (by decide +kernel) (acmpT (c := .ge) (by show _ ≤ _; omega)) (by decide +kernel) ?_
  refine y_ic (c := 0) (len := 1) (r := (0, 0, 0, 0)) (by decide +kernel) (by decide) (fun y3527 hy3527 => ?_)
  refine y_rI (len := 1) (r := (0, 0, 0, 0)) (nL := 3) (k := 1) (n9 := 3) (hs := []) (by decide +kernel) rfl rfl ?_
  exact ⟨rfl, by omega⟩
theorem e_ls0 {d t i : Nat} {τ : List Nat} {h : zh} {RA IA : Nat} {l : List it4} {xk : Int32} (hg : hG τ h) (tRA : τ[RA]? = some 1002) (r : rwC h RA IA l) (exk : xk.toInt = (i : Int)) (hk : l.length ≤ i) : qI (d + 3) 123 [some (.inl (some 42)), some (.inl (some RA)), some (zi xk)] h t (fun y h1 => h = h1 ∧ y.toInt = 0) := by
  refine qI_of ?_
  refine y_same (i := .aload_n 1) (len := 1) (r := (0, 0, 0, 0)) (pc' := 1) (ls' := [some (.inl (some 42)), some (.inl (some RA)), some (zi xk)]) (st' := [.inl (some RA)]) (by decide +kernel) (fun k q => by cases q) rfl ?_
  refine y_same (i := .iload_n 2) (len := 1) (r := (0, 0, 0, 0)) (pc' := 2) (ls' := [some (.inl (some 42)), some (.inl (some RA)), some (zi xk)]) (st' := [zi xk, .inl (some RA)]) (by decide +kernel) (fun k q => by cases q) rfl ?_
  refine y_ic (c := 0) (len := 1) (r := (0, 0, 0, 0)) (by decide +kernel) (by decide) (fun y3528 hy3528 => ?_)
  refine y_cI (i := .invokevirtual 124) (len := 3) (r := (0, 64, 6, 1219)) (nL := 3) (k := 1) (n := 3) (hs := []) (args := [.inl (some RA), zi xk, zi y3528]) (rest := []) (l0 := [some (.inl (some RA)), some (zi xk), some (zi y3528)]) (by decide +kernel) (Or.inr (Or.inl ⟨_, rfl⟩)) rfl rfl rfl rfl (Nat.le_of_ble_eq_true rfl) (zO hg tRA aw1002 rfl) rfl (qI_le (by omega) (e_tell0 (d := 0) (k := i) hg tRA r (by omega) (by omega))) (fun y3529 qy3529 hRy3529 => ?_)
  obtain ⟨rfl, ey3529⟩ := hRy3529
  refine y_ic (c := 2) (len := 1) (r := (0, 0, 0, 0)) (by decide +kernel) (by decide) (fun y3530 hy3530 => ?_)
  refine y_cT (c := .lt) (off := 16) (pc' := 23) (len := 3) (r := (0, 0, 0, 0)) (by decide +kernel) (acmpT (c := .lt) (by show _ < _; omega)) (by decide +kernel) ?_
  refine y_ic (c := 0) (len := 1) (r := (0, 0, 0, 0)) (by decide +kernel) (by decide) (fun y3531 hy3531 => ?_)
  refine y_rI (len := 1) (r := (0, 0, 0, 0)) (nL := 3) (k := 1) (n9 := 3) (hs := []) (by decide +kernel) rfl rfl ?_
  exact ⟨rfl, by omega⟩
theorem cl_l {d t : Nat} {τ : List Nat} {h0 : zh} {f : tlT} {RA IA : Nat} {l : List it4} (tRA : τ[RA]? = some 1002) (tIA : τ[IA]? = some 1005) (hRA : RA < 42) (hIA : IA < 42) {l4 : Option zv} {P : zo × zh × Nat → Prop} (pA0 : hsl h0 RA 0 = some (.inl (some IA))) (r0 : rwC h0 RA IA l) (ok : ∀ (j : Nat) (i : it4), l[j]? = some i → okI i) (vc0 : vC_ h0 f) (kk : ∀ (h : zh) (l3 : Option zv), hG τ h → shC h (loS l f) 5 → (∀ k j, k ≠ 50 → hsl h k j = hsl h0 k j) → qX (d + 3) 125 33 [some (.inl (some 42)), some (.inl (some 2)), some (.inl (some RA)), l3, l4] [] h t P) : ∀ (n : Nat) (h : zh) (i : Nat) (xi : Int32), (hG τ h) → (shC h (loS l f) i) → (∀ k j, k ≠ 50 → hsl h k j = hsl h0 k j) → (xi.toInt = (i : Int)) → (i ≤ 5) → (5 < i + n) → qX (d + 3) 125 10 [some (.inl (some 42)), some (.inl (some 2)), some (.inl (some RA)), some (zi xi), l4] [] h t P := by
  intro n
  induction n with
  | zero =>
    intro h i xi hg c1 F0 hxi hi hn
    exfalso
    omega
  | succ n ih =>
    intro h i xi hg c1 F0 hxi hi hn
    have pA : hsl h RA 0 = some (.inl (some IA)) := (F0 _ _ (by omega)).trans pA0
    have r : rwC h RA IA l := rwC_up2 r0 (fun k j hk => F0 _ _ (by omega))
    have vc : vC_ h f := vC_up vc0 (fun j => F0 _ _ (by omega))
    refine y_same (i := .iload_n 3) (len := 1) (r := (0, 0, 0, 0)) (pc' := 11) (ls' := [some (.inl (some 42)), some (.inl (some 2)), some (.inl (some RA)), some (zi xi), l4]) (st' := [zi xi]) (by decide +kernel) (fun k q => by cases q) rfl ?_
    refine y_ic (c := 5) (len := 1) (r := (0, 0, 0, 0)) (by decide +kernel) (by decide) (fun y3532 hy3532 => ?_)
    rcases Decidable.em (xi.toInt ≥ y3532.toInt) with q3533 | q3533
    ·
      refine y_cT (c := .ge) (off := 21) (pc' := 33) (len := 3) (r := (0, 0, 0, 0)) (by decide +kernel) (acmpT (c := .ge) (by show _ ≤ _; omega)) (by decide +kernel) ?_
      exact kk h _ hg (fun w hw => c1 w (by omega)) F0
    ·
      refine y_cF (c := .ge) (off := 21) (len := 3) (r := (0, 0, 0, 0)) (by decide +kernel) (acmpF (c := .ge) (by show _ < _; omega)) ?_
      refine y_same (i := .aload_n 0) (len := 1) (r := (0, 0, 0, 0)) (pc' := 16) (ls' := [some (.inl (some 42)), some (.inl (some 2)), some (.inl (some RA)), some (zi xi), l4]) (st' := [.inl (some 42)]) (by decide +kernel) (fun k q => by cases q) rfl ?_
      refine y_get (j := 22) (len := 3) (r := (10, 2, 2, 361)) (by decide +kernel) hg (tv42 hg) aw42 rfl rfl (g_rU (f := 2) (T2 := 50) hg (tv42 hg) aw42 rfl (by decide)) ?_
      refine y_same (i := .iload_n 3) (len := 1) (r := (0, 0, 0, 0)) (pc' := 20) (ls' := [some (.inl (some 42)), some (.inl (some 2)), some (.inl (some RA)), some (zi xi), l4]) (st' := [zi xi, .inl (some 50)]) (by decide +kernel) (fun k q => by cases q) rfl ?_
      refine y_same (i := .aload_n 0) (len := 1) (r := (0, 0, 0, 0)) (pc' := 21) (ls' := [some (.inl (some 42)), some (.inl (some 2)), some (.inl (some RA)), some (zi xi), l4]) (st' := [.inl (some 42), zi xi, .inl (some 50)]) (by decide +kernel) (fun k q => by cases q) rfl ?_
      refine y_same (i := .aload_n 2) (len := 1) (r := (0, 0, 0, 0)) (pc' := 22) (ls' := [some (.inl (some 42)), some (.inl (some 2)), some (.inl (some RA)), some (zi xi), l4]) (st' := [.inl (some RA), .inl (some 42), zi xi, .inl (some 50)]) (by decide +kernel) (fun k q => by cases q) rfl ?_
      refine y_same (i := .iload_n 3) (len := 1) (r := (0, 0, 0, 0)) (pc' := 23) (ls' := [some (.inl (some 42)), some (.inl (some 2)), some (.inl (some RA)), some (zi xi), l4]) (st' := [zi xi, .inl (some RA), .inl (some 42), zi xi, .inl (some 50)]) (by decide +kernel) (fun k q => by cases q) rfl ?_
      have key : qI (d + 3) 123 [some (.inl (some 42)), some (.inl (some RA)), some (zi xi)] h t (fun y h1 => h = h1 ∧ y.toInt = (loS l f i : Int)) := by
        rcases Nat.lt_or_ge i l.length with q9 | q9
        · obtain ⟨ik, hk⟩ : ∃ ik, l[i]? = some ik := ⟨_, List.getElem?_eq_getElem q9⟩
          rw [loS_s hk]
          exact e_ls hg vc tRA tIA pA r ok hxi hk
        · rw [show loS l f i = 0 by unfold loS; rw [List.getElem?_eq_none q9]]
          exact e_ls0 hg tRA r hxi q9
      refine y_cI (i := .invokevirtual 127) (len := 3) (r := (0, 123, 10, 1225)) (nL := 3) (k := 1) (n := 3) (hs := []) (args := [.inl (some 42), .inl (some RA), zi xi]) (rest := [zi xi, .inl (some 50)]) (l0 := [some (.inl (some 42)), some (.inl (some RA)), some (zi xi)]) (by decide +kernel) (Or.inr (Or.inl ⟨_, rfl⟩)) rfl rfl rfl rfl (Nat.le_of_ble_eq_true rfl) (zO hg (tv42 hg) aw42 rfl) rfl (qI_le (by omega) key) (fun y3534 qy3534 hRy3534 => ?_)
      obtain ⟨rfl, ey3534⟩ := hRy3534
      refine y_ias (i := i) (len := 1) (r := (0, 0, 0, 0)) (by decide +kernel) hg (tv50 hg) aw50 rfl (by omega) (by omega) (sr1 (by omega)) (qin_full _).1 (qin_full _).2 (fun h3535 hg3535 hl3535 hs3535 ho3535 => ?_)
      refine y_inc (j := 3) (a := xi) (c := 1) (ls' := fun v => [some (.inl (some 42)), some (.inl (some 2)), some (.inl (some RA)), some v, l4]) (len := 3) (r := (0, 0, 0, 0)) (by decide +kernel) rfl (fun _ => rfl) (by decide) (by omega) (by omega) (fun y3536 hy3536 => ?_)
      show qX (d + 3) 125 30 [some (.inl (some 42)), some (.inl (some 2)), some (.inl (some RA)), some (zi y3536), l4] [] h3535 t _
      refine y_goto (off := (-20)) (pc' := 10) (len := 3) (r := (0, 0, 0, 0)) (by decide +kernel) (by decide +kernel) ?_
      refine ih h3535 (i + 1) y3536 hg3535 (fun w hw => ?_) (fun k j hC => (ho3535 k j (by omega)).trans (F0 k j hC)) (by omega) (by omega) (by omega)
      rcases Nat.lt_or_ge w i with q9 | q9
      · exact ci_up (c1 w q9) (ho3535 50 w (by omega))
      · have e9 : w = i := by omega
        subst e9
        exact ⟨_, hs3535, ey3534⟩
theorem mxv_ge {f : tlT} {v : Nat} (hv : v ≤ 5) (h0 : f 0 = 0) : f v ≤ mxv f := by
  unfold mxv
  rcases (show v = 0 ∨ v = 1 ∨ v = 2 ∨ v = 3 ∨ v = 4 ∨ v = 5 by omega) with e | e | e | e | e | e <;> subst e <;> omega
theorem hcs_l {d t : Nat} {τ : List Nat} {h0 : zh} {b : bsT} {f : tlT} {ls : List Nat} {RA IA : Nat} (tRA : τ[RA]? = some 1002) (tIA : τ[IA]? = some 1005) (hRA : RA < 42) (hIA : IA < 42) (pA0 : hsl h0 RA 0 = some (.inl (some IA))) (r0 : rwC h0 RA IA b.1.1) (ok : ∀ (j : Nat) (i : it4), b.1.1[j]? = some i → okI i) (hl5 : b.1.1.length ≤ 5) {S : Nat} (tyS9 : tyS τ S) (hS9 : S + 4 < 42) (la0 : laS h0 S) (sd0 : sdC h0 S b.2) (ok1 : ∀ (j : Nat) (i : it4), b.2.1[j]? = some i → okI i) (ok2 : ∀ (j : Nat) (i : it4), b.2.2[j]? = some i → okI i) (hq5 : b.2.1.length ≤ 5) (hfb : ∀ v, v ≤ 5 → f v ≤ 5) (lt0 : ltC h0 ls) (hls : ∀ v ∈ ls, 1 ≤ v ∧ v ≤ 5) (hls5 : ls.length ≤ 5) (vc0 : vC_ h0 f) (p210 : hsl h0 2 1 = some (.inl (some S))) (hpos : ∀ (j : Nat) (i : it4), b.1.1[j]? = some i → hsS f i → 1 ≤ vX_ f i) (hf0 : f 0 = 0) : ∀ (n : Nat) (h : zh) (sh : tlT) (s : rcT) (L : List tlT) (i : Nat) (xm : Int32) (xi : Int32), (hG τ h) → (xm.toInt = 1) → (xi.toInt = (i : Int)) → (shC h sh b.1.1.length) → (rcC h ls s) → (∀ k j, (k ≠ 45 ∧ k ≠ 46 ∧ k ≠ 47 ∧ k ≠ 48 ∧ k ≠ 50 ∧ k ≠ 51 ∧ (k ≠ 43 ∨ (j ≠ 5 ∧ j ≠ 6)) ∧ (k ≠ 42 ∨ j < 6)) → hsl h k j = hsl h0 k j) → (lk_ (nx_ (loS b.1.1 f) (fun _ k => hiS b.1.1 f k) (fun m _ => m) (List.range b.1.1.length) 0) (sh :: L) none) → (∀ x ∈ sh :: L, ∀ k, k < b.1.1.length → loS b.1.1 f k ≤ x k ∧ x k ≤ hiS b.1.1 f k) → (i + L.length < 999) → (s.1 + L.length < 1000000) → (s.2.1 ≤ s.1) → (L.length < n) → qX (d + 6) 125 38 [some (.inl (some 42)), some (.inl (some 2)), some (.inl (some RA)), some (zi xm), some (zi xi)] [] h t (rV (fun h1 => hG τ h1 ∧ (∀ k j, (k ≠ 45 ∧ k ≠ 46 ∧ k ≠ 47 ∧ k ≠ 48 ∧ k ≠ 50 ∧ k ≠ 51 ∧ (k ≠ 43 ∨ (j ≠ 5 ∧ j ≠ 6)) ∧ (k ≠ 42 ∨ j < 6)) → hsl h1 k j = hsl h0 k j) ∧ rcC h1 ls ((sh :: L).foldl (fun s sh => lok b f sh s) s)) t) := by
  intro n
  induction n with
  | zero =>
    intro h sh s L i xm xi hg hxm hxi sc rc F0 lk hL hi hs1 hs2 hn
    exfalso
    omega
  | succ n ih =>
    intro h sh s L i xm xi hg hxm hxi sc rc F0 lk hL hi hs1 hs2 hn
    have U : ∀ k j, k < 42 → hsl h k j = hsl h0 k j := fun k j hk => F0 k j (by omega)
    have pA : hsl h RA 0 = some (.inl (some IA)) := (U _ _ hRA).trans pA0
    have r : rwC h RA IA b.1.1 := rwC_up2 r0 (fun k j hk => U _ _ (by omega))
    have vc : vC_ h f := vC_up vc0 (fun j => F0 _ _ (by omega))
    have p21 : hsl h 2 1 = some (.inl (some S)) := (U _ _ (by omega)).trans p210
    have la9 : laS h S := laS_up la0 (fun k j hk => U _ _ (by omega))
    have sd9 : sdC h S b.2 := sdC_up sd0 (fun k j h1 h2 => U _ _ (by omega))
    have lt : ltC h ls := ltC_up lt0 (F0 _ _ (by omega)) (fun j => F0 _ _ (by omega))
    have hq9 := hL sh List.mem_cons_self
    have hsh : ∀ (j : Nat) (i : it4), b.1.1[j]? = some i → lo1 f i ≤ sh j ∧ sh j ≤ hi1 f i := fun j i hj => by
      have := hq9 j (List.getElem?_eq_some_iff.mp hj).1
      rw [loS_s hj, hiS_s hj] at this
      exact this
    have hsb : ∀ k, k < b.1.1.length → sh k ≤ 3 := fun k hk => Nat.le_trans (hq9 k hk).2 (hiS_3 k)
    have hw : hpW (bld_ f sh b.1.1 0 (hp0 f)) := (bld_W (m := mxv f) (fun v hv => mxv_ge hv hf0) b.1.1 0 (hp0 f) (hp0_W (Nat.le_trans (mxv_b hfb) (by decide))) (Nat.le_refl _) (by have := mxv_b hfb; show mxv f + _ ≤ 10; omega) ok (fun j i hj hq => by
      obtain ⟨b1, b2, b3⟩ := lo_hi (hsh j i hj).1 (hsh j i hj).2
      rw [Nat.zero_add] at hq
      exact hpos j i hj (hq.elim Or.inl b3))).1
    refine y_same (i := .iload 4) (len := 2) (r := (0, 0, 0, 0)) (pc' := 40) (ls' := [some (.inl (some 42)), some (.inl (some 2)), some (.inl (some RA)), some (zi xm), some (zi xi)]) (st' := [zi xi]) (by decide +kernel) (fun k q => by cases q) rfl ?_
    refine y_si (c := 1000) (len := 3) (r := (0, 0, 0, 0)) (by decide +kernel) (by decide) (fun y3537 hy3537 => ?_)
    refine y_cF (c := .ge) (off := 32) (len := 3) (r := (0, 0, 0, 0)) (by decide +kernel) (acmpF (c := .ge) (by show _ < _; omega)) ?_
    refine y_same (i := .iload_n 3) (len := 1) (r := (0, 0, 0, 0)) (pc' := 47) (ls' := [some (.inl (some 42)), some (.inl (some 2)), some (.inl (some RA)), some (zi xm), some (zi xi)]) (st' := [zi xm]) (by decide +kernel) (fun k q => by cases q) rfl ?_
    refine y_iF (c := .eq) (off := 28) (len := 3) (r := (0, 0, 0, 0)) (by decide +kernel) (acmpF (c := .eq) (by show ¬ (_ = _); omega)) ?_
    refine y_same (i := .aload_n 0) (len := 1) (r := (0, 0, 0, 0)) (pc' := 51) (ls' := [some (.inl (some 42)), some (.inl (some 2)), some (.inl (some RA)), some (zi xm), some (zi xi)]) (st' := [.inl (some 42)]) (by decide +kernel) (fun k q => by cases q) rfl ?_
    refine y_same (i := .aload_n 2) (len := 1) (r := (0, 0, 0, 0)) (pc' := 52) (ls' := [some (.inl (some 42)), some (.inl (some 2)), some (.inl (some RA)), some (zi xm), some (zi xi)]) (st' := [.inl (some RA), .inl (some 42)]) (by decide +kernel) (fun k q => by cases q) rfl ?_
    refine y_cV (i := .invokevirtual 131) (len := 3) (r := (0, 127, 10, 1229)) (nL := 6) (k := 0) (n := 2) (hs := []) (args := [.inl (some 42), .inl (some RA)]) (rest := []) (l0 := [some (.inl (some 42)), some (.inl (some RA)), none, none, none, none]) (by decide +kernel) (Or.inr (Or.inl ⟨_, rfl⟩)) rfl rfl rfl rfl (Nat.le_of_ble_eq_true rfl) (zO hg (tv42 hg) aw42 rfl) rfl (qV_le (by omega) (e_bld (d := 0) (f := f) (sh := sh) (l := b.1.1) hg tRA tIA (by omega) (by omega) pA r ok vc sc hl5 hfb hsh hpos)) (fun h3538 hR3538 => ?_)
    obtain ⟨hg3538, hp3538, F3538⟩ := hR3538
    refine y_same (i := .aload_n 0) (len := 1) (r := (0, 0, 0, 0)) (pc' := 56) (ls' := [some (.inl (some 42)), some (.inl (some 2)), some (.inl (some RA)), some (zi xm), some (zi xi)]) (st' := [.inl (some 42)]) (by decide +kernel) (fun k q => by cases q) rfl ?_
    refine y_same (i := .aload_n 1) (len := 1) (r := (0, 0, 0, 0)) (pc' := 57) (ls' := [some (.inl (some 42)), some (.inl (some 2)), some (.inl (some RA)), some (zi xm), some (zi xi)]) (st' := [.inl (some 2), .inl (some 42)]) (by decide +kernel) (fun k q => by cases q) rfl ?_
    have hv3539 := (F3538 2 1 (by omega)).trans p21
    refine y_get (j := 135) (len := 3) (r := (9, 1, 2, 20206)) (by decide +kernel) hg3538 (tv2 hg3538) aw1000 rfl rfl hv3539 ?_
    refine y_cV (i := .invokevirtual 138) (len := 3) (r := (0, 130, 10, 1255)) (nL := 3) (k := 0) (n := 2) (hs := []) (args := [.inl (some 42), .inl (some S)]) (rest := []) (l0 := [some (.inl (some 42)), some (.inl (some S)), none]) (by decide +kernel) (Or.inr (Or.inl ⟨_, rfl⟩)) rfl rfl rfl rfl (Nat.le_of_ble_eq_true rfl) (zO hg3538 (tv42 hg3538) aw42 rfl) rfl (qV_le (by omega) (e_look (d := 0) (b := b) (f := f) (sh := sh) (ls := ls) (s := s) hg3538 tyS9 hS9 (laS_up la9 (fun k j hC => (F3538 k j (by omega)))) (sdC_up sd9 (fun k j h1 h2 => (F3538 k j (by omega)))) ok1 ok2 hq5 (vC_up vc (fun j => (F3538 44 j (by omega)))) hfb hp3538 hw (ltC_up lt ((F3538 42 4 (by omega))) (fun j => (F3538 49 j (by omega)))) hls hls5 (rcC_up rc (fun k j hC => (F3538 k j (by omega)))) (by omega) hs2)) (fun h3540 hR3540 => ?_)
    obtain ⟨hg3540, F3540, rc3540⟩ := hR3540
    refine y_same (i := .aload_n 0) (len := 1) (r := (0, 0, 0, 0)) (pc' := 64) (ls' := [some (.inl (some 42)), some (.inl (some 2)), some (.inl (some RA)), some (zi xm), some (zi xi)]) (st' := [.inl (some 42)]) (by decide +kernel) (fun k q => by cases q) rfl ?_
    refine y_same (i := .aload_n 2) (len := 1) (r := (0, 0, 0, 0)) (pc' := 65) (ls' := [some (.inl (some 42)), some (.inl (some 2)), some (.inl (some RA)), some (zi xm), some (zi xi)]) (st' := [.inl (some RA), .inl (some 42)]) (by decide +kernel) (fun k q => by cases q) rfl ?_
    refine y_cI (i := .invokevirtual 142) (len := 3) (r := (0, 126, 10, 1284)) (nL := 3) (k := 2) (n := 2) (hs := []) (args := [.inl (some 42), .inl (some RA)]) (rest := []) (l0 := [some (.inl (some 42)), some (.inl (some RA)), none]) (by decide +kernel) (Or.inr (Or.inl ⟨_, rfl⟩)) rfl rfl rfl rfl (Nat.le_of_ble_eq_true rfl) (zO hg3540 (tv42 hg3540) aw42 rfl) rfl (qI_le (by omega) (e_sn (d := 0) (f := f) (sh := sh) (l := b.1.1) tRA tIA (by omega) (by omega) hg3540 (((F3540 RA 0 (by omega)).trans (F3538 RA 0 (by omega))).trans pA) (rwC_up2 r (fun k j hk => ((F3540 k j (by omega)).trans (F3538 k j (by omega))))) ok (vC_up vc (fun j => ((F3540 44 j (by omega)).trans (F3538 44 j (by omega))))) hl5 hsb (shC_up sc (fun j => ((F3540 50 j (by omega)).trans (F3538 50 j (by omega))))))) (fun y3541 h3541 hRy3541 => ?_)
    obtain ⟨hg3541, F3541, hD3541⟩ := hRy3541
    rcases hD3541 with ⟨hy3541, sh9, nx9, sc9⟩ | ⟨hy3541, nx9⟩
    ·
      refine y_same (i := .istore_n 3) (len := 1) (r := (0, 0, 0, 0)) (pc' := 69) (ls' := [some (.inl (some 42)), some (.inl (some 2)), some (.inl (some RA)), some (zi y3541), some (zi xi)]) (st' := []) (by decide +kernel) (fun k q => by cases q) rfl ?_
      refine y_inc (j := 4) (a := xi) (c := 1) (ls' := fun v => [some (.inl (some 42)), some (.inl (some 2)), some (.inl (some RA)), some (zi y3541), some v]) (len := 3) (r := (0, 0, 0, 0)) (by decide +kernel) rfl (fun _ => rfl) (by decide) (by omega) (by omega) (fun y3542 hy3542 => ?_)
      show qX (d + 6) 125 72 [some (.inl (some 42)), some (.inl (some 2)), some (.inl (some RA)), some (zi y3541), some (zi y3542)] [] h3541 t _
      refine y_goto (off := (-34)) (pc' := 38) (len := 3) (r := (0, 0, 0, 0)) (by decide +kernel) (by decide +kernel) ?_
      obtain ⟨L2, rfl⟩ : ∃ L2, L = sh9 :: L2 := by
        cases L with
        | nil =>
          have lk9 : nx_ (loS b.1.1 f) (fun _ k => hiS b.1.1 f k) (fun m _ => m) (List.range b.1.1.length) 0 sh = none := lk
          rw [nx9] at lk9
          cases lk9
        | cons x L2 =>
          have lk9 := lk.1
          rw [nx9] at lk9
          cases lk9
          exact ⟨L2, rfl⟩
      have l9 := lok_1 (b := b) (f := f) (sh := sh) (s := s)
      rw [List.length_cons] at hi hs1 hn
      rw [List.foldl_cons]
      exact ih h3541 sh9 (lok b f sh s) L2 (i + 1) y3541 y3542 hg3541 (by omega) (by omega) sc9 (rcC_up rc3540 (fun k j hC => (F3541 k j (by omega)))) (fun k j hC => (((F3541 k j (by omega)).trans ((F3540 k j (by omega)).trans (F3538 k j (by omega))))).trans (F0 k j hC)) lk.2 (fun x hx => hL x (List.mem_cons_of_mem _ hx)) (by omega) (by omega) (lok_b hs2) (by omega)
    ·
      refine y_same (i := .istore_n 3) (len := 1) (r := (0, 0, 0, 0)) (pc' := 69) (ls' := [some (.inl (some 42)), some (.inl (some 2)), some (.inl (some RA)), some (zi y3541), some (zi xi)]) (st' := []) (by decide +kernel) (fun k q => by cases q) rfl ?_
      refine y_inc (j := 4) (a := xi) (c := 1) (ls' := fun v => [some (.inl (some 42)), some (.inl (some 2)), some (.inl (some RA)), some (zi y3541), some v]) (len := 3) (r := (0, 0, 0, 0)) (by decide +kernel) rfl (fun _ => rfl) (by decide) (by omega) (by omega) (fun y3543 hy3543 => ?_)
      show qX (d + 6) 125 72 [some (.inl (some 42)), some (.inl (some 2)), some (.inl (some RA)), some (zi y3541), some (zi y3543)] [] h3541 t _
      refine y_goto (off := (-34)) (pc' := 38) (len := 3) (r := (0, 0, 0, 0)) (by decide +kernel) (by decide +kernel) ?_
      obtain rfl : L = [] := by
        cases L with
        | nil => rfl
        | cons x L2 =>
          have lk9 := lk.1
          rw [nx9] at lk9
          cases lk9
      rw [List.length_nil] at hn hi hs1
      rw [List.foldl_cons, List.foldl_nil]
      refine y_same (i := .iload 4) (len := 2) (r := (0, 0, 0, 0)) (pc' := 40) (ls' := [some (.inl (some 42)), some (.inl (some 2)), some (.inl (some RA)), some (zi y3541), some (zi y3543)]) (st' := [zi y3543]) (by decide +kernel) (fun k q => by cases q) rfl ?_
      refine y_si (c := 1000) (len := 3) (r := (0, 0, 0, 0)) (by decide +kernel) (by decide) (fun y3544 hy3544 => ?_)
      refine y_cF (c := .ge) (off := 32) (len := 3) (r := (0, 0, 0, 0)) (by decide +kernel) (acmpF (c := .ge) (by show _ < _; omega)) ?_
      refine y_same (i := .iload_n 3) (len := 1) (r := (0, 0, 0, 0)) (pc' := 47) (ls' := [some (.inl (some 42)), some (.inl (some 2)), some (.inl (some RA)), some (zi y3541), some (zi y3543)]) (st' := [zi y3541]) (by decide +kernel) (fun k q => by cases q) rfl ?_
      refine y_iT (c := .eq) (off := 28) (pc' := 75) (len := 3) (r := (0, 0, 0, 0)) (by decide +kernel) (acmpT (c := .eq) (by show _ = _; omega)) (by decide +kernel) ?_
      refine y_rV (len := 1) (r := (0, 0, 0, 0)) (nL := 5) (n9 := 2) (hs := []) (by decide +kernel) rfl ?_
      exact ⟨hg3541, (fun k j hC => (((F3541 k j (by omega)).trans ((F3540 k j (by omega)).trans (F3538 k j (by omega))))).trans (F0 k j hC)), (rcC_up rc3540 (fun k j hC => (F3541 k j (by omega))))⟩
theorem en_bd2 {lo : Nat → Nat} {hi : Nat → Nat} (hb : ∀ k, lo k ≤ hi k) : ∀ {ks : List Nat} {m : Nat} {f x : tlT}, ks.Nodup → x ∈ en_ lo (fun _ k => hi k) (fun m _ => m) ks m f → ∀ k ∈ ks, lo k ≤ x k ∧ x k ≤ hi k
  | [], _, _, _, _, _, k, hk => by cases hk
  | v :: ks, m, f, x, nd, hx, k, hk => by
    obtain ⟨n1, n2⟩ := List.nodup_cons.mp nd
    obtain ⟨p, hp, hx⟩ := List.mem_flatMap.mp hx
    have hp : lo v ≤ p ∧ p < lo v + (hi v - lo v + 1) := List.mem_range'_1.mp hp
    have h9 := hb v
    rcases List.mem_cons.mp hk with e | e
    · have e9 := en_out hx v n1
      rw [e, e9]
      unfold upd_
      rw [if_pos rfl]
      omega
    · exact en_bd2 hb n2 hx k e
theorem sh_hd {b : bsT} {f : tlT} : ∃ sh r, shL b f = sh :: r ∧ ∀ k, k < b.1.1.length → sh k = loS b.1.1 f k := by
  obtain ⟨r, hr⟩ := en_hd (lo := loS b.1.1 f) (hi := fun _ k => hiS b.1.1 f k) (mx := fun m _ => m) (vs := List.range b.1.1.length) (m := 0) (f := fun _ => 0) List.nodup_range
  refine ⟨_, r, hr, fun k hk => ?_⟩
  unfold rst_
  rw [if_pos (List.mem_range.mpr hk)]
theorem sh_len {b : bsT} {f : tlT} (hl : b.1.1.length ≤ 5) : (shL b f).length ≤ 243 := by
  refine Nat.le_trans (en_len3 (fun k => loS_le k)) ?_
  rw [List.length_range]
  exact Nat.pow_le_pow_right (n := 3) (by decide) hl
theorem e_cs {d t : Nat} {τ : List Nat} {h0 : zh} {b : bsT} {f : tlT} {ls : List Nat} {s : rcT} (hg : hG τ h0) {RA IA : Nat} (tRA : τ[RA]? = some 1002) (tIA : τ[IA]? = some 1005) (hRA : RA < 42) (hIA : IA < 42) (pA0 : hsl h0 RA 0 = some (.inl (some IA))) (r0 : rwC h0 RA IA b.1.1) (ok : ∀ (j : Nat) (i : it4), b.1.1[j]? = some i → okI i) (hl5 : b.1.1.length ≤ 5) {S : Nat} (tyS9 : tyS τ S) (hS9 : S + 4 < 42) (la0 : laS h0 S) (sd0 : sdC h0 S b.2) (ok1 : ∀ (j : Nat) (i : it4), b.2.1[j]? = some i → okI i) (ok2 : ∀ (j : Nat) (i : it4), b.2.2[j]? = some i → okI i) (hq5 : b.2.1.length ≤ 5) (hfb : ∀ v, v ≤ 5 → f v ≤ 5) (lt0 : ltC h0 ls) (hls : ∀ v ∈ ls, 1 ≤ v ∧ v ≤ 5) (hls5 : ls.length ≤ 5) {SL : Nat} (tSL : τ[SL]? = some 1001) (p20 : hsl h0 2 0 = some (.inl (some SL))) (pSL : hsl h0 SL 0 = some (.inl (some RA))) (vc0 : vC_ h0 f) (p210 : hsl h0 2 1 = some (.inl (some S))) (hpos : ∀ (j : Nat) (i : it4), b.1.1[j]? = some i → hsS f i → 1 ≤ vX_ f i) (hf0 : f 0 = 0) (rc : rcC h0 ls s) (hs1 : s.1 + 500 < 1000000) (hs2 : s.2.1 ≤ s.1) : qV (d + 7) 125 [some (.inl (some 42)), some (.inl (some 2)), none, none, none] h0 t (fun h1 => hG τ h1 ∧ (∀ k j, (k ≠ 45 ∧ k ≠ 46 ∧ k ≠ 47 ∧ k ≠ 48 ∧ k ≠ 50 ∧ k ≠ 51 ∧ (k ≠ 43 ∨ (j ≠ 5 ∧ j ≠ 6)) ∧ (k ≠ 42 ∨ j < 6)) → hsl h1 k j = hsl h0 k j) ∧ rcC h1 ls ((shL b f).foldl (fun s sh => lok b f sh s) s)) := by
  refine qV_of ?_
  refine y_same (i := .aload_n 1) (len := 1) (r := (0, 0, 0, 0)) (pc' := 1) (ls' := [some (.inl (some 42)), some (.inl (some 2)), none, none, none]) (st' := [.inl (some 2)]) (by decide +kernel) (fun k q => by cases q) rfl ?_
  refine y_get (j := 63) (len := 3) (r := (9, 0, 2, 20199)) (by decide +kernel) hg (tv2 hg) aw1000 rfl rfl p20 ?_
  refine y_get (j := 112) (len := 3) (r := (8, 0, 2, 20183)) (by decide +kernel) hg tSL aw1001 rfl rfl pSL ?_
  refine y_same (i := .astore_n 2) (len := 1) (r := (0, 0, 0, 0)) (pc' := 8) (ls' := [some (.inl (some 42)), some (.inl (some 2)), some (.inl (some RA)), none, none]) (st' := []) (by decide +kernel) (fun k q => by cases q) rfl ?_
  refine y_ic (c := 0) (len := 1) (r := (0, 0, 0, 0)) (by decide +kernel) (by decide) (fun y3545 hy3545 => ?_)
  refine y_same (i := .istore_n 3) (len := 1) (r := (0, 0, 0, 0)) (pc' := 10) (ls' := [some (.inl (some 42)), some (.inl (some 2)), some (.inl (some RA)), some (zi y3545), none]) (st' := []) (by decide +kernel) (fun k q => by cases q) rfl ?_
  refine cl_l (d := d + 3) (h0 := h0) tRA tIA hRA hIA pA0 r0 ok vc0 (fun h9 l3 g9 c9 F9 => ?_) 6 h0 0 y3545 hg (fun k hk => absurd hk (Nat.not_lt_zero k)) (fun k j _ => rfl) (by omega) (by omega) (by omega)
  refine y_ic (c := 1) (len := 1) (r := (0, 0, 0, 0)) (by decide +kernel) (by decide) (fun y3546 hy3546 => ?_)
  refine y_same (i := .istore_n 3) (len := 1) (r := (0, 0, 0, 0)) (pc' := 35) (ls' := [some (.inl (some 42)), some (.inl (some 2)), some (.inl (some RA)), some (zi y3546), none]) (st' := []) (by decide +kernel) (fun k q => by cases q) rfl ?_
  refine y_ic (c := 0) (len := 1) (r := (0, 0, 0, 0)) (by decide +kernel) (by decide) (fun y3547 hy3547 => ?_)
  refine y_same (i := .istore 4) (len := 2) (r := (0, 0, 0, 0)) (pc' := 38) (ls' := [some (.inl (some 42)), some (.inl (some 2)), some (.inl (some RA)), some (zi y3546), some (zi y3547)]) (st' := []) (by decide +kernel) (fun k q => by cases q) rfl ?_
  obtain ⟨sh, L, eL, esh⟩ := sh_hd (b := b) (f := f)
  have hl9 := sh_len (f := f) hl5
  have lk9 := en_lk (lo := loS b.1.1 f) (hi := fun _ k => hiS b.1.1 f k) (mx := fun m _ => m) (fun _ k => (loS_le k).1) (vs := List.range b.1.1.length) (m := 0) (f := fun _ => 0) List.nodup_range
  rw [← shL_eq, eL] at lk9
  rw [eL] at hl9 ⊢
  rw [List.length_cons] at hl9
  exact hcs_l (h0 := h0) tRA tIA hRA hIA pA0 r0 ok hl5 tyS9 hS9 la0 sd0 ok1 ok2 hq5 hfb lt0 hls hls5 vc0 p210 hpos hf0 (L.length + 1) h9 sh s L 0 y3546 y3547 g9 (by omega) (by omega) (fun k hk => by rw [esh k hk]; exact c9 k (by omega)) (rcC_up rc (fun k j hC => F9 k j (by omega))) (fun k j hC => F9 k j (by omega)) lk9 (fun x hx k hk => by
    rw [← eL] at hx
    exact en_bd2 (fun k => (loS_le k).1) List.nodup_range hx k (List.mem_range.mpr hk)) (by omega) (by omega) hs2 (by omega)
