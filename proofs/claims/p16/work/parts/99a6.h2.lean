/-! the class's small heaps: tellings one by one -/
def ltC (h : zh) (ls : List Nat) : Prop := ci_ h 42 4 ls.length ∧ ∀ (i v : Nat), ls[i]? = some v → ci_ h 49 i v
theorem vC_set {h h1 : zh} {f : tlT} {v n : Nat} (c : vC_ h f) (hn : ci_ h1 44 v n) (F : ∀ j, j ≠ v → hsl h1 44 j = hsl h 44 j) : vC_ h1 (upd_ f v n) := fun w hw => by
  unfold upd_
  by_cases q : w = v
  · rw [if_pos q, q]
    exact hn
  · rw [if_neg q]
    exact ci_up (c w hw) (F w q)
theorem mxl_cg {mx : Nat → Nat → Nat} {f g : tlT} : ∀ {l : List Nat} {m : Nat}, (∀ v ∈ l, f v = g v) → mxl_ mx f m l = mxl_ mx g m l
  | [], _, _ => rfl
  | v :: l, m, h => by
    show mxl_ mx f (mx m (f v)) l = mxl_ mx g (mx m (g v)) l
    rw [h v List.mem_cons_self]
    exact mxl_cg (fun w hw => h w (List.mem_cons_of_mem _ hw))
theorem mxl_sn {mx : Nat → Nat → Nat} {f : tlT} {l : List Nat} {m v : Nat} : mxl_ mx f m (l ++ [v]) = mx (mxl_ mx f m l) (f v) := by
  rw [mxl_app]
  rfl
theorem mxl_le {f : tlT} : ∀ {l : List Nat} {m b : Nat}, m ≤ b → (∀ v ∈ l, f v ≤ b) → mxl_ (fun m p => max m p) f m l ≤ b
  | [], _, _, h, _ => h
  | v :: l, m, b, h, hb => mxl_le (l := l) (by have := hb v List.mem_cons_self; show max m (f v) ≤ b; omega) (fun w hw => hb w (List.mem_cons_of_mem _ hw))
theorem e_setv {d t v n : Nat} {τ : List Nat} {h : zh} {f : tlT} {xv xn : Int32} (hg : hG τ h) (vc : vC_ h f) (exv : xv.toInt = (v : Int)) (hv1 : 1 ≤ v) (hv : v ≤ 5) (exn : xn.toInt = (n : Int)) : qV (d + 1) 12 [some (.inl (some 43)), some (zi xv), some (zi xn)] h t (fun h1 => hG τ h1 ∧ vC_ h1 (upd_ f v n) ∧ ∀ k j, (k ≠ 44 ∨ j = 0) → hsl h1 k j = hsl h k j) := by
  refine qV_of ?_
  refine y_same (i := .iload_n 1) (len := 1) (r := (0, 0, 0, 0)) (pc' := 1) (ls' := [some (.inl (some 43)), some (zi xv), some (zi xn)]) (st' := [zi xv]) (by decide +kernel) (fun k q => by cases q) rfl ?_
  refine y_ic (c := 1) (len := 1) (r := (0, 0, 0, 0)) (by decide +kernel) (by decide) (fun y3168 hy3168 => ?_)
  refine y_cF (c := .lt) (off := 15) (len := 3) (r := (0, 0, 0, 0)) (by decide +kernel) (acmpF (c := .lt) (by show _ ≤ _; omega)) ?_
  refine y_same (i := .iload_n 1) (len := 1) (r := (0, 0, 0, 0)) (pc' := 6) (ls' := [some (.inl (some 43)), some (zi xv), some (zi xn)]) (st' := [zi xv]) (by decide +kernel) (fun k q => by cases q) rfl ?_
  refine y_ic (c := 5) (len := 1) (r := (0, 0, 0, 0)) (by decide +kernel) (by decide) (fun y3169 hy3169 => ?_)
  refine y_cF (c := .gt) (off := 10) (len := 3) (r := (0, 0, 0, 0)) (by decide +kernel) (acmpF (c := .gt) (by show _ ≤ _; omega)) ?_
  refine y_same (i := .aload_n 0) (len := 1) (r := (0, 0, 0, 0)) (pc' := 11) (ls' := [some (.inl (some 43)), some (zi xv), some (zi xn)]) (st' := [.inl (some 43)]) (by decide +kernel) (fun k q => by cases q) rfl ?_
  refine y_get (j := 9) (len := 3) (r := (1, 0, 2, 337)) (by decide +kernel) hg (tv43 hg) aw43 rfl rfl (g_rU (f := 0) (T2 := 44) hg (tv43 hg) aw43 rfl (by decide)) ?_
  refine y_same (i := .iload_n 1) (len := 1) (r := (0, 0, 0, 0)) (pc' := 15) (ls' := [some (.inl (some 43)), some (zi xv), some (zi xn)]) (st' := [zi xv, .inl (some 44)]) (by decide +kernel) (fun k q => by cases q) rfl ?_
  refine y_same (i := .iload_n 2) (len := 1) (r := (0, 0, 0, 0)) (pc' := 16) (ls' := [some (.inl (some 43)), some (zi xv), some (zi xn)]) (st' := [zi xn, zi xv, .inl (some 44)]) (by decide +kernel) (fun k q => by cases q) rfl ?_
  refine y_ias (i := v) (len := 1) (r := (0, 0, 0, 0)) (by decide +kernel) hg (tv44 hg) aw44 rfl (by omega) (by omega) (sr1 (by omega)) (qin_full _).1 (qin_full _).2 (fun h3170 hg3170 hl3170 hs3170 ho3170 => ?_)
  refine y_rV (len := 1) (r := (0, 0, 0, 0)) (nL := 3) (n9 := 3) (hs := []) (by decide +kernel) rfl ?_
  exact ⟨hg3170, vC_set vc ⟨_, hs3170, exn⟩ (fun j hj => ho3170 44 j (Or.inr hj)), fun k j hC => ho3170 k j (by omega)⟩
theorem ga_l {d t e : Nat} {τ : List Nat} {h : zh} {f : tlT} {ls : List Nat} {xe : Int32} (hg : hG τ h) (vc : vC_ h f) (lt : ltC h ls) (hls : ∀ v ∈ ls, 1 ≤ v ∧ v ≤ 5) (hfb : ∀ v, v ≤ 5 → f v ≤ 6) (exe : xe.toInt = (e : Int)) (he : e ≤ ls.length) (hl5 : ls.length ≤ 5) : ∀ (n i a : Nat) (xi xa : Int32), xi.toInt = (i : Int) → xa.toInt = (a : Int) → i ≤ e → e ≤ i + n → a = mxl_ (fun m p => max m p) f 0 (ls.take i) → qX (d + 1) 120 4 [some (.inl (some 42)), some (zi xe), some (zi xa), some (zi xi)] [] h t (rI (fun y h1 => h = h1 ∧ y.toInt = ((mxl_ (fun m p => max m p) f 0 (ls.take e) : Nat) : Int)) t) := by
  obtain ⟨xm, hm, em⟩ := lt.1
  intro n
  induction n with
  | zero =>
    intro i a xi xa hxi hxa hi hn ea
    refine y_same (i := .iload_n 3) (len := 1) (r := (0, 0, 0, 0)) (pc' := 5) (ls' := [some (.inl (some 42)), some (zi xe), some (zi xa), some (zi xi)]) (st' := [zi xi]) (by decide +kernel) (fun k q => by cases q) rfl ?_
    refine y_same (i := .iload_n 1) (len := 1) (r := (0, 0, 0, 0)) (pc' := 6) (ls' := [some (.inl (some 42)), some (zi xe), some (zi xa), some (zi xi)]) (st' := [zi xe, zi xi]) (by decide +kernel) (fun k q => by cases q) rfl ?_
    refine y_cT (c := .ge) (off := 35) (pc' := 41) (len := 3) (r := (0, 0, 0, 0)) (by decide +kernel) (acmpT (c := .ge) (by show _ ≤ _; omega)) (by decide +kernel) ?_
    refine y_same (i := .iload_n 2) (len := 1) (r := (0, 0, 0, 0)) (pc' := 42) (ls' := [some (.inl (some 42)), some (zi xe), some (zi xa), some (zi xi)]) (st' := [zi xa]) (by decide +kernel) (fun k q => by cases q) rfl ?_
    refine y_rI (len := 1) (r := (0, 0, 0, 0)) (nL := 4) (k := 1) (n9 := 2) (hs := []) (by decide +kernel) rfl rfl ?_
    have e9 : i = e := by omega
    subst e9
    exact ⟨rfl, by omega⟩
  | succ n ih =>
    intro i a xi xa hxi hxa hi hn ea
    rcases Nat.lt_or_ge i e with q | q
    · have q2 : i < ls.length := by omega
      obtain ⟨v, hk⟩ : ∃ v, ls[i]? = some v := ⟨_, List.getElem?_eq_getElem q2⟩
      obtain ⟨xv, hv, ev⟩ := lt.2 i v hk
      have hvb := hls v (List.mem_of_getElem? hk)
      have hab : a ≤ 6 := by
        rw [ea]
        exact mxl_le (by omega) (fun w hw => hfb w (hls w (List.mem_of_mem_take hw)).2)
      have hfv := hfb v hvb.2
      refine y_same (i := .iload_n 3) (len := 1) (r := (0, 0, 0, 0)) (pc' := 5) (ls' := [some (.inl (some 42)), some (zi xe), some (zi xa), some (zi xi)]) (st' := [zi xi]) (by decide +kernel) (fun k q => by cases q) rfl ?_
      refine y_same (i := .iload_n 1) (len := 1) (r := (0, 0, 0, 0)) (pc' := 6) (ls' := [some (.inl (some 42)), some (zi xe), some (zi xa), some (zi xi)]) (st' := [zi xe, zi xi]) (by decide +kernel) (fun k q => by cases q) rfl ?_
      refine y_cF (c := .ge) (off := 35) (len := 3) (r := (0, 0, 0, 0)) (by decide +kernel) (acmpF (c := .ge) (by show _ < _; omega)) ?_
      refine y_same (i := .iload_n 3) (len := 1) (r := (0, 0, 0, 0)) (pc' := 10) (ls' := [some (.inl (some 42)), some (zi xe), some (zi xa), some (zi xi)]) (st' := [zi xi]) (by decide +kernel) (fun k q => by cases q) rfl ?_
      refine y_same (i := .aload_n 0) (len := 1) (r := (0, 0, 0, 0)) (pc' := 11) (ls' := [some (.inl (some 42)), some (zi xe), some (zi xa), some (zi xi)]) (st' := [.inl (some 42), zi xi]) (by decide +kernel) (fun k q => by cases q) rfl ?_
      refine y_get (j := 28) (len := 3) (r := (10, 4, 0, 363)) (by decide +kernel) hg (tv42 hg) aw42 rfl rfl hm ?_
      refine y_cF (c := .ge) (off := 27) (len := 3) (r := (0, 0, 0, 0)) (by decide +kernel) (acmpF (c := .ge) (by show _ < _; omega)) ?_
      refine y_same (i := .iload_n 2) (len := 1) (r := (0, 0, 0, 0)) (pc' := 18) (ls' := [some (.inl (some 42)), some (zi xe), some (zi xa), some (zi xi)]) (st' := [zi xa]) (by decide +kernel) (fun k q => by cases q) rfl ?_
      refine y_same (i := .aload_n 0) (len := 1) (r := (0, 0, 0, 0)) (pc' := 19) (ls' := [some (.inl (some 42)), some (zi xe), some (zi xa), some (zi xi)]) (st' := [.inl (some 42), zi xa]) (by decide +kernel) (fun k q => by cases q) rfl ?_
      refine y_get (j := 12) (len := 3) (r := (10, 0, 2, 359)) (by decide +kernel) hg (tv42 hg) aw42 rfl rfl (g_rU (f := 0) (T2 := 43) hg (tv42 hg) aw42 rfl (by decide)) ?_
      refine y_same (i := .aload_n 0) (len := 1) (r := (0, 0, 0, 0)) (pc' := 23) (ls' := [some (.inl (some 42)), some (zi xe), some (zi xa), some (zi xi)]) (st' := [.inl (some 42), .inl (some 43), zi xa]) (by decide +kernel) (fun k q => by cases q) rfl ?_
      refine y_get (j := 18) (len := 3) (r := (10, 1, 2, 360)) (by decide +kernel) hg (tv42 hg) aw42 rfl rfl (g_rU (f := 1) (T2 := 49) hg (tv42 hg) aw42 rfl (by decide)) ?_
      refine y_same (i := .iload_n 3) (len := 1) (r := (0, 0, 0, 0)) (pc' := 27) (ls' := [some (.inl (some 42)), some (zi xe), some (zi xa), some (zi xi)]) (st' := [zi xi, .inl (some 49), .inl (some 43), zi xa]) (by decide +kernel) (fun k q => by cases q) rfl ?_
      refine y_ial (i := i) (len := 1) (r := (0, 0, 0, 0)) (by decide +kernel) hg (tv49 hg) aw49 (by omega) hv ?_
      refine y_cI (i := .invokevirtual 89) (len := 3) (r := (0, 11, 1, 1220)) (nL := 2) (k := 1) (n := 2) (hs := []) (args := [.inl (some 43), zi xv]) (rest := [zi xa]) (l0 := [some (.inl (some 43)), some (zi xv)]) (by decide +kernel) (Or.inr (Or.inl ⟨_, rfl⟩)) rfl rfl rfl rfl (Nat.le_of_ble_eq_true rfl) (zO hg (tv43 hg) aw43 rfl) rfl (qI_le (by omega) (e_val (d := 0) (v := v) hg vc (by omega) (by omega))) (fun y3171 qy3171 hRy3171 => ?_)
      obtain ⟨rfl, ey3171⟩ := hRy3171
      refine y_cI (i := .invokestatic 96) (len := 3) (r := (1, 266, 60, 1301)) (nL := 2) (k := 1) (n := 2) (hs := []) (args := [zi xa, zi y3171]) (rest := []) (l0 := [some (zi xa), some (zi y3171)]) (by decide +kernel) (Or.inl ⟨_, rfl⟩) rfl rfl rfl rfl (Nat.le_of_ble_eq_true rfl) rfl rfl (qI_le (by omega) (e_jmax (d := 0))) (fun y3172 qy3172 hRy3172 => ?_)
      obtain ⟨rfl, my3172, wy3172⟩ := hRy3172
      have ey3172 : y3172.toInt = ((max a (f v) : Nat) : Int) := by omega
      refine y_same (i := .istore_n 2) (len := 1) (r := (0, 0, 0, 0)) (pc' := 35) (ls' := [some (.inl (some 42)), some (zi xe), some (zi y3172), some (zi xi)]) (st' := []) (by decide +kernel) (fun k q => by cases q) rfl ?_
      refine y_inc (j := 3) (a := xi) (c := 1) (ls' := fun v => [some (.inl (some 42)), some (zi xe), some (zi y3172), some v]) (len := 3) (r := (0, 0, 0, 0)) (by decide +kernel) rfl (fun _ => rfl) (by decide) (by omega) (by omega) (fun y3173 hy3173 => ?_)
      show qX (d + 1) 120 38 [some (.inl (some 42)), some (zi xe), some (zi y3172), some (zi y3173)] [] h t _
      refine y_goto (off := (-34)) (pc' := 4) (len := 3) (r := (0, 0, 0, 0)) (by decide +kernel) (by decide +kernel) ?_
      refine ih (i + 1) (max a (f v)) y3173 y3172 (by omega) (by omega) (by omega) (by omega) ?_
      rw [List.take_succ, hk, ea]
      exact mxl_sn.symm
    ·
      refine y_same (i := .iload_n 3) (len := 1) (r := (0, 0, 0, 0)) (pc' := 5) (ls' := [some (.inl (some 42)), some (zi xe), some (zi xa), some (zi xi)]) (st' := [zi xi]) (by decide +kernel) (fun k q => by cases q) rfl ?_
      refine y_same (i := .iload_n 1) (len := 1) (r := (0, 0, 0, 0)) (pc' := 6) (ls' := [some (.inl (some 42)), some (zi xe), some (zi xa), some (zi xi)]) (st' := [zi xe, zi xi]) (by decide +kernel) (fun k q => by cases q) rfl ?_
      refine y_cT (c := .ge) (off := 35) (pc' := 41) (len := 3) (r := (0, 0, 0, 0)) (by decide +kernel) (acmpT (c := .ge) (by show _ ≤ _; omega)) (by decide +kernel) ?_
      refine y_same (i := .iload_n 2) (len := 1) (r := (0, 0, 0, 0)) (pc' := 42) (ls' := [some (.inl (some 42)), some (zi xe), some (zi xa), some (zi xi)]) (st' := [zi xa]) (by decide +kernel) (fun k q => by cases q) rfl ?_
      refine y_rI (len := 1) (r := (0, 0, 0, 0)) (nL := 4) (k := 1) (n9 := 2) (hs := []) (by decide +kernel) rfl rfl ?_
      have e9 : i = e := by omega
      subst e9
      exact ⟨rfl, by omega⟩
theorem e_ga {d t e : Nat} {τ : List Nat} {h : zh} {f : tlT} {ls : List Nat} {xe : Int32} (hg : hG τ h) (vc : vC_ h f) (lt : ltC h ls) (hls : ∀ v ∈ ls, 1 ≤ v ∧ v ≤ 5) (hfb : ∀ v, v ≤ 5 → f v ≤ 6) (exe : xe.toInt = (e : Int)) (he : e ≤ ls.length) (hl5 : ls.length ≤ 5) : qI (d + 2) 120 [some (.inl (some 42)), some (zi xe), none, none] h t (fun y h1 => h = h1 ∧ y.toInt = ((mxl_ (fun m p => max m p) f 0 (ls.take e) : Nat) : Int)) := by
  refine qI_of ?_
  refine y_ic (c := 0) (len := 1) (r := (0, 0, 0, 0)) (by decide +kernel) (by decide) (fun y3174 hy3174 => ?_)
  refine y_same (i := .istore_n 2) (len := 1) (r := (0, 0, 0, 0)) (pc' := 2) (ls' := [some (.inl (some 42)), some (zi xe), some (zi y3174), none]) (st' := []) (by decide +kernel) (fun k q => by cases q) rfl ?_
  refine y_ic (c := 0) (len := 1) (r := (0, 0, 0, 0)) (by decide +kernel) (by decide) (fun y3175 hy3175 => ?_)
  refine y_same (i := .istore_n 3) (len := 1) (r := (0, 0, 0, 0)) (pc' := 4) (ls' := [some (.inl (some 42)), some (zi xe), some (zi y3174), some (zi y3175)]) (st' := []) (by decide +kernel) (fun k q => by cases q) rfl ?_
  exact ga_l hg vc lt hls hfb exe he hl5 e 0 0 y3175 y3174 (by omega) (by omega) (by omega) (by omega) rfl
theorem rst_c {f : tlT} {suf : List Nat} {v : Nat} {g : tlT} (n1 : v ∉ suf) (e : g = rst_ (fun _ => 0) suf f) : upd_ g v 0 = rst_ (fun _ => 0) (v :: suf) f := by
  subst e
  funext w
  show (if w = v then 0 else if w ∈ suf then 0 else f w) = if w ∈ v :: suf then 0 else f w
  by_cases h1 : w = v
  · rw [if_pos h1, if_pos (by rw [h1]; exact List.mem_cons_self)]
  · rw [if_neg h1]
    by_cases h2 : w ∈ suf
    · rw [if_pos h2, if_pos (List.mem_cons_of_mem _ h2)]
    · rw [if_neg h2, if_neg (fun q => (List.mem_cons.mp q).elim h1 h2)]
theorem ltC_up {h h1 : zh} {ls : List Nat} (c : ltC h ls) (e1 : hsl h1 42 4 = hsl h 42 4) (e2 : ∀ j, hsl h1 49 j = hsl h 49 j) : ltC h1 ls := ⟨ci_up c.1 e1, fun i v hv => ci_up (c.2 i v hv) (e2 i)⟩
abbrev nbT (f : tlT) (rp suf : List Nat) : Option tlT := nbx_ (fun _ => 0) (fun m _ => m + 1) (fun m p => max m p) 0 f rp suf
theorem tn_l {d t : Nat} {τ : List Nat} {h0 : zh} {f : tlT} {ls : List Nat} (nd : ls.Nodup) (hls : ∀ v ∈ ls, 1 ≤ v ∧ v ≤ 5) (hfb0 : ∀ v, v ≤ 5 → f v ≤ 6) (hl5 : ls.length ≤ 5) : ∀ (i : Nat) (h : zh) (xi : Int32) (l2 : Option zv), hG τ h → ltC h ls → vC_ h (rst_ (fun _ => 0) (ls.drop i) f) → (∀ k j, (k ≠ 44 ∨ j = 0) → hsl h k j = hsl h0 k j) → xi.toInt = (i : Int) - 1 → i ≤ ls.length → qX (d + 2) 119 7 [some (.inl (some 42)), some (zi xi), l2] [] h t (rI (fun y h1 => hG τ h1 ∧ (∀ k j, (k ≠ 44 ∨ j = 0) → hsl h1 k j = hsl h0 k j) ∧ ((y.toInt = 1 ∧ ∃ f', nbT f (ls.take i).reverse (ls.drop i) = some f' ∧ vC_ h1 f') ∨ (y.toInt = 0 ∧ nbT f (ls.take i).reverse (ls.drop i) = none))) t) := by
  intro i
  induction i with
  | zero =>
    intro h xi l2 hg lt vc F0 hxi hi
    refine y_same (i := .iload_n 1) (len := 1) (r := (0, 0, 0, 0)) (pc' := 8) (ls' := [some (.inl (some 42)), some (zi xi), l2]) (st' := [zi xi]) (by decide +kernel) (fun k q => by cases q) rfl ?_
    refine y_iT (c := .lt) (off := 64) (pc' := 72) (len := 3) (r := (0, 0, 0, 0)) (by decide +kernel) (acmpT (c := .lt) (by show _ < _; omega)) (by decide +kernel) ?_
    refine y_ic (c := 0) (len := 1) (r := (0, 0, 0, 0)) (by decide +kernel) (by decide) (fun y3186 hy3186 => ?_)
    refine y_rI (len := 1) (r := (0, 0, 0, 0)) (nL := 3) (k := 2) (n9 := 1) (hs := []) (by decide +kernel) rfl (zfit_b (by omega) (by omega)).2 ?_
    exact ⟨hg, F0, Or.inr ⟨by omega, rfl⟩⟩
  | succ i ih =>
    intro h xi l2 hg lt vc F0 hxi hi
    have q2 : i < ls.length := by omega
    obtain ⟨v, hk⟩ : ∃ v, ls[i]? = some v := ⟨_, List.getElem?_eq_getElem q2⟩
    obtain ⟨xv, hv, ev⟩ := lt.2 i v hk
    obtain ⟨xm, hm, em⟩ := lt.1
    have hvb := hls v (List.mem_of_getElem? hk)
    have ed : ls.drop i = v :: ls.drop (i + 1) := by
      rw [List.drop_eq_getElem_cons q2]
      congr 1
      exact Option.some.inj ((List.getElem?_eq_getElem q2).symm.trans hk)
    have es : ls.take i ++ (v :: ls.drop (i + 1)) = ls := by rw [← ed, List.take_append_drop]
    have nd2 := nd
    rw [← es] at nd2
    obtain ⟨-, nd3, nd4⟩ := List.nodup_append.mp nd2
    have n1 : v ∉ ls.drop (i + 1) := (List.nodup_cons.mp nd3).1
    have n4 : ∀ w ∈ ls.take i, w ∉ ls.drop (i + 1) := fun w hw q => nd4 w hw w (List.mem_cons_of_mem _ q) rfl
    have gv : rst_ (fun _ => 0) (ls.drop (i + 1)) f v = f v := by
      unfold rst_
      rw [if_neg n1]
    have gm : mxl_ (fun m p => max m p) (rst_ (fun _ => 0) (ls.drop (i + 1)) f) 0 (ls.take i) = mxl_ (fun m p => max m p) f 0 (ls.take i) := mxl_cg (fun w hw => by
      unfold rst_
      rw [if_neg (n4 w hw)])
    have hfb : ∀ v, v ≤ 5 → rst_ (fun _ => 0) (ls.drop (i + 1)) f v ≤ 6 := fun w hw => by
      unfold rst_
      split
      · exact Nat.zero_le _
      · exact hfb0 w hw
    have er : (ls.take (i + 1)).reverse = v :: (ls.take i).reverse := by
      rw [List.take_succ, hk]
      simp
    have nbv : nbT f (ls.take (i + 1)).reverse (ls.drop (i + 1)) = if f v < mxl_ (fun m p => max m p) f 0 (ls.take i) + 1 then some (upd_ (rst_ (fun _ => 0) (ls.drop (i + 1)) f) v (f v + 1)) else nbT f (ls.take i).reverse (v :: ls.drop (i + 1)) := by
      rw [er]
      show (if f v < mxl_ (fun m p => max m p) f 0 (ls.take i).reverse.reverse + 1 then _ else _) = _
      rw [List.reverse_reverse]
    have hfv := hfb v hvb.2
    obtain ⟨g, eg⟩ : ∃ g, g = rst_ (fun _ => 0) (ls.drop (i + 1)) f := ⟨_, rfl⟩
    rw [← eg] at vc gv gm hfb hfv nbv
    have hxi : xi.toInt = (i : Int) := by omega
    refine y_same (i := .iload_n 1) (len := 1) (r := (0, 0, 0, 0)) (pc' := 8) (ls' := [some (.inl (some 42)), some (zi xi), l2]) (st' := [zi xi]) (by decide +kernel) (fun k q => by cases q) rfl ?_
    refine y_iF (c := .lt) (off := 64) (len := 3) (r := (0, 0, 0, 0)) (by decide +kernel) (acmpF (c := .lt) (by show _ ≤ _; omega)) ?_
    refine y_same (i := .aload_n 0) (len := 1) (r := (0, 0, 0, 0)) (pc' := 12) (ls' := [some (.inl (some 42)), some (zi xi), l2]) (st' := [.inl (some 42)]) (by decide +kernel) (fun k q => by cases q) rfl ?_
    refine y_get (j := 12) (len := 3) (r := (10, 0, 2, 359)) (by decide +kernel) hg (tv42 hg) aw42 rfl rfl (g_rU (f := 0) (T2 := 43) hg (tv42 hg) aw42 rfl (by decide)) ?_
    refine y_same (i := .aload_n 0) (len := 1) (r := (0, 0, 0, 0)) (pc' := 16) (ls' := [some (.inl (some 42)), some (zi xi), l2]) (st' := [.inl (some 42), .inl (some 43)]) (by decide +kernel) (fun k q => by cases q) rfl ?_
    refine y_get (j := 18) (len := 3) (r := (10, 1, 2, 360)) (by decide +kernel) hg (tv42 hg) aw42 rfl rfl (g_rU (f := 1) (T2 := 49) hg (tv42 hg) aw42 rfl (by decide)) ?_
    refine y_same (i := .iload_n 1) (len := 1) (r := (0, 0, 0, 0)) (pc' := 20) (ls' := [some (.inl (some 42)), some (zi xi), l2]) (st' := [zi xi, .inl (some 49), .inl (some 43)]) (by decide +kernel) (fun k q => by cases q) rfl ?_
    refine y_ial (i := i) (len := 1) (r := (0, 0, 0, 0)) (by decide +kernel) hg (tv49 hg) aw49 (by omega) hv ?_
    refine y_cI (i := .invokevirtual 89) (len := 3) (r := (0, 11, 1, 1220)) (nL := 2) (k := 1) (n := 2) (hs := []) (args := [.inl (some 43), zi xv]) (rest := []) (l0 := [some (.inl (some 43)), some (zi xv)]) (by decide +kernel) (Or.inr (Or.inl ⟨_, rfl⟩)) rfl rfl rfl rfl (Nat.le_of_ble_eq_true rfl) (zO hg (tv43 hg) aw43 rfl) rfl (qI_le (by omega) (e_val (d := 0) (v := v) hg vc (by omega) (by omega))) (fun y3176 qy3176 hRy3176 => ?_)
    obtain ⟨rfl, ey3176⟩ := hRy3176
    refine y_same (i := .istore_n 2) (len := 1) (r := (0, 0, 0, 0)) (pc' := 25) (ls' := [some (.inl (some 42)), some (zi xi), some (zi y3176)]) (st' := []) (by decide +kernel) (fun k q => by cases q) rfl ?_
    refine y_same (i := .iload_n 2) (len := 1) (r := (0, 0, 0, 0)) (pc' := 26) (ls' := [some (.inl (some 42)), some (zi xi), some (zi y3176)]) (st' := [zi y3176]) (by decide +kernel) (fun k q => by cases q) rfl ?_
    refine y_same (i := .aload_n 0) (len := 1) (r := (0, 0, 0, 0)) (pc' := 27) (ls' := [some (.inl (some 42)), some (zi xi), some (zi y3176)]) (st' := [.inl (some 42), zi y3176]) (by decide +kernel) (fun k q => by cases q) rfl ?_
    refine y_same (i := .iload_n 1) (len := 1) (r := (0, 0, 0, 0)) (pc' := 28) (ls' := [some (.inl (some 42)), some (zi xi), some (zi y3176)]) (st' := [zi xi, .inl (some 42), zi y3176]) (by decide +kernel) (fun k q => by cases q) rfl ?_
    refine y_cI (i := .invokevirtual 93) (len := 3) (r := (0, 120, 10, 1297)) (nL := 4) (k := 1) (n := 2) (hs := []) (args := [.inl (some 42), zi xi]) (rest := [zi y3176]) (l0 := [some (.inl (some 42)), some (zi xi), none, none]) (by decide +kernel) (Or.inr (Or.inl ⟨_, rfl⟩)) rfl rfl rfl rfl (Nat.le_of_ble_eq_true rfl) (zO hg (tv42 hg) aw42 rfl) rfl (qI_le (by omega) (e_ga (d := 0) (e := i) hg vc lt hls hfb (by omega) (by omega) hl5)) (fun y3177 qy3177 hRy3177 => ?_)
    obtain ⟨rfl, ey3177⟩ := hRy3177
    rcases Decidable.em (y3176.toInt > y3177.toInt) with q3178 | q3178
    ·
      refine y_cT (c := .gt) (off := 21) (pc' := 52) (len := 3) (r := (0, 0, 0, 0)) (by decide +kernel) (acmpT (c := .gt) (by show _ < _; omega)) (by decide +kernel) ?_
      refine y_same (i := .aload_n 0) (len := 1) (r := (0, 0, 0, 0)) (pc' := 53) (ls' := [some (.inl (some 42)), some (zi xi), some (zi y3176)]) (st' := [.inl (some 42)]) (by decide +kernel) (fun k q => by cases q) rfl ?_
      refine y_get (j := 12) (len := 3) (r := (10, 0, 2, 359)) (by decide +kernel) hg (tv42 hg) aw42 rfl rfl (g_rU (f := 0) (T2 := 43) hg (tv42 hg) aw42 rfl (by decide)) ?_
      refine y_same (i := .aload_n 0) (len := 1) (r := (0, 0, 0, 0)) (pc' := 57) (ls' := [some (.inl (some 42)), some (zi xi), some (zi y3176)]) (st' := [.inl (some 42), .inl (some 43)]) (by decide +kernel) (fun k q => by cases q) rfl ?_
      refine y_get (j := 18) (len := 3) (r := (10, 1, 2, 360)) (by decide +kernel) hg (tv42 hg) aw42 rfl rfl (g_rU (f := 1) (T2 := 49) hg (tv42 hg) aw42 rfl (by decide)) ?_
      refine y_same (i := .iload_n 1) (len := 1) (r := (0, 0, 0, 0)) (pc' := 61) (ls' := [some (.inl (some 42)), some (zi xi), some (zi y3176)]) (st' := [zi xi, .inl (some 49), .inl (some 43)]) (by decide +kernel) (fun k q => by cases q) rfl ?_
      refine y_ial (i := i) (len := 1) (r := (0, 0, 0, 0)) (by decide +kernel) hg (tv49 hg) aw49 (by omega) hv ?_
      refine y_ic (c := 0) (len := 1) (r := (0, 0, 0, 0)) (by decide +kernel) (by decide) (fun y3179 hy3179 => ?_)
      refine y_cV (i := .invokevirtual 85) (len := 3) (r := (0, 12, 1, 1198)) (nL := 3) (k := 0) (n := 3) (hs := []) (args := [.inl (some 43), zi xv, zi y3179]) (rest := []) (l0 := [some (.inl (some 43)), some (zi xv), some (zi y3179)]) (by decide +kernel) (Or.inr (Or.inl ⟨_, rfl⟩)) rfl rfl rfl rfl (Nat.le_of_ble_eq_true rfl) (zO hg (tv43 hg) aw43 rfl) rfl (qV_le (by omega) (e_setv (d := 0) (v := v) (n := 0) hg vc (by omega) (by omega) (by omega) (by omega))) (fun h3180 hR3180 => ?_)
      obtain ⟨hg3180, vc3180, F3180⟩ := hR3180
      refine y_inc (j := 1) (a := xi) (c := (-1)) (ls' := fun v => [some (.inl (some 42)), some v, some (zi y3176)]) (len := 3) (r := (0, 0, 0, 0)) (by decide +kernel) rfl (fun _ => rfl) (by decide) (by omega) (by omega) (fun y3181 hy3181 => ?_)
      show qX (d + 2) 119 69 [some (.inl (some 42)), some (zi y3181), some (zi y3176)] [] h3180 t _
      refine y_goto (off := (-62)) (pc' := 7) (len := 3) (r := (0, 0, 0, 0)) (by decide +kernel) (by decide +kernel) ?_
      rw [show upd_ g v 0 = rst_ (fun _ => 0) (v :: ls.drop (i + 1)) f from rst_c n1 eg] at vc3180
      rw [← ed] at vc3180
      refine qX_I (ih h3180 y3181 _ hg3180 (ltC_up lt (F3180 42 4 (by omega)) (fun j => (F3180 49 j (by omega)))) vc3180 (fun k j hC => ((F3180 k j (by omega))).trans (F0 k j hC)) (by omega) (by omega)) (fun y h1 hR => ?_)
      rw [nbv, if_neg (by omega), ← ed]
      exact hR
    ·
      refine y_cF (c := .gt) (off := 21) (len := 3) (r := (0, 0, 0, 0)) (by decide +kernel) (acmpF (c := .gt) (by show _ ≤ _; omega)) ?_
      refine y_same (i := .aload_n 0) (len := 1) (r := (0, 0, 0, 0)) (pc' := 35) (ls' := [some (.inl (some 42)), some (zi xi), some (zi y3176)]) (st' := [.inl (some 42)]) (by decide +kernel) (fun k q => by cases q) rfl ?_
      refine y_get (j := 12) (len := 3) (r := (10, 0, 2, 359)) (by decide +kernel) hg (tv42 hg) aw42 rfl rfl (g_rU (f := 0) (T2 := 43) hg (tv42 hg) aw42 rfl (by decide)) ?_
      refine y_same (i := .aload_n 0) (len := 1) (r := (0, 0, 0, 0)) (pc' := 39) (ls' := [some (.inl (some 42)), some (zi xi), some (zi y3176)]) (st' := [.inl (some 42), .inl (some 43)]) (by decide +kernel) (fun k q => by cases q) rfl ?_
      refine y_get (j := 18) (len := 3) (r := (10, 1, 2, 360)) (by decide +kernel) hg (tv42 hg) aw42 rfl rfl (g_rU (f := 1) (T2 := 49) hg (tv42 hg) aw42 rfl (by decide)) ?_
      refine y_same (i := .iload_n 1) (len := 1) (r := (0, 0, 0, 0)) (pc' := 43) (ls' := [some (.inl (some 42)), some (zi xi), some (zi y3176)]) (st' := [zi xi, .inl (some 49), .inl (some 43)]) (by decide +kernel) (fun k q => by cases q) rfl ?_
      refine y_ial (i := i) (len := 1) (r := (0, 0, 0, 0)) (by decide +kernel) hg (tv49 hg) aw49 (by omega) hv ?_
      refine y_same (i := .iload_n 2) (len := 1) (r := (0, 0, 0, 0)) (pc' := 45) (ls' := [some (.inl (some 42)), some (zi xi), some (zi y3176)]) (st' := [zi y3176, zi xv, .inl (some 43)]) (by decide +kernel) (fun k q => by cases q) rfl ?_
      refine y_ic (c := 1) (len := 1) (r := (0, 0, 0, 0)) (by decide +kernel) (by decide) (fun y3182 hy3182 => ?_)
      refine y_add (len := 1) (r := (0, 0, 0, 0)) (by decide +kernel) (by omega) (by omega) (fun y3183 hy3183 => ?_)
      refine y_cV (i := .invokevirtual 85) (len := 3) (r := (0, 12, 1, 1198)) (nL := 3) (k := 0) (n := 3) (hs := []) (args := [.inl (some 43), zi xv, zi y3183]) (rest := []) (l0 := [some (.inl (some 43)), some (zi xv), some (zi y3183)]) (by decide +kernel) (Or.inr (Or.inl ⟨_, rfl⟩)) rfl rfl rfl rfl (Nat.le_of_ble_eq_true rfl) (zO hg (tv43 hg) aw43 rfl) rfl (qV_le (by omega) (e_setv (d := 0) (v := v) (n := ((g v) + 1)) hg vc (by omega) (by omega) (by omega) (by omega))) (fun h3184 hR3184 => ?_)
      obtain ⟨hg3184, vc3184, F3184⟩ := hR3184
      refine y_ic (c := 1) (len := 1) (r := (0, 0, 0, 0)) (by decide +kernel) (by decide) (fun y3185 hy3185 => ?_)
      refine y_rI (len := 1) (r := (0, 0, 0, 0)) (nL := 3) (k := 2) (n9 := 1) (hs := []) (by decide +kernel) rfl (zfit_b (by omega) (by omega)).2 ?_
      refine ⟨hg3184, fun k j hC => ((F3184 k j (by omega))).trans (F0 k j hC), Or.inl ⟨by omega, _, ?_, vc3184⟩⟩
      rw [nbv, if_pos (by omega), gv]
theorem e_tn {d t : Nat} {τ : List Nat} {h : zh} {f : tlT} {ls : List Nat} (hg : hG τ h) (vc : vC_ h f) (lt : ltC h ls) (nd : ls.Nodup) (hls : ∀ v ∈ ls, 1 ≤ v ∧ v ≤ 5) (hfb0 : ∀ v, v ≤ 5 → f v ≤ 6) (hl5 : ls.length ≤ 5) : qI (d + 3) 119 [some (.inl (some 42)), none, none] h t (fun y h1 => hG τ h1 ∧ (∀ k j, (k ≠ 44 ∨ j = 0) → hsl h1 k j = hsl h k j) ∧ ((y.toInt = 1 ∧ ∃ f', nx_ (fun _ => 0) (fun m _ => m + 1) (fun m p => max m p) ls 0 f = some f' ∧ vC_ h1 f') ∨ (y.toInt = 0 ∧ nx_ (fun _ => 0) (fun m _ => m + 1) (fun m p => max m p) ls 0 f = none))) := by
  obtain ⟨xm, hm, em⟩ := lt.1
  refine qI_of ?_
  refine y_same (i := .aload_n 0) (len := 1) (r := (0, 0, 0, 0)) (pc' := 1) (ls' := [some (.inl (some 42)), none, none]) (st' := [.inl (some 42)]) (by decide +kernel) (fun k q => by cases q) rfl ?_
  refine y_get (j := 28) (len := 3) (r := (10, 4, 0, 363)) (by decide +kernel) hg (tv42 hg) aw42 rfl rfl hm ?_
  refine y_ic (c := 1) (len := 1) (r := (0, 0, 0, 0)) (by decide +kernel) (by decide) (fun y3187 hy3187 => ?_)
  refine y_sub (len := 1) (r := (0, 0, 0, 0)) (by decide +kernel) (by omega) (by omega) (fun y3188 hy3188 => ?_)
  refine y_same (i := .istore_n 1) (len := 1) (r := (0, 0, 0, 0)) (pc' := 7) (ls' := [some (.inl (some 42)), some (zi y3188), none]) (st' := []) (by decide +kernel) (fun k q => by cases q) rfl ?_
  have e1 : ls.drop ls.length = [] := List.drop_of_length_le (Nat.le_refl _)
  have e2 : ls.take ls.length = ls := List.take_of_length_le (Nat.le_refl _)
  have e3 : rst_ (fun _ => 0) ([] : List Nat) f = f := funext fun w => if_neg (fun q => by cases q)
  refine qX_I (tn_l (h0 := h) nd hls hfb0 hl5 ls.length h y3188 _ hg lt (by rw [e1, e3]; exact vc) (fun k j _ => rfl) (by omega) (Nat.le_refl _)) (fun y h1 hR => ?_)
  rw [e1, e2] at hR
  rw [nb_all]
  exact hR
