/-! the class's small heaps: a heap is built -/
def kC_ (h : zh) (w : Nat) (k : Int) : Prop := ∃ x : Int32, hsl h 45 w = some (zi x) ∧ x.toInt = k
def hpC (h : zh) (H : hpT) : Prop := (∀ w, 1 ≤ w → w ≤ 10 → kC_ h w (H.1 w) ∧ (H.1 w ≠ -1 → ci_ h 46 w (H.2.1 w) ∧ ci_ h 47 w (H.2.2.1 w))) ∧ ci_ h 43 6 H.2.2.2
theorem kC_up {h h1 : zh} {w : Nat} {k : Int} (c : kC_ h w k) (e : hsl h1 45 w = hsl h 45 w) : kC_ h1 w k := by
  obtain ⟨x, a, b⟩ := c
  exact ⟨x, e.trans a, b⟩
theorem hpC_up {h h1 : zh} {H : hpT} (c : hpC h H) (e : ∀ k j, (k = 45 ∨ k = 46 ∨ k = 47 ∨ (k = 43 ∧ j = 6)) → hsl h1 k j = hsl h k j) : hpC h1 H := ⟨fun w h1 h2 => ⟨kC_up (c.1 w h1 h2).1 (e _ _ (by omega)), fun q => ⟨ci_up ((c.1 w h1 h2).2 q).1 (e _ _ (by omega)), ci_up ((c.1 w h1 h2).2 q).2 (e _ _ (by omega))⟩⟩, ci_up c.2 (e _ _ (by omega))⟩
theorem e_put {d t w a b : Nat} {k : Int} {τ : List Nat} {h : zh} {H : hpT} {xw xk xa xb : Int32} (hg : hG τ h) (hp : hpC h H) (exw : xw.toInt = (w : Int)) (hw1 : 1 ≤ w) (hw2 : w ≤ 10) (exk : xk.toInt = k) (exa : xa.toInt = (a : Int)) (exb : xb.toInt = (b : Int)) : qV (d + 1) 15 [some (.inl (some 43)), some (zi xw), some (zi xk), some (zi xa), some (zi xb)] h t (fun h1 => hG τ h1 ∧ hpC h1 (put1 H w k a b) ∧ ∀ k j, (k ≠ 45 ∧ k ≠ 46 ∧ k ≠ 47) → hsl h1 k j = hsl h k j) := by
  refine qV_of ?_
  refine y_same (i := .iload_n 1) (len := 1) (r := (0, 0, 0, 0)) (pc' := 1) (ls' := [some (.inl (some 43)), some (zi xw), some (zi xk), some (zi xa), some (zi xb)]) (st' := [zi xw]) (by decide +kernel) (fun k q => by cases q) rfl ?_
  refine y_iF (c := .le) (off := 31) (len := 3) (r := (0, 0, 0, 0)) (by decide +kernel) (acmpF (c := .le) (by show _ < _; omega)) ?_
  refine y_same (i := .iload_n 1) (len := 1) (r := (0, 0, 0, 0)) (pc' := 5) (ls' := [some (.inl (some 43)), some (zi xw), some (zi xk), some (zi xa), some (zi xb)]) (st' := [zi xw]) (by decide +kernel) (fun k q => by cases q) rfl ?_
  refine y_bi (c := 11) (len := 2) (r := (0, 0, 0, 0)) (by decide +kernel) (by decide) (fun y3207 hy3207 => ?_)
  refine y_cF (c := .ge) (off := 25) (len := 3) (r := (0, 0, 0, 0)) (by decide +kernel) (acmpF (c := .ge) (by show _ < _; omega)) ?_
  refine y_same (i := .aload_n 0) (len := 1) (r := (0, 0, 0, 0)) (pc' := 11) (ls' := [some (.inl (some 43)), some (zi xw), some (zi xk), some (zi xa), some (zi xb)]) (st' := [.inl (some 43)]) (by decide +kernel) (fun k q => by cases q) rfl ?_
  refine y_get (j := 15) (len := 3) (r := (1, 1, 2, 338)) (by decide +kernel) hg (tv43 hg) aw43 rfl rfl (g_rU (f := 1) (T2 := 45) hg (tv43 hg) aw43 rfl (by decide)) ?_
  refine y_same (i := .iload_n 1) (len := 1) (r := (0, 0, 0, 0)) (pc' := 15) (ls' := [some (.inl (some 43)), some (zi xw), some (zi xk), some (zi xa), some (zi xb)]) (st' := [zi xw, .inl (some 45)]) (by decide +kernel) (fun k q => by cases q) rfl ?_
  refine y_same (i := .iload_n 2) (len := 1) (r := (0, 0, 0, 0)) (pc' := 16) (ls' := [some (.inl (some 43)), some (zi xw), some (zi xk), some (zi xa), some (zi xb)]) (st' := [zi xk, zi xw, .inl (some 45)]) (by decide +kernel) (fun k q => by cases q) rfl ?_
  refine y_ias (i := w) (len := 1) (r := (0, 0, 0, 0)) (by decide +kernel) hg (tv45 hg) aw45 rfl (by omega) (by omega) (sr1 (by omega)) (qin_full _).1 (qin_full _).2 (fun h3208 hg3208 hl3208 hs3208 ho3208 => ?_)
  refine y_same (i := .aload_n 0) (len := 1) (r := (0, 0, 0, 0)) (pc' := 18) (ls' := [some (.inl (some 43)), some (zi xw), some (zi xk), some (zi xa), some (zi xb)]) (st' := [.inl (some 43)]) (by decide +kernel) (fun k q => by cases q) rfl ?_
  refine y_get (j := 18) (len := 3) (r := (1, 2, 2, 339)) (by decide +kernel) hg3208 (tv43 hg3208) aw43 rfl rfl (g_rU (f := 2) (T2 := 46) hg3208 (tv43 hg3208) aw43 rfl (by decide)) ?_
  refine y_same (i := .iload_n 1) (len := 1) (r := (0, 0, 0, 0)) (pc' := 22) (ls' := [some (.inl (some 43)), some (zi xw), some (zi xk), some (zi xa), some (zi xb)]) (st' := [zi xw, .inl (some 46)]) (by decide +kernel) (fun k q => by cases q) rfl ?_
  refine y_same (i := .iload_n 3) (len := 1) (r := (0, 0, 0, 0)) (pc' := 23) (ls' := [some (.inl (some 43)), some (zi xw), some (zi xk), some (zi xa), some (zi xb)]) (st' := [zi xa, zi xw, .inl (some 46)]) (by decide +kernel) (fun k q => by cases q) rfl ?_
  refine y_ias (i := w) (len := 1) (r := (0, 0, 0, 0)) (by decide +kernel) hg3208 (tv46 hg3208) aw46 rfl (by omega) (by omega) (sr1 (by omega)) (qin_full _).1 (qin_full _).2 (fun h3209 hg3209 hl3209 hs3209 ho3209 => ?_)
  refine y_same (i := .aload_n 0) (len := 1) (r := (0, 0, 0, 0)) (pc' := 25) (ls' := [some (.inl (some 43)), some (zi xw), some (zi xk), some (zi xa), some (zi xb)]) (st' := [.inl (some 43)]) (by decide +kernel) (fun k q => by cases q) rfl ?_
  refine y_get (j := 21) (len := 3) (r := (1, 3, 2, 340)) (by decide +kernel) hg3209 (tv43 hg3209) aw43 rfl rfl (g_rU (f := 3) (T2 := 47) hg3209 (tv43 hg3209) aw43 rfl (by decide)) ?_
  refine y_same (i := .iload_n 1) (len := 1) (r := (0, 0, 0, 0)) (pc' := 29) (ls' := [some (.inl (some 43)), some (zi xw), some (zi xk), some (zi xa), some (zi xb)]) (st' := [zi xw, .inl (some 47)]) (by decide +kernel) (fun k q => by cases q) rfl ?_
  refine y_same (i := .iload 4) (len := 2) (r := (0, 0, 0, 0)) (pc' := 31) (ls' := [some (.inl (some 43)), some (zi xw), some (zi xk), some (zi xa), some (zi xb)]) (st' := [zi xb, zi xw, .inl (some 47)]) (by decide +kernel) (fun k q => by cases q) rfl ?_
  refine y_ias (i := w) (len := 1) (r := (0, 0, 0, 0)) (by decide +kernel) hg3209 (tv47 hg3209) aw47 rfl (by omega) (by omega) (sr1 (by omega)) (qin_full _).1 (qin_full _).2 (fun h3210 hg3210 hl3210 hs3210 ho3210 => ?_)
  refine y_rV (len := 1) (r := (0, 0, 0, 0)) (nL := 5) (n9 := 5) (hs := []) (by decide +kernel) rfl ?_
  have hv3211 := (ho3209 45 w (Or.inl (by omega))).trans hs3208
  have hv3212 := (ho3210 45 w (Or.inl (by omega))).trans hv3211
  have hv3213 := (ho3210 46 w (Or.inl (by omega))).trans hs3209
  refine ⟨hg3210, ⟨fun v h1 h2 => ?_, ci_up hp.2 (((ho3210 43 6 (by omega)).trans ((ho3209 43 6 (by omega)).trans (ho3208 43 6 (by omega)))))⟩, fun k j hC => ((ho3210 k j (by omega)).trans ((ho3209 k j (by omega)).trans (ho3208 k j (by omega))))⟩
  show kC_ h3210 v (if v = w then k else H.1 v) ∧ ((if v = w then k else H.1 v) ≠ -1 → ci_ h3210 46 v (if v = w then a else H.2.1 v) ∧ ci_ h3210 47 v (if v = w then b else H.2.2.1 v))
  by_cases q : v = w
  · subst q
    rw [if_pos rfl, if_pos rfl, if_pos rfl]
    exact ⟨⟨_, hv3212, exk⟩, fun _ => ⟨⟨_, hv3213, exa⟩, ⟨_, hs3210, exb⟩⟩⟩
  · rw [if_neg q, if_neg q, if_neg q]
    obtain ⟨c1, c2⟩ := hp.1 v h1 h2
    exact ⟨kC_up c1 (((ho3210 45 v (by omega)).trans ((ho3209 45 v (by omega)).trans (ho3208 45 v (by omega))))), fun q9 => ⟨ci_up (c2 q9).1 (((ho3210 46 v (by omega)).trans ((ho3209 46 v (by omega)).trans (ho3208 46 v (by omega))))), ci_up (c2 q9).2 (((ho3210 47 v (by omega)).trans ((ho3209 47 v (by omega)).trans (ho3208 47 v (by omega)))))⟩⟩
theorem e_newp {d t : Nat} {τ : List Nat} {h : zh} {H : hpT} (hg : hG τ h) (hp : hpC h H) (ht9 : H.2.2.2 < 10) : qI (d + 1) 14 [some (.inl (some 43))] h t (fun y h1 => hG τ h1 ∧ y.toInt = ((H.2.2.2 + 1 : Nat) : Int) ∧ hpC h1 (new1 H) ∧ ∀ k j, (k ≠ 43 ∨ j ≠ 6) → hsl h1 k j = hsl h k j) := by
  obtain ⟨xt, ht, et⟩ := hp.2
  refine qI_of ?_
  refine y_same (i := .aload_n 0) (len := 1) (r := (0, 0, 0, 0)) (pc' := 1) (ls' := [some (.inl (some 43))]) (st' := [.inl (some 43)]) (by decide +kernel) (fun k q => by cases q) rfl ?_
  refine y_get (j := 31) (len := 3) (r := (1, 6, 0, 343)) (by decide +kernel) hg (tv43 hg) aw43 rfl rfl ht ?_
  refine y_bi (c := 10) (len := 2) (r := (0, 0, 0, 0)) (by decide +kernel) (by decide) (fun y3214 hy3214 => ?_)
  refine y_cF (c := .ge) (off := 13) (len := 3) (r := (0, 0, 0, 0)) (by decide +kernel) (acmpF (c := .ge) (by show _ < _; omega)) ?_
  refine y_same (i := .aload_n 0) (len := 1) (r := (0, 0, 0, 0)) (pc' := 10) (ls' := [some (.inl (some 43))]) (st' := [.inl (some 43)]) (by decide +kernel) (fun k q => by cases q) rfl ?_
  refine y_same (i := .dup) (len := 1) (r := (0, 0, 0, 0)) (pc' := 11) (ls' := [some (.inl (some 43))]) (st' := [.inl (some 43), .inl (some 43)]) (by decide +kernel) (fun k q => by cases q) rfl ?_
  refine y_get (j := 31) (len := 3) (r := (1, 6, 0, 343)) (by decide +kernel) hg (tv43 hg) aw43 rfl rfl ht ?_
  refine y_ic (c := 1) (len := 1) (r := (0, 0, 0, 0)) (by decide +kernel) (by decide) (fun y3215 hy3215 => ?_)
  refine y_add (len := 1) (r := (0, 0, 0, 0)) (by decide +kernel) (by omega) (by omega) (fun y3216 hy3216 => ?_)
  refine y_put (j := 31) (lo := (-2147483648)) (hi := 2147483647) (len := 3) (r := (1, 6, 0, 343)) (by decide +kernel) hg (tv43 hg) aw43 rfl rfl (by decide) rfl (qin_full _).1 (qin_full _).2 rfl (fun h3217 hg3217 hl3217 hs3217 ho3217 => ?_)
  have ho3217 : hO 43 6 h h3217 := ho3217
  have hs3217 : hsl h3217 43 6 = some (zi y3216) := hs3217
  refine y_same (i := .aload_n 0) (len := 1) (r := (0, 0, 0, 0)) (pc' := 20) (ls' := [some (.inl (some 43))]) (st' := [.inl (some 43)]) (by decide +kernel) (fun k q => by cases q) rfl ?_
  refine y_get (j := 31) (len := 3) (r := (1, 6, 0, 343)) (by decide +kernel) hg3217 (tv43 hg3217) aw43 rfl rfl hs3217 ?_
  refine y_rI (len := 1) (r := (0, 0, 0, 0)) (nL := 1) (k := 1) (n9 := 1) (hs := []) (by decide +kernel) rfl rfl ?_
  refine ⟨hg3217, by omega, ⟨fun w h1 h2 => ?_, ⟨_, hs3217, by show _ = ((H.2.2.2 + 1 : Nat) : Int); omega⟩⟩, fun k j hC => (ho3217 k j (by omega))⟩
  obtain ⟨c1, c2⟩ := hp.1 w h1 h2
  exact ⟨kC_up c1 ((ho3217 45 w (by omega))), fun q9 => ⟨ci_up (c2 q9).1 ((ho3217 46 w (by omega))), ci_up (c2 q9).2 ((ho3217 47 w (by omega)))⟩⟩
theorem e_bl {d t x y n : Nat} {τ : List Nat} {h : zh} {H : hpT} {xx xy xn : Int32} (hg : hG τ h) (hp : hpC h H) (exx : xx.toInt = (x : Int)) (exy : xy.toInt = (y : Int)) (exn : xn.toInt = (n : Int)) (hn : n ≤ 2) (hx : n ≠ 0 → 1 ≤ x ∧ x ≤ 10) (ht : H.2.2.2 < 10) : qV (d + 2) 128 [some (.inl (some 42)), some (zi xx), some (zi xy), some (zi xn), none] h t (fun h1 => hG τ h1 ∧ hpC h1 (if n = 0 then H else if n = 1 then put1 H x 0 y 0 else put1 (put1 (new1 H) x 0 (H.2.2.2 + 1) 0) (H.2.2.2 + 1) 0 y 0) ∧ ∀ k j, (k ≠ 45 ∧ k ≠ 46 ∧ k ≠ 47 ∧ (k ≠ 43 ∨ j ≠ 6)) → hsl h1 k j = hsl h k j) := by
  refine qV_of ?_
  rcases (show n = 0 ∨ n = 1 ∨ n = 2 by omega) with e0 | e1 | e2
  · subst e0
    refine y_same (i := .iload_n 3) (len := 1) (r := (0, 0, 0, 0)) (pc' := 1) (ls' := [some (.inl (some 42)), some (zi xx), some (zi xy), some (zi xn), none]) (st' := [zi xn]) (by decide +kernel) (fun k q => by cases q) rfl ?_
    refine y_ic (c := 1) (len := 1) (r := (0, 0, 0, 0)) (by decide +kernel) (by decide) (fun y3218 hy3218 => ?_)
    refine y_cT (c := .ne) (off := 17) (pc' := 19) (len := 3) (r := (0, 0, 0, 0)) (by decide +kernel) (acmpT (c := .ne) (by show ¬ (_ = _); omega)) (by decide +kernel) ?_
    refine y_same (i := .iload_n 3) (len := 1) (r := (0, 0, 0, 0)) (pc' := 20) (ls' := [some (.inl (some 42)), some (zi xx), some (zi xy), some (zi xn), none]) (st' := [zi xn]) (by decide +kernel) (fun k q => by cases q) rfl ?_
    refine y_ic (c := 2) (len := 1) (r := (0, 0, 0, 0)) (by decide +kernel) (by decide) (fun y3219 hy3219 => ?_)
    refine y_cT (c := .ne) (off := 36) (pc' := 57) (len := 3) (r := (0, 0, 0, 0)) (by decide +kernel) (acmpT (c := .ne) (by show ¬ (_ = _); omega)) (by decide +kernel) ?_
    refine y_rV (len := 1) (r := (0, 0, 0, 0)) (nL := 5) (n9 := 4) (hs := []) (by decide +kernel) rfl ?_
    exact ⟨hg, hp, fun k j hC => rfl⟩
  · subst e1
    refine y_same (i := .iload_n 3) (len := 1) (r := (0, 0, 0, 0)) (pc' := 1) (ls' := [some (.inl (some 42)), some (zi xx), some (zi xy), some (zi xn), none]) (st' := [zi xn]) (by decide +kernel) (fun k q => by cases q) rfl ?_
    refine y_ic (c := 1) (len := 1) (r := (0, 0, 0, 0)) (by decide +kernel) (by decide) (fun y3220 hy3220 => ?_)
    refine y_cF (c := .ne) (off := 17) (len := 3) (r := (0, 0, 0, 0)) (by decide +kernel) (acmpF (c := .ne) (by show _ = _; omega)) ?_
    refine y_same (i := .aload_n 0) (len := 1) (r := (0, 0, 0, 0)) (pc' := 6) (ls' := [some (.inl (some 42)), some (zi xx), some (zi xy), some (zi xn), none]) (st' := [.inl (some 42)]) (by decide +kernel) (fun k q => by cases q) rfl ?_
    refine y_get (j := 12) (len := 3) (r := (10, 0, 2, 359)) (by decide +kernel) hg (tv42 hg) aw42 rfl rfl (g_rU (f := 0) (T2 := 43) hg (tv42 hg) aw42 rfl (by decide)) ?_
    refine y_same (i := .iload_n 1) (len := 1) (r := (0, 0, 0, 0)) (pc' := 10) (ls' := [some (.inl (some 42)), some (zi xx), some (zi xy), some (zi xn), none]) (st' := [zi xx, .inl (some 43)]) (by decide +kernel) (fun k q => by cases q) rfl ?_
    refine y_ic (c := 0) (len := 1) (r := (0, 0, 0, 0)) (by decide +kernel) (by decide) (fun y3221 hy3221 => ?_)
    refine y_same (i := .iload_n 2) (len := 1) (r := (0, 0, 0, 0)) (pc' := 12) (ls' := [some (.inl (some 42)), some (zi xx), some (zi xy), some (zi xn), none]) (st' := [zi xy, zi y3221, zi xx, .inl (some 43)]) (by decide +kernel) (fun k q => by cases q) rfl ?_
    refine y_ic (c := 0) (len := 1) (r := (0, 0, 0, 0)) (by decide +kernel) (by decide) (fun y3222 hy3222 => ?_)
    refine y_cV (i := .invokevirtual 152) (len := 3) (r := (0, 15, 1, 1239)) (nL := 5) (k := 0) (n := 5) (hs := []) (args := [.inl (some 43), zi xx, zi y3221, zi xy, zi y3222]) (rest := []) (l0 := [some (.inl (some 43)), some (zi xx), some (zi y3221), some (zi xy), some (zi y3222)]) (by decide +kernel) (Or.inr (Or.inl ⟨_, rfl⟩)) rfl rfl rfl rfl (Nat.le_of_ble_eq_true rfl) (zO hg (tv43 hg) aw43 rfl) rfl (qV_le (by omega) (e_put (d := 0) (w := x) (k := 0) (a := y) (b := 0) (H := H) hg hp (by omega) (by omega) (by omega) (by omega) (by omega) (by omega))) (fun h3223 hR3223 => ?_)
    obtain ⟨hg3223, hp3223, F3223⟩ := hR3223
    refine y_goto (off := 41) (pc' := 57) (len := 3) (r := (0, 0, 0, 0)) (by decide +kernel) (by decide +kernel) ?_
    refine y_rV (len := 1) (r := (0, 0, 0, 0)) (nL := 5) (n9 := 4) (hs := []) (by decide +kernel) rfl ?_
    exact ⟨hg3223, hp3223, fun k j hC => (F3223 k j (by omega))⟩
  · subst e2
    refine y_same (i := .iload_n 3) (len := 1) (r := (0, 0, 0, 0)) (pc' := 1) (ls' := [some (.inl (some 42)), some (zi xx), some (zi xy), some (zi xn), none]) (st' := [zi xn]) (by decide +kernel) (fun k q => by cases q) rfl ?_
    refine y_ic (c := 1) (len := 1) (r := (0, 0, 0, 0)) (by decide +kernel) (by decide) (fun y3224 hy3224 => ?_)
    refine y_cT (c := .ne) (off := 17) (pc' := 19) (len := 3) (r := (0, 0, 0, 0)) (by decide +kernel) (acmpT (c := .ne) (by show ¬ (_ = _); omega)) (by decide +kernel) ?_
    refine y_same (i := .iload_n 3) (len := 1) (r := (0, 0, 0, 0)) (pc' := 20) (ls' := [some (.inl (some 42)), some (zi xx), some (zi xy), some (zi xn), none]) (st' := [zi xn]) (by decide +kernel) (fun k q => by cases q) rfl ?_
    refine y_ic (c := 2) (len := 1) (r := (0, 0, 0, 0)) (by decide +kernel) (by decide) (fun y3225 hy3225 => ?_)
    refine y_cF (c := .ne) (off := 36) (len := 3) (r := (0, 0, 0, 0)) (by decide +kernel) (acmpF (c := .ne) (by show _ = _; omega)) ?_
    refine y_same (i := .aload_n 0) (len := 1) (r := (0, 0, 0, 0)) (pc' := 25) (ls' := [some (.inl (some 42)), some (zi xx), some (zi xy), some (zi xn), none]) (st' := [.inl (some 42)]) (by decide +kernel) (fun k q => by cases q) rfl ?_
    refine y_get (j := 12) (len := 3) (r := (10, 0, 2, 359)) (by decide +kernel) hg (tv42 hg) aw42 rfl rfl (g_rU (f := 0) (T2 := 43) hg (tv42 hg) aw42 rfl (by decide)) ?_
    refine y_cI (i := .invokevirtual 163) (len := 3) (r := (0, 14, 1, 1247)) (nL := 1) (k := 1) (n := 1) (hs := []) (args := [.inl (some 43)]) (rest := []) (l0 := [some (.inl (some 43))]) (by decide +kernel) (Or.inr (Or.inl ⟨_, rfl⟩)) rfl rfl rfl rfl (Nat.le_of_ble_eq_true rfl) (zO hg (tv43 hg) aw43 rfl) rfl (qI_le (by omega) (e_newp (d := 0) (H := H) hg hp (by omega))) (fun y3226 h3226 hRy3226 => ?_)
    obtain ⟨hg3226, ey3226, hp3226, F3226⟩ := hRy3226
    refine y_same (i := .istore 4) (len := 2) (r := (0, 0, 0, 0)) (pc' := 33) (ls' := [some (.inl (some 42)), some (zi xx), some (zi xy), some (zi xn), some (zi y3226)]) (st' := []) (by decide +kernel) (fun k q => by cases q) rfl ?_
    refine y_same (i := .aload_n 0) (len := 1) (r := (0, 0, 0, 0)) (pc' := 34) (ls' := [some (.inl (some 42)), some (zi xx), some (zi xy), some (zi xn), some (zi y3226)]) (st' := [.inl (some 42)]) (by decide +kernel) (fun k q => by cases q) rfl ?_
    refine y_get (j := 12) (len := 3) (r := (10, 0, 2, 359)) (by decide +kernel) hg3226 (tv42 hg3226) aw42 rfl rfl (g_rU (f := 0) (T2 := 43) hg3226 (tv42 hg3226) aw42 rfl (by decide)) ?_
    refine y_same (i := .iload_n 1) (len := 1) (r := (0, 0, 0, 0)) (pc' := 38) (ls' := [some (.inl (some 42)), some (zi xx), some (zi xy), some (zi xn), some (zi y3226)]) (st' := [zi xx, .inl (some 43)]) (by decide +kernel) (fun k q => by cases q) rfl ?_
    refine y_ic (c := 0) (len := 1) (r := (0, 0, 0, 0)) (by decide +kernel) (by decide) (fun y3227 hy3227 => ?_)
    refine y_same (i := .iload 4) (len := 2) (r := (0, 0, 0, 0)) (pc' := 41) (ls' := [some (.inl (some 42)), some (zi xx), some (zi xy), some (zi xn), some (zi y3226)]) (st' := [zi y3226, zi y3227, zi xx, .inl (some 43)]) (by decide +kernel) (fun k q => by cases q) rfl ?_
    refine y_ic (c := 0) (len := 1) (r := (0, 0, 0, 0)) (by decide +kernel) (by decide) (fun y3228 hy3228 => ?_)
    refine y_cV (i := .invokevirtual 152) (len := 3) (r := (0, 15, 1, 1239)) (nL := 5) (k := 0) (n := 5) (hs := []) (args := [.inl (some 43), zi xx, zi y3227, zi y3226, zi y3228]) (rest := []) (l0 := [some (.inl (some 43)), some (zi xx), some (zi y3227), some (zi y3226), some (zi y3228)]) (by decide +kernel) (Or.inr (Or.inl ⟨_, rfl⟩)) rfl rfl rfl rfl (Nat.le_of_ble_eq_true rfl) (zO hg3226 (tv43 hg3226) aw43 rfl) rfl (qV_le (by omega) (e_put (d := 0) (w := x) (k := 0) (a := (H.2.2.2 + 1)) (b := 0) (H := (new1 H)) hg3226 hp3226 (by omega) (by omega) (by omega) (by omega) (by omega) (by omega))) (fun h3229 hR3229 => ?_)
    obtain ⟨hg3229, hp3229, F3229⟩ := hR3229
    refine y_same (i := .aload_n 0) (len := 1) (r := (0, 0, 0, 0)) (pc' := 46) (ls' := [some (.inl (some 42)), some (zi xx), some (zi xy), some (zi xn), some (zi y3226)]) (st' := [.inl (some 42)]) (by decide +kernel) (fun k q => by cases q) rfl ?_
    refine y_get (j := 12) (len := 3) (r := (10, 0, 2, 359)) (by decide +kernel) hg3229 (tv42 hg3229) aw42 rfl rfl (g_rU (f := 0) (T2 := 43) hg3229 (tv42 hg3229) aw42 rfl (by decide)) ?_
    refine y_same (i := .iload 4) (len := 2) (r := (0, 0, 0, 0)) (pc' := 51) (ls' := [some (.inl (some 42)), some (zi xx), some (zi xy), some (zi xn), some (zi y3226)]) (st' := [zi y3226, .inl (some 43)]) (by decide +kernel) (fun k q => by cases q) rfl ?_
    refine y_ic (c := 0) (len := 1) (r := (0, 0, 0, 0)) (by decide +kernel) (by decide) (fun y3230 hy3230 => ?_)
    refine y_same (i := .iload_n 2) (len := 1) (r := (0, 0, 0, 0)) (pc' := 53) (ls' := [some (.inl (some 42)), some (zi xx), some (zi xy), some (zi xn), some (zi y3226)]) (st' := [zi xy, zi y3230, zi y3226, .inl (some 43)]) (by decide +kernel) (fun k q => by cases q) rfl ?_
    refine y_ic (c := 0) (len := 1) (r := (0, 0, 0, 0)) (by decide +kernel) (by decide) (fun y3231 hy3231 => ?_)
    refine y_cV (i := .invokevirtual 152) (len := 3) (r := (0, 15, 1, 1239)) (nL := 5) (k := 0) (n := 5) (hs := []) (args := [.inl (some 43), zi y3226, zi y3230, zi xy, zi y3231]) (rest := []) (l0 := [some (.inl (some 43)), some (zi y3226), some (zi y3230), some (zi xy), some (zi y3231)]) (by decide +kernel) (Or.inr (Or.inl ⟨_, rfl⟩)) rfl rfl rfl rfl (Nat.le_of_ble_eq_true rfl) (zO hg3229 (tv43 hg3229) aw43 rfl) rfl (qV_le (by omega) (e_put (d := 0) (w := (H.2.2.2 + 1)) (k := 0) (a := y) (b := 0) (H := (put1 (new1 H) x 0 (H.2.2.2 + 1) 0)) hg3229 hp3229 (by omega) (by omega) (by omega) (by omega) (by omega) (by omega))) (fun h3232 hR3232 => ?_)
    obtain ⟨hg3232, hp3232, F3232⟩ := hR3232
    refine y_rV (len := 1) (r := (0, 0, 0, 0)) (nL := 5) (n9 := 4) (hs := []) (by decide +kernel) rfl ?_
    exact ⟨hg3232, hp3232, fun k j hC => ((F3232 k j (by omega)).trans ((F3229 k j (by omega)).trans (F3226 k j (by omega))))⟩
theorem e_bt {d t x y n : Nat} {τ : List Nat} {h : zh} {H : hpT} {xx xy xn : Int32} (hg : hG τ h) (hp : hpC h H) (exx : xx.toInt = (x : Int)) (exy : xy.toInt = (y : Int)) (exn : xn.toInt = (n : Int)) (hn : n ≤ 3) (hx : n ≠ 0 → 1 ≤ x ∧ x ≤ 10) (ht : H.2.2.2 < 10) : qV (d + 2) 129 [some (.inl (some 42)), some (zi xx), some (zi xn), none] h t (fun h1 => hG τ h1 ∧ hpC h1 (if n = 0 then H else if n = 1 then put1 H x 1 0 0 else put1 (put1 (new1 H) x 1 (if n = 2 then H.2.2.2 + 1 else 0) (if n = 2 then 0 else H.2.2.2 + 1)) (H.2.2.2 + 1) 1 0 0) ∧ ∀ k j, (k ≠ 45 ∧ k ≠ 46 ∧ k ≠ 47 ∧ (k ≠ 43 ∨ j ≠ 6)) → hsl h1 k j = hsl h k j) := by
  refine qV_of ?_
  rcases (show n = 0 ∨ n = 1 ∨ n = 2 ∨ n = 3 by omega) with e0 | e1 | e2 | e3
  · subst e0
    refine y_same (i := .iload_n 2) (len := 1) (r := (0, 0, 0, 0)) (pc' := 1) (ls' := [some (.inl (some 42)), some (zi xx), some (zi xn), none]) (st' := [zi xn]) (by decide +kernel) (fun k q => by cases q) rfl ?_
    refine y_ic (c := 1) (len := 1) (r := (0, 0, 0, 0)) (by decide +kernel) (by decide) (fun y3233 hy3233 => ?_)
    refine y_cT (c := .ne) (off := 17) (pc' := 19) (len := 3) (r := (0, 0, 0, 0)) (by decide +kernel) (acmpT (c := .ne) (by show ¬ (_ = _); omega)) (by decide +kernel) ?_
    refine y_same (i := .iload_n 2) (len := 1) (r := (0, 0, 0, 0)) (pc' := 20) (ls' := [some (.inl (some 42)), some (zi xx), some (zi xn), none]) (st' := [zi xn]) (by decide +kernel) (fun k q => by cases q) rfl ?_
    refine y_ic (c := 1) (len := 1) (r := (0, 0, 0, 0)) (by decide +kernel) (by decide) (fun y3234 hy3234 => ?_)
    refine y_cT (c := .le) (off := 51) (pc' := 72) (len := 3) (r := (0, 0, 0, 0)) (by decide +kernel) (acmpT (c := .le) (by show _ ≤ _; omega)) (by decide +kernel) ?_
    refine y_rV (len := 1) (r := (0, 0, 0, 0)) (nL := 4) (n9 := 3) (hs := []) (by decide +kernel) rfl ?_
    exact ⟨hg, hp, fun k j hC => rfl⟩
  · subst e1
    refine y_same (i := .iload_n 2) (len := 1) (r := (0, 0, 0, 0)) (pc' := 1) (ls' := [some (.inl (some 42)), some (zi xx), some (zi xn), none]) (st' := [zi xn]) (by decide +kernel) (fun k q => by cases q) rfl ?_
    refine y_ic (c := 1) (len := 1) (r := (0, 0, 0, 0)) (by decide +kernel) (by decide) (fun y3235 hy3235 => ?_)
    refine y_cF (c := .ne) (off := 17) (len := 3) (r := (0, 0, 0, 0)) (by decide +kernel) (acmpF (c := .ne) (by show _ = _; omega)) ?_
    refine y_same (i := .aload_n 0) (len := 1) (r := (0, 0, 0, 0)) (pc' := 6) (ls' := [some (.inl (some 42)), some (zi xx), some (zi xn), none]) (st' := [.inl (some 42)]) (by decide +kernel) (fun k q => by cases q) rfl ?_
    refine y_get (j := 12) (len := 3) (r := (10, 0, 2, 359)) (by decide +kernel) hg (tv42 hg) aw42 rfl rfl (g_rU (f := 0) (T2 := 43) hg (tv42 hg) aw42 rfl (by decide)) ?_
    refine y_same (i := .iload_n 1) (len := 1) (r := (0, 0, 0, 0)) (pc' := 10) (ls' := [some (.inl (some 42)), some (zi xx), some (zi xn), none]) (st' := [zi xx, .inl (some 43)]) (by decide +kernel) (fun k q => by cases q) rfl ?_
    refine y_ic (c := 1) (len := 1) (r := (0, 0, 0, 0)) (by decide +kernel) (by decide) (fun y3236 hy3236 => ?_)
    refine y_ic (c := 0) (len := 1) (r := (0, 0, 0, 0)) (by decide +kernel) (by decide) (fun y3237 hy3237 => ?_)
    refine y_ic (c := 0) (len := 1) (r := (0, 0, 0, 0)) (by decide +kernel) (by decide) (fun y3238 hy3238 => ?_)
    refine y_cV (i := .invokevirtual 152) (len := 3) (r := (0, 15, 1, 1239)) (nL := 5) (k := 0) (n := 5) (hs := []) (args := [.inl (some 43), zi xx, zi y3236, zi y3237, zi y3238]) (rest := []) (l0 := [some (.inl (some 43)), some (zi xx), some (zi y3236), some (zi y3237), some (zi y3238)]) (by decide +kernel) (Or.inr (Or.inl ⟨_, rfl⟩)) rfl rfl rfl rfl (Nat.le_of_ble_eq_true rfl) (zO hg (tv43 hg) aw43 rfl) rfl (qV_le (by omega) (e_put (d := 0) (w := x) (k := 1) (a := 0) (b := 0) (H := H) hg hp (by omega) (by omega) (by omega) (by omega) (by omega) (by omega))) (fun h3239 hR3239 => ?_)
    obtain ⟨hg3239, hp3239, F3239⟩ := hR3239
    refine y_goto (off := 56) (pc' := 72) (len := 3) (r := (0, 0, 0, 0)) (by decide +kernel) (by decide +kernel) ?_
    refine y_rV (len := 1) (r := (0, 0, 0, 0)) (nL := 4) (n9 := 3) (hs := []) (by decide +kernel) rfl ?_
    exact ⟨hg3239, hp3239, fun k j hC => (F3239 k j (by omega))⟩
  · subst e2
    refine y_same (i := .iload_n 2) (len := 1) (r := (0, 0, 0, 0)) (pc' := 1) (ls' := [some (.inl (some 42)), some (zi xx), some (zi xn), none]) (st' := [zi xn]) (by decide +kernel) (fun k q => by cases q) rfl ?_
    refine y_ic (c := 1) (len := 1) (r := (0, 0, 0, 0)) (by decide +kernel) (by decide) (fun y3240 hy3240 => ?_)
    refine y_cT (c := .ne) (off := 17) (pc' := 19) (len := 3) (r := (0, 0, 0, 0)) (by decide +kernel) (acmpT (c := .ne) (by show ¬ (_ = _); omega)) (by decide +kernel) ?_
    refine y_same (i := .iload_n 2) (len := 1) (r := (0, 0, 0, 0)) (pc' := 20) (ls' := [some (.inl (some 42)), some (zi xx), some (zi xn), none]) (st' := [zi xn]) (by decide +kernel) (fun k q => by cases q) rfl ?_
    refine y_ic (c := 1) (len := 1) (r := (0, 0, 0, 0)) (by decide +kernel) (by decide) (fun y3241 hy3241 => ?_)
    refine y_cF (c := .le) (off := 51) (len := 3) (r := (0, 0, 0, 0)) (by decide +kernel) (acmpF (c := .le) (by show _ < _; omega)) ?_
    refine y_same (i := .aload_n 0) (len := 1) (r := (0, 0, 0, 0)) (pc' := 25) (ls' := [some (.inl (some 42)), some (zi xx), some (zi xn), none]) (st' := [.inl (some 42)]) (by decide +kernel) (fun k q => by cases q) rfl ?_
    refine y_get (j := 12) (len := 3) (r := (10, 0, 2, 359)) (by decide +kernel) hg (tv42 hg) aw42 rfl rfl (g_rU (f := 0) (T2 := 43) hg (tv42 hg) aw42 rfl (by decide)) ?_
    refine y_cI (i := .invokevirtual 163) (len := 3) (r := (0, 14, 1, 1247)) (nL := 1) (k := 1) (n := 1) (hs := []) (args := [.inl (some 43)]) (rest := []) (l0 := [some (.inl (some 43))]) (by decide +kernel) (Or.inr (Or.inl ⟨_, rfl⟩)) rfl rfl rfl rfl (Nat.le_of_ble_eq_true rfl) (zO hg (tv43 hg) aw43 rfl) rfl (qI_le (by omega) (e_newp (d := 0) (H := H) hg hp (by omega))) (fun y3242 h3242 hRy3242 => ?_)
    obtain ⟨hg3242, ey3242, hp3242, F3242⟩ := hRy3242
    refine y_same (i := .istore_n 3) (len := 1) (r := (0, 0, 0, 0)) (pc' := 32) (ls' := [some (.inl (some 42)), some (zi xx), some (zi xn), some (zi y3242)]) (st' := []) (by decide +kernel) (fun k q => by cases q) rfl ?_
    refine y_same (i := .aload_n 0) (len := 1) (r := (0, 0, 0, 0)) (pc' := 33) (ls' := [some (.inl (some 42)), some (zi xx), some (zi xn), some (zi y3242)]) (st' := [.inl (some 42)]) (by decide +kernel) (fun k q => by cases q) rfl ?_
    refine y_get (j := 12) (len := 3) (r := (10, 0, 2, 359)) (by decide +kernel) hg3242 (tv42 hg3242) aw42 rfl rfl (g_rU (f := 0) (T2 := 43) hg3242 (tv42 hg3242) aw42 rfl (by decide)) ?_
    refine y_same (i := .iload_n 1) (len := 1) (r := (0, 0, 0, 0)) (pc' := 37) (ls' := [some (.inl (some 42)), some (zi xx), some (zi xn), some (zi y3242)]) (st' := [zi xx, .inl (some 43)]) (by decide +kernel) (fun k q => by cases q) rfl ?_
    refine y_ic (c := 1) (len := 1) (r := (0, 0, 0, 0)) (by decide +kernel) (by decide) (fun y3243 hy3243 => ?_)
    refine y_same (i := .iload_n 2) (len := 1) (r := (0, 0, 0, 0)) (pc' := 39) (ls' := [some (.inl (some 42)), some (zi xx), some (zi xn), some (zi y3242)]) (st' := [zi xn, zi y3243, zi xx, .inl (some 43)]) (by decide +kernel) (fun k q => by cases q) rfl ?_
    refine y_ic (c := 2) (len := 1) (r := (0, 0, 0, 0)) (by decide +kernel) (by decide) (fun y3244 hy3244 => ?_)
    refine y_cF (c := .ne) (off := 7) (len := 3) (r := (0, 0, 0, 0)) (by decide +kernel) (acmpF (c := .ne) (by show _ = _; omega)) ?_
    refine y_same (i := .iload_n 3) (len := 1) (r := (0, 0, 0, 0)) (pc' := 44) (ls' := [some (.inl (some 42)), some (zi xx), some (zi xn), some (zi y3242)]) (st' := [zi y3242, zi y3243, zi xx, .inl (some 43)]) (by decide +kernel) (fun k q => by cases q) rfl ?_
    refine y_goto (off := 4) (pc' := 48) (len := 3) (r := (0, 0, 0, 0)) (by decide +kernel) (by decide +kernel) ?_
    refine y_same (i := .iload_n 2) (len := 1) (r := (0, 0, 0, 0)) (pc' := 49) (ls' := [some (.inl (some 42)), some (zi xx), some (zi xn), some (zi y3242)]) (st' := [zi xn, zi y3242, zi y3243, zi xx, .inl (some 43)]) (by decide +kernel) (fun k q => by cases q) rfl ?_
    refine y_ic (c := 2) (len := 1) (r := (0, 0, 0, 0)) (by decide +kernel) (by decide) (fun y3245 hy3245 => ?_)
    refine y_cF (c := .ne) (off := 7) (len := 3) (r := (0, 0, 0, 0)) (by decide +kernel) (acmpF (c := .ne) (by show _ = _; omega)) ?_
    refine y_ic (c := 0) (len := 1) (r := (0, 0, 0, 0)) (by decide +kernel) (by decide) (fun y3246 hy3246 => ?_)
    refine y_goto (off := 4) (pc' := 58) (len := 3) (r := (0, 0, 0, 0)) (by decide +kernel) (by decide +kernel) ?_
    refine y_cV (i := .invokevirtual 152) (len := 3) (r := (0, 15, 1, 1239)) (nL := 5) (k := 0) (n := 5) (hs := []) (args := [.inl (some 43), zi xx, zi y3243, zi y3242, zi y3246]) (rest := []) (l0 := [some (.inl (some 43)), some (zi xx), some (zi y3243), some (zi y3242), some (zi y3246)]) (by decide +kernel) (Or.inr (Or.inl ⟨_, rfl⟩)) rfl rfl rfl rfl (Nat.le_of_ble_eq_true rfl) (zO hg3242 (tv43 hg3242) aw43 rfl) rfl (qV_le (by omega) (e_put (d := 0) (w := x) (k := 1) (a := (H.2.2.2 + 1)) (b := 0) (H := (new1 H)) hg3242 hp3242 (by omega) (by omega) (by omega) (by omega) (by omega) (by omega))) (fun h3247 hR3247 => ?_)
    obtain ⟨hg3247, hp3247, F3247⟩ := hR3247
    refine y_same (i := .aload_n 0) (len := 1) (r := (0, 0, 0, 0)) (pc' := 62) (ls' := [some (.inl (some 42)), some (zi xx), some (zi xn), some (zi y3242)]) (st' := [.inl (some 42)]) (by decide +kernel) (fun k q => by cases q) rfl ?_
    refine y_get (j := 12) (len := 3) (r := (10, 0, 2, 359)) (by decide +kernel) hg3247 (tv42 hg3247) aw42 rfl rfl (g_rU (f := 0) (T2 := 43) hg3247 (tv42 hg3247) aw42 rfl (by decide)) ?_
    refine y_same (i := .iload_n 3) (len := 1) (r := (0, 0, 0, 0)) (pc' := 66) (ls' := [some (.inl (some 42)), some (zi xx), some (zi xn), some (zi y3242)]) (st' := [zi y3242, .inl (some 43)]) (by decide +kernel) (fun k q => by cases q) rfl ?_
    refine y_ic (c := 1) (len := 1) (r := (0, 0, 0, 0)) (by decide +kernel) (by decide) (fun y3248 hy3248 => ?_)
    refine y_ic (c := 0) (len := 1) (r := (0, 0, 0, 0)) (by decide +kernel) (by decide) (fun y3249 hy3249 => ?_)
    refine y_ic (c := 0) (len := 1) (r := (0, 0, 0, 0)) (by decide +kernel) (by decide) (fun y3250 hy3250 => ?_)
    refine y_cV (i := .invokevirtual 152) (len := 3) (r := (0, 15, 1, 1239)) (nL := 5) (k := 0) (n := 5) (hs := []) (args := [.inl (some 43), zi y3242, zi y3248, zi y3249, zi y3250]) (rest := []) (l0 := [some (.inl (some 43)), some (zi y3242), some (zi y3248), some (zi y3249), some (zi y3250)]) (by decide +kernel) (Or.inr (Or.inl ⟨_, rfl⟩)) rfl rfl rfl rfl (Nat.le_of_ble_eq_true rfl) (zO hg3247 (tv43 hg3247) aw43 rfl) rfl (qV_le (by omega) (e_put (d := 0) (w := (H.2.2.2 + 1)) (k := 1) (a := 0) (b := 0) (H := (put1 (new1 H) x 1 (H.2.2.2 + 1) 0)) hg3247 hp3247 (by omega) (by omega) (by omega) (by omega) (by omega) (by omega))) (fun h3251 hR3251 => ?_)
    obtain ⟨hg3251, hp3251, F3251⟩ := hR3251
    refine y_rV (len := 1) (r := (0, 0, 0, 0)) (nL := 4) (n9 := 3) (hs := []) (by decide +kernel) rfl ?_
    exact ⟨hg3251, hp3251, fun k j hC => ((F3251 k j (by omega)).trans ((F3247 k j (by omega)).trans (F3242 k j (by omega))))⟩
  · subst e3
    refine y_same (i := .iload_n 2) (len := 1) (r := (0, 0, 0, 0)) (pc' := 1) (ls' := [some (.inl (some 42)), some (zi xx), some (zi xn), none]) (st' := [zi xn]) (by decide +kernel) (fun k q => by cases q) rfl ?_
    refine y_ic (c := 1) (len := 1) (r := (0, 0, 0, 0)) (by decide +kernel) (by decide) (fun y3252 hy3252 => ?_)
    refine y_cT (c := .ne) (off := 17) (pc' := 19) (len := 3) (r := (0, 0, 0, 0)) (by decide +kernel) (acmpT (c := .ne) (by show ¬ (_ = _); omega)) (by decide +kernel) ?_
    refine y_same (i := .iload_n 2) (len := 1) (r := (0, 0, 0, 0)) (pc' := 20) (ls' := [some (.inl (some 42)), some (zi xx), some (zi xn), none]) (st' := [zi xn]) (by decide +kernel) (fun k q => by cases q) rfl ?_
    refine y_ic (c := 1) (len := 1) (r := (0, 0, 0, 0)) (by decide +kernel) (by decide) (fun y3253 hy3253 => ?_)
    refine y_cF (c := .le) (off := 51) (len := 3) (r := (0, 0, 0, 0)) (by decide +kernel) (acmpF (c := .le) (by show _ < _; omega)) ?_
    refine y_same (i := .aload_n 0) (len := 1) (r := (0, 0, 0, 0)) (pc' := 25) (ls' := [some (.inl (some 42)), some (zi xx), some (zi xn), none]) (st' := [.inl (some 42)]) (by decide +kernel) (fun k q => by cases q) rfl ?_
    refine y_get (j := 12) (len := 3) (r := (10, 0, 2, 359)) (by decide +kernel) hg (tv42 hg) aw42 rfl rfl (g_rU (f := 0) (T2 := 43) hg (tv42 hg) aw42 rfl (by decide)) ?_
    refine y_cI (i := .invokevirtual 163) (len := 3) (r := (0, 14, 1, 1247)) (nL := 1) (k := 1) (n := 1) (hs := []) (args := [.inl (some 43)]) (rest := []) (l0 := [some (.inl (some 43))]) (by decide +kernel) (Or.inr (Or.inl ⟨_, rfl⟩)) rfl rfl rfl rfl (Nat.le_of_ble_eq_true rfl) (zO hg (tv43 hg) aw43 rfl) rfl (qI_le (by omega) (e_newp (d := 0) (H := H) hg hp (by omega))) (fun y3254 h3254 hRy3254 => ?_)
    obtain ⟨hg3254, ey3254, hp3254, F3254⟩ := hRy3254
    refine y_same (i := .istore_n 3) (len := 1) (r := (0, 0, 0, 0)) (pc' := 32) (ls' := [some (.inl (some 42)), some (zi xx), some (zi xn), some (zi y3254)]) (st' := []) (by decide +kernel) (fun k q => by cases q) rfl ?_
    refine y_same (i := .aload_n 0) (len := 1) (r := (0, 0, 0, 0)) (pc' := 33) (ls' := [some (.inl (some 42)), some (zi xx), some (zi xn), some (zi y3254)]) (st' := [.inl (some 42)]) (by decide +kernel) (fun k q => by cases q) rfl ?_
    refine y_get (j := 12) (len := 3) (r := (10, 0, 2, 359)) (by decide +kernel) hg3254 (tv42 hg3254) aw42 rfl rfl (g_rU (f := 0) (T2 := 43) hg3254 (tv42 hg3254) aw42 rfl (by decide)) ?_
    refine y_same (i := .iload_n 1) (len := 1) (r := (0, 0, 0, 0)) (pc' := 37) (ls' := [some (.inl (some 42)), some (zi xx), some (zi xn), some (zi y3254)]) (st' := [zi xx, .inl (some 43)]) (by decide +kernel) (fun k q => by cases q) rfl ?_
    refine y_ic (c := 1) (len := 1) (r := (0, 0, 0, 0)) (by decide +kernel) (by decide) (fun y3255 hy3255 => ?_)
    refine y_same (i := .iload_n 2) (len := 1) (r := (0, 0, 0, 0)) (pc' := 39) (ls' := [some (.inl (some 42)), some (zi xx), some (zi xn), some (zi y3254)]) (st' := [zi xn, zi y3255, zi xx, .inl (some 43)]) (by decide +kernel) (fun k q => by cases q) rfl ?_
    refine y_ic (c := 2) (len := 1) (r := (0, 0, 0, 0)) (by decide +kernel) (by decide) (fun y3256 hy3256 => ?_)
    refine y_cT (c := .ne) (off := 7) (pc' := 47) (len := 3) (r := (0, 0, 0, 0)) (by decide +kernel) (acmpT (c := .ne) (by show ¬ (_ = _); omega)) (by decide +kernel) ?_
    refine y_ic (c := 0) (len := 1) (r := (0, 0, 0, 0)) (by decide +kernel) (by decide) (fun y3257 hy3257 => ?_)
    refine y_same (i := .iload_n 2) (len := 1) (r := (0, 0, 0, 0)) (pc' := 49) (ls' := [some (.inl (some 42)), some (zi xx), some (zi xn), some (zi y3254)]) (st' := [zi xn, zi y3257, zi y3255, zi xx, .inl (some 43)]) (by decide +kernel) (fun k q => by cases q) rfl ?_
    refine y_ic (c := 2) (len := 1) (r := (0, 0, 0, 0)) (by decide +kernel) (by decide) (fun y3258 hy3258 => ?_)
    refine y_cT (c := .ne) (off := 7) (pc' := 57) (len := 3) (r := (0, 0, 0, 0)) (by decide +kernel) (acmpT (c := .ne) (by show ¬ (_ = _); omega)) (by decide +kernel) ?_
    refine y_same (i := .iload_n 3) (len := 1) (r := (0, 0, 0, 0)) (pc' := 58) (ls' := [some (.inl (some 42)), some (zi xx), some (zi xn), some (zi y3254)]) (st' := [zi y3254, zi y3257, zi y3255, zi xx, .inl (some 43)]) (by decide +kernel) (fun k q => by cases q) rfl ?_
    refine y_cV (i := .invokevirtual 152) (len := 3) (r := (0, 15, 1, 1239)) (nL := 5) (k := 0) (n := 5) (hs := []) (args := [.inl (some 43), zi xx, zi y3255, zi y3257, zi y3254]) (rest := []) (l0 := [some (.inl (some 43)), some (zi xx), some (zi y3255), some (zi y3257), some (zi y3254)]) (by decide +kernel) (Or.inr (Or.inl ⟨_, rfl⟩)) rfl rfl rfl rfl (Nat.le_of_ble_eq_true rfl) (zO hg3254 (tv43 hg3254) aw43 rfl) rfl (qV_le (by omega) (e_put (d := 0) (w := x) (k := 1) (a := 0) (b := (H.2.2.2 + 1)) (H := (new1 H)) hg3254 hp3254 (by omega) (by omega) (by omega) (by omega) (by omega) (by omega))) (fun h3259 hR3259 => ?_)
    obtain ⟨hg3259, hp3259, F3259⟩ := hR3259
    refine y_same (i := .aload_n 0) (len := 1) (r := (0, 0, 0, 0)) (pc' := 62) (ls' := [some (.inl (some 42)), some (zi xx), some (zi xn), some (zi y3254)]) (st' := [.inl (some 42)]) (by decide +kernel) (fun k q => by cases q) rfl ?_
    refine y_get (j := 12) (len := 3) (r := (10, 0, 2, 359)) (by decide +kernel) hg3259 (tv42 hg3259) aw42 rfl rfl (g_rU (f := 0) (T2 := 43) hg3259 (tv42 hg3259) aw42 rfl (by decide)) ?_
    refine y_same (i := .iload_n 3) (len := 1) (r := (0, 0, 0, 0)) (pc' := 66) (ls' := [some (.inl (some 42)), some (zi xx), some (zi xn), some (zi y3254)]) (st' := [zi y3254, .inl (some 43)]) (by decide +kernel) (fun k q => by cases q) rfl ?_
    refine y_ic (c := 1) (len := 1) (r := (0, 0, 0, 0)) (by decide +kernel) (by decide) (fun y3260 hy3260 => ?_)
    refine y_ic (c := 0) (len := 1) (r := (0, 0, 0, 0)) (by decide +kernel) (by decide) (fun y3261 hy3261 => ?_)
    refine y_ic (c := 0) (len := 1) (r := (0, 0, 0, 0)) (by decide +kernel) (by decide) (fun y3262 hy3262 => ?_)
    refine y_cV (i := .invokevirtual 152) (len := 3) (r := (0, 15, 1, 1239)) (nL := 5) (k := 0) (n := 5) (hs := []) (args := [.inl (some 43), zi y3254, zi y3260, zi y3261, zi y3262]) (rest := []) (l0 := [some (.inl (some 43)), some (zi y3254), some (zi y3260), some (zi y3261), some (zi y3262)]) (by decide +kernel) (Or.inr (Or.inl ⟨_, rfl⟩)) rfl rfl rfl rfl (Nat.le_of_ble_eq_true rfl) (zO hg3259 (tv43 hg3259) aw43 rfl) rfl (qV_le (by omega) (e_put (d := 0) (w := (H.2.2.2 + 1)) (k := 1) (a := 0) (b := 0) (H := (put1 (new1 H) x 1 0 (H.2.2.2 + 1))) hg3259 hp3259 (by omega) (by omega) (by omega) (by omega) (by omega) (by omega))) (fun h3263 hR3263 => ?_)
    obtain ⟨hg3263, hp3263, F3263⟩ := hR3263
    refine y_rV (len := 1) (r := (0, 0, 0, 0)) (nL := 4) (n9 := 3) (hs := []) (by decide +kernel) rfl ?_
    exact ⟨hg3263, hp3263, fun k j hC => ((F3263 k j (by omega)).trans ((F3259 k j (by omega)).trans (F3254 k j (by omega))))⟩
theorem fil45_l {d t : Nat} {τ : List Nat} {h0 : zh} {xv xm : Int32} (hxm : xm.toInt = 11) : ∀ (n : Nat) (h : zh) (i : Nat) (xi : Int32), hG τ h → (∀ j, j < i → hsl h 45 j = some (zi xv)) → (∀ k j, k ≠ 45 → hsl h k j = hsl h0 k j) → xi.toInt = (i : Int) → i ≤ 11 → 11 ≤ i + n → qX d 274 5 [some (.inl (some 45)), some (zi xv), some (zi xi), some (zi xm)] [] h t (rV (fun h1 => hG τ h1 ∧ (∀ j, j < 11 → hsl h1 45 j = some (zi xv)) ∧ ∀ k j, k ≠ 45 → hsl h1 k j = hsl h0 k j) t) := by
  intro n
  induction n with
  | zero =>
    intro h i xi hg c1 c2 hxi hi hn
    refine y_same (i := .iload_n 2) (len := 1) (r := (0, 0, 0, 0)) (pc' := 6) (ls' := [some (.inl (some 45)), some (zi xv), some (zi xi), some (zi xm)]) (st' := [zi xi]) (by decide +kernel) (fun k q => by cases q) rfl ?_
    refine y_same (i := .iload_n 3) (len := 1) (r := (0, 0, 0, 0)) (pc' := 7) (ls' := [some (.inl (some 45)), some (zi xv), some (zi xi), some (zi xm)]) (st' := [zi xm, zi xi]) (by decide +kernel) (fun k q => by cases q) rfl ?_
    refine y_cT (c := .ge) (off := 13) (pc' := 20) (len := 3) (r := (0, 0, 0, 0)) (by decide +kernel) (acmpT (c := .ge) (by show _ ≤ _; omega)) (by decide +kernel) ?_
    refine y_rV (len := 1) (r := (0, 0, 0, 0)) (nL := 4) (n9 := 2) (hs := []) (by decide +kernel) rfl ?_
    exact ⟨hg, fun j hj => c1 j (by omega), c2⟩
  | succ n ih =>
    intro h i xi hg c1 c2 hxi hi hn
    rcases Nat.lt_or_ge i 11 with q | q
    ·
      refine y_same (i := .iload_n 2) (len := 1) (r := (0, 0, 0, 0)) (pc' := 6) (ls' := [some (.inl (some 45)), some (zi xv), some (zi xi), some (zi xm)]) (st' := [zi xi]) (by decide +kernel) (fun k q => by cases q) rfl ?_
      refine y_same (i := .iload_n 3) (len := 1) (r := (0, 0, 0, 0)) (pc' := 7) (ls' := [some (.inl (some 45)), some (zi xv), some (zi xi), some (zi xm)]) (st' := [zi xm, zi xi]) (by decide +kernel) (fun k q => by cases q) rfl ?_
      refine y_cF (c := .ge) (off := 13) (len := 3) (r := (0, 0, 0, 0)) (by decide +kernel) (acmpF (c := .ge) (by show _ < _; omega)) ?_
      refine y_same (i := .aload_n 0) (len := 1) (r := (0, 0, 0, 0)) (pc' := 11) (ls' := [some (.inl (some 45)), some (zi xv), some (zi xi), some (zi xm)]) (st' := [.inl (some 45)]) (by decide +kernel) (fun k q => by cases q) rfl ?_
      refine y_same (i := .iload_n 2) (len := 1) (r := (0, 0, 0, 0)) (pc' := 12) (ls' := [some (.inl (some 45)), some (zi xv), some (zi xi), some (zi xm)]) (st' := [zi xi, .inl (some 45)]) (by decide +kernel) (fun k q => by cases q) rfl ?_
      refine y_same (i := .iload_n 1) (len := 1) (r := (0, 0, 0, 0)) (pc' := 13) (ls' := [some (.inl (some 45)), some (zi xv), some (zi xi), some (zi xm)]) (st' := [zi xv, zi xi, .inl (some 45)]) (by decide +kernel) (fun k q => by cases q) rfl ?_
      refine y_ias (i := i) (len := 1) (r := (0, 0, 0, 0)) (by decide +kernel) hg (tv45 hg) aw45 rfl (by omega) (by omega) (sr1 (by omega)) (qin_full _).1 (qin_full _).2 (fun h3264 hg3264 hl3264 hs3264 ho3264 => ?_)
      refine y_inc (j := 2) (a := xi) (c := 1) (ls' := fun v => [some (.inl (some 45)), some (zi xv), some v, some (zi xm)]) (len := 3) (r := (0, 0, 0, 0)) (by decide +kernel) rfl (fun _ => rfl) (by decide) (by omega) (by omega) (fun y3265 hy3265 => ?_)
      show qX d 274 17 [some (.inl (some 45)), some (zi xv), some (zi y3265), some (zi xm)] [] h3264 t _
      refine y_goto (off := (-12)) (pc' := 5) (len := 3) (r := (0, 0, 0, 0)) (by decide +kernel) (by decide +kernel) ?_
      refine ih h3264 (i + 1) y3265 hg3264 (fun j hj => ?_) (fun k j hk => (ho3264 k j (Or.inl hk)).trans (c2 k j hk)) (by omega) (by omega) (by omega)
      rcases Nat.lt_or_ge j i with q9 | q9
      · exact (ho3264 45 j (Or.inr (by omega))).trans (c1 j q9)
      · have e9 : j = i := by omega
        subst e9
        exact hs3264
    ·
      refine y_same (i := .iload_n 2) (len := 1) (r := (0, 0, 0, 0)) (pc' := 6) (ls' := [some (.inl (some 45)), some (zi xv), some (zi xi), some (zi xm)]) (st' := [zi xi]) (by decide +kernel) (fun k q => by cases q) rfl ?_
      refine y_same (i := .iload_n 3) (len := 1) (r := (0, 0, 0, 0)) (pc' := 7) (ls' := [some (.inl (some 45)), some (zi xv), some (zi xi), some (zi xm)]) (st' := [zi xm, zi xi]) (by decide +kernel) (fun k q => by cases q) rfl ?_
      refine y_cT (c := .ge) (off := 13) (pc' := 20) (len := 3) (r := (0, 0, 0, 0)) (by decide +kernel) (acmpT (c := .ge) (by show _ ≤ _; omega)) (by decide +kernel) ?_
      refine y_rV (len := 1) (r := (0, 0, 0, 0)) (nL := 4) (n9 := 2) (hs := []) (by decide +kernel) rfl ?_
      exact ⟨hg, fun j hj => c1 j (by omega), c2⟩
theorem e_fil45 {d t : Nat} {τ : List Nat} {h : zh} {xv : Int32} (hg : hG τ h) : qV (d + 1) 274 [some (.inl (some 45)), some (zi xv), none, none] h t (fun h1 => hG τ h1 ∧ (∀ j, j < 11 → hsl h1 45 j = some (zi xv)) ∧ ∀ k j, k ≠ 45 → hsl h1 k j = hsl h k j) := by
  refine qV_of ?_
  refine y_ic (c := 0) (len := 1) (r := (0, 0, 0, 0)) (by decide +kernel) (by decide) (fun y3266 hy3266 => ?_)
  refine y_same (i := .istore_n 2) (len := 1) (r := (0, 0, 0, 0)) (pc' := 2) (ls' := [some (.inl (some 45)), some (zi xv), some (zi y3266), none]) (st' := []) (by decide +kernel) (fun k q => by cases q) rfl ?_
  refine y_same (i := .aload_n 0) (len := 1) (r := (0, 0, 0, 0)) (pc' := 3) (ls' := [some (.inl (some 45)), some (zi xv), some (zi y3266), none]) (st' := [.inl (some 45)]) (by decide +kernel) (fun k q => by cases q) rfl ?_
  refine y_aln (len := 1) (r := (0, 0, 0, 0)) (by decide +kernel) hg (tv45 hg) aw45 (by decide) (fun y3267 hy3267 => ?_)
  refine y_same (i := .istore_n 3) (len := 1) (r := (0, 0, 0, 0)) (pc' := 5) (ls' := [some (.inl (some 45)), some (zi xv), some (zi y3266), some (zi y3267)]) (st' := []) (by decide +kernel) (fun k q => by cases q) rfl ?_
  exact fil45_l (by omega) 11 h 0 y3266 hg (fun j hj => absurd hj (Nat.not_lt_zero j)) (fun k j _ => rfl) (by omega) (by omega) (by omega)
theorem fil51_l {d t : Nat} {τ : List Nat} {h0 : zh} {xv xm : Int32} (hxm : xm.toInt = 6) : ∀ (n : Nat) (h : zh) (i : Nat) (xi : Int32), hG τ h → (∀ j, j < i → hsl h 51 j = some (zi xv)) → (∀ k j, k ≠ 51 → hsl h k j = hsl h0 k j) → xi.toInt = (i : Int) → i ≤ 6 → 6 ≤ i + n → qX d 274 5 [some (.inl (some 51)), some (zi xv), some (zi xi), some (zi xm)] [] h t (rV (fun h1 => hG τ h1 ∧ (∀ j, j < 6 → hsl h1 51 j = some (zi xv)) ∧ ∀ k j, k ≠ 51 → hsl h1 k j = hsl h0 k j) t) := by
  intro n
  induction n with
  | zero =>
    intro h i xi hg c1 c2 hxi hi hn
    refine y_same (i := .iload_n 2) (len := 1) (r := (0, 0, 0, 0)) (pc' := 6) (ls' := [some (.inl (some 51)), some (zi xv), some (zi xi), some (zi xm)]) (st' := [zi xi]) (by decide +kernel) (fun k q => by cases q) rfl ?_
    refine y_same (i := .iload_n 3) (len := 1) (r := (0, 0, 0, 0)) (pc' := 7) (ls' := [some (.inl (some 51)), some (zi xv), some (zi xi), some (zi xm)]) (st' := [zi xm, zi xi]) (by decide +kernel) (fun k q => by cases q) rfl ?_
    refine y_cT (c := .ge) (off := 13) (pc' := 20) (len := 3) (r := (0, 0, 0, 0)) (by decide +kernel) (acmpT (c := .ge) (by show _ ≤ _; omega)) (by decide +kernel) ?_
    refine y_rV (len := 1) (r := (0, 0, 0, 0)) (nL := 4) (n9 := 2) (hs := []) (by decide +kernel) rfl ?_
    exact ⟨hg, fun j hj => c1 j (by omega), c2⟩
  | succ n ih =>
    intro h i xi hg c1 c2 hxi hi hn
    rcases Nat.lt_or_ge i 6 with q | q
    ·
      refine y_same (i := .iload_n 2) (len := 1) (r := (0, 0, 0, 0)) (pc' := 6) (ls' := [some (.inl (some 51)), some (zi xv), some (zi xi), some (zi xm)]) (st' := [zi xi]) (by decide +kernel) (fun k q => by cases q) rfl ?_
      refine y_same (i := .iload_n 3) (len := 1) (r := (0, 0, 0, 0)) (pc' := 7) (ls' := [some (.inl (some 51)), some (zi xv), some (zi xi), some (zi xm)]) (st' := [zi xm, zi xi]) (by decide +kernel) (fun k q => by cases q) rfl ?_
      refine y_cF (c := .ge) (off := 13) (len := 3) (r := (0, 0, 0, 0)) (by decide +kernel) (acmpF (c := .ge) (by show _ < _; omega)) ?_
      refine y_same (i := .aload_n 0) (len := 1) (r := (0, 0, 0, 0)) (pc' := 11) (ls' := [some (.inl (some 51)), some (zi xv), some (zi xi), some (zi xm)]) (st' := [.inl (some 51)]) (by decide +kernel) (fun k q => by cases q) rfl ?_
      refine y_same (i := .iload_n 2) (len := 1) (r := (0, 0, 0, 0)) (pc' := 12) (ls' := [some (.inl (some 51)), some (zi xv), some (zi xi), some (zi xm)]) (st' := [zi xi, .inl (some 51)]) (by decide +kernel) (fun k q => by cases q) rfl ?_
      refine y_same (i := .iload_n 1) (len := 1) (r := (0, 0, 0, 0)) (pc' := 13) (ls' := [some (.inl (some 51)), some (zi xv), some (zi xi), some (zi xm)]) (st' := [zi xv, zi xi, .inl (some 51)]) (by decide +kernel) (fun k q => by cases q) rfl ?_
      refine y_ias (i := i) (len := 1) (r := (0, 0, 0, 0)) (by decide +kernel) hg (tv51 hg) aw51 rfl (by omega) (by omega) (sr1 (by omega)) (qin_full _).1 (qin_full _).2 (fun h3268 hg3268 hl3268 hs3268 ho3268 => ?_)
      refine y_inc (j := 2) (a := xi) (c := 1) (ls' := fun v => [some (.inl (some 51)), some (zi xv), some v, some (zi xm)]) (len := 3) (r := (0, 0, 0, 0)) (by decide +kernel) rfl (fun _ => rfl) (by decide) (by omega) (by omega) (fun y3269 hy3269 => ?_)
      show qX d 274 17 [some (.inl (some 51)), some (zi xv), some (zi y3269), some (zi xm)] [] h3268 t _
      refine y_goto (off := (-12)) (pc' := 5) (len := 3) (r := (0, 0, 0, 0)) (by decide +kernel) (by decide +kernel) ?_
      refine ih h3268 (i + 1) y3269 hg3268 (fun j hj => ?_) (fun k j hk => (ho3268 k j (Or.inl hk)).trans (c2 k j hk)) (by omega) (by omega) (by omega)
      rcases Nat.lt_or_ge j i with q9 | q9
      · exact (ho3268 51 j (Or.inr (by omega))).trans (c1 j q9)
      · have e9 : j = i := by omega
        subst e9
        exact hs3268
    ·
      refine y_same (i := .iload_n 2) (len := 1) (r := (0, 0, 0, 0)) (pc' := 6) (ls' := [some (.inl (some 51)), some (zi xv), some (zi xi), some (zi xm)]) (st' := [zi xi]) (by decide +kernel) (fun k q => by cases q) rfl ?_
      refine y_same (i := .iload_n 3) (len := 1) (r := (0, 0, 0, 0)) (pc' := 7) (ls' := [some (.inl (some 51)), some (zi xv), some (zi xi), some (zi xm)]) (st' := [zi xm, zi xi]) (by decide +kernel) (fun k q => by cases q) rfl ?_
      refine y_cT (c := .ge) (off := 13) (pc' := 20) (len := 3) (r := (0, 0, 0, 0)) (by decide +kernel) (acmpT (c := .ge) (by show _ ≤ _; omega)) (by decide +kernel) ?_
      refine y_rV (len := 1) (r := (0, 0, 0, 0)) (nL := 4) (n9 := 2) (hs := []) (by decide +kernel) rfl ?_
      exact ⟨hg, fun j hj => c1 j (by omega), c2⟩
theorem e_fil51 {d t : Nat} {τ : List Nat} {h : zh} {xv : Int32} (hg : hG τ h) : qV (d + 1) 274 [some (.inl (some 51)), some (zi xv), none, none] h t (fun h1 => hG τ h1 ∧ (∀ j, j < 6 → hsl h1 51 j = some (zi xv)) ∧ ∀ k j, k ≠ 51 → hsl h1 k j = hsl h k j) := by
  refine qV_of ?_
  refine y_ic (c := 0) (len := 1) (r := (0, 0, 0, 0)) (by decide +kernel) (by decide) (fun y3270 hy3270 => ?_)
  refine y_same (i := .istore_n 2) (len := 1) (r := (0, 0, 0, 0)) (pc' := 2) (ls' := [some (.inl (some 51)), some (zi xv), some (zi y3270), none]) (st' := []) (by decide +kernel) (fun k q => by cases q) rfl ?_
  refine y_same (i := .aload_n 0) (len := 1) (r := (0, 0, 0, 0)) (pc' := 3) (ls' := [some (.inl (some 51)), some (zi xv), some (zi y3270), none]) (st' := [.inl (some 51)]) (by decide +kernel) (fun k q => by cases q) rfl ?_
  refine y_aln (len := 1) (r := (0, 0, 0, 0)) (by decide +kernel) hg (tv51 hg) aw51 (by decide) (fun y3271 hy3271 => ?_)
  refine y_same (i := .istore_n 3) (len := 1) (r := (0, 0, 0, 0)) (pc' := 5) (ls' := [some (.inl (some 51)), some (zi xv), some (zi y3270), some (zi y3271)]) (st' := []) (by decide +kernel) (fun k q => by cases q) rfl ?_
  exact fil51_l (by omega) 6 h 0 y3270 hg (fun j hj => absurd hj (Nat.not_lt_zero j)) (fun k j _ => rfl) (by omega) (by omega) (by omega)
theorem e_clr {d t : Nat} {τ : List Nat} {h : zh} {f : tlT} (hg : hG τ h) (vc : vC_ h f) : qV (d + 2) 13 [some (.inl (some 43)), none] h t (fun h1 => hG τ h1 ∧ hpC h1 (hp0 f) ∧ ∀ k j, (k ≠ 45 ∧ (k ≠ 43 ∨ j ≠ 6)) → hsl h1 k j = hsl h k j) := by
  obtain ⟨xv1, hv1, ev1⟩ := vc 1 (by omega)
  obtain ⟨xv2, hv2, ev2⟩ := vc 2 (by omega)
  obtain ⟨xv3, hv3, ev3⟩ := vc 3 (by omega)
  obtain ⟨xv4, hv4, ev4⟩ := vc 4 (by omega)
  obtain ⟨xv5, hv5, ev5⟩ := vc 5 (by omega)
  refine qV_of ?_
  refine y_same (i := .aload_n 0) (len := 1) (r := (0, 0, 0, 0)) (pc' := 1) (ls' := [some (.inl (some 43)), none]) (st' := [.inl (some 43)]) (by decide +kernel) (fun k q => by cases q) rfl ?_
  refine y_get (j := 15) (len := 3) (r := (1, 1, 2, 338)) (by decide +kernel) hg (tv43 hg) aw43 rfl rfl (g_rU (f := 1) (T2 := 45) hg (tv43 hg) aw43 rfl (by decide)) ?_
  refine y_ic (c := (-1)) (len := 1) (r := (0, 0, 0, 0)) (by decide +kernel) (by decide) (fun y3272 hy3272 => ?_)
  refine y_cV (i := .invokestatic 34) (len := 3) (r := (1, 274, 60, 1237)) (nL := 4) (k := 0) (n := 2) (hs := []) (args := [.inl (some 45), zi y3272]) (rest := []) (l0 := [some (.inl (some 45)), some (zi y3272), none, none]) (by decide +kernel) (Or.inl ⟨_, rfl⟩) rfl rfl rfl rfl (Nat.le_of_ble_eq_true rfl) rfl rfl (qV_le (by omega) (e_fil45 (d := 0) hg)) (fun h3273 hR3273 => ?_)
  obtain ⟨hg3273, c3273, F3273⟩ := hR3273
  refine y_same (i := .aload_n 0) (len := 1) (r := (0, 0, 0, 0)) (pc' := 9) (ls' := [some (.inl (some 43)), none]) (st' := [.inl (some 43)]) (by decide +kernel) (fun k q => by cases q) rfl ?_
  refine y_ic (c := 0) (len := 1) (r := (0, 0, 0, 0)) (by decide +kernel) (by decide) (fun y3274 hy3274 => ?_)
  refine y_put (j := 31) (lo := (-2147483648)) (hi := 2147483647) (len := 3) (r := (1, 6, 0, 343)) (by decide +kernel) hg3273 (tv43 hg3273) aw43 rfl rfl (by decide) rfl (qin_full _).1 (qin_full _).2 rfl (fun h3275 hg3275 hl3275 hs3275 ho3275 => ?_)
  have ho3275 : hO 43 6 h3273 h3275 := ho3275
  have hs3275 : hsl h3275 43 6 = some (zi y3274) := hs3275
  refine y_ic (c := 1) (len := 1) (r := (0, 0, 0, 0)) (by decide +kernel) (by decide) (fun y3276 hy3276 => ?_)
  refine y_same (i := .istore_n 1) (len := 1) (r := (0, 0, 0, 0)) (pc' := 15) (ls' := [some (.inl (some 43)), some (zi y3276)]) (st' := []) (by decide +kernel) (fun k q => by cases q) rfl ?_
  refine y_same (i := .iload_n 1) (len := 1) (r := (0, 0, 0, 0)) (pc' := 16) (ls' := [some (.inl (some 43)), some (zi y3276)]) (st' := [zi y3276]) (by decide +kernel) (fun k q => by cases q) rfl ?_
  refine y_ic (c := 5) (len := 1) (r := (0, 0, 0, 0)) (by decide +kernel) (by decide) (fun y3277 hy3277 => ?_)
  refine y_cF (c := .gt) (off := 26) (len := 3) (r := (0, 0, 0, 0)) (by decide +kernel) (acmpF (c := .gt) (by show _ ≤ _; omega)) ?_
  refine y_same (i := .aload_n 0) (len := 1) (r := (0, 0, 0, 0)) (pc' := 21) (ls' := [some (.inl (some 43)), some (zi y3276)]) (st' := [.inl (some 43)]) (by decide +kernel) (fun k q => by cases q) rfl ?_
  refine y_same (i := .aload_n 0) (len := 1) (r := (0, 0, 0, 0)) (pc' := 22) (ls' := [some (.inl (some 43)), some (zi y3276)]) (st' := [.inl (some 43), .inl (some 43)]) (by decide +kernel) (fun k q => by cases q) rfl ?_
  refine y_get (j := 31) (len := 3) (r := (1, 6, 0, 343)) (by decide +kernel) hg3275 (tv43 hg3275) aw43 rfl rfl hs3275 ?_
  refine y_same (i := .aload_n 0) (len := 1) (r := (0, 0, 0, 0)) (pc' := 26) (ls' := [some (.inl (some 43)), some (zi y3276)]) (st' := [.inl (some 43), zi y3274, .inl (some 43)]) (by decide +kernel) (fun k q => by cases q) rfl ?_
  refine y_get (j := 9) (len := 3) (r := (1, 0, 2, 337)) (by decide +kernel) hg3275 (tv43 hg3275) aw43 rfl rfl (g_rU (f := 0) (T2 := 44) hg3275 (tv43 hg3275) aw43 rfl (by decide)) ?_
  refine y_same (i := .iload_n 1) (len := 1) (r := (0, 0, 0, 0)) (pc' := 30) (ls' := [some (.inl (some 43)), some (zi y3276)]) (st' := [zi y3276, .inl (some 44), zi y3274, .inl (some 43)]) (by decide +kernel) (fun k q => by cases q) rfl ?_
  have hv3278 := (F3273 44 1 (by omega)).trans hv1
  have hv3279 := (ho3275 44 1 (Or.inl (by omega))).trans hv3278
  refine y_ial (i := 1) (len := 1) (r := (0, 0, 0, 0)) (by decide +kernel) hg3275 (tv44 hg3275) aw44 (by omega) hv3279 ?_
  refine y_cI (i := .invokestatic 40) (len := 3) (r := (1, 266, 60, 1238)) (nL := 2) (k := 1) (n := 2) (hs := []) (args := [zi y3274, zi xv1]) (rest := [.inl (some 43)]) (l0 := [some (zi y3274), some (zi xv1)]) (by decide +kernel) (Or.inl ⟨_, rfl⟩) rfl rfl rfl rfl (Nat.le_of_ble_eq_true rfl) rfl rfl (qI_le (by omega) (e_jmax (d := 0))) (fun y3280 qy3280 hRy3280 => ?_)
  obtain ⟨rfl, my3280, wy3280⟩ := hRy3280
  have ey3280 : y3280.toInt = ((max 0 (f 1) : Nat) : Int) := by omega
  refine y_put (j := 31) (lo := (-2147483648)) (hi := 2147483647) (len := 3) (r := (1, 6, 0, 343)) (by decide +kernel) hg3275 (tv43 hg3275) aw43 rfl rfl (by decide) rfl (qin_full _).1 (qin_full _).2 rfl (fun h3281 hg3281 hl3281 hs3281 ho3281 => ?_)
  have ho3281 : hO 43 6 h3275 h3281 := ho3281
  have hs3281 : hsl h3281 43 6 = some (zi y3280) := hs3281
  refine y_inc (j := 1) (a := y3276) (c := 1) (ls' := fun v => [some (.inl (some 43)), some v]) (len := 3) (r := (0, 0, 0, 0)) (by decide +kernel) rfl (fun _ => rfl) (by decide) (by omega) (by omega) (fun y3282 hy3282 => ?_)
  show qX (d + 1) 13 40 [some (.inl (some 43)), some (zi y3282)] [] h3281 t _
  refine y_goto (off := (-25)) (pc' := 15) (len := 3) (r := (0, 0, 0, 0)) (by decide +kernel) (by decide +kernel) ?_
  refine y_same (i := .iload_n 1) (len := 1) (r := (0, 0, 0, 0)) (pc' := 16) (ls' := [some (.inl (some 43)), some (zi y3282)]) (st' := [zi y3282]) (by decide +kernel) (fun k q => by cases q) rfl ?_
  refine y_ic (c := 5) (len := 1) (r := (0, 0, 0, 0)) (by decide +kernel) (by decide) (fun y3283 hy3283 => ?_)
  refine y_cF (c := .gt) (off := 26) (len := 3) (r := (0, 0, 0, 0)) (by decide +kernel) (acmpF (c := .gt) (by show _ ≤ _; omega)) ?_
  refine y_same (i := .aload_n 0) (len := 1) (r := (0, 0, 0, 0)) (pc' := 21) (ls' := [some (.inl (some 43)), some (zi y3282)]) (st' := [.inl (some 43)]) (by decide +kernel) (fun k q => by cases q) rfl ?_
  refine y_same (i := .aload_n 0) (len := 1) (r := (0, 0, 0, 0)) (pc' := 22) (ls' := [some (.inl (some 43)), some (zi y3282)]) (st' := [.inl (some 43), .inl (some 43)]) (by decide +kernel) (fun k q => by cases q) rfl ?_
  refine y_get (j := 31) (len := 3) (r := (1, 6, 0, 343)) (by decide +kernel) hg3281 (tv43 hg3281) aw43 rfl rfl hs3281 ?_
  refine y_same (i := .aload_n 0) (len := 1) (r := (0, 0, 0, 0)) (pc' := 26) (ls' := [some (.inl (some 43)), some (zi y3282)]) (st' := [.inl (some 43), zi y3280, .inl (some 43)]) (by decide +kernel) (fun k q => by cases q) rfl ?_
  refine y_get (j := 9) (len := 3) (r := (1, 0, 2, 337)) (by decide +kernel) hg3281 (tv43 hg3281) aw43 rfl rfl (g_rU (f := 0) (T2 := 44) hg3281 (tv43 hg3281) aw43 rfl (by decide)) ?_
  refine y_same (i := .iload_n 1) (len := 1) (r := (0, 0, 0, 0)) (pc' := 30) (ls' := [some (.inl (some 43)), some (zi y3282)]) (st' := [zi y3282, .inl (some 44), zi y3280, .inl (some 43)]) (by decide +kernel) (fun k q => by cases q) rfl ?_
  have hv3284 := (F3273 44 2 (by omega)).trans hv2
  have hv3285 := (ho3275 44 2 (Or.inl (by omega))).trans hv3284
  have hv3286 := (ho3281 44 2 (Or.inl (by omega))).trans hv3285
  refine y_ial (i := 2) (len := 1) (r := (0, 0, 0, 0)) (by decide +kernel) hg3281 (tv44 hg3281) aw44 (by omega) hv3286 ?_
  refine y_cI (i := .invokestatic 40) (len := 3) (r := (1, 266, 60, 1238)) (nL := 2) (k := 1) (n := 2) (hs := []) (args := [zi y3280, zi xv2]) (rest := [.inl (some 43)]) (l0 := [some (zi y3280), some (zi xv2)]) (by decide +kernel) (Or.inl ⟨_, rfl⟩) rfl rfl rfl rfl (Nat.le_of_ble_eq_true rfl) rfl rfl (qI_le (by omega) (e_jmax (d := 0))) (fun y3287 qy3287 hRy3287 => ?_)
  obtain ⟨rfl, my3287, wy3287⟩ := hRy3287
  have ey3287 : y3287.toInt = ((max (max 0 (f 1)) (f 2) : Nat) : Int) := by omega
  refine y_put (j := 31) (lo := (-2147483648)) (hi := 2147483647) (len := 3) (r := (1, 6, 0, 343)) (by decide +kernel) hg3281 (tv43 hg3281) aw43 rfl rfl (by decide) rfl (qin_full _).1 (qin_full _).2 rfl (fun h3288 hg3288 hl3288 hs3288 ho3288 => ?_)
  have ho3288 : hO 43 6 h3281 h3288 := ho3288
  have hs3288 : hsl h3288 43 6 = some (zi y3287) := hs3288
  refine y_inc (j := 1) (a := y3282) (c := 1) (ls' := fun v => [some (.inl (some 43)), some v]) (len := 3) (r := (0, 0, 0, 0)) (by decide +kernel) rfl (fun _ => rfl) (by decide) (by omega) (by omega) (fun y3289 hy3289 => ?_)
  show qX (d + 1) 13 40 [some (.inl (some 43)), some (zi y3289)] [] h3288 t _
  refine y_goto (off := (-25)) (pc' := 15) (len := 3) (r := (0, 0, 0, 0)) (by decide +kernel) (by decide +kernel) ?_
  refine y_same (i := .iload_n 1) (len := 1) (r := (0, 0, 0, 0)) (pc' := 16) (ls' := [some (.inl (some 43)), some (zi y3289)]) (st' := [zi y3289]) (by decide +kernel) (fun k q => by cases q) rfl ?_
  refine y_ic (c := 5) (len := 1) (r := (0, 0, 0, 0)) (by decide +kernel) (by decide) (fun y3290 hy3290 => ?_)
  refine y_cF (c := .gt) (off := 26) (len := 3) (r := (0, 0, 0, 0)) (by decide +kernel) (acmpF (c := .gt) (by show _ ≤ _; omega)) ?_
  refine y_same (i := .aload_n 0) (len := 1) (r := (0, 0, 0, 0)) (pc' := 21) (ls' := [some (.inl (some 43)), some (zi y3289)]) (st' := [.inl (some 43)]) (by decide +kernel) (fun k q => by cases q) rfl ?_
  refine y_same (i := .aload_n 0) (len := 1) (r := (0, 0, 0, 0)) (pc' := 22) (ls' := [some (.inl (some 43)), some (zi y3289)]) (st' := [.inl (some 43), .inl (some 43)]) (by decide +kernel) (fun k q => by cases q) rfl ?_
  refine y_get (j := 31) (len := 3) (r := (1, 6, 0, 343)) (by decide +kernel) hg3288 (tv43 hg3288) aw43 rfl rfl hs3288 ?_
  refine y_same (i := .aload_n 0) (len := 1) (r := (0, 0, 0, 0)) (pc' := 26) (ls' := [some (.inl (some 43)), some (zi y3289)]) (st' := [.inl (some 43), zi y3287, .inl (some 43)]) (by decide +kernel) (fun k q => by cases q) rfl ?_
  refine y_get (j := 9) (len := 3) (r := (1, 0, 2, 337)) (by decide +kernel) hg3288 (tv43 hg3288) aw43 rfl rfl (g_rU (f := 0) (T2 := 44) hg3288 (tv43 hg3288) aw43 rfl (by decide)) ?_
  refine y_same (i := .iload_n 1) (len := 1) (r := (0, 0, 0, 0)) (pc' := 30) (ls' := [some (.inl (some 43)), some (zi y3289)]) (st' := [zi y3289, .inl (some 44), zi y3287, .inl (some 43)]) (by decide +kernel) (fun k q => by cases q) rfl ?_
  have hv3291 := (F3273 44 3 (by omega)).trans hv3
  have hv3292 := (ho3275 44 3 (Or.inl (by omega))).trans hv3291
  have hv3293 := (ho3281 44 3 (Or.inl (by omega))).trans hv3292
  have hv3294 := (ho3288 44 3 (Or.inl (by omega))).trans hv3293
  refine y_ial (i := 3) (len := 1) (r := (0, 0, 0, 0)) (by decide +kernel) hg3288 (tv44 hg3288) aw44 (by omega) hv3294 ?_
  refine y_cI (i := .invokestatic 40) (len := 3) (r := (1, 266, 60, 1238)) (nL := 2) (k := 1) (n := 2) (hs := []) (args := [zi y3287, zi xv3]) (rest := [.inl (some 43)]) (l0 := [some (zi y3287), some (zi xv3)]) (by decide +kernel) (Or.inl ⟨_, rfl⟩) rfl rfl rfl rfl (Nat.le_of_ble_eq_true rfl) rfl rfl (qI_le (by omega) (e_jmax (d := 0))) (fun y3295 qy3295 hRy3295 => ?_)
  obtain ⟨rfl, my3295, wy3295⟩ := hRy3295
  have ey3295 : y3295.toInt = ((max (max (max 0 (f 1)) (f 2)) (f 3) : Nat) : Int) := by omega
  refine y_put (j := 31) (lo := (-2147483648)) (hi := 2147483647) (len := 3) (r := (1, 6, 0, 343)) (by decide +kernel) hg3288 (tv43 hg3288) aw43 rfl rfl (by decide) rfl (qin_full _).1 (qin_full _).2 rfl (fun h3296 hg3296 hl3296 hs3296 ho3296 => ?_)
  have ho3296 : hO 43 6 h3288 h3296 := ho3296
  have hs3296 : hsl h3296 43 6 = some (zi y3295) := hs3296
  refine y_inc (j := 1) (a := y3289) (c := 1) (ls' := fun v => [some (.inl (some 43)), some v]) (len := 3) (r := (0, 0, 0, 0)) (by decide +kernel) rfl (fun _ => rfl) (by decide) (by omega) (by omega) (fun y3297 hy3297 => ?_)
  show qX (d + 1) 13 40 [some (.inl (some 43)), some (zi y3297)] [] h3296 t _
  refine y_goto (off := (-25)) (pc' := 15) (len := 3) (r := (0, 0, 0, 0)) (by decide +kernel) (by decide +kernel) ?_
  refine y_same (i := .iload_n 1) (len := 1) (r := (0, 0, 0, 0)) (pc' := 16) (ls' := [some (.inl (some 43)), some (zi y3297)]) (st' := [zi y3297]) (by decide +kernel) (fun k q => by cases q) rfl ?_
  refine y_ic (c := 5) (len := 1) (r := (0, 0, 0, 0)) (by decide +kernel) (by decide) (fun y3298 hy3298 => ?_)
  refine y_cF (c := .gt) (off := 26) (len := 3) (r := (0, 0, 0, 0)) (by decide +kernel) (acmpF (c := .gt) (by show _ ≤ _; omega)) ?_
  refine y_same (i := .aload_n 0) (len := 1) (r := (0, 0, 0, 0)) (pc' := 21) (ls' := [some (.inl (some 43)), some (zi y3297)]) (st' := [.inl (some 43)]) (by decide +kernel) (fun k q => by cases q) rfl ?_
  refine y_same (i := .aload_n 0) (len := 1) (r := (0, 0, 0, 0)) (pc' := 22) (ls' := [some (.inl (some 43)), some (zi y3297)]) (st' := [.inl (some 43), .inl (some 43)]) (by decide +kernel) (fun k q => by cases q) rfl ?_
  refine y_get (j := 31) (len := 3) (r := (1, 6, 0, 343)) (by decide +kernel) hg3296 (tv43 hg3296) aw43 rfl rfl hs3296 ?_
  refine y_same (i := .aload_n 0) (len := 1) (r := (0, 0, 0, 0)) (pc' := 26) (ls' := [some (.inl (some 43)), some (zi y3297)]) (st' := [.inl (some 43), zi y3295, .inl (some 43)]) (by decide +kernel) (fun k q => by cases q) rfl ?_
  refine y_get (j := 9) (len := 3) (r := (1, 0, 2, 337)) (by decide +kernel) hg3296 (tv43 hg3296) aw43 rfl rfl (g_rU (f := 0) (T2 := 44) hg3296 (tv43 hg3296) aw43 rfl (by decide)) ?_
  refine y_same (i := .iload_n 1) (len := 1) (r := (0, 0, 0, 0)) (pc' := 30) (ls' := [some (.inl (some 43)), some (zi y3297)]) (st' := [zi y3297, .inl (some 44), zi y3295, .inl (some 43)]) (by decide +kernel) (fun k q => by cases q) rfl ?_
  have hv3299 := (F3273 44 4 (by omega)).trans hv4
  have hv3300 := (ho3275 44 4 (Or.inl (by omega))).trans hv3299
  have hv3301 := (ho3281 44 4 (Or.inl (by omega))).trans hv3300
  have hv3302 := (ho3288 44 4 (Or.inl (by omega))).trans hv3301
  have hv3303 := (ho3296 44 4 (Or.inl (by omega))).trans hv3302
  refine y_ial (i := 4) (len := 1) (r := (0, 0, 0, 0)) (by decide +kernel) hg3296 (tv44 hg3296) aw44 (by omega) hv3303 ?_
  refine y_cI (i := .invokestatic 40) (len := 3) (r := (1, 266, 60, 1238)) (nL := 2) (k := 1) (n := 2) (hs := []) (args := [zi y3295, zi xv4]) (rest := [.inl (some 43)]) (l0 := [some (zi y3295), some (zi xv4)]) (by decide +kernel) (Or.inl ⟨_, rfl⟩) rfl rfl rfl rfl (Nat.le_of_ble_eq_true rfl) rfl rfl (qI_le (by omega) (e_jmax (d := 0))) (fun y3304 qy3304 hRy3304 => ?_)
  obtain ⟨rfl, my3304, wy3304⟩ := hRy3304
  have ey3304 : y3304.toInt = ((max (max (max (max 0 (f 1)) (f 2)) (f 3)) (f 4) : Nat) : Int) := by omega
  refine y_put (j := 31) (lo := (-2147483648)) (hi := 2147483647) (len := 3) (r := (1, 6, 0, 343)) (by decide +kernel) hg3296 (tv43 hg3296) aw43 rfl rfl (by decide) rfl (qin_full _).1 (qin_full _).2 rfl (fun h3305 hg3305 hl3305 hs3305 ho3305 => ?_)
  have ho3305 : hO 43 6 h3296 h3305 := ho3305
  have hs3305 : hsl h3305 43 6 = some (zi y3304) := hs3305
  refine y_inc (j := 1) (a := y3297) (c := 1) (ls' := fun v => [some (.inl (some 43)), some v]) (len := 3) (r := (0, 0, 0, 0)) (by decide +kernel) rfl (fun _ => rfl) (by decide) (by omega) (by omega) (fun y3306 hy3306 => ?_)
  show qX (d + 1) 13 40 [some (.inl (some 43)), some (zi y3306)] [] h3305 t _
  refine y_goto (off := (-25)) (pc' := 15) (len := 3) (r := (0, 0, 0, 0)) (by decide +kernel) (by decide +kernel) ?_
  refine y_same (i := .iload_n 1) (len := 1) (r := (0, 0, 0, 0)) (pc' := 16) (ls' := [some (.inl (some 43)), some (zi y3306)]) (st' := [zi y3306]) (by decide +kernel) (fun k q => by cases q) rfl ?_
  refine y_ic (c := 5) (len := 1) (r := (0, 0, 0, 0)) (by decide +kernel) (by decide) (fun y3307 hy3307 => ?_)
  refine y_cF (c := .gt) (off := 26) (len := 3) (r := (0, 0, 0, 0)) (by decide +kernel) (acmpF (c := .gt) (by show _ ≤ _; omega)) ?_
  refine y_same (i := .aload_n 0) (len := 1) (r := (0, 0, 0, 0)) (pc' := 21) (ls' := [some (.inl (some 43)), some (zi y3306)]) (st' := [.inl (some 43)]) (by decide +kernel) (fun k q => by cases q) rfl ?_
  refine y_same (i := .aload_n 0) (len := 1) (r := (0, 0, 0, 0)) (pc' := 22) (ls' := [some (.inl (some 43)), some (zi y3306)]) (st' := [.inl (some 43), .inl (some 43)]) (by decide +kernel) (fun k q => by cases q) rfl ?_
  refine y_get (j := 31) (len := 3) (r := (1, 6, 0, 343)) (by decide +kernel) hg3305 (tv43 hg3305) aw43 rfl rfl hs3305 ?_
  refine y_same (i := .aload_n 0) (len := 1) (r := (0, 0, 0, 0)) (pc' := 26) (ls' := [some (.inl (some 43)), some (zi y3306)]) (st' := [.inl (some 43), zi y3304, .inl (some 43)]) (by decide +kernel) (fun k q => by cases q) rfl ?_
  refine y_get (j := 9) (len := 3) (r := (1, 0, 2, 337)) (by decide +kernel) hg3305 (tv43 hg3305) aw43 rfl rfl (g_rU (f := 0) (T2 := 44) hg3305 (tv43 hg3305) aw43 rfl (by decide)) ?_
  refine y_same (i := .iload_n 1) (len := 1) (r := (0, 0, 0, 0)) (pc' := 30) (ls' := [some (.inl (some 43)), some (zi y3306)]) (st' := [zi y3306, .inl (some 44), zi y3304, .inl (some 43)]) (by decide +kernel) (fun k q => by cases q) rfl ?_
  have hv3308 := (F3273 44 5 (by omega)).trans hv5
  have hv3309 := (ho3275 44 5 (Or.inl (by omega))).trans hv3308
  have hv3310 := (ho3281 44 5 (Or.inl (by omega))).trans hv3309
  have hv3311 := (ho3288 44 5 (Or.inl (by omega))).trans hv3310
  have hv3312 := (ho3296 44 5 (Or.inl (by omega))).trans hv3311
  have hv3313 := (ho3305 44 5 (Or.inl (by omega))).trans hv3312
  refine y_ial (i := 5) (len := 1) (r := (0, 0, 0, 0)) (by decide +kernel) hg3305 (tv44 hg3305) aw44 (by omega) hv3313 ?_
  refine y_cI (i := .invokestatic 40) (len := 3) (r := (1, 266, 60, 1238)) (nL := 2) (k := 1) (n := 2) (hs := []) (args := [zi y3304, zi xv5]) (rest := [.inl (some 43)]) (l0 := [some (zi y3304), some (zi xv5)]) (by decide +kernel) (Or.inl ⟨_, rfl⟩) rfl rfl rfl rfl (Nat.le_of_ble_eq_true rfl) rfl rfl (qI_le (by omega) (e_jmax (d := 0))) (fun y3314 qy3314 hRy3314 => ?_)
  obtain ⟨rfl, my3314, wy3314⟩ := hRy3314
  have ey3314 : y3314.toInt = ((max (max (max (max (max 0 (f 1)) (f 2)) (f 3)) (f 4)) (f 5) : Nat) : Int) := by omega
  refine y_put (j := 31) (lo := (-2147483648)) (hi := 2147483647) (len := 3) (r := (1, 6, 0, 343)) (by decide +kernel) hg3305 (tv43 hg3305) aw43 rfl rfl (by decide) rfl (qin_full _).1 (qin_full _).2 rfl (fun h3315 hg3315 hl3315 hs3315 ho3315 => ?_)
  have ho3315 : hO 43 6 h3305 h3315 := ho3315
  have hs3315 : hsl h3315 43 6 = some (zi y3314) := hs3315
  refine y_inc (j := 1) (a := y3306) (c := 1) (ls' := fun v => [some (.inl (some 43)), some v]) (len := 3) (r := (0, 0, 0, 0)) (by decide +kernel) rfl (fun _ => rfl) (by decide) (by omega) (by omega) (fun y3316 hy3316 => ?_)
  show qX (d + 1) 13 40 [some (.inl (some 43)), some (zi y3316)] [] h3315 t _
  refine y_goto (off := (-25)) (pc' := 15) (len := 3) (r := (0, 0, 0, 0)) (by decide +kernel) (by decide +kernel) ?_
  refine y_same (i := .iload_n 1) (len := 1) (r := (0, 0, 0, 0)) (pc' := 16) (ls' := [some (.inl (some 43)), some (zi y3316)]) (st' := [zi y3316]) (by decide +kernel) (fun k q => by cases q) rfl ?_
  refine y_ic (c := 5) (len := 1) (r := (0, 0, 0, 0)) (by decide +kernel) (by decide) (fun y3317 hy3317 => ?_)
  refine y_cT (c := .gt) (off := 26) (pc' := 43) (len := 3) (r := (0, 0, 0, 0)) (by decide +kernel) (acmpT (c := .gt) (by show _ < _; omega)) (by decide +kernel) ?_
  refine y_rV (len := 1) (r := (0, 0, 0, 0)) (nL := 2) (n9 := 1) (hs := []) (by decide +kernel) rfl ?_
  refine ⟨hg3315, ⟨fun w h1 h2 => ⟨⟨_, (((ho3315 45 w (by omega)).trans ((ho3305 45 w (by omega)).trans ((ho3296 45 w (by omega)).trans ((ho3288 45 w (by omega)).trans ((ho3281 45 w (by omega)).trans (ho3275 45 w (by omega)))))))).trans (c3273 w (by omega)), by show _ = (-1 : Int); omega⟩, fun q9 => absurd rfl q9⟩, ⟨_, hs3315, ?_⟩⟩, fun k j hC => ((ho3315 k j (by omega)).trans ((ho3305 k j (by omega)).trans ((ho3296 k j (by omega)).trans ((ho3288 k j (by omega)).trans ((ho3281 k j (by omega)).trans ((ho3275 k j (by omega)).trans (F3273 k j (by omega))))))))⟩
  show _ = ((mxv f : Nat) : Int)
  unfold mxv
  omega
