/-! the class's prover -/
theorem qA_mono {d mj : Nat} {l0 : List (Option zv)} {h : zh} {t v : Nat} {R R' : zh → Prop} (k : qA d mj l0 h t v R) (e : ∀ h1, R h1 → R' h1) : qA d mj l0 h t v R' := by
  obtain ⟨h1, k, r⟩ := k
  exact ⟨h1, k, e h1 r⟩
theorem aw29 : atyp 29 = some (.inl (4, 300, [(300, .inr (.inl (1008, true)))])) := rfl
theorem atav29 : atau[29]? = some 29 := by decide +kernel
theorem tv29 {τ : List Nat} {h : zh} (hg : hG τ h) : τ[29]? = some 29 := hg.1.2.2.1 _ _ atav29
theorem aw30 : atyp 30 = some (.inl (0, 40, [(40, .inl ((-2147483648), 2147483647))])) := rfl
theorem atav30 : atau[30]? = some 30 := by decide +kernel
theorem tv30 {τ : List Nat} {h : zh} (hg : hG τ h) : τ[30]? = some 30 := hg.1.2.2.1 _ _ atav30
theorem aw31 : atyp 31 = some (.inl (0, 10, [(10, .inl ((-2147483648), 2147483647))])) := rfl
theorem atav31 : atau[31]? = some 31 := by decide +kernel
theorem tv31 {τ : List Nat} {h : zh} (hg : hG τ h) : τ[31]? = some 31 := hg.1.2.2.1 _ _ atav31
def sw32 : List qs := [.inr (.inl (33, false)), .inr (.inl (34, false))]
theorem aw32 : atyp 32 = some (.inr (3, sw32)) := rfl
theorem atav32 : atau[32]? = some 32 := by decide +kernel
theorem tv32 {τ : List Nat} {h : zh} (hg : hG τ h) : τ[32]? = some 32 := hg.1.2.2.1 _ _ atav32
theorem aw33 : atyp 33 = some (.inl (0, 21, [(21, .inl ((-2147483648), 2147483647))])) := rfl
theorem atav33 : atau[33]? = some 33 := by decide +kernel
theorem tv33 {τ : List Nat} {h : zh} (hg : hG τ h) : τ[33]? = some 33 := hg.1.2.2.1 _ _ atav33
theorem aw34 : atyp 34 = some (.inl (0, 21, [(21, .inl ((-2147483648), 2147483647))])) := rfl
theorem atav34 : atau[34]? = some 34 := by decide +kernel
theorem tv34 {τ : List Nat} {h : zh} (hg : hG τ h) : τ[34]? = some 34 := hg.1.2.2.1 _ _ atav34
theorem g_slot29 {τ : List Nat} {h : zh} {i : Nat} (hg : hG τ h) (hi : i < 300) : ∃ v : zv, hsl h 29 i = some v ∧ (v = .inl none ∨ ∃ b, v = .inl (some b) ∧ τ[b]? = some 1008) := by
  obtain ⟨-, c, hc, hty⟩ := hg.1.2.2.2 29 29 (tv29 hg)
  obtain ⟨w, q, e1, e2, e3⟩ := tyc_slot (i := i) aw29 hty (show i < 300 from hi)
  have e4 : aslq (.inl (4, 300, [(300, .inr (.inl (1008, true)))])) i = some (.inr (.inl (1008, true))) := by
    show (bif Nat.blt i 300 then some (.inr (.inl (1008, true)) : qs) else none) = _
    rw [bltT.mpr hi]
    rfl
  rw [e4] at e2
  cases e2
  refine ⟨w, hsl_of hc e1, ?_⟩
  rcases e3 with ⟨-, e3⟩ | ⟨b, e3, e5⟩
  · exact Or.inl e3
  · exact Or.inr ⟨b, e3, e5⟩
theorem aw36 : atyp 36 = some (.inl (4, 300, [(300, .inr (.inl (1008, true)))])) := rfl
theorem atav36 : atau[36]? = some 36 := by decide +kernel
theorem tv36 {τ : List Nat} {h : zh} (hg : hG τ h) : τ[36]? = some 36 := hg.1.2.2.1 _ _ atav36
theorem aw37 : atyp 37 = some (.inl (0, 40, [(40, .inl ((-2147483648), 2147483647))])) := rfl
theorem atav37 : atau[37]? = some 37 := by decide +kernel
theorem tv37 {τ : List Nat} {h : zh} (hg : hG τ h) : τ[37]? = some 37 := hg.1.2.2.1 _ _ atav37
theorem aw38 : atyp 38 = some (.inl (0, 10, [(10, .inl ((-2147483648), 2147483647))])) := rfl
theorem atav38 : atau[38]? = some 38 := by decide +kernel
theorem tv38 {τ : List Nat} {h : zh} (hg : hG τ h) : τ[38]? = some 38 := hg.1.2.2.1 _ _ atav38
def sw39 : List qs := [.inr (.inl (40, false)), .inr (.inl (41, false))]
theorem aw39 : atyp 39 = some (.inr (3, sw39)) := rfl
theorem atav39 : atau[39]? = some 39 := by decide +kernel
theorem tv39 {τ : List Nat} {h : zh} (hg : hG τ h) : τ[39]? = some 39 := hg.1.2.2.1 _ _ atav39
theorem aw40 : atyp 40 = some (.inl (0, 21, [(21, .inl ((-2147483648), 2147483647))])) := rfl
theorem atav40 : atau[40]? = some 40 := by decide +kernel
theorem tv40 {τ : List Nat} {h : zh} (hg : hG τ h) : τ[40]? = some 40 := hg.1.2.2.1 _ _ atav40
theorem aw41 : atyp 41 = some (.inl (0, 21, [(21, .inl ((-2147483648), 2147483647))])) := rfl
theorem atav41 : atau[41]? = some 41 := by decide +kernel
theorem tv41 {τ : List Nat} {h : zh} (hg : hG τ h) : τ[41]? = some 41 := hg.1.2.2.1 _ _ atav41
theorem g_slot36 {τ : List Nat} {h : zh} {i : Nat} (hg : hG τ h) (hi : i < 300) : ∃ v : zv, hsl h 36 i = some v ∧ (v = .inl none ∨ ∃ b, v = .inl (some b) ∧ τ[b]? = some 1008) := by
  obtain ⟨-, c, hc, hty⟩ := hg.1.2.2.2 36 36 (tv36 hg)
  obtain ⟨w, q, e1, e2, e3⟩ := tyc_slot (i := i) aw36 hty (show i < 300 from hi)
  have e4 : aslq (.inl (4, 300, [(300, .inr (.inl (1008, true)))])) i = some (.inr (.inl (1008, true))) := by
    show (bif Nat.blt i 300 then some (.inr (.inl (1008, true)) : qs) else none) = _
    rw [bltT.mpr hi]
    rfl
  rw [e4] at e2
  cases e2
  refine ⟨w, hsl_of hc e1, ?_⟩
  rcases e3 with ⟨-, e3⟩ | ⟨b, e3, e5⟩
  · exact Or.inl e3
  · exact Or.inr ⟨b, e3, e5⟩
theorem tyQ_of {τ : List Nat} {h : zh} {a : Nat} (hg : hG τ h) (ta : τ[a]? = some 1008) (l : laQ h a) : tyQ τ a := by
  obtain ⟨l1, l2, l3, l4, l5, l6, l7, l8⟩ := l
  have t1 := rf_ty hg ta aw1008 (by decide) rfl l1
  have t3 := rf_ty hg ta aw1008 (by decide) rfl l2
  have t5 := rf_ty hg ta aw1008 (by decide) rfl l3
  have t7 := rf_ty hg ta aw1008 (by decide) rfl l4
  exact ⟨ta, t1, rf_ty hg t1 aw1009 (by decide) rfl l5, t3, rf_ty hg t3 aw1004 (by decide) rfl l6, t5, rf_ty hg t5 aw1004 (by decide) rfl l7, t7, rf_ty hg t7 aw1004 (by decide) rfl l8⟩
/-- two sequents lie apart -/
theorem dis_Q {τ : List Nat} {a b : Nat} (ha : tyQ τ a) (hb : tyQ τ b) (ne : a ≠ b) : a + 9 ≤ b ∨ b + 9 ≤ a := by
  have key : ∀ a b : Nat, tyQ τ a → τ[b]? = some 1008 → a < b → a + 9 ≤ b := by
    intro a b ha hb hab
    rcases Nat.lt_or_ge b (a + 9) with q | q
    · exfalso
      have d := fun (T : Nat) (e : τ[b]? = some T) (n : T ≠ 1008) => n (by rw [hb] at e; cases e; rfl)
      obtain ⟨-, c1, c2, c3, c4, c5, c6, c7, c8⟩ := ha
      have hc : b = a + 1 ∨ b = a + 2 ∨ b = a + 3 ∨ b = a + 4 ∨ b = a + 5 ∨ b = a + 6 ∨ b = a + 7 ∨ b = a + 8 := by omega
      rcases hc with e | e | e | e | e | e | e | e
      · exact d _ (by rw [e]; exact c1) (by decide)
      · exact d _ (by rw [e]; exact c2) (by decide)
      · exact d _ (by rw [e]; exact c3) (by decide)
      · exact d _ (by rw [e]; exact c4) (by decide)
      · exact d _ (by rw [e]; exact c5) (by decide)
      · exact d _ (by rw [e]; exact c6) (by decide)
      · exact d _ (by rw [e]; exact c7) (by decide)
      · exact d _ (by rw [e]; exact c8) (by decide)
    · exact q
  rcases Nat.lt_or_gt_of_ne ne with q | q
  · exact Or.inl (key a b ha hb.1 q)
  · exact Or.inr (key b a hb ha.1 q)
/-- the row of sequents: each laid, none twice -/
def cmI (h : zh) (A : Nat) : Prop := (∀ k, k < 300 → hsl h A k = some (.inl none) ∨ ∃ a, rfs h A k a ∧ 388 < a ∧ laQ h a) ∧ ∀ k k' a, k < 300 → k' < 300 → rfs h A k a → rfs h A k' a → k = k'
theorem laQ_up {h h1 : zh} {a : Nat} (l : laQ h a) (F : ∀ k j, a ≤ k → k < a + 9 → (k ≠ a ∨ j < 4) → (k = a ∨ j = 0) → hsl h1 k j = hsl h k j) : laQ h1 a := by
  obtain ⟨l1, l2, l3, l4, l5, l6, l7, l8⟩ := l
  exact ⟨rfs_up l1 (F _ _ (by omega) (by omega) (by omega) (by omega)), rfs_up l2 (F _ _ (by omega) (by omega) (by omega) (by omega)), rfs_up l3 (F _ _ (by omega) (by omega) (by omega) (by omega)), rfs_up l4 (F _ _ (by omega) (by omega) (by omega) (by omega)), rfs_up l5 (F _ _ (by omega) (by omega) (by omega) (by omega)), rfs_up l6 (F _ _ (by omega) (by omega) (by omega) (by omega)), rfs_up l7 (F _ _ (by omega) (by omega) (by omega) (by omega)), rfs_up l8 (F _ _ (by omega) (by omega) (by omega) (by omega))⟩
theorem tyQ_up {τ τ1 : List Nat} {a : Nat} (u : aup τ τ1) (t : tyQ τ a) : tyQ τ1 a := by
  obtain ⟨a0, a1, a2, a3, a4, a5, a6, a7, a8⟩ := t
  exact ⟨u _ _ a0, u _ _ a1, u _ _ a2, u _ _ a3, u _ _ a4, u _ _ a5, u _ _ a6, u _ _ a7, u _ _ a8⟩
theorem QC_tu {τ τ1 : List Nat} {h h1 : zh} {b : Nat} {s : sqT} (Q : QC τ h b s) (u : aup τ τ1) (g : hG τ1 h1) (F : ∀ k j, b ≤ k → k < b + 9 → (k ≠ b ∨ j < 4) → hsl h1 k j = hsl h k j) : QC τ1 h1 b s := by
  obtain ⟨-, ty, ⟨l1, l2, l3, l4, l5, l6, l7, l8⟩, ⟨r1, r2, r3, r4⟩, ok⟩ := Q
  exact ⟨g, tyQ_up u ty, ⟨rfs_up l1 (F _ _ (by omega) (by omega) (by omega)), rfs_up l2 (F _ _ (by omega) (by omega) (by omega)), rfs_up l3 (F _ _ (by omega) (by omega) (by omega)), rfs_up l4 (F _ _ (by omega) (by omega) (by omega)), rfs_up l5 (F _ _ (by omega) (by omega) (by omega)), rfs_up l6 (F _ _ (by omega) (by omega) (by omega)), rfs_up l7 (F _ _ (by omega) (by omega) (by omega)), rfs_up l8 (F _ _ (by omega) (by omega) (by omega))⟩, ⟨rwC_up r1 (F _ _ (by omega) (by omega) (by omega)) (fun j => F _ _ (by omega) (by omega) (by omega)), rwC_up r2 (F _ _ (by omega) (by omega) (by omega)) (fun j => F _ _ (by omega) (by omega) (by omega)), rwC_up r3 (F _ _ (by omega) (by omega) (by omega)) (fun j => F _ _ (by omega) (by omega) (by omega)), dC_up r4 (fun j => F _ _ (by omega) (by omega) (by omega))⟩, ok⟩
theorem LQ_tu {τ τ1 : List Nat} {h h1 : zh} {b : Nat} (Q : LQ τ h b) (u : aup τ τ1) (g : hG τ1 h1) (F : ∀ k j, b ≤ k → k < b + 9 → (k ≠ b ∨ j < 4) → hsl h1 k j = hsl h k j) : LQ τ1 h1 b := ⟨g, tyQ_up u Q.2.1, laQ_up Q.2.2 (fun k j h1 h2 h3 _ => F k j h1 h2 h3)⟩
theorem e_slo28 {d t k a : Nat} {τ : List Nat} {h : zh} {xk : Int32} (hg : hG τ h) (exk : xk.toInt = (k : Int)) (hk : k < 300) (ra : rfs h 29 k a) : qA (d + 2) 33 [some (.inl (some 28)), some (zi xk), none] h t a (fun h1 => h = h1) := by
  obtain ⟨v, e, e2⟩ := g_slot29 hg hk
  have e3 := ra.symm.trans e
  cases e3
  have ta : τ[a]? = some 1008 := by
    rcases e2 with e2 | ⟨b, e2, e3⟩
    · cases e2
    · cases e2
      exact e3
  refine qA_of ?_
  refine y_ic (c := 0) (len := 1) (r := (0, 0, 0, 0)) (by decide +kernel) (by decide) (fun y2514 hy2514 => ?_)
  refine y_same (i := .iload_n 1) (len := 1) (r := (0, 0, 0, 0)) (pc' := 2) (ls' := [some (.inl (some 28)), some (zi xk), none]) (st' := [zi xk, zi y2514]) (by decide +kernel) (fun k q => by cases q) rfl ?_
  refine y_si (c := 299) (len := 3) (r := (0, 0, 0, 0)) (by decide +kernel) (by decide) (fun y2515 hy2515 => ?_)
  refine y_cI (i := .invokestatic 57) (len := 3) (r := (1, 267, 60, 509)) (nL := 2) (k := 1) (n := 2) (hs := []) (args := [zi xk, zi y2515]) (rest := [zi y2514]) (l0 := [some (zi xk), some (zi y2515)]) (by decide +kernel) (Or.inl ⟨_, rfl⟩) rfl rfl rfl rfl (Nat.le_of_ble_eq_true rfl) rfl rfl (qI_le (by omega) (e_jmin (d := 0))) (fun y2516 qy2516 hRy2516 => ?_)
  obtain ⟨rfl, my2516, wy2516⟩ := hRy2516
  refine y_cI (i := .invokestatic 63) (len := 3) (r := (1, 266, 60, 510)) (nL := 2) (k := 1) (n := 2) (hs := []) (args := [zi y2514, zi y2516]) (rest := []) (l0 := [some (zi y2514), some (zi y2516)]) (by decide +kernel) (Or.inl ⟨_, rfl⟩) rfl rfl rfl rfl (Nat.le_of_ble_eq_true rfl) rfl rfl (qI_le (by omega) (e_jmax (d := 0))) (fun y2517 qy2517 hRy2517 => ?_)
  obtain ⟨rfl, my2517, wy2517⟩ := hRy2517
  refine y_same (i := .istore_n 2) (len := 1) (r := (0, 0, 0, 0)) (pc' := 12) (ls' := [some (.inl (some 28)), some (zi xk), some (zi y2517)]) (st' := []) (by decide +kernel) (fun k q => by cases q) rfl ?_
  refine y_same (i := .aload_n 0) (len := 1) (r := (0, 0, 0, 0)) (pc' := 13) (ls' := [some (.inl (some 28)), some (zi xk), some (zi y2517)]) (st' := [.inl (some 28)]) (by decide +kernel) (fun k q => by cases q) rfl ?_
  refine y_get (j := 11) (len := 3) (r := (4, 1, 2, 283)) (by decide +kernel) hg (tv28 hg) aw28 rfl rfl (g_rU (f := 1) (T2 := 29) hg (tv28 hg) aw28 rfl (by decide)) ?_
  refine y_same (i := .iload_n 2) (len := 1) (r := (0, 0, 0, 0)) (pc' := 17) (ls' := [some (.inl (some 28)), some (zi xk), some (zi y2517)]) (st' := [zi y2517, .inl (some 29)]) (by decide +kernel) (fun k q => by cases q) rfl ?_
  refine y_aal (i := k) (len := 1) (r := (0, 0, 0, 0)) (by decide +kernel) hg (tv29 hg) aw29 rfl (by omega) ra ?_
  refine y_nnT (off := 16) (pc' := 34) (len := 3) (r := (0, 0, 0, 0)) (by decide +kernel) (by decide +kernel) (lt_mm hg ta) ?_
  refine y_same (i := .aload_n 0) (len := 1) (r := (0, 0, 0, 0)) (pc' := 35) (ls' := [some (.inl (some 28)), some (zi xk), some (zi y2517)]) (st' := [.inl (some 28)]) (by decide +kernel) (fun k q => by cases q) rfl ?_
  refine y_get (j := 11) (len := 3) (r := (4, 1, 2, 283)) (by decide +kernel) hg (tv28 hg) aw28 rfl rfl (g_rU (f := 1) (T2 := 29) hg (tv28 hg) aw28 rfl (by decide)) ?_
  refine y_same (i := .iload_n 2) (len := 1) (r := (0, 0, 0, 0)) (pc' := 39) (ls' := [some (.inl (some 28)), some (zi xk), some (zi y2517)]) (st' := [zi y2517, .inl (some 29)]) (by decide +kernel) (fun k q => by cases q) rfl ?_
  refine y_aal (i := k) (len := 1) (r := (0, 0, 0, 0)) (by decide +kernel) hg (tv29 hg) aw29 rfl (by omega) ra ?_
  refine y_rA (len := 1) (r := (0, 0, 0, 0)) (nL := 3) (n9 := 2) (hs := []) (by decide +kernel) rfl ?_
  rfl
theorem e_slz28 {d t k : Nat} {τ : List Nat} {h : zh} {xk : Int32} (hg : hG τ h) (exk : xk.toInt = (k : Int)) (hk : k < 300) (rz : hsl h 29 k = some (.inl none)) : qA (d + 4) 33 [some (.inl (some 28)), some (zi xk), none] h t h.length (fun h1 => h1 = hup (h ++ seqC h.length) 29 k (some h.length |> .inl)) := by
  obtain ⟨-, cA, hcA, htyA⟩ := hg.1.2.2.2 29 29 (tv29 hg)
  obtain ⟨fsA, rfl, hlA⟩ := tyc_arr aw29 htyA
  obtain ⟨-, cP, hcP, htyP⟩ := hg.1.2.2.2 28 28 (tv28 hg)
  obtain ⟨fsP, rfl, hlP⟩ := tyc_obj aw28 htyP
  have hj9 : h.length ≤ 5899 := by
    have h9 := hg.2.1
    omega
  have hp1 : fsP[1]? = some (.inl (some 29)) := by
    have e := g_rU (f := 1) (T2 := 29) hg (tv28 hg) aw28 rfl (by decide)
    rw [hsl_obj hcP] at e
    exact e
  refine qA_le (Nat.le_refl (d + 4)) (qA_of ?_)
  refine y_ic (c := 0) (len := 1) (r := (0, 0, 0, 0)) (by decide +kernel) (by decide) (fun y2518 hy2518 => ?_)
  refine y_same (i := .iload_n 1) (len := 1) (r := (0, 0, 0, 0)) (pc' := 2) (ls' := [some (.inl (some 28)), some (zi xk), none]) (st' := [zi xk, zi y2518]) (by decide +kernel) (fun k q => by cases q) rfl ?_
  refine y_si (c := 299) (len := 3) (r := (0, 0, 0, 0)) (by decide +kernel) (by decide) (fun y2519 hy2519 => ?_)
  refine y_cI (i := .invokestatic 57) (len := 3) (r := (1, 267, 60, 509)) (nL := 2) (k := 1) (n := 2) (hs := []) (args := [zi xk, zi y2519]) (rest := [zi y2518]) (l0 := [some (zi xk), some (zi y2519)]) (by decide +kernel) (Or.inl ⟨_, rfl⟩) rfl rfl rfl rfl (Nat.le_of_ble_eq_true rfl) rfl rfl (qI_le (by omega) (e_jmin (d := 0))) (fun y2520 qy2520 hRy2520 => ?_)
  obtain ⟨rfl, my2520, wy2520⟩ := hRy2520
  refine y_cI (i := .invokestatic 63) (len := 3) (r := (1, 266, 60, 510)) (nL := 2) (k := 1) (n := 2) (hs := []) (args := [zi y2518, zi y2520]) (rest := []) (l0 := [some (zi y2518), some (zi y2520)]) (by decide +kernel) (Or.inl ⟨_, rfl⟩) rfl rfl rfl rfl (Nat.le_of_ble_eq_true rfl) rfl rfl (qI_le (by omega) (e_jmax (d := 0))) (fun y2521 qy2521 hRy2521 => ?_)
  obtain ⟨rfl, my2521, wy2521⟩ := hRy2521
  refine y_same (i := .istore_n 2) (len := 1) (r := (0, 0, 0, 0)) (pc' := 12) (ls' := [some (.inl (some 28)), some (zi xk), some (zi y2521)]) (st' := []) (by decide +kernel) (fun k q => by cases q) rfl ?_
  refine y_same (i := .aload_n 0) (len := 1) (r := (0, 0, 0, 0)) (pc' := 13) (ls' := [some (.inl (some 28)), some (zi xk), some (zi y2521)]) (st' := [.inl (some 28)]) (by decide +kernel) (fun k q => by cases q) rfl ?_
  refine y_get (j := 11) (len := 3) (r := (4, 1, 2, 283)) (by decide +kernel) hg (tv28 hg) aw28 rfl rfl (g_rU (f := 1) (T2 := 29) hg (tv28 hg) aw28 rfl (by decide)) ?_
  refine y_same (i := .iload_n 2) (len := 1) (r := (0, 0, 0, 0)) (pc' := 17) (ls' := [some (.inl (some 28)), some (zi xk), some (zi y2521)]) (st' := [zi y2521, .inl (some 29)]) (by decide +kernel) (fun k q => by cases q) rfl ?_
  refine y_aal (i := k) (len := 1) (r := (0, 0, 0, 0)) (by decide +kernel) hg (tv29 hg) aw29 rfl (by omega) rz ?_
  refine y_same (i := .ifnonnull 16) (len := 3) (r := (0, 0, 0, 0)) (pc' := 21) (ls' := [some (.inl (some 28)), some (zi xk), some (zi y2521)]) (st' := []) (by decide +kernel) (fun k q => by cases q) rfl ?_
  exact ⟨_, slot_B (d := d + 1) hcP hp1 hcA (by omega) (show y2521.toInt = (k : Int) by omega) (by omega), _, rfl, rfl⟩
theorem e_slot28 {d t k : Nat} {τ : List Nat} {h : zh} {xk : Int32} (hg : hG τ h) (cm : cmI h 29) (exk : xk.toInt = (k : Int)) (hk : k < 300) : ∃ a, qA (d + 4) 33 [some (.inl (some 28)), some (zi xk), none] h t a (fun h1 => ∃ τ1, aup τ τ1 ∧ hG τ1 h1 ∧ cmI h1 29 ∧ rfs h1 29 k a ∧ LQ τ1 h1 a ∧ 388 < a ∧ ∀ k' j, k' < h.length → (k' ≠ 29 ∨ j ≠ k) → hsl h1 k' j = hsl h k' j) := by
  have hL := len_389 hg
  rcases cm.1 k hk with rz | ⟨a, ra, ha, la⟩
  · refine ⟨h.length, qA_mono (e_slz28 hg exk hk rz) (fun h1 e => ?_)⟩
    subst e
    obtain ⟨-, cA, hcA, htyA⟩ := hg.1.2.2.2 29 29 (tv29 hg)
    obtain ⟨fsA, rfl, hlA⟩ := tyc_arr aw29 htyA
    have hj9 : h.length ≤ 5899 := by
      have h9 := hg.2.1
      omega
    have hty := seq_ty hg.1 (by omega)
    have hnew : (τ ++ seqT)[h.length]? = some 1008 := by
      have h9 := app_at (a := τ) (b := seqT) (k := 0) hg.1.1
      exact h9
    have hcA2 : (h ++ seqC h.length)[29]? = some (.inl (4, fsA)) := by rw [List.getElem?_append_left (by omega)]; exact hcA
    have ha2 : hsl (h ++ seqC h.length) 29 k = some (.inl none) := by
      rw [hsl_arr hcA2]
      have e := rz
      rw [hsl_arr hcA] at e
      exact e
    have f4 : fsA[k]? = some (.inl none) := by
      have e := rz
      rw [hsl_arr hcA] at e
      exact e
    have hM2 : hM (τ ++ seqT) (hup (h ++ seqC h.length) 29 k (.inl (some h.length))) := by
      refine hM_hup (w := .inl none) hty (aup_app _ _ _ _ (tv29 hg)) aw29 (qq := .inr (.inl (1008, true))) ?_ (Or.inr ⟨_, rfl, hnew⟩)
      show (bif Nat.blt k 300 then some (.inr (.inl (1008, true)) : qs) else none) = _
      rw [bltT.mpr hk]
      rfl
    have hG2 : hG (τ ++ seqT) (hup (h ++ seqC h.length) 29 k (.inl (some h.length))) := ⟨hM2, slot_J hg.2 hcA f4 (by omega) (by omega) _⟩
    have fr0 : ∀ k' j, k' < h.length → (k' ≠ 29 ∨ j ≠ k) → hsl (hup (h ++ seqC h.length) 29 k (.inl (some h.length))) k' j = hsl h k' j := by
      intro k' j hk' hne
      rw [hup_sl ha2, if_neg (by omega)]
      unfold hsl
      rw [List.getElem?_append_left hk']
    have fr1 : ∀ i j, i < 9 → hsl (hup (h ++ seqC h.length) 29 k (.inl (some h.length))) (h.length + i) j = hsl (seqC h.length) i j := by
      intro i j hi
      rw [hup_sl ha2, if_neg (by omega)]
      unfold hsl
      rw [List.getElem?_append_right (by omega), Nat.add_sub_cancel_left]
    have pa : rfs (hup (h ++ seqC h.length) 29 k (.inl (some h.length))) 29 k h.length := by
      show hsl _ _ _ = _
      rw [hup_sl ha2, if_pos ⟨rfl, rfl⟩]
    have la : laQ (hup (h ++ seqC h.length) 29 k (.inl (some h.length))) h.length := ⟨fr1 0 0 (by decide), fr1 0 1 (by decide), fr1 0 2 (by decide), fr1 0 3 (by decide), fr1 1 0 (by decide), fr1 3 0 (by decide), fr1 5 0 (by decide), fr1 7 0 (by decide)⟩
    have old : ∀ k' b, k' < 300 → k' ≠ k → rfs (hup (h ++ seqC h.length) 29 k (.inl (some h.length))) 29 k' b → rfs h 29 k' b := fun k' b _ hn r => (fr0 29 k' (by omega) (by omega)).symm.trans r
    have lt : ∀ k' b, k' < 300 → rfs h 29 k' b → tyQ τ b ∧ b + 8 < h.length := fun k' b hk' r => by
      rcases cm.1 k' hk' with e | ⟨b', r', hb, l⟩
      · have := r.symm.trans e
        cases this
      · have e := rfs_eq r r'
        subst e
        obtain ⟨v, e, e2⟩ := g_slot29 hg hk'
        have e3 := r.symm.trans e
        cases e3
        rcases e2 with e2 | ⟨b2, e2, e3⟩
        · cases e2
        · cases e2
          have ty := tyQ_of hg e3 l
          exact ⟨ty, ty_lt hg ty.2.2.2.2.2.2.2.2⟩
    refine ⟨τ ++ seqT, aup_app _ _, hG2, ⟨fun k' hk' => ?_, fun k1 k2 b h1 h2 r1 r2 => ?_⟩, pa, ⟨hG2, tyQ_of hG2 hnew la, la⟩, hL, fr0⟩
    · by_cases e : k' = k
      · subst e
        exact Or.inr ⟨_, pa, hL, la⟩
      · rcases cm.1 k' hk' with e2 | ⟨b, r, hb, l⟩
        · exact Or.inl ((fr0 29 k' (by omega) (by omega)).trans e2)
        · have := (lt k' b hk' r).2
          exact Or.inr ⟨b, rfs_up r (fr0 29 k' (by omega) (by omega)), hb, laQ_up l (fun k9 j h1 h2 _ _ => fr0 k9 j (by omega) (by omega))⟩
    · by_cases e1 : k1 = k
      · by_cases e2 : k2 = k
        · omega
        · exfalso
          subst e1
          have e := rfs_eq pa r1
          subst e
          have := (lt k2 _ h2 (old k2 _ h2 e2 r2)).2
          omega
      · by_cases e2 : k2 = k
        · exfalso
          subst e2
          have e := rfs_eq pa r2
          subst e
          have := (lt k1 _ h1 (old k1 _ h1 e1 r1)).2
          omega
        · exact cm.2 k1 k2 b h1 h2 (old k1 b h1 e1 r1) (old k2 b h2 e2 r2)
  · refine ⟨a, qA_mono (qA_le (by omega) (e_slo28 (d := 0) hg exk hk ra)) (fun h1 e => ?_)⟩
    subst e
    obtain ⟨v, e, e2⟩ := g_slot29 hg hk
    have e3 := ra.symm.trans e
    cases e3
    have ta : τ[a]? = some 1008 := by
      rcases e2 with e2 | ⟨b, e2, e3⟩
      · cases e2
      · cases e2
        exact e3
    exact ⟨τ, aup_refl _, hg, cm, ra, ⟨hg, tyQ_of hg ta la, la⟩, ha, fun k' j _ _ => rfl⟩
theorem e_slo35 {d t k a : Nat} {τ : List Nat} {h : zh} {xk : Int32} (hg : hG τ h) (exk : xk.toInt = (k : Int)) (hk : k < 300) (ra : rfs h 36 k a) : qA (d + 2) 33 [some (.inl (some 35)), some (zi xk), none] h t a (fun h1 => h = h1) := by
  obtain ⟨v, e, e2⟩ := g_slot36 hg hk
  have e3 := ra.symm.trans e
  cases e3
  have ta : τ[a]? = some 1008 := by
    rcases e2 with e2 | ⟨b, e2, e3⟩
    · cases e2
    · cases e2
      exact e3
  refine qA_of ?_
  refine y_ic (c := 0) (len := 1) (r := (0, 0, 0, 0)) (by decide +kernel) (by decide) (fun y2522 hy2522 => ?_)
  refine y_same (i := .iload_n 1) (len := 1) (r := (0, 0, 0, 0)) (pc' := 2) (ls' := [some (.inl (some 35)), some (zi xk), none]) (st' := [zi xk, zi y2522]) (by decide +kernel) (fun k q => by cases q) rfl ?_
  refine y_si (c := 299) (len := 3) (r := (0, 0, 0, 0)) (by decide +kernel) (by decide) (fun y2523 hy2523 => ?_)
  refine y_cI (i := .invokestatic 57) (len := 3) (r := (1, 267, 60, 509)) (nL := 2) (k := 1) (n := 2) (hs := []) (args := [zi xk, zi y2523]) (rest := [zi y2522]) (l0 := [some (zi xk), some (zi y2523)]) (by decide +kernel) (Or.inl ⟨_, rfl⟩) rfl rfl rfl rfl (Nat.le_of_ble_eq_true rfl) rfl rfl (qI_le (by omega) (e_jmin (d := 0))) (fun y2524 qy2524 hRy2524 => ?_)
  obtain ⟨rfl, my2524, wy2524⟩ := hRy2524
  refine y_cI (i := .invokestatic 63) (len := 3) (r := (1, 266, 60, 510)) (nL := 2) (k := 1) (n := 2) (hs := []) (args := [zi y2522, zi y2524]) (rest := []) (l0 := [some (zi y2522), some (zi y2524)]) (by decide +kernel) (Or.inl ⟨_, rfl⟩) rfl rfl rfl rfl (Nat.le_of_ble_eq_true rfl) rfl rfl (qI_le (by omega) (e_jmax (d := 0))) (fun y2525 qy2525 hRy2525 => ?_)
  obtain ⟨rfl, my2525, wy2525⟩ := hRy2525
  refine y_same (i := .istore_n 2) (len := 1) (r := (0, 0, 0, 0)) (pc' := 12) (ls' := [some (.inl (some 35)), some (zi xk), some (zi y2525)]) (st' := []) (by decide +kernel) (fun k q => by cases q) rfl ?_
  refine y_same (i := .aload_n 0) (len := 1) (r := (0, 0, 0, 0)) (pc' := 13) (ls' := [some (.inl (some 35)), some (zi xk), some (zi y2525)]) (st' := [.inl (some 35)]) (by decide +kernel) (fun k q => by cases q) rfl ?_
  refine y_get (j := 11) (len := 3) (r := (4, 1, 2, 283)) (by decide +kernel) hg (tv35 hg) aw35 rfl rfl (g_rU (f := 1) (T2 := 36) hg (tv35 hg) aw35 rfl (by decide)) ?_
  refine y_same (i := .iload_n 2) (len := 1) (r := (0, 0, 0, 0)) (pc' := 17) (ls' := [some (.inl (some 35)), some (zi xk), some (zi y2525)]) (st' := [zi y2525, .inl (some 36)]) (by decide +kernel) (fun k q => by cases q) rfl ?_
  refine y_aal (i := k) (len := 1) (r := (0, 0, 0, 0)) (by decide +kernel) hg (tv36 hg) aw36 rfl (by omega) ra ?_
  refine y_nnT (off := 16) (pc' := 34) (len := 3) (r := (0, 0, 0, 0)) (by decide +kernel) (by decide +kernel) (lt_mm hg ta) ?_
  refine y_same (i := .aload_n 0) (len := 1) (r := (0, 0, 0, 0)) (pc' := 35) (ls' := [some (.inl (some 35)), some (zi xk), some (zi y2525)]) (st' := [.inl (some 35)]) (by decide +kernel) (fun k q => by cases q) rfl ?_
  refine y_get (j := 11) (len := 3) (r := (4, 1, 2, 283)) (by decide +kernel) hg (tv35 hg) aw35 rfl rfl (g_rU (f := 1) (T2 := 36) hg (tv35 hg) aw35 rfl (by decide)) ?_
  refine y_same (i := .iload_n 2) (len := 1) (r := (0, 0, 0, 0)) (pc' := 39) (ls' := [some (.inl (some 35)), some (zi xk), some (zi y2525)]) (st' := [zi y2525, .inl (some 36)]) (by decide +kernel) (fun k q => by cases q) rfl ?_
  refine y_aal (i := k) (len := 1) (r := (0, 0, 0, 0)) (by decide +kernel) hg (tv36 hg) aw36 rfl (by omega) ra ?_
  refine y_rA (len := 1) (r := (0, 0, 0, 0)) (nL := 3) (n9 := 2) (hs := []) (by decide +kernel) rfl ?_
  rfl
theorem e_slz35 {d t k : Nat} {τ : List Nat} {h : zh} {xk : Int32} (hg : hG τ h) (exk : xk.toInt = (k : Int)) (hk : k < 300) (rz : hsl h 36 k = some (.inl none)) : qA (d + 4) 33 [some (.inl (some 35)), some (zi xk), none] h t h.length (fun h1 => h1 = hup (h ++ seqC h.length) 36 k (some h.length |> .inl)) := by
  obtain ⟨-, cA, hcA, htyA⟩ := hg.1.2.2.2 36 36 (tv36 hg)
  obtain ⟨fsA, rfl, hlA⟩ := tyc_arr aw36 htyA
  obtain ⟨-, cP, hcP, htyP⟩ := hg.1.2.2.2 35 35 (tv35 hg)
  obtain ⟨fsP, rfl, hlP⟩ := tyc_obj aw35 htyP
  have hj9 : h.length ≤ 5899 := by
    have h9 := hg.2.1
    omega
  have hp1 : fsP[1]? = some (.inl (some 36)) := by
    have e := g_rU (f := 1) (T2 := 36) hg (tv35 hg) aw35 rfl (by decide)
    rw [hsl_obj hcP] at e
    exact e
  refine qA_le (Nat.le_refl (d + 4)) (qA_of ?_)
  refine y_ic (c := 0) (len := 1) (r := (0, 0, 0, 0)) (by decide +kernel) (by decide) (fun y2526 hy2526 => ?_)
  refine y_same (i := .iload_n 1) (len := 1) (r := (0, 0, 0, 0)) (pc' := 2) (ls' := [some (.inl (some 35)), some (zi xk), none]) (st' := [zi xk, zi y2526]) (by decide +kernel) (fun k q => by cases q) rfl ?_
  refine y_si (c := 299) (len := 3) (r := (0, 0, 0, 0)) (by decide +kernel) (by decide) (fun y2527 hy2527 => ?_)
  refine y_cI (i := .invokestatic 57) (len := 3) (r := (1, 267, 60, 509)) (nL := 2) (k := 1) (n := 2) (hs := []) (args := [zi xk, zi y2527]) (rest := [zi y2526]) (l0 := [some (zi xk), some (zi y2527)]) (by decide +kernel) (Or.inl ⟨_, rfl⟩) rfl rfl rfl rfl (Nat.le_of_ble_eq_true rfl) rfl rfl (qI_le (by omega) (e_jmin (d := 0))) (fun y2528 qy2528 hRy2528 => ?_)
  obtain ⟨rfl, my2528, wy2528⟩ := hRy2528
  refine y_cI (i := .invokestatic 63) (len := 3) (r := (1, 266, 60, 510)) (nL := 2) (k := 1) (n := 2) (hs := []) (args := [zi y2526, zi y2528]) (rest := []) (l0 := [some (zi y2526), some (zi y2528)]) (by decide +kernel) (Or.inl ⟨_, rfl⟩) rfl rfl rfl rfl (Nat.le_of_ble_eq_true rfl) rfl rfl (qI_le (by omega) (e_jmax (d := 0))) (fun y2529 qy2529 hRy2529 => ?_)
  obtain ⟨rfl, my2529, wy2529⟩ := hRy2529
  refine y_same (i := .istore_n 2) (len := 1) (r := (0, 0, 0, 0)) (pc' := 12) (ls' := [some (.inl (some 35)), some (zi xk), some (zi y2529)]) (st' := []) (by decide +kernel) (fun k q => by cases q) rfl ?_
  refine y_same (i := .aload_n 0) (len := 1) (r := (0, 0, 0, 0)) (pc' := 13) (ls' := [some (.inl (some 35)), some (zi xk), some (zi y2529)]) (st' := [.inl (some 35)]) (by decide +kernel) (fun k q => by cases q) rfl ?_
  refine y_get (j := 11) (len := 3) (r := (4, 1, 2, 283)) (by decide +kernel) hg (tv35 hg) aw35 rfl rfl (g_rU (f := 1) (T2 := 36) hg (tv35 hg) aw35 rfl (by decide)) ?_
  refine y_same (i := .iload_n 2) (len := 1) (r := (0, 0, 0, 0)) (pc' := 17) (ls' := [some (.inl (some 35)), some (zi xk), some (zi y2529)]) (st' := [zi y2529, .inl (some 36)]) (by decide +kernel) (fun k q => by cases q) rfl ?_
  refine y_aal (i := k) (len := 1) (r := (0, 0, 0, 0)) (by decide +kernel) hg (tv36 hg) aw36 rfl (by omega) rz ?_
  refine y_same (i := .ifnonnull 16) (len := 3) (r := (0, 0, 0, 0)) (pc' := 21) (ls' := [some (.inl (some 35)), some (zi xk), some (zi y2529)]) (st' := []) (by decide +kernel) (fun k q => by cases q) rfl ?_
  exact ⟨_, slot_B (d := d + 1) hcP hp1 hcA (by omega) (show y2529.toInt = (k : Int) by omega) (by omega), _, rfl, rfl⟩
theorem e_slot35 {d t k : Nat} {τ : List Nat} {h : zh} {xk : Int32} (hg : hG τ h) (cm : cmI h 36) (exk : xk.toInt = (k : Int)) (hk : k < 300) : ∃ a, qA (d + 4) 33 [some (.inl (some 35)), some (zi xk), none] h t a (fun h1 => ∃ τ1, aup τ τ1 ∧ hG τ1 h1 ∧ cmI h1 36 ∧ rfs h1 36 k a ∧ LQ τ1 h1 a ∧ 388 < a ∧ ∀ k' j, k' < h.length → (k' ≠ 36 ∨ j ≠ k) → hsl h1 k' j = hsl h k' j) := by
  have hL := len_389 hg
  rcases cm.1 k hk with rz | ⟨a, ra, ha, la⟩
  · refine ⟨h.length, qA_mono (e_slz35 hg exk hk rz) (fun h1 e => ?_)⟩
    subst e
    obtain ⟨-, cA, hcA, htyA⟩ := hg.1.2.2.2 36 36 (tv36 hg)
    obtain ⟨fsA, rfl, hlA⟩ := tyc_arr aw36 htyA
    have hj9 : h.length ≤ 5899 := by
      have h9 := hg.2.1
      omega
    have hty := seq_ty hg.1 (by omega)
    have hnew : (τ ++ seqT)[h.length]? = some 1008 := by
      have h9 := app_at (a := τ) (b := seqT) (k := 0) hg.1.1
      exact h9
    have hcA2 : (h ++ seqC h.length)[36]? = some (.inl (4, fsA)) := by rw [List.getElem?_append_left (by omega)]; exact hcA
    have ha2 : hsl (h ++ seqC h.length) 36 k = some (.inl none) := by
      rw [hsl_arr hcA2]
      have e := rz
      rw [hsl_arr hcA] at e
      exact e
    have f4 : fsA[k]? = some (.inl none) := by
      have e := rz
      rw [hsl_arr hcA] at e
      exact e
    have hM2 : hM (τ ++ seqT) (hup (h ++ seqC h.length) 36 k (.inl (some h.length))) := by
      refine hM_hup (w := .inl none) hty (aup_app _ _ _ _ (tv36 hg)) aw36 (qq := .inr (.inl (1008, true))) ?_ (Or.inr ⟨_, rfl, hnew⟩)
      show (bif Nat.blt k 300 then some (.inr (.inl (1008, true)) : qs) else none) = _
      rw [bltT.mpr hk]
      rfl
    have hG2 : hG (τ ++ seqT) (hup (h ++ seqC h.length) 36 k (.inl (some h.length))) := ⟨hM2, slot_J hg.2 hcA f4 (by omega) (by omega) _⟩
    have fr0 : ∀ k' j, k' < h.length → (k' ≠ 36 ∨ j ≠ k) → hsl (hup (h ++ seqC h.length) 36 k (.inl (some h.length))) k' j = hsl h k' j := by
      intro k' j hk' hne
      rw [hup_sl ha2, if_neg (by omega)]
      unfold hsl
      rw [List.getElem?_append_left hk']
    have fr1 : ∀ i j, i < 9 → hsl (hup (h ++ seqC h.length) 36 k (.inl (some h.length))) (h.length + i) j = hsl (seqC h.length) i j := by
      intro i j hi
      rw [hup_sl ha2, if_neg (by omega)]
      unfold hsl
      rw [List.getElem?_append_right (by omega), Nat.add_sub_cancel_left]
    have pa : rfs (hup (h ++ seqC h.length) 36 k (.inl (some h.length))) 36 k h.length := by
      show hsl _ _ _ = _
      rw [hup_sl ha2, if_pos ⟨rfl, rfl⟩]
    have la : laQ (hup (h ++ seqC h.length) 36 k (.inl (some h.length))) h.length := ⟨fr1 0 0 (by decide), fr1 0 1 (by decide), fr1 0 2 (by decide), fr1 0 3 (by decide), fr1 1 0 (by decide), fr1 3 0 (by decide), fr1 5 0 (by decide), fr1 7 0 (by decide)⟩
    have old : ∀ k' b, k' < 300 → k' ≠ k → rfs (hup (h ++ seqC h.length) 36 k (.inl (some h.length))) 36 k' b → rfs h 36 k' b := fun k' b _ hn r => (fr0 36 k' (by omega) (by omega)).symm.trans r
    have lt : ∀ k' b, k' < 300 → rfs h 36 k' b → tyQ τ b ∧ b + 8 < h.length := fun k' b hk' r => by
      rcases cm.1 k' hk' with e | ⟨b', r', hb, l⟩
      · have := r.symm.trans e
        cases this
      · have e := rfs_eq r r'
        subst e
        obtain ⟨v, e, e2⟩ := g_slot36 hg hk'
        have e3 := r.symm.trans e
        cases e3
        rcases e2 with e2 | ⟨b2, e2, e3⟩
        · cases e2
        · cases e2
          have ty := tyQ_of hg e3 l
          exact ⟨ty, ty_lt hg ty.2.2.2.2.2.2.2.2⟩
    refine ⟨τ ++ seqT, aup_app _ _, hG2, ⟨fun k' hk' => ?_, fun k1 k2 b h1 h2 r1 r2 => ?_⟩, pa, ⟨hG2, tyQ_of hG2 hnew la, la⟩, hL, fr0⟩
    · by_cases e : k' = k
      · subst e
        exact Or.inr ⟨_, pa, hL, la⟩
      · rcases cm.1 k' hk' with e2 | ⟨b, r, hb, l⟩
        · exact Or.inl ((fr0 36 k' (by omega) (by omega)).trans e2)
        · have := (lt k' b hk' r).2
          exact Or.inr ⟨b, rfs_up r (fr0 36 k' (by omega) (by omega)), hb, laQ_up l (fun k9 j h1 h2 _ _ => fr0 k9 j (by omega) (by omega))⟩
    · by_cases e1 : k1 = k
      · by_cases e2 : k2 = k
        · omega
        · exfalso
          subst e1
          have e := rfs_eq pa r1
          subst e
          have := (lt k2 _ h2 (old k2 _ h2 e2 r2)).2
          omega
      · by_cases e2 : k2 = k
        · exfalso
          subst e2
          have e := rfs_eq pa r2
          subst e
          have := (lt k1 _ h1 (old k1 _ h1 e1 r1)).2
          omega
        · exact cm.2 k1 k2 b h1 h2 (old k1 b h1 e1 r1) (old k2 b h2 e2 r2)
  · refine ⟨a, qA_mono (qA_le (by omega) (e_slo35 (d := 0) hg exk hk ra)) (fun h1 e => ?_)⟩
    subst e
    obtain ⟨v, e, e2⟩ := g_slot36 hg hk
    have e3 := ra.symm.trans e
    cases e3
    have ta : τ[a]? = some 1008 := by
      rcases e2 with e2 | ⟨b, e2, e3⟩
      · cases e2
      · cases e2
        exact e3
    exact ⟨τ, aup_refl _, hg, cm, ra, ⟨hg, tyQ_of hg ta la, la⟩, ha, fun k' j _ _ => rfl⟩
theorem q_frk {d t a st : Nat} {τ : List Nat} {h : zh} {s : sqT} (Q : QC τ h a s) (cs : ci_ h a 4 st) : qI (d + 1) 97 [some (.inl (some a))] h t (fun y h1 => h = h1 ∧ ((y.toInt = 1 ∧ (st = 6 ∨ st = 7)) ∨ (y.toInt = 0 ∧ ¬ (st = 6 ∨ st = 7)))) := by
  obtain ⟨xs, hxs, es⟩ := cs
  refine qI_of ?_
  refine y_same (i := .aload_n 0) (len := 1) (r := (0, 0, 0, 0)) (pc' := 1) (ls' := [some (.inl (some a))]) (st' := [.inl (some a)]) (by decide +kernel) (fun k q => by cases q) rfl ?_
  refine y_get (j := 33) (len := 3) (r := (7, 4, 0, 542)) (by decide +kernel) Q.1 Q.2.1.1 aw1008 rfl rfl hxs ?_
  refine y_bi (c := 6) (len := 2) (r := (0, 0, 0, 0)) (by decide +kernel) (by decide) (fun y2530 hy2530 => ?_)
  rcases Decidable.em (xs.toInt = y2530.toInt) with q2531 | q2531
  ·
    refine y_cT (c := .eq) (off := 12) (pc' := 18) (len := 3) (r := (0, 0, 0, 0)) (by decide +kernel) (acmpT (c := .eq) (by show _ = _; omega)) (by decide +kernel) ?_
    refine y_ic (c := 1) (len := 1) (r := (0, 0, 0, 0)) (by decide +kernel) (by decide) (fun y2532 hy2532 => ?_)
    refine y_goto (off := 4) (pc' := 23) (len := 3) (r := (0, 0, 0, 0)) (by decide +kernel) (by decide +kernel) ?_
    refine y_rI (len := 1) (r := (0, 0, 0, 0)) (nL := 1) (k := 2) (n9 := 1) (hs := []) (by decide +kernel) rfl (zfit_b (by omega) (by omega)).2 ?_
    exact ⟨rfl, Or.inl ⟨by omega, by omega⟩⟩
  ·
    refine y_cF (c := .eq) (off := 12) (len := 3) (r := (0, 0, 0, 0)) (by decide +kernel) (acmpF (c := .eq) (by show ¬ (_ = _); omega)) ?_
    refine y_same (i := .aload_n 0) (len := 1) (r := (0, 0, 0, 0)) (pc' := 10) (ls' := [some (.inl (some a))]) (st' := [.inl (some a)]) (by decide +kernel) (fun k q => by cases q) rfl ?_
    refine y_get (j := 33) (len := 3) (r := (7, 4, 0, 542)) (by decide +kernel) Q.1 Q.2.1.1 aw1008 rfl rfl hxs ?_
    refine y_bi (c := 7) (len := 2) (r := (0, 0, 0, 0)) (by decide +kernel) (by decide) (fun y2533 hy2533 => ?_)
    rcases Decidable.em (xs.toInt ≠ y2533.toInt) with q2534 | q2534
    ·
      refine y_cT (c := .ne) (off := 7) (pc' := 22) (len := 3) (r := (0, 0, 0, 0)) (by decide +kernel) (acmpT (c := .ne) (by show ¬ (_ = _); omega)) (by decide +kernel) ?_
      refine y_ic (c := 0) (len := 1) (r := (0, 0, 0, 0)) (by decide +kernel) (by decide) (fun y2535 hy2535 => ?_)
      refine y_rI (len := 1) (r := (0, 0, 0, 0)) (nL := 1) (k := 2) (n9 := 1) (hs := []) (by decide +kernel) rfl (zfit_b (by omega) (by omega)).2 ?_
      exact ⟨rfl, Or.inr ⟨by omega, by omega⟩⟩
    ·
      refine y_cF (c := .ne) (off := 7) (len := 3) (r := (0, 0, 0, 0)) (by decide +kernel) (acmpF (c := .ne) (by show _ = _; omega)) ?_
      refine y_ic (c := 1) (len := 1) (r := (0, 0, 0, 0)) (by decide +kernel) (by decide) (fun y2536 hy2536 => ?_)
      refine y_goto (off := 4) (pc' := 23) (len := 3) (r := (0, 0, 0, 0)) (by decide +kernel) (by decide +kernel) ?_
      refine y_rI (len := 1) (r := (0, 0, 0, 0)) (nL := 1) (k := 2) (n9 := 1) (hs := []) (by decide +kernel) rfl (zfit_b (by omega) (by omega)).2 ?_
      exact ⟨rfl, Or.inl ⟨by omega, by omega⟩⟩
theorem e_tw028 {d t : Nat} {τ : List Nat} {h : zh} (hg : hG τ h) (c7 : ci_ h 28 7 0) : qI (d + 1) 39 [some (.inl (some 28))] h t (fun y h1 => h = h1 ∧ y.toInt = -1) := by
  obtain ⟨xw, hw, ew⟩ := c7
  refine qI_of ?_
  refine y_same (i := .aload_n 0) (len := 1) (r := (0, 0, 0, 0)) (pc' := 1) (ls' := [some (.inl (some 28))]) (st' := [.inl (some 28)]) (by decide +kernel) (fun k q => by cases q) rfl ?_
  refine y_get (j := 39) (len := 3) (r := (4, 7, 0, 291)) (by decide +kernel) hg (tv28 hg) aw28 rfl rfl hw ?_
  refine y_iT (c := .le) (off := 12) (pc' := 16) (len := 3) (r := (0, 0, 0, 0)) (by decide +kernel) (acmpT (c := .le) (by show _ ≤ _; omega)) (by decide +kernel) ?_
  refine y_ic (c := (-1)) (len := 1) (r := (0, 0, 0, 0)) (by decide +kernel) (by decide) (fun y2537 hy2537 => ?_)
  refine y_rI (len := 1) (r := (0, 0, 0, 0)) (nL := 1) (k := 1) (n9 := 1) (hs := []) (by decide +kernel) rfl rfl ?_
  exact ⟨rfl, by omega⟩
theorem e_tw28 {d t n w : Nat} {τ : List Nat} {h : zh} (hg : hG τ h) (c7 : ci_ h 28 7 (n + 1)) (hn : n < 40) (cw : ci_ h 30 n w) : qI (d + 1) 39 [some (.inl (some 28))] h t (fun y h1 => y.toInt = (w : Int) ∧ hG τ h1 ∧ ci_ h1 28 7 n ∧ ∀ k j, (k ≠ 28 ∨ j ≠ 7) → hsl h1 k j = hsl h k j) := by
  obtain ⟨xw, hw, ew⟩ := c7
  obtain ⟨xv, hv, ev⟩ := cw
  refine qI_of ?_
  refine y_same (i := .aload_n 0) (len := 1) (r := (0, 0, 0, 0)) (pc' := 1) (ls' := [some (.inl (some 28))]) (st' := [.inl (some 28)]) (by decide +kernel) (fun k q => by cases q) rfl ?_
  refine y_get (j := 39) (len := 3) (r := (4, 7, 0, 291)) (by decide +kernel) hg (tv28 hg) aw28 rfl rfl hw ?_
  refine y_iF (c := .le) (off := 12) (len := 3) (r := (0, 0, 0, 0)) (by decide +kernel) (acmpF (c := .le) (by show _ < _; omega)) ?_
  refine y_same (i := .aload_n 0) (len := 1) (r := (0, 0, 0, 0)) (pc' := 8) (ls' := [some (.inl (some 28))]) (st' := [.inl (some 28)]) (by decide +kernel) (fun k q => by cases q) rfl ?_
  refine y_get (j := 39) (len := 3) (r := (4, 7, 0, 291)) (by decide +kernel) hg (tv28 hg) aw28 rfl rfl hw ?_
  refine y_bi (c := 40) (len := 2) (r := (0, 0, 0, 0)) (by decide +kernel) (by decide) (fun y2538 hy2538 => ?_)
  refine y_cT (c := .le) (off := 5) (pc' := 18) (len := 3) (r := (0, 0, 0, 0)) (by decide +kernel) (acmpT (c := .le) (by show _ ≤ _; omega)) (by decide +kernel) ?_
  refine y_same (i := .aload_n 0) (len := 1) (r := (0, 0, 0, 0)) (pc' := 19) (ls' := [some (.inl (some 28))]) (st' := [.inl (some 28)]) (by decide +kernel) (fun k q => by cases q) rfl ?_
  refine y_same (i := .dup) (len := 1) (r := (0, 0, 0, 0)) (pc' := 20) (ls' := [some (.inl (some 28))]) (st' := [.inl (some 28), .inl (some 28)]) (by decide +kernel) (fun k q => by cases q) rfl ?_
  refine y_get (j := 39) (len := 3) (r := (4, 7, 0, 291)) (by decide +kernel) hg (tv28 hg) aw28 rfl rfl hw ?_
  refine y_ic (c := 1) (len := 1) (r := (0, 0, 0, 0)) (by decide +kernel) (by decide) (fun y2539 hy2539 => ?_)
  refine y_sub (len := 1) (r := (0, 0, 0, 0)) (by decide +kernel) (by omega) (by omega) (fun y2540 hy2540 => ?_)
  refine y_put (j := 39) (lo := (-2147483648)) (hi := 2147483647) (len := 3) (r := (4, 7, 0, 291)) (by decide +kernel) hg (tv28 hg) aw28 rfl rfl (by decide) rfl (qin_full _).1 (qin_full _).2 rfl (fun h2541 hg2541 hl2541 hs2541 ho2541 => ?_)
  have ho2541 : hO 28 7 h h2541 := ho2541
  have hs2541 : hsl h2541 28 7 = some (zi y2540) := hs2541
  refine y_same (i := .aload_n 0) (len := 1) (r := (0, 0, 0, 0)) (pc' := 29) (ls' := [some (.inl (some 28))]) (st' := [.inl (some 28)]) (by decide +kernel) (fun k q => by cases q) rfl ?_
  refine y_get (j := 17) (len := 3) (r := (4, 2, 2, 284)) (by decide +kernel) hg2541 (tv28 hg2541) aw28 rfl rfl (g_rU (f := 2) (T2 := 30) hg2541 (tv28 hg2541) aw28 rfl (by decide)) ?_
  refine y_same (i := .aload_n 0) (len := 1) (r := (0, 0, 0, 0)) (pc' := 33) (ls' := [some (.inl (some 28))]) (st' := [.inl (some 28), .inl (some 30)]) (by decide +kernel) (fun k q => by cases q) rfl ?_
  refine y_get (j := 39) (len := 3) (r := (4, 7, 0, 291)) (by decide +kernel) hg2541 (tv28 hg2541) aw28 rfl rfl hs2541 ?_
  refine y_ial (i := n) (len := 1) (r := (0, 0, 0, 0)) (by decide +kernel) hg2541 (tv30 hg2541) aw30 (by omega) ((ho2541 30 n (by omega)).trans hv) ?_
  refine y_rI (len := 1) (r := (0, 0, 0, 0)) (nL := 1) (k := 1) (n9 := 1) (hs := []) (by decide +kernel) rfl rfl ?_
  exact ⟨ev, hg2541, ⟨_, hs2541, by omega⟩, fun k j hC => ho2541 k j (by omega)⟩
theorem e_lw28 {d t n w : Nat} {τ : List Nat} {h : zh} {xv : Int32} (hg : hG τ h) (c7 : ci_ h 28 7 n) (hn : n < 40) (exv : xv.toInt = (w : Int)) : qV (d + 1) 40 [some (.inl (some 28)), some (zi xv)] h t (fun h1 => hG τ h1 ∧ ci_ h1 28 7 (n + 1) ∧ ci_ h1 30 n w ∧ ∀ k j, ((k ≠ 28 ∨ j ≠ 7) ∧ (k ≠ 30 ∨ j ≠ n)) → hsl h1 k j = hsl h k j) := by
  obtain ⟨xw, hw, ew⟩ := c7
  refine qV_of ?_
  refine y_same (i := .aload_n 0) (len := 1) (r := (0, 0, 0, 0)) (pc' := 1) (ls' := [some (.inl (some 28)), some (zi xv)]) (st' := [.inl (some 28)]) (by decide +kernel) (fun k q => by cases q) rfl ?_
  refine y_get (j := 39) (len := 3) (r := (4, 7, 0, 291)) (by decide +kernel) hg (tv28 hg) aw28 rfl rfl hw ?_
  refine y_iF (c := .lt) (off := 32) (len := 3) (r := (0, 0, 0, 0)) (by decide +kernel) (acmpF (c := .lt) (by show _ ≤ _; omega)) ?_
  refine y_same (i := .aload_n 0) (len := 1) (r := (0, 0, 0, 0)) (pc' := 8) (ls' := [some (.inl (some 28)), some (zi xv)]) (st' := [.inl (some 28)]) (by decide +kernel) (fun k q => by cases q) rfl ?_
  refine y_get (j := 39) (len := 3) (r := (4, 7, 0, 291)) (by decide +kernel) hg (tv28 hg) aw28 rfl rfl hw ?_
  refine y_bi (c := 40) (len := 2) (r := (0, 0, 0, 0)) (by decide +kernel) (by decide) (fun y2542 hy2542 => ?_)
  refine y_cF (c := .ge) (off := 23) (len := 3) (r := (0, 0, 0, 0)) (by decide +kernel) (acmpF (c := .ge) (by show _ < _; omega)) ?_
  refine y_same (i := .aload_n 0) (len := 1) (r := (0, 0, 0, 0)) (pc' := 17) (ls' := [some (.inl (some 28)), some (zi xv)]) (st' := [.inl (some 28)]) (by decide +kernel) (fun k q => by cases q) rfl ?_
  refine y_get (j := 17) (len := 3) (r := (4, 2, 2, 284)) (by decide +kernel) hg (tv28 hg) aw28 rfl rfl (g_rU (f := 2) (T2 := 30) hg (tv28 hg) aw28 rfl (by decide)) ?_
  refine y_same (i := .aload_n 0) (len := 1) (r := (0, 0, 0, 0)) (pc' := 21) (ls' := [some (.inl (some 28)), some (zi xv)]) (st' := [.inl (some 28), .inl (some 30)]) (by decide +kernel) (fun k q => by cases q) rfl ?_
  refine y_get (j := 39) (len := 3) (r := (4, 7, 0, 291)) (by decide +kernel) hg (tv28 hg) aw28 rfl rfl hw ?_
  refine y_same (i := .iload_n 1) (len := 1) (r := (0, 0, 0, 0)) (pc' := 25) (ls' := [some (.inl (some 28)), some (zi xv)]) (st' := [zi xv, zi xw, .inl (some 30)]) (by decide +kernel) (fun k q => by cases q) rfl ?_
  refine y_ias (i := n) (len := 1) (r := (0, 0, 0, 0)) (by decide +kernel) hg (tv30 hg) aw30 rfl (by omega) (by omega) (sr1 (by omega)) (qin_full _).1 (qin_full _).2 (fun h2543 hg2543 hl2543 hs2543 ho2543 => ?_)
  refine y_same (i := .aload_n 0) (len := 1) (r := (0, 0, 0, 0)) (pc' := 27) (ls' := [some (.inl (some 28)), some (zi xv)]) (st' := [.inl (some 28)]) (by decide +kernel) (fun k q => by cases q) rfl ?_
  refine y_same (i := .dup) (len := 1) (r := (0, 0, 0, 0)) (pc' := 28) (ls' := [some (.inl (some 28)), some (zi xv)]) (st' := [.inl (some 28), .inl (some 28)]) (by decide +kernel) (fun k q => by cases q) rfl ?_
  have hv2544 := (ho2543 28 7 (Or.inl (by omega))).trans hw
  refine y_get (j := 39) (len := 3) (r := (4, 7, 0, 291)) (by decide +kernel) hg2543 (tv28 hg2543) aw28 rfl rfl hv2544 ?_
  refine y_ic (c := 1) (len := 1) (r := (0, 0, 0, 0)) (by decide +kernel) (by decide) (fun y2545 hy2545 => ?_)
  refine y_add (len := 1) (r := (0, 0, 0, 0)) (by decide +kernel) (by omega) (by omega) (fun y2546 hy2546 => ?_)
  refine y_put (j := 39) (lo := (-2147483648)) (hi := 2147483647) (len := 3) (r := (4, 7, 0, 291)) (by decide +kernel) hg2543 (tv28 hg2543) aw28 rfl rfl (by decide) rfl (qin_full _).1 (qin_full _).2 rfl (fun h2547 hg2547 hl2547 hs2547 ho2547 => ?_)
  have ho2547 : hO 28 7 h2543 h2547 := ho2547
  have hs2547 : hsl h2547 28 7 = some (zi y2546) := hs2547
  refine y_rV (len := 1) (r := (0, 0, 0, 0)) (nL := 2) (n9 := 2) (hs := []) (by decide +kernel) rfl ?_
  have hv2548 := (ho2547 30 n (Or.inl (by omega))).trans hs2543
  exact ⟨hg2547, ⟨_, hs2547, by omega⟩, ⟨_, hv2548, exv⟩, fun k j hC => ((ho2547 k j (by omega)).trans (ho2543 k j (by omega)))⟩
theorem e_tw035 {d t : Nat} {τ : List Nat} {h : zh} (hg : hG τ h) (c7 : ci_ h 35 7 0) : qI (d + 1) 39 [some (.inl (some 35))] h t (fun y h1 => h = h1 ∧ y.toInt = -1) := by
  obtain ⟨xw, hw, ew⟩ := c7
  refine qI_of ?_
  refine y_same (i := .aload_n 0) (len := 1) (r := (0, 0, 0, 0)) (pc' := 1) (ls' := [some (.inl (some 35))]) (st' := [.inl (some 35)]) (by decide +kernel) (fun k q => by cases q) rfl ?_
  refine y_get (j := 39) (len := 3) (r := (4, 7, 0, 291)) (by decide +kernel) hg (tv35 hg) aw35 rfl rfl hw ?_
  refine y_iT (c := .le) (off := 12) (pc' := 16) (len := 3) (r := (0, 0, 0, 0)) (by decide +kernel) (acmpT (c := .le) (by show _ ≤ _; omega)) (by decide +kernel) ?_
  refine y_ic (c := (-1)) (len := 1) (r := (0, 0, 0, 0)) (by decide +kernel) (by decide) (fun y2549 hy2549 => ?_)
  refine y_rI (len := 1) (r := (0, 0, 0, 0)) (nL := 1) (k := 1) (n9 := 1) (hs := []) (by decide +kernel) rfl rfl ?_
  exact ⟨rfl, by omega⟩
theorem e_tw35 {d t n w : Nat} {τ : List Nat} {h : zh} (hg : hG τ h) (c7 : ci_ h 35 7 (n + 1)) (hn : n < 40) (cw : ci_ h 37 n w) : qI (d + 1) 39 [some (.inl (some 35))] h t (fun y h1 => y.toInt = (w : Int) ∧ hG τ h1 ∧ ci_ h1 35 7 n ∧ ∀ k j, (k ≠ 35 ∨ j ≠ 7) → hsl h1 k j = hsl h k j) := by
  obtain ⟨xw, hw, ew⟩ := c7
  obtain ⟨xv, hv, ev⟩ := cw
  refine qI_of ?_
  refine y_same (i := .aload_n 0) (len := 1) (r := (0, 0, 0, 0)) (pc' := 1) (ls' := [some (.inl (some 35))]) (st' := [.inl (some 35)]) (by decide +kernel) (fun k q => by cases q) rfl ?_
  refine y_get (j := 39) (len := 3) (r := (4, 7, 0, 291)) (by decide +kernel) hg (tv35 hg) aw35 rfl rfl hw ?_
  refine y_iF (c := .le) (off := 12) (len := 3) (r := (0, 0, 0, 0)) (by decide +kernel) (acmpF (c := .le) (by show _ < _; omega)) ?_
  refine y_same (i := .aload_n 0) (len := 1) (r := (0, 0, 0, 0)) (pc' := 8) (ls' := [some (.inl (some 35))]) (st' := [.inl (some 35)]) (by decide +kernel) (fun k q => by cases q) rfl ?_
  refine y_get (j := 39) (len := 3) (r := (4, 7, 0, 291)) (by decide +kernel) hg (tv35 hg) aw35 rfl rfl hw ?_
  refine y_bi (c := 40) (len := 2) (r := (0, 0, 0, 0)) (by decide +kernel) (by decide) (fun y2550 hy2550 => ?_)
  refine y_cT (c := .le) (off := 5) (pc' := 18) (len := 3) (r := (0, 0, 0, 0)) (by decide +kernel) (acmpT (c := .le) (by show _ ≤ _; omega)) (by decide +kernel) ?_
  refine y_same (i := .aload_n 0) (len := 1) (r := (0, 0, 0, 0)) (pc' := 19) (ls' := [some (.inl (some 35))]) (st' := [.inl (some 35)]) (by decide +kernel) (fun k q => by cases q) rfl ?_
  refine y_same (i := .dup) (len := 1) (r := (0, 0, 0, 0)) (pc' := 20) (ls' := [some (.inl (some 35))]) (st' := [.inl (some 35), .inl (some 35)]) (by decide +kernel) (fun k q => by cases q) rfl ?_
  refine y_get (j := 39) (len := 3) (r := (4, 7, 0, 291)) (by decide +kernel) hg (tv35 hg) aw35 rfl rfl hw ?_
  refine y_ic (c := 1) (len := 1) (r := (0, 0, 0, 0)) (by decide +kernel) (by decide) (fun y2551 hy2551 => ?_)
  refine y_sub (len := 1) (r := (0, 0, 0, 0)) (by decide +kernel) (by omega) (by omega) (fun y2552 hy2552 => ?_)
  refine y_put (j := 39) (lo := (-2147483648)) (hi := 2147483647) (len := 3) (r := (4, 7, 0, 291)) (by decide +kernel) hg (tv35 hg) aw35 rfl rfl (by decide) rfl (qin_full _).1 (qin_full _).2 rfl (fun h2553 hg2553 hl2553 hs2553 ho2553 => ?_)
  have ho2553 : hO 35 7 h h2553 := ho2553
  have hs2553 : hsl h2553 35 7 = some (zi y2552) := hs2553
  refine y_same (i := .aload_n 0) (len := 1) (r := (0, 0, 0, 0)) (pc' := 29) (ls' := [some (.inl (some 35))]) (st' := [.inl (some 35)]) (by decide +kernel) (fun k q => by cases q) rfl ?_
  refine y_get (j := 17) (len := 3) (r := (4, 2, 2, 284)) (by decide +kernel) hg2553 (tv35 hg2553) aw35 rfl rfl (g_rU (f := 2) (T2 := 37) hg2553 (tv35 hg2553) aw35 rfl (by decide)) ?_
  refine y_same (i := .aload_n 0) (len := 1) (r := (0, 0, 0, 0)) (pc' := 33) (ls' := [some (.inl (some 35))]) (st' := [.inl (some 35), .inl (some 37)]) (by decide +kernel) (fun k q => by cases q) rfl ?_
  refine y_get (j := 39) (len := 3) (r := (4, 7, 0, 291)) (by decide +kernel) hg2553 (tv35 hg2553) aw35 rfl rfl hs2553 ?_
  refine y_ial (i := n) (len := 1) (r := (0, 0, 0, 0)) (by decide +kernel) hg2553 (tv37 hg2553) aw37 (by omega) ((ho2553 37 n (by omega)).trans hv) ?_
  refine y_rI (len := 1) (r := (0, 0, 0, 0)) (nL := 1) (k := 1) (n9 := 1) (hs := []) (by decide +kernel) rfl rfl ?_
  exact ⟨ev, hg2553, ⟨_, hs2553, by omega⟩, fun k j hC => ho2553 k j (by omega)⟩
theorem e_lw35 {d t n w : Nat} {τ : List Nat} {h : zh} {xv : Int32} (hg : hG τ h) (c7 : ci_ h 35 7 n) (hn : n < 40) (exv : xv.toInt = (w : Int)) : qV (d + 1) 40 [some (.inl (some 35)), some (zi xv)] h t (fun h1 => hG τ h1 ∧ ci_ h1 35 7 (n + 1) ∧ ci_ h1 37 n w ∧ ∀ k j, ((k ≠ 35 ∨ j ≠ 7) ∧ (k ≠ 37 ∨ j ≠ n)) → hsl h1 k j = hsl h k j) := by
  obtain ⟨xw, hw, ew⟩ := c7
  refine qV_of ?_
  refine y_same (i := .aload_n 0) (len := 1) (r := (0, 0, 0, 0)) (pc' := 1) (ls' := [some (.inl (some 35)), some (zi xv)]) (st' := [.inl (some 35)]) (by decide +kernel) (fun k q => by cases q) rfl ?_
  refine y_get (j := 39) (len := 3) (r := (4, 7, 0, 291)) (by decide +kernel) hg (tv35 hg) aw35 rfl rfl hw ?_
  refine y_iF (c := .lt) (off := 32) (len := 3) (r := (0, 0, 0, 0)) (by decide +kernel) (acmpF (c := .lt) (by show _ ≤ _; omega)) ?_
  refine y_same (i := .aload_n 0) (len := 1) (r := (0, 0, 0, 0)) (pc' := 8) (ls' := [some (.inl (some 35)), some (zi xv)]) (st' := [.inl (some 35)]) (by decide +kernel) (fun k q => by cases q) rfl ?_
  refine y_get (j := 39) (len := 3) (r := (4, 7, 0, 291)) (by decide +kernel) hg (tv35 hg) aw35 rfl rfl hw ?_
  refine y_bi (c := 40) (len := 2) (r := (0, 0, 0, 0)) (by decide +kernel) (by decide) (fun y2554 hy2554 => ?_)
  refine y_cF (c := .ge) (off := 23) (len := 3) (r := (0, 0, 0, 0)) (by decide +kernel) (acmpF (c := .ge) (by show _ < _; omega)) ?_
  refine y_same (i := .aload_n 0) (len := 1) (r := (0, 0, 0, 0)) (pc' := 17) (ls' := [some (.inl (some 35)), some (zi xv)]) (st' := [.inl (some 35)]) (by decide +kernel) (fun k q => by cases q) rfl ?_
  refine y_get (j := 17) (len := 3) (r := (4, 2, 2, 284)) (by decide +kernel) hg (tv35 hg) aw35 rfl rfl (g_rU (f := 2) (T2 := 37) hg (tv35 hg) aw35 rfl (by decide)) ?_
  refine y_same (i := .aload_n 0) (len := 1) (r := (0, 0, 0, 0)) (pc' := 21) (ls' := [some (.inl (some 35)), some (zi xv)]) (st' := [.inl (some 35), .inl (some 37)]) (by decide +kernel) (fun k q => by cases q) rfl ?_
  refine y_get (j := 39) (len := 3) (r := (4, 7, 0, 291)) (by decide +kernel) hg (tv35 hg) aw35 rfl rfl hw ?_
  refine y_same (i := .iload_n 1) (len := 1) (r := (0, 0, 0, 0)) (pc' := 25) (ls' := [some (.inl (some 35)), some (zi xv)]) (st' := [zi xv, zi xw, .inl (some 37)]) (by decide +kernel) (fun k q => by cases q) rfl ?_
  refine y_ias (i := n) (len := 1) (r := (0, 0, 0, 0)) (by decide +kernel) hg (tv37 hg) aw37 rfl (by omega) (by omega) (sr1 (by omega)) (qin_full _).1 (qin_full _).2 (fun h2555 hg2555 hl2555 hs2555 ho2555 => ?_)
  refine y_same (i := .aload_n 0) (len := 1) (r := (0, 0, 0, 0)) (pc' := 27) (ls' := [some (.inl (some 35)), some (zi xv)]) (st' := [.inl (some 35)]) (by decide +kernel) (fun k q => by cases q) rfl ?_
  refine y_same (i := .dup) (len := 1) (r := (0, 0, 0, 0)) (pc' := 28) (ls' := [some (.inl (some 35)), some (zi xv)]) (st' := [.inl (some 35), .inl (some 35)]) (by decide +kernel) (fun k q => by cases q) rfl ?_
  have hv2556 := (ho2555 35 7 (Or.inl (by omega))).trans hw
  refine y_get (j := 39) (len := 3) (r := (4, 7, 0, 291)) (by decide +kernel) hg2555 (tv35 hg2555) aw35 rfl rfl hv2556 ?_
  refine y_ic (c := 1) (len := 1) (r := (0, 0, 0, 0)) (by decide +kernel) (by decide) (fun y2557 hy2557 => ?_)
  refine y_add (len := 1) (r := (0, 0, 0, 0)) (by decide +kernel) (by omega) (by omega) (fun y2558 hy2558 => ?_)
  refine y_put (j := 39) (lo := (-2147483648)) (hi := 2147483647) (len := 3) (r := (4, 7, 0, 291)) (by decide +kernel) hg2555 (tv35 hg2555) aw35 rfl rfl (by decide) rfl (qin_full _).1 (qin_full _).2 rfl (fun h2559 hg2559 hl2559 hs2559 ho2559 => ?_)
  have ho2559 : hO 35 7 h2555 h2559 := ho2559
  have hs2559 : hsl h2559 35 7 = some (zi y2558) := hs2559
  refine y_rV (len := 1) (r := (0, 0, 0, 0)) (nL := 2) (n9 := 2) (hs := []) (by decide +kernel) rfl ?_
  have hv2560 := (ho2559 37 n (Or.inl (by omega))).trans hs2555
  exact ⟨hg2559, ⟨_, hs2559, by omega⟩, ⟨_, hv2560, exv⟩, fun k j hC => ((ho2559 k j (by omega)).trans (ho2555 k j (by omega)))⟩
