/-! both provers' kept answers -/
def xI (h : zh) : Prop := ∀ k k' a, k < 300 → k' < 300 → rfs h 29 k a → rfs h 36 k' a → False
def en28 (h : zh) (L : List enT) : Prop := ci_ h 28 6 L.length ∧ L.length ≤ 300 ∧ ∀ (k : Nat) (e : enT), L[k]? = some e → ∃ a, rfs h 29 k a ∧ 388 < a ∧ laQ h a ∧ ci_ h a 4 e.2.1
def en35 (h : zh) (L : List enT) : Prop := ci_ h 35 6 L.length ∧ L.length ≤ 300 ∧ ∀ (k : Nat) (e : enT), L[k]? = some e → ∃ a, rfs h 36 k a ∧ 388 < a ∧ laQ h a ∧ ci_ h a 4 e.2.1 ∧ (e.2.1 ≠ 0 → sqC h a e.1 ∧ okQ e.1)
def JCb (h : zh) : Prop := cmI h 29 ∧ cmI h 36 ∧ xI h ∧ kx_ h 28 0 0 ∧ kx_ h 35 0 1
def JCx (h : zh) (cur : bsT) : Prop := JCb h ∧ (ci_ h 28 5 1 → en28 h (prfF cyP false cur).1) ∧ (ci_ h 35 5 1 → kx_ h 35 8 (prfF cyN true cur).2 ∧ ci_ h 38 2 (dns (prfF cyN true cur).1) ∧ en35 h (prfF cyN true cur).1)
def enM0 (h : zh) (L : List enT) : Prop := ci_ h 52 26 L.length ∧ L.length ≤ 300 ∧ ∀ (k : Nat) (e : enT), L[k]? = some e → ci_ h 373 k e.2.1
def enM1 (h : zh) (R : List enT × Nat) : Prop := kx_ h 52 27 R.2 ∧ ci_ h 52 29 (dns R.1) ∧ R.1.length ≤ 300 ∧ dnA h R.1 ∧ ∀ (k : Nat) (e : enT), R.1[k]? = some e → e.2.1 ≠ 0 → sqM h (71 + k) e.1 ∧ okQ e.1
def JMx (h : zh) (cur : bsT) : Prop := ci_ h 52 31 1 → (kx_ h 52 32 0 → enM0 h (prfF cyP false cur).1) ∧ (kx_ h 52 32 1 → enM1 h (prfF cyN true cur))
def kpXC (h h1 : zh) : Prop := (∀ k, hsl h1 29 k = hsl h 29 k) ∧ (∀ k, hsl h1 36 k = hsl h 36 k) ∧ hsl h1 28 0 = hsl h 28 0 ∧ hsl h1 35 0 = hsl h 35 0 ∧ hsl h1 28 6 = hsl h 28 6 ∧ hsl h1 35 6 = hsl h 35 6 ∧ hsl h1 35 8 = hsl h 35 8 ∧ hsl h1 38 2 = hsl h 38 2
def kpS (h h1 : zh) : Prop := ∀ a, 388 < a → laQ h a → (∃ k, k < 300 ∧ (rfs h 29 k a ∨ rfs h 36 k a)) → ∀ k j, a ≤ k → k < a + 9 → hsl h1 k j = hsl h k j
def kpXM (h h1 : zh) : Prop := (∀ j, hsl h1 373 j = hsl h 373 j) ∧ (∀ j, hsl h1 377 j = hsl h 377 j) ∧ (∀ k j, k < 300 → hsl h1 (71 + k) j = hsl h (71 + k) j) ∧ hsl h1 52 26 = hsl h 52 26 ∧ hsl h1 52 27 = hsl h 52 27 ∧ hsl h1 52 29 = hsl h 52 29 ∧ hsl h1 52 32 = hsl h 52 32
theorem cmI_x {h h1 : zh} {A : Nat} (c : cmI h A) (F : ∀ k, hsl h1 A k = hsl h A k) (S : ∀ a, 388 < a → laQ h a → (∃ k, k < 300 ∧ rfs h A k a) → ∀ k j, a ≤ k → k < a + 9 → hsl h1 k j = hsl h k j) : cmI h1 A := ⟨fun k hk => (c.1 k hk).elim (fun q => Or.inl ((F k).trans q)) (fun ⟨a, r, g, l⟩ => Or.inr ⟨a, rfs_up r (F k), g, laQ_up l (fun k' j h1 h2 _ _ => S a g l ⟨k, hk, r⟩ k' j h1 h2)⟩), fun k k' a hk hk' r r' => c.2 k k' a hk hk' (rfs_up r (F k).symm) (rfs_up r' (F k').symm)⟩
theorem JCb_x {h h1 : zh} (k : kpXC h h1) (s : kpS h h1) (j : JCb h) : JCb h1 := ⟨cmI_x j.1 k.1 (fun a g l ⟨n, hn, r⟩ => s a g l ⟨n, hn, Or.inl r⟩), cmI_x j.2.1 k.2.1 (fun a g l ⟨n, hn, r⟩ => s a g l ⟨n, hn, Or.inr r⟩), fun n m a hn hm r r' => j.2.2.1 n m a hn hm (rfs_up r (k.1 n).symm) (rfs_up r' (k.2.1 m).symm), kx_up j.2.2.2.1 k.2.2.1, kx_up j.2.2.2.2 k.2.2.2.1⟩
theorem en28_x {h h1 : zh} {L : List enT} (n : en28 h L) (F : ∀ k, hsl h1 29 k = hsl h 29 k) (f6 : hsl h1 28 6 = hsl h 28 6) (S : ∀ a, 388 < a → laQ h a → (∃ k, k < 300 ∧ rfs h 29 k a) → ∀ k j, a ≤ k → k < a + 9 → hsl h1 k j = hsl h k j) : en28 h1 L := ⟨ci_up n.1 f6, n.2.1, fun k e hk => by
  obtain ⟨a, r, g, l, c⟩ := n.2.2 k e hk
  have hk9 := (List.getElem?_eq_some_iff.mp hk).1
  have hl9 := n.2.1
  have s := S a g l ⟨k, by omega, r⟩
  exact ⟨a, rfs_up r (F k), g, laQ_up l (fun k' j h1 h2 _ _ => s k' j h1 h2), ci_up c (s a 4 (by omega) (by omega))⟩⟩
theorem sqC_x {h h1 : zh} {a : Nat} {s : sqT} (c : sqC h a s) (F : ∀ k j, a ≤ k → k < a + 9 → hsl h1 k j = hsl h k j) : sqC h1 a s := ⟨rwC_up c.1 (F _ _ (by omega) (by omega)) (fun j => F _ _ (by omega) (by omega)), rwC_up c.2.1 (F _ _ (by omega) (by omega)) (fun j => F _ _ (by omega) (by omega)), rwC_up c.2.2.1 (F _ _ (by omega) (by omega)) (fun j => F _ _ (by omega) (by omega)), dC_up c.2.2.2 (fun j => F _ _ (by omega) (by omega))⟩
theorem en35_x {h h1 : zh} {L : List enT} (n : en35 h L) (F : ∀ k, hsl h1 36 k = hsl h 36 k) (f6 : hsl h1 35 6 = hsl h 35 6) (S : ∀ a, 388 < a → laQ h a → (∃ k, k < 300 ∧ rfs h 36 k a) → ∀ k j, a ≤ k → k < a + 9 → hsl h1 k j = hsl h k j) : en35 h1 L := ⟨ci_up n.1 f6, n.2.1, fun k e hk => by
  obtain ⟨a, r, g, l, c, q⟩ := n.2.2 k e hk
  have hk9 := (List.getElem?_eq_some_iff.mp hk).1
  have hl9 := n.2.1
  have s := S a g l ⟨k, by omega, r⟩
  exact ⟨a, rfs_up r (F k), g, laQ_up l (fun k' j h1 h2 _ _ => s k' j h1 h2), ci_up c (s a 4 (by omega) (by omega)), fun n9 => ⟨sqC_x (q n9).1 s, (q n9).2⟩⟩⟩
theorem JCx_kp {h h1 : zh} {cur : bsT} (k : kpXC h h1) (s : kpS h h1) (f35 : hsl h1 35 5 = hsl h 35 5 ∨ ci_ h1 35 5 0) (f28 : hsl h1 28 5 = hsl h 28 5 ∨ ci_ h1 28 5 0) (j : JCx h cur) : JCx h1 cur := ⟨JCb_x k s j.1, fun z => f28.elim (fun f => en28_x (j.2.1 (ci_up z f.symm)) k.1 k.2.2.2.2.1 (fun a g l ⟨n, hn, r⟩ => s a g l ⟨n, hn, Or.inl r⟩)) (fun f => (c01 f z).elim), fun z => f35.elim (fun f => by
  obtain ⟨a, b, c⟩ := j.2.2 (ci_up z f.symm)
  exact ⟨kx_up a k.2.2.2.2.2.2.1, ci_up b k.2.2.2.2.2.2.2, en35_x c k.2.1 k.2.2.2.2.2.1 (fun a g l ⟨n, hn, r⟩ => s a g l ⟨n, hn, Or.inr r⟩)⟩) (fun f => (c01 f z).elim)⟩
theorem JCx_0 {h h1 : zh} {cur cur' : bsT} (k : kpXC h h1) (s : kpS h h1) (f35 : ci_ h1 35 5 0) (f28 : ci_ h1 28 5 0) (j : JCx h cur) : JCx h1 cur' := ⟨JCb_x k s j.1, fun z => (c01 f28 z).elim, fun z => (c01 f35 z).elim⟩
theorem enM1_x {h h1 : zh} {R : List enT × Nat} (n : enM1 h R) (k : kpXM h h1) : enM1 h1 R := ⟨kx_up n.1 k.2.2.2.2.1, ci_up n.2.1 k.2.2.2.2.2.1, n.2.2.1, fun j i hk => ci_up (n.2.2.2.1 j i hk) (k.2.1 j), fun j e hj q => by
  have hk9 := (List.getElem?_eq_some_iff.mp hj).1
  have hl9 := n.2.2.1
  obtain ⟨a, b⟩ := n.2.2.2.2 j e hj q
  exact ⟨sqM_up a (fun i => k.2.2.1 j i (by omega)), b⟩⟩
theorem JMx_kp {h h1 : zh} {cur : bsT} (k : kpXM h h1) (f : hsl h1 52 31 = hsl h 52 31) (j : JMx h cur) : JMx h1 cur := fun z => by
  obtain ⟨a, b⟩ := j (ci_up z f.symm)
  have f2 := k.2.2.2.2.2.2
  refine ⟨fun q => ?_, fun q => enM1_x (b (kx_up q f2.symm)) k⟩
  obtain ⟨c1, c2, c3⟩ := a (kx_up q f2.symm)
  exact ⟨ci_up c1 k.2.2.2.1, c2, fun n e hn => ci_up (c3 n e hn) (k.1 n)⟩
theorem JMx_0 {h1 : zh} {cur' : bsT} (f : ci_ h1 52 31 0) : JMx h1 cur' := fun z => (c01 f z).elim
def wlS (wl : aW) : Bool := wlN wl 1008 && (wlN wl 1009 && (wlN wl 1010 && (wlN wl 1004 && wlN wl 1007)))
def wlX (wl : aW) : Bool := (wlN wl 29 && (wlN wl 36 && (!awc wl 28 0 && (!awc wl 35 0 && (!awc wl 28 6 && (!awc wl 35 6 && (!awc wl 35 8 && !awc wl 38 2))))))) && wlS wl
def wlY (wl : aW) : Bool := wlN wl 373 && (wlN wl 377 && (wlN wl 1012 && (!awc wl 52 26 && (!awc wl 52 27 && (!awc wl 52 29 && !awc wl 52 32)))))
theorem kpS_o {τ : List Nat} {h h1 : zh} (hg : hG τ h) (F : ∀ k T j, τ[k]? = some T → 388 < k → (T = 1008 ∨ T = 1009 ∨ T = 1010 ∨ T = 1004 ∨ T = 1007) → hsl h1 k j = hsl h k j) : kpS h h1 := fun a ha l ⟨n, hn, r⟩ k j h1 h2 => by
  have ty : τ[a]? = some 1008 := by
    rcases r with r | r
    · obtain ⟨v, e, q⟩ := g_slot29 (i := n) hg hn
      have e9 : some (.inl (some a)) = some v := r.symm.trans e
      cases e9
      rcases q with q | ⟨b, q, ty⟩
      · cases q
      · cases q
        exact ty
    · obtain ⟨v, e, q⟩ := g_slot36 (i := n) hg hn
      have e9 : some (.inl (some a)) = some v := r.symm.trans e
      cases e9
      rcases q with q | ⟨b, q, ty⟩
      · cases q
      · cases q
        exact ty
  obtain ⟨t0, t1, t2, t3, t4, t5, t6, t7, t8⟩ := tyQ_of hg ty l
  rcases (show k = a ∨ k = a + 1 ∨ k = a + 2 ∨ k = a + 3 ∨ k = a + 4 ∨ k = a + 5 ∨ k = a + 6 ∨ k = a + 7 ∨ k = a + 8 by omega) with e | e | e | e | e | e | e | e | e
  · subst e; exact F _ _ _ t0 (by omega) (by omega)
  · subst e; exact F _ _ _ t1 (by omega) (by omega)
  · subst e; exact F _ _ _ t2 (by omega) (by omega)
  · subst e; exact F _ _ _ t3 (by omega) (by omega)
  · subst e; exact F _ _ _ t4 (by omega) (by omega)
  · subst e; exact F _ _ _ t5 (by omega) (by omega)
  · subst e; exact F _ _ _ t6 (by omega) (by omega)
  · subst e; exact F _ _ _ t7 (by omega) (by omega)
  · subst e; exact F _ _ _ t8 (by omega) (by omega)
theorem kpX_w {τ : List Nat} {h h1 : zh} {wl : aW} (hg : hG τ h) (F : aFr τ h wl h1) (w : wlX wl = true) : kpXC h h1 ∧ kpS h h1 := by
  unfold wlX wlS at w
  simp only [Bool.and_eq_true, Bool.not_eq_true'] at w
  obtain ⟨⟨w1, w2, w3, w4, w5, w6, w7, w8⟩, s1, s2, s3, s4, s5⟩ := w
  refine ⟨⟨fun k => F 29 29 k (tv29 hg) (wlN_ok w1), fun k => F 36 36 k (tv36 hg) (wlN_ok w2), F 28 28 0 (tv28 hg) w3, F 35 35 0 (tv35 hg) w4, F 28 28 6 (tv28 hg) w5, F 35 35 6 (tv35 hg) w6, F 35 35 8 (tv35 hg) w7, F 38 38 2 (tv38 hg) w8⟩, kpS_o hg (fun k T j hk _ hT => F k T j hk ?_)⟩
  rcases hT with e | e | e | e | e
  · subst e; exact wlN_ok s1
  · subst e; exact wlN_ok s2
  · subst e; exact wlN_ok s3
  · subst e; exact wlN_ok s4
  · subst e; exact wlN_ok s5
theorem kpY_w {τ : List Nat} {h h1 : zh} {wl : aW} (hg : hG τ h) (F : aFr τ h wl h1) (w : wlY wl = true) : kpXM h h1 := by
  unfold wlY at w
  simp only [Bool.and_eq_true, Bool.not_eq_true'] at w
  obtain ⟨w1, w2, w3, w4, w5, w6, w7⟩ := w
  exact ⟨fun j => F 373 373 j (tu373 hg) (wlN_ok w1), fun j => F 377 377 j (tu377 hg) (wlN_ok w2), fun k j hk => F (71 + k) 1012 j (tuR hg hk) (wlN_ok w3), F 52 52 26 (t52 hg) w4, F 52 52 27 (t52 hg) w5, F 52 52 29 (t52 hg) w6, F 52 52 32 (t52 hg) w7⟩
def wlV (wl : aW) : Bool := (wlX wl && wlY wl) && (!awc wl 28 5 && (!awc wl 35 5 && !awc wl 52 31))
theorem JCx_w {τ : List Nat} {h h1 : zh} {wl : aW} {cur cm : bsT} (hg : hG τ h) (F : aFr τ h wl h1) (w : wlV wl = true) (jc : JCx h cur) (jm : JMx h cm) : JCx h1 cur ∧ JMx h1 cm := by
  unfold wlV at w
  simp only [Bool.and_eq_true, Bool.not_eq_true'] at w
  obtain ⟨⟨w1, w2⟩, w3, w4, w5⟩ := w
  obtain ⟨k1, k2⟩ := kpX_w hg F w1
  exact ⟨JCx_kp k1 k2 (Or.inl (F 35 35 5 (tv35 hg) w4)) (Or.inl (F 28 28 5 (tv28 hg) w3)) jc, JMx_kp (kpY_w hg F w2) (F 52 52 31 (t52 hg) w5) jm⟩
def IZ (h : zh) : Prop := ∃ T cur hs, IV h T ∧ RC h cur hs ∧ RM h cur hs ∧ CZ cur hs ∧ PY cur hs ∧ KC cur hs ∧ JCx h cur ∧ JMx h cur
theorem IZ_w {τ : List Nat} {h h1 : zh} {wl : aW} (hg : hG τ h) (F : aFr τ h wl h1) (w : ((wlC wl && wlM wl && wlR wl) && wlV wl) = true) (i : IZ h) : IZ h1 := by
  simp only [Bool.and_eq_true] at w
  obtain ⟨⟨⟨a, b⟩, c⟩, w⟩ := w
  obtain ⟨T, cur, hs, i, rc, rm, cz, py, kc, jc, jm⟩ := i
  obtain ⟨jc1, jm1⟩ := JCx_w hg F w jc jm
  exact ⟨T, cur, hs, IV_kp (kpC_w hg F a) (kpM_w hg F b) i, RC_w hg F c rc, RM_w hg F c rm, cz, py, kc, jc1, jm1⟩
theorem use_L9 {τ : List Nat} {h : zh} {mj dd nL rk n t d : Nat} {hs : List (Nat × Nat × Nat × Nat)} {qs : List aq} {wl : aW} {outs : List aE} {vs : List zv} {l0 : List (Option zv)} (b : Nat) (hC : cOK aJ mj (qs, [], dd, wl, outs)) (hm : zmeth mj = some (nL, rk, n, hs)) (hg : hG τ h) (hq : aqsM τ qs vs) (hz : zent vs nL = some l0) (ho : outs.all (outL b) = true) (hd : dd ≤ d) (hw : ((wlC wl && wlM wl && wlR wl) && wlV wl) = true) : ∃ (y : Int32) (h1 : zh) (t1 : Nat), qE d mj l0 h t (.inl (some (zi y)), h1, t1) ∧ t1 ≤ t + b ∧ ∃ τ1, hG τ1 h1 ∧ (IZ h → IZ h1) := by
  obtain ⟨o, h', t', τ', e, he, hE, hu, hh', hJ', hF, ht, hc⟩ := hC τ h t nL rk n hs vs l0 [] hm hg.1 hg.2 hq trivial hz
  have h1 := List.all_eq_true.mp ho e he
  unfold outL at h1
  split at h1
  · rcases o with (_ | v) | z
    · exact hc.1.elim
    · obtain ⟨x, rfl, l1, l2⟩ := hc.1
      have h1 := Nat.le_of_ble_eq_true h1
      simp only at ht
      exact ⟨x, h', t', qE_le hd hE, by omega, τ', ⟨hh', hJ'⟩, IZ_w hg hF hw⟩
    · exact hc.1.elim
  · cases h1
theorem use_J9 {τ : List Nat} {h : zh} {mj dd nL rk n t d : Nat} {hs : List (Nat × Nat × Nat × Nat)} {qs : List aq} {wl : aW} {outs : List aE} {vs : List zv} {l0 : List (Option zv)} (hC : cOK aJ mj (qs, [], dd, wl, outs)) (hm : zmeth mj = some (nL, rk, n, hs)) (hg : hG τ h) (hq : aqsM τ qs vs) (hz : zent vs nL = some l0) (ho : outs.all outJ = true) (hd : dd ≤ d) (hw : ((wlC wl && wlM wl && wlR wl) && wlV wl) = true) : ∃ (w : Int64) (h1 : zh) (t1 : Nat), qE d mj l0 h t (.inl (some (.inr (.inr (.inl w)))), h1, t1) ∧ t1 = t ∧ ∃ τ1, hG τ1 h1 ∧ (IZ h → IZ h1) := by
  obtain ⟨o, h', t', τ', e, he, hE, hu, hh', hJ', hF, ht, hc⟩ := hC τ h t nL rk n hs vs l0 [] hm hg.1 hg.2 hq trivial hz
  have h1 := List.all_eq_true.mp ho e he
  unfold outJ at h1
  split at h1
  · rcases o with (_ | v) | z
    · exact hc.1.elim
    · obtain ⟨w, rfl⟩ : ∃ w : Int64, v = .inr (.inr (.inl w)) := by
        rcases hc.1 with ⟨h9, -⟩ | ⟨h9, -⟩ | ⟨-, h9⟩ | ⟨h9, -⟩ | ⟨h9, -⟩
        · cases h9
        · cases h9
        · exact h9
        · omega
        · omega
      exact ⟨w, h', t', qE_le hd hE, ht, τ', ⟨hh', hJ'⟩, IZ_w hg hF hw⟩
    · exact hc.1.elim
  · cases h1
