/-! the provers' flags -/
def JCp (h : zh) (cur : bsT) : Prop := cmI h 36 ∧ kx_ h 35 0 1 ∧ (ci_ h 35 5 1 → kx_ h 35 8 (prfF cyN true cur).2 ∧ ci_ h 38 2 (dns (prfF cyN true cur).1) ∧ ∃ n : Nat, n ≤ 300 ∧ ci_ h 35 6 n ∧ ∀ k, k < n → ∃ a, rfs h 36 k a)
def JMp (h : zh) (cur : bsT) : Prop := ci_ h 52 31 1 → ci_ h 52 32 1 → kx_ h 52 27 (prfF cyN true cur).2 ∧ ci_ h 52 29 (dns (prfF cyN true cur).1)
def kpPC (h h1 : zh) : Prop := (∀ k, hsl h1 36 k = hsl h 36 k) ∧ hsl h1 35 0 = hsl h 35 0 ∧ hsl h1 35 6 = hsl h 35 6 ∧ hsl h1 35 8 = hsl h 35 8 ∧ hsl h1 38 2 = hsl h 38 2
def kpPQ (h h1 : zh) : Prop := ∀ a, 388 < a → laQ h a → (∃ k, k < 300 ∧ rfs h 36 k a) → laQ h1 a
def kpPM (h h1 : zh) : Prop := hsl h1 52 27 = hsl h 52 27 ∧ hsl h1 52 29 = hsl h 52 29 ∧ hsl h1 52 32 = hsl h 52 32
theorem cmI_q {h h1 : zh} (c : cmI h 36) (F : ∀ k, hsl h1 36 k = hsl h 36 k) (G : kpPQ h h1) : cmI h1 36 := ⟨fun k hk => (c.1 k hk).elim (fun q => Or.inl ((F k).trans q)) (fun ⟨a, r, g, l⟩ => Or.inr ⟨a, rfs_up r (F k), g, G a g l ⟨k, hk, r⟩⟩), fun k k' a hk hk' r r' => c.2 k k' a hk hk' (rfs_up r (F k).symm) (rfs_up r' (F k').symm)⟩
theorem JCp_kp {h h1 : zh} {cur : bsT} (k : kpPC h h1) (q : kpPQ h h1) (f : hsl h1 35 5 = hsl h 35 5) (j : JCp h cur) : JCp h1 cur := ⟨cmI_q j.1 k.1 q, kx_up j.2.1 k.2.1, fun z => by
  obtain ⟨a, b, n, n1, n2, n3⟩ := j.2.2 (ci_up z f.symm)
  exact ⟨kx_up a k.2.2.2.1, ci_up b k.2.2.2.2, n, n1, ci_up n2 k.2.2.1, fun k9 h9 => by
    obtain ⟨a9, r9⟩ := n3 k9 h9
    exact ⟨a9, rfs_up r9 (k.1 k9)⟩⟩⟩
theorem JCp_0 {h h1 : zh} {cur cur' : bsT} (k : kpPC h h1) (q : kpPQ h h1) (f : ci_ h1 35 5 0) (j : JCp h cur) : JCp h1 cur' := ⟨cmI_q j.1 k.1 q, kx_up j.2.1 k.2.1, fun z => (c01 f z).elim⟩
theorem JMp_kp {h h1 : zh} {cur : bsT} (k : kpPM h h1) (f : hsl h1 52 31 = hsl h 52 31) (j : JMp h cur) : JMp h1 cur := fun a b => by
  obtain ⟨x, y⟩ := j (ci_up a f.symm) (ci_up b k.2.2.symm)
  exact ⟨kx_up x k.1, ci_up y k.2.1⟩
theorem JMp_0 {h1 : zh} {cur' : bsT} (f : ci_ h1 52 31 0) : JMp h1 cur' := fun a _ => (c01 f a).elim
theorem JMp_f {h h1 : zh} {cur : bsT} (f : fqM h h1) (j : JMp h cur) : JMp h1 cur := by
  rcases f with ⟨x, e1, e2⟩ | ⟨f1, f2, f3, f4⟩
  · intro _ b
    obtain ⟨y, e3, e4⟩ := b
    have e5 := e1.symm.trans e3
    cases e5
    omega
  · exact JMp_kp ⟨f1, f2, f4⟩ f3 j
theorem frC_pC {h h1 : zh} (f : frC h h1) : kpPC h h1 := ⟨fun k => f 36 k (by omega), f 35 0 (by omega), f 35 6 (by omega), f 35 8 (by omega), f 38 2 (by omega)⟩
theorem frC_pM {h h1 : zh} (f : frC h h1) : kpPM h h1 ∧ hsl h1 52 31 = hsl h 52 31 := ⟨⟨f 52 27 (by omega), f 52 29 (by omega), f 52 32 (by omega)⟩, f 52 31 (by omega)⟩
theorem frM_pC {h h1 : zh} (f : frM h h1) : kpPC h h1 ∧ hsl h1 35 5 = hsl h 35 5 ∧ kpPQ h h1 := ⟨⟨fun k => f 36 k (by omega), f 35 0 (by omega), f 35 6 (by omega), f 35 8 (by omega), f 38 2 (by omega)⟩, f 35 5 (by omega), fun a ha l _ => laQ_up l (fun k j h1 h2 _ _ => f k j (by omega))⟩
theorem frM_pM {h h1 : zh} (f : frM h h1) : kpPM h h1 := ⟨f 52 27 (by omega), f 52 29 (by omega), f 52 32 (by omega)⟩
-- by contracts
def wlQ (wl : aW) : Bool := (!awc wl 1008 0 && (!awc wl 1008 1 && (!awc wl 1008 2 && !awc wl 1008 3))) && (!awc wl 1009 0 && !awc wl 1004 0)
def wlP (wl : aW) : Bool := (wlN wl 36 && (!awc wl 35 0 && (!awc wl 35 5 && (!awc wl 35 6 && (!awc wl 35 8 && !awc wl 38 2))))) && wlQ wl
def wlF (wl : aW) : Bool := !awc wl 52 27 && (!awc wl 52 29 && (!awc wl 52 31 && !awc wl 52 32))
theorem kpPQ_w {τ : List Nat} {h h1 : zh} {wl : aW} (hg : hG τ h) (F : aFr τ h wl h1) (w : wlQ wl = true) : kpPQ h h1 := fun a ha l ⟨k, hk, r⟩ => by
  obtain ⟨v, e, q⟩ := g_slot36 (i := k) hg hk
  have e9 : some (.inl (some a)) = some v := r.symm.trans e
  cases e9
  rcases q with q | ⟨b, q, ty⟩
  · cases q
  · cases q
    obtain ⟨t0, t1, t2, t3, t4, t5, t6, t7, t8⟩ := tyQ_of hg ty l
    unfold wlQ at w
    simp only [Bool.and_eq_true, Bool.not_eq_true'] at w
    obtain ⟨⟨w0, w1, w2, w3⟩, w4, w5⟩ := w
    obtain ⟨l1, l2, l3, l4, l5, l6, l7, l8⟩ := l
    exact ⟨rfs_up l1 (F _ _ _ t0 w0), rfs_up l2 (F _ _ _ t0 w1), rfs_up l3 (F _ _ _ t0 w2), rfs_up l4 (F _ _ _ t0 w3), rfs_up l5 (F _ _ _ t1 w4), rfs_up l6 (F _ _ _ t3 w5), rfs_up l7 (F _ _ _ t5 w5), rfs_up l8 (F _ _ _ t7 w5)⟩
theorem kpP_w {τ : List Nat} {h h1 : zh} {wl : aW} (hg : hG τ h) (F : aFr τ h wl h1) (w : wlP wl = true) : kpPC h h1 ∧ kpPQ h h1 ∧ hsl h1 35 5 = hsl h 35 5 := by
  unfold wlP at w
  rw [Bool.and_eq_true] at w
  obtain ⟨w, wq⟩ := w
  simp only [Bool.and_eq_true, Bool.not_eq_true'] at w
  obtain ⟨w1, w2, w3, w4, w5, w6⟩ := w
  exact ⟨⟨fun k => F 36 36 k (tv36 hg) (wlN_ok w1), F 35 35 0 (tv35 hg) w2, F 35 35 6 (tv35 hg) w4, F 35 35 8 (tv35 hg) w5, F 38 38 2 (tv38 hg) w6⟩, kpPQ_w hg F wq, F 35 35 5 (tv35 hg) w3⟩
theorem kpF_w {τ : List Nat} {h h1 : zh} {wl : aW} (hg : hG τ h) (F : aFr τ h wl h1) (w : wlF wl = true) : kpPM h h1 ∧ hsl h1 52 31 = hsl h 52 31 := by
  unfold wlF at w
  simp only [Bool.and_eq_true, Bool.not_eq_true'] at w
  obtain ⟨w1, w2, w3, w4⟩ := w
  exact ⟨⟨F 52 52 27 (t52 hg) w1, F 52 52 29 (t52 hg) w2, F 52 52 32 (t52 hg) w4⟩, F 52 52 31 (t52 hg) w3⟩
def IY (h : zh) : Prop := ∃ T cur hs, IV h T ∧ RC h cur hs ∧ RM h cur hs ∧ CZ cur hs ∧ PY cur hs ∧ KC cur hs ∧ JCp h cur ∧ JMp h cur
theorem IY_w {τ : List Nat} {h h1 : zh} {wl : aW} (hg : hG τ h) (F : aFr τ h wl h1) (w : ((wlC wl && wlM wl && wlR wl) && (wlP wl && wlF wl)) = true) (i : IY h) : IY h1 := by
  simp only [Bool.and_eq_true] at w
  obtain ⟨⟨⟨a, b⟩, c⟩, w1, w2⟩ := w
  obtain ⟨T, cur, hs, i, rc, rm, cz, py, kc, jc, jm⟩ := i
  obtain ⟨k1, k2, k3⟩ := kpP_w hg F w1
  obtain ⟨k4, k5⟩ := kpF_w hg F w2
  exact ⟨T, cur, hs, IV_kp (kpC_w hg F a) (kpM_w hg F b) i, RC_w hg F c rc, RM_w hg F c rm, cz, py, kc, JCp_kp k1 k2 k3 jc, JMp_kp k4 k5 jm⟩
/-- one call, one end: what its contract leaves -/
theorem use_F {τ : List Nat} {h : zh} {mj dd nL rk n t d : Nat} {hs : List (Nat × Nat × Nat × Nat)} {qs : List aq} {wl : aW} {outs : List aE} {vs : List zv} {l0 : List (Option zv)} {o : zo} {h1 : zh} {t1 : Nat} (hC : cOK aJ mj (qs, [], dd, wl, outs)) (hm : zmeth mj = some (nL, rk, n, hs)) (hg : hG τ h) (hq : aqsM τ qs vs) (hz : zent vs nL = some l0) (hd : dd ≤ d) (e : qE d mj l0 h t (o, h1, t1)) : aFr τ h wl h1 ∧ ∃ τ1, hG τ1 h1 := by
  obtain ⟨o', h', t', τ', e', he, hE, hu, hh', hJ', hF, ht, hc⟩ := hC τ h t nL rk n hs vs l0 [] hm hg.1 hg.2 hq trivial hz
  cases qE_det e (qE_le hd hE)
  exact ⟨hF, τ', hh', hJ'⟩
theorem use_L7 {τ : List Nat} {h : zh} {mj dd nL rk n t d : Nat} {hs : List (Nat × Nat × Nat × Nat)} {qs : List aq} {wl : aW} {outs : List aE} {vs : List zv} {l0 : List (Option zv)} (b : Nat) (hC : cOK aJ mj (qs, [], dd, wl, outs)) (hm : zmeth mj = some (nL, rk, n, hs)) (hg : hG τ h) (hq : aqsM τ qs vs) (hz : zent vs nL = some l0) (ho : outs.all (outL b) = true) (hd : dd ≤ d) (hw : ((wlC wl && wlM wl && wlR wl) && (wlP wl && wlF wl)) = true) : ∃ (y : Int32) (h1 : zh) (t1 : Nat), qE d mj l0 h t (.inl (some (zi y)), h1, t1) ∧ t1 ≤ t + b ∧ ∃ τ1, hG τ1 h1 ∧ (IY h → IY h1) := by
  obtain ⟨o, h', t', τ', e, he, hE, hu, hh', hJ', hF, ht, hc⟩ := hC τ h t nL rk n hs vs l0 [] hm hg.1 hg.2 hq trivial hz
  have h1 := List.all_eq_true.mp ho e he
  unfold outL at h1
  split at h1
  · rcases o with (_ | v) | z
    · exact hc.1.elim
    · obtain ⟨x, rfl, l1, l2⟩ := hc.1
      have h1 := Nat.le_of_ble_eq_true h1
      simp only at ht
      exact ⟨x, h', t', qE_le hd hE, by omega, τ', ⟨hh', hJ'⟩, IY_w hg hF hw⟩
    · exact hc.1.elim
  · cases h1
theorem use_J7 {τ : List Nat} {h : zh} {mj dd nL rk n t d : Nat} {hs : List (Nat × Nat × Nat × Nat)} {qs : List aq} {wl : aW} {outs : List aE} {vs : List zv} {l0 : List (Option zv)} (hC : cOK aJ mj (qs, [], dd, wl, outs)) (hm : zmeth mj = some (nL, rk, n, hs)) (hg : hG τ h) (hq : aqsM τ qs vs) (hz : zent vs nL = some l0) (ho : outs.all outJ = true) (hd : dd ≤ d) (hw : ((wlC wl && wlM wl && wlR wl) && (wlP wl && wlF wl)) = true) : ∃ (w : Int64) (h1 : zh) (t1 : Nat), qE d mj l0 h t (.inl (some (.inr (.inr (.inl w)))), h1, t1) ∧ t1 = t ∧ ∃ τ1, hG τ1 h1 ∧ (IY h → IY h1) := by
  obtain ⟨o, h', t', τ', e, he, hE, hu, hh', hJ', hF, ht, hc⟩ := hC τ h t nL rk n hs vs l0 [] hm hg.1 hg.2 hq trivial hz
  have h1 := List.all_eq_true.mp ho e he
  unfold outJ at h1
  split at h1
  · rcases o with (_ | v) | z
    · exact hc.1.elim
    · obtain ⟨w, rfl⟩ : ∃ w : Int64, v = .inr (.inr (.inl w)) := by
        rcases hc.1 with ⟨h9, -⟩ | ⟨h9, -⟩ | ⟨-, h9⟩ | ⟨h9, -⟩ | ⟨h9, -⟩
        · cases h9
        · cases h9
        · exact h9
        · omega
        · omega
      exact ⟨w, h', t', qE_le hd hE, ht, τ', ⟨hh', hJ'⟩, IY_w hg hF hw⟩
    · exact hc.1.elim
  · cases h1
