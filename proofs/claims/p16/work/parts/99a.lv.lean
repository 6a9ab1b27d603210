/-! what the law's loop keeps, call by call -/
def IW (h : zh) : Prop := ∃ T cur hs, IV h T ∧ RC h cur hs ∧ RM h cur hs ∧ CZ cur hs
def wlR (wl : aW) : Bool := (wlN wl 13 && (wlN wl 14 && (wlN wl 1000 && (wlN wl 1001 && (wlN wl 1002 && (wlN wl 1003 && (wlN wl 1005 && wlN wl 1006))))))) && ((wlN wl 55 && (wlN wl 57 && wlN wl 1011)) && !awc wl 52 12)
theorem RC_w {τ : List Nat} {h h1 : zh} {wl : aW} {cur : bsT} {hs : List bsT} (hg : hG τ h) (F : aFr τ h wl h1) (w : wlR wl = true) (rc : RC h cur hs) : RC h1 cur hs := by
  unfold wlR at w
  simp only [Bool.and_eq_true] at w
  obtain ⟨⟨w1, w2, w3, w4, w5, w6, w7, w8⟩, -⟩ := w
  refine RC_upT hg rc (fun k T j hk hr _ => F k T j hk ?_)
  have hc : T = 13 ∨ T = 14 ∨ T = 1000 ∨ T = 1001 ∨ T = 1002 ∨ T = 1003 ∨ T = 1005 ∨ T = 1006 := by
    unfold relC at hr
    omega
  rcases hc with e | e | e | e | e | e | e | e
  · rw [e]; exact wlN_ok w1
  · rw [e]; exact wlN_ok w2
  · rw [e]; exact wlN_ok w3
  · rw [e]; exact wlN_ok w4
  · rw [e]; exact wlN_ok w5
  · rw [e]; exact wlN_ok w6
  · rw [e]; exact wlN_ok w7
  · rw [e]; exact wlN_ok w8
theorem RM_w {τ : List Nat} {h h1 : zh} {wl : aW} {cur : bsT} {hs : List bsT} (hg : hG τ h) (F : aFr τ h wl h1) (w : wlR wl = true) (rm : RM h cur hs) : RM h1 cur hs := by
  unfold wlR at w
  simp only [Bool.and_eq_true, Bool.not_eq_true'] at w
  obtain ⟨-, ⟨w1, w2, w3⟩, w4⟩ := w
  refine RM_up rm (fun k j hC => ?_)
  rcases hC with e | e | ⟨e, e2⟩
  · subst e
    exact F 55 55 j (tv55 hg) (wlN_ok w1)
  · rcases Decidable.em (k = 57) with q | q
    · subst q
      exact F 57 57 j (tv57 hg) (wlN_ok w2)
    · obtain ⟨i, rfl⟩ : ∃ i, k = 58 + i := ⟨k - 58, by omega⟩
      exact F (58 + i) 1011 j (tvP hg (by omega)) (wlN_ok w3)
  · subst e
    subst e2
    exact F 52 52 12 (t52 hg) w4
theorem IW_w {τ : List Nat} {h h1 : zh} {wl : aW} (hg : hG τ h) (F : aFr τ h wl h1) (w : (wlC wl && wlM wl && wlR wl) = true) (i : IW h) : IW h1 := by
  simp only [Bool.and_eq_true] at w
  obtain ⟨T, cur, hs, i, rc, rm, cz⟩ := i
  exact ⟨T, cur, hs, IV_kp (kpC_w hg F w.1.1) (kpM_w hg F w.1.2) i, RC_w hg F w.2 rc, RM_w hg F w.2 rm, cz⟩
theorem use_L5 {τ : List Nat} {h : zh} {mj dd nL rk n t d : Nat} {hs : List (Nat × Nat × Nat × Nat)} {qs : List aq} {wl : aW} {outs : List aE} {vs : List zv} {l0 : List (Option zv)} (b : Nat) (hC : cOK aJ mj (qs, [], dd, wl, outs)) (hm : zmeth mj = some (nL, rk, n, hs)) (hg : hG τ h) (hq : aqsM τ qs vs) (hz : zent vs nL = some l0) (ho : outs.all (outL b) = true) (hd : dd ≤ d) (hw : (wlC wl && wlM wl && wlR wl) = true) : ∃ (y : Int32) (h1 : zh) (t1 : Nat), qE d mj l0 h t (.inl (some (zi y)), h1, t1) ∧ t1 ≤ t + b ∧ ∃ τ1, hG τ1 h1 ∧ (IW h → IW h1) := by
  obtain ⟨o, h', t', τ', e, he, hE, hu, hh', hJ', hF, ht, hc⟩ := hC τ h t nL rk n hs vs l0 [] hm hg.1 hg.2 hq trivial hz
  have h1 := List.all_eq_true.mp ho e he
  unfold outL at h1
  split at h1
  · rcases o with (_ | v) | z
    · exact hc.1.elim
    · obtain ⟨x, rfl, l1, l2⟩ := hc.1
      have h1 := Nat.le_of_ble_eq_true h1
      simp only at ht
      exact ⟨x, h', t', qE_le hd hE, by omega, τ', ⟨hh', hJ'⟩, IW_w hg hF hw⟩
    · exact hc.1.elim
  · cases h1
theorem use_J5 {τ : List Nat} {h : zh} {mj dd nL rk n t d : Nat} {hs : List (Nat × Nat × Nat × Nat)} {qs : List aq} {wl : aW} {outs : List aE} {vs : List zv} {l0 : List (Option zv)} (hC : cOK aJ mj (qs, [], dd, wl, outs)) (hm : zmeth mj = some (nL, rk, n, hs)) (hg : hG τ h) (hq : aqsM τ qs vs) (hz : zent vs nL = some l0) (ho : outs.all outJ = true) (hd : dd ≤ d) (hw : (wlC wl && wlM wl && wlR wl) = true) : ∃ (w : Int64) (h1 : zh) (t1 : Nat), qE d mj l0 h t (.inl (some (.inr (.inr (.inl w)))), h1, t1) ∧ t1 = t ∧ ∃ τ1, hG τ1 h1 ∧ (IW h → IW h1) := by
  obtain ⟨o, h', t', τ', e, he, hE, hu, hh', hJ', hF, ht, hc⟩ := hC τ h t nL rk n hs vs l0 [] hm hg.1 hg.2 hq trivial hz
  have h1 := List.all_eq_true.mp ho e he
  unfold outJ at h1
  split at h1
  · rcases o with (_ | v) | z
    · exact hc.1.elim
    · obtain ⟨w, rfl⟩ : ∃ w : Int64, v = .inr (.inr (.inl w)) := by
        rcases hc.1 with ⟨h9, -⟩ | ⟨h9, -⟩ | ⟨-, h9⟩ | ⟨h9, -⟩ | ⟨h9, -⟩
        · cases h9
        · cases h9
        · exact h9
        · omega
        · omega
      exact ⟨w, h', t', qE_le hd hE, ht, τ', ⟨hh', hJ'⟩, IW_w hg hF hw⟩
    · exact hc.1.elim
  · cases h1
theorem frC_IV {h h1 : zh} {T : Nat} (f : frC h h1) (i : IV h T) : IV h1 T := IV_kp ⟨fun j => f 1 j (by omega), f 0 1 (by omega), f 0 2 (by omega), fun al => ⟨(f 15 0 (by omega)).trans al.1, (f 16 0 (by omega)).trans al.2.1, (f 16 1 (by omega)).trans al.2.2.1, (f 17 0 (by omega)).trans al.2.2.2.1, (f 17 1 (by omega)).trans al.2.2.2.2.1, (f 22 0 (by omega)).trans al.2.2.2.2.2.1, (f 22 1 (by omega)).trans al.2.2.2.2.2.2.1, (f 18 0 (by omega)).trans al.2.2.2.2.2.2.2.1, (f 20 0 (by omega)).trans al.2.2.2.2.2.2.2.2.1, (f 23 0 (by omega)).trans al.2.2.2.2.2.2.2.2.2.1, (f 25 0 (by omega)).trans al.2.2.2.2.2.2.2.2.2.2⟩, f 0 5 (by omega)⟩ ⟨fun j => f 54 j (by omega), f 52 2 (by omega), f 52 5 (by omega)⟩ i
theorem frC_RM {h h1 : zh} {cur : bsT} {hs : List bsT} (f : frC h h1) (rm : RM h cur hs) : RM h1 cur hs := RM_up rm (fun k j hC => f k j (by omega))
theorem frM_IV {h h1 : zh} {T : Nat} (f : frM h h1) (i : IV h T) : IV h1 T := IV_kp ⟨fun j => f 1 j (by omega), f 0 1 (by omega), f 0 2 (by omega), fun al => ⟨(f 15 0 (by omega)).trans al.1, (f 16 0 (by omega)).trans al.2.1, (f 16 1 (by omega)).trans al.2.2.1, (f 17 0 (by omega)).trans al.2.2.2.1, (f 17 1 (by omega)).trans al.2.2.2.2.1, (f 22 0 (by omega)).trans al.2.2.2.2.2.1, (f 22 1 (by omega)).trans al.2.2.2.2.2.2.1, (f 18 0 (by omega)).trans al.2.2.2.2.2.2.2.1, (f 20 0 (by omega)).trans al.2.2.2.2.2.2.2.2.1, (f 23 0 (by omega)).trans al.2.2.2.2.2.2.2.2.2.1, (f 25 0 (by omega)).trans al.2.2.2.2.2.2.2.2.2.2⟩, f 0 5 (by omega)⟩ ⟨fun j => f 54 j (by omega), f 52 2 (by omega), f 52 5 (by omega)⟩ i
theorem frM_RC {h h1 : zh} {cur : bsT} {hs : List bsT} (f : frM h h1) (rc : RC h cur hs) : RC h1 cur hs := RC_up rc (fun k j hC => f k j (by omega))
theorem lx_turnC {t T : Nat} {τ : List Nat} {h : zh} {cur : bsT} {hs : List bsT} (hg : hG τ h) (i : IV h T) (rc : RC h cur hs) (rm : RM h cur hs) : ∃ (y : Int32) (h1 : zh) (t1 : Nat), qE 60 135 [some (.inl (some 0))] h t (.inl (some (zi y)), h1, t1) ∧ t1 ≤ t + 0 ∧ ∃ τ1, hG τ1 h1 ∧ IV h1 T ∧ RC h1 (cur.2, cur.1) (psh hs cur) ∧ RM h1 cur hs ∧ y.toInt = ((cur.2.1.length + cur.1.1.length : Nat) : Int) := by
  obtain ⟨y, h1, e, τ1, g1, c, f, v⟩ := c_turn2 (t := t) hg rc i.2.2.2.1
  exact ⟨y, h1, t, e, by omega, τ1, g1, frC_IV f i, c, frC_RM f rm, v⟩
theorem lx_turnM {t T : Nat} {τ : List Nat} {h : zh} {cur : bsT} {hs : List bsT} (hg : hG τ h) (i : IV h T) {c' : bsT} {hs' : List bsT} (rc : RC h c' hs') (rm : RM h cur hs) : ∃ (y : Int32) (h1 : zh) (t1 : Nat), qE 60 188 [some (.inl (some 52)), none, none] h t (.inl (some (zi y)), h1, t1) ∧ t1 ≤ t + 0 ∧ ∃ τ1, hG τ1 h1 ∧ IV h1 T ∧ RC h1 c' hs' ∧ RM h1 (cur.2, cur.1) (psh hs cur) ∧ y.toInt = ((cur.2.1.length + cur.1.1.length : Nat) : Int) := by
  obtain ⟨y, h1, e, τ1, g1, m, f, v⟩ := m_turn2 (t := t) hg rm
  exact ⟨y, h1, t, e, by omega, τ1, g1, frM_IV f i, frM_RC f rc, m, v⟩
def udc (cur : bsT) (hs : List bsT) : bsT := hs.getLast?.getD cur
def udv (hs : List bsT) : Int := (hs.length : Int) - 1
theorem ud_last {cur b : bsT} {hs : List bsT} : udc cur (hs ++ [b]) = b := by
  unfold udc
  rw [List.getLast?_concat]
  rfl
theorem lx_undoC {t T : Nat} {τ : List Nat} {h : zh} {cur : bsT} {hs : List bsT} (hg : hG τ h) (i : IV h T) (rc : RC h cur hs) (rm : RM h cur hs) : ∃ (y : Int32) (h1 : zh) (t1 : Nat), qE 60 138 [some (.inl (some 0))] h t (.inl (some (zi y)), h1, t1) ∧ t1 ≤ t + 0 ∧ ∃ τ1, hG τ1 h1 ∧ IV h1 T ∧ RC h1 (udc cur hs) hs.dropLast ∧ RM h1 cur hs ∧ y.toInt = udv hs := by
  obtain ⟨y, h1, e, τ1, g1, f, v⟩ := c_undo2 (t := t) hg rc i.2.2.2.1
  refine ⟨y, h1, t, e, by omega, τ1, g1, frC_IV f i, ?_⟩
  rcases v with ⟨q1, q2, q3⟩ | ⟨hs', b, q1, q2, q3⟩
  · subst q1
    exact ⟨q3, frC_RM f rm, q2⟩
  · subst q1
    refine ⟨?_, frC_RM f rm, ?_⟩
    · rw [ud_last, List.dropLast_concat]
      exact q3
    · unfold udv
      rw [List.length_append]
      simp only [List.length_cons, List.length_nil]
      omega
theorem lx_undoM {t T : Nat} {τ : List Nat} {h : zh} {cur : bsT} {hs : List bsT} (hg : hG τ h) (i : IV h T) {c' : bsT} {hs' : List bsT} (rc : RC h c' hs') (rm : RM h cur hs) : ∃ (y : Int32) (h1 : zh) (t1 : Nat), qE 60 187 [some (.inl (some 52))] h t (.inl (some (zi y)), h1, t1) ∧ t1 ≤ t + 0 ∧ ∃ τ1, hG τ1 h1 ∧ IV h1 T ∧ RC h1 c' hs' ∧ RM h1 (udc cur hs) hs.dropLast ∧ y.toInt = udv hs := by
  obtain ⟨y, h1, e, τ1, g1, f, v⟩ := m_undo2 (t := t) hg rm
  refine ⟨y, h1, t, e, by omega, τ1, g1, frM_IV f i, frM_RC f rc, ?_⟩
  rcases v with ⟨q1, q2, q3⟩ | ⟨hs', b, q1, q2, q3⟩
  · subst q1
    exact ⟨q3, q2⟩
  · subst q1
    refine ⟨?_, ?_⟩
    · rw [ud_last, List.dropLast_concat]
      exact q3
    · unfold udv
      rw [List.length_append]
      simp only [List.length_cons, List.length_nil]
      omega
def opC (o : Option bsT) (cur : bsT) : bsT := o.getD cur
def opH (o : Option bsT) (cur : bsT) (hs : List bsT) : List bsT := match o with
  | some _ => psh hs cur
  | none => hs
def opT (o : Option bsT) : Int := match o with
  | some _ => 0
  | none => 1
def drop_ (cur : bsT) (x k : Int) : Option bsT := if x = 0 ∧ 0 ≤ k ∧ k < (cur.1.1.length : Int) then some ((cur.1.1.eraseIdx k.toNat, cur.1.2), cur.2) else if x = 1 ∧ 0 ≤ k ∧ k < (cur.2.1.length : Int) then some (cur.1, (cur.2.1.eraseIdx k.toNat, cur.2.2)) else none
def dropv (cur : bsT) (x : Int) : Int := if x = 0 then (cur.1.1.length : Int) - 1 else (cur.2.1.length : Int) - 1
theorem lx_dropC {t T : Nat} {τ : List Nat} {h : zh} {cur : bsT} {hs : List bsT} (hg : hG τ h) (i : IV h T) {x xk : Int32} (rc : RC h cur hs) (rm : RM h cur hs) : ∃ (y : Int32) (h1 : zh) (t1 : Nat), qE 60 277 [some (.inl (some 0)), some (zi x), some (zi xk), some (.inl (some 388)), none] h t (.inl (some (zi y)), h1, t1) ∧ t1 ≤ t + 1 ∧ ∃ τ1, hG τ1 h1 ∧ IV h1 T ∧ RC h1 (opC (drop_ cur x.toInt xk.toInt) cur) (opH (drop_ cur x.toInt xk.toInt) cur hs) ∧ RM h1 cur hs ∧ y.toInt = opT (drop_ cur x.toInt xk.toInt) ∧ (y.toInt = 0 → ∃ z : Int32, ou_ h1 z ∧ z.toInt = dropv cur x.toInt) := by
  unfold drop_ dropv
  rcases Decidable.em (x.toInt = 0 ∧ 0 ≤ xk.toInt ∧ xk.toInt < (cur.1.1.length : Int)) with q | q
  · obtain ⟨y, h1, e, τ1, g1, c, f, ey, z, hz, ez⟩ := c_ldrop0 (t := t) (k := xk.toInt.toNat) (xk := xk) hg rc i.2.2.2.1 q.1 (by omega) (by omega)
    rw [if_pos q, if_pos q.1]
    exact ⟨y, h1, t, e, by omega, τ1, g1, frC_IV f i, c, frC_RM f rm, ey, fun _ => ⟨z, hz, by omega⟩⟩
  · rw [if_neg q]
    rcases Decidable.em (x.toInt = 1 ∧ 0 ≤ xk.toInt ∧ xk.toInt < (cur.2.1.length : Int)) with q1 | q1
    · obtain ⟨y, h1, e, τ1, g1, c, f, ey, z, hz, ez⟩ := c_ldrop1 (t := t) (k := xk.toInt.toNat) (xk := xk) hg rc i.2.2.2.1 q1.1 (by omega) (by omega)
      rw [if_pos q1, if_neg (show ¬ x.toInt = 0 by omega)]
      exact ⟨y, h1, t, e, by omega, τ1, g1, frC_IV f i, c, frC_RM f rm, ey, fun _ => ⟨z, hz, by omega⟩⟩
    · rw [if_neg q1]
      obtain ⟨y, h1, e, ey, g1, F⟩ := c_ldropX (t := t) hg rc i.2.2.2.1 (x := x) (xk := xk) (by omega)
      have f : frC h h1 := fun k j hC => F k j (by omega)
      exact ⟨y, h1, t + 1, e, by omega, τ, g1, frC_IV f i, RC_up rc (fun k j hC => F k j (by omega)), frC_RM f rm, ey, fun q9 => by omega⟩
theorem lx_dropM {t T : Nat} {τ : List Nat} {h : zh} {cur : bsT} {hs : List bsT} (hg : hG τ h) (i : IV h T) {x xk : Int32} {c' : bsT} {hs' : List bsT} (rc : RC h c' hs') (rm : RM h cur hs) : ∃ (y : Int32) (h1 : zh) (t1 : Nat), qE 60 190 [some (.inl (some 52)), some (zi x), some (zi xk)] h t (.inl (some (zi y)), h1, t1) ∧ t1 ≤ t + 0 ∧ ∃ τ1, hG τ1 h1 ∧ IV h1 T ∧ RC h1 c' hs' ∧ RM h1 (opC (drop_ cur x.toInt xk.toInt) cur) (opH (drop_ cur x.toInt xk.toInt) cur hs) ∧ hsl h1 388 0 = hsl h 388 0 ∧ (∃ z : Int32, hsl h1 52 0 = some (zi z) ∧ z.toInt = opT (drop_ cur x.toInt xk.toInt)) ∧ (opT (drop_ cur x.toInt xk.toInt) = 0 → y.toInt = dropv cur x.toInt) := by
  unfold drop_ dropv
  rcases Decidable.em (x.toInt = 0 ∧ 0 ≤ xk.toInt ∧ xk.toInt < (cur.1.1.length : Int)) with q | q
  · obtain ⟨y, h1, e, τ1, g1, c, f, ey, z, hz, ez⟩ := m_drop0 (t := t) (k := xk.toInt.toNat) (xk := xk) hg rm q.1 (by omega) (by omega)
    rw [if_pos q, if_pos q.1]
    exact ⟨y, h1, t, e, by omega, τ1, g1, frM_IV f i, frM_RC f rc, c, f 388 0 (by omega), ⟨z, hz, ez⟩, fun _ => by omega⟩
  · rw [if_neg q]
    rcases Decidable.em (x.toInt = 1 ∧ 0 ≤ xk.toInt ∧ xk.toInt < (cur.2.1.length : Int)) with q1 | q1
    · obtain ⟨y, h1, e, τ1, g1, c, f, ey, z, hz, ez⟩ := m_drop1 (t := t) (k := xk.toInt.toNat) (xk := xk) hg rm q1.1 (by omega) (by omega)
      rw [if_pos q1, if_neg (show ¬ x.toInt = 0 by omega)]
      exact ⟨y, h1, t, e, by omega, τ1, g1, frM_IV f i, frM_RC f rc, c, f 388 0 (by omega), ⟨z, hz, ez⟩, fun _ => by omega⟩
    · rw [if_neg q1]
      obtain ⟨y, h1, e, τ1, g1, c, f, z, hz, ez⟩ := m_dropX (t := t) hg rm (x := x) (xk := xk) (by omega)
      exact ⟨y, h1, t, e, by omega, τ1, g1, frM_IV f i, frM_RC f rc, c, f 388 0 (by omega), ⟨z, hz, ez⟩, fun q9 => absurd q9 (by decide)⟩
def forget_ (cur : bsT) (x k : Int) : Option bsT := if x = 0 ∧ 0 ≤ k ∧ k < (cur.1.2.length : Int) then some ((cur.1.1, cur.1.2.eraseIdx k.toNat), cur.2) else if x = 1 ∧ 0 ≤ k ∧ k < (cur.2.2.length : Int) then some (cur.1, (cur.2.1, cur.2.2.eraseIdx k.toNat)) else none
def forgetv (cur : bsT) (x : Int) : Int := if x = 0 then (cur.1.2.length : Int) - 1 else (cur.2.2.length : Int) - 1
theorem lx_forgetC {t T : Nat} {τ : List Nat} {h : zh} {cur : bsT} {hs : List bsT} (hg : hG τ h) (i : IV h T) {x xk : Int32} (rc : RC h cur hs) (rm : RM h cur hs) : ∃ (y : Int32) (h1 : zh) (t1 : Nat), qE 60 278 [some (.inl (some 0)), some (zi x), some (zi xk), some (.inl (some 388)), none] h t (.inl (some (zi y)), h1, t1) ∧ t1 ≤ t + 1 ∧ ∃ τ1, hG τ1 h1 ∧ IV h1 T ∧ RC h1 (opC (forget_ cur x.toInt xk.toInt) cur) (opH (forget_ cur x.toInt xk.toInt) cur hs) ∧ RM h1 cur hs ∧ y.toInt = opT (forget_ cur x.toInt xk.toInt) ∧ (y.toInt = 0 → ∃ z : Int32, ou_ h1 z ∧ z.toInt = forgetv cur x.toInt) := by
  unfold forget_ forgetv
  rcases Decidable.em (x.toInt = 0 ∧ 0 ≤ xk.toInt ∧ xk.toInt < (cur.1.2.length : Int)) with q | q
  · obtain ⟨y, h1, e, τ1, g1, c, f, ey, z, hz, ez⟩ := c_lforget0 (t := t) (k := xk.toInt.toNat) (xk := xk) hg rc i.2.2.2.1 q.1 (by omega) (by omega)
    rw [if_pos q, if_pos q.1]
    exact ⟨y, h1, t, e, by omega, τ1, g1, frC_IV f i, c, frC_RM f rm, ey, fun _ => ⟨z, hz, by omega⟩⟩
  · rw [if_neg q]
    rcases Decidable.em (x.toInt = 1 ∧ 0 ≤ xk.toInt ∧ xk.toInt < (cur.2.2.length : Int)) with q1 | q1
    · obtain ⟨y, h1, e, τ1, g1, c, f, ey, z, hz, ez⟩ := c_lforget1 (t := t) (k := xk.toInt.toNat) (xk := xk) hg rc i.2.2.2.1 q1.1 (by omega) (by omega)
      rw [if_pos q1, if_neg (show ¬ x.toInt = 0 by omega)]
      exact ⟨y, h1, t, e, by omega, τ1, g1, frC_IV f i, c, frC_RM f rm, ey, fun _ => ⟨z, hz, by omega⟩⟩
    · rw [if_neg q1]
      obtain ⟨y, h1, e, ey, g1, F⟩ := c_lforgetX (t := t) hg rc i.2.2.2.1 (x := x) (xk := xk) (by omega)
      have f : frC h h1 := fun k j hC => F k j (by omega)
      exact ⟨y, h1, t + 1, e, by omega, τ, g1, frC_IV f i, RC_up rc (fun k j hC => F k j (by omega)), frC_RM f rm, ey, fun q9 => by omega⟩
theorem lx_forgetM {t T : Nat} {τ : List Nat} {h : zh} {cur : bsT} {hs : List bsT} (hg : hG τ h) (i : IV h T) {x xk : Int32} {c' : bsT} {hs' : List bsT} (rc : RC h c' hs') (rm : RM h cur hs) : ∃ (y : Int32) (h1 : zh) (t1 : Nat), qE 60 191 [some (.inl (some 52)), some (zi x), some (zi xk)] h t (.inl (some (zi y)), h1, t1) ∧ t1 ≤ t + 0 ∧ ∃ τ1, hG τ1 h1 ∧ IV h1 T ∧ RC h1 c' hs' ∧ RM h1 (opC (forget_ cur x.toInt xk.toInt) cur) (opH (forget_ cur x.toInt xk.toInt) cur hs) ∧ hsl h1 388 0 = hsl h 388 0 ∧ (∃ z : Int32, hsl h1 52 0 = some (zi z) ∧ z.toInt = opT (forget_ cur x.toInt xk.toInt)) ∧ (opT (forget_ cur x.toInt xk.toInt) = 0 → y.toInt = forgetv cur x.toInt) := by
  unfold forget_ forgetv
  rcases Decidable.em (x.toInt = 0 ∧ 0 ≤ xk.toInt ∧ xk.toInt < (cur.1.2.length : Int)) with q | q
  · obtain ⟨y, h1, e, τ1, g1, c, f, ey, z, hz, ez⟩ := m_forget0 (t := t) (k := xk.toInt.toNat) (xk := xk) hg rm q.1 (by omega) (by omega)
    rw [if_pos q, if_pos q.1]
    exact ⟨y, h1, t, e, by omega, τ1, g1, frM_IV f i, frM_RC f rc, c, f 388 0 (by omega), ⟨z, hz, ez⟩, fun _ => by omega⟩
  · rw [if_neg q]
    rcases Decidable.em (x.toInt = 1 ∧ 0 ≤ xk.toInt ∧ xk.toInt < (cur.2.2.length : Int)) with q1 | q1
    · obtain ⟨y, h1, e, τ1, g1, c, f, ey, z, hz, ez⟩ := m_forget1 (t := t) (k := xk.toInt.toNat) (xk := xk) hg rm q1.1 (by omega) (by omega)
      rw [if_pos q1, if_neg (show ¬ x.toInt = 0 by omega)]
      exact ⟨y, h1, t, e, by omega, τ1, g1, frM_IV f i, frM_RC f rc, c, f 388 0 (by omega), ⟨z, hz, ez⟩, fun _ => by omega⟩
    · rw [if_neg q1]
      obtain ⟨y, h1, e, τ1, g1, c, f, z, hz, ez⟩ := m_forgetX (t := t) hg rm (x := x) (xk := xk) (by omega)
      exact ⟨y, h1, t, e, by omega, τ1, g1, frM_IV f i, frM_RC f rc, c, f 388 0 (by omega), ⟨z, hz, ez⟩, fun q9 => absurd q9 (by decide)⟩
theorem lg_c {τ : List Nat} {h : zh} {t T : Nat} {a1 a2 a3 a4 a5 : Int32} {cur : bsT} {hs : List bsT} (hg : hG τ h) (i : IV h T) (rc : RC h cur hs) (rm : RM h cur hs) : ∃ (y : Int32) (h1 : zh) (t1 : Nat), qE 60 132 [some (.inl (some 0)), some (zi a1), some (zi a2), some (zi a3), some (zi a4), some (zi a5)] h t (.inl (some (zi y)), h1, t1) ∧ t1 ≤ t + 0 ∧ ∃ τ1, hG τ1 h1 ∧ fxC h h1 T a1 a2 a3 a4 a5 ∧ RC h1 cur hs ∧ RM h1 cur hs := by
  obtain ⟨xT, hT, eT⟩ := i.2.2.2.2.1
  have b1 := i.1
  have b2 := i.2.1
  rcases (show T = 200 ∨ T + 20 ≤ 200 by omega) with rfl | hT2
  · obtain ⟨y, h1, t1, e1, e2, e3, e4, τ1, g1, F, x, s1, s2⟩ := use_T (t := t) (d := 60) (T := 200) 0 (-1) (-1) 0 (okC (mk := 132) (c := ac327) (List.mem_of_getElem? (i := 11) rfl)) rfl hg (show aqsM _ _ [.inl (some 0), zi a1, zi a2, zi a3, zi a4, zi a5] from ⟨aqR (t0 hg), aqI (qin_full _).1 (qin_full _).2, aqI (qin_full _).1 (qin_full _).2, aqI (qin_full _).1 (qin_full _).2, aqI (qin_full _).1 (qin_full _).2, aqI (qin_full _).1 (qin_full _).2, trivial⟩) (l0 := [some (.inl (some 0)), some (zi a1), some (zi a2), some (zi a3), some (zi a4), some (zi a5)]) rfl (by decide) (t0 hg) hT eT (by decide +kernel) (by decide)
    have c := kpC_w hg F (by decide +kernel)
    exact ⟨y, h1, t1, e1, e2, τ1, g1, ⟨c.2.2.2.1 i.2.2.1, c.2.2.2.2, kpM_w hg F (by decide +kernel), c.2.2.1, Or.inl ⟨rfl, c.2.1, c.1⟩⟩, RC_w hg F (by decide +kernel) rc, RM_w hg F (by decide +kernel) rm⟩
  · obtain ⟨y, h1, e, τ1, O, x1, f⟩ := c_feed (t := t) (a1 := a1) (a2 := a2) (a3 := a3) (a4 := a4) (a5 := a5) hg hT eT hT2
    exact ⟨y, h1, t, e, by omega, τ1, O.2.1, ⟨⟨(O.2.2 15 15 0 (tv15 hg) (show (15 ≠ 0 ∨ 0 ≠ 1) ∧ (15 ≠ 1 ∨ 0 < T ∨ T + 20 ≤ 0) by omega)).trans i.2.2.1.1, (O.2.2 16 1000 0 (tv16 hg) (show (16 ≠ 0 ∨ 0 ≠ 1) ∧ (16 ≠ 1 ∨ 0 < T ∨ T + 20 ≤ 0) by omega)).trans i.2.2.1.2.1, (O.2.2 16 1000 1 (tv16 hg) (show (16 ≠ 0 ∨ 1 ≠ 1) ∧ (16 ≠ 1 ∨ 1 < T ∨ T + 20 ≤ 1) by omega)).trans i.2.2.1.2.2.1, (O.2.2 17 1001 0 (tv17 hg) (show (17 ≠ 0 ∨ 0 ≠ 1) ∧ (17 ≠ 1 ∨ 0 < T ∨ T + 20 ≤ 0) by omega)).trans i.2.2.1.2.2.2.1, (O.2.2 17 1001 1 (tv17 hg) (show (17 ≠ 0 ∨ 1 ≠ 1) ∧ (17 ≠ 1 ∨ 1 < T ∨ T + 20 ≤ 1) by omega)).trans i.2.2.1.2.2.2.2.1, (O.2.2 22 1001 0 (tv22 hg) (show (22 ≠ 0 ∨ 0 ≠ 1) ∧ (22 ≠ 1 ∨ 0 < T ∨ T + 20 ≤ 0) by omega)).trans i.2.2.1.2.2.2.2.2.1, (O.2.2 22 1001 1 (tv22 hg) (show (22 ≠ 0 ∨ 1 ≠ 1) ∧ (22 ≠ 1 ∨ 1 < T ∨ T + 20 ≤ 1) by omega)).trans i.2.2.1.2.2.2.2.2.2.1, (O.2.2 18 1002 0 (tv18 hg) (show (18 ≠ 0 ∨ 0 ≠ 1) ∧ (18 ≠ 1 ∨ 0 < T ∨ T + 20 ≤ 0) by omega)).trans i.2.2.1.2.2.2.2.2.2.2.1, (O.2.2 20 1003 0 (tv20 hg) (show (20 ≠ 0 ∨ 0 ≠ 1) ∧ (20 ≠ 1 ∨ 0 < T ∨ T + 20 ≤ 0) by omega)).trans i.2.2.1.2.2.2.2.2.2.2.2.1, (O.2.2 23 1002 0 (tv23 hg) (show (23 ≠ 0 ∨ 0 ≠ 1) ∧ (23 ≠ 1 ∨ 0 < T ∨ T + 20 ≤ 0) by omega)).trans i.2.2.1.2.2.2.2.2.2.2.2.2.1, (O.2.2 25 1003 0 (tv25 hg) (show (25 ≠ 0 ∨ 0 ≠ 1) ∧ (25 ≠ 1 ∨ 0 < T ∨ T + 20 ≤ 0) by omega)).trans i.2.2.1.2.2.2.2.2.2.2.2.2.2⟩, O.2.2 0 0 5 (tv0 hg) (show (0 ≠ 0 ∨ 5 ≠ 1) ∧ (0 ≠ 1 ∨ 5 < T ∨ T + 20 ≤ 5) by omega), ⟨fun j => O.2.2 54 54 j (tu54 hg) (show (54 ≠ 0 ∨ j ≠ 1) ∧ (54 ≠ 1 ∨ j < T ∨ T + 20 ≤ j) by omega), O.2.2 52 52 2 (t52 hg) (show (52 ≠ 0 ∨ 2 ≠ 1) ∧ (52 ≠ 1 ∨ 2 < T ∨ T + 20 ≤ 2) by omega), O.2.2 52 52 5 (t52 hg) (show (52 ≠ 0 ∨ 5 ≠ 1) ∧ (52 ≠ 1 ∨ 5 < T ∨ T + 20 ≤ 5) by omega)⟩, O.2.2 0 0 2 (tv0 hg) (show (0 ≠ 0 ∨ 2 ≠ 1) ∧ (0 ≠ 1 ∨ 2 < T ∨ T + 20 ≤ 2) by omega), Or.inr ⟨hT2, x1, fun j hj => O.2.2 1 1 j (tv1 hg) (show (1 ≠ 0 ∨ j ≠ 1) ∧ (1 ≠ 1 ∨ j < T ∨ T + 20 ≤ j) by omega), f⟩⟩, RC_upT hg rc (fun k T9 j hk _ hC => O.2.2 k T9 j hk (show (k ≠ 0 ∨ j ≠ 1) ∧ (k ≠ 1 ∨ j < T ∨ T + 20 ≤ j) by omega)), RM_upT hg rm (fun k T9 j hk hC => O.2.2 k T9 j hk (show (k ≠ 0 ∨ j ≠ 1) ∧ (k ≠ 1 ∨ j < T ∨ T + 20 ≤ j) by omega))⟩
theorem lg_m {τ : List Nat} {h : zh} {t T : Nat} {xT a1 a2 a3 a4 a5 : Int32} {cur : bsT} {hs : List bsT} (hg : hG τ h) (b1 : T ≤ 200) (b2 : T % 20 = 0) (hT : hsl h 52 2 = some (zi xT)) (eT : xT.toInt = (T : Int)) (rc : RC h cur hs) (rm : RM h cur hs) : ∃ (y : Int32) (h1 : zh) (t1 : Nat), qE 60 165 [some (.inl (some 52)), some (zi a1), some (zi a2), some (zi a3), some (zi a4), some (zi a5), none, none] h t (.inl (some (zi y)), h1, t1) ∧ t1 ≤ t + 0 ∧ ∃ τ1, hG τ1 h1 ∧ fxM h h1 T a1 a2 a3 a4 a5 ∧ RC h1 cur hs ∧ RM h1 cur hs := by
  rcases (show T = 200 ∨ T + 20 ≤ 200 by omega) with rfl | hT2
  · obtain ⟨y, h1, t1, e1, e2, e3, e4, τ1, g1, F, x, s1, s2⟩ := use_T (t := t) (d := 60) (T := 200) 0 (-1) (-1) 0 (okC (mk := 165) (c := ac371) (List.mem_of_getElem? (i := 11) rfl)) rfl hg (show aqsM _ _ [.inl (some 52), zi a1, zi a2, zi a3, zi a4, zi a5] from ⟨aqR (t52 hg), aqI (qin_full _).1 (qin_full _).2, aqI (qin_full _).1 (qin_full _).2, aqI (qin_full _).1 (qin_full _).2, aqI (qin_full _).1 (qin_full _).2, aqI (qin_full _).1 (qin_full _).2, trivial⟩) (l0 := [some (.inl (some 52)), some (zi a1), some (zi a2), some (zi a3), some (zi a4), some (zi a5), none, none]) rfl (by decide) (t52 hg) hT eT (by decide +kernel) (by decide)
    have m := kpM_w hg F (by decide +kernel)
    exact ⟨y, h1, t1, e1, e2, τ1, g1, ⟨kpC_w hg F (by decide +kernel), m.2.2, Or.inl ⟨rfl, m.2.1, m.1⟩⟩, RC_w hg F (by decide +kernel) rc, RM_w hg F (by decide +kernel) rm⟩
  · obtain ⟨y, h1, e, τ1, O, x1, f⟩ := m_feed (t := t) (a1 := a1) (a2 := a2) (a3 := a3) (a4 := a4) (a5 := a5) hg hT eT hT2
    exact ⟨y, h1, t, e, by omega, τ1, O.2.1, ⟨⟨fun j => O.2.2 1 1 j (tv1 hg) (show (1 ≠ 52 ∨ (j ≠ 0 ∧ j ≠ 2)) ∧ (1 ≠ 54 ∨ j < T ∨ T + 20 ≤ j) by omega), O.2.2 0 0 1 (tv0 hg) (show (0 ≠ 52 ∨ (1 ≠ 0 ∧ 1 ≠ 2)) ∧ (0 ≠ 54 ∨ 1 < T ∨ T + 20 ≤ 1) by omega), O.2.2 0 0 2 (tv0 hg) (show (0 ≠ 52 ∨ (2 ≠ 0 ∧ 2 ≠ 2)) ∧ (0 ≠ 54 ∨ 2 < T ∨ T + 20 ≤ 2) by omega), fun al => ⟨(O.2.2 15 15 0 (tv15 hg) (show (15 ≠ 52 ∨ (0 ≠ 0 ∧ 0 ≠ 2)) ∧ (15 ≠ 54 ∨ 0 < T ∨ T + 20 ≤ 0) by omega)).trans al.1, (O.2.2 16 1000 0 (tv16 hg) (show (16 ≠ 52 ∨ (0 ≠ 0 ∧ 0 ≠ 2)) ∧ (16 ≠ 54 ∨ 0 < T ∨ T + 20 ≤ 0) by omega)).trans al.2.1, (O.2.2 16 1000 1 (tv16 hg) (show (16 ≠ 52 ∨ (1 ≠ 0 ∧ 1 ≠ 2)) ∧ (16 ≠ 54 ∨ 1 < T ∨ T + 20 ≤ 1) by omega)).trans al.2.2.1, (O.2.2 17 1001 0 (tv17 hg) (show (17 ≠ 52 ∨ (0 ≠ 0 ∧ 0 ≠ 2)) ∧ (17 ≠ 54 ∨ 0 < T ∨ T + 20 ≤ 0) by omega)).trans al.2.2.2.1, (O.2.2 17 1001 1 (tv17 hg) (show (17 ≠ 52 ∨ (1 ≠ 0 ∧ 1 ≠ 2)) ∧ (17 ≠ 54 ∨ 1 < T ∨ T + 20 ≤ 1) by omega)).trans al.2.2.2.2.1, (O.2.2 22 1001 0 (tv22 hg) (show (22 ≠ 52 ∨ (0 ≠ 0 ∧ 0 ≠ 2)) ∧ (22 ≠ 54 ∨ 0 < T ∨ T + 20 ≤ 0) by omega)).trans al.2.2.2.2.2.1, (O.2.2 22 1001 1 (tv22 hg) (show (22 ≠ 52 ∨ (1 ≠ 0 ∧ 1 ≠ 2)) ∧ (22 ≠ 54 ∨ 1 < T ∨ T + 20 ≤ 1) by omega)).trans al.2.2.2.2.2.2.1, (O.2.2 18 1002 0 (tv18 hg) (show (18 ≠ 52 ∨ (0 ≠ 0 ∧ 0 ≠ 2)) ∧ (18 ≠ 54 ∨ 0 < T ∨ T + 20 ≤ 0) by omega)).trans al.2.2.2.2.2.2.2.1, (O.2.2 20 1003 0 (tv20 hg) (show (20 ≠ 52 ∨ (0 ≠ 0 ∧ 0 ≠ 2)) ∧ (20 ≠ 54 ∨ 0 < T ∨ T + 20 ≤ 0) by omega)).trans al.2.2.2.2.2.2.2.2.1, (O.2.2 23 1002 0 (tv23 hg) (show (23 ≠ 52 ∨ (0 ≠ 0 ∧ 0 ≠ 2)) ∧ (23 ≠ 54 ∨ 0 < T ∨ T + 20 ≤ 0) by omega)).trans al.2.2.2.2.2.2.2.2.2.1, (O.2.2 25 1003 0 (tv25 hg) (show (25 ≠ 52 ∨ (0 ≠ 0 ∧ 0 ≠ 2)) ∧ (25 ≠ 54 ∨ 0 < T ∨ T + 20 ≤ 0) by omega)).trans al.2.2.2.2.2.2.2.2.2.2⟩, O.2.2 0 0 5 (tv0 hg) (show (0 ≠ 52 ∨ (5 ≠ 0 ∧ 5 ≠ 2)) ∧ (0 ≠ 54 ∨ 5 < T ∨ T + 20 ≤ 5) by omega)⟩, O.2.2 52 52 5 (t52 hg) (show (52 ≠ 52 ∨ (5 ≠ 0 ∧ 5 ≠ 2)) ∧ (52 ≠ 54 ∨ 5 < T ∨ T + 20 ≤ 5) by omega), Or.inr ⟨hT2, x1, fun j hj => O.2.2 54 54 j (tu54 hg) (show (54 ≠ 52 ∨ (j ≠ 0 ∧ j ≠ 2)) ∧ (54 ≠ 54 ∨ j < T ∨ T + 20 ≤ j) by omega), f⟩⟩, RC_upT hg rc (fun k T9 j hk _ hC => O.2.2 k T9 j hk (show (k ≠ 52 ∨ (j ≠ 0 ∧ j ≠ 2)) ∧ (k ≠ 54 ∨ j < T ∨ T + 20 ≤ j) by omega)), RM_upT hg rm (fun k T9 j hk hC => O.2.2 k T9 j hk (show (k ≠ 52 ∨ (j ≠ 0 ∧ j ≠ 2)) ∧ (k ≠ 54 ∨ j < T ∨ T + 20 ≤ j) by omega))⟩
def txC2 (h h1 : zh) (T : Nat) (xn : Int32) (cur : bsT) (hs : List bsT) (y : Int32) : Prop := kpM h h1 ∧ RM h1 cur hs ∧ (((xn.toInt < 0 ∨ (T : Int) < xn.toInt) ∧ kpC h h1 ∧ RC h1 cur hs ∧ y.toInt = 1) ∨ (∃ n : Nat, xn.toInt = (n : Int) ∧ n ≤ T ∧ alC h1 ∧ hsl h1 0 5 = hsl h 0 5 ∧ (∃ x : Int32, hsl h1 0 1 = some (zi x) ∧ x.toInt = 0) ∧ (∃ x : Int32, hsl h1 0 2 = some (zi x) ∧ x.toInt = flV (wAll (tb h) n)) ∧ RC h1 (tcur (wAll (tb h) n) cur) (ths (wAll (tb h) n) cur hs) ∧ y.toInt = 0 ∧ ∃ z : Int32, ou_ h1 z ∧ txA (wAll (tb h) n) z))
def txM2 (h h1 h2 : zh) (T : Nat) (xn : Int32) (cur : bsT) (hs : List bsT) (y : Int32) : Prop := kpC h1 h2 ∧ hsl h2 388 0 = hsl h1 388 0 ∧ (∀ cur hs, RC h1 cur hs → RC h2 cur hs) ∧ (((xn.toInt < 0 ∨ (T : Int) < xn.toInt) ∧ kpM h1 h2 ∧ RM h2 cur hs ∧ ∃ x : Int32, hsl h2 52 0 = some (zi x) ∧ x.toInt = 1) ∨ (∃ n : Nat, xn.toInt = (n : Int) ∧ n ≤ T ∧ (∃ x : Int32, hsl h2 52 2 = some (zi x) ∧ x.toInt = 0) ∧ (∃ x : Int32, hsl h2 52 5 = some (zi x) ∧ x.toInt = flV (wAll (tb h) n)) ∧ (∃ x : Int32, hsl h2 52 0 = some (zi x) ∧ x.toInt = 0) ∧ RM h2 (tcur (wAll (tb h) n) cur) (ths (wAll (tb h) n) cur hs) ∧ txA (wAll (tb h) n) y))
theorem lx_textC {t T : Nat} {τ : List Nat} {h : zh} {cur : bsT} {hs : List bsT} (hg : hG τ h) (i : IV h T) {xn : Int32} (rc : RC h cur hs) (rm : RM h cur hs) : ∃ (y : Int32) (h1 : zh) (t1 : Nat), qE 60 276 [some (.inl (some 0)), some (zi xn), some (.inl (some 388)), none] h t (.inl (some (zi y)), h1, t1) ∧ t1 ≤ t + 1 ∧ ∃ τ1, hG τ1 h1 ∧ txC2 h h1 T xn cur hs y := by
  obtain ⟨i1, i2, i3, i4, ⟨x, i5, i6⟩, -, i9, -⟩ := i
  rcases (show (xn.toInt < 0 ∨ (T : Int) < xn.toInt) ∨ (0 ≤ xn.toInt ∧ xn.toInt ≤ (T : Int)) by omega) with q | ⟨q, q'⟩
  · obtain ⟨y, h1, e1, ey, g1, F⟩ := c_ltextT (t := t) hg i5 i6 q
    exact ⟨y, h1, t + 1, e1, by omega, τ, g1, ⟨fun j => F _ _ (by omega), F _ _ (by omega), F _ _ (by omega)⟩, RM_up rm (fun k j hC => F k j (by omega)), Or.inl ⟨q, ⟨fun j => F _ _ (by omega), F _ _ (by omega), F _ _ (by omega), fun al => ⟨(F 15 0 (by omega)).trans al.1, (F 16 0 (by omega)).trans al.2.1, (F 16 1 (by omega)).trans al.2.2.1, (F 17 0 (by omega)).trans al.2.2.2.1, (F 17 1 (by omega)).trans al.2.2.2.2.1, (F 22 0 (by omega)).trans al.2.2.2.2.2.1, (F 22 1 (by omega)).trans al.2.2.2.2.2.2.1, (F 18 0 (by omega)).trans al.2.2.2.2.2.2.2.1, (F 20 0 (by omega)).trans al.2.2.2.2.2.2.2.2.1, (F 23 0 (by omega)).trans al.2.2.2.2.2.2.2.2.2.1, (F 25 0 (by omega)).trans al.2.2.2.2.2.2.2.2.2.2⟩, F _ _ (by omega)⟩, RC_up rc (fun k j hC => F k j (by omega)), ey⟩⟩
  · obtain ⟨n, hn⟩ : ∃ n : Nat, xn.toInt = (n : Int) := ⟨xn.toInt.toNat, by omega⟩
    obtain ⟨y, h1, e, τ1, g1, ey, z, hz, m, -, al1, e5, z1, z2, krm, krc, ktx⟩ := c_ltext2 (t := t) (n := n) (b := tb h) hg rc i4 i3 i5 i6 i1 hn (by omega) (fun j hj => by
      obtain ⟨z, q1, q2⟩ := i9 j (by omega)
      exact ⟨z, q1, (tb_of q1).symm⟩)
    exact ⟨y, h1, t, e, by omega, τ1, g1, m, krm _ _ rm, Or.inr ⟨n, hn, by omega, al1, e5, z1, z2, krc, ey, z, hz, ktx⟩⟩
theorem m_textT {t T : Nat} {τ : List Nat} {h : zh} {xn xT : Int32} (hg : hG τ h) (hT : hsl h 52 2 = some (zi xT)) (eT : xT.toInt = (T : Int)) (ho : xn.toInt < 0 ∨ (T : Int) < xn.toInt) : qI 60 183 [some (.inl (some 52)), some (zi xn), none] h t (fun y h1 => hG τ h1 ∧ (∃ x : Int32, hsl h1 52 0 = some (zi x) ∧ x.toInt = 1) ∧ ∀ k j, (k ≠ 53 ∧ (k ≠ 52 ∨ j ≠ 0)) → hsl h1 k j = hsl h k j) := by
  refine qI_le (d := 21) (by decide) (qI_of ?_)
  refine y_same (i := .aload_n 0) (len := 1) (r := (0, 0, 0, 0)) (pc' := 1) (ls' := [some (.inl (some 52)), some (zi xn), none]) (st' := [.inl (some 52)]) (by decide +kernel) (fun k q => by cases q) rfl ?_
  refine y_ic (c := 0) (len := 1) (r := (0, 0, 0, 0)) (by decide +kernel) (by decide) (fun y2366 hy2366 => ?_)
  refine y_put (j := 92) (lo := (-2147483648)) (hi := 2147483647) (len := 3) (r := (12, 0, 0, 1328)) (by decide +kernel) hg (t52 hg) at52 rfl rfl (by decide) rfl (qin_full _).1 (qin_full _).2 rfl (fun h2367 hg2367 hl2367 hs2367 ho2367 => ?_)
  have ho2367 : hO 52 0 h h2367 := ho2367
  have hs2367 : hsl h2367 52 0 = some (zi y2366) := hs2367
  refine y_same (i := .aload_n 0) (len := 1) (r := (0, 0, 0, 0)) (pc' := 6) (ls' := [some (.inl (some 52)), some (zi xn), none]) (st' := [.inl (some 52)]) (by decide +kernel) (fun k q => by cases q) rfl ?_
  refine y_same (i := .iload_n 1) (len := 1) (r := (0, 0, 0, 0)) (pc' := 7) (ls' := [some (.inl (some 52)), some (zi xn), none]) (st' := [zi xn, .inl (some 52)]) (by decide +kernel) (fun k q => by cases q) rfl ?_
  refine y_ic (c := 0) (len := 1) (r := (0, 0, 0, 0)) (by decide +kernel) (by decide) (fun y2368 hy2368 => ?_)
  refine y_same (i := .aload_n 0) (len := 1) (r := (0, 0, 0, 0)) (pc' := 9) (ls' := [some (.inl (some 52)), some (zi xn), none]) (st' := [.inl (some 52), zi y2368, zi xn, .inl (some 52)]) (by decide +kernel) (fun k q => by cases q) rfl ?_
  have hv2369 := (ho2367 52 2 (Or.inr (by omega))).trans hT
  refine y_get (j := 95) (len := 3) (r := (12, 2, 0, 1330)) (by decide +kernel) hg2367 (t52 hg2367) at52 rfl rfl hv2369 ?_
  refine y_cI (i := .invokestatic 200) (len := 3) (r := (1, 162, 12, 1486)) (nL := 3) (k := 2) (n := 3) (hs := []) (args := [zi xn, zi y2368, zi xT]) (rest := [.inl (some 52)]) (l0 := [some (zi xn), some (zi y2368), some (zi xT)]) (by decide +kernel) (Or.inl ⟨_, rfl⟩) rfl rfl rfl rfl (Nat.le_of_ble_eq_true rfl) rfl rfl (qI_le (by decide) (m_in0 (d := 0) (by omega))) (fun y2370 qy2370 hRy2370 => ?_)
  obtain ⟨rfl, hy2370⟩ := hRy2370
  refine y_iF (c := .ne) (off := 7) (len := 3) (r := (0, 0, 0, 0)) (by decide +kernel) (acmpF (c := .ne) (by show _ = _; omega)) ?_
  refine y_ic (c := 1) (len := 1) (r := (0, 0, 0, 0)) (by decide +kernel) (by decide) (fun y2371 hy2371 => ?_)
  refine y_goto (off := 4) (pc' := 23) (len := 3) (r := (0, 0, 0, 0)) (by decide +kernel) (by decide +kernel) ?_
  refine y_ic (c := 1) (len := 1) (r := (0, 0, 0, 0)) (by decide +kernel) (by decide) (fun y2372 hy2372 => ?_)
  refine y_ic (c := 1) (len := 1) (r := (0, 0, 0, 0)) (by decide +kernel) (by decide) (fun y2373 hy2373 => ?_)
  refine y_cI (i := .invokevirtual 204) (len := 3) (r := (0, 161, 12, 1489)) (nL := 4) (k := 2) (n := 4) (hs := []) (args := [.inl (some 52), zi y2371, zi y2372, zi y2373]) (rest := []) (l0 := [some (.inl (some 52)), some (zi y2371), some (zi y2372), some (zi y2373)]) (by decide +kernel) (Or.inr (Or.inl ⟨_, rfl⟩)) rfl rfl rfl rfl (Nat.le_of_ble_eq_true rfl) (z52 hg2367) rfl (qI_le (by decide) (m_bad1 (d := 0) (e := 1) hg2367 (by omega) (by omega) (by omega) (by omega) hs2367 (by omega))) (fun y2374 h2374 hRy2374 => ?_)
  obtain ⟨hg2374, hy2374, ⟨z2374, hz2374, ez2374⟩, F2374⟩ := hRy2374
  refine y_iF (c := .eq) (off := 5) (len := 3) (r := (0, 0, 0, 0)) (by decide +kernel) (acmpF (c := .eq) (by show ¬ (_ = _); omega)) ?_
  refine y_ic (c := 0) (len := 1) (r := (0, 0, 0, 0)) (by decide +kernel) (by decide) (fun y2375 hy2375 => ?_)
  refine y_rI (len := 1) (r := (0, 0, 0, 0)) (nL := 3) (k := 1) (n9 := 2) (hs := []) (by decide +kernel) rfl rfl ?_
  exact ⟨hg2374, ⟨_, hz2374, by omega⟩, fun k j hC => ((F2374 k j (by omega)).trans (ho2367 k j (by omega)))⟩
theorem lx_textM {t T : Nat} {τ : List Nat} {h h1 : zh} {xn y0 : Int32} {cur : bsT} {hs : List bsT} (hg : hG τ h1) (i : IV h T) (c : txC2 h h1 T xn cur hs y0) : ∃ (y : Int32) (h2 : zh) (t1 : Nat), qE 60 183 [some (.inl (some 52)), some (zi xn), none] h1 t (.inl (some (zi y)), h2, t1) ∧ t1 ≤ t + 0 ∧ ∃ τ1, hG τ1 h2 ∧ txM2 h h1 h2 T xn cur hs y := by
  obtain ⟨i1, i2, i3, i4, -, ⟨x, i5, i6⟩, i9, -⟩ := i
  obtain ⟨k, rm, -⟩ := c
  rcases (show (xn.toInt < 0 ∨ (T : Int) < xn.toInt) ∨ (0 ≤ xn.toInt ∧ xn.toInt ≤ (T : Int)) by omega) with q | ⟨q, q'⟩
  · obtain ⟨y, h2, e1, g1, th, F⟩ := m_textT (t := t) hg (k.2.1.trans i5) i6 q
    exact ⟨y, h2, t, e1, by omega, τ, g1, ⟨fun j => F _ _ (by omega), F _ _ (by omega), F _ _ (by omega), fun al => ⟨(F 15 0 (by omega)).trans al.1, (F 16 0 (by omega)).trans al.2.1, (F 16 1 (by omega)).trans al.2.2.1, (F 17 0 (by omega)).trans al.2.2.2.1, (F 17 1 (by omega)).trans al.2.2.2.2.1, (F 22 0 (by omega)).trans al.2.2.2.2.2.1, (F 22 1 (by omega)).trans al.2.2.2.2.2.2.1, (F 18 0 (by omega)).trans al.2.2.2.2.2.2.2.1, (F 20 0 (by omega)).trans al.2.2.2.2.2.2.2.2.1, (F 23 0 (by omega)).trans al.2.2.2.2.2.2.2.2.2.1, (F 25 0 (by omega)).trans al.2.2.2.2.2.2.2.2.2.2⟩, F _ _ (by omega)⟩, F _ _ (by omega), fun cur hs rc => RC_up rc (fun k j hC => F k j (by omega)), Or.inl ⟨q, ⟨fun j => F _ _ (by omega), F _ _ (by omega), F _ _ (by omega)⟩, RM_up rm (fun k j hC => F k j (by omega)), th⟩⟩
  · obtain ⟨n, hn⟩ : ∃ n : Nat, xn.toInt = (n : Int) := ⟨xn.toInt.toNat, by omega⟩
    obtain ⟨y, h2, e, τ1, g1, c, -, z1, z2, z3, z4, krc, krm, ktx⟩ := m_text2 (t := t) (n := n) (b := tb h) hg rm (k.2.1.trans i5) i6 i1 hn (by omega) (fun j hj => by
      obtain ⟨z, q1, q2⟩ := i9 j (by omega)
      exact ⟨z, (k.1 j).trans q2, (tb_of q1).symm⟩) (fun j hj => by
      obtain ⟨z, q1, q2⟩ := i9 j (by omega)
      obtain ⟨w, r1, r2, -⟩ := g_int (i := j) hg (tu54 hg) at54 (show j < 200 by omega) (sr1 (by omega))
      rw [(k.1 j).trans q2] at r1
      cases r1
      rw [tb_of q1]
      exact r2)
    exact ⟨y, h2, t, e, by omega, τ1, g1, c, z4, krc, Or.inr ⟨n, hn, by omega, z1, z2, z3, krm, ktx⟩⟩
theorem IW_text {h h1 h2 : zh} {T : Nat} {xn yc ym : Int32} {cur : bsT} {hs : List bsT} (i : IV h T) (cz : CZ cur hs) (c : txC2 h h1 T xn cur hs yc) (m : txM2 h h1 h2 T xn cur hs ym) : IW h2 ∧ (∃ x : Int32, hsl h2 52 0 = some (zi x) ∧ x.toInt = yc.toInt) ∧ (yc.toInt = 0 → ou_ h2 ym) := by
  obtain ⟨km, -, c⟩ := c
  obtain ⟨kc, k388, krc, m⟩ := m
  rcases c with ⟨q, c, rc, ey⟩ | ⟨n, e1, e2, al1, c5, ⟨x1, z1, z2⟩, ⟨x2, z3, z4⟩, rc, ey, z, hz, ez⟩
  · rcases m with ⟨-, m, rm, x, t1, t2⟩ | ⟨n, e1, e2, -⟩
    · exact ⟨⟨T, cur, hs, IV_kp kc m (IV_kp c km i), krc _ _ rc, rm, cz⟩, ⟨x, t1, by omega⟩, fun q9 => by omega⟩
    · omega
  · rcases m with ⟨q, -⟩ | ⟨n', e1', e2', ⟨y1, w1, w2⟩, ⟨y2, w3, w4⟩, ⟨x, t1, t2⟩, rm, ktx⟩
    · omega
    · have hn : n' = n := by omega
      subst hn
      have hx : x2 = y2 := Int32.toInt_inj.mp (by rw [z4, w4])
      subst hx
      obtain ⟨k1, k2, k3, k4, k5⟩ := kc
      refine ⟨⟨0, _, _, ⟨by omega, rfl, k4 al1, k5.trans (c5.trans i.2.2.2.1), ⟨x1, k2.trans z1, z2⟩, ⟨y1, w1, w2⟩, fun j hj => absurd hj (Nat.not_lt_zero j), x2, k3.trans z3, w3⟩, krc _ _ rc, rm, CZ_text cz⟩, ⟨x, t1, by omega⟩, fun _ => ?_⟩
      rw [txA_eq ktx ez]
      exact k388.trans hz
theorem CZ_undo {cur : bsT} {hs : List bsT} (c : CZ cur hs) : CZ (udc cur hs) hs.dropLast := by
  refine ⟨?_, fun b hb => c.2 b (List.dropLast_subset hs hb)⟩
  unfold udc
  cases h : hs.getLast? with
  | none => exact c.1
  | some b => exact c.2 b (List.mem_of_getLast? h)
theorem CZ_drop {cur : bsT} {hs : List bsT} {x k : Int} (c : CZ cur hs) : CZ (opC (drop_ cur x k) cur) (opH (drop_ cur x k) cur hs) := by
  unfold drop_
  split
  · exact CZ_psh c ⟨c.1.1, c.1.2⟩
  · split
    · exact CZ_psh c ⟨c.1.1, c.1.2⟩
    · exact c
theorem CZ_forget {cur : bsT} {hs : List bsT} {x k : Int} (c : CZ cur hs) : CZ (opC (forget_ cur x k) cur) (opH (forget_ cur x k) cur hs) := by
  unfold forget_
  split
  · exact CZ_psh c ⟨fun i hi => c.1.1 i (List.mem_of_mem_eraseIdx hi), c.1.2⟩
  · split
    · exact CZ_psh c ⟨c.1.1, fun i hi => c.1.2 i (List.mem_of_mem_eraseIdx hi)⟩
    · exact c
