/-! what the law's acts leave of both provers' kept answers -/
theorem jx_turnC {t T : Nat} {τ : List Nat} {h : zh} {cur cm : bsT} {hs : List bsT} (hg : hG τ h) (i : IV h T) (rc : RC h cur hs) (jc : JCx h cur) (jm : JMx h cm) {y : Int32} {h1 : zh} {t1 : Nat} (e : qE 60 135 [some (.inl (some 0))] h t (.inl (some (zi y)), h1, t1)) : JCx h1 (cur.2, cur.1) ∧ JMx h1 cm := by
  have F9 := (use_F (okC (mk := 135) (c := ac47) List.mem_cons_self) rfl hg (show aqsM _ _ [.inl (some 0)] from ⟨aqR (t0 hg), trivial⟩) rfl (by decide) e).1
  obtain ⟨k1, k2⟩ := kpX_w hg F9 (by decide +kernel)
  have k3 := kpY_w hg F9 (by decide +kernel)
  have f31 := F9 52 52 31 (t52 hg) (by decide +kernel)
  exact ⟨JCx_0 k1 k2 (qI_at e (jp_turnC hg rc i.2.2.2.1)) (qI_at e (jr_turnC hg rc i.2.2.2.1)) jc, JMx_kp k3 f31 jm⟩
theorem jx_turnM {t : Nat} {τ : List Nat} {h : zh} {cur cc : bsT} {hs : List bsT} (hg : hG τ h) (rm : RM h cur hs) (jc : JCx h cc) (jm : JMx h cur) {y : Int32} {h1 : zh} {t1 : Nat} (e : qE 60 188 [some (.inl (some 52)), none, none] h t (.inl (some (zi y)), h1, t1)) : JCx h1 cc ∧ JMx h1 (cur.2, cur.1) := by
  have F9 := (use_F (okC (mk := 188) (c := ac201) List.mem_cons_self) rfl hg (show aqsM _ _ [.inl (some 52)] from ⟨aqR (t52 hg), trivial⟩) rfl (by decide) e).1
  obtain ⟨k1, k2⟩ := kpX_w hg F9 (by decide +kernel)
  have k3 := kpY_w hg F9 (by decide +kernel)
  have f28 := F9 28 28 5 (tv28 hg) (by decide +kernel)
  have f35 := F9 35 35 5 (tv35 hg) (by decide +kernel)
  exact ⟨JCx_kp k1 k2 (Or.inl f35) (Or.inl f28) jc, JMx_0 (qI_at e (jp_turnM hg rm))⟩
theorem jx_undoC {t T : Nat} {τ : List Nat} {h : zh} {cur cm : bsT} {hs : List bsT} (hg : hG τ h) (i : IV h T) (rc : RC h cur hs) (jc : JCx h cur) (jm : JMx h cm) {y : Int32} {h1 : zh} {t1 : Nat} (e : qE 60 138 [some (.inl (some 0))] h t (.inl (some (zi y)), h1, t1)) : JCx h1 (udc cur hs) ∧ JMx h1 cm := by
  have F9 := (use_F (okC (mk := 138) (c := ac53) List.mem_cons_self) rfl hg (show aqsM _ _ [.inl (some 0)] from ⟨aqR (t0 hg), trivial⟩) rfl (by decide) e).1
  obtain ⟨k1, k2⟩ := kpX_w hg F9 (by decide +kernel)
  have k3 := kpY_w hg F9 (by decide +kernel)
  have f31 := F9 52 52 31 (t52 hg) (by decide +kernel)
  refine ⟨?_, JMx_kp k3 f31 jm⟩
  rcases qI_at e (jp_undoC hg rc i.2.2.2.1) with ⟨q1, q2⟩ | q
  · subst q1
    subst q2
    exact jc
  · rcases qI_at e (jr_undoC hg rc i.2.2.2.1) with ⟨q1, q2⟩ | q'
    · subst q1
      subst q2
      exact jc
    · exact JCx_0 k1 k2 q q' jc
theorem jx_undoM {t : Nat} {τ : List Nat} {h : zh} {cur cc : bsT} {hs : List bsT} (hg : hG τ h) (rm : RM h cur hs) (jc : JCx h cc) (jm : JMx h cur) {y : Int32} {h1 : zh} {t1 : Nat} (e : qE 60 187 [some (.inl (some 52))] h t (.inl (some (zi y)), h1, t1)) : JCx h1 cc ∧ JMx h1 (udc cur hs) := by
  have F9 := (use_F (okC (mk := 187) (c := ac227) List.mem_cons_self) rfl hg (show aqsM _ _ [.inl (some 52)] from ⟨aqR (t52 hg), trivial⟩) rfl (by decide) e).1
  obtain ⟨k1, k2⟩ := kpX_w hg F9 (by decide +kernel)
  have k3 := kpY_w hg F9 (by decide +kernel)
  have f28 := F9 28 28 5 (tv28 hg) (by decide +kernel)
  have f35 := F9 35 35 5 (tv35 hg) (by decide +kernel)
  refine ⟨JCx_kp k1 k2 (Or.inl f35) (Or.inl f28) jc, ?_⟩
  rcases qI_at e (jp_undoM hg rm) with ⟨q1, q2⟩ | q
  · subst q1
    exact JMx_kp k3 q2 jm
  · exact JMx_0 q
theorem jx_dropC {t T : Nat} {τ : List Nat} {h : zh} {cur cm : bsT} {hs : List bsT} (hg : hG τ h) (i : IV h T) (rc : RC h cur hs) (jc : JCx h cur) (jm : JMx h cm) {x xk : Int32} {y : Int32} {h1 : zh} {t1 : Nat} (e : qE 60 277 [some (.inl (some 0)), some (zi x), some (zi xk), some (.inl (some 388)), none] h t (.inl (some (zi y)), h1, t1)) : JCx h1 (opC (drop_ cur x.toInt xk.toInt) cur) ∧ JMx h1 cm := by
  have F9 := (use_F (achk_ok aJ_ok lk0 (fun mk c' h1 _ => okC h1)) rfl hg (show aqsM _ _ [.inl (some 0), zi x, zi xk, .inl (some 388)] from ⟨aqR (t0 hg), aqI (qin_full _).1 (qin_full _).2, aqI (qin_full _).1 (qin_full _).2, aqR (t388 hg), trivial⟩) rfl (by decide) e).1
  obtain ⟨k1, k2⟩ := kpX_w hg F9 (by decide +kernel)
  have k3 := kpY_w hg F9 (by decide +kernel)
  have f31 := F9 52 52 31 (t52 hg) (by decide +kernel)
  rcases Decidable.em ((x.toInt = 0 ∧ 0 ≤ xk.toInt ∧ xk.toInt < (cur.1.1.length : Int)) ∨ (x.toInt = 1 ∧ 0 ≤ xk.toInt ∧ xk.toInt < (cur.2.1.length : Int))) with hb | hb
  · rcases hb with ⟨b1, b2, b3⟩ | ⟨b1, b2, b3⟩
    · exact ⟨JCx_0 k1 k2 (qI_at e (jp_ldrop0 (k := xk.toInt.toNat) hg rc i.2.2.2.1 b1 (by omega) (by omega))) (qI_at e (jr_ldrop0 (k := xk.toInt.toNat) hg rc i.2.2.2.1 b1 (by omega) (by omega))) jc, JMx_kp k3 f31 jm⟩
    · exact ⟨JCx_0 k1 k2 (qI_at e (jp_ldrop1 (k := xk.toInt.toNat) hg rc i.2.2.2.1 b1 (by omega) (by omega))) (qI_at e (jr_ldrop1 (k := xk.toInt.toNat) hg rc i.2.2.2.1 b1 (by omega) (by omega))) jc, JMx_kp k3 f31 jm⟩
  · have e9 : drop_ cur x.toInt xk.toInt = none := by
      unfold drop_
      rw [if_neg (fun q9 => hb (Or.inl q9)), if_neg (fun q9 => hb (Or.inr q9))]
    obtain ⟨_, _, F⟩ := qX_at e (c_ldropX hg rc i.2.2.2.1 hb)
    rw [e9]
    exact ⟨JCx_kp k1 k2 (Or.inl (F 35 5 (by omega))) (Or.inl (F 28 5 (by omega))) jc, JMx_kp k3 f31 jm⟩
theorem jx_dropM {t : Nat} {τ : List Nat} {h : zh} {cur cc : bsT} {hs : List bsT} (hg : hG τ h) (rm : RM h cur hs) (jc : JCx h cc) (jm : JMx h cur) {x xk : Int32} {y : Int32} {h1 : zh} {t1 : Nat} (e : qE 60 190 [some (.inl (some 52)), some (zi x), some (zi xk)] h t (.inl (some (zi y)), h1, t1)) : JCx h1 cc ∧ JMx h1 (opC (drop_ cur x.toInt xk.toInt) cur) := by
  have F9 := (use_F (okC (mk := 190) (c := ac212) List.mem_cons_self) rfl hg (show aqsM _ _ [.inl (some 52), zi x, zi xk] from ⟨aqR (t52 hg), aqI (qin_full _).1 (qin_full _).2, aqI (qin_full _).1 (qin_full _).2, trivial⟩) rfl (by decide) e).1
  obtain ⟨k1, k2⟩ := kpX_w hg F9 (by decide +kernel)
  have k3 := kpY_w hg F9 (by decide +kernel)
  have f28 := F9 28 28 5 (tv28 hg) (by decide +kernel)
  have f35 := F9 35 35 5 (tv35 hg) (by decide +kernel)
  rcases Decidable.em ((x.toInt = 0 ∧ 0 ≤ xk.toInt ∧ xk.toInt < (cur.1.1.length : Int)) ∨ (x.toInt = 1 ∧ 0 ≤ xk.toInt ∧ xk.toInt < (cur.2.1.length : Int))) with hb | hb
  · rcases hb with ⟨b1, b2, b3⟩ | ⟨b1, b2, b3⟩
    · exact ⟨JCx_kp k1 k2 (Or.inl f35) (Or.inl f28) jc, JMx_0 (qI_at e (jp_dropM0 (k := xk.toInt.toNat) hg rm b1 (by omega) (by omega)))⟩
    · exact ⟨JCx_kp k1 k2 (Or.inl f35) (Or.inl f28) jc, JMx_0 (qI_at e (jp_dropM1 (k := xk.toInt.toNat) hg rm b1 (by omega) (by omega)))⟩
  · have e9 : drop_ cur x.toInt xk.toInt = none := by
      unfold drop_
      rw [if_neg (fun q9 => hb (Or.inl q9)), if_neg (fun q9 => hb (Or.inr q9))]
    rw [e9]
    exact ⟨JCx_kp k1 k2 (Or.inl f35) (Or.inl f28) jc, JMx_kp k3 (qI_at e (jp_dropX hg rm hb)) jm⟩
theorem jx_forgetC {t T : Nat} {τ : List Nat} {h : zh} {cur cm : bsT} {hs : List bsT} (hg : hG τ h) (i : IV h T) (rc : RC h cur hs) (jc : JCx h cur) (jm : JMx h cm) {x xk : Int32} {y : Int32} {h1 : zh} {t1 : Nat} (e : qE 60 278 [some (.inl (some 0)), some (zi x), some (zi xk), some (.inl (some 388)), none] h t (.inl (some (zi y)), h1, t1)) : JCx h1 (opC (forget_ cur x.toInt xk.toInt) cur) ∧ JMx h1 cm := by
  have F9 := (use_F (achk_ok aJ_ok lk1 (fun mk c' h1 _ => okC h1)) rfl hg (show aqsM _ _ [.inl (some 0), zi x, zi xk, .inl (some 388)] from ⟨aqR (t0 hg), aqI (qin_full _).1 (qin_full _).2, aqI (qin_full _).1 (qin_full _).2, aqR (t388 hg), trivial⟩) rfl (by decide) e).1
  obtain ⟨k1, k2⟩ := kpX_w hg F9 (by decide +kernel)
  have k3 := kpY_w hg F9 (by decide +kernel)
  have f31 := F9 52 52 31 (t52 hg) (by decide +kernel)
  rcases Decidable.em ((x.toInt = 0 ∧ 0 ≤ xk.toInt ∧ xk.toInt < (cur.1.2.length : Int)) ∨ (x.toInt = 1 ∧ 0 ≤ xk.toInt ∧ xk.toInt < (cur.2.2.length : Int))) with hb | hb
  · rcases hb with ⟨b1, b2, b3⟩ | ⟨b1, b2, b3⟩
    · exact ⟨JCx_0 k1 k2 (qI_at e (jp_lforget0 (k := xk.toInt.toNat) hg rc i.2.2.2.1 b1 (by omega) (by omega))) (qI_at e (jr_lforget0 (k := xk.toInt.toNat) hg rc i.2.2.2.1 b1 (by omega) (by omega))) jc, JMx_kp k3 f31 jm⟩
    · exact ⟨JCx_0 k1 k2 (qI_at e (jp_lforget1 (k := xk.toInt.toNat) hg rc i.2.2.2.1 b1 (by omega) (by omega))) (qI_at e (jr_lforget1 (k := xk.toInt.toNat) hg rc i.2.2.2.1 b1 (by omega) (by omega))) jc, JMx_kp k3 f31 jm⟩
  · have e9 : forget_ cur x.toInt xk.toInt = none := by
      unfold forget_
      rw [if_neg (fun q9 => hb (Or.inl q9)), if_neg (fun q9 => hb (Or.inr q9))]
    obtain ⟨_, _, F⟩ := qX_at e (c_lforgetX hg rc i.2.2.2.1 hb)
    rw [e9]
    exact ⟨JCx_kp k1 k2 (Or.inl (F 35 5 (by omega))) (Or.inl (F 28 5 (by omega))) jc, JMx_kp k3 f31 jm⟩
theorem jx_forgetM {t : Nat} {τ : List Nat} {h : zh} {cur cc : bsT} {hs : List bsT} (hg : hG τ h) (rm : RM h cur hs) (jc : JCx h cc) (jm : JMx h cur) {x xk : Int32} {y : Int32} {h1 : zh} {t1 : Nat} (e : qE 60 191 [some (.inl (some 52)), some (zi x), some (zi xk)] h t (.inl (some (zi y)), h1, t1)) : JCx h1 cc ∧ JMx h1 (opC (forget_ cur x.toInt xk.toInt) cur) := by
  have F9 := (use_F (okC (mk := 191) (c := ac225) List.mem_cons_self) rfl hg (show aqsM _ _ [.inl (some 52), zi x, zi xk] from ⟨aqR (t52 hg), aqI (qin_full _).1 (qin_full _).2, aqI (qin_full _).1 (qin_full _).2, trivial⟩) rfl (by decide) e).1
  obtain ⟨k1, k2⟩ := kpX_w hg F9 (by decide +kernel)
  have k3 := kpY_w hg F9 (by decide +kernel)
  have f28 := F9 28 28 5 (tv28 hg) (by decide +kernel)
  have f35 := F9 35 35 5 (tv35 hg) (by decide +kernel)
  rcases Decidable.em ((x.toInt = 0 ∧ 0 ≤ xk.toInt ∧ xk.toInt < (cur.1.2.length : Int)) ∨ (x.toInt = 1 ∧ 0 ≤ xk.toInt ∧ xk.toInt < (cur.2.2.length : Int))) with hb | hb
  · rcases hb with ⟨b1, b2, b3⟩ | ⟨b1, b2, b3⟩
    · exact ⟨JCx_kp k1 k2 (Or.inl f35) (Or.inl f28) jc, JMx_0 (qI_at e (jp_forgetM0 (k := xk.toInt.toNat) hg rm b1 (by omega) (by omega)))⟩
    · exact ⟨JCx_kp k1 k2 (Or.inl f35) (Or.inl f28) jc, JMx_0 (qI_at e (jp_forgetM1 (k := xk.toInt.toNat) hg rm b1 (by omega) (by omega)))⟩
  · have e9 : forget_ cur x.toInt xk.toInt = none := by
      unfold forget_
      rw [if_neg (fun q9 => hb (Or.inl q9)), if_neg (fun q9 => hb (Or.inr q9))]
    rw [e9]
    exact ⟨JCx_kp k1 k2 (Or.inl f35) (Or.inl f28) jc, JMx_kp k3 (qI_at e (jp_forgetX hg rm hb)) jm⟩
def kpV (h h1 : zh) : Prop := kpXC h h1 ∧ kpS h h1 ∧ kpXM h h1
theorem kpV_w {τ : List Nat} {h h1 : zh} {wl : aW} (hg : hG τ h) (F : aFr τ h wl h1) (w : (wlX wl && wlY wl) = true) : kpV h h1 := by
  simp only [Bool.and_eq_true] at w
  obtain ⟨a, b⟩ := kpX_w hg F w.1
  exact ⟨a, b, kpY_w hg F w.2⟩
theorem kpVM_w {τ : List Nat} {h h1 : zh} {wl : aW} (hg : hG τ h) (F : aFr τ h wl h1) (w : ((wlX wl && wlY wl) && !awc wl 28 5) = true) : kpV h h1 ∧ hsl h1 28 5 = hsl h 28 5 := by
  rw [Bool.and_eq_true, Bool.not_eq_true'] at w
  exact ⟨kpV_w hg F w.1, F 28 28 5 (tv28 hg) w.2⟩
theorem lv_textC {τ : List Nat} {h : zh} {t T : Nat} {xT xn : Int32} (hg : hG τ h) (hs : hsl h 0 1 = some (zi xT)) (hx : xT.toInt = (T : Int)) (b1 : T ≤ 200) (b2 : T % 20 = 0) {y : Int32} {h1 : zh} {t1 : Nat} (e : qE 60 276 [some (.inl (some 0)), some (zi xn), some (.inl (some 388)), none] h t (.inl (some (zi y)), h1, t1)) : kpV h h1 := by
  rcases (show T = 0 ∨ T = 20 ∨ T = 40 ∨ T = 60 ∨ T = 80 ∨ T = 100 ∨ T = 120 ∨ T = 140 ∨ T = 160 ∨ T = 180 ∨ T = 200 by omega) with rfl | rfl | rfl | rfl | rfl | rfl | rfl | rfl | rfl | rfl | rfl
  · rcases (show xn.toInt < 0 ∨ (0 ≤ xn.toInt ∧ xn.toInt ≤ 0) ∨ 0 < xn.toInt by omega) with q | ⟨q, q2⟩ | q
    · exact kpV_w hg (use_FT (T := 0) (achk_ok (ctb := ctbX 133 ac288) aJ_ok lk12 (fun mk c' h1 _ => okX4 (List.mem_of_getElem? (i := 1) rfl) h1)) rfl hg (show aqsM _ _ [.inl (some 0), zi xn, .inl (some 388)] from ⟨aqR (t0 hg), aqI (qin_full _).1 (by omega), aqR (t388 hg), trivial⟩) rfl (by decide) (t0 hg) hs hx (by decide) e) (by decide +kernel)
    · exact kpV_w hg (use_FT (T := 0) (achk_ok (ctb := ctbX 133 ac289) aJ_ok lk13 (fun mk c' h1 _ => okX4 (List.mem_of_getElem? (i := 2) rfl) h1)) rfl hg (show aqsM _ _ [.inl (some 0), zi xn, .inl (some 388)] from ⟨aqR (t0 hg), aqI (by omega) (by omega), aqR (t388 hg), trivial⟩) rfl (by decide) (t0 hg) hs hx (by decide) e) (by decide +kernel)
    · exact kpV_w hg (use_FT (T := 0) (achk_ok (ctb := ctbX 133 ac290) aJ_ok lk14 (fun mk c' h1 _ => okX4 (List.mem_of_getElem? (i := 3) rfl) h1)) rfl hg (show aqsM _ _ [.inl (some 0), zi xn, .inl (some 388)] from ⟨aqR (t0 hg), aqI (by omega) (qin_full _).2, aqR (t388 hg), trivial⟩) rfl (by decide) (t0 hg) hs hx (by decide) e) (by decide +kernel)
  · rcases (show xn.toInt < 0 ∨ (0 ≤ xn.toInt ∧ xn.toInt ≤ 20) ∨ 20 < xn.toInt by omega) with q | ⟨q, q2⟩ | q
    · exact kpV_w hg (use_FT (T := 20) (achk_ok (ctb := ctbX 133 ac292) aJ_ok lk15 (fun mk c' h1 _ => okX4 (List.mem_of_getElem? (i := 4) rfl) h1)) rfl hg (show aqsM _ _ [.inl (some 0), zi xn, .inl (some 388)] from ⟨aqR (t0 hg), aqI (qin_full _).1 (by omega), aqR (t388 hg), trivial⟩) rfl (by decide) (t0 hg) hs hx (by decide) e) (by decide +kernel)
    · exact kpV_w hg (use_FT (T := 20) (achk_ok (ctb := ctbX 133 ac293) aJ_ok lk16 (fun mk c' h1 _ => okX4 (List.mem_of_getElem? (i := 5) rfl) h1)) rfl hg (show aqsM _ _ [.inl (some 0), zi xn, .inl (some 388)] from ⟨aqR (t0 hg), aqI (by omega) (by omega), aqR (t388 hg), trivial⟩) rfl (by decide) (t0 hg) hs hx (by decide) e) (by decide +kernel)
    · exact kpV_w hg (use_FT (T := 20) (achk_ok (ctb := ctbX 133 ac294) aJ_ok lk17 (fun mk c' h1 _ => okX4 (List.mem_of_getElem? (i := 6) rfl) h1)) rfl hg (show aqsM _ _ [.inl (some 0), zi xn, .inl (some 388)] from ⟨aqR (t0 hg), aqI (by omega) (qin_full _).2, aqR (t388 hg), trivial⟩) rfl (by decide) (t0 hg) hs hx (by decide) e) (by decide +kernel)
  · rcases (show xn.toInt < 0 ∨ (0 ≤ xn.toInt ∧ xn.toInt ≤ 40) ∨ 40 < xn.toInt by omega) with q | ⟨q, q2⟩ | q
    · exact kpV_w hg (use_FT (T := 40) (achk_ok (ctb := ctbX 133 ac296) aJ_ok lk18 (fun mk c' h1 _ => okX4 (List.mem_of_getElem? (i := 7) rfl) h1)) rfl hg (show aqsM _ _ [.inl (some 0), zi xn, .inl (some 388)] from ⟨aqR (t0 hg), aqI (qin_full _).1 (by omega), aqR (t388 hg), trivial⟩) rfl (by decide) (t0 hg) hs hx (by decide) e) (by decide +kernel)
    · exact kpV_w hg (use_FT (T := 40) (achk_ok (ctb := ctbX 133 ac297) aJ_ok lk19 (fun mk c' h1 _ => okX4 (List.mem_of_getElem? (i := 8) rfl) h1)) rfl hg (show aqsM _ _ [.inl (some 0), zi xn, .inl (some 388)] from ⟨aqR (t0 hg), aqI (by omega) (by omega), aqR (t388 hg), trivial⟩) rfl (by decide) (t0 hg) hs hx (by decide) e) (by decide +kernel)
    · exact kpV_w hg (use_FT (T := 40) (achk_ok (ctb := ctbX 133 ac298) aJ_ok lk20 (fun mk c' h1 _ => okX4 (List.mem_of_getElem? (i := 9) rfl) h1)) rfl hg (show aqsM _ _ [.inl (some 0), zi xn, .inl (some 388)] from ⟨aqR (t0 hg), aqI (by omega) (qin_full _).2, aqR (t388 hg), trivial⟩) rfl (by decide) (t0 hg) hs hx (by decide) e) (by decide +kernel)
  · rcases (show xn.toInt < 0 ∨ (0 ≤ xn.toInt ∧ xn.toInt ≤ 60) ∨ 60 < xn.toInt by omega) with q | ⟨q, q2⟩ | q
    · exact kpV_w hg (use_FT (T := 60) (achk_ok (ctb := ctbX 133 ac300) aJ_ok lk21 (fun mk c' h1 _ => okX4 (List.mem_of_getElem? (i := 10) rfl) h1)) rfl hg (show aqsM _ _ [.inl (some 0), zi xn, .inl (some 388)] from ⟨aqR (t0 hg), aqI (qin_full _).1 (by omega), aqR (t388 hg), trivial⟩) rfl (by decide) (t0 hg) hs hx (by decide) e) (by decide +kernel)
    · exact kpV_w hg (use_FT (T := 60) (achk_ok (ctb := ctbX 133 ac301) aJ_ok lk22 (fun mk c' h1 _ => okX4 (List.mem_of_getElem? (i := 11) rfl) h1)) rfl hg (show aqsM _ _ [.inl (some 0), zi xn, .inl (some 388)] from ⟨aqR (t0 hg), aqI (by omega) (by omega), aqR (t388 hg), trivial⟩) rfl (by decide) (t0 hg) hs hx (by decide) e) (by decide +kernel)
    · exact kpV_w hg (use_FT (T := 60) (achk_ok (ctb := ctbX 133 ac302) aJ_ok lk23 (fun mk c' h1 _ => okX4 (List.mem_of_getElem? (i := 12) rfl) h1)) rfl hg (show aqsM _ _ [.inl (some 0), zi xn, .inl (some 388)] from ⟨aqR (t0 hg), aqI (by omega) (qin_full _).2, aqR (t388 hg), trivial⟩) rfl (by decide) (t0 hg) hs hx (by decide) e) (by decide +kernel)
  · rcases (show xn.toInt < 0 ∨ (0 ≤ xn.toInt ∧ xn.toInt ≤ 80) ∨ 80 < xn.toInt by omega) with q | ⟨q, q2⟩ | q
    · exact kpV_w hg (use_FT (T := 80) (achk_ok (ctb := ctbX 133 ac304) aJ_ok lk24 (fun mk c' h1 _ => okX4 (List.mem_of_getElem? (i := 13) rfl) h1)) rfl hg (show aqsM _ _ [.inl (some 0), zi xn, .inl (some 388)] from ⟨aqR (t0 hg), aqI (qin_full _).1 (by omega), aqR (t388 hg), trivial⟩) rfl (by decide) (t0 hg) hs hx (by decide) e) (by decide +kernel)
    · exact kpV_w hg (use_FT (T := 80) (achk_ok (ctb := ctbX 133 ac305) aJ_ok lk25 (fun mk c' h1 _ => okX4 (List.mem_of_getElem? (i := 14) rfl) h1)) rfl hg (show aqsM _ _ [.inl (some 0), zi xn, .inl (some 388)] from ⟨aqR (t0 hg), aqI (by omega) (by omega), aqR (t388 hg), trivial⟩) rfl (by decide) (t0 hg) hs hx (by decide) e) (by decide +kernel)
    · exact kpV_w hg (use_FT (T := 80) (achk_ok (ctb := ctbX 133 ac306) aJ_ok lk26 (fun mk c' h1 _ => okX4 (List.mem_of_getElem? (i := 15) rfl) h1)) rfl hg (show aqsM _ _ [.inl (some 0), zi xn, .inl (some 388)] from ⟨aqR (t0 hg), aqI (by omega) (qin_full _).2, aqR (t388 hg), trivial⟩) rfl (by decide) (t0 hg) hs hx (by decide) e) (by decide +kernel)
  · rcases (show xn.toInt < 0 ∨ (0 ≤ xn.toInt ∧ xn.toInt ≤ 100) ∨ 100 < xn.toInt by omega) with q | ⟨q, q2⟩ | q
    · exact kpV_w hg (use_FT (T := 100) (achk_ok (ctb := ctbX 133 ac308) aJ_ok lk27 (fun mk c' h1 _ => okX4 (List.mem_of_getElem? (i := 16) rfl) h1)) rfl hg (show aqsM _ _ [.inl (some 0), zi xn, .inl (some 388)] from ⟨aqR (t0 hg), aqI (qin_full _).1 (by omega), aqR (t388 hg), trivial⟩) rfl (by decide) (t0 hg) hs hx (by decide) e) (by decide +kernel)
    · exact kpV_w hg (use_FT (T := 100) (achk_ok (ctb := ctbX 133 ac309) aJ_ok lk28 (fun mk c' h1 _ => okX4 (List.mem_of_getElem? (i := 17) rfl) h1)) rfl hg (show aqsM _ _ [.inl (some 0), zi xn, .inl (some 388)] from ⟨aqR (t0 hg), aqI (by omega) (by omega), aqR (t388 hg), trivial⟩) rfl (by decide) (t0 hg) hs hx (by decide) e) (by decide +kernel)
    · exact kpV_w hg (use_FT (T := 100) (achk_ok (ctb := ctbX 133 ac310) aJ_ok lk29 (fun mk c' h1 _ => okX4 (List.mem_of_getElem? (i := 18) rfl) h1)) rfl hg (show aqsM _ _ [.inl (some 0), zi xn, .inl (some 388)] from ⟨aqR (t0 hg), aqI (by omega) (qin_full _).2, aqR (t388 hg), trivial⟩) rfl (by decide) (t0 hg) hs hx (by decide) e) (by decide +kernel)
  · rcases (show xn.toInt < 0 ∨ (0 ≤ xn.toInt ∧ xn.toInt ≤ 120) ∨ 120 < xn.toInt by omega) with q | ⟨q, q2⟩ | q
    · exact kpV_w hg (use_FT (T := 120) (achk_ok (ctb := ctbX 133 ac312) aJ_ok lk30 (fun mk c' h1 _ => okX4 (List.mem_of_getElem? (i := 19) rfl) h1)) rfl hg (show aqsM _ _ [.inl (some 0), zi xn, .inl (some 388)] from ⟨aqR (t0 hg), aqI (qin_full _).1 (by omega), aqR (t388 hg), trivial⟩) rfl (by decide) (t0 hg) hs hx (by decide) e) (by decide +kernel)
    · exact kpV_w hg (use_FT (T := 120) (achk_ok (ctb := ctbX 133 ac313) aJ_ok lk31 (fun mk c' h1 _ => okX4 (List.mem_of_getElem? (i := 20) rfl) h1)) rfl hg (show aqsM _ _ [.inl (some 0), zi xn, .inl (some 388)] from ⟨aqR (t0 hg), aqI (by omega) (by omega), aqR (t388 hg), trivial⟩) rfl (by decide) (t0 hg) hs hx (by decide) e) (by decide +kernel)
    · exact kpV_w hg (use_FT (T := 120) (achk_ok (ctb := ctbX 133 ac314) aJ_ok lk32 (fun mk c' h1 _ => okX4 (List.mem_of_getElem? (i := 21) rfl) h1)) rfl hg (show aqsM _ _ [.inl (some 0), zi xn, .inl (some 388)] from ⟨aqR (t0 hg), aqI (by omega) (qin_full _).2, aqR (t388 hg), trivial⟩) rfl (by decide) (t0 hg) hs hx (by decide) e) (by decide +kernel)
  · rcases (show xn.toInt < 0 ∨ (0 ≤ xn.toInt ∧ xn.toInt ≤ 140) ∨ 140 < xn.toInt by omega) with q | ⟨q, q2⟩ | q
    · exact kpV_w hg (use_FT (T := 140) (achk_ok (ctb := ctbX 133 ac316) aJ_ok lk33 (fun mk c' h1 _ => okX4 (List.mem_of_getElem? (i := 22) rfl) h1)) rfl hg (show aqsM _ _ [.inl (some 0), zi xn, .inl (some 388)] from ⟨aqR (t0 hg), aqI (qin_full _).1 (by omega), aqR (t388 hg), trivial⟩) rfl (by decide) (t0 hg) hs hx (by decide) e) (by decide +kernel)
    · exact kpV_w hg (use_FT (T := 140) (achk_ok (ctb := ctbX 133 ac317) aJ_ok lk34 (fun mk c' h1 _ => okX4 (List.mem_of_getElem? (i := 23) rfl) h1)) rfl hg (show aqsM _ _ [.inl (some 0), zi xn, .inl (some 388)] from ⟨aqR (t0 hg), aqI (by omega) (by omega), aqR (t388 hg), trivial⟩) rfl (by decide) (t0 hg) hs hx (by decide) e) (by decide +kernel)
    · exact kpV_w hg (use_FT (T := 140) (achk_ok (ctb := ctbX 133 ac318) aJ_ok lk35 (fun mk c' h1 _ => okX4 (List.mem_of_getElem? (i := 24) rfl) h1)) rfl hg (show aqsM _ _ [.inl (some 0), zi xn, .inl (some 388)] from ⟨aqR (t0 hg), aqI (by omega) (qin_full _).2, aqR (t388 hg), trivial⟩) rfl (by decide) (t0 hg) hs hx (by decide) e) (by decide +kernel)
  · rcases (show xn.toInt < 0 ∨ (0 ≤ xn.toInt ∧ xn.toInt ≤ 160) ∨ 160 < xn.toInt by omega) with q | ⟨q, q2⟩ | q
    · exact kpV_w hg (use_FT (T := 160) (achk_ok (ctb := ctbX 133 ac320) aJ_ok lk36 (fun mk c' h1 _ => okX4 (List.mem_of_getElem? (i := 25) rfl) h1)) rfl hg (show aqsM _ _ [.inl (some 0), zi xn, .inl (some 388)] from ⟨aqR (t0 hg), aqI (qin_full _).1 (by omega), aqR (t388 hg), trivial⟩) rfl (by decide) (t0 hg) hs hx (by decide) e) (by decide +kernel)
    · exact kpV_w hg (use_FT (T := 160) (achk_ok (ctb := ctbX 133 ac321) aJ_ok lk37 (fun mk c' h1 _ => okX4 (List.mem_of_getElem? (i := 26) rfl) h1)) rfl hg (show aqsM _ _ [.inl (some 0), zi xn, .inl (some 388)] from ⟨aqR (t0 hg), aqI (by omega) (by omega), aqR (t388 hg), trivial⟩) rfl (by decide) (t0 hg) hs hx (by decide) e) (by decide +kernel)
    · exact kpV_w hg (use_FT (T := 160) (achk_ok (ctb := ctbX 133 ac322) aJ_ok lk38 (fun mk c' h1 _ => okX4 (List.mem_of_getElem? (i := 27) rfl) h1)) rfl hg (show aqsM _ _ [.inl (some 0), zi xn, .inl (some 388)] from ⟨aqR (t0 hg), aqI (by omega) (qin_full _).2, aqR (t388 hg), trivial⟩) rfl (by decide) (t0 hg) hs hx (by decide) e) (by decide +kernel)
  · rcases (show xn.toInt < 0 ∨ (0 ≤ xn.toInt ∧ xn.toInt ≤ 180) ∨ 180 < xn.toInt by omega) with q | ⟨q, q2⟩ | q
    · exact kpV_w hg (use_FT (T := 180) (achk_ok (ctb := ctbX 133 ac324) aJ_ok lk39 (fun mk c' h1 _ => okX4 (List.mem_of_getElem? (i := 28) rfl) h1)) rfl hg (show aqsM _ _ [.inl (some 0), zi xn, .inl (some 388)] from ⟨aqR (t0 hg), aqI (qin_full _).1 (by omega), aqR (t388 hg), trivial⟩) rfl (by decide) (t0 hg) hs hx (by decide) e) (by decide +kernel)
    · exact kpV_w hg (use_FT (T := 180) (achk_ok (ctb := ctbX 133 ac325) aJ_ok lk40 (fun mk c' h1 _ => okX4 (List.mem_of_getElem? (i := 29) rfl) h1)) rfl hg (show aqsM _ _ [.inl (some 0), zi xn, .inl (some 388)] from ⟨aqR (t0 hg), aqI (by omega) (by omega), aqR (t388 hg), trivial⟩) rfl (by decide) (t0 hg) hs hx (by decide) e) (by decide +kernel)
    · exact kpV_w hg (use_FT (T := 180) (achk_ok (ctb := ctbX 133 ac326) aJ_ok lk41 (fun mk c' h1 _ => okX4 (List.mem_of_getElem? (i := 30) rfl) h1)) rfl hg (show aqsM _ _ [.inl (some 0), zi xn, .inl (some 388)] from ⟨aqR (t0 hg), aqI (by omega) (qin_full _).2, aqR (t388 hg), trivial⟩) rfl (by decide) (t0 hg) hs hx (by decide) e) (by decide +kernel)
  · rcases (show xn.toInt < 0 ∨ (0 ≤ xn.toInt ∧ xn.toInt ≤ 200) ∨ 200 < xn.toInt by omega) with q | ⟨q, q2⟩ | q
    · exact kpV_w hg (use_FT (T := 200) (achk_ok (ctb := ctbX 133 ac328) aJ_ok lk42 (fun mk c' h1 _ => okX4 (List.mem_of_getElem? (i := 31) rfl) h1)) rfl hg (show aqsM _ _ [.inl (some 0), zi xn, .inl (some 388)] from ⟨aqR (t0 hg), aqI (qin_full _).1 (by omega), aqR (t388 hg), trivial⟩) rfl (by decide) (t0 hg) hs hx (by decide) e) (by decide +kernel)
    · exact kpV_w hg (use_FT (T := 200) (achk_ok (ctb := ctbX 133 ac329) aJ_ok lk43 (fun mk c' h1 _ => okX4 (List.mem_of_getElem? (i := 32) rfl) h1)) rfl hg (show aqsM _ _ [.inl (some 0), zi xn, .inl (some 388)] from ⟨aqR (t0 hg), aqI (by omega) (by omega), aqR (t388 hg), trivial⟩) rfl (by decide) (t0 hg) hs hx (by decide) e) (by decide +kernel)
    · exact kpV_w hg (use_FT (T := 200) (achk_ok (ctb := ctbX 133 ac330) aJ_ok lk44 (fun mk c' h1 _ => okX4 (List.mem_of_getElem? (i := 33) rfl) h1)) rfl hg (show aqsM _ _ [.inl (some 0), zi xn, .inl (some 388)] from ⟨aqR (t0 hg), aqI (by omega) (qin_full _).2, aqR (t388 hg), trivial⟩) rfl (by decide) (t0 hg) hs hx (by decide) e) (by decide +kernel)
theorem lv_textM {τ : List Nat} {h : zh} {t T : Nat} {xT xn : Int32} (hg : hG τ h) (hs : hsl h 52 2 = some (zi xT)) (hx : xT.toInt = (T : Int)) (b1 : T ≤ 200) (b2 : T % 20 = 0) {y : Int32} {h1 : zh} {t1 : Nat} (e : qE 60 183 [some (.inl (some 52)), some (zi xn), none] h t (.inl (some (zi y)), h1, t1)) : kpV h h1 ∧ hsl h1 28 5 = hsl h 28 5 := by
  rcases (show T = 0 ∨ T = 20 ∨ T = 40 ∨ T = 60 ∨ T = 80 ∨ T = 100 ∨ T = 120 ∨ T = 140 ∨ T = 160 ∨ T = 180 ∨ T = 200 by omega) with rfl | rfl | rfl | rfl | rfl | rfl | rfl | rfl | rfl | rfl | rfl
  · rcases (show xn.toInt < 0 ∨ (0 ≤ xn.toInt ∧ xn.toInt ≤ 0) ∨ 0 < xn.toInt by omega) with q | ⟨q, q2⟩ | q
    · exact kpVM_w hg (use_FT (T := 0) (okC (mk := 183) (c := ac332) (List.mem_of_getElem? (i := 1) rfl)) rfl hg (show aqsM _ _ [.inl (some 52), zi xn] from ⟨aqR (t52 hg), aqI (qin_full _).1 (by omega), trivial⟩) rfl (by decide) (t52 hg) hs hx (by decide) e) (by decide +kernel)
    · exact kpVM_w hg (use_FT (T := 0) (okC (mk := 183) (c := ac333) (List.mem_of_getElem? (i := 2) rfl)) rfl hg (show aqsM _ _ [.inl (some 52), zi xn] from ⟨aqR (t52 hg), aqI (by omega) (by omega), trivial⟩) rfl (by decide) (t52 hg) hs hx (by decide) e) (by decide +kernel)
    · exact kpVM_w hg (use_FT (T := 0) (okC (mk := 183) (c := ac334) (List.mem_of_getElem? (i := 3) rfl)) rfl hg (show aqsM _ _ [.inl (some 52), zi xn] from ⟨aqR (t52 hg), aqI (by omega) (qin_full _).2, trivial⟩) rfl (by decide) (t52 hg) hs hx (by decide) e) (by decide +kernel)
  · rcases (show xn.toInt < 0 ∨ (0 ≤ xn.toInt ∧ xn.toInt ≤ 20) ∨ 20 < xn.toInt by omega) with q | ⟨q, q2⟩ | q
    · exact kpVM_w hg (use_FT (T := 20) (okC (mk := 183) (c := ac336) (List.mem_of_getElem? (i := 4) rfl)) rfl hg (show aqsM _ _ [.inl (some 52), zi xn] from ⟨aqR (t52 hg), aqI (qin_full _).1 (by omega), trivial⟩) rfl (by decide) (t52 hg) hs hx (by decide) e) (by decide +kernel)
    · exact kpVM_w hg (use_FT (T := 20) (okC (mk := 183) (c := ac337) (List.mem_of_getElem? (i := 5) rfl)) rfl hg (show aqsM _ _ [.inl (some 52), zi xn] from ⟨aqR (t52 hg), aqI (by omega) (by omega), trivial⟩) rfl (by decide) (t52 hg) hs hx (by decide) e) (by decide +kernel)
    · exact kpVM_w hg (use_FT (T := 20) (okC (mk := 183) (c := ac338) (List.mem_of_getElem? (i := 6) rfl)) rfl hg (show aqsM _ _ [.inl (some 52), zi xn] from ⟨aqR (t52 hg), aqI (by omega) (qin_full _).2, trivial⟩) rfl (by decide) (t52 hg) hs hx (by decide) e) (by decide +kernel)
  · rcases (show xn.toInt < 0 ∨ (0 ≤ xn.toInt ∧ xn.toInt ≤ 40) ∨ 40 < xn.toInt by omega) with q | ⟨q, q2⟩ | q
    · exact kpVM_w hg (use_FT (T := 40) (okC (mk := 183) (c := ac340) (List.mem_of_getElem? (i := 7) rfl)) rfl hg (show aqsM _ _ [.inl (some 52), zi xn] from ⟨aqR (t52 hg), aqI (qin_full _).1 (by omega), trivial⟩) rfl (by decide) (t52 hg) hs hx (by decide) e) (by decide +kernel)
    · exact kpVM_w hg (use_FT (T := 40) (okC (mk := 183) (c := ac341) (List.mem_of_getElem? (i := 8) rfl)) rfl hg (show aqsM _ _ [.inl (some 52), zi xn] from ⟨aqR (t52 hg), aqI (by omega) (by omega), trivial⟩) rfl (by decide) (t52 hg) hs hx (by decide) e) (by decide +kernel)
    · exact kpVM_w hg (use_FT (T := 40) (okC (mk := 183) (c := ac342) (List.mem_of_getElem? (i := 9) rfl)) rfl hg (show aqsM _ _ [.inl (some 52), zi xn] from ⟨aqR (t52 hg), aqI (by omega) (qin_full _).2, trivial⟩) rfl (by decide) (t52 hg) hs hx (by decide) e) (by decide +kernel)
  · rcases (show xn.toInt < 0 ∨ (0 ≤ xn.toInt ∧ xn.toInt ≤ 60) ∨ 60 < xn.toInt by omega) with q | ⟨q, q2⟩ | q
    · exact kpVM_w hg (use_FT (T := 60) (okC (mk := 183) (c := ac344) (List.mem_of_getElem? (i := 10) rfl)) rfl hg (show aqsM _ _ [.inl (some 52), zi xn] from ⟨aqR (t52 hg), aqI (qin_full _).1 (by omega), trivial⟩) rfl (by decide) (t52 hg) hs hx (by decide) e) (by decide +kernel)
    · exact kpVM_w hg (use_FT (T := 60) (okC (mk := 183) (c := ac345) (List.mem_of_getElem? (i := 11) rfl)) rfl hg (show aqsM _ _ [.inl (some 52), zi xn] from ⟨aqR (t52 hg), aqI (by omega) (by omega), trivial⟩) rfl (by decide) (t52 hg) hs hx (by decide) e) (by decide +kernel)
    · exact kpVM_w hg (use_FT (T := 60) (okC (mk := 183) (c := ac346) (List.mem_of_getElem? (i := 12) rfl)) rfl hg (show aqsM _ _ [.inl (some 52), zi xn] from ⟨aqR (t52 hg), aqI (by omega) (qin_full _).2, trivial⟩) rfl (by decide) (t52 hg) hs hx (by decide) e) (by decide +kernel)
  · rcases (show xn.toInt < 0 ∨ (0 ≤ xn.toInt ∧ xn.toInt ≤ 80) ∨ 80 < xn.toInt by omega) with q | ⟨q, q2⟩ | q
    · exact kpVM_w hg (use_FT (T := 80) (okC (mk := 183) (c := ac348) (List.mem_of_getElem? (i := 13) rfl)) rfl hg (show aqsM _ _ [.inl (some 52), zi xn] from ⟨aqR (t52 hg), aqI (qin_full _).1 (by omega), trivial⟩) rfl (by decide) (t52 hg) hs hx (by decide) e) (by decide +kernel)
    · exact kpVM_w hg (use_FT (T := 80) (okC (mk := 183) (c := ac349) (List.mem_of_getElem? (i := 14) rfl)) rfl hg (show aqsM _ _ [.inl (some 52), zi xn] from ⟨aqR (t52 hg), aqI (by omega) (by omega), trivial⟩) rfl (by decide) (t52 hg) hs hx (by decide) e) (by decide +kernel)
    · exact kpVM_w hg (use_FT (T := 80) (okC (mk := 183) (c := ac350) (List.mem_of_getElem? (i := 15) rfl)) rfl hg (show aqsM _ _ [.inl (some 52), zi xn] from ⟨aqR (t52 hg), aqI (by omega) (qin_full _).2, trivial⟩) rfl (by decide) (t52 hg) hs hx (by decide) e) (by decide +kernel)
  · rcases (show xn.toInt < 0 ∨ (0 ≤ xn.toInt ∧ xn.toInt ≤ 100) ∨ 100 < xn.toInt by omega) with q | ⟨q, q2⟩ | q
    · exact kpVM_w hg (use_FT (T := 100) (okC (mk := 183) (c := ac352) (List.mem_of_getElem? (i := 16) rfl)) rfl hg (show aqsM _ _ [.inl (some 52), zi xn] from ⟨aqR (t52 hg), aqI (qin_full _).1 (by omega), trivial⟩) rfl (by decide) (t52 hg) hs hx (by decide) e) (by decide +kernel)
    · exact kpVM_w hg (use_FT (T := 100) (okC (mk := 183) (c := ac353) (List.mem_of_getElem? (i := 17) rfl)) rfl hg (show aqsM _ _ [.inl (some 52), zi xn] from ⟨aqR (t52 hg), aqI (by omega) (by omega), trivial⟩) rfl (by decide) (t52 hg) hs hx (by decide) e) (by decide +kernel)
    · exact kpVM_w hg (use_FT (T := 100) (okC (mk := 183) (c := ac354) (List.mem_of_getElem? (i := 18) rfl)) rfl hg (show aqsM _ _ [.inl (some 52), zi xn] from ⟨aqR (t52 hg), aqI (by omega) (qin_full _).2, trivial⟩) rfl (by decide) (t52 hg) hs hx (by decide) e) (by decide +kernel)
  · rcases (show xn.toInt < 0 ∨ (0 ≤ xn.toInt ∧ xn.toInt ≤ 120) ∨ 120 < xn.toInt by omega) with q | ⟨q, q2⟩ | q
    · exact kpVM_w hg (use_FT (T := 120) (okC (mk := 183) (c := ac356) (List.mem_of_getElem? (i := 19) rfl)) rfl hg (show aqsM _ _ [.inl (some 52), zi xn] from ⟨aqR (t52 hg), aqI (qin_full _).1 (by omega), trivial⟩) rfl (by decide) (t52 hg) hs hx (by decide) e) (by decide +kernel)
    · exact kpVM_w hg (use_FT (T := 120) (okC (mk := 183) (c := ac357) (List.mem_of_getElem? (i := 20) rfl)) rfl hg (show aqsM _ _ [.inl (some 52), zi xn] from ⟨aqR (t52 hg), aqI (by omega) (by omega), trivial⟩) rfl (by decide) (t52 hg) hs hx (by decide) e) (by decide +kernel)
    · exact kpVM_w hg (use_FT (T := 120) (okC (mk := 183) (c := ac358) (List.mem_of_getElem? (i := 21) rfl)) rfl hg (show aqsM _ _ [.inl (some 52), zi xn] from ⟨aqR (t52 hg), aqI (by omega) (qin_full _).2, trivial⟩) rfl (by decide) (t52 hg) hs hx (by decide) e) (by decide +kernel)
  · rcases (show xn.toInt < 0 ∨ (0 ≤ xn.toInt ∧ xn.toInt ≤ 140) ∨ 140 < xn.toInt by omega) with q | ⟨q, q2⟩ | q
    · exact kpVM_w hg (use_FT (T := 140) (okC (mk := 183) (c := ac360) (List.mem_of_getElem? (i := 22) rfl)) rfl hg (show aqsM _ _ [.inl (some 52), zi xn] from ⟨aqR (t52 hg), aqI (qin_full _).1 (by omega), trivial⟩) rfl (by decide) (t52 hg) hs hx (by decide) e) (by decide +kernel)
    · exact kpVM_w hg (use_FT (T := 140) (okC (mk := 183) (c := ac361) (List.mem_of_getElem? (i := 23) rfl)) rfl hg (show aqsM _ _ [.inl (some 52), zi xn] from ⟨aqR (t52 hg), aqI (by omega) (by omega), trivial⟩) rfl (by decide) (t52 hg) hs hx (by decide) e) (by decide +kernel)
    · exact kpVM_w hg (use_FT (T := 140) (okC (mk := 183) (c := ac362) (List.mem_of_getElem? (i := 24) rfl)) rfl hg (show aqsM _ _ [.inl (some 52), zi xn] from ⟨aqR (t52 hg), aqI (by omega) (qin_full _).2, trivial⟩) rfl (by decide) (t52 hg) hs hx (by decide) e) (by decide +kernel)
  · rcases (show xn.toInt < 0 ∨ (0 ≤ xn.toInt ∧ xn.toInt ≤ 160) ∨ 160 < xn.toInt by omega) with q | ⟨q, q2⟩ | q
    · exact kpVM_w hg (use_FT (T := 160) (okC (mk := 183) (c := ac364) (List.mem_of_getElem? (i := 25) rfl)) rfl hg (show aqsM _ _ [.inl (some 52), zi xn] from ⟨aqR (t52 hg), aqI (qin_full _).1 (by omega), trivial⟩) rfl (by decide) (t52 hg) hs hx (by decide) e) (by decide +kernel)
    · exact kpVM_w hg (use_FT (T := 160) (okC (mk := 183) (c := ac365) (List.mem_of_getElem? (i := 26) rfl)) rfl hg (show aqsM _ _ [.inl (some 52), zi xn] from ⟨aqR (t52 hg), aqI (by omega) (by omega), trivial⟩) rfl (by decide) (t52 hg) hs hx (by decide) e) (by decide +kernel)
    · exact kpVM_w hg (use_FT (T := 160) (okC (mk := 183) (c := ac366) (List.mem_of_getElem? (i := 27) rfl)) rfl hg (show aqsM _ _ [.inl (some 52), zi xn] from ⟨aqR (t52 hg), aqI (by omega) (qin_full _).2, trivial⟩) rfl (by decide) (t52 hg) hs hx (by decide) e) (by decide +kernel)
  · rcases (show xn.toInt < 0 ∨ (0 ≤ xn.toInt ∧ xn.toInt ≤ 180) ∨ 180 < xn.toInt by omega) with q | ⟨q, q2⟩ | q
    · exact kpVM_w hg (use_FT (T := 180) (okC (mk := 183) (c := ac368) (List.mem_of_getElem? (i := 28) rfl)) rfl hg (show aqsM _ _ [.inl (some 52), zi xn] from ⟨aqR (t52 hg), aqI (qin_full _).1 (by omega), trivial⟩) rfl (by decide) (t52 hg) hs hx (by decide) e) (by decide +kernel)
    · exact kpVM_w hg (use_FT (T := 180) (okC (mk := 183) (c := ac369) (List.mem_of_getElem? (i := 29) rfl)) rfl hg (show aqsM _ _ [.inl (some 52), zi xn] from ⟨aqR (t52 hg), aqI (by omega) (by omega), trivial⟩) rfl (by decide) (t52 hg) hs hx (by decide) e) (by decide +kernel)
    · exact kpVM_w hg (use_FT (T := 180) (okC (mk := 183) (c := ac370) (List.mem_of_getElem? (i := 30) rfl)) rfl hg (show aqsM _ _ [.inl (some 52), zi xn] from ⟨aqR (t52 hg), aqI (by omega) (qin_full _).2, trivial⟩) rfl (by decide) (t52 hg) hs hx (by decide) e) (by decide +kernel)
  · rcases (show xn.toInt < 0 ∨ (0 ≤ xn.toInt ∧ xn.toInt ≤ 200) ∨ 200 < xn.toInt by omega) with q | ⟨q, q2⟩ | q
    · exact kpVM_w hg (use_FT (T := 200) (okC (mk := 183) (c := ac372) (List.mem_of_getElem? (i := 31) rfl)) rfl hg (show aqsM _ _ [.inl (some 52), zi xn] from ⟨aqR (t52 hg), aqI (qin_full _).1 (by omega), trivial⟩) rfl (by decide) (t52 hg) hs hx (by decide) e) (by decide +kernel)
    · exact kpVM_w hg (use_FT (T := 200) (okC (mk := 183) (c := ac373) (List.mem_of_getElem? (i := 32) rfl)) rfl hg (show aqsM _ _ [.inl (some 52), zi xn] from ⟨aqR (t52 hg), aqI (by omega) (by omega), trivial⟩) rfl (by decide) (t52 hg) hs hx (by decide) e) (by decide +kernel)
    · exact kpVM_w hg (use_FT (T := 200) (okC (mk := 183) (c := ac374) (List.mem_of_getElem? (i := 33) rfl)) rfl hg (show aqsM _ _ [.inl (some 52), zi xn] from ⟨aqR (t52 hg), aqI (by omega) (qin_full _).2, trivial⟩) rfl (by decide) (t52 hg) hs hx (by decide) e) (by decide +kernel)
def jtX (h h1 : zh) (T : Nat) (xn : Int32) (cur : bsT) : Prop := ((xn.toInt < 0 ∨ (T : Int) < xn.toInt) ∧ JCx h1 cur) ∨ ∃ n : Nat, xn.toInt = (n : Int) ∧ n ≤ T ∧ JCx h1 (tcur (wAll (tb h) n) cur)
def jtY (h h2 : zh) (T : Nat) (xn : Int32) (cur : bsT) : Prop := ((xn.toInt < 0 ∨ (T : Int) < xn.toInt) ∧ JMx h2 cur) ∨ ∃ n : Nat, xn.toInt = (n : Int) ∧ n ≤ T ∧ JMx h2 (tcur (wAll (tb h) n) cur)
theorem jx_textC {t T : Nat} {τ : List Nat} {h : zh} {cur cm : bsT} {hs : List bsT} (hg : hG τ h) (i : IV h T) (rc : RC h cur hs) (jc : JCx h cur) (jm : JMx h cm) {xn : Int32} {y : Int32} {h1 : zh} {t1 : Nat} (e : qE 60 276 [some (.inl (some 0)), some (zi xn), some (.inl (some 388)), none] h t (.inl (some (zi y)), h1, t1)) : jtX h h1 T xn cur ∧ JMx h1 cm := by
  obtain ⟨i1, i2, i3, i4, ⟨x, i5, i6⟩, -, i9, -⟩ := i
  obtain ⟨v1, v2, v3⟩ := lv_textC hg i5 i6 i1 i2 e
  rcases (show (xn.toInt < 0 ∨ (T : Int) < xn.toInt) ∨ (0 ≤ xn.toInt ∧ xn.toInt ≤ (T : Int)) by omega) with q | ⟨q, q'⟩
  · obtain ⟨_, _, F⟩ := qX_at e (c_ltextT hg i5 i6 q)
    exact ⟨Or.inl ⟨q, JCx_kp v1 v2 (Or.inl (F 35 5 (by omega))) (Or.inl (F 28 5 (by omega))) jc⟩, JMx_kp v3 (F 52 31 (by omega)) jm⟩
  · obtain ⟨n, hn⟩ : ∃ n : Nat, xn.toInt = (n : Int) := ⟨xn.toInt.toNat, by omega⟩
    have hb9 : ∀ j, j < n → ∃ x : Int32, hsl h 1 j = some (zi x) ∧ x.toInt = tb h j := fun j hj => by
      obtain ⟨z, q1, q2⟩ := i9 j (by omega)
      exact ⟨z, q1, (tb_of q1).symm⟩
    obtain ⟨-, -, k3, k4⟩ := qI_at e (jp_ltext (n := n) (b := tb h) hg rc i4 i3 i5 i6 i1 hn (by omega) hb9)
    obtain ⟨-, -, -, k5⟩ := qI_at e (jr_ltext (n := n) (b := tb h) hg rc i4 i3 i5 i6 i1 hn (by omega) hb9)
    refine ⟨Or.inr ⟨n, hn, by omega, ?_⟩, JMx_kp v3 k3 jm⟩
    rcases k4 with ⟨⟨r, q1⟩, q2⟩ | q1
    · rw [q1]
      exact JCx_kp v1 v2 (Or.inl q2) (k5.elim (fun q => Or.inl q.2) (fun q => Or.inr q)) jc
    · rcases k5 with ⟨⟨r, q3⟩, q4⟩ | q3
      · rw [q3]
        exact JCx_kp v1 v2 (Or.inr q1) (Or.inl q4) jc
      · exact JCx_0 v1 v2 q1 q3 jc
theorem jx_textM {t T : Nat} {τ : List Nat} {h h1 : zh} {xn y0 : Int32} {cur : bsT} {hs : List bsT} (hg : hG τ h1) (i : IV h T) (c : txC2 h h1 T xn cur hs y0) (jm : JMx h1 cur) {y : Int32} {h2 : zh} {t1 : Nat} (e : qE 60 183 [some (.inl (some 52)), some (zi xn), none] h1 t (.inl (some (zi y)), h2, t1)) : (∀ c', JCx h1 c' → JCx h2 c') ∧ jtY h h2 T xn cur := by
  obtain ⟨i1, i2, i3, i4, -, ⟨x, i5, i6⟩, i9, -⟩ := i
  obtain ⟨k, rm, -⟩ := c
  obtain ⟨⟨v1, v2, v3⟩, f28⟩ := lv_textM hg (k.2.1.trans i5) i6 i1 i2 e
  rcases (show (xn.toInt < 0 ∨ (T : Int) < xn.toInt) ∨ (0 ≤ xn.toInt ∧ xn.toInt ≤ (T : Int)) by omega) with q | ⟨q, q'⟩
  · obtain ⟨_, _, F⟩ := qI_at e (m_textT hg (k.2.1.trans i5) i6 q)
    exact ⟨fun c' jc => JCx_kp v1 v2 (Or.inl (F 35 5 (by omega))) (Or.inl f28) jc, Or.inl ⟨q, JMx_kp v3 (F 52 31 (by omega)) jm⟩⟩
  · obtain ⟨n, hn⟩ : ∃ n : Nat, xn.toInt = (n : Int) := ⟨xn.toInt.toNat, by omega⟩
    obtain ⟨k1, k2, k3, k4⟩ := qI_at e (jp_textM (n := n) (b := tb h) hg rm (k.2.1.trans i5) i6 i1 hn (by omega) (fun j hj => by
      obtain ⟨z, q1, q2⟩ := i9 j (by omega)
      exact ⟨z, (k.1 j).trans q2, (tb_of q1).symm⟩) (fun j hj => by
      obtain ⟨z, q1, q2⟩ := i9 j (by omega)
      obtain ⟨w, r1, r2, -⟩ := g_int (i := j) hg (tu54 hg) at54 (show j < 200 by omega) (sr1 (by omega))
      rw [(k.1 j).trans q2] at r1
      cases r1
      rw [tb_of q1]
      exact r2))
    refine ⟨fun c' jc => JCx_kp v1 v2 (Or.inl k2) (Or.inl f28) jc, Or.inr ⟨n, hn, by omega, ?_⟩⟩
    rcases k4 with ⟨⟨r, q1⟩, q2⟩ | q1
    · rw [q1]
      exact JMx_kp v3 q2 jm
    · exact JMx_0 q1
