/-! what the law's acts leave of the provers' flags -/
theorem jq_turnC {t T : Nat} {τ : List Nat} {h : zh} {cur cm : bsT} {hs : List bsT} (hg : hG τ h) (i : IV h T) (rc : RC h cur hs) (jc : JCp h cur) (jm : JMp h cm) {y : Int32} {h1 : zh} {t1 : Nat} (e : qE 60 135 [some (.inl (some 0))] h t (.inl (some (zi y)), h1, t1)) : JCp h1 (cur.2, cur.1) ∧ JMp h1 cm := by
  have Q9 := kpPQ_w hg (use_F (okC (mk := 135) (c := ac47) List.mem_cons_self) rfl hg (show aqsM _ _ [.inl (some 0)] from ⟨aqR (t0 hg), trivial⟩) rfl (by decide) e).1 (by decide +kernel)
  obtain ⟨_, _, _, f, _⟩ := qI_at e (c_turn2 hg rc i.2.2.2.1)
  exact ⟨JCp_0 (frC_pC f) Q9 (qI_at e (jp_turnC hg rc i.2.2.2.1)) jc, JMp_kp (frC_pM f).1 (frC_pM f).2 jm⟩
theorem jq_turnM {t : Nat} {τ : List Nat} {h : zh} {cur cc : bsT} {hs : List bsT} (hg : hG τ h) (rm : RM h cur hs) (jc : JCp h cc) (jm : JMp h cur) {y : Int32} {h1 : zh} {t1 : Nat} (e : qE 60 188 [some (.inl (some 52)), none, none] h t (.inl (some (zi y)), h1, t1)) : JCp h1 cc ∧ JMp h1 (cur.2, cur.1) := by
  obtain ⟨_, _, _, f, _⟩ := qI_at e (m_turn2 hg rm)
  exact ⟨JCp_kp (frM_pC f).1 (frM_pC f).2.2 (frM_pC f).2.1 jc, JMp_0 (qI_at e (jp_turnM hg rm))⟩
theorem jq_undoC {t T : Nat} {τ : List Nat} {h : zh} {cur cm : bsT} {hs : List bsT} (hg : hG τ h) (i : IV h T) (rc : RC h cur hs) (jc : JCp h cur) (jm : JMp h cm) {y : Int32} {h1 : zh} {t1 : Nat} (e : qE 60 138 [some (.inl (some 0))] h t (.inl (some (zi y)), h1, t1)) : JCp h1 (udc cur hs) ∧ JMp h1 cm := by
  have Q9 := kpPQ_w hg (use_F (okC (mk := 138) (c := ac53) List.mem_cons_self) rfl hg (show aqsM _ _ [.inl (some 0)] from ⟨aqR (t0 hg), trivial⟩) rfl (by decide) e).1 (by decide +kernel)
  obtain ⟨_, _, f, _⟩ := qI_at e (c_undo2 hg rc i.2.2.2.1)
  refine ⟨?_, JMp_kp (frC_pM f).1 (frC_pM f).2 jm⟩
  rcases qI_at e (jp_undoC hg rc i.2.2.2.1) with ⟨q1, q2⟩ | q
  · subst q1
    subst q2
    exact jc
  · exact JCp_0 (frC_pC f) Q9 q jc
theorem jq_undoM {t : Nat} {τ : List Nat} {h : zh} {cur cc : bsT} {hs : List bsT} (hg : hG τ h) (rm : RM h cur hs) (jc : JCp h cc) (jm : JMp h cur) {y : Int32} {h1 : zh} {t1 : Nat} (e : qE 60 187 [some (.inl (some 52))] h t (.inl (some (zi y)), h1, t1)) : JCp h1 cc ∧ JMp h1 (udc cur hs) := by
  obtain ⟨_, _, f, _⟩ := qI_at e (m_undo2 hg rm)
  refine ⟨JCp_kp (frM_pC f).1 (frM_pC f).2.2 (frM_pC f).2.1 jc, ?_⟩
  rcases qI_at e (jp_undoM hg rm) with ⟨q1, q2⟩ | q
  · subst q1
    exact JMp_kp (frM_pM f) q2 jm
  · exact JMp_0 q
theorem jq_dropC {t T : Nat} {τ : List Nat} {h : zh} {cur cm : bsT} {hs : List bsT} (hg : hG τ h) (i : IV h T) (rc : RC h cur hs) (jc : JCp h cur) (jm : JMp h cm) {x xk : Int32} {y : Int32} {h1 : zh} {t1 : Nat} (e : qE 60 277 [some (.inl (some 0)), some (zi x), some (zi xk), some (.inl (some 388)), none] h t (.inl (some (zi y)), h1, t1)) : JCp h1 (opC (drop_ cur x.toInt xk.toInt) cur) ∧ JMp h1 cm := by
  have Q9 := kpPQ_w hg (use_F (achk_ok aJ_ok lk0 (fun mk c' h1 _ => okC h1)) rfl hg (show aqsM _ _ [.inl (some 0), zi x, zi xk, .inl (some 388)] from ⟨aqR (t0 hg), aqI (qin_full _).1 (qin_full _).2, aqI (qin_full _).1 (qin_full _).2, aqR (t388 hg), trivial⟩) rfl (by decide) e).1 (by decide +kernel)
  rcases Decidable.em ((x.toInt = 0 ∧ 0 ≤ xk.toInt ∧ xk.toInt < (cur.1.1.length : Int)) ∨ (x.toInt = 1 ∧ 0 ≤ xk.toInt ∧ xk.toInt < (cur.2.1.length : Int))) with hb | hb
  · rcases hb with ⟨b1, b2, b3⟩ | ⟨b1, b2, b3⟩
    · obtain ⟨_, _, _, f, _⟩ := qI_at e (c_ldrop0 (k := xk.toInt.toNat) hg rc i.2.2.2.1 b1 (by omega) (by omega))
      exact ⟨JCp_0 (frC_pC f) Q9 (qI_at e (jp_ldrop0 (k := xk.toInt.toNat) hg rc i.2.2.2.1 b1 (by omega) (by omega))) jc, JMp_kp (frC_pM f).1 (frC_pM f).2 jm⟩
    · obtain ⟨_, _, _, f, _⟩ := qI_at e (c_ldrop1 (k := xk.toInt.toNat) hg rc i.2.2.2.1 b1 (by omega) (by omega))
      exact ⟨JCp_0 (frC_pC f) Q9 (qI_at e (jp_ldrop1 (k := xk.toInt.toNat) hg rc i.2.2.2.1 b1 (by omega) (by omega))) jc, JMp_kp (frC_pM f).1 (frC_pM f).2 jm⟩
  · have e9 : drop_ cur x.toInt xk.toInt = none := by
      unfold drop_
      rw [if_neg (fun q9 => hb (Or.inl q9)), if_neg (fun q9 => hb (Or.inr q9))]
    obtain ⟨_, _, F⟩ := qX_at e (c_ldropX hg rc i.2.2.2.1 hb)
    rw [e9]
    exact ⟨JCp_kp ⟨fun k => F 36 k (by omega), F 35 0 (by omega), F 35 6 (by omega), F 35 8 (by omega), F 38 2 (by omega)⟩ Q9 (F 35 5 (by omega)) jc, JMp_kp ⟨F 52 27 (by omega), F 52 29 (by omega), F 52 32 (by omega)⟩ (F 52 31 (by omega)) jm⟩
theorem jq_dropM {t : Nat} {τ : List Nat} {h : zh} {cur cc : bsT} {hs : List bsT} (hg : hG τ h) (rm : RM h cur hs) (jc : JCp h cc) (jm : JMp h cur) {x xk : Int32} {y : Int32} {h1 : zh} {t1 : Nat} (e : qE 60 190 [some (.inl (some 52)), some (zi x), some (zi xk)] h t (.inl (some (zi y)), h1, t1)) : JCp h1 cc ∧ JMp h1 (opC (drop_ cur x.toInt xk.toInt) cur) := by
  rcases Decidable.em ((x.toInt = 0 ∧ 0 ≤ xk.toInt ∧ xk.toInt < (cur.1.1.length : Int)) ∨ (x.toInt = 1 ∧ 0 ≤ xk.toInt ∧ xk.toInt < (cur.2.1.length : Int))) with hb | hb
  · rcases hb with ⟨b1, b2, b3⟩ | ⟨b1, b2, b3⟩
    · obtain ⟨_, _, _, f, _⟩ := qI_at e (m_drop0 (k := xk.toInt.toNat) hg rm b1 (by omega) (by omega))
      exact ⟨JCp_kp (frM_pC f).1 (frM_pC f).2.2 (frM_pC f).2.1 jc, JMp_0 (qI_at e (jp_dropM0 (k := xk.toInt.toNat) hg rm b1 (by omega) (by omega)))⟩
    · obtain ⟨_, _, _, f, _⟩ := qI_at e (m_drop1 (k := xk.toInt.toNat) hg rm b1 (by omega) (by omega))
      exact ⟨JCp_kp (frM_pC f).1 (frM_pC f).2.2 (frM_pC f).2.1 jc, JMp_0 (qI_at e (jp_dropM1 (k := xk.toInt.toNat) hg rm b1 (by omega) (by omega)))⟩
  · have e9 : drop_ cur x.toInt xk.toInt = none := by
      unfold drop_
      rw [if_neg (fun q9 => hb (Or.inl q9)), if_neg (fun q9 => hb (Or.inr q9))]
    obtain ⟨_, _, _, f, _⟩ := qI_at e (m_dropX hg rm hb)
    rw [e9]
    exact ⟨JCp_kp (frM_pC f).1 (frM_pC f).2.2 (frM_pC f).2.1 jc, JMp_kp (frM_pM f) (qI_at e (jp_dropX hg rm hb)) jm⟩
theorem jq_forgetC {t T : Nat} {τ : List Nat} {h : zh} {cur cm : bsT} {hs : List bsT} (hg : hG τ h) (i : IV h T) (rc : RC h cur hs) (jc : JCp h cur) (jm : JMp h cm) {x xk : Int32} {y : Int32} {h1 : zh} {t1 : Nat} (e : qE 60 278 [some (.inl (some 0)), some (zi x), some (zi xk), some (.inl (some 388)), none] h t (.inl (some (zi y)), h1, t1)) : JCp h1 (opC (forget_ cur x.toInt xk.toInt) cur) ∧ JMp h1 cm := by
  have Q9 := kpPQ_w hg (use_F (achk_ok aJ_ok lk1 (fun mk c' h1 _ => okC h1)) rfl hg (show aqsM _ _ [.inl (some 0), zi x, zi xk, .inl (some 388)] from ⟨aqR (t0 hg), aqI (qin_full _).1 (qin_full _).2, aqI (qin_full _).1 (qin_full _).2, aqR (t388 hg), trivial⟩) rfl (by decide) e).1 (by decide +kernel)
  rcases Decidable.em ((x.toInt = 0 ∧ 0 ≤ xk.toInt ∧ xk.toInt < (cur.1.2.length : Int)) ∨ (x.toInt = 1 ∧ 0 ≤ xk.toInt ∧ xk.toInt < (cur.2.2.length : Int))) with hb | hb
  · rcases hb with ⟨b1, b2, b3⟩ | ⟨b1, b2, b3⟩
    · obtain ⟨_, _, _, f, _⟩ := qI_at e (c_lforget0 (k := xk.toInt.toNat) hg rc i.2.2.2.1 b1 (by omega) (by omega))
      exact ⟨JCp_0 (frC_pC f) Q9 (qI_at e (jp_lforget0 (k := xk.toInt.toNat) hg rc i.2.2.2.1 b1 (by omega) (by omega))) jc, JMp_kp (frC_pM f).1 (frC_pM f).2 jm⟩
    · obtain ⟨_, _, _, f, _⟩ := qI_at e (c_lforget1 (k := xk.toInt.toNat) hg rc i.2.2.2.1 b1 (by omega) (by omega))
      exact ⟨JCp_0 (frC_pC f) Q9 (qI_at e (jp_lforget1 (k := xk.toInt.toNat) hg rc i.2.2.2.1 b1 (by omega) (by omega))) jc, JMp_kp (frC_pM f).1 (frC_pM f).2 jm⟩
  · have e9 : forget_ cur x.toInt xk.toInt = none := by
      unfold forget_
      rw [if_neg (fun q9 => hb (Or.inl q9)), if_neg (fun q9 => hb (Or.inr q9))]
    obtain ⟨_, _, F⟩ := qX_at e (c_lforgetX hg rc i.2.2.2.1 hb)
    rw [e9]
    exact ⟨JCp_kp ⟨fun k => F 36 k (by omega), F 35 0 (by omega), F 35 6 (by omega), F 35 8 (by omega), F 38 2 (by omega)⟩ Q9 (F 35 5 (by omega)) jc, JMp_kp ⟨F 52 27 (by omega), F 52 29 (by omega), F 52 32 (by omega)⟩ (F 52 31 (by omega)) jm⟩
theorem jq_forgetM {t : Nat} {τ : List Nat} {h : zh} {cur cc : bsT} {hs : List bsT} (hg : hG τ h) (rm : RM h cur hs) (jc : JCp h cc) (jm : JMp h cur) {x xk : Int32} {y : Int32} {h1 : zh} {t1 : Nat} (e : qE 60 191 [some (.inl (some 52)), some (zi x), some (zi xk)] h t (.inl (some (zi y)), h1, t1)) : JCp h1 cc ∧ JMp h1 (opC (forget_ cur x.toInt xk.toInt) cur) := by
  rcases Decidable.em ((x.toInt = 0 ∧ 0 ≤ xk.toInt ∧ xk.toInt < (cur.1.2.length : Int)) ∨ (x.toInt = 1 ∧ 0 ≤ xk.toInt ∧ xk.toInt < (cur.2.2.length : Int))) with hb | hb
  · rcases hb with ⟨b1, b2, b3⟩ | ⟨b1, b2, b3⟩
    · obtain ⟨_, _, _, f, _⟩ := qI_at e (m_forget0 (k := xk.toInt.toNat) hg rm b1 (by omega) (by omega))
      exact ⟨JCp_kp (frM_pC f).1 (frM_pC f).2.2 (frM_pC f).2.1 jc, JMp_0 (qI_at e (jp_forgetM0 (k := xk.toInt.toNat) hg rm b1 (by omega) (by omega)))⟩
    · obtain ⟨_, _, _, f, _⟩ := qI_at e (m_forget1 (k := xk.toInt.toNat) hg rm b1 (by omega) (by omega))
      exact ⟨JCp_kp (frM_pC f).1 (frM_pC f).2.2 (frM_pC f).2.1 jc, JMp_0 (qI_at e (jp_forgetM1 (k := xk.toInt.toNat) hg rm b1 (by omega) (by omega)))⟩
  · have e9 : forget_ cur x.toInt xk.toInt = none := by
      unfold forget_
      rw [if_neg (fun q9 => hb (Or.inl q9)), if_neg (fun q9 => hb (Or.inr q9))]
    obtain ⟨_, _, _, f, _⟩ := qI_at e (m_forgetX hg rm hb)
    rw [e9]
    exact ⟨JCp_kp (frM_pC f).1 (frM_pC f).2.2 (frM_pC f).2.1 jc, JMp_kp (frM_pM f) (qI_at e (jp_forgetX hg rm hb)) jm⟩
theorem use_FT {τ : List Nat} {h : zh} {mj dd nL rk n t d r sl : Nat} {hs : List (Nat × Nat × Nat × Nat)} {qs : List aq} {wl : aW} {outs : List aE} {vs : List zv} {l0 : List (Option zv)} {o : zo} {h1 : zh} {t1 : Nat} {T : Int} {xT : Int32} (hC : cOK aJ mj (qs, [(r, sl, T, T)], dd, wl, outs)) (hm : zmeth mj = some (nL, rk, n, hs)) (hg : hG τ h) (hq : aqsM τ qs vs) (hz : zent vs nL = some l0) (hr : r < 1000) (hτ : τ[r]? = some r) (hT : hsl h r sl = some (zi xT)) (hxT : xT.toInt = T) (hd : dd ≤ d) (e : qE d mj l0 h t (o, h1, t1)) : aFr τ h wl h1 := by
  have hcad : ∀ vs : List zv, cad vs r = some r := fun vs => by
    unfold cad
    rw [bltT.mpr hr]
    rfl
  obtain ⟨o', h', t', τ', e', he, hE, hu, hh', hJ', hF, ht, hc⟩ := hC τ h t nL rk n hs vs l0 [T] hm hg.1 hg.2 hq ⟨⟨⟨r, xT, hcad vs, hT, hxT⟩, Int.le_refl _, Int.le_refl _, fun _ => hτ⟩, trivial⟩ hz
  cases qE_det e (qE_le hd hE)
  exact hF
theorem lq_textC {τ : List Nat} {h : zh} {t T : Nat} {xT xn : Int32} (hg : hG τ h) (hs : hsl h 0 1 = some (zi xT)) (hx : xT.toInt = (T : Int)) (b1 : T ≤ 200) (b2 : T % 20 = 0) {y : Int32} {h1 : zh} {t1 : Nat} (e : qE 60 276 [some (.inl (some 0)), some (zi xn), some (.inl (some 388)), none] h t (.inl (some (zi y)), h1, t1)) : kpPQ h h1 := by
  rcases (show T = 0 ∨ T = 20 ∨ T = 40 ∨ T = 60 ∨ T = 80 ∨ T = 100 ∨ T = 120 ∨ T = 140 ∨ T = 160 ∨ T = 180 ∨ T = 200 by omega) with rfl | rfl | rfl | rfl | rfl | rfl | rfl | rfl | rfl | rfl | rfl
  · rcases (show xn.toInt < 0 ∨ (0 ≤ xn.toInt ∧ xn.toInt ≤ 0) ∨ 0 < xn.toInt by omega) with q | ⟨q, q2⟩ | q
    · exact kpPQ_w hg (use_FT (T := 0) (achk_ok (ctb := ctbX 133 ac288) aJ_ok lk12 (fun mk c' h1 _ => okX4 (List.mem_of_getElem? (i := 1) rfl) h1)) rfl hg (show aqsM _ _ [.inl (some 0), zi xn, .inl (some 388)] from ⟨aqR (t0 hg), aqI (qin_full _).1 (by omega), aqR (t388 hg), trivial⟩) rfl (by decide) (t0 hg) hs hx (by decide) e) (by decide +kernel)
    · exact kpPQ_w hg (use_FT (T := 0) (achk_ok (ctb := ctbX 133 ac289) aJ_ok lk13 (fun mk c' h1 _ => okX4 (List.mem_of_getElem? (i := 2) rfl) h1)) rfl hg (show aqsM _ _ [.inl (some 0), zi xn, .inl (some 388)] from ⟨aqR (t0 hg), aqI (by omega) (by omega), aqR (t388 hg), trivial⟩) rfl (by decide) (t0 hg) hs hx (by decide) e) (by decide +kernel)
    · exact kpPQ_w hg (use_FT (T := 0) (achk_ok (ctb := ctbX 133 ac290) aJ_ok lk14 (fun mk c' h1 _ => okX4 (List.mem_of_getElem? (i := 3) rfl) h1)) rfl hg (show aqsM _ _ [.inl (some 0), zi xn, .inl (some 388)] from ⟨aqR (t0 hg), aqI (by omega) (qin_full _).2, aqR (t388 hg), trivial⟩) rfl (by decide) (t0 hg) hs hx (by decide) e) (by decide +kernel)
  · rcases (show xn.toInt < 0 ∨ (0 ≤ xn.toInt ∧ xn.toInt ≤ 20) ∨ 20 < xn.toInt by omega) with q | ⟨q, q2⟩ | q
    · exact kpPQ_w hg (use_FT (T := 20) (achk_ok (ctb := ctbX 133 ac292) aJ_ok lk15 (fun mk c' h1 _ => okX4 (List.mem_of_getElem? (i := 4) rfl) h1)) rfl hg (show aqsM _ _ [.inl (some 0), zi xn, .inl (some 388)] from ⟨aqR (t0 hg), aqI (qin_full _).1 (by omega), aqR (t388 hg), trivial⟩) rfl (by decide) (t0 hg) hs hx (by decide) e) (by decide +kernel)
    · exact kpPQ_w hg (use_FT (T := 20) (achk_ok (ctb := ctbX 133 ac293) aJ_ok lk16 (fun mk c' h1 _ => okX4 (List.mem_of_getElem? (i := 5) rfl) h1)) rfl hg (show aqsM _ _ [.inl (some 0), zi xn, .inl (some 388)] from ⟨aqR (t0 hg), aqI (by omega) (by omega), aqR (t388 hg), trivial⟩) rfl (by decide) (t0 hg) hs hx (by decide) e) (by decide +kernel)
    · exact kpPQ_w hg (use_FT (T := 20) (achk_ok (ctb := ctbX 133 ac294) aJ_ok lk17 (fun mk c' h1 _ => okX4 (List.mem_of_getElem? (i := 6) rfl) h1)) rfl hg (show aqsM _ _ [.inl (some 0), zi xn, .inl (some 388)] from ⟨aqR (t0 hg), aqI (by omega) (qin_full _).2, aqR (t388 hg), trivial⟩) rfl (by decide) (t0 hg) hs hx (by decide) e) (by decide +kernel)
  · rcases (show xn.toInt < 0 ∨ (0 ≤ xn.toInt ∧ xn.toInt ≤ 40) ∨ 40 < xn.toInt by omega) with q | ⟨q, q2⟩ | q
    · exact kpPQ_w hg (use_FT (T := 40) (achk_ok (ctb := ctbX 133 ac296) aJ_ok lk18 (fun mk c' h1 _ => okX4 (List.mem_of_getElem? (i := 7) rfl) h1)) rfl hg (show aqsM _ _ [.inl (some 0), zi xn, .inl (some 388)] from ⟨aqR (t0 hg), aqI (qin_full _).1 (by omega), aqR (t388 hg), trivial⟩) rfl (by decide) (t0 hg) hs hx (by decide) e) (by decide +kernel)
    · exact kpPQ_w hg (use_FT (T := 40) (achk_ok (ctb := ctbX 133 ac297) aJ_ok lk19 (fun mk c' h1 _ => okX4 (List.mem_of_getElem? (i := 8) rfl) h1)) rfl hg (show aqsM _ _ [.inl (some 0), zi xn, .inl (some 388)] from ⟨aqR (t0 hg), aqI (by omega) (by omega), aqR (t388 hg), trivial⟩) rfl (by decide) (t0 hg) hs hx (by decide) e) (by decide +kernel)
    · exact kpPQ_w hg (use_FT (T := 40) (achk_ok (ctb := ctbX 133 ac298) aJ_ok lk20 (fun mk c' h1 _ => okX4 (List.mem_of_getElem? (i := 9) rfl) h1)) rfl hg (show aqsM _ _ [.inl (some 0), zi xn, .inl (some 388)] from ⟨aqR (t0 hg), aqI (by omega) (qin_full _).2, aqR (t388 hg), trivial⟩) rfl (by decide) (t0 hg) hs hx (by decide) e) (by decide +kernel)
  · rcases (show xn.toInt < 0 ∨ (0 ≤ xn.toInt ∧ xn.toInt ≤ 60) ∨ 60 < xn.toInt by omega) with q | ⟨q, q2⟩ | q
    · exact kpPQ_w hg (use_FT (T := 60) (achk_ok (ctb := ctbX 133 ac300) aJ_ok lk21 (fun mk c' h1 _ => okX4 (List.mem_of_getElem? (i := 10) rfl) h1)) rfl hg (show aqsM _ _ [.inl (some 0), zi xn, .inl (some 388)] from ⟨aqR (t0 hg), aqI (qin_full _).1 (by omega), aqR (t388 hg), trivial⟩) rfl (by decide) (t0 hg) hs hx (by decide) e) (by decide +kernel)
    · exact kpPQ_w hg (use_FT (T := 60) (achk_ok (ctb := ctbX 133 ac301) aJ_ok lk22 (fun mk c' h1 _ => okX4 (List.mem_of_getElem? (i := 11) rfl) h1)) rfl hg (show aqsM _ _ [.inl (some 0), zi xn, .inl (some 388)] from ⟨aqR (t0 hg), aqI (by omega) (by omega), aqR (t388 hg), trivial⟩) rfl (by decide) (t0 hg) hs hx (by decide) e) (by decide +kernel)
    · exact kpPQ_w hg (use_FT (T := 60) (achk_ok (ctb := ctbX 133 ac302) aJ_ok lk23 (fun mk c' h1 _ => okX4 (List.mem_of_getElem? (i := 12) rfl) h1)) rfl hg (show aqsM _ _ [.inl (some 0), zi xn, .inl (some 388)] from ⟨aqR (t0 hg), aqI (by omega) (qin_full _).2, aqR (t388 hg), trivial⟩) rfl (by decide) (t0 hg) hs hx (by decide) e) (by decide +kernel)
  · rcases (show xn.toInt < 0 ∨ (0 ≤ xn.toInt ∧ xn.toInt ≤ 80) ∨ 80 < xn.toInt by omega) with q | ⟨q, q2⟩ | q
    · exact kpPQ_w hg (use_FT (T := 80) (achk_ok (ctb := ctbX 133 ac304) aJ_ok lk24 (fun mk c' h1 _ => okX4 (List.mem_of_getElem? (i := 13) rfl) h1)) rfl hg (show aqsM _ _ [.inl (some 0), zi xn, .inl (some 388)] from ⟨aqR (t0 hg), aqI (qin_full _).1 (by omega), aqR (t388 hg), trivial⟩) rfl (by decide) (t0 hg) hs hx (by decide) e) (by decide +kernel)
    · exact kpPQ_w hg (use_FT (T := 80) (achk_ok (ctb := ctbX 133 ac305) aJ_ok lk25 (fun mk c' h1 _ => okX4 (List.mem_of_getElem? (i := 14) rfl) h1)) rfl hg (show aqsM _ _ [.inl (some 0), zi xn, .inl (some 388)] from ⟨aqR (t0 hg), aqI (by omega) (by omega), aqR (t388 hg), trivial⟩) rfl (by decide) (t0 hg) hs hx (by decide) e) (by decide +kernel)
    · exact kpPQ_w hg (use_FT (T := 80) (achk_ok (ctb := ctbX 133 ac306) aJ_ok lk26 (fun mk c' h1 _ => okX4 (List.mem_of_getElem? (i := 15) rfl) h1)) rfl hg (show aqsM _ _ [.inl (some 0), zi xn, .inl (some 388)] from ⟨aqR (t0 hg), aqI (by omega) (qin_full _).2, aqR (t388 hg), trivial⟩) rfl (by decide) (t0 hg) hs hx (by decide) e) (by decide +kernel)
  · rcases (show xn.toInt < 0 ∨ (0 ≤ xn.toInt ∧ xn.toInt ≤ 100) ∨ 100 < xn.toInt by omega) with q | ⟨q, q2⟩ | q
    · exact kpPQ_w hg (use_FT (T := 100) (achk_ok (ctb := ctbX 133 ac308) aJ_ok lk27 (fun mk c' h1 _ => okX4 (List.mem_of_getElem? (i := 16) rfl) h1)) rfl hg (show aqsM _ _ [.inl (some 0), zi xn, .inl (some 388)] from ⟨aqR (t0 hg), aqI (qin_full _).1 (by omega), aqR (t388 hg), trivial⟩) rfl (by decide) (t0 hg) hs hx (by decide) e) (by decide +kernel)
    · exact kpPQ_w hg (use_FT (T := 100) (achk_ok (ctb := ctbX 133 ac309) aJ_ok lk28 (fun mk c' h1 _ => okX4 (List.mem_of_getElem? (i := 17) rfl) h1)) rfl hg (show aqsM _ _ [.inl (some 0), zi xn, .inl (some 388)] from ⟨aqR (t0 hg), aqI (by omega) (by omega), aqR (t388 hg), trivial⟩) rfl (by decide) (t0 hg) hs hx (by decide) e) (by decide +kernel)
    · exact kpPQ_w hg (use_FT (T := 100) (achk_ok (ctb := ctbX 133 ac310) aJ_ok lk29 (fun mk c' h1 _ => okX4 (List.mem_of_getElem? (i := 18) rfl) h1)) rfl hg (show aqsM _ _ [.inl (some 0), zi xn, .inl (some 388)] from ⟨aqR (t0 hg), aqI (by omega) (qin_full _).2, aqR (t388 hg), trivial⟩) rfl (by decide) (t0 hg) hs hx (by decide) e) (by decide +kernel)
  · rcases (show xn.toInt < 0 ∨ (0 ≤ xn.toInt ∧ xn.toInt ≤ 120) ∨ 120 < xn.toInt by omega) with q | ⟨q, q2⟩ | q
    · exact kpPQ_w hg (use_FT (T := 120) (achk_ok (ctb := ctbX 133 ac312) aJ_ok lk30 (fun mk c' h1 _ => okX4 (List.mem_of_getElem? (i := 19) rfl) h1)) rfl hg (show aqsM _ _ [.inl (some 0), zi xn, .inl (some 388)] from ⟨aqR (t0 hg), aqI (qin_full _).1 (by omega), aqR (t388 hg), trivial⟩) rfl (by decide) (t0 hg) hs hx (by decide) e) (by decide +kernel)
    · exact kpPQ_w hg (use_FT (T := 120) (achk_ok (ctb := ctbX 133 ac313) aJ_ok lk31 (fun mk c' h1 _ => okX4 (List.mem_of_getElem? (i := 20) rfl) h1)) rfl hg (show aqsM _ _ [.inl (some 0), zi xn, .inl (some 388)] from ⟨aqR (t0 hg), aqI (by omega) (by omega), aqR (t388 hg), trivial⟩) rfl (by decide) (t0 hg) hs hx (by decide) e) (by decide +kernel)
    · exact kpPQ_w hg (use_FT (T := 120) (achk_ok (ctb := ctbX 133 ac314) aJ_ok lk32 (fun mk c' h1 _ => okX4 (List.mem_of_getElem? (i := 21) rfl) h1)) rfl hg (show aqsM _ _ [.inl (some 0), zi xn, .inl (some 388)] from ⟨aqR (t0 hg), aqI (by omega) (qin_full _).2, aqR (t388 hg), trivial⟩) rfl (by decide) (t0 hg) hs hx (by decide) e) (by decide +kernel)
  · rcases (show xn.toInt < 0 ∨ (0 ≤ xn.toInt ∧ xn.toInt ≤ 140) ∨ 140 < xn.toInt by omega) with q | ⟨q, q2⟩ | q
    · exact kpPQ_w hg (use_FT (T := 140) (achk_ok (ctb := ctbX 133 ac316) aJ_ok lk33 (fun mk c' h1 _ => okX4 (List.mem_of_getElem? (i := 22) rfl) h1)) rfl hg (show aqsM _ _ [.inl (some 0), zi xn, .inl (some 388)] from ⟨aqR (t0 hg), aqI (qin_full _).1 (by omega), aqR (t388 hg), trivial⟩) rfl (by decide) (t0 hg) hs hx (by decide) e) (by decide +kernel)
    · exact kpPQ_w hg (use_FT (T := 140) (achk_ok (ctb := ctbX 133 ac317) aJ_ok lk34 (fun mk c' h1 _ => okX4 (List.mem_of_getElem? (i := 23) rfl) h1)) rfl hg (show aqsM _ _ [.inl (some 0), zi xn, .inl (some 388)] from ⟨aqR (t0 hg), aqI (by omega) (by omega), aqR (t388 hg), trivial⟩) rfl (by decide) (t0 hg) hs hx (by decide) e) (by decide +kernel)
    · exact kpPQ_w hg (use_FT (T := 140) (achk_ok (ctb := ctbX 133 ac318) aJ_ok lk35 (fun mk c' h1 _ => okX4 (List.mem_of_getElem? (i := 24) rfl) h1)) rfl hg (show aqsM _ _ [.inl (some 0), zi xn, .inl (some 388)] from ⟨aqR (t0 hg), aqI (by omega) (qin_full _).2, aqR (t388 hg), trivial⟩) rfl (by decide) (t0 hg) hs hx (by decide) e) (by decide +kernel)
  · rcases (show xn.toInt < 0 ∨ (0 ≤ xn.toInt ∧ xn.toInt ≤ 160) ∨ 160 < xn.toInt by omega) with q | ⟨q, q2⟩ | q
    · exact kpPQ_w hg (use_FT (T := 160) (achk_ok (ctb := ctbX 133 ac320) aJ_ok lk36 (fun mk c' h1 _ => okX4 (List.mem_of_getElem? (i := 25) rfl) h1)) rfl hg (show aqsM _ _ [.inl (some 0), zi xn, .inl (some 388)] from ⟨aqR (t0 hg), aqI (qin_full _).1 (by omega), aqR (t388 hg), trivial⟩) rfl (by decide) (t0 hg) hs hx (by decide) e) (by decide +kernel)
    · exact kpPQ_w hg (use_FT (T := 160) (achk_ok (ctb := ctbX 133 ac321) aJ_ok lk37 (fun mk c' h1 _ => okX4 (List.mem_of_getElem? (i := 26) rfl) h1)) rfl hg (show aqsM _ _ [.inl (some 0), zi xn, .inl (some 388)] from ⟨aqR (t0 hg), aqI (by omega) (by omega), aqR (t388 hg), trivial⟩) rfl (by decide) (t0 hg) hs hx (by decide) e) (by decide +kernel)
    · exact kpPQ_w hg (use_FT (T := 160) (achk_ok (ctb := ctbX 133 ac322) aJ_ok lk38 (fun mk c' h1 _ => okX4 (List.mem_of_getElem? (i := 27) rfl) h1)) rfl hg (show aqsM _ _ [.inl (some 0), zi xn, .inl (some 388)] from ⟨aqR (t0 hg), aqI (by omega) (qin_full _).2, aqR (t388 hg), trivial⟩) rfl (by decide) (t0 hg) hs hx (by decide) e) (by decide +kernel)
  · rcases (show xn.toInt < 0 ∨ (0 ≤ xn.toInt ∧ xn.toInt ≤ 180) ∨ 180 < xn.toInt by omega) with q | ⟨q, q2⟩ | q
    · exact kpPQ_w hg (use_FT (T := 180) (achk_ok (ctb := ctbX 133 ac324) aJ_ok lk39 (fun mk c' h1 _ => okX4 (List.mem_of_getElem? (i := 28) rfl) h1)) rfl hg (show aqsM _ _ [.inl (some 0), zi xn, .inl (some 388)] from ⟨aqR (t0 hg), aqI (qin_full _).1 (by omega), aqR (t388 hg), trivial⟩) rfl (by decide) (t0 hg) hs hx (by decide) e) (by decide +kernel)
    · exact kpPQ_w hg (use_FT (T := 180) (achk_ok (ctb := ctbX 133 ac325) aJ_ok lk40 (fun mk c' h1 _ => okX4 (List.mem_of_getElem? (i := 29) rfl) h1)) rfl hg (show aqsM _ _ [.inl (some 0), zi xn, .inl (some 388)] from ⟨aqR (t0 hg), aqI (by omega) (by omega), aqR (t388 hg), trivial⟩) rfl (by decide) (t0 hg) hs hx (by decide) e) (by decide +kernel)
    · exact kpPQ_w hg (use_FT (T := 180) (achk_ok (ctb := ctbX 133 ac326) aJ_ok lk41 (fun mk c' h1 _ => okX4 (List.mem_of_getElem? (i := 30) rfl) h1)) rfl hg (show aqsM _ _ [.inl (some 0), zi xn, .inl (some 388)] from ⟨aqR (t0 hg), aqI (by omega) (qin_full _).2, aqR (t388 hg), trivial⟩) rfl (by decide) (t0 hg) hs hx (by decide) e) (by decide +kernel)
  · rcases (show xn.toInt < 0 ∨ (0 ≤ xn.toInt ∧ xn.toInt ≤ 200) ∨ 200 < xn.toInt by omega) with q | ⟨q, q2⟩ | q
    · exact kpPQ_w hg (use_FT (T := 200) (achk_ok (ctb := ctbX 133 ac328) aJ_ok lk42 (fun mk c' h1 _ => okX4 (List.mem_of_getElem? (i := 31) rfl) h1)) rfl hg (show aqsM _ _ [.inl (some 0), zi xn, .inl (some 388)] from ⟨aqR (t0 hg), aqI (qin_full _).1 (by omega), aqR (t388 hg), trivial⟩) rfl (by decide) (t0 hg) hs hx (by decide) e) (by decide +kernel)
    · exact kpPQ_w hg (use_FT (T := 200) (achk_ok (ctb := ctbX 133 ac329) aJ_ok lk43 (fun mk c' h1 _ => okX4 (List.mem_of_getElem? (i := 32) rfl) h1)) rfl hg (show aqsM _ _ [.inl (some 0), zi xn, .inl (some 388)] from ⟨aqR (t0 hg), aqI (by omega) (by omega), aqR (t388 hg), trivial⟩) rfl (by decide) (t0 hg) hs hx (by decide) e) (by decide +kernel)
    · exact kpPQ_w hg (use_FT (T := 200) (achk_ok (ctb := ctbX 133 ac330) aJ_ok lk44 (fun mk c' h1 _ => okX4 (List.mem_of_getElem? (i := 33) rfl) h1)) rfl hg (show aqsM _ _ [.inl (some 0), zi xn, .inl (some 388)] from ⟨aqR (t0 hg), aqI (by omega) (qin_full _).2, aqR (t388 hg), trivial⟩) rfl (by decide) (t0 hg) hs hx (by decide) e) (by decide +kernel)
theorem lq_textM {τ : List Nat} {h : zh} {t T : Nat} {xT xn : Int32} (hg : hG τ h) (hs : hsl h 52 2 = some (zi xT)) (hx : xT.toInt = (T : Int)) (b1 : T ≤ 200) (b2 : T % 20 = 0) {y : Int32} {h1 : zh} {t1 : Nat} (e : qE 60 183 [some (.inl (some 52)), some (zi xn), none] h t (.inl (some (zi y)), h1, t1)) : kpPQ h h1 := by
  rcases (show T = 0 ∨ T = 20 ∨ T = 40 ∨ T = 60 ∨ T = 80 ∨ T = 100 ∨ T = 120 ∨ T = 140 ∨ T = 160 ∨ T = 180 ∨ T = 200 by omega) with rfl | rfl | rfl | rfl | rfl | rfl | rfl | rfl | rfl | rfl | rfl
  · rcases (show xn.toInt < 0 ∨ (0 ≤ xn.toInt ∧ xn.toInt ≤ 0) ∨ 0 < xn.toInt by omega) with q | ⟨q, q2⟩ | q
    · exact kpPQ_w hg (use_FT (T := 0) (okC (mk := 183) (c := ac332) (List.mem_of_getElem? (i := 1) rfl)) rfl hg (show aqsM _ _ [.inl (some 52), zi xn] from ⟨aqR (t52 hg), aqI (qin_full _).1 (by omega), trivial⟩) rfl (by decide) (t52 hg) hs hx (by decide) e) (by decide +kernel)
    · exact kpPQ_w hg (use_FT (T := 0) (okC (mk := 183) (c := ac333) (List.mem_of_getElem? (i := 2) rfl)) rfl hg (show aqsM _ _ [.inl (some 52), zi xn] from ⟨aqR (t52 hg), aqI (by omega) (by omega), trivial⟩) rfl (by decide) (t52 hg) hs hx (by decide) e) (by decide +kernel)
    · exact kpPQ_w hg (use_FT (T := 0) (okC (mk := 183) (c := ac334) (List.mem_of_getElem? (i := 3) rfl)) rfl hg (show aqsM _ _ [.inl (some 52), zi xn] from ⟨aqR (t52 hg), aqI (by omega) (qin_full _).2, trivial⟩) rfl (by decide) (t52 hg) hs hx (by decide) e) (by decide +kernel)
  · rcases (show xn.toInt < 0 ∨ (0 ≤ xn.toInt ∧ xn.toInt ≤ 20) ∨ 20 < xn.toInt by omega) with q | ⟨q, q2⟩ | q
    · exact kpPQ_w hg (use_FT (T := 20) (okC (mk := 183) (c := ac336) (List.mem_of_getElem? (i := 4) rfl)) rfl hg (show aqsM _ _ [.inl (some 52), zi xn] from ⟨aqR (t52 hg), aqI (qin_full _).1 (by omega), trivial⟩) rfl (by decide) (t52 hg) hs hx (by decide) e) (by decide +kernel)
    · exact kpPQ_w hg (use_FT (T := 20) (okC (mk := 183) (c := ac337) (List.mem_of_getElem? (i := 5) rfl)) rfl hg (show aqsM _ _ [.inl (some 52), zi xn] from ⟨aqR (t52 hg), aqI (by omega) (by omega), trivial⟩) rfl (by decide) (t52 hg) hs hx (by decide) e) (by decide +kernel)
    · exact kpPQ_w hg (use_FT (T := 20) (okC (mk := 183) (c := ac338) (List.mem_of_getElem? (i := 6) rfl)) rfl hg (show aqsM _ _ [.inl (some 52), zi xn] from ⟨aqR (t52 hg), aqI (by omega) (qin_full _).2, trivial⟩) rfl (by decide) (t52 hg) hs hx (by decide) e) (by decide +kernel)
  · rcases (show xn.toInt < 0 ∨ (0 ≤ xn.toInt ∧ xn.toInt ≤ 40) ∨ 40 < xn.toInt by omega) with q | ⟨q, q2⟩ | q
    · exact kpPQ_w hg (use_FT (T := 40) (okC (mk := 183) (c := ac340) (List.mem_of_getElem? (i := 7) rfl)) rfl hg (show aqsM _ _ [.inl (some 52), zi xn] from ⟨aqR (t52 hg), aqI (qin_full _).1 (by omega), trivial⟩) rfl (by decide) (t52 hg) hs hx (by decide) e) (by decide +kernel)
    · exact kpPQ_w hg (use_FT (T := 40) (okC (mk := 183) (c := ac341) (List.mem_of_getElem? (i := 8) rfl)) rfl hg (show aqsM _ _ [.inl (some 52), zi xn] from ⟨aqR (t52 hg), aqI (by omega) (by omega), trivial⟩) rfl (by decide) (t52 hg) hs hx (by decide) e) (by decide +kernel)
    · exact kpPQ_w hg (use_FT (T := 40) (okC (mk := 183) (c := ac342) (List.mem_of_getElem? (i := 9) rfl)) rfl hg (show aqsM _ _ [.inl (some 52), zi xn] from ⟨aqR (t52 hg), aqI (by omega) (qin_full _).2, trivial⟩) rfl (by decide) (t52 hg) hs hx (by decide) e) (by decide +kernel)
  · rcases (show xn.toInt < 0 ∨ (0 ≤ xn.toInt ∧ xn.toInt ≤ 60) ∨ 60 < xn.toInt by omega) with q | ⟨q, q2⟩ | q
    · exact kpPQ_w hg (use_FT (T := 60) (okC (mk := 183) (c := ac344) (List.mem_of_getElem? (i := 10) rfl)) rfl hg (show aqsM _ _ [.inl (some 52), zi xn] from ⟨aqR (t52 hg), aqI (qin_full _).1 (by omega), trivial⟩) rfl (by decide) (t52 hg) hs hx (by decide) e) (by decide +kernel)
    · exact kpPQ_w hg (use_FT (T := 60) (okC (mk := 183) (c := ac345) (List.mem_of_getElem? (i := 11) rfl)) rfl hg (show aqsM _ _ [.inl (some 52), zi xn] from ⟨aqR (t52 hg), aqI (by omega) (by omega), trivial⟩) rfl (by decide) (t52 hg) hs hx (by decide) e) (by decide +kernel)
    · exact kpPQ_w hg (use_FT (T := 60) (okC (mk := 183) (c := ac346) (List.mem_of_getElem? (i := 12) rfl)) rfl hg (show aqsM _ _ [.inl (some 52), zi xn] from ⟨aqR (t52 hg), aqI (by omega) (qin_full _).2, trivial⟩) rfl (by decide) (t52 hg) hs hx (by decide) e) (by decide +kernel)
  · rcases (show xn.toInt < 0 ∨ (0 ≤ xn.toInt ∧ xn.toInt ≤ 80) ∨ 80 < xn.toInt by omega) with q | ⟨q, q2⟩ | q
    · exact kpPQ_w hg (use_FT (T := 80) (okC (mk := 183) (c := ac348) (List.mem_of_getElem? (i := 13) rfl)) rfl hg (show aqsM _ _ [.inl (some 52), zi xn] from ⟨aqR (t52 hg), aqI (qin_full _).1 (by omega), trivial⟩) rfl (by decide) (t52 hg) hs hx (by decide) e) (by decide +kernel)
    · exact kpPQ_w hg (use_FT (T := 80) (okC (mk := 183) (c := ac349) (List.mem_of_getElem? (i := 14) rfl)) rfl hg (show aqsM _ _ [.inl (some 52), zi xn] from ⟨aqR (t52 hg), aqI (by omega) (by omega), trivial⟩) rfl (by decide) (t52 hg) hs hx (by decide) e) (by decide +kernel)
    · exact kpPQ_w hg (use_FT (T := 80) (okC (mk := 183) (c := ac350) (List.mem_of_getElem? (i := 15) rfl)) rfl hg (show aqsM _ _ [.inl (some 52), zi xn] from ⟨aqR (t52 hg), aqI (by omega) (qin_full _).2, trivial⟩) rfl (by decide) (t52 hg) hs hx (by decide) e) (by decide +kernel)
  · rcases (show xn.toInt < 0 ∨ (0 ≤ xn.toInt ∧ xn.toInt ≤ 100) ∨ 100 < xn.toInt by omega) with q | ⟨q, q2⟩ | q
    · exact kpPQ_w hg (use_FT (T := 100) (okC (mk := 183) (c := ac352) (List.mem_of_getElem? (i := 16) rfl)) rfl hg (show aqsM _ _ [.inl (some 52), zi xn] from ⟨aqR (t52 hg), aqI (qin_full _).1 (by omega), trivial⟩) rfl (by decide) (t52 hg) hs hx (by decide) e) (by decide +kernel)
    · exact kpPQ_w hg (use_FT (T := 100) (okC (mk := 183) (c := ac353) (List.mem_of_getElem? (i := 17) rfl)) rfl hg (show aqsM _ _ [.inl (some 52), zi xn] from ⟨aqR (t52 hg), aqI (by omega) (by omega), trivial⟩) rfl (by decide) (t52 hg) hs hx (by decide) e) (by decide +kernel)
    · exact kpPQ_w hg (use_FT (T := 100) (okC (mk := 183) (c := ac354) (List.mem_of_getElem? (i := 18) rfl)) rfl hg (show aqsM _ _ [.inl (some 52), zi xn] from ⟨aqR (t52 hg), aqI (by omega) (qin_full _).2, trivial⟩) rfl (by decide) (t52 hg) hs hx (by decide) e) (by decide +kernel)
  · rcases (show xn.toInt < 0 ∨ (0 ≤ xn.toInt ∧ xn.toInt ≤ 120) ∨ 120 < xn.toInt by omega) with q | ⟨q, q2⟩ | q
    · exact kpPQ_w hg (use_FT (T := 120) (okC (mk := 183) (c := ac356) (List.mem_of_getElem? (i := 19) rfl)) rfl hg (show aqsM _ _ [.inl (some 52), zi xn] from ⟨aqR (t52 hg), aqI (qin_full _).1 (by omega), trivial⟩) rfl (by decide) (t52 hg) hs hx (by decide) e) (by decide +kernel)
    · exact kpPQ_w hg (use_FT (T := 120) (okC (mk := 183) (c := ac357) (List.mem_of_getElem? (i := 20) rfl)) rfl hg (show aqsM _ _ [.inl (some 52), zi xn] from ⟨aqR (t52 hg), aqI (by omega) (by omega), trivial⟩) rfl (by decide) (t52 hg) hs hx (by decide) e) (by decide +kernel)
    · exact kpPQ_w hg (use_FT (T := 120) (okC (mk := 183) (c := ac358) (List.mem_of_getElem? (i := 21) rfl)) rfl hg (show aqsM _ _ [.inl (some 52), zi xn] from ⟨aqR (t52 hg), aqI (by omega) (qin_full _).2, trivial⟩) rfl (by decide) (t52 hg) hs hx (by decide) e) (by decide +kernel)
  · rcases (show xn.toInt < 0 ∨ (0 ≤ xn.toInt ∧ xn.toInt ≤ 140) ∨ 140 < xn.toInt by omega) with q | ⟨q, q2⟩ | q
    · exact kpPQ_w hg (use_FT (T := 140) (okC (mk := 183) (c := ac360) (List.mem_of_getElem? (i := 22) rfl)) rfl hg (show aqsM _ _ [.inl (some 52), zi xn] from ⟨aqR (t52 hg), aqI (qin_full _).1 (by omega), trivial⟩) rfl (by decide) (t52 hg) hs hx (by decide) e) (by decide +kernel)
    · exact kpPQ_w hg (use_FT (T := 140) (okC (mk := 183) (c := ac361) (List.mem_of_getElem? (i := 23) rfl)) rfl hg (show aqsM _ _ [.inl (some 52), zi xn] from ⟨aqR (t52 hg), aqI (by omega) (by omega), trivial⟩) rfl (by decide) (t52 hg) hs hx (by decide) e) (by decide +kernel)
    · exact kpPQ_w hg (use_FT (T := 140) (okC (mk := 183) (c := ac362) (List.mem_of_getElem? (i := 24) rfl)) rfl hg (show aqsM _ _ [.inl (some 52), zi xn] from ⟨aqR (t52 hg), aqI (by omega) (qin_full _).2, trivial⟩) rfl (by decide) (t52 hg) hs hx (by decide) e) (by decide +kernel)
  · rcases (show xn.toInt < 0 ∨ (0 ≤ xn.toInt ∧ xn.toInt ≤ 160) ∨ 160 < xn.toInt by omega) with q | ⟨q, q2⟩ | q
    · exact kpPQ_w hg (use_FT (T := 160) (okC (mk := 183) (c := ac364) (List.mem_of_getElem? (i := 25) rfl)) rfl hg (show aqsM _ _ [.inl (some 52), zi xn] from ⟨aqR (t52 hg), aqI (qin_full _).1 (by omega), trivial⟩) rfl (by decide) (t52 hg) hs hx (by decide) e) (by decide +kernel)
    · exact kpPQ_w hg (use_FT (T := 160) (okC (mk := 183) (c := ac365) (List.mem_of_getElem? (i := 26) rfl)) rfl hg (show aqsM _ _ [.inl (some 52), zi xn] from ⟨aqR (t52 hg), aqI (by omega) (by omega), trivial⟩) rfl (by decide) (t52 hg) hs hx (by decide) e) (by decide +kernel)
    · exact kpPQ_w hg (use_FT (T := 160) (okC (mk := 183) (c := ac366) (List.mem_of_getElem? (i := 27) rfl)) rfl hg (show aqsM _ _ [.inl (some 52), zi xn] from ⟨aqR (t52 hg), aqI (by omega) (qin_full _).2, trivial⟩) rfl (by decide) (t52 hg) hs hx (by decide) e) (by decide +kernel)
  · rcases (show xn.toInt < 0 ∨ (0 ≤ xn.toInt ∧ xn.toInt ≤ 180) ∨ 180 < xn.toInt by omega) with q | ⟨q, q2⟩ | q
    · exact kpPQ_w hg (use_FT (T := 180) (okC (mk := 183) (c := ac368) (List.mem_of_getElem? (i := 28) rfl)) rfl hg (show aqsM _ _ [.inl (some 52), zi xn] from ⟨aqR (t52 hg), aqI (qin_full _).1 (by omega), trivial⟩) rfl (by decide) (t52 hg) hs hx (by decide) e) (by decide +kernel)
    · exact kpPQ_w hg (use_FT (T := 180) (okC (mk := 183) (c := ac369) (List.mem_of_getElem? (i := 29) rfl)) rfl hg (show aqsM _ _ [.inl (some 52), zi xn] from ⟨aqR (t52 hg), aqI (by omega) (by omega), trivial⟩) rfl (by decide) (t52 hg) hs hx (by decide) e) (by decide +kernel)
    · exact kpPQ_w hg (use_FT (T := 180) (okC (mk := 183) (c := ac370) (List.mem_of_getElem? (i := 30) rfl)) rfl hg (show aqsM _ _ [.inl (some 52), zi xn] from ⟨aqR (t52 hg), aqI (by omega) (qin_full _).2, trivial⟩) rfl (by decide) (t52 hg) hs hx (by decide) e) (by decide +kernel)
  · rcases (show xn.toInt < 0 ∨ (0 ≤ xn.toInt ∧ xn.toInt ≤ 200) ∨ 200 < xn.toInt by omega) with q | ⟨q, q2⟩ | q
    · exact kpPQ_w hg (use_FT (T := 200) (okC (mk := 183) (c := ac372) (List.mem_of_getElem? (i := 31) rfl)) rfl hg (show aqsM _ _ [.inl (some 52), zi xn] from ⟨aqR (t52 hg), aqI (qin_full _).1 (by omega), trivial⟩) rfl (by decide) (t52 hg) hs hx (by decide) e) (by decide +kernel)
    · exact kpPQ_w hg (use_FT (T := 200) (okC (mk := 183) (c := ac373) (List.mem_of_getElem? (i := 32) rfl)) rfl hg (show aqsM _ _ [.inl (some 52), zi xn] from ⟨aqR (t52 hg), aqI (by omega) (by omega), trivial⟩) rfl (by decide) (t52 hg) hs hx (by decide) e) (by decide +kernel)
    · exact kpPQ_w hg (use_FT (T := 200) (okC (mk := 183) (c := ac374) (List.mem_of_getElem? (i := 33) rfl)) rfl hg (show aqsM _ _ [.inl (some 52), zi xn] from ⟨aqR (t52 hg), aqI (by omega) (qin_full _).2, trivial⟩) rfl (by decide) (t52 hg) hs hx (by decide) e) (by decide +kernel)
def jtP (h h1 : zh) (T : Nat) (xn : Int32) (cur : bsT) : Prop := ((xn.toInt < 0 ∨ (T : Int) < xn.toInt) ∧ JCp h1 cur) ∨ ∃ n : Nat, xn.toInt = (n : Int) ∧ n ≤ T ∧ JCp h1 (tcur (wAll (tb h) n) cur)
def jtQ (h h2 : zh) (T : Nat) (xn : Int32) (cur : bsT) : Prop := ((xn.toInt < 0 ∨ (T : Int) < xn.toInt) ∧ JMp h2 cur) ∨ ∃ n : Nat, xn.toInt = (n : Int) ∧ n ≤ T ∧ JMp h2 (tcur (wAll (tb h) n) cur)
theorem jq_textC {t T : Nat} {τ : List Nat} {h : zh} {cur cm : bsT} {hs : List bsT} (hg : hG τ h) (i : IV h T) (rc : RC h cur hs) (jc : JCp h cur) (jm : JMp h cm) {xn : Int32} {y : Int32} {h1 : zh} {t1 : Nat} (e : qE 60 276 [some (.inl (some 0)), some (zi xn), some (.inl (some 388)), none] h t (.inl (some (zi y)), h1, t1)) : jtP h h1 T xn cur ∧ JMp h1 cm := by
  skip
  obtain ⟨i1, i2, i3, i4, ⟨x, i5, i6⟩, -, i9, -⟩ := i
  have Q9 := lq_textC hg i5 i6 i1 i2 e
  rcases (show (xn.toInt < 0 ∨ (T : Int) < xn.toInt) ∨ (0 ≤ xn.toInt ∧ xn.toInt ≤ (T : Int)) by omega) with q | ⟨q, q'⟩
  · obtain ⟨_, _, F⟩ := qX_at e (c_ltextT hg i5 i6 q)
    exact ⟨Or.inl ⟨q, JCp_kp ⟨fun k => F 36 k (by omega), F 35 0 (by omega), F 35 6 (by omega), F 35 8 (by omega), F 38 2 (by omega)⟩ Q9 (F 35 5 (by omega)) jc⟩, JMp_kp ⟨F 52 27 (by omega), F 52 29 (by omega), F 52 32 (by omega)⟩ (F 52 31 (by omega)) jm⟩
  · obtain ⟨n, hn⟩ : ∃ n : Nat, xn.toInt = (n : Int) := ⟨xn.toInt.toNat, by omega⟩
    obtain ⟨k1, k2, k3, k4⟩ := qI_at e (jp_ltext (n := n) (b := tb h) hg rc i4 i3 i5 i6 i1 hn (by omega) (fun j hj => by
      obtain ⟨z, q1, q2⟩ := i9 j (by omega)
      exact ⟨z, q1, (tb_of q1).symm⟩))
    refine ⟨Or.inr ⟨n, hn, by omega, ?_⟩, JMp_kp k2 k3 jm⟩
    rcases k4 with ⟨⟨r, q1⟩, q2⟩ | q1
    · rw [q1]
      exact JCp_kp k1 Q9 q2 jc
    · exact JCp_0 k1 Q9 q1 jc
theorem jq_textM {t T : Nat} {τ : List Nat} {h h1 : zh} {xn y0 : Int32} {cur : bsT} {hs : List bsT} (hg : hG τ h1) (i : IV h T) (c : txC2 h h1 T xn cur hs y0) (jm : JMp h1 cur) {y : Int32} {h2 : zh} {t1 : Nat} (e : qE 60 183 [some (.inl (some 52)), some (zi xn), none] h1 t (.inl (some (zi y)), h2, t1)) : (∀ c', JCp h1 c' → JCp h2 c') ∧ jtQ h h2 T xn cur := by
  obtain ⟨i1, i2, i3, i4, -, ⟨x, i5, i6⟩, i9, -⟩ := i
  obtain ⟨k, rm, -⟩ := c
  have Q9 := lq_textM hg (k.2.1.trans i5) i6 i1 i2 e
  rcases (show (xn.toInt < 0 ∨ (T : Int) < xn.toInt) ∨ (0 ≤ xn.toInt ∧ xn.toInt ≤ (T : Int)) by omega) with q | ⟨q, q'⟩
  · obtain ⟨_, _, F⟩ := qI_at e (m_textT hg (k.2.1.trans i5) i6 q)
    exact ⟨fun c' jc => JCp_kp ⟨fun k => F 36 k (by omega), F 35 0 (by omega), F 35 6 (by omega), F 35 8 (by omega), F 38 2 (by omega)⟩ (fun a ha l _ => laQ_up l (fun k j h1 h2 _ _ => F k j (by omega))) (F 35 5 (by omega)) jc, Or.inl ⟨q, JMp_kp ⟨F 52 27 (by omega), F 52 29 (by omega), F 52 32 (by omega)⟩ (F 52 31 (by omega)) jm⟩⟩
  · obtain ⟨n, hn⟩ : ∃ n : Nat, xn.toInt = (n : Int) := ⟨xn.toInt.toNat, by omega⟩
    obtain ⟨k1, k2, k3, k4⟩ := qI_at e (jp_textM (n := n) (b := tb h) hg rm (k.2.1.trans i5) i6 i1 hn (by omega) (fun j hj => by
      obtain ⟨z, q1, q2⟩ := i9 j (by omega)
      exact ⟨z, (k.1 j).trans q2, (tb_of q1).symm⟩) (fun j hj => by
      obtain ⟨z, q1, q2⟩ := i9 j (by omega)
      obtain ⟨w, r1, r2, -⟩ := g_int (i := j) hg (tu54 hg) at54 (show j < 200 by omega) (sr1 (by omega))
      rw [(k.1 j).trans q2] at r1
      cases r1
      rw [tb_of q1]
      exact r2))
    refine ⟨fun c' jc => JCp_kp k1 Q9 k2 jc, Or.inr ⟨n, hn, by omega, ?_⟩⟩
    rcases k4 with ⟨⟨r, q1⟩, q2⟩ | q1
    · rw [q1]
      exact JMp_kp k3 q2 jm
    · exact JMp_0 q1
