/-! overPart as the law's loop sees it -/
theorem kp388_JCp {h h1 : zh} {cur : bsT} (F : ∀ k j, k ≠ 388 → hsl h1 k j = hsl h k j) (j : JCp h cur) : JCp h1 cur := JCp_kp ⟨fun k9 => F 36 k9 (by omega), F 35 0 (by omega), F 35 6 (by omega), F 35 8 (by omega), F 38 2 (by omega)⟩ (fun a ha l _ => laQ_up l (fun k9 j9 h1 h2 _ _ => F k9 j9 (by omega))) (F 35 5 (by omega)) j
theorem c_lopA {t : Nat} {τ : List Nat} {h : zh} {cur : bsT} {xi xk xw : Int32} (hg : hG τ h) (hin : qI 22 146 [some (.inl (some 0)), some (zi xi), some (zi xk), some (zi xw), none, none] h t (fun _ h1 => (∃ τ1, hG τ1 h1) ∧ JCp h1 cur)) : qI 60 285 [some (.inl (some 0)), some (zi xi), some (zi xk), some (zi xw), some (.inl (some 388)), none] h t (fun _ h1 => JCp h1 cur) := by
  refine qI_le (d := 32) (by decide) (qI_of ?_)
  refine y_same (i := .aload 4) (len := 2) (r := (0, 0, 0, 0)) (pc' := 2) (ls' := [some (.inl (some 0)), some (zi xi), some (zi xk), some (zi xw), some (.inl (some 388)), none]) (st' := [.inl (some 388)]) (by decide +kernel) (fun k q => by cases q) rfl ?_
  refine y_ic (c := 0) (len := 1) (r := (0, 0, 0, 0)) (by decide +kernel) (by decide) (fun y2081 hy2081 => ?_)
  refine y_same (i := .aload_n 0) (len := 1) (r := (0, 0, 0, 0)) (pc' := 4) (ls' := [some (.inl (some 0)), some (zi xi), some (zi xk), some (zi xw), some (.inl (some 388)), none]) (st' := [.inl (some 0), zi y2081, .inl (some 388)]) (by decide +kernel) (fun k q => by cases q) rfl ?_
  refine y_same (i := .iload_n 1) (len := 1) (r := (0, 0, 0, 0)) (pc' := 5) (ls' := [some (.inl (some 0)), some (zi xi), some (zi xk), some (zi xw), some (.inl (some 388)), none]) (st' := [zi xi, .inl (some 0), zi y2081, .inl (some 388)]) (by decide +kernel) (fun k q => by cases q) rfl ?_
  refine y_same (i := .iload_n 2) (len := 1) (r := (0, 0, 0, 0)) (pc' := 6) (ls' := [some (.inl (some 0)), some (zi xi), some (zi xk), some (zi xw), some (.inl (some 388)), none]) (st' := [zi xk, zi xi, .inl (some 0), zi y2081, .inl (some 388)]) (by decide +kernel) (fun k q => by cases q) rfl ?_
  refine y_same (i := .iload_n 3) (len := 1) (r := (0, 0, 0, 0)) (pc' := 7) (ls' := [some (.inl (some 0)), some (zi xi), some (zi xk), some (zi xw), some (.inl (some 388)), none]) (st' := [zi xw, zi xk, zi xi, .inl (some 0), zi y2081, .inl (some 388)]) (by decide +kernel) (fun k q => by cases q) rfl ?_
  refine y_cI (i := .invokevirtual 44) (len := 3) (r := (0, 146, 11, 1169)) (nL := 6) (k := 1) (n := 4) (hs := []) (args := [.inl (some 0), zi xi, zi xk, zi xw]) (rest := [zi y2081, .inl (some 388)]) (l0 := [some (.inl (some 0)), some (zi xi), some (zi xk), some (zi xw), none, none]) (by decide +kernel) (Or.inr (Or.inl ⟨_, rfl⟩)) rfl rfl rfl rfl (Nat.le_of_ble_eq_true rfl) (zO hg (tv0 hg) aw0 rfl) rfl (qI_le (by decide) hin) (fun y2082 h2082 hRy2082 => ?_)
  obtain ⟨⟨τ2082, hg2082⟩, jc2082⟩ := hRy2082
  refine y_i2l2 (len := 1) (r := (0, 0, 0, 0)) (by decide +kernel) ?_
  refine y_las2 (i := 0) (len := 1) (r := (0, 0, 0, 0)) (by decide +kernel) hg2082 (t388 hg2082) aw388 rfl (by omega) (by omega) rfl (fun h2083 hg2083 hw2083 ho2083 => ?_)
  refine y_goto (off := 11) (pc' := 23) (len := 3) (r := (0, 0, 0, 0)) (by decide +kernel) (by decide +kernel) ?_
  refine y_ic (c := 0) (len := 1) (r := (0, 0, 0, 0)) (by decide +kernel) (by decide) (fun y2084 hy2084 => ?_)
  refine y_rI (len := 1) (r := (0, 0, 0, 0)) (nL := 6) (k := 1) (n9 := 5) (hs := [(0, 12, 15, 0), (0, 12, 19, 1)]) (by decide +kernel) rfl rfl ?_
  exact kp388_JCp (fun k j hC => (ho2083 k j (by omega))) jc2082
theorem c_lopT0 {t : Nat} {τ : List Nat} {h : zh} {cur : bsT} {xi xk xw : Int32} (hg : hG τ h) (hin : qT 22 146 [some (.inl (some 0)), some (zi xi), some (zi xk), some (zi xw), none, none] h t 0 (fun h1 => (∃ τ1, hG τ1 h1) ∧ JCp h1 cur)) : ∃ (y : Int32) (h1 : zh), qE 60 285 [some (.inl (some 0)), some (zi xi), some (zi xk), some (zi xw), some (.inl (some 388)), none] h t (.inl (some (zi y)), h1, t + 1) ∧ JCp h1 cur := by
  have key : qX 31 285 0 [some (.inl (some 0)), some (zi xi), some (zi xk), some (zi xw), some (.inl (some 388)), none] [] h t (rI (fun y h1 => JCp h1 cur) (t + 1)) := by
    refine y_same (i := .aload 4) (len := 2) (r := (0, 0, 0, 0)) (pc' := 2) (ls' := [some (.inl (some 0)), some (zi xi), some (zi xk), some (zi xw), some (.inl (some 388)), none]) (st' := [.inl (some 388)]) (by decide +kernel) (fun k q => by cases q) rfl ?_
    refine y_ic (c := 0) (len := 1) (r := (0, 0, 0, 0)) (by decide +kernel) (by decide) (fun y2085 hy2085 => ?_)
    refine y_same (i := .aload_n 0) (len := 1) (r := (0, 0, 0, 0)) (pc' := 4) (ls' := [some (.inl (some 0)), some (zi xi), some (zi xk), some (zi xw), some (.inl (some 388)), none]) (st' := [.inl (some 0), zi y2085, .inl (some 388)]) (by decide +kernel) (fun k q => by cases q) rfl ?_
    refine y_same (i := .iload_n 1) (len := 1) (r := (0, 0, 0, 0)) (pc' := 5) (ls' := [some (.inl (some 0)), some (zi xi), some (zi xk), some (zi xw), some (.inl (some 388)), none]) (st' := [zi xi, .inl (some 0), zi y2085, .inl (some 388)]) (by decide +kernel) (fun k q => by cases q) rfl ?_
    refine y_same (i := .iload_n 2) (len := 1) (r := (0, 0, 0, 0)) (pc' := 6) (ls' := [some (.inl (some 0)), some (zi xi), some (zi xk), some (zi xw), some (.inl (some 388)), none]) (st' := [zi xk, zi xi, .inl (some 0), zi y2085, .inl (some 388)]) (by decide +kernel) (fun k q => by cases q) rfl ?_
    refine y_same (i := .iload_n 3) (len := 1) (r := (0, 0, 0, 0)) (pc' := 7) (ls' := [some (.inl (some 0)), some (zi xi), some (zi xk), some (zi xw), some (.inl (some 388)), none]) (st' := [zi xw, zi xk, zi xi, .inl (some 0), zi y2085, .inl (some 388)]) (by decide +kernel) (fun k q => by cases q) rfl ?_
    refine y_cC (i := .invokevirtual 44) (len := 3) (r := (0, 146, 11, 1169)) (nL := 6) (k := 1) (n := 4) (hs := []) (args := [.inl (some 0), zi xi, zi xk, zi xw]) (rest := [zi y2085, .inl (some 388)]) (l0 := [some (.inl (some 0)), some (zi xi), some (zi xk), some (zi xw), none, none]) (by decide +kernel) (Or.inr (Or.inl ⟨_, rfl⟩)) rfl rfl rfl rfl (Nat.le_of_ble_eq_true rfl) (zO hg (tv0 hg) aw0 rfl) rfl rfl (mL := 6) (mk := 1) (m9 := 5) (ms := [(0, 12, 15, 0), (0, 12, 19, 1)]) rfl rfl (qT_le (by decide) hin) (fun h2086 hR2086 => ?_)
    obtain ⟨⟨τ2086, hg2086⟩, jc2086⟩ := hR2086
    refine y_same (i := .astore 5) (len := 2) (r := (0, 0, 0, 0)) (pc' := 17) (ls' := [some (.inl (some 0)), some (zi xi), some (zi xk), some (zi xw), some (.inl (some 388)), some (.inl (some 1000001))]) (st' := []) (by decide +kernel) (fun k q => by cases q) rfl ?_
    refine y_ic (c := 1) (len := 1) (r := (0, 0, 0, 0)) (by decide +kernel) (by decide) (fun y2087 hy2087 => ?_)
    refine y_rI (len := 1) (r := (0, 0, 0, 0)) (nL := 6) (k := 1) (n9 := 5) (hs := [(0, 12, 15, 0), (0, 12, 19, 1)]) (by decide +kernel) rfl rfl ?_
    exact jc2086
  obtain ⟨x, k, y, h1, rfl, hR⟩ := key
  exact ⟨y, h1, qE_le (by decide) (qE_of k), hR⟩
theorem c_lopT1 {t : Nat} {τ : List Nat} {h : zh} {cur : bsT} {xi xk xw : Int32} (hg : hG τ h) (hin : qT 22 146 [some (.inl (some 0)), some (zi xi), some (zi xk), some (zi xw), none, none] h t 1 (fun h1 => (∃ τ1, hG τ1 h1) ∧ JCp h1 cur)) : ∃ (y : Int32) (h1 : zh), qE 60 285 [some (.inl (some 0)), some (zi xi), some (zi xk), some (zi xw), some (.inl (some 388)), none] h t (.inl (some (zi y)), h1, t + 1) ∧ JCp h1 cur := by
  have key : qX 31 285 0 [some (.inl (some 0)), some (zi xi), some (zi xk), some (zi xw), some (.inl (some 388)), none] [] h t (rI (fun y h1 => JCp h1 cur) (t + 1)) := by
    refine y_same (i := .aload 4) (len := 2) (r := (0, 0, 0, 0)) (pc' := 2) (ls' := [some (.inl (some 0)), some (zi xi), some (zi xk), some (zi xw), some (.inl (some 388)), none]) (st' := [.inl (some 388)]) (by decide +kernel) (fun k q => by cases q) rfl ?_
    refine y_ic (c := 0) (len := 1) (r := (0, 0, 0, 0)) (by decide +kernel) (by decide) (fun y2088 hy2088 => ?_)
    refine y_same (i := .aload_n 0) (len := 1) (r := (0, 0, 0, 0)) (pc' := 4) (ls' := [some (.inl (some 0)), some (zi xi), some (zi xk), some (zi xw), some (.inl (some 388)), none]) (st' := [.inl (some 0), zi y2088, .inl (some 388)]) (by decide +kernel) (fun k q => by cases q) rfl ?_
    refine y_same (i := .iload_n 1) (len := 1) (r := (0, 0, 0, 0)) (pc' := 5) (ls' := [some (.inl (some 0)), some (zi xi), some (zi xk), some (zi xw), some (.inl (some 388)), none]) (st' := [zi xi, .inl (some 0), zi y2088, .inl (some 388)]) (by decide +kernel) (fun k q => by cases q) rfl ?_
    refine y_same (i := .iload_n 2) (len := 1) (r := (0, 0, 0, 0)) (pc' := 6) (ls' := [some (.inl (some 0)), some (zi xi), some (zi xk), some (zi xw), some (.inl (some 388)), none]) (st' := [zi xk, zi xi, .inl (some 0), zi y2088, .inl (some 388)]) (by decide +kernel) (fun k q => by cases q) rfl ?_
    refine y_same (i := .iload_n 3) (len := 1) (r := (0, 0, 0, 0)) (pc' := 7) (ls' := [some (.inl (some 0)), some (zi xi), some (zi xk), some (zi xw), some (.inl (some 388)), none]) (st' := [zi xw, zi xk, zi xi, .inl (some 0), zi y2088, .inl (some 388)]) (by decide +kernel) (fun k q => by cases q) rfl ?_
    refine y_cC (i := .invokevirtual 44) (len := 3) (r := (0, 146, 11, 1169)) (nL := 6) (k := 1) (n := 4) (hs := []) (args := [.inl (some 0), zi xi, zi xk, zi xw]) (rest := [zi y2088, .inl (some 388)]) (l0 := [some (.inl (some 0)), some (zi xi), some (zi xk), some (zi xw), none, none]) (by decide +kernel) (Or.inr (Or.inl ⟨_, rfl⟩)) rfl rfl rfl rfl (Nat.le_of_ble_eq_true rfl) (zO hg (tv0 hg) aw0 rfl) rfl rfl (mL := 6) (mk := 1) (m9 := 5) (ms := [(0, 12, 15, 0), (0, 12, 19, 1)]) rfl rfl (qT_le (by decide) hin) (fun h2089 hR2089 => ?_)
    obtain ⟨⟨τ2089, hg2089⟩, jc2089⟩ := hR2089
    refine y_same (i := .astore 5) (len := 2) (r := (0, 0, 0, 0)) (pc' := 21) (ls' := [some (.inl (some 0)), some (zi xi), some (zi xk), some (zi xw), some (.inl (some 388)), some (.inl (some 1000001))]) (st' := []) (by decide +kernel) (fun k q => by cases q) rfl ?_
    refine y_ic (c := 2) (len := 1) (r := (0, 0, 0, 0)) (by decide +kernel) (by decide) (fun y2090 hy2090 => ?_)
    refine y_rI (len := 1) (r := (0, 0, 0, 0)) (nL := 6) (k := 1) (n9 := 5) (hs := [(0, 12, 15, 0), (0, 12, 19, 1)]) (by decide +kernel) rfl rfl ?_
    exact jc2089
  obtain ⟨x, k, y, h1, rfl, hR⟩ := key
  exact ⟨y, h1, qE_le (by decide) (qE_of k), hR⟩
theorem lx_overPartC {t T : Nat} {τ : List Nat} {h : zh} {cur : bsT} {hs : List bsT} {xi xk xw : Int32} (hg : hG τ h) (i : IV h T) (rc : RC h cur hs) (rm : RM h cur hs) (cz : CZ cur hs) (py : PY cur hs) (kc : KC cur hs) (jc : JCp h cur) (jm : JMp h cur) : ∃ (y : Int32) (h1 : zh) (t1 : Nat), qE 60 285 [some (.inl (some 0)), some (zi xi), some (zi xk), some (zi xw), some (.inl (some 388)), none] h t (.inl (some (zi y)), h1, t1) ∧ t1 ≤ t + 1 ∧ ∃ τ1, hG τ1 h1 ∧ IV h1 T ∧ RC h1 cur hs ∧ RM h1 cur hs ∧ JCp h1 cur ∧ JMp h1 cur := by
  have ok := okB_of hg rm py.1 kc.1 cz.1
  obtain ⟨p1, ⟨u, v, hu, l2, b2⟩, -⟩ := id rc
  have key : ∃ (y : Int32) (h1 : zh) (t1 : Nat), qE 60 285 [some (.inl (some 0)), some (zi xi), some (zi xk), some (zi xw), some (.inl (some 388)), none] h t (.inl (some (zi y)), h1, t1) ∧ t1 ≤ t + 1 ∧ JCp h1 cur := by
    have k0 : qP 22 146 [some (.inl (some 0)), some (zi xi), some (zi xk), some (zi xw), none, none] h t (oP3 (fun h1 => (∃ τ1, hG τ1 h1) ∧ JCp h1 cur) t) := by
      obtain ⟨x, ex, lx, ux⟩ := g_int (i := 5) (lo := 0) (hi := 1) hg (tv35 hg) aw35 (by decide) rfl
      rcases (show x.toInt = 0 ∨ x.toInt = 1 by omega) with q | q
      · exact op_z hg i.2.2.2.1 jc hu l2 b2 ok ⟨x, ex, q⟩
      · exact op_k hg i.2.2.2.1 jc ⟨x, ex, q⟩
    obtain ⟨x, e, q⟩ := k0
    rcases q with ⟨y, h1, rfl, r⟩ | ⟨h1, rfl, r⟩ | ⟨h1, rfl, r⟩
    · obtain ⟨y2, h2, e2, r2⟩ := c_lopA hg ⟨y, h1, e, r⟩
      exact ⟨y2, h2, t, e2, by omega, r2⟩
    · obtain ⟨y2, h2, e2, r2⟩ := c_lopT0 hg ⟨h1, e, r⟩
      exact ⟨y2, h2, t + 1, e2, by omega, r2⟩
    · obtain ⟨y2, h2, e2, r2⟩ := c_lopT1 hg ⟨h1, e, r⟩
      exact ⟨y2, h2, t + 1, e2, by omega, r2⟩
  obtain ⟨y, h1, t1, e, ht, jc1⟩ := key
  obtain ⟨F, τ1, g1⟩ := use_F (achk_ok aJ_ok lk8 (fun mk c' h1 _ => okC h1)) rfl hg (show aqsM _ _ [.inl (some 0), zi xi, zi xk, zi xw, .inl (some 388)] from ⟨aqR (t0 hg), aqI (qin_full _).1 (qin_full _).2, aqI (qin_full _).1 (qin_full _).2, aqI (qin_full _).1 (qin_full _).2, aqR (t388 hg), trivial⟩) rfl (by decide) e
  obtain ⟨k1, k2⟩ := kpF_w hg F (by decide +kernel)
  exact ⟨y, h1, t1, e, ht, τ1, g1, IV_kp (kpC_w hg F (by decide +kernel)) (kpM_w hg F (by decide +kernel)) i, RC_w hg F (by decide +kernel) rc, RM_w hg F (by decide +kernel) rm, jc1, JMp_kp k1 k2 jm⟩
noncomputable def zsO : aS := (([(0, 0), ((-2147483648), 2147483647), ((-2147483648), 2147483647), ((-2147483648), 2147483647), ((-3), 300)], [], [((52, 0, 0), .inl (0, 0))], [], [], 0) : aS)
noncomputable def zrO : Bool := match alp actb [] [] 14 (arn actb 2000 14) 245 10000 [] 11 [some (.inr (.inl 52)), some (.inl (1, 0)), some (.inl (2, 0)), some (.inl (3, 0)), some (.inl (4, 0)), none] [] zsO with
  | some L => L.all (fun x => match x.1 with
    | .inl (.inl (some _)) => (!awc x.2.2.2.2.2.1 52 27 && (!awc x.2.2.2.2.2.1 52 29 && (!awc x.2.2.2.2.2.1 52 31 && !awc x.2.2.2.2.2.1 52 32))) && Nat.beq x.2.2.2.2.2.2 0
    | _ => false)
  | none => false
theorem zrO_ok : zrO = true := by decide +kernel
theorem zq_overPart {τ : List Nat} {h : zh} {t : Nat} {z xi xk xw y : Int32} (hg : hG τ h) (hz : hsl h 52 0 = some (zi z)) (ez : z.toInt = 0) (y1 : -3 ≤ y.toInt) (y2 : y.toInt ≤ 300) : qX 14 245 11 [some (.inl (some 52)), some (zi xi), some (zi xk), some (zi xw), some (zi y), none] [] h t (fun x => ∃ (v : zv) (h1 : zh), x = (.inl (some v), h1, t) ∧ hsl h1 52 27 = hsl h 52 27 ∧ hsl h1 52 29 = hsl h 52 29 ∧ hsl h1 52 31 = hsl h 52 31 ∧ hsl h1 52 32 = hsl h 52 32) := by
  have hR := zrO_ok
  unfold zrO at hR
  cases hL : alp actb [] [] 14 (arn actb 2000 14) 245 10000 [] 11 [some (.inr (.inl 52)), some (.inl (1, 0)), some (.inl (2, 0)), some (.inl (3, 0)), some (.inl (4, 0)), none] [] zsO with
  | none => rw [hL] at hR; cases hR
  | some L =>
    rw [hL] at hR
    simp only at hR
    have hM0 : aM aJ τ h t zsO [0, xi.toInt, xk.toInt, xw.toInt, y.toInt] [] τ h t := by
      refine ⟨⟨rfl, rfl, fun j p9 hp9 => ?_⟩, ⟨rfl, fun j T hj => (by cases hj)⟩, fun f hf => ?_, fun f hf => (by cases hf), ⟨aup_refl _, fun _ _ _ _ _ => rfl⟩, hg.1, hg.2, rfl⟩
      · match j, hp9 with
        | 0, hp9 => cases hp9; exact ⟨0, rfl, Int.le_refl _, Int.le_refl _⟩
        | 1, hp9 => cases hp9; exact ⟨_, rfl, (qin_full xi).1, (qin_full xi).2⟩
        | 2, hp9 => cases hp9; exact ⟨_, rfl, (qin_full xk).1, (qin_full xk).2⟩
        | 3, hp9 => cases hp9; exact ⟨_, rfl, (qin_full xw).1, (qin_full xw).2⟩
        | 4, hp9 => cases hp9; exact ⟨_, rfl, y1, y2⟩
        | j + 5, hp9 => cases hp9
      · have hf : f ∈ [((52, 0, 0), (.inl (0, 0) : av))] := hf
        simp only [List.mem_cons, List.not_mem_nil, or_false] at hf
        subst hf
        exact ⟨fun _ => t52 hg, 52, 0, (0 : Int), _, rfl, rfl, by simp, hz, z, 0, rfl, rfl, by omega⟩
    have hl0 : alM [0, xi.toInt, xk.toInt, xw.toInt, y.toInt] [] [some (.inr (.inl 52)), some (.inl (1, 0)), some (.inl (2, 0)), some (.inl (3, 0)), some (.inl (4, 0)), none] [some (.inl (some 52)), some (zi xi), some (zi xk), some (zi xw), some (zi y), none] := by
      refine ⟨rfl, fun j b hb => ?_, fun j v hv hn => ?_⟩
      · match j, hb with
        | 0, hb => cases hb; exact ⟨_, rfl, 52, rfl, rfl⟩
        | 1, hb => cases hb; exact ⟨_, rfl, xi, xi.toInt, rfl, rfl, by omega⟩
        | 2, hb => cases hb; exact ⟨_, rfl, xk, xk.toInt, rfl, rfl, by omega⟩
        | 3, hb => cases hb; exact ⟨_, rfl, xw, xw.toInt, rfl, rfl, by omega⟩
        | 4, hb => cases hb; exact ⟨_, rfl, y, y.toInt, rfl, rfl, by omega⟩
        | 5, hb => cases hb
        | j + 6, hb => cases hb
      · match j, hv, hn with
        | 0, _, hn => cases hn
        | 1, _, hn => cases hn
        | 2, _, hn => cases hn
        | 3, _, hn => cases hn
        | 4, _, hn => cases hn
        | 5, hv, _ => cases hv
        | j + 6, hv, _ => cases hv
    obtain ⟨xx, k1, v, h3, rfl, g1⟩ := alp_ok (ann := []) (stops := []) (ctb := actb) (call := arn actb 2000 14) (τ0 := τ) (h0 := h) (t0 := t) (ρt := [0, xi.toInt, xk.toInt, xw.toInt, y.toInt]) (νt := []) (τt := τ) (d := 14) (mi := 245) (Out := fun xx => ∃ (v : zv) (h3 : zh), xx = (.inl (some v), h3, t) ∧ hsl h3 52 27 = hsl h 52 27 ∧ hsl h3 52 29 = hsl h 52 29 ∧ hsl h3 52 31 = hsl h 52 31 ∧ hsl h3 52 32 = hsl h 52 32) aJ_ok (fun mk c' h1 _ => okC h1) (arn_ok aJ_ok 14 (fun mk c' h1 _ => okC h1)) 10000 [] 11 _ [] _ L _ _ _ _ [] h t hL hM0 hl0 trivial (fun o S' hm9 ρ' ν' τ' h' t' u1 u2 u3 hM' => by
      have hPx := List.all_eq_true.mp hR _ hm9
      simp only at hPx
      split at hPx
      · rename_i v hv9
        simp only [Bool.and_eq_true, Bool.not_eq_true'] at hPx
        obtain ⟨⟨w1, w2, w3, w4⟩, w5⟩ := hPx
        refine ⟨fun q9 hq9 x hx => ?_, fun pc ls st ho => (by cases ho)⟩
        cases hq9
        rcases x with (_ | v9) | z
        · exact hx.elim
        · have ht : t' = t := by
            have h9 := hM'.2.2.2.2.2.2.2
            rw [Nat.eq_of_beq_eq_true w5] at h9
            exact h9
          subst ht
          have Fr := hM'.2.2.2.2.1.2
          exact ⟨v9, h', rfl, Fr 52 52 27 (t52 hg) w1, Fr 52 52 29 (t52 hg) w2, Fr 52 52 31 (t52 hg) w3, Fr 52 52 32 (t52 hg) w4⟩
        · exact hx.elim
      · cases hPx) (fun o ho => (by cases ho)) (aup_refl _) (aup_refl _) (aup_refl _)
    exact ⟨_, k1, v, h3, rfl, g1⟩
theorem fm_overPart {t T : Nat} {τ : List Nat} {h : zh} {cur : bsT} {hs : List bsT} {xi xk xw : Int32} (hg : hG τ h) (i : IV h T) (rc : RC h cur hs) (rm : RM h cur hs) (cz : CZ cur hs) (py : PY cur hs) (kc : KC cur hs) (jc : JCp h cur) (jm : JMp h cur) : qP 15 245 [some (.inl (some 52)), some (zi xi), some (zi xk), some (zi xw), none, none] h t (fun x => JMp x.2.1 cur) := by
  refine qP_of ?_
  refine y_same (i := .aload_n 0) (len := 1) (r := (0, 0, 0, 0)) (pc' := 1) (ls' := [some (.inl (some 52)), some (zi xi), some (zi xk), some (zi xw), none, none]) (st' := [.inl (some 52)]) (by decide +kernel) (fun k q => by cases q) rfl ?_
  refine y_ic (c := 0) (len := 1) (r := (0, 0, 0, 0)) (by decide +kernel) (by decide) (fun y2128 hy2128 => ?_)
  refine y_put (j := 92) (lo := (-2147483648)) (hi := 2147483647) (len := 3) (r := (12, 0, 0, 1328)) (by decide +kernel) hg (t52 hg) at52 rfl rfl (by decide) rfl (qin_full _).1 (qin_full _).2 rfl (fun h2129 hg2129 hl2129 hs2129 ho2129 => ?_)
  have ho2129 : hO 52 0 h h2129 := ho2129
  have hs2129 : hsl h2129 52 0 = some (zi y2128) := hs2129
  refine y_same (i := .aload_n 0) (len := 1) (r := (0, 0, 0, 0)) (pc' := 6) (ls' := [some (.inl (some 52)), some (zi xi), some (zi xk), some (zi xw), none, none]) (st' := [.inl (some 52)]) (by decide +kernel) (fun k q => by cases q) rfl ?_
  refine y_cI (i := .invokevirtual 407) (len := 3) (r := (0, 243, 12, 1786)) (nL := 1) (k := 1) (n := 1) (hs := []) (args := [.inl (some 52)]) (rest := []) (l0 := [some (.inl (some 52))]) (by decide +kernel) (Or.inr (Or.inl ⟨_, rfl⟩)) rfl rfl rfl rfl (Nat.le_of_ble_eq_true rfl) (z52 hg2129) rfl (qI_le (by omega) (lx_om hg i rc rm cz py kc jc jm h2129 hg2129 (fun k j hC => (ho2129 k j (by omega))))) (fun y2130 h2130 hRy2130 => ?_)
  obtain ⟨-, ⟨τ2130, hg2130⟩, jm2130, ⟨b1, b2⟩, f0⟩ := hRy2130
  refine y_same (i := .istore 4) (len := 2) (r := (0, 0, 0, 0)) (pc' := 11) (ls' := [some (.inl (some 52)), some (zi xi), some (zi xk), some (zi xw), some (zi y2130), none]) (st' := []) (by decide +kernel) (fun k q => by cases q) rfl ?_
  refine qX_mn (zq_overPart hg2130 (f0.trans hs2129) (by omega) b1 b2) (fun x q => ?_)
  obtain ⟨v, h9, rfl, q1, q2, q3, q4⟩ := q
  exact JMp_kp ⟨q1, q2, q4⟩ q3 jm2130
theorem use_L8 {τ : List Nat} {h : zh} {mj dd nL rk n t d : Nat} {hs : List (Nat × Nat × Nat × Nat)} {qs : List aq} {wl : aW} {outs : List aE} {vs : List zv} {l0 : List (Option zv)} (b : Nat) (hC : cOK aJ mj (qs, [], dd, wl, outs)) (hm : zmeth mj = some (nL, rk, n, hs)) (hg : hG τ h) (hq : aqsM τ qs vs) (hz : zent vs nL = some l0) (ho : outs.all (outL b) = true) (hd : dd ≤ d) : ∃ (y : Int32) (h1 : zh) (t1 : Nat), qE d mj l0 h t (.inl (some (zi y)), h1, t1) ∧ t1 ≤ t + b ∧ ∃ τ1, hG τ1 h1 ∧ aFr τ h wl h1 := by
  obtain ⟨o, h', t', τ', e, he, hE, hu, hh', hJ', hF, ht, hc⟩ := hC τ h t nL rk n hs vs l0 [] hm hg.1 hg.2 hq trivial hz
  have h1 := List.all_eq_true.mp ho e he
  unfold outL at h1
  split at h1
  · rcases o with (_ | v) | z
    · exact hc.1.elim
    · obtain ⟨x, rfl, l1, l2⟩ := hc.1
      have h1 := Nat.le_of_ble_eq_true h1
      simp only at ht
      exact ⟨x, h', t', qE_le hd hE, by omega, τ', ⟨hh', hJ'⟩, hF⟩
    · exact hc.1.elim
  · cases h1
theorem use_J8 {τ : List Nat} {h : zh} {mj dd nL rk n t d : Nat} {hs : List (Nat × Nat × Nat × Nat)} {qs : List aq} {wl : aW} {outs : List aE} {vs : List zv} {l0 : List (Option zv)} (hC : cOK aJ mj (qs, [], dd, wl, outs)) (hm : zmeth mj = some (nL, rk, n, hs)) (hg : hG τ h) (hq : aqsM τ qs vs) (hz : zent vs nL = some l0) (ho : outs.all outJ = true) (hd : dd ≤ d) : ∃ (w : Int64) (h1 : zh) (t1 : Nat), qE d mj l0 h t (.inl (some (.inr (.inr (.inl w)))), h1, t1) ∧ t1 = t ∧ ∃ τ1, hG τ1 h1 ∧ aFr τ h wl h1 := by
  obtain ⟨o, h', t', τ', e, he, hE, hu, hh', hJ', hF, ht, hc⟩ := hC τ h t nL rk n hs vs l0 [] hm hg.1 hg.2 hq trivial hz
  have h1 := List.all_eq_true.mp ho e he
  unfold outJ at h1
  split at h1
  · rcases o with (_ | v) | z
    · exact hc.1.elim
    · obtain ⟨w, rfl⟩ : ∃ w : Int64, v = .inr (.inr (.inl w)) := by
        rcases hc.1 with ⟨h9, -⟩ | ⟨h9, -⟩ | ⟨-, h9⟩ | ⟨h9, -⟩ | ⟨h9, -⟩
        · cases h9
        · cases h9
        · exact h9
        · omega
        · omega
      exact ⟨w, h', t', qE_le hd hE, ht, τ', ⟨hh', hJ'⟩, hF⟩
    · exact hc.1.elim
  · cases h1
theorem lx_proofM {t T : Nat} {τ : List Nat} {h : zh} {cur : bsT} {hs : List bsT} {x1 : Int32} (hg : hG τ h) (i : IV h T) (rc : RC h cur hs) (rm : RM h cur hs) (cz : CZ cur hs) (py : PY cur hs) (kc : KC cur hs) (jc : JCp h cur) (jm : JMp h cur) : ∃ (y : Int32) (h1 : zh) (t1 : Nat), qE 60 240 [some (.inl (some 52)), some (zi x1), none, none] h t (.inl (some (zi y)), h1, t1) ∧ t1 ≤ t + 0 ∧ ∃ τ1, hG τ1 h1 ∧ IV h1 T ∧ RC h1 cur hs ∧ RM h1 cur hs ∧ JCp h1 cur ∧ JMp h1 cur := by
  obtain ⟨y, h1, t1, e, ht, τ1, g1, F⟩ := use_L8 (τ := τ) (t := t) (d := 60) 0 (okC (mk := 240) (c := ac236) List.mem_cons_self) rfl hg (show aqsM _ _ [.inl (some 52), zi x1] from ⟨aqR (t52 hg), aqI (qin_full _).1 (qin_full _).2, trivial⟩) (l0 := [some (.inl (some 52)), some (zi x1), none, none]) rfl (by decide +kernel) (by decide)
  obtain ⟨k1, k2, k3⟩ := kpP_w hg F (by decide +kernel)
  exact ⟨y, h1, t1, e, ht, τ1, g1, IV_kp (kpC_w hg F (by decide +kernel)) (kpM_w hg F (by decide +kernel)) i, RC_w hg F (by decide +kernel) rc, RM_w hg F (by decide +kernel) rm, JCp_kp k1 k2 k3 jc, JMp_f (qP_at (d' := 60) (by decide) e (fm_proof hg)) jm⟩
theorem lx_sequentM {t T : Nat} {τ : List Nat} {h : zh} {cur : bsT} {hs : List bsT} {x1 x2 : Int32} (hg : hG τ h) (i : IV h T) (rc : RC h cur hs) (rm : RM h cur hs) (cz : CZ cur hs) (py : PY cur hs) (kc : KC cur hs) (jc : JCp h cur) (jm : JMp h cur) : ∃ (y : Int32) (h1 : zh) (t1 : Nat), qE 60 241 [some (.inl (some 52)), some (zi x1), some (zi x2)] h t (.inl (some (zi y)), h1, t1) ∧ t1 ≤ t + 0 ∧ ∃ τ1, hG τ1 h1 ∧ IV h1 T ∧ RC h1 cur hs ∧ RM h1 cur hs ∧ JCp h1 cur ∧ JMp h1 cur := by
  obtain ⟨y, h1, t1, e, ht, τ1, g1, F⟩ := use_L8 (τ := τ) (t := t) (d := 60) 0 (okC (mk := 241) (c := ac238) List.mem_cons_self) rfl hg (show aqsM _ _ [.inl (some 52), zi x1, zi x2] from ⟨aqR (t52 hg), aqI (qin_full _).1 (qin_full _).2, aqI (qin_full _).1 (qin_full _).2, trivial⟩) (l0 := [some (.inl (some 52)), some (zi x1), some (zi x2)]) rfl (by decide +kernel) (by decide)
  obtain ⟨k1, k2, k3⟩ := kpP_w hg F (by decide +kernel)
  exact ⟨y, h1, t1, e, ht, τ1, g1, IV_kp (kpC_w hg F (by decide +kernel)) (kpM_w hg F (by decide +kernel)) i, RC_w hg F (by decide +kernel) rc, RM_w hg F (by decide +kernel) rm, JCp_kp k1 k2 k3 jc, JMp_f (qP_at (d' := 60) (by decide) e (fm_sequent hg)) jm⟩
theorem lx_partOfM {t T : Nat} {τ : List Nat} {h : zh} {cur : bsT} {hs : List bsT} {x1 x2 x3 x4 : Int32} (hg : hG τ h) (i : IV h T) (rc : RC h cur hs) (rm : RM h cur hs) (cz : CZ cur hs) (py : PY cur hs) (kc : KC cur hs) (jc : JCp h cur) (jm : JMp h cur) : ∃ (y : Int32) (h1 : zh) (t1 : Nat), qE 60 242 [some (.inl (some 52)), some (zi x1), some (zi x2), some (zi x3), some (zi x4)] h t (.inl (some (zi y)), h1, t1) ∧ t1 ≤ t + 0 ∧ ∃ τ1, hG τ1 h1 ∧ IV h1 T ∧ RC h1 cur hs ∧ RM h1 cur hs ∧ JCp h1 cur ∧ JMp h1 cur := by
  obtain ⟨y, h1, t1, e, ht, τ1, g1, F⟩ := use_L8 (τ := τ) (t := t) (d := 60) 0 (okC (mk := 242) (c := ac239) List.mem_cons_self) rfl hg (show aqsM _ _ [.inl (some 52), zi x1, zi x2, zi x3, zi x4] from ⟨aqR (t52 hg), aqI (qin_full _).1 (qin_full _).2, aqI (qin_full _).1 (qin_full _).2, aqI (qin_full _).1 (qin_full _).2, aqI (qin_full _).1 (qin_full _).2, trivial⟩) (l0 := [some (.inl (some 52)), some (zi x1), some (zi x2), some (zi x3), some (zi x4)]) rfl (by decide +kernel) (by decide)
  obtain ⟨k1, k2, k3⟩ := kpP_w hg F (by decide +kernel)
  exact ⟨y, h1, t1, e, ht, τ1, g1, IV_kp (kpC_w hg F (by decide +kernel)) (kpM_w hg F (by decide +kernel)) i, RC_w hg F (by decide +kernel) rc, RM_w hg F (by decide +kernel) rm, JCp_kp k1 k2 k3 jc, JMp_f (qP_at (d' := 60) (by decide) e (fm_partOf hg)) jm⟩
theorem lx_overPartM {t T : Nat} {τ : List Nat} {h : zh} {cur : bsT} {hs : List bsT} {xi xk xw : Int32} (hg : hG τ h) (i : IV h T) (rc : RC h cur hs) (rm : RM h cur hs) (cz : CZ cur hs) (py : PY cur hs) (kc : KC cur hs) (jc : JCp h cur) (jm : JMp h cur) : ∃ (y : Int32) (h1 : zh) (t1 : Nat), qE 60 245 [some (.inl (some 52)), some (zi xi), some (zi xk), some (zi xw), none, none] h t (.inl (some (zi y)), h1, t1) ∧ t1 ≤ t + 0 ∧ ∃ τ1, hG τ1 h1 ∧ IV h1 T ∧ RC h1 cur hs ∧ RM h1 cur hs ∧ JCp h1 cur ∧ JMp h1 cur := by
  obtain ⟨y, h1, t1, e, ht, τ1, g1, F⟩ := use_L8 (τ := τ) (t := t) (d := 60) 0 (okC (mk := 245) (c := ac241) List.mem_cons_self) rfl hg (show aqsM _ _ [.inl (some 52), zi xi, zi xk, zi xw] from ⟨aqR (t52 hg), aqI (qin_full _).1 (qin_full _).2, aqI (qin_full _).1 (qin_full _).2, aqI (qin_full _).1 (qin_full _).2, trivial⟩) (l0 := [some (.inl (some 52)), some (zi xi), some (zi xk), some (zi xw), none, none]) rfl (by decide +kernel) (by decide)
  obtain ⟨k1, k2, k3⟩ := kpP_w hg F (by decide +kernel)
  exact ⟨y, h1, t1, e, ht, τ1, g1, IV_kp (kpC_w hg F (by decide +kernel)) (kpM_w hg F (by decide +kernel)) i, RC_w hg F (by decide +kernel) rc, RM_w hg F (by decide +kernel) rm, JCp_kp k1 k2 k3 jc, qP_at (d' := 60) (by decide) e (fm_overPart hg i rc rm cz py kc jc jm)⟩
theorem lx_printM {t T : Nat} {τ : List Nat} {h : zh} {cur : bsT} {hs : List bsT} (hg : hG τ h) (i : IV h T) (rc : RC h cur hs) (rm : RM h cur hs) (cz : CZ cur hs) (py : PY cur hs) (kc : KC cur hs) (jc : JCp h cur) (jm : JMp h cur) : ∃ (w : Int64) (h1 : zh) (t1 : Nat), qE 60 263 [some (.inl (some 52)), none, none, none] h t (.inl (some (.inr (.inr (.inl w)))), h1, t1) ∧ t1 = t ∧ ∃ τ1, hG τ1 h1 ∧ IV h1 T ∧ RC h1 cur hs ∧ RM h1 cur hs ∧ JCp h1 cur ∧ JMp h1 cur := by
  obtain ⟨w, h1, t1, e, ht, τ1, g1, F⟩ := use_J8 (τ := τ) (t := t) (d := 60) (okC (mk := 263) (c := ac245) List.mem_cons_self) rfl hg (show aqsM _ _ [.inl (some 52)] from ⟨aqR (t52 hg), trivial⟩) (l0 := [some (.inl (some 52)), none, none, none]) rfl (by decide +kernel) (by decide)
  obtain ⟨k1, k2, k3⟩ := kpP_w hg F (by decide +kernel)
  exact ⟨w, h1, t1, e, ht, τ1, g1, IV_kp (kpC_w hg F (by decide +kernel)) (kpM_w hg F (by decide +kernel)) i, RC_w hg F (by decide +kernel) rc, RM_w hg F (by decide +kernel) rm, JCp_kp k1 k2 k3 jc, JMp_f (qP_at (d' := 60) (by decide) e (fm_print hg)) jm⟩
