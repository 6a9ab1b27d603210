/-! what the law's loop keeps, with the small heaps -/
theorem ex_and {d mi : Nat} {l0 : List (Option zv)} {h : zh} {t : Nat} {P : Int32 → zh → Nat → Prop} {Q : zh → Prop} (a : ∃ (y : Int32) (h1 : zh) (t1 : Nat), qE d mi l0 h t (.inl (some (zi y)), h1, t1) ∧ P y h1 t1) (b : ∀ (y : Int32) (h1 : zh) (t1 : Nat), qE d mi l0 h t (.inl (some (zi y)), h1, t1) → Q h1) : ∃ (y : Int32) (h1 : zh) (t1 : Nat), qE d mi l0 h t (.inl (some (zi y)), h1, t1) ∧ (P y h1 t1 ∧ Q h1) := by
  obtain ⟨y, h1, t1, e, p⟩ := a
  exact ⟨y, h1, t1, e, p, b y h1 t1 e⟩
theorem jz_turnC {t T : Nat} {τ : List Nat} {h : zh} {cur cm : bsT} {hs : List bsT} (hg : hG τ h) (i : IV h T) (rc : RC h cur hs) (jc : JC h cur) (jm : JM h cm) {y : Int32} {h1 : zh} {t1 : Nat} (e : qE 60 135 [some (.inl (some 0))] h t (.inl (some (zi y)), h1, t1)) : JC h1 (cur.2, cur.1) ∧ JM h1 cm := by
  obtain ⟨_, _, _, f, _⟩ := qI_at e (c_turn2 hg rc i.2.2.2.1)
  exact ⟨JC_0 (frC_kC f) (qI_at e (j_turnC hg rc i.2.2.2.1)) jc, JM_kp (frC_kM f).1 (frC_kM f).2 jm⟩
theorem jz_turnM {t : Nat} {τ : List Nat} {h : zh} {cur cc : bsT} {hs : List bsT} (hg : hG τ h) (rm : RM h cur hs) (jc : JC h cc) (jm : JM h cur) {y : Int32} {h1 : zh} {t1 : Nat} (e : qE 60 188 [some (.inl (some 52)), none, none] h t (.inl (some (zi y)), h1, t1)) : JC h1 cc ∧ JM h1 (cur.2, cur.1) := by
  obtain ⟨_, _, _, f, _⟩ := qI_at e (m_turn2 hg rm)
  exact ⟨JC_kp (frM_kC f).1 (frM_kC f).2 jc, JM_0 (qI_at e (j_turnM hg rm))⟩
theorem jz_undoC {t T : Nat} {τ : List Nat} {h : zh} {cur cm : bsT} {hs : List bsT} (hg : hG τ h) (i : IV h T) (rc : RC h cur hs) (jc : JC h cur) (jm : JM h cm) {y : Int32} {h1 : zh} {t1 : Nat} (e : qE 60 138 [some (.inl (some 0))] h t (.inl (some (zi y)), h1, t1)) : JC h1 (udc cur hs) ∧ JM h1 cm := by
  obtain ⟨_, _, f, _⟩ := qI_at e (c_undo2 hg rc i.2.2.2.1)
  refine ⟨?_, JM_kp (frC_kM f).1 (frC_kM f).2 jm⟩
  rcases qI_at e (j_undoC hg rc i.2.2.2.1) with ⟨q1, q2⟩ | q
  · subst q1
    subst q2
    exact jc
  · exact JC_0 (frC_kC f) q jc
theorem jz_undoM {t : Nat} {τ : List Nat} {h : zh} {cur cc : bsT} {hs : List bsT} (hg : hG τ h) (rm : RM h cur hs) (jc : JC h cc) (jm : JM h cur) {y : Int32} {h1 : zh} {t1 : Nat} (e : qE 60 187 [some (.inl (some 52))] h t (.inl (some (zi y)), h1, t1)) : JC h1 cc ∧ JM h1 (udc cur hs) := by
  obtain ⟨_, _, f, _⟩ := qI_at e (m_undo2 hg rm)
  refine ⟨JC_kp (frM_kC f).1 (frM_kC f).2 jc, ?_⟩
  rcases qI_at e (j_undoM hg rm) with ⟨q1, q2⟩ | q
  · subst q1
    exact JM_kp (frM_kM f) q2 jm
  · exact JM_0 q
theorem jz_dropC {t T : Nat} {τ : List Nat} {h : zh} {cur cm : bsT} {hs : List bsT} (hg : hG τ h) (i : IV h T) (rc : RC h cur hs) (jc : JC h cur) (jm : JM h cm) {x xk : Int32} {y : Int32} {h1 : zh} {t1 : Nat} (e : qE 60 277 [some (.inl (some 0)), some (zi x), some (zi xk), some (.inl (some 388)), none] h t (.inl (some (zi y)), h1, t1)) : JC h1 (opC (drop_ cur x.toInt xk.toInt) cur) ∧ JM h1 cm := by
  rcases Decidable.em ((x.toInt = 0 ∧ 0 ≤ xk.toInt ∧ xk.toInt < (cur.1.1.length : Int)) ∨ (x.toInt = 1 ∧ 0 ≤ xk.toInt ∧ xk.toInt < (cur.2.1.length : Int))) with hb | hb
  · rcases hb with ⟨b1, b2, b3⟩ | ⟨b1, b2, b3⟩
    · obtain ⟨_, _, _, f, _⟩ := qI_at e (c_ldrop0 (k := xk.toInt.toNat) hg rc i.2.2.2.1 b1 (by omega) (by omega))
      exact ⟨JC_0 (frC_kC f) (qI_at e (j_ldrop0 (k := xk.toInt.toNat) hg rc i.2.2.2.1 b1 (by omega) (by omega))) jc, JM_kp (frC_kM f).1 (frC_kM f).2 jm⟩
    · obtain ⟨_, _, _, f, _⟩ := qI_at e (c_ldrop1 (k := xk.toInt.toNat) hg rc i.2.2.2.1 b1 (by omega) (by omega))
      exact ⟨JC_0 (frC_kC f) (qI_at e (j_ldrop1 (k := xk.toInt.toNat) hg rc i.2.2.2.1 b1 (by omega) (by omega))) jc, JM_kp (frC_kM f).1 (frC_kM f).2 jm⟩
  · have e9 : drop_ cur x.toInt xk.toInt = none := by
      unfold drop_
      rw [if_neg (fun q9 => hb (Or.inl q9)), if_neg (fun q9 => hb (Or.inr q9))]
    obtain ⟨_, _, F⟩ := qX_at e (c_ldropX hg rc i.2.2.2.1 hb)
    rw [e9]
    exact ⟨JC_kp ⟨F 44 0 (by omega), fun j _ _ => F 42 j (by omega), fun j => F 51 j (by omega)⟩ (F 42 5 (by omega)) jc, JM_kp ⟨fun j _ _ => F 52 j (by omega), fun j => F 387 j (by omega)⟩ (F 52 47 (by omega)) jm⟩
theorem jz_dropM {t : Nat} {τ : List Nat} {h : zh} {cur cc : bsT} {hs : List bsT} (hg : hG τ h) (rm : RM h cur hs) (jc : JC h cc) (jm : JM h cur) {x xk : Int32} {y : Int32} {h1 : zh} {t1 : Nat} (e : qE 60 190 [some (.inl (some 52)), some (zi x), some (zi xk)] h t (.inl (some (zi y)), h1, t1)) : JC h1 cc ∧ JM h1 (opC (drop_ cur x.toInt xk.toInt) cur) := by
  rcases Decidable.em ((x.toInt = 0 ∧ 0 ≤ xk.toInt ∧ xk.toInt < (cur.1.1.length : Int)) ∨ (x.toInt = 1 ∧ 0 ≤ xk.toInt ∧ xk.toInt < (cur.2.1.length : Int))) with hb | hb
  · rcases hb with ⟨b1, b2, b3⟩ | ⟨b1, b2, b3⟩
    · obtain ⟨_, _, _, f, _⟩ := qI_at e (m_drop0 (k := xk.toInt.toNat) hg rm b1 (by omega) (by omega))
      exact ⟨JC_kp (frM_kC f).1 (frM_kC f).2 jc, JM_0 (qI_at e (j_dropM0 (k := xk.toInt.toNat) hg rm b1 (by omega) (by omega)))⟩
    · obtain ⟨_, _, _, f, _⟩ := qI_at e (m_drop1 (k := xk.toInt.toNat) hg rm b1 (by omega) (by omega))
      exact ⟨JC_kp (frM_kC f).1 (frM_kC f).2 jc, JM_0 (qI_at e (j_dropM1 (k := xk.toInt.toNat) hg rm b1 (by omega) (by omega)))⟩
  · have e9 : drop_ cur x.toInt xk.toInt = none := by
      unfold drop_
      rw [if_neg (fun q9 => hb (Or.inl q9)), if_neg (fun q9 => hb (Or.inr q9))]
    obtain ⟨_, _, _, f, _⟩ := qI_at e (m_dropX hg rm hb)
    rw [e9]
    exact ⟨JC_kp (frM_kC f).1 (frM_kC f).2 jc, JM_kp (frM_kM f) (qI_at e (j_dropX hg rm hb)) jm⟩
theorem jz_forgetC {t T : Nat} {τ : List Nat} {h : zh} {cur cm : bsT} {hs : List bsT} (hg : hG τ h) (i : IV h T) (rc : RC h cur hs) (jc : JC h cur) (jm : JM h cm) {x xk : Int32} {y : Int32} {h1 : zh} {t1 : Nat} (e : qE 60 278 [some (.inl (some 0)), some (zi x), some (zi xk), some (.inl (some 388)), none] h t (.inl (some (zi y)), h1, t1)) : JC h1 (opC (forget_ cur x.toInt xk.toInt) cur) ∧ JM h1 cm := by
  rcases Decidable.em ((x.toInt = 0 ∧ 0 ≤ xk.toInt ∧ xk.toInt < (cur.1.2.length : Int)) ∨ (x.toInt = 1 ∧ 0 ≤ xk.toInt ∧ xk.toInt < (cur.2.2.length : Int))) with hb | hb
  · rcases hb with ⟨b1, b2, b3⟩ | ⟨b1, b2, b3⟩
    · obtain ⟨_, _, _, f, _⟩ := qI_at e (c_lforget0 (k := xk.toInt.toNat) hg rc i.2.2.2.1 b1 (by omega) (by omega))
      exact ⟨JC_0 (frC_kC f) (qI_at e (j_lforget0 (k := xk.toInt.toNat) hg rc i.2.2.2.1 b1 (by omega) (by omega))) jc, JM_kp (frC_kM f).1 (frC_kM f).2 jm⟩
    · obtain ⟨_, _, _, f, _⟩ := qI_at e (c_lforget1 (k := xk.toInt.toNat) hg rc i.2.2.2.1 b1 (by omega) (by omega))
      exact ⟨JC_0 (frC_kC f) (qI_at e (j_lforget1 (k := xk.toInt.toNat) hg rc i.2.2.2.1 b1 (by omega) (by omega))) jc, JM_kp (frC_kM f).1 (frC_kM f).2 jm⟩
  · have e9 : forget_ cur x.toInt xk.toInt = none := by
      unfold forget_
      rw [if_neg (fun q9 => hb (Or.inl q9)), if_neg (fun q9 => hb (Or.inr q9))]
    obtain ⟨_, _, F⟩ := qX_at e (c_lforgetX hg rc i.2.2.2.1 hb)
    rw [e9]
    exact ⟨JC_kp ⟨F 44 0 (by omega), fun j _ _ => F 42 j (by omega), fun j => F 51 j (by omega)⟩ (F 42 5 (by omega)) jc, JM_kp ⟨fun j _ _ => F 52 j (by omega), fun j => F 387 j (by omega)⟩ (F 52 47 (by omega)) jm⟩
theorem jz_forgetM {t : Nat} {τ : List Nat} {h : zh} {cur cc : bsT} {hs : List bsT} (hg : hG τ h) (rm : RM h cur hs) (jc : JC h cc) (jm : JM h cur) {x xk : Int32} {y : Int32} {h1 : zh} {t1 : Nat} (e : qE 60 191 [some (.inl (some 52)), some (zi x), some (zi xk)] h t (.inl (some (zi y)), h1, t1)) : JC h1 cc ∧ JM h1 (opC (forget_ cur x.toInt xk.toInt) cur) := by
  rcases Decidable.em ((x.toInt = 0 ∧ 0 ≤ xk.toInt ∧ xk.toInt < (cur.1.2.length : Int)) ∨ (x.toInt = 1 ∧ 0 ≤ xk.toInt ∧ xk.toInt < (cur.2.2.length : Int))) with hb | hb
  · rcases hb with ⟨b1, b2, b3⟩ | ⟨b1, b2, b3⟩
    · obtain ⟨_, _, _, f, _⟩ := qI_at e (m_forget0 (k := xk.toInt.toNat) hg rm b1 (by omega) (by omega))
      exact ⟨JC_kp (frM_kC f).1 (frM_kC f).2 jc, JM_0 (qI_at e (j_forgetM0 (k := xk.toInt.toNat) hg rm b1 (by omega) (by omega)))⟩
    · obtain ⟨_, _, _, f, _⟩ := qI_at e (m_forget1 (k := xk.toInt.toNat) hg rm b1 (by omega) (by omega))
      exact ⟨JC_kp (frM_kC f).1 (frM_kC f).2 jc, JM_0 (qI_at e (j_forgetM1 (k := xk.toInt.toNat) hg rm b1 (by omega) (by omega)))⟩
  · have e9 : forget_ cur x.toInt xk.toInt = none := by
      unfold forget_
      rw [if_neg (fun q9 => hb (Or.inl q9)), if_neg (fun q9 => hb (Or.inr q9))]
    obtain ⟨_, _, _, f, _⟩ := qI_at e (m_forgetX hg rm hb)
    rw [e9]
    exact ⟨JC_kp (frM_kC f).1 (frM_kC f).2 jc, JM_kp (frM_kM f) (qI_at e (j_forgetX hg rm hb)) jm⟩
def jtC (h h1 : zh) (T : Nat) (xn : Int32) (cur : bsT) : Prop := ((xn.toInt < 0 ∨ (T : Int) < xn.toInt) ∧ JC h1 cur) ∨ ∃ n : Nat, xn.toInt = (n : Int) ∧ n ≤ T ∧ JC h1 (tcur (wAll (tb h) n) cur)
def jtM (h h2 : zh) (T : Nat) (xn : Int32) (cur : bsT) : Prop := ((xn.toInt < 0 ∨ (T : Int) < xn.toInt) ∧ JM h2 cur) ∨ ∃ n : Nat, xn.toInt = (n : Int) ∧ n ≤ T ∧ JM h2 (tcur (wAll (tb h) n) cur)
theorem jz_textC {t T : Nat} {τ : List Nat} {h : zh} {cur cm : bsT} {hs : List bsT} (hg : hG τ h) (i : IV h T) (rc : RC h cur hs) (jc : JC h cur) (jm : JM h cm) {xn : Int32} {y : Int32} {h1 : zh} {t1 : Nat} (e : qE 60 276 [some (.inl (some 0)), some (zi xn), some (.inl (some 388)), none] h t (.inl (some (zi y)), h1, t1)) : jtC h h1 T xn cur ∧ JM h1 cm := by
  obtain ⟨i1, i2, i3, i4, ⟨x, i5, i6⟩, -, i9, -⟩ := i
  rcases (show (xn.toInt < 0 ∨ (T : Int) < xn.toInt) ∨ (0 ≤ xn.toInt ∧ xn.toInt ≤ (T : Int)) by omega) with q | ⟨q, q'⟩
  · obtain ⟨_, _, F⟩ := qX_at e (c_ltextT hg i5 i6 q)
    exact ⟨Or.inl ⟨q, JC_kp ⟨F 44 0 (by omega), fun j _ _ => F 42 j (by omega), fun j => F 51 j (by omega)⟩ (F 42 5 (by omega)) jc⟩, JM_kp ⟨fun j _ _ => F 52 j (by omega), fun j => F 387 j (by omega)⟩ (F 52 47 (by omega)) jm⟩
  · obtain ⟨n, hn⟩ : ∃ n : Nat, xn.toInt = (n : Int) := ⟨xn.toInt.toNat, by omega⟩
    obtain ⟨k1, k2, k3, k4⟩ := qI_at e (j_ltext (n := n) (b := tb h) hg rc i4 i3 i5 i6 i1 hn (by omega) (fun j hj => by
      obtain ⟨z, q1, q2⟩ := i9 j (by omega)
      exact ⟨z, q1, (tb_of q1).symm⟩))
    refine ⟨Or.inr ⟨n, hn, by omega, ?_⟩, JM_kp k2 k3 jm⟩
    rcases k4 with ⟨⟨r, q1⟩, q2⟩ | q1
    · rw [q1]
      exact JC_kp k1 q2 jc
    · exact JC_0 k1 q1 jc
theorem jz_textM {t T : Nat} {τ : List Nat} {h h1 : zh} {xn y0 : Int32} {cur : bsT} {hs : List bsT} (hg : hG τ h1) (i : IV h T) (c : txC2 h h1 T xn cur hs y0) (jm : JM h1 cur) {y : Int32} {h2 : zh} {t1 : Nat} (e : qE 60 183 [some (.inl (some 52)), some (zi xn), none] h1 t (.inl (some (zi y)), h2, t1)) : (∀ c', JC h1 c' → JC h2 c') ∧ jtM h h2 T xn cur := by
  obtain ⟨i1, i2, i3, i4, -, ⟨x, i5, i6⟩, i9, -⟩ := i
  obtain ⟨k, rm, -⟩ := c
  rcases (show (xn.toInt < 0 ∨ (T : Int) < xn.toInt) ∨ (0 ≤ xn.toInt ∧ xn.toInt ≤ (T : Int)) by omega) with q | ⟨q, q'⟩
  · obtain ⟨_, _, F⟩ := qI_at e (m_textT hg (k.2.1.trans i5) i6 q)
    exact ⟨fun c' jc => JC_kp ⟨F 44 0 (by omega), fun j _ _ => F 42 j (by omega), fun j => F 51 j (by omega)⟩ (F 42 5 (by omega)) jc, Or.inl ⟨q, JM_kp ⟨fun j _ _ => F 52 j (by omega), fun j => F 387 j (by omega)⟩ (F 52 47 (by omega)) jm⟩⟩
  · obtain ⟨n, hn⟩ : ∃ n : Nat, xn.toInt = (n : Int) := ⟨xn.toInt.toNat, by omega⟩
    obtain ⟨k1, k2, k3, k4⟩ := qI_at e (j_textM (n := n) (b := tb h) hg rm (k.2.1.trans i5) i6 i1 hn (by omega) (fun j hj => by
      obtain ⟨z, q1, q2⟩ := i9 j (by omega)
      exact ⟨z, (k.1 j).trans q2, (tb_of q1).symm⟩) (fun j hj => by
      obtain ⟨z, q1, q2⟩ := i9 j (by omega)
      obtain ⟨w, r1, r2, -⟩ := g_int (i := j) hg (tu54 hg) at54 (show j < 200 by omega) (sr1 (by omega))
      rw [(k.1 j).trans q2] at r1
      cases r1
      rw [tb_of q1]
      exact r2))
    refine ⟨fun c' jc => JC_kp k1 k2 jc, Or.inr ⟨n, hn, by omega, ?_⟩⟩
    rcases k4 with ⟨⟨r, q1⟩, q2⟩ | q1
    · rw [q1]
      exact JM_kp k3 q2 jm
    · exact JM_0 q1
def IX (h : zh) : Prop := ∃ T cur hs, IV h T ∧ RC h cur hs ∧ RM h cur hs ∧ CZ cur hs ∧ PZ cur hs ∧ JC h cur ∧ JM h cur
theorem IX_text {h h1 h2 : zh} {T : Nat} {xn yc ym : Int32} {cur : bsT} {hs : List bsT} (i : IV h T) (cz : CZ cur hs) (pz : PZ cur hs) (c : txC2 h h1 T xn cur hs yc) (m : txM2 h h1 h2 T xn cur hs ym) (jc : jtC h h1 T xn cur) (jm : (∀ c', JC h1 c' → JC h2 c') ∧ jtM h h2 T xn cur) : IX h2 ∧ (∃ x : Int32, hsl h2 52 0 = some (zi x) ∧ x.toInt = yc.toInt) ∧ (yc.toInt = 0 → ou_ h2 ym) := by
  obtain ⟨km, -, c⟩ := c
  obtain ⟨kc, k388, krc, m⟩ := m
  obtain ⟨ju, jm⟩ := jm
  rcases c with ⟨q, c, rc, ey⟩ | ⟨n, e1, e2, al1, c5, ⟨x1, z1, z2⟩, ⟨x2, z3, z4⟩, rc, ey, z, hz, ez⟩
  · rcases m with ⟨-, m, rm, x, t1, t2⟩ | ⟨n, e1, e2, -⟩
    · rcases jc with ⟨-, jc⟩ | ⟨n, e1, e2, -⟩
      · rcases jm with ⟨-, jm⟩ | ⟨n, e1, e2, -⟩
        · exact ⟨⟨T, cur, hs, IV_kp kc m (IV_kp c km i), krc _ _ rc, rm, cz, pz, ju _ jc, jm⟩, ⟨x, t1, by omega⟩, fun q9 => by omega⟩
        · omega
      · omega
    · omega
  · rcases m with ⟨q, -⟩ | ⟨n', e1', e2', ⟨y1, w1, w2⟩, ⟨y2, w3, w4⟩, ⟨x, t1, t2⟩, rm, ktx⟩
    · omega
    · have hn : n' = n := by omega
      subst hn
      have hx : x2 = y2 := Int32.toInt_inj.mp (by rw [z4, w4])
      subst hx
      obtain ⟨k1, k2, k3, k4, k5⟩ := kc
      rcases jc with ⟨q, -⟩ | ⟨n3, e3, -, jc⟩
      · omega
      · rcases jm with ⟨q, -⟩ | ⟨n4, e4, -, jm⟩
        · omega
        · obtain rfl : n3 = n' := by omega
          obtain rfl : n4 = n3 := by omega
          refine ⟨⟨0, _, _, ⟨by omega, rfl, k4 al1, k5.trans (c5.trans i.2.2.2.1), ⟨x1, k2.trans z1, z2⟩, ⟨y1, w1, w2⟩, fun j hj => absurd hj (Nat.not_lt_zero j), x2, k3.trans z3, w3⟩, krc _ _ rc, rm, CZ_text cz, PZ_text pz, ju _ jc, jm⟩, ⟨x, t1, by omega⟩, fun _ => ?_⟩
          rw [txA_eq ktx ez]
          exact k388.trans hz
def wlJ (wl : aW) : Bool := (wlN wl 44 && (wlN wl 51 && wlN wl 387)) && ((!awc wl 42 5 && (!awc wl 42 6 && (!awc wl 42 7 && (!awc wl 42 8 && (!awc wl 42 9 && (!awc wl 42 10)))))) && (!awc wl 52 41 && (!awc wl 52 42 && (!awc wl 52 43 && (!awc wl 52 44 && (!awc wl 52 45 && (!awc wl 52 47)))))))
theorem kpJ_w {τ : List Nat} {h h1 : zh} {wl : aW} (hg : hG τ h) (F : aFr τ h wl h1) (w : wlJ wl = true) : (kpJC h h1 ∧ hsl h1 42 5 = hsl h 42 5) ∧ kpJM h h1 ∧ hsl h1 52 47 = hsl h 52 47 := by
  unfold wlJ at w
  simp only [Bool.and_eq_true, Bool.not_eq_true'] at w
  obtain ⟨⟨w1, w2, w3⟩, ⟨a5, a6, a7, a8, a9, a10⟩, b1, b2, b3, b4, b5, b7⟩ := w
  refine ⟨⟨⟨F 44 44 0 (tv44 hg) (wlN_ok w1), fun j h1 h2 => ?_, fun j => F 51 51 j (tv51 hg) (wlN_ok w2)⟩, F 42 42 5 (tv42 hg) a5⟩, ⟨fun j h1 h2 => ?_, fun j => F 387 387 j (tu387 hg) (wlN_ok w3)⟩, F 52 52 47 (t52 hg) b7⟩
  · rcases (show j = 6 ∨ j = 7 ∨ j = 8 ∨ j = 9 ∨ j = 10 by omega) with e | e | e | e | e
    · subst e; exact F 42 42 6 (tv42 hg) a6
    · subst e; exact F 42 42 7 (tv42 hg) a7
    · subst e; exact F 42 42 8 (tv42 hg) a8
    · subst e; exact F 42 42 9 (tv42 hg) a9
    · subst e; exact F 42 42 10 (tv42 hg) a10
  · rcases (show j = 41 ∨ j = 42 ∨ j = 43 ∨ j = 44 ∨ j = 45 by omega) with e | e | e | e | e
    · subst e; exact F 52 52 41 (t52 hg) b1
    · subst e; exact F 52 52 42 (t52 hg) b2
    · subst e; exact F 52 52 43 (t52 hg) b3
    · subst e; exact F 52 52 44 (t52 hg) b4
    · subst e; exact F 52 52 45 (t52 hg) b5
theorem IX_w {τ : List Nat} {h h1 : zh} {wl : aW} (hg : hG τ h) (F : aFr τ h wl h1) (w : ((wlC wl && wlM wl && wlR wl) && wlJ wl) = true) (i : IX h) : IX h1 := by
  simp only [Bool.and_eq_true] at w
  obtain ⟨⟨⟨a, b⟩, c⟩, w⟩ := w
  obtain ⟨T, cur, hs, i, rc, rm, cz, pz, jc, jm⟩ := i
  obtain ⟨⟨k1, k2⟩, k3, k4⟩ := kpJ_w hg F w
  exact ⟨T, cur, hs, IV_kp (kpC_w hg F a) (kpM_w hg F b) i, RC_w hg F c rc, RM_w hg F c rm, cz, pz, JC_kp k1 k2 jc, JM_kp k3 k4 jm⟩
theorem jz_feedC {t T : Nat} {τ : List Nat} {h : zh} {xT a1 a2 a3 a4 a5 : Int32} {cur cm : bsT} (hg : hG τ h) (b1 : T ≤ 200) (b2 : T % 20 = 0) (hT : hsl h 0 1 = some (zi xT)) (eT : xT.toInt = (T : Int)) (jc : JC h cur) (jm : JM h cm) {y : Int32} {h1 : zh} {t1 : Nat} (e : qE 60 132 [some (.inl (some 0)), some (zi a1), some (zi a2), some (zi a3), some (zi a4), some (zi a5)] h t (.inl (some (zi y)), h1, t1)) : JC h1 cur ∧ JM h1 cm := by
  have key : ∃ (y : Int32) (h1 : zh) (t1 : Nat), qE 60 132 [some (.inl (some 0)), some (zi a1), some (zi a2), some (zi a3), some (zi a4), some (zi a5)] h t (.inl (some (zi y)), h1, t1) ∧ ((kpJC h h1 ∧ hsl h1 42 5 = hsl h 42 5) ∧ kpJM h h1 ∧ hsl h1 52 47 = hsl h 52 47) := by
    rcases (show T = 200 ∨ T + 20 ≤ 200 by omega) with rfl | hT2
    · obtain ⟨y, h1, t1, e1, e2, e3, e4, τ1, g1, F, x, s1, s2⟩ := use_T (t := t) (d := 60) (T := 200) 0 (-1) (-1) 0 (okC (mk := 132) (c := ac327) (List.mem_of_getElem? (i := 11) rfl)) rfl hg (show aqsM _ _ [.inl (some 0), zi a1, zi a2, zi a3, zi a4, zi a5] from ⟨aqR (t0 hg), aqI (qin_full _).1 (qin_full _).2, aqI (qin_full _).1 (qin_full _).2, aqI (qin_full _).1 (qin_full _).2, aqI (qin_full _).1 (qin_full _).2, aqI (qin_full _).1 (qin_full _).2, trivial⟩) (l0 := [some (.inl (some 0)), some (zi a1), some (zi a2), some (zi a3), some (zi a4), some (zi a5)]) rfl (by decide) (t0 hg) hT eT (by decide +kernel) (by decide)
      exact ⟨y, h1, t1, e1, kpJ_w hg F (by decide +kernel)⟩
    · obtain ⟨y, h1, e, τ1, O, x1, f⟩ := c_feed (t := t) (a1 := a1) (a2 := a2) (a3 := a3) (a4 := a4) (a5 := a5) hg hT eT hT2
      exact ⟨y, h1, t, e, ⟨⟨⟨O.2.2 44 44 0 (tv44 hg) (show (44 ≠ 0 ∨ 0 ≠ 1) ∧ (44 ≠ 1 ∨ 0 < T ∨ T + 20 ≤ 0) by omega), fun j _ _ => O.2.2 42 42 j (tv42 hg) (show (42 ≠ 0 ∨ j ≠ 1) ∧ (42 ≠ 1 ∨ j < T ∨ T + 20 ≤ j) by omega), fun j => O.2.2 51 51 j (tv51 hg) (show (51 ≠ 0 ∨ j ≠ 1) ∧ (51 ≠ 1 ∨ j < T ∨ T + 20 ≤ j) by omega)⟩, O.2.2 42 42 5 (tv42 hg) (show (42 ≠ 0 ∨ 5 ≠ 1) ∧ (42 ≠ 1 ∨ 5 < T ∨ T + 20 ≤ 5) by omega)⟩, ⟨fun j _ _ => O.2.2 52 52 j (t52 hg) (show (52 ≠ 0 ∨ j ≠ 1) ∧ (52 ≠ 1 ∨ j < T ∨ T + 20 ≤ j) by omega), fun j => O.2.2 387 387 j (tu387 hg) (show (387 ≠ 0 ∨ j ≠ 1) ∧ (387 ≠ 1 ∨ j < T ∨ T + 20 ≤ j) by omega)⟩, O.2.2 52 52 47 (t52 hg) (show (52 ≠ 0 ∨ 47 ≠ 1) ∧ (52 ≠ 1 ∨ 47 < T ∨ T + 20 ≤ 47) by omega)⟩⟩
  obtain ⟨y', h', t', e', ⟨k1, k2⟩, k3, k4⟩ := key
  have e9 := qE_det e e'
  cases e9
  exact ⟨JC_kp k1 k2 jc, JM_kp k3 k4 jm⟩
theorem jz_feedM {t T : Nat} {τ : List Nat} {h : zh} {xT a1 a2 a3 a4 a5 : Int32} {cur cm : bsT} (hg : hG τ h) (b1 : T ≤ 200) (b2 : T % 20 = 0) (hT : hsl h 52 2 = some (zi xT)) (eT : xT.toInt = (T : Int)) (jc : JC h cur) (jm : JM h cm) {y : Int32} {h1 : zh} {t1 : Nat} (e : qE 60 165 [some (.inl (some 52)), some (zi a1), some (zi a2), some (zi a3), some (zi a4), some (zi a5), none, none] h t (.inl (some (zi y)), h1, t1)) : JC h1 cur ∧ JM h1 cm := by
  have key : ∃ (y : Int32) (h1 : zh) (t1 : Nat), qE 60 165 [some (.inl (some 52)), some (zi a1), some (zi a2), some (zi a3), some (zi a4), some (zi a5), none, none] h t (.inl (some (zi y)), h1, t1) ∧ ((kpJC h h1 ∧ hsl h1 42 5 = hsl h 42 5) ∧ kpJM h h1 ∧ hsl h1 52 47 = hsl h 52 47) := by
    rcases (show T = 200 ∨ T + 20 ≤ 200 by omega) with rfl | hT2
    · obtain ⟨y, h1, t1, e1, e2, e3, e4, τ1, g1, F, x, s1, s2⟩ := use_T (t := t) (d := 60) (T := 200) 0 (-1) (-1) 0 (okC (mk := 165) (c := ac371) (List.mem_of_getElem? (i := 11) rfl)) rfl hg (show aqsM _ _ [.inl (some 52), zi a1, zi a2, zi a3, zi a4, zi a5] from ⟨aqR (t52 hg), aqI (qin_full _).1 (qin_full _).2, aqI (qin_full _).1 (qin_full _).2, aqI (qin_full _).1 (qin_full _).2, aqI (qin_full _).1 (qin_full _).2, aqI (qin_full _).1 (qin_full _).2, trivial⟩) (l0 := [some (.inl (some 52)), some (zi a1), some (zi a2), some (zi a3), some (zi a4), some (zi a5), none, none]) rfl (by decide) (t52 hg) hT eT (by decide +kernel) (by decide)
      exact ⟨y, h1, t1, e1, kpJ_w hg F (by decide +kernel)⟩
    · obtain ⟨y, h1, e, τ1, O, x1, f⟩ := m_feed (t := t) (a1 := a1) (a2 := a2) (a3 := a3) (a4 := a4) (a5 := a5) hg hT eT hT2
      exact ⟨y, h1, t, e, ⟨⟨⟨O.2.2 44 44 0 (tv44 hg) (show (44 ≠ 52 ∨ (0 ≠ 0 ∧ 0 ≠ 2)) ∧ (44 ≠ 54 ∨ 0 < T ∨ T + 20 ≤ 0) by omega), fun j _ _ => O.2.2 42 42 j (tv42 hg) (show (42 ≠ 52 ∨ (j ≠ 0 ∧ j ≠ 2)) ∧ (42 ≠ 54 ∨ j < T ∨ T + 20 ≤ j) by omega), fun j => O.2.2 51 51 j (tv51 hg) (show (51 ≠ 52 ∨ (j ≠ 0 ∧ j ≠ 2)) ∧ (51 ≠ 54 ∨ j < T ∨ T + 20 ≤ j) by omega)⟩, O.2.2 42 42 5 (tv42 hg) (show (42 ≠ 52 ∨ (5 ≠ 0 ∧ 5 ≠ 2)) ∧ (42 ≠ 54 ∨ 5 < T ∨ T + 20 ≤ 5) by omega)⟩, ⟨fun j _ _ => O.2.2 52 52 j (t52 hg) (show (52 ≠ 52 ∨ (j ≠ 0 ∧ j ≠ 2)) ∧ (52 ≠ 54 ∨ j < T ∨ T + 20 ≤ j) by omega), fun j => O.2.2 387 387 j (tu387 hg) (show (387 ≠ 52 ∨ (j ≠ 0 ∧ j ≠ 2)) ∧ (387 ≠ 54 ∨ j < T ∨ T + 20 ≤ j) by omega)⟩, O.2.2 52 52 47 (t52 hg) (show (52 ≠ 52 ∨ (47 ≠ 0 ∧ 47 ≠ 2)) ∧ (52 ≠ 54 ∨ 47 < T ∨ T + 20 ≤ 47) by omega)⟩⟩
  obtain ⟨y', h', t', e', ⟨k1, k2⟩, k3, k4⟩ := key
  have e9 := qE_det e e'
  cases e9
  exact ⟨JC_kp k1 k2 jc, JM_kp k3 k4 jm⟩
theorem PZ_undo {cur : bsT} {hs : List bsT} (c : PZ cur hs) : PZ (udc cur hs) hs.dropLast := by
  refine ⟨?_, fun b hb => c.2 b (List.dropLast_subset hs hb)⟩
  unfold udc
  cases h : hs.getLast? with
  | none => exact c.1
  | some b => exact c.2 b (List.mem_of_getLast? h)
theorem PZ_drop {cur : bsT} {hs : List bsT} {x k : Int} (c : PZ cur hs) : PZ (opC (drop_ cur x k) cur) (opH (drop_ cur x k) cur hs) := by
  unfold drop_
  split
  · exact PZ_psh c ⟨fun i hi => c.1.1 i (List.mem_of_mem_eraseIdx hi), c.1.2⟩
  · split
    · exact PZ_psh c ⟨c.1.1, fun i hi => c.1.2 i (List.mem_of_mem_eraseIdx hi)⟩
    · exact c
theorem PZ_forget {cur : bsT} {hs : List bsT} {x k : Int} (c : PZ cur hs) : PZ (opC (forget_ cur x k) cur) (opH (forget_ cur x k) cur hs) := by
  unfold forget_
  split
  · exact PZ_psh c ⟨c.1.1, c.1.2⟩
  · split
    · exact PZ_psh c ⟨c.1.1, c.1.2⟩
    · exact c
theorem lx_heapsC {t T : Nat} {τ : List Nat} {h : zh} {cur cm : bsT} {hs : List bsT} (hg : hG τ h) (i : IV h T) {xw : Int32} (rc : RC h cur hs) (rm : RM h cur hs) (jc : JC h cur) (jm : JM h cm) : ∃ (y : Int32) (h1 : zh) (t1 : Nat), qE 60 286 [some (.inl (some 0)), some (zi xw), some (.inl (some 388)), none] h t (.inl (some (zi y)), h1, t1) ∧ t1 ≤ t + 1 ∧ ∃ τ1, hG τ1 h1 ∧ IV h1 T ∧ RC h1 cur hs ∧ RM h1 cur hs ∧ y.toInt = (if 0 ≤ xw.toInt ∧ xw.toInt ≤ 1 then 0 else 1) ∧ (y.toInt = 0 → ∃ z : Int32, ou_ h1 z ∧ z.toInt = hqV cur xw.toInt) ∧ JC h1 cur ∧ JM h1 cm := by
  have ok := RM_ok hg rm
  have len := len55 hg rm.1
  rcases Decidable.em (0 ≤ xw.toInt ∧ xw.toInt ≤ 1) with hw | hw
  · rw [if_pos hw]
    rcases (show xw.toInt = 0 ∨ xw.toInt = 1 by omega) with q0 | q1
    · obtain ⟨y, h2, e, g2, ey, ⟨h1, ⟨rq, v0, F⟩, F8⟩, z, hz, ez⟩ := c_lheaps (t := t) hg (c_heaps0 (xw := xw) hg rc i.2.2.2.1 ok len jc q0)
      have f : ∀ k j, (k < 42 ∨ (51 < k ∧ k ≠ 388)) → hsl h2 k j = hsl h k j := fun k j hC => (F8 k j (by omega)).trans (F k j (by omega))
      refine ⟨y, h2, t, e, by omega, τ, g2, IV_kp ⟨fun j => f 1 j (by omega), f 0 1 (by omega), f 0 2 (by omega), fun al => ⟨(f 15 0 (by omega)).trans al.1, (f 16 0 (by omega)).trans al.2.1, (f 16 1 (by omega)).trans al.2.2.1, (f 17 0 (by omega)).trans al.2.2.2.1, (f 17 1 (by omega)).trans al.2.2.2.2.1, (f 22 0 (by omega)).trans al.2.2.2.2.2.1, (f 22 1 (by omega)).trans al.2.2.2.2.2.2.1, (f 18 0 (by omega)).trans al.2.2.2.2.2.2.2.1, (f 20 0 (by omega)).trans al.2.2.2.2.2.2.2.2.1, (f 23 0 (by omega)).trans al.2.2.2.2.2.2.2.2.2.1, (f 25 0 (by omega)).trans al.2.2.2.2.2.2.2.2.2.2⟩, f 0 5 (by omega)⟩ ⟨fun j => f 54 j (by omega), f 52 2 (by omega), f 52 5 (by omega)⟩ i, RC_up rc (fun k j hC => f k j (by omega)), RM_up rm (fun k j hC => f k j (by omega)), ey, fun _ => ⟨z, hz, ?_⟩, ⟨ci_up v0 (F8 44 0 (by omega)), fun _ => rcC_up rq (fun k j hC => F8 k j (by omega))⟩, JM_kp ⟨fun j _ _ => f 52 j (by omega), fun j => f 387 j (by omega)⟩ (f 52 47 (by omega)) jm⟩
      unfold hqV
      rw [if_pos q0]
      exact ez
    · obtain ⟨y, h2, e, g2, ey, ⟨h1, ⟨rq, v0, F⟩, F8⟩, z, hz, ez⟩ := c_lheaps (t := t) hg (c_heaps1 (xw := xw) hg rc i.2.2.2.1 ok len jc q1)
      have f : ∀ k j, (k < 42 ∨ (51 < k ∧ k ≠ 388)) → hsl h2 k j = hsl h k j := fun k j hC => (F8 k j (by omega)).trans (F k j (by omega))
      refine ⟨y, h2, t, e, by omega, τ, g2, IV_kp ⟨fun j => f 1 j (by omega), f 0 1 (by omega), f 0 2 (by omega), fun al => ⟨(f 15 0 (by omega)).trans al.1, (f 16 0 (by omega)).trans al.2.1, (f 16 1 (by omega)).trans al.2.2.1, (f 17 0 (by omega)).trans al.2.2.2.1, (f 17 1 (by omega)).trans al.2.2.2.2.1, (f 22 0 (by omega)).trans al.2.2.2.2.2.1, (f 22 1 (by omega)).trans al.2.2.2.2.2.2.1, (f 18 0 (by omega)).trans al.2.2.2.2.2.2.2.1, (f 20 0 (by omega)).trans al.2.2.2.2.2.2.2.2.1, (f 23 0 (by omega)).trans al.2.2.2.2.2.2.2.2.2.1, (f 25 0 (by omega)).trans al.2.2.2.2.2.2.2.2.2.2⟩, f 0 5 (by omega)⟩ ⟨fun j => f 54 j (by omega), f 52 2 (by omega), f 52 5 (by omega)⟩ i, RC_up rc (fun k j hC => f k j (by omega)), RM_up rm (fun k j hC => f k j (by omega)), ey, fun _ => ⟨z, hz, ?_⟩, ⟨ci_up v0 (F8 44 0 (by omega)), fun _ => rcC_up rq (fun k j hC => F8 k j (by omega))⟩, JM_kp ⟨fun j _ _ => f 52 j (by omega), fun j => f 387 j (by omega)⟩ (f 52 47 (by omega)) jm⟩
      unfold hqV
      rw [if_neg (by omega)]
      exact ez
  · rw [if_neg hw]
    obtain ⟨y, h1, e, ey, g1, F⟩ := c_lheapsX (t := t) hg hw
    have f : frC h h1 := fun k j hC => F k j (by omega)
    exact ⟨y, h1, t + 1, e, by omega, τ, g1, frC_IV f i, RC_up rc (fun k j hC => F k j (by omega)), frC_RM f rm, ey, fun q9 => by omega, JC_kp (frC_kC f) (F 42 5 (by omega)) jc, JM_kp (frC_kM f).1 (frC_kM f).2 jm⟩
theorem lx_heapsM {t T : Nat} {τ : List Nat} {h : zh} {cur : bsT} {hs : List bsT} (hg : hG τ h) (i : IV h T) {xw : Int32} {c' : bsT} {hs' : List bsT} (cz : cz1 cur) (pz : ∀ i ∈ cur.1.1, pzi i) (rc : RC h c' hs') (rm : RM h cur hs) (jc : JC h c') (jm : JM h cur) : ∃ (y : Int32) (h1 : zh) (t1 : Nat), qE 60 260 [some (.inl (some 52)), some (zi xw)] h t (.inl (some (zi y)), h1, t1) ∧ t1 ≤ t + 0 ∧ ∃ τ1, hG τ1 h1 ∧ IV h1 T ∧ RC h1 c' hs' ∧ RM h1 cur hs ∧ hsl h1 388 0 = hsl h 388 0 ∧ (∃ z : Int32, hsl h1 52 0 = some (zi z) ∧ z.toInt = (if 0 ≤ xw.toInt ∧ xw.toInt ≤ 1 then 0 else 1)) ∧ ((if 0 ≤ xw.toInt ∧ xw.toInt ≤ 1 then 0 else 1) = (0 : Int) → y.toInt = hqV cur xw.toInt) ∧ JC h1 c' ∧ JM h1 cur := by
  have ok := RM_ok hg rm
  have len := len55 hg rm.1
  rcases Decidable.em (0 ≤ xw.toInt ∧ xw.toInt ≤ 1) with hw | hw
  · rw [if_pos hw]
    rcases (show xw.toInt = 0 ∨ xw.toInt = 1 by omega) with q0 | q1
    · obtain ⟨y, h1, e, g1, ey, rq, f, z⟩ := m_heaps0 (t := t) (xw := xw) hg rm ok len pz cz jm q0
      refine ⟨y, h1, t, e, by omega, τ, g1, IV_kp ⟨fun j => f 1 j (by omega), f 0 1 (by omega), f 0 2 (by omega), fun al => ⟨(f 15 0 (by omega)).trans al.1, (f 16 0 (by omega)).trans al.2.1, (f 16 1 (by omega)).trans al.2.2.1, (f 17 0 (by omega)).trans al.2.2.2.1, (f 17 1 (by omega)).trans al.2.2.2.2.1, (f 22 0 (by omega)).trans al.2.2.2.2.2.1, (f 22 1 (by omega)).trans al.2.2.2.2.2.2.1, (f 18 0 (by omega)).trans al.2.2.2.2.2.2.2.1, (f 20 0 (by omega)).trans al.2.2.2.2.2.2.2.2.1, (f 23 0 (by omega)).trans al.2.2.2.2.2.2.2.2.2.1, (f 25 0 (by omega)).trans al.2.2.2.2.2.2.2.2.2.2⟩, f 0 5 (by omega)⟩ ⟨fun j => f 54 j (by omega), f 52 2 (by omega), f 52 5 (by omega)⟩ i, RC_up rc (fun k j hC => f k j (by omega)), RM_up rm (fun k j hC => f k j (by omega)), f 388 0 (by omega), z, fun _ => ?_, JC_kp ⟨f 44 0 (by omega), fun j _ _ => f 42 j (by omega), fun j => f 51 j (by omega)⟩ (f 42 5 (by omega)) jc, fun _ => rq⟩
      unfold hqV
      rw [if_pos q0]
      exact ey
    · obtain ⟨y, h1, e, g1, ey, rq, f, z⟩ := m_heaps1 (t := t) (xw := xw) hg rm ok len pz cz jm q1
      refine ⟨y, h1, t, e, by omega, τ, g1, IV_kp ⟨fun j => f 1 j (by omega), f 0 1 (by omega), f 0 2 (by omega), fun al => ⟨(f 15 0 (by omega)).trans al.1, (f 16 0 (by omega)).trans al.2.1, (f 16 1 (by omega)).trans al.2.2.1, (f 17 0 (by omega)).trans al.2.2.2.1, (f 17 1 (by omega)).trans al.2.2.2.2.1, (f 22 0 (by omega)).trans al.2.2.2.2.2.1, (f 22 1 (by omega)).trans al.2.2.2.2.2.2.1, (f 18 0 (by omega)).trans al.2.2.2.2.2.2.2.1, (f 20 0 (by omega)).trans al.2.2.2.2.2.2.2.2.1, (f 23 0 (by omega)).trans al.2.2.2.2.2.2.2.2.2.1, (f 25 0 (by omega)).trans al.2.2.2.2.2.2.2.2.2.2⟩, f 0 5 (by omega)⟩ ⟨fun j => f 54 j (by omega), f 52 2 (by omega), f 52 5 (by omega)⟩ i, RC_up rc (fun k j hC => f k j (by omega)), RM_up rm (fun k j hC => f k j (by omega)), f 388 0 (by omega), z, fun _ => ?_, JC_kp ⟨f 44 0 (by omega), fun j _ _ => f 42 j (by omega), fun j => f 51 j (by omega)⟩ (f 42 5 (by omega)) jc, fun _ => rq⟩
      unfold hqV
      rw [if_neg (by omega)]
      exact ey
  · rw [if_neg hw]
    obtain ⟨y, h1, e, g1, F, z⟩ := m_heapsX (t := t) (xw := xw) hg hw
    have f : frM h h1 := fun k j hC => F k j (by omega)
    exact ⟨y, h1, t, e, by omega, τ, g1, frM_IV f i, frM_RC f rc, RM_up rm (fun k j hC => F k j (by omega)), f 388 0 (by omega), z, fun q9 => absurd q9 (by decide), JC_kp (frM_kC f).1 (frM_kC f).2 jc, JM_kp (frM_kM f) (F 52 47 (by omega)) jm⟩
theorem lx_refusedC {t T : Nat} {τ : List Nat} {h : zh} {cur cm : bsT} {hs : List bsT} (hg : hG τ h) (i : IV h T) {xw : Int32} (rc : RC h cur hs) (rm : RM h cur hs) (jc : JC h cur) (jm : JM h cm) : ∃ (y : Int32) (h1 : zh) (t1 : Nat), qE 60 287 [some (.inl (some 0)), some (zi xw), some (.inl (some 388)), none] h t (.inl (some (zi y)), h1, t1) ∧ t1 ≤ t + 1 ∧ ∃ τ1, hG τ1 h1 ∧ IV h1 T ∧ RC h1 cur hs ∧ RM h1 cur hs ∧ y.toInt = (if 0 ≤ xw.toInt ∧ xw.toInt ≤ 2 then 0 else 1) ∧ (y.toInt = 0 → ∃ z : Int32, ou_ h1 z ∧ z.toInt = rqV cur xw.toInt) ∧ JC h1 cur ∧ JM h1 cm := by
  have ok := RM_ok hg rm
  have len := len55 hg rm.1
  rcases Decidable.em (0 ≤ xw.toInt ∧ xw.toInt ≤ 2) with hw | hw
  · rw [if_pos hw]
    rcases (show xw.toInt = 0 ∨ xw.toInt = 1 ∨ xw.toInt = 2 by omega) with q0 | q1 | q2
    · obtain ⟨y, h2, e, g2, ey, ⟨h1, ⟨rq, v0, F⟩, F8⟩, z, hz, ez⟩ := c_lrefused (t := t) hg (c_refused0 (xw := xw) hg rc i.2.2.2.1 ok len jc q0)
      have f : ∀ k j, (k < 42 ∨ (51 < k ∧ k ≠ 388)) → hsl h2 k j = hsl h k j := fun k j hC => (F8 k j (by omega)).trans (F k j (by omega))
      refine ⟨y, h2, t, e, by omega, τ, g2, IV_kp ⟨fun j => f 1 j (by omega), f 0 1 (by omega), f 0 2 (by omega), fun al => ⟨(f 15 0 (by omega)).trans al.1, (f 16 0 (by omega)).trans al.2.1, (f 16 1 (by omega)).trans al.2.2.1, (f 17 0 (by omega)).trans al.2.2.2.1, (f 17 1 (by omega)).trans al.2.2.2.2.1, (f 22 0 (by omega)).trans al.2.2.2.2.2.1, (f 22 1 (by omega)).trans al.2.2.2.2.2.2.1, (f 18 0 (by omega)).trans al.2.2.2.2.2.2.2.1, (f 20 0 (by omega)).trans al.2.2.2.2.2.2.2.2.1, (f 23 0 (by omega)).trans al.2.2.2.2.2.2.2.2.2.1, (f 25 0 (by omega)).trans al.2.2.2.2.2.2.2.2.2.2⟩, f 0 5 (by omega)⟩ ⟨fun j => f 54 j (by omega), f 52 2 (by omega), f 52 5 (by omega)⟩ i, RC_up rc (fun k j hC => f k j (by omega)), RM_up rm (fun k j hC => f k j (by omega)), ey, fun _ => ⟨z, hz, ?_⟩, ⟨ci_up v0 (F8 44 0 (by omega)), fun _ => rcC_up rq (fun k j hC => F8 k j (by omega))⟩, JM_kp ⟨fun j _ _ => f 52 j (by omega), fun j => f 387 j (by omega)⟩ (f 52 47 (by omega)) jm⟩
      unfold rqV
      rw [if_pos q0]
      exact ez
    · obtain ⟨y, h2, e, g2, ey, ⟨h1, ⟨rq, v0, F⟩, F8⟩, z, hz, ez⟩ := c_lrefused (t := t) hg (c_refused1 (xw := xw) hg rc i.2.2.2.1 ok len jc q1)
      have f : ∀ k j, (k < 42 ∨ (51 < k ∧ k ≠ 388)) → hsl h2 k j = hsl h k j := fun k j hC => (F8 k j (by omega)).trans (F k j (by omega))
      refine ⟨y, h2, t, e, by omega, τ, g2, IV_kp ⟨fun j => f 1 j (by omega), f 0 1 (by omega), f 0 2 (by omega), fun al => ⟨(f 15 0 (by omega)).trans al.1, (f 16 0 (by omega)).trans al.2.1, (f 16 1 (by omega)).trans al.2.2.1, (f 17 0 (by omega)).trans al.2.2.2.1, (f 17 1 (by omega)).trans al.2.2.2.2.1, (f 22 0 (by omega)).trans al.2.2.2.2.2.1, (f 22 1 (by omega)).trans al.2.2.2.2.2.2.1, (f 18 0 (by omega)).trans al.2.2.2.2.2.2.2.1, (f 20 0 (by omega)).trans al.2.2.2.2.2.2.2.2.1, (f 23 0 (by omega)).trans al.2.2.2.2.2.2.2.2.2.1, (f 25 0 (by omega)).trans al.2.2.2.2.2.2.2.2.2.2⟩, f 0 5 (by omega)⟩ ⟨fun j => f 54 j (by omega), f 52 2 (by omega), f 52 5 (by omega)⟩ i, RC_up rc (fun k j hC => f k j (by omega)), RM_up rm (fun k j hC => f k j (by omega)), ey, fun _ => ⟨z, hz, ?_⟩, ⟨ci_up v0 (F8 44 0 (by omega)), fun _ => rcC_up rq (fun k j hC => F8 k j (by omega))⟩, JM_kp ⟨fun j _ _ => f 52 j (by omega), fun j => f 387 j (by omega)⟩ (f 52 47 (by omega)) jm⟩
      unfold rqV
      rw [if_neg (by omega), if_pos q1]
      exact ez
    · obtain ⟨y, h2, e, g2, ey, ⟨h1, ⟨rq, v0, F⟩, F8⟩, z, hz, ez⟩ := c_lrefused (t := t) hg (c_refused2 (xw := xw) hg rc i.2.2.2.1 ok len jc q2)
      have f : ∀ k j, (k < 42 ∨ (51 < k ∧ k ≠ 388)) → hsl h2 k j = hsl h k j := fun k j hC => (F8 k j (by omega)).trans (F k j (by omega))
      refine ⟨y, h2, t, e, by omega, τ, g2, IV_kp ⟨fun j => f 1 j (by omega), f 0 1 (by omega), f 0 2 (by omega), fun al => ⟨(f 15 0 (by omega)).trans al.1, (f 16 0 (by omega)).trans al.2.1, (f 16 1 (by omega)).trans al.2.2.1, (f 17 0 (by omega)).trans al.2.2.2.1, (f 17 1 (by omega)).trans al.2.2.2.2.1, (f 22 0 (by omega)).trans al.2.2.2.2.2.1, (f 22 1 (by omega)).trans al.2.2.2.2.2.2.1, (f 18 0 (by omega)).trans al.2.2.2.2.2.2.2.1, (f 20 0 (by omega)).trans al.2.2.2.2.2.2.2.2.1, (f 23 0 (by omega)).trans al.2.2.2.2.2.2.2.2.2.1, (f 25 0 (by omega)).trans al.2.2.2.2.2.2.2.2.2.2⟩, f 0 5 (by omega)⟩ ⟨fun j => f 54 j (by omega), f 52 2 (by omega), f 52 5 (by omega)⟩ i, RC_up rc (fun k j hC => f k j (by omega)), RM_up rm (fun k j hC => f k j (by omega)), ey, fun _ => ⟨z, hz, ?_⟩, ⟨ci_up v0 (F8 44 0 (by omega)), fun _ => rcC_up rq (fun k j hC => F8 k j (by omega))⟩, JM_kp ⟨fun j _ _ => f 52 j (by omega), fun j => f 387 j (by omega)⟩ (f 52 47 (by omega)) jm⟩
      unfold rqV
      rw [if_neg (by omega), if_neg (by omega)]
      exact ez
  · rw [if_neg hw]
    obtain ⟨y, h1, e, ey, g1, F⟩ := c_lrefusedX (t := t) hg hw
    have f : frC h h1 := fun k j hC => F k j (by omega)
    exact ⟨y, h1, t + 1, e, by omega, τ, g1, frC_IV f i, RC_up rc (fun k j hC => F k j (by omega)), frC_RM f rm, ey, fun q9 => by omega, JC_kp (frC_kC f) (F 42 5 (by omega)) jc, JM_kp (frC_kM f).1 (frC_kM f).2 jm⟩
theorem lx_refusedM {t T : Nat} {τ : List Nat} {h : zh} {cur : bsT} {hs : List bsT} (hg : hG τ h) (i : IV h T) {xw : Int32} {c' : bsT} {hs' : List bsT} (cz : cz1 cur) (pz : ∀ i ∈ cur.1.1, pzi i) (rc : RC h c' hs') (rm : RM h cur hs) (jc : JC h c') (jm : JM h cur) : ∃ (y : Int32) (h1 : zh) (t1 : Nat), qE 60 261 [some (.inl (some 52)), some (zi xw)] h t (.inl (some (zi y)), h1, t1) ∧ t1 ≤ t + 0 ∧ ∃ τ1, hG τ1 h1 ∧ IV h1 T ∧ RC h1 c' hs' ∧ RM h1 cur hs ∧ hsl h1 388 0 = hsl h 388 0 ∧ (∃ z : Int32, hsl h1 52 0 = some (zi z) ∧ z.toInt = (if 0 ≤ xw.toInt ∧ xw.toInt ≤ 2 then 0 else 1)) ∧ ((if 0 ≤ xw.toInt ∧ xw.toInt ≤ 2 then 0 else 1) = (0 : Int) → y.toInt = rqV cur xw.toInt) ∧ JC h1 c' ∧ JM h1 cur := by
  have ok := RM_ok hg rm
  have len := len55 hg rm.1
  rcases Decidable.em (0 ≤ xw.toInt ∧ xw.toInt ≤ 2) with hw | hw
  · rw [if_pos hw]
    rcases (show xw.toInt = 0 ∨ xw.toInt = 1 ∨ xw.toInt = 2 by omega) with q0 | q1 | q2
    · obtain ⟨y, h1, e, g1, ey, rq, f, z⟩ := m_refused0 (t := t) (xw := xw) hg rm ok len pz cz jm q0
      refine ⟨y, h1, t, e, by omega, τ, g1, IV_kp ⟨fun j => f 1 j (by omega), f 0 1 (by omega), f 0 2 (by omega), fun al => ⟨(f 15 0 (by omega)).trans al.1, (f 16 0 (by omega)).trans al.2.1, (f 16 1 (by omega)).trans al.2.2.1, (f 17 0 (by omega)).trans al.2.2.2.1, (f 17 1 (by omega)).trans al.2.2.2.2.1, (f 22 0 (by omega)).trans al.2.2.2.2.2.1, (f 22 1 (by omega)).trans al.2.2.2.2.2.2.1, (f 18 0 (by omega)).trans al.2.2.2.2.2.2.2.1, (f 20 0 (by omega)).trans al.2.2.2.2.2.2.2.2.1, (f 23 0 (by omega)).trans al.2.2.2.2.2.2.2.2.2.1, (f 25 0 (by omega)).trans al.2.2.2.2.2.2.2.2.2.2⟩, f 0 5 (by omega)⟩ ⟨fun j => f 54 j (by omega), f 52 2 (by omega), f 52 5 (by omega)⟩ i, RC_up rc (fun k j hC => f k j (by omega)), RM_up rm (fun k j hC => f k j (by omega)), f 388 0 (by omega), z, fun _ => ?_, JC_kp ⟨f 44 0 (by omega), fun j _ _ => f 42 j (by omega), fun j => f 51 j (by omega)⟩ (f 42 5 (by omega)) jc, fun _ => rq⟩
      unfold rqV
      rw [if_pos q0]
      exact ey
    · obtain ⟨y, h1, e, g1, ey, rq, f, z⟩ := m_refused1 (t := t) (xw := xw) hg rm ok len pz cz jm q1
      refine ⟨y, h1, t, e, by omega, τ, g1, IV_kp ⟨fun j => f 1 j (by omega), f 0 1 (by omega), f 0 2 (by omega), fun al => ⟨(f 15 0 (by omega)).trans al.1, (f 16 0 (by omega)).trans al.2.1, (f 16 1 (by omega)).trans al.2.2.1, (f 17 0 (by omega)).trans al.2.2.2.1, (f 17 1 (by omega)).trans al.2.2.2.2.1, (f 22 0 (by omega)).trans al.2.2.2.2.2.1, (f 22 1 (by omega)).trans al.2.2.2.2.2.2.1, (f 18 0 (by omega)).trans al.2.2.2.2.2.2.2.1, (f 20 0 (by omega)).trans al.2.2.2.2.2.2.2.2.1, (f 23 0 (by omega)).trans al.2.2.2.2.2.2.2.2.2.1, (f 25 0 (by omega)).trans al.2.2.2.2.2.2.2.2.2.2⟩, f 0 5 (by omega)⟩ ⟨fun j => f 54 j (by omega), f 52 2 (by omega), f 52 5 (by omega)⟩ i, RC_up rc (fun k j hC => f k j (by omega)), RM_up rm (fun k j hC => f k j (by omega)), f 388 0 (by omega), z, fun _ => ?_, JC_kp ⟨f 44 0 (by omega), fun j _ _ => f 42 j (by omega), fun j => f 51 j (by omega)⟩ (f 42 5 (by omega)) jc, fun _ => rq⟩
      unfold rqV
      rw [if_neg (by omega), if_pos q1]
      exact ey
    · obtain ⟨y, h1, e, g1, ey, rq, f, z⟩ := m_refused2 (t := t) (xw := xw) hg rm ok len pz cz jm q2
      refine ⟨y, h1, t, e, by omega, τ, g1, IV_kp ⟨fun j => f 1 j (by omega), f 0 1 (by omega), f 0 2 (by omega), fun al => ⟨(f 15 0 (by omega)).trans al.1, (f 16 0 (by omega)).trans al.2.1, (f 16 1 (by omega)).trans al.2.2.1, (f 17 0 (by omega)).trans al.2.2.2.1, (f 17 1 (by omega)).trans al.2.2.2.2.1, (f 22 0 (by omega)).trans al.2.2.2.2.2.1, (f 22 1 (by omega)).trans al.2.2.2.2.2.2.1, (f 18 0 (by omega)).trans al.2.2.2.2.2.2.2.1, (f 20 0 (by omega)).trans al.2.2.2.2.2.2.2.2.1, (f 23 0 (by omega)).trans al.2.2.2.2.2.2.2.2.2.1, (f 25 0 (by omega)).trans al.2.2.2.2.2.2.2.2.2.2⟩, f 0 5 (by omega)⟩ ⟨fun j => f 54 j (by omega), f 52 2 (by omega), f 52 5 (by omega)⟩ i, RC_up rc (fun k j hC => f k j (by omega)), RM_up rm (fun k j hC => f k j (by omega)), f 388 0 (by omega), z, fun _ => ?_, JC_kp ⟨f 44 0 (by omega), fun j _ _ => f 42 j (by omega), fun j => f 51 j (by omega)⟩ (f 42 5 (by omega)) jc, fun _ => rq⟩
      unfold rqV
      rw [if_neg (by omega), if_neg (by omega)]
      exact ey
  · rw [if_neg hw]
    obtain ⟨y, h1, e, g1, F, z⟩ := m_refusedX (t := t) (xw := xw) hg hw
    have f : frM h h1 := fun k j hC => F k j (by omega)
    exact ⟨y, h1, t, e, by omega, τ, g1, frM_IV f i, frM_RC f rc, RM_up rm (fun k j hC => F k j (by omega)), f 388 0 (by omega), z, fun q9 => absurd q9 (by decide), JC_kp (frM_kC f).1 (frM_kC f).2 jc, JM_kp (frM_kM f) (F 52 47 (by omega)) jm⟩
theorem lx_placeC {t T : Nat} {τ : List Nat} {h : zh} {cur cm : bsT} {hs : List bsT} (hg : hG τ h) (i : IV h T) {xw : Int32} (rc : RC h cur hs) (rm : RM h cur hs) (jc : JC h cur) (jm : JM h cm) : ∃ (y : Int32) (h1 : zh) (t1 : Nat), qE 60 288 [some (.inl (some 0)), some (zi xw), some (.inl (some 388)), none] h t (.inl (some (zi y)), h1, t1) ∧ t1 ≤ t + 1 ∧ ∃ τ1, hG τ1 h1 ∧ IV h1 T ∧ RC h1 cur hs ∧ RM h1 cur hs ∧ y.toInt = (if 1 ≤ xw.toInt ∧ xw.toInt ≤ 5 then 0 else 1) ∧ (y.toInt = 0 → ∃ z : Int32, ou_ h1 z ∧ z.toInt = pqV cur xw.toInt) ∧ JC h1 cur ∧ JM h1 cm := by
  have ok := RM_ok hg rm
  have len := len55 hg rm.1
  rcases Decidable.em (1 ≤ xw.toInt ∧ xw.toInt ≤ 5) with hw | hw
  · rw [if_pos hw]
    · obtain ⟨y, h2, e, g2, ey, ⟨h1, ⟨rq, v0, F⟩, F8⟩, z, hz, ez⟩ := c_lplace (t := t) hg (c_place_ (v := xw.toInt.toNat) (xw := xw) hg rc i.2.2.2.1 ok len jc (by omega) (by omega) (by omega))
      have f : ∀ k j, (k < 42 ∨ (51 < k ∧ k ≠ 388)) → hsl h2 k j = hsl h k j := fun k j hC => (F8 k j (by omega)).trans (F k j (by omega))
      refine ⟨y, h2, t, e, by omega, τ, g2, IV_kp ⟨fun j => f 1 j (by omega), f 0 1 (by omega), f 0 2 (by omega), fun al => ⟨(f 15 0 (by omega)).trans al.1, (f 16 0 (by omega)).trans al.2.1, (f 16 1 (by omega)).trans al.2.2.1, (f 17 0 (by omega)).trans al.2.2.2.1, (f 17 1 (by omega)).trans al.2.2.2.2.1, (f 22 0 (by omega)).trans al.2.2.2.2.2.1, (f 22 1 (by omega)).trans al.2.2.2.2.2.2.1, (f 18 0 (by omega)).trans al.2.2.2.2.2.2.2.1, (f 20 0 (by omega)).trans al.2.2.2.2.2.2.2.2.1, (f 23 0 (by omega)).trans al.2.2.2.2.2.2.2.2.2.1, (f 25 0 (by omega)).trans al.2.2.2.2.2.2.2.2.2.2⟩, f 0 5 (by omega)⟩ ⟨fun j => f 54 j (by omega), f 52 2 (by omega), f 52 5 (by omega)⟩ i, RC_up rc (fun k j hC => f k j (by omega)), RM_up rm (fun k j hC => f k j (by omega)), ey, fun _ => ⟨z, hz, ?_⟩, ⟨ci_up v0 (F8 44 0 (by omega)), fun _ => rcC_up rq (fun k j hC => F8 k j (by omega))⟩, JM_kp ⟨fun j _ _ => f 52 j (by omega), fun j => f 387 j (by omega)⟩ (f 52 47 (by omega)) jm⟩
      unfold pqV
      exact ez
  · rw [if_neg hw]
    obtain ⟨y, h1, e, ey, g1, F⟩ := c_lplaceX (t := t) hg hw
    have f : frC h h1 := fun k j hC => F k j (by omega)
    exact ⟨y, h1, t + 1, e, by omega, τ, g1, frC_IV f i, RC_up rc (fun k j hC => F k j (by omega)), frC_RM f rm, ey, fun q9 => by omega, JC_kp (frC_kC f) (F 42 5 (by omega)) jc, JM_kp (frC_kM f).1 (frC_kM f).2 jm⟩
theorem lx_placeM {t T : Nat} {τ : List Nat} {h : zh} {cur : bsT} {hs : List bsT} (hg : hG τ h) (i : IV h T) {xw : Int32} {c' : bsT} {hs' : List bsT} (cz : cz1 cur) (pz : ∀ i ∈ cur.1.1, pzi i) (rc : RC h c' hs') (rm : RM h cur hs) (jc : JC h c') (jm : JM h cur) : ∃ (y : Int32) (h1 : zh) (t1 : Nat), qE 60 262 [some (.inl (some 52)), some (zi xw)] h t (.inl (some (zi y)), h1, t1) ∧ t1 ≤ t + 0 ∧ ∃ τ1, hG τ1 h1 ∧ IV h1 T ∧ RC h1 c' hs' ∧ RM h1 cur hs ∧ hsl h1 388 0 = hsl h 388 0 ∧ (∃ z : Int32, hsl h1 52 0 = some (zi z) ∧ z.toInt = (if 1 ≤ xw.toInt ∧ xw.toInt ≤ 5 then 0 else 1)) ∧ ((if 1 ≤ xw.toInt ∧ xw.toInt ≤ 5 then 0 else 1) = (0 : Int) → y.toInt = pqV cur xw.toInt) ∧ JC h1 c' ∧ JM h1 cur := by
  have ok := RM_ok hg rm
  have len := len55 hg rm.1
  rcases Decidable.em (1 ≤ xw.toInt ∧ xw.toInt ≤ 5) with hw | hw
  · rw [if_pos hw]
    · obtain ⟨y, h1, e, g1, ey, rq, f, z⟩ := m_place_ (t := t) (v := xw.toInt.toNat) (xw := xw) hg rm ok len pz cz jm (by omega) (by omega) (by omega)
      refine ⟨y, h1, t, e, by omega, τ, g1, IV_kp ⟨fun j => f 1 j (by omega), f 0 1 (by omega), f 0 2 (by omega), fun al => ⟨(f 15 0 (by omega)).trans al.1, (f 16 0 (by omega)).trans al.2.1, (f 16 1 (by omega)).trans al.2.2.1, (f 17 0 (by omega)).trans al.2.2.2.1, (f 17 1 (by omega)).trans al.2.2.2.2.1, (f 22 0 (by omega)).trans al.2.2.2.2.2.1, (f 22 1 (by omega)).trans al.2.2.2.2.2.2.1, (f 18 0 (by omega)).trans al.2.2.2.2.2.2.2.1, (f 20 0 (by omega)).trans al.2.2.2.2.2.2.2.2.1, (f 23 0 (by omega)).trans al.2.2.2.2.2.2.2.2.2.1, (f 25 0 (by omega)).trans al.2.2.2.2.2.2.2.2.2.2⟩, f 0 5 (by omega)⟩ ⟨fun j => f 54 j (by omega), f 52 2 (by omega), f 52 5 (by omega)⟩ i, RC_up rc (fun k j hC => f k j (by omega)), RM_up rm (fun k j hC => f k j (by omega)), f 388 0 (by omega), z, fun _ => ?_, JC_kp ⟨f 44 0 (by omega), fun j _ _ => f 42 j (by omega), fun j => f 51 j (by omega)⟩ (f 42 5 (by omega)) jc, fun _ => rq⟩
      unfold pqV
      exact ey
  · rw [if_neg hw]
    obtain ⟨y, h1, e, g1, F, z⟩ := m_placeX (t := t) (xw := xw) hg hw
    have f : frM h h1 := fun k j hC => F k j (by omega)
    exact ⟨y, h1, t, e, by omega, τ, g1, frM_IV f i, frM_RC f rc, RM_up rm (fun k j hC => F k j (by omega)), f 388 0 (by omega), z, fun q9 => absurd q9 (by decide), JC_kp (frM_kC f).1 (frM_kC f).2 jc, JM_kp (frM_kM f) (F 52 47 (by omega)) jm⟩
theorem use_L6 {τ : List Nat} {h : zh} {mj dd nL rk n t d : Nat} {hs : List (Nat × Nat × Nat × Nat)} {qs : List aq} {wl : aW} {outs : List aE} {vs : List zv} {l0 : List (Option zv)} (b : Nat) (hC : cOK aJ mj (qs, [], dd, wl, outs)) (hm : zmeth mj = some (nL, rk, n, hs)) (hg : hG τ h) (hq : aqsM τ qs vs) (hz : zent vs nL = some l0) (ho : outs.all (outL b) = true) (hd : dd ≤ d) (hw : ((wlC wl && wlM wl && wlR wl) && wlJ wl) = true) : ∃ (y : Int32) (h1 : zh) (t1 : Nat), qE d mj l0 h t (.inl (some (zi y)), h1, t1) ∧ t1 ≤ t + b ∧ ∃ τ1, hG τ1 h1 ∧ (IX h → IX h1) := by
  obtain ⟨o, h', t', τ', e, he, hE, hu, hh', hJ', hF, ht, hc⟩ := hC τ h t nL rk n hs vs l0 [] hm hg.1 hg.2 hq trivial hz
  have h1 := List.all_eq_true.mp ho e he
  unfold outL at h1
  split at h1
  · rcases o with (_ | v) | z
    · exact hc.1.elim
    · obtain ⟨x, rfl, l1, l2⟩ := hc.1
      have h1 := Nat.le_of_ble_eq_true h1
      simp only at ht
      exact ⟨x, h', t', qE_le hd hE, by omega, τ', ⟨hh', hJ'⟩, IX_w hg hF hw⟩
    · exact hc.1.elim
  · cases h1
theorem use_J6 {τ : List Nat} {h : zh} {mj dd nL rk n t d : Nat} {hs : List (Nat × Nat × Nat × Nat)} {qs : List aq} {wl : aW} {outs : List aE} {vs : List zv} {l0 : List (Option zv)} (hC : cOK aJ mj (qs, [], dd, wl, outs)) (hm : zmeth mj = some (nL, rk, n, hs)) (hg : hG τ h) (hq : aqsM τ qs vs) (hz : zent vs nL = some l0) (ho : outs.all outJ = true) (hd : dd ≤ d) (hw : ((wlC wl && wlM wl && wlR wl) && wlJ wl) = true) : ∃ (w : Int64) (h1 : zh) (t1 : Nat), qE d mj l0 h t (.inl (some (.inr (.inr (.inl w)))), h1, t1) ∧ t1 = t ∧ ∃ τ1, hG τ1 h1 ∧ (IX h → IX h1) := by
  obtain ⟨o, h', t', τ', e, he, hE, hu, hh', hJ', hF, ht, hc⟩ := hC τ h t nL rk n hs vs l0 [] hm hg.1 hg.2 hq trivial hz
  have h1 := List.all_eq_true.mp ho e he
  unfold outJ at h1
  split at h1
  · rcases o with (_ | v) | z
    · exact hc.1.elim
    · obtain ⟨w, rfl⟩ : ∃ w : Int64, v = .inr (.inr (.inl w)) := by
        rcases hc.1 with ⟨h9, -⟩ | ⟨h9, -⟩ | ⟨-, h9⟩ | ⟨h9, -⟩ | ⟨h9, -⟩
        · cases h9
        · cases h9
        · exact h9
        · omega
        · omega
      exact ⟨w, h', t', qE_le hd hE, ht, τ', ⟨hh', hJ'⟩, IX_w hg hF hw⟩
    · exact hc.1.elim
  · cases h1
