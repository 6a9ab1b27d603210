/-! the class's text, told in full -/
def relC (T : Nat) : Prop := T = 13 ∨ T = 14 ∨ (1000 ≤ T ∧ T ≤ 1003) ∨ T = 1005 ∨ T = 1006
theorem tyR {τ : List Nat} {a k T : Nat} (ha : τ[a]? = some 1000) (t1 : tyS τ (a + 1) ∧ tyS τ (a + 6)) (h1 : a ≤ k) (h2 : k < a + 11) : ∃ T, τ[k]? = some T ∧ relC T := by
  obtain ⟨⟨c1, c2, c3, c4, c5⟩, d1, d2, d3, d4, d5⟩ := t1
  have hc : k = a ∨ k = a + 1 ∨ k = a + 1 + 1 ∨ k = a + 1 + 2 ∨ k = a + 1 + 3 ∨ k = a + 1 + 4 ∨ k = a + 6 ∨ k = a + 6 + 1 ∨ k = a + 6 + 2 ∨ k = a + 6 + 3 ∨ k = a + 6 + 4 := by omega
  unfold relC
  rcases hc with e | e | e | e | e | e | e | e | e | e | e
  · exact ⟨_, by rw [e]; exact ha, by omega⟩
  · exact ⟨_, by rw [e]; exact c1, by omega⟩
  · exact ⟨_, by rw [e]; exact c2, by omega⟩
  · exact ⟨_, by rw [e]; exact c3, by omega⟩
  · exact ⟨_, by rw [e]; exact c4, by omega⟩
  · exact ⟨_, by rw [e]; exact c5, by omega⟩
  · exact ⟨_, by rw [e]; exact d1, by omega⟩
  · exact ⟨_, by rw [e]; exact d2, by omega⟩
  · exact ⟨_, by rw [e]; exact d3, by omega⟩
  · exact ⟨_, by rw [e]; exact d4, by omega⟩
  · exact ⟨_, by rw [e]; exact d5, by omega⟩
theorem RC_upT {τ : List Nat} {h h1 : zh} {cur : bsT} {hs : List bsT} (hg : hG τ h) (rc : RC h cur hs) (F : ∀ k T j, τ[k]? = some T → relC T → ((1 < k ∧ k < 15) ∨ 388 < k) → hsl h1 k j = hsl h k j) : RC h1 cur hs := by
  obtain ⟨p1, ⟨u, v, hu, l2, b2⟩, hl, s, n, hs9, en9, c1, c2, hh⟩ := rc
  have f13 : ∀ j, hsl h1 13 j = hsl h 13 j := fun j => F 13 13 j (tv13 hg) (Or.inl rfl) (by omega)
  have f14 : ∀ j, hsl h1 14 j = hsl h 14 j := fun j => F 14 14 j (tv14 hg) (Or.inr (Or.inl rfl)) (by omega)
  have t2 := tyB_of hg hu (tv2 hg) b2.1 b2.2.1 l2
  have f2 : ∀ k j, 2 ≤ k → k < 2 + 11 → hsl h1 k j = hsl h k j := by
    intro k j h1 h2
    obtain ⟨T, e1, e2⟩ := tyR (T := 0) (tv2 hg) t2 h1 h2
    exact F k T j e1 e2 (by omega)
  have tyA : ∀ k a, k < 10 → rfs h 14 k a → pO1 h a → ∀ i j, a ≤ i → i < a + 11 → hsl h1 i j = hsl h i j := by
    intro k a hk r o i j h1 h2
    obtain ⟨v, e, e2⟩ := g_slot14 hg hk
    have := r.symm.trans e
    cases this
    rcases e2 with e2 | ⟨b, e2, e3⟩
    · cases e2
    · cases e2
      obtain ⟨T, e4, e5⟩ := tyR (T := 0) e3 (tyB_of hg (Or.inl ⟨rfl, rfl⟩) e3 o.2.2.1 o.2.2.2 o.2.1) h1 h2
      have o9 := o.1
      exact F i T j e4 e5 (by omega)
  refine ⟨⟨fun k hk => ?_, fun k k' a hk hk' r r' => p1.2 k k' a hk hk' ((f14 k).symm.trans r) ((f14 k').symm.trans r')⟩, ⟨u, v, hu, layC_up l2 (fun k j h1 h2 => f2 k j (by omega) (by omega)), bsC_up hu b2 (fun k j h1 h2 => f2 k j (by omega) (by omega))⟩, hl, s, n, hs9, en9, ci_up c1 (f13 _), ci_up c2 (f13 _), fun j b hj => ?_⟩
  · rcases p1.1 k hk with e | ⟨a, r, o⟩
    · exact Or.inl ((f14 k).trans e)
    · exact Or.inr ⟨a, rfs_up r (f14 k), pO1_up o (fun i j h1 h2 => tyA k a hk r o i j h1 h2)⟩
  · obtain ⟨a, r, hb⟩ := hh j b hj
    rcases p1.1 ((s + j) % 10) (by omega) with e | ⟨a', r', o⟩
    · have := r.symm.trans e
      cases this
    · have e := rfs_eq r r'
      subst e
      exact ⟨a, rfs_up r (f14 _), bsC_up (Or.inl ⟨rfl, rfl⟩) hb (fun i j h1 h2 => tyA _ a (by omega) r o i j h1 h2)⟩
theorem atau_md : ∀ k, 51 < k → k < 68 → ∃ T, atau[k]? = some T := fun k _ h2 => ⟨_, List.getElem?_eq_getElem (show k < atau.length from Nat.lt_of_lt_of_le h2 (by decide +kernel))⟩
theorem RM_upT {τ : List Nat} {h h1 : zh} {cur : bsT} {hs : List bsT} (hg : hG τ h) (rm : RM h cur hs) (F : ∀ k T j, τ[k]? = some T → (k = 55 ∨ (56 < k ∧ k < 68) ∨ (k = 52 ∧ j = 12)) → hsl h1 k j = hsl h k j) : RM h1 cur hs := RM_up rm (fun k j hC => by
  obtain ⟨T, e⟩ := atau_md k (by omega) (by omega)
  exact F k T j (hg.1.2.2.1 _ _ e) hC)
abbrev prT : Type := (Int × Nat) ⊕ bsT
def tcur (w : prT) (cur : bsT) : bsT := match w with
  | .inl _ => cur
  | .inr b => b
def ths (w : prT) (cur : bsT) (hs : List bsT) : List bsT := match w with
  | .inl _ => hs
  | .inr _ => psh hs cur
def txA (w : prT) (y : Int32) : Prop := match w with
  | .inl r => y = Int32.ofInt r.1 - 10
  | .inr b => y.toInt = ((b.1.1.length + b.2.1.length : Nat) : Int)
theorem txA_eq {w : prT} {x y : Int32} (a : txA w x) (b : txA w y) : x = y := by
  unfold txA at a b
  split at a
  · rw [a, b]
  · exact Int32.toInt_inj.mp (by omega)
theorem i32_of {x : Int32} {r : Int} (e : x.toInt = r) : x = Int32.ofInt r := by
  rw [← e, Int32.ofInt_toInt]
theorem c_text2 {t n T : Nat} {b : Nat → Int} {τ : List Nat} {h : zh} {xn xT : Int32} {cur : bsT} {hs : List bsT} (hg : hG τ h) (rc : RC h cur hs) (r5 : hsl h 0 5 = some (.inl (some 2))) (al : alC h) (hT : hsl h 0 1 = some (zi xT)) (eT : xT.toInt = (T : Int)) (hT2 : T ≤ 200) (en : xn.toInt = (n : Int)) (hn : n ≤ T) (hb : ∀ j, j < n → ∃ x : Int32, hsl h 1 j = some (zi x) ∧ x.toInt = b j) : qI 30 133 [some (.inl (some 0)), some (zi xn), none] h t (fun y h1 => ∃ τ1, hG τ1 h1 ∧ kpM h h1 ∧ (∀ j, hsl h1 1 j = hsl h 1 j) ∧ alC h1 ∧ hsl h1 0 5 = hsl h 0 5 ∧ (∃ x : Int32, hsl h1 0 1 = some (zi x) ∧ x.toInt = 0) ∧ (∃ x : Int32, hsl h1 0 2 = some (zi x) ∧ x.toInt = flV (wAll b n)) ∧ (∀ cur hs, RM h cur hs → RM h1 cur hs) ∧ RC h1 (tcur (wAll b n) cur) (ths (wAll b n) cur hs) ∧ txA (wAll b n) y) := by
  refine qI_of ?_
  refine y_same (i := .aload_n 0) (len := 1) (r := (0, 0, 0, 0)) (pc' := 1) (ls' := [some (.inl (some 0)), some (zi xn), none]) (st' := [.inl (some 0)]) (by decide +kernel) (fun k q => by cases q) rfl ?_
  refine y_same (i := .iload_n 1) (len := 1) (r := (0, 0, 0, 0)) (pc' := 2) (ls' := [some (.inl (some 0)), some (zi xn), none]) (st' := [zi xn, .inl (some 0)]) (by decide +kernel) (fun k q => by cases q) rfl ?_
  refine y_iF (c := .lt) (off := 15) (len := 3) (r := (0, 0, 0, 0)) (by decide +kernel) (acmpF (c := .lt) (by show _ ≤ _; omega)) ?_
  refine y_same (i := .iload_n 1) (len := 1) (r := (0, 0, 0, 0)) (pc' := 6) (ls' := [some (.inl (some 0)), some (zi xn), none]) (st' := [zi xn, .inl (some 0)]) (by decide +kernel) (fun k q => by cases q) rfl ?_
  refine y_same (i := .aload_n 0) (len := 1) (r := (0, 0, 0, 0)) (pc' := 7) (ls' := [some (.inl (some 0)), some (zi xn), none]) (st' := [.inl (some 0), zi xn, .inl (some 0)]) (by decide +kernel) (fun k q => by cases q) rfl ?_
  refine y_get (j := 13) (len := 3) (r := (11, 1, 0, 400)) (by decide +kernel) hg (tv0 hg) aw0 rfl rfl hT ?_
  refine y_cF (c := .gt) (off := 7) (len := 3) (r := (0, 0, 0, 0)) (by decide +kernel) (acmpF (c := .gt) (by show _ ≤ _; omega)) ?_
  refine y_ic (c := 1) (len := 1) (r := (0, 0, 0, 0)) (by decide +kernel) (by decide) (fun y1913 hy1913 => ?_)
  refine y_goto (off := 4) (pc' := 18) (len := 3) (r := (0, 0, 0, 0)) (by decide +kernel) (by decide +kernel) ?_
  refine y_cV (i := .invokevirtual 70) (len := 3) (r := (0, 153, 11, 852)) (nL := 2) (k := 0) (n := 2) (hs := []) (args := [.inl (some 0), zi y1913]) (rest := []) (l0 := [some (.inl (some 0)), some (zi y1913)]) (by decide +kernel) (Or.inr (Or.inl ⟨_, rfl⟩)) rfl rfl rfl rfl (Nat.le_of_ble_eq_true rfl) (zO hg (tv0 hg) aw0 rfl) rfl (qV_le (by decide) (c_fit (d := 0) (by omega))) (fun q1914 hR1914 => ?_)
  obtain rfl := hR1914
  refine y_same (i := .aload_n 0) (len := 1) (r := (0, 0, 0, 0)) (pc' := 22) (ls' := [some (.inl (some 0)), some (zi xn), none]) (st' := [.inl (some 0)]) (by decide +kernel) (fun k q => by cases q) rfl ?_
  refine y_ic (c := 0) (len := 1) (r := (0, 0, 0, 0)) (by decide +kernel) (by decide) (fun y1915 hy1915 => ?_)
  refine y_put (j := 13) (lo := 0) (hi := 200) (len := 3) (r := (11, 1, 0, 400)) (by decide +kernel) hg (tv0 hg) aw0 rfl rfl (by decide) rfl (by omega) (by omega) rfl (fun h1916 hg1916 hl1916 hs1916 ho1916 => ?_)
  have ho1916 : hO 0 1 h h1916 := ho1916
  have hs1916 : hsl h1916 0 1 = some (zi y1915) := hs1916
  refine y_same (i := .aload_n 0) (len := 1) (r := (0, 0, 0, 0)) (pc' := 27) (ls' := [some (.inl (some 0)), some (zi xn), none]) (st' := [.inl (some 0)]) (by decide +kernel) (fun k q => by cases q) rfl ?_
  refine y_get (j := 43) (len := 3) (r := (11, 7, 2, 406)) (by decide +kernel) hg1916 (tv0 hg1916) aw0 rfl rfl (g_rU (f := 7) (T2 := 15) hg1916 (tv0 hg1916) aw0 rfl (by decide)) ?_
  refine y_same (i := .aload_n 0) (len := 1) (r := (0, 0, 0, 0)) (pc' := 31) (ls' := [some (.inl (some 0)), some (zi xn), none]) (st' := [.inl (some 0), .inl (some 15)]) (by decide +kernel) (fun k q => by cases q) rfl ?_
  refine y_get (j := 9) (len := 3) (r := (11, 0, 2, 399)) (by decide +kernel) hg1916 (tv0 hg1916) aw0 rfl rfl (g_rU (f := 0) (T2 := 1) hg1916 (tv0 hg1916) aw0 rfl (by decide)) ?_
  refine y_same (i := .iload_n 1) (len := 1) (r := (0, 0, 0, 0)) (pc' := 35) (ls' := [some (.inl (some 0)), some (zi xn), none]) (st' := [zi xn, .inl (some 1), .inl (some 15)]) (by decide +kernel) (fun k q => by cases q) rfl ?_
  have al1917 : alC h1916 := ⟨(ho1916 15 0 (Or.inl (by omega))).trans al.1, (ho1916 16 0 (Or.inl (by omega))).trans al.2.1, (ho1916 16 1 (Or.inl (by omega))).trans al.2.2.1, (ho1916 17 0 (Or.inl (by omega))).trans al.2.2.2.1, (ho1916 17 1 (Or.inl (by omega))).trans al.2.2.2.2.1, (ho1916 22 0 (Or.inl (by omega))).trans al.2.2.2.2.2.1, (ho1916 22 1 (Or.inl (by omega))).trans al.2.2.2.2.2.2.1, (ho1916 18 0 (Or.inl (by omega))).trans al.2.2.2.2.2.2.2.1, (ho1916 20 0 (Or.inl (by omega))).trans al.2.2.2.2.2.2.2.2.1, (ho1916 23 0 (Or.inl (by omega))).trans al.2.2.2.2.2.2.2.2.2.1, (ho1916 25 0 (Or.inl (by omega))).trans al.2.2.2.2.2.2.2.2.2.2⟩
  have hb1917 : ∀ j, j < n → ∃ x : Int32, hsl h1916 1 j = some (zi x) ∧ x.toInt = b j := by
    intro j hj
    obtain ⟨x, e1, e2⟩ := hb j hj
    exact ⟨x, (ho1916 1 j (Or.inl (by omega))).trans e1, e2⟩
  have rc01917 : RC h1916 cur hs := (RC_up rc (fun k j h1 => (ho1916 k j (by omega))))
  refine y_cI (i := .invokevirtual 73) (len := 3) (r := (0, 46, 5, 923)) (nL := 3) (k := 2) (n := 3) (hs := []) (args := [.inl (some 15), .inl (some 1), zi xn]) (rest := []) (l0 := [some (.inl (some 15)), some (.inl (some 1)), some (zi xn)]) (by decide +kernel) (Or.inr (Or.inl ⟨_, rfl⟩)) rfl rfl rfl rfl (Nat.le_of_ble_eq_true rfl) (zO hg1916 (tv15 hg1916) aw15 rfl) rfl (qI_le (by decide) (e_read hg1916 al1917 en (by omega) hb1917)) (fun y1917 h1917 hRy1917 => ?_)
  obtain ⟨τ1917, O1917, hD1917⟩ := hRy1917
  have rc1917 : RC h1917 cur hs := RC_upT hg1916 rc01917 (fun k T j hk _ hC => O1917.2.2 k T j hk (show (k ≠ 15 ∨ j < 2) ∧ k ≠ 27 ∧ k ≠ 19 ∧ k ≠ 21 ∧ k ≠ 24 ∧ k ≠ 26 ∧ ((k ≠ 18 ∧ k ≠ 20 ∧ k ≠ 23 ∧ k ≠ 25) ∨ j ≠ 1) by omega))
  rcases hD1917 with ⟨lp1917, lc1917, rp1917, rr1917, e1917, hy1917, ⟨xw1917, hw1917, ew1917⟩, w11917, w21917, w31917, w41917⟩ | ⟨r1917, q1917, e1917, hy1917, ⟨xr1917, hr1917, er1917⟩, ⟨xw1917, hw1917, ew1917⟩⟩
  ·
    refine y_same (i := .istore_n 2) (len := 1) (r := (0, 0, 0, 0)) (pc' := 39) (ls' := [some (.inl (some 0)), some (zi xn), some (zi y1917)]) (st' := []) (by decide +kernel) (fun k q => by cases q) rfl ?_
    refine y_same (i := .aload_n 0) (len := 1) (r := (0, 0, 0, 0)) (pc' := 40) (ls' := [some (.inl (some 0)), some (zi xn), some (zi y1917)]) (st' := [.inl (some 0)]) (by decide +kernel) (fun k q => by cases q) rfl ?_
    refine y_same (i := .aload_n 0) (len := 1) (r := (0, 0, 0, 0)) (pc' := 41) (ls' := [some (.inl (some 0)), some (zi xn), some (zi y1917)]) (st' := [.inl (some 0), .inl (some 0)]) (by decide +kernel) (fun k q => by cases q) rfl ?_
    refine y_get (j := 43) (len := 3) (r := (11, 7, 2, 406)) (by decide +kernel) O1917.2.1 (tv0 O1917.2.1) aw0 rfl rfl (g_rU (f := 7) (T2 := 15) O1917.2.1 (tv0 O1917.2.1) aw0 rfl (by decide)) ?_
    refine y_get (j := 77) (len := 3) (r := (5, 5, 0, 20247)) (by decide +kernel) O1917.2.1 (tv15 O1917.2.1) aw15 rfl rfl hw1917 ?_
    refine y_put (j := 17) (lo := (-2147483648)) (hi := 2147483647) (len := 3) (r := (11, 2, 0, 401)) (by decide +kernel) O1917.2.1 (tv0 O1917.2.1) aw0 rfl rfl (by decide) rfl (qin_full _).1 (qin_full _).2 rfl (fun h1918 hg1918 hl1918 hs1918 ho1918 => ?_)
    have ho1918 : hO 0 2 h1917 h1918 := ho1918
    have hs1918 : hsl h1918 0 2 = some (zi xw1917) := hs1918
    refine y_same (i := .iload_n 2) (len := 1) (r := (0, 0, 0, 0)) (pc' := 51) (ls' := [some (.inl (some 0)), some (zi xn), some (zi y1917)]) (st' := [zi y1917]) (by decide +kernel) (fun k q => by cases q) rfl ?_
    refine y_iT (c := .ne) (off := 14) (pc' := 65) (len := 3) (r := (0, 0, 0, 0)) (by decide +kernel) (acmpT (c := .ne) (by show ¬ (_ = _); omega)) (by decide +kernel) ?_
    refine y_same (i := .aload_n 0) (len := 1) (r := (0, 0, 0, 0)) (pc' := 66) (ls' := [some (.inl (some 0)), some (zi xn), some (zi y1917)]) (st' := [.inl (some 0)]) (by decide +kernel) (fun k q => by cases q) rfl ?_
    refine y_get (j := 36) (len := 3) (r := (11, 6, 2, 405)) (by decide +kernel) hg1918 (tv0 hg1918) aw0 rfl rfl (g_rU (f := 6) (T2 := 13) hg1918 (tv0 hg1918) aw0 rfl (by decide)) ?_
    refine y_same (i := .aload_n 0) (len := 1) (r := (0, 0, 0, 0)) (pc' := 70) (ls' := [some (.inl (some 0)), some (zi xn), some (zi y1917)]) (st' := [.inl (some 0), .inl (some 13)]) (by decide +kernel) (fun k q => by cases q) rfl ?_
    have hv1919 := (ho1916 0 5 (Or.inr (by omega))).trans r5
    have hv1920 := (O1917.2.2 0 0 5 (tv0 hg1916) (show (0 ≠ 15 ∨ 5 < 2) ∧ 0 ≠ 27 ∧ 0 ≠ 19 ∧ 0 ≠ 21 ∧ 0 ≠ 24 ∧ 0 ≠ 26 ∧ ((0 ≠ 18 ∧ 0 ≠ 20 ∧ 0 ≠ 23 ∧ 0 ≠ 25) ∨ 5 ≠ 1) by omega)).trans hv1919
    have hv1921 := (ho1918 0 5 (Or.inr (by omega))).trans hv1920
    refine y_get (j := 29) (len := 3) (r := (11, 5, 2, 404)) (by decide +kernel) hg1918 (tv0 hg1918) aw0 rfl rfl hv1921 ?_
    refine y_cV (i := .invokevirtual 83) (len := 3) (r := (0, 24, 2, 449)) (nL := 2) (k := 0) (n := 2) (hs := []) (args := [.inl (some 13), .inl (some 2)]) (rest := []) (l0 := [some (.inl (some 13)), some (.inl (some 2))]) (by decide +kernel) (Or.inr (Or.inl ⟨_, rfl⟩)) rfl rfl rfl rfl (Nat.le_of_ble_eq_true rfl) (zO hg1918 (tv13 hg1918) aw13 rfl) rfl (qV_le (by decide) (e_keep hg1918 (RC_up rc1917 (fun k j h1 => (ho1918 k j (by omega)))))) (fun h1922 hR1922 => ?_)
    obtain ⟨τ1922, au1922, hg1922, rc1922, F1922⟩ := hR1922
    obtain ⟨-, ⟨u1922, v1922, hu1922, l21922, b21922⟩, -⟩ := id rc1922
    have uu1922 : (u1922 = 1 ∧ v1922 = 6) ∨ (u1922 = 6 ∧ v1922 = 1) := hu1922
    have ty1922 := ty_u (tyB_of hg1922 hu1922 (tv2 hg1922) b21922.1 b21922.2.1 l21922) hu1922
    have la1922 := lay_u l21922 hu1922
    obtain ⟨⟨⟨xp01922, hp01922, ep01922⟩, ip01922⟩, ⟨xc01922, hc01922, ec01922⟩, ic01922⟩ := b21922.2.2.1
    obtain ⟨⟨⟨xp11922, hp11922, ep11922⟩, ip11922⟩, ⟨xc11922, hc11922, ec11922⟩, ic11922⟩ := b21922.2.2.2
    refine y_same (i := .aload_n 0) (len := 1) (r := (0, 0, 0, 0)) (pc' := 77) (ls' := [some (.inl (some 0)), some (zi xn), some (zi y1917)]) (st' := [.inl (some 0)]) (by decide +kernel) (fun k q => by cases q) rfl ?_
    have hv1923 := (F1922 0 5 (by omega)).trans hv1921
    refine y_get (j := 29) (len := 3) (r := (11, 5, 2, 404)) (by decide +kernel) hg1922 (tv0 hg1922) aw0 rfl rfl hv1923 ?_
    refine y_same (i := .aload_n 0) (len := 1) (r := (0, 0, 0, 0)) (pc' := 81) (ls' := [some (.inl (some 0)), some (zi xn), some (zi y1917)]) (st' := [.inl (some 0), .inl (some 2)]) (by decide +kernel) (fun k q => by cases q) rfl ?_
    refine y_get (j := 43) (len := 3) (r := (11, 7, 2, 406)) (by decide +kernel) hg1922 (tv0 hg1922) aw0 rfl rfl (g_rU (f := 7) (T2 := 15) hg1922 (tv0 hg1922) aw0 rfl (by decide)) ?_
    have hv1924 := (ho1916 15 0 (Or.inl (by omega))).trans al.1
    have hv1925 := (O1917.2.2 15 15 0 (tv15 hg1916) (show (15 ≠ 15 ∨ 0 < 2) ∧ 15 ≠ 27 ∧ 15 ≠ 19 ∧ 15 ≠ 21 ∧ 15 ≠ 24 ∧ 15 ≠ 26 ∧ ((15 ≠ 18 ∧ 15 ≠ 20 ∧ 15 ≠ 23 ∧ 15 ≠ 25) ∨ 0 ≠ 1) by omega)).trans hv1924
    have hv1926 := (ho1918 15 0 (Or.inl (by omega))).trans hv1925
    have hv1927 := (F1922 15 0 (by omega)).trans hv1926
    refine y_get (j := 87) (len := 3) (r := (5, 0, 2, 20240)) (by decide +kernel) hg1922 (tv15 hg1922) aw15 rfl rfl hv1927 ?_
    have lB1928 : layC h1922 16 := ⟨⟨((F1922 17 0 (by omega)).trans ((ho1918 17 0 (Or.inl (by omega))).trans ((O1917.2.2 17 1001 0 (tv17 hg1916) (show (17 ≠ 15 ∨ 0 < 2) ∧ 17 ≠ 27 ∧ 17 ≠ 19 ∧ 17 ≠ 21 ∧ 17 ≠ 24 ∧ 17 ≠ 26 ∧ ((17 ≠ 18 ∧ 17 ≠ 20 ∧ 17 ≠ 23 ∧ 17 ≠ 25) ∨ 0 ≠ 1) by omega)).trans (ho1916 17 0 (Or.inl (by omega)))))).trans al.2.2.2.1, ((F1922 17 1 (by omega)).trans ((ho1918 17 1 (Or.inl (by omega))).trans ((O1917.2.2 17 1001 1 (tv17 hg1916) (show (17 ≠ 15 ∨ 1 < 2) ∧ 17 ≠ 27 ∧ 17 ≠ 19 ∧ 17 ≠ 21 ∧ 17 ≠ 24 ∧ 17 ≠ 26 ∧ ((17 ≠ 18 ∧ 17 ≠ 20 ∧ 17 ≠ 23 ∧ 17 ≠ 25) ∨ 1 ≠ 1) by omega)).trans (ho1916 17 1 (Or.inl (by omega)))))).trans al.2.2.2.2.1, ((F1922 18 0 (by omega)).trans ((ho1918 18 0 (Or.inl (by omega))).trans ((O1917.2.2 18 1002 0 (tv18 hg1916) (show (18 ≠ 15 ∨ 0 < 2) ∧ 18 ≠ 27 ∧ 18 ≠ 19 ∧ 18 ≠ 21 ∧ 18 ≠ 24 ∧ 18 ≠ 26 ∧ ((18 ≠ 18 ∧ 18 ≠ 20 ∧ 18 ≠ 23 ∧ 18 ≠ 25) ∨ 0 ≠ 1) by omega)).trans (ho1916 18 0 (Or.inl (by omega)))))).trans al.2.2.2.2.2.2.2.1, ((F1922 20 0 (by omega)).trans ((ho1918 20 0 (Or.inl (by omega))).trans ((O1917.2.2 20 1003 0 (tv20 hg1916) (show (20 ≠ 15 ∨ 0 < 2) ∧ 20 ≠ 27 ∧ 20 ≠ 19 ∧ 20 ≠ 21 ∧ 20 ≠ 24 ∧ 20 ≠ 26 ∧ ((20 ≠ 18 ∧ 20 ≠ 20 ∧ 20 ≠ 23 ∧ 20 ≠ 25) ∨ 0 ≠ 1) by omega)).trans (ho1916 20 0 (Or.inl (by omega)))))).trans al.2.2.2.2.2.2.2.2.1⟩, ((F1922 22 0 (by omega)).trans ((ho1918 22 0 (Or.inl (by omega))).trans ((O1917.2.2 22 1001 0 (tv22 hg1916) (show (22 ≠ 15 ∨ 0 < 2) ∧ 22 ≠ 27 ∧ 22 ≠ 19 ∧ 22 ≠ 21 ∧ 22 ≠ 24 ∧ 22 ≠ 26 ∧ ((22 ≠ 18 ∧ 22 ≠ 20 ∧ 22 ≠ 23 ∧ 22 ≠ 25) ∨ 0 ≠ 1) by omega)).trans (ho1916 22 0 (Or.inl (by omega)))))).trans al.2.2.2.2.2.1, ((F1922 22 1 (by omega)).trans ((ho1918 22 1 (Or.inl (by omega))).trans ((O1917.2.2 22 1001 1 (tv22 hg1916) (show (22 ≠ 15 ∨ 1 < 2) ∧ 22 ≠ 27 ∧ 22 ≠ 19 ∧ 22 ≠ 21 ∧ 22 ≠ 24 ∧ 22 ≠ 26 ∧ ((22 ≠ 18 ∧ 22 ≠ 20 ∧ 22 ≠ 23 ∧ 22 ≠ 25) ∨ 1 ≠ 1) by omega)).trans (ho1916 22 1 (Or.inl (by omega)))))).trans al.2.2.2.2.2.2.1, ((F1922 23 0 (by omega)).trans ((ho1918 23 0 (Or.inl (by omega))).trans ((O1917.2.2 23 1002 0 (tv23 hg1916) (show (23 ≠ 15 ∨ 0 < 2) ∧ 23 ≠ 27 ∧ 23 ≠ 19 ∧ 23 ≠ 21 ∧ 23 ≠ 24 ∧ 23 ≠ 26 ∧ ((23 ≠ 18 ∧ 23 ≠ 20 ∧ 23 ≠ 23 ∧ 23 ≠ 25) ∨ 0 ≠ 1) by omega)).trans (ho1916 23 0 (Or.inl (by omega)))))).trans al.2.2.2.2.2.2.2.2.2.1, ((F1922 25 0 (by omega)).trans ((ho1918 25 0 (Or.inl (by omega))).trans ((O1917.2.2 25 1003 0 (tv25 hg1916) (show (25 ≠ 15 ∨ 0 < 2) ∧ 25 ≠ 27 ∧ 25 ≠ 19 ∧ 25 ≠ 21 ∧ 25 ≠ 24 ∧ 25 ≠ 26 ∧ ((25 ≠ 18 ∧ 25 ≠ 20 ∧ 25 ≠ 23 ∧ 25 ≠ 25) ∨ 0 ≠ 1) by omega)).trans (ho1916 25 0 (Or.inl (by omega)))))).trans al.2.2.2.2.2.2.2.2.2.2⟩
    have bB1928 : bsC h1922 16 1 6 ((lp1917, lc1917), (rp1917, rr1917)) := ⟨((F1922 16 0 (by omega)).trans ((ho1918 16 0 (Or.inl (by omega))).trans ((O1917.2.2 16 1000 0 (tv16 hg1916) (show (16 ≠ 15 ∨ 0 < 2) ∧ 16 ≠ 27 ∧ 16 ≠ 19 ∧ 16 ≠ 21 ∧ 16 ≠ 24 ∧ 16 ≠ 26 ∧ ((16 ≠ 18 ∧ 16 ≠ 20 ∧ 16 ≠ 23 ∧ 16 ≠ 25) ∨ 0 ≠ 1) by omega)).trans (ho1916 16 0 (Or.inl (by omega)))))).trans al.2.1, ((F1922 16 1 (by omega)).trans ((ho1918 16 1 (Or.inl (by omega))).trans ((O1917.2.2 16 1000 1 (tv16 hg1916) (show (16 ≠ 15 ∨ 1 < 2) ∧ 16 ≠ 27 ∧ 16 ≠ 19 ∧ 16 ≠ 21 ∧ 16 ≠ 24 ∧ 16 ≠ 26 ∧ ((16 ≠ 18 ∧ 16 ≠ 20 ∧ 16 ≠ 23 ∧ 16 ≠ 25) ∨ 1 ≠ 1) by omega)).trans (ho1916 16 1 (Or.inl (by omega)))))).trans al.2.2.1, ⟨rwC_up w11917 ((F1922 18 1 (by omega)).trans (ho1918 18 1 (Or.inl (by omega)))) (fun j => ((F1922 19 j (by omega)).trans (ho1918 19 j (Or.inl (by omega))))), rwC_up w21917 ((F1922 20 1 (by omega)).trans (ho1918 20 1 (Or.inl (by omega)))) (fun j => ((F1922 21 j (by omega)).trans (ho1918 21 j (Or.inl (by omega)))))⟩, ⟨rwC_up w31917 ((F1922 23 1 (by omega)).trans (ho1918 23 1 (Or.inl (by omega)))) (fun j => ((F1922 24 j (by omega)).trans (ho1918 24 j (Or.inl (by omega))))), rwC_up w41917 ((F1922 25 1 (by omega)).trans (ho1918 25 1 (Or.inl (by omega)))) (fun j => ((F1922 26 j (by omega)).trans (ho1918 26 j (Or.inl (by omega)))))⟩⟩
    have tB1928 := tyB_of hg1922 (Or.inl ⟨rfl, rfl⟩) (tv16 hg1922) bB1928.1 bB1928.2.1 lB1928
    refine y_cV (i := .invokevirtual 88) (len := 3) (r := (0, 109, 9, 1059)) (nL := 2) (k := 0) (n := 2) (hs := []) (args := [.inl (some 2), .inl (some 16)]) (rest := []) (l0 := [some (.inl (some 2)), some (.inl (some 16))]) (by decide +kernel) (Or.inr (Or.inl ⟨_, rfl⟩)) rfl rfl rfl rfl (Nat.le_of_ble_eq_true rfl) (zO hg1922 (tv2 hg1922) aw1000 rfl) rfl (qV_le (by decide) (e_cpb hg1922 (tv2 hg1922) (tv16 hg1922) (tyB_of hg1922 hu1922 (tv2 hg1922) b21922.1 b21922.2.1 l21922) tB1928 hu1922 (Or.inl ⟨rfl, rfl⟩) l21922 lB1928 b21922.1 b21922.2.1 bB1928 (by omega))) (fun h1928 hR1928 => ?_)
    obtain ⟨hg1928, b1928, l1928, F1928⟩ := hR1928
    have rc1928 : RC h1928 ((lp1917, lc1917), (rp1917, rr1917)) (psh hs cur) := RC_set rc1922 ⟨u1922, v1922, hu1922, l1928, b1928⟩ (fun k j h1 => F1928 k j (by omega))
    refine y_same (i := .aload_n 0) (len := 1) (r := (0, 0, 0, 0)) (pc' := 91) (ls' := [some (.inl (some 0)), some (zi xn), some (zi y1917)]) (st' := [.inl (some 0)]) (by decide +kernel) (fun k q => by cases q) rfl ?_
    refine y_cV (i := .invokevirtual 91) (len := 3) (r := (0, 154, 11, 474)) (nL := 1) (k := 0) (n := 1) (hs := []) (args := [.inl (some 0)]) (rest := []) (l0 := [some (.inl (some 0))]) (by decide +kernel) (Or.inr (Or.inl ⟨_, rfl⟩)) rfl rfl rfl rfl (Nat.le_of_ble_eq_true rfl) (zO hg1928 (tv0 hg1928) aw0 rfl) rfl (qV_le (by decide) (c_forg (d := 0) hg1928)) (fun h1929 hR1929 => ?_)
    obtain ⟨hg1929, F1929⟩ := hR1929
    refine y_same (i := .aload_n 0) (len := 1) (r := (0, 0, 0, 0)) (pc' := 95) (ls' := [some (.inl (some 0)), some (zi xn), some (zi y1917)]) (st' := [.inl (some 0)]) (by decide +kernel) (fun k q => by cases q) rfl ?_
    have hv1930 := (F1928 0 5 (by omega)).trans hv1923
    have hv1931 := (F1929 0 5 (by omega)).trans hv1930
    refine y_get (j := 29) (len := 3) (r := (11, 5, 2, 404)) (by decide +kernel) hg1929 (tv0 hg1929) aw0 rfl rfl hv1931 ?_
    refine y_cI (i := .invokevirtual 94) (len := 3) (r := (0, 111, 9, 478)) (nL := 1) (k := 1) (n := 1) (hs := []) (args := [.inl (some 2)]) (rest := []) (l0 := [some (.inl (some 2))]) (by decide +kernel) (Or.inr (Or.inl ⟨_, rfl⟩)) rfl rfl rfl rfl (Nat.le_of_ble_eq_true rfl) (zO hg1929 (tv2 hg1929) aw1000 rfl) rfl (qI_le (by decide) (c_cnt (d := 0) hg1929 (RC_up rc1928 (fun k j h1 => (F1929 k j (by omega)))))) (fun y1932 qy1932 hRy1932 => ?_)
    obtain ⟨rfl, ey1932⟩ := hRy1932
    refine y_rI (len := 1) (r := (0, 0, 0, 0)) (nL := 3) (k := 1) (n9 := 2) (hs := []) (by decide +kernel) rfl rfl ?_
    have hv1933 := (F1922 0 2 (by omega)).trans hs1918
    have hv1934 := (F1928 0 2 (by omega)).trans hv1933
    have hv1935 := (F1929 0 2 (by omega)).trans hv1934
    have hv1936 := (O1917.2.2 0 0 1 (tv0 hg1916) (show (0 ≠ 15 ∨ 1 < 2) ∧ 0 ≠ 27 ∧ 0 ≠ 19 ∧ 0 ≠ 21 ∧ 0 ≠ 24 ∧ 0 ≠ 26 ∧ ((0 ≠ 18 ∧ 0 ≠ 20 ∧ 0 ≠ 23 ∧ 0 ≠ 25) ∨ 1 ≠ 1) by omega)).trans hs1916
    have hv1937 := (ho1918 0 1 (Or.inr (by omega))).trans hv1936
    have hv1938 := (F1922 0 1 (by omega)).trans hv1937
    have hv1939 := (F1928 0 1 (by omega)).trans hv1938
    have hv1940 := (F1929 0 1 (by omega)).trans hv1939
    exact ⟨_, hg1929, ⟨fun j => ((F1929 54 j (by omega)).trans ((F1928 54 j (by omega)).trans ((F1922 54 j (by omega)).trans ((ho1918 54 j (Or.inl (by omega))).trans ((O1917.2.2 54 54 j (tu54 hg1916) (show (54 ≠ 15 ∨ j < 2) ∧ 54 ≠ 27 ∧ 54 ≠ 19 ∧ 54 ≠ 21 ∧ 54 ≠ 24 ∧ 54 ≠ 26 ∧ ((54 ≠ 18 ∧ 54 ≠ 20 ∧ 54 ≠ 23 ∧ 54 ≠ 25) ∨ j ≠ 1) by omega)).trans (ho1916 54 j (Or.inl (by omega)))))))), ((F1929 52 2 (by omega)).trans ((F1928 52 2 (by omega)).trans ((F1922 52 2 (by omega)).trans ((ho1918 52 2 (Or.inl (by omega))).trans ((O1917.2.2 52 52 2 (t52 hg1916) (show (52 ≠ 15 ∨ 2 < 2) ∧ 52 ≠ 27 ∧ 52 ≠ 19 ∧ 52 ≠ 21 ∧ 52 ≠ 24 ∧ 52 ≠ 26 ∧ ((52 ≠ 18 ∧ 52 ≠ 20 ∧ 52 ≠ 23 ∧ 52 ≠ 25) ∨ 2 ≠ 1) by omega)).trans (ho1916 52 2 (Or.inl (by omega)))))))), ((F1929 52 5 (by omega)).trans ((F1928 52 5 (by omega)).trans ((F1922 52 5 (by omega)).trans ((ho1918 52 5 (Or.inl (by omega))).trans ((O1917.2.2 52 52 5 (t52 hg1916) (show (52 ≠ 15 ∨ 5 < 2) ∧ 52 ≠ 27 ∧ 52 ≠ 19 ∧ 52 ≠ 21 ∧ 52 ≠ 24 ∧ 52 ≠ 26 ∧ ((52 ≠ 18 ∧ 52 ≠ 20 ∧ 52 ≠ 23 ∧ 52 ≠ 25) ∨ 5 ≠ 1) by omega)).trans (ho1916 52 5 (Or.inl (by omega))))))))⟩, (fun j => ((F1929 1 j (by omega)).trans ((F1928 1 j (by omega)).trans ((F1922 1 j (by omega)).trans ((ho1918 1 j (Or.inl (by omega))).trans ((O1917.2.2 1 1 j (tv1 hg1916) (show (1 ≠ 15 ∨ j < 2) ∧ 1 ≠ 27 ∧ 1 ≠ 19 ∧ 1 ≠ 21 ∧ 1 ≠ 24 ∧ 1 ≠ 26 ∧ ((1 ≠ 18 ∧ 1 ≠ 20 ∧ 1 ≠ 23 ∧ 1 ≠ 25) ∨ j ≠ 1) by omega)).trans (ho1916 1 j (Or.inl (by omega))))))))), ⟨((F1929 15 0 (by omega)).trans ((F1928 15 0 (by omega)).trans ((F1922 15 0 (by omega)).trans ((ho1918 15 0 (Or.inl (by omega))).trans ((O1917.2.2 15 15 0 (tv15 hg1916) (show (15 ≠ 15 ∨ 0 < 2) ∧ 15 ≠ 27 ∧ 15 ≠ 19 ∧ 15 ≠ 21 ∧ 15 ≠ 24 ∧ 15 ≠ 26 ∧ ((15 ≠ 18 ∧ 15 ≠ 20 ∧ 15 ≠ 23 ∧ 15 ≠ 25) ∨ 0 ≠ 1) by omega)).trans (ho1916 15 0 (Or.inl (by omega)))))))).trans al.1, ((F1929 16 0 (by omega)).trans ((F1928 16 0 (by omega)).trans ((F1922 16 0 (by omega)).trans ((ho1918 16 0 (Or.inl (by omega))).trans ((O1917.2.2 16 1000 0 (tv16 hg1916) (show (16 ≠ 15 ∨ 0 < 2) ∧ 16 ≠ 27 ∧ 16 ≠ 19 ∧ 16 ≠ 21 ∧ 16 ≠ 24 ∧ 16 ≠ 26 ∧ ((16 ≠ 18 ∧ 16 ≠ 20 ∧ 16 ≠ 23 ∧ 16 ≠ 25) ∨ 0 ≠ 1) by omega)).trans (ho1916 16 0 (Or.inl (by omega)))))))).trans al.2.1, ((F1929 16 1 (by omega)).trans ((F1928 16 1 (by omega)).trans ((F1922 16 1 (by omega)).trans ((ho1918 16 1 (Or.inl (by omega))).trans ((O1917.2.2 16 1000 1 (tv16 hg1916) (show (16 ≠ 15 ∨ 1 < 2) ∧ 16 ≠ 27 ∧ 16 ≠ 19 ∧ 16 ≠ 21 ∧ 16 ≠ 24 ∧ 16 ≠ 26 ∧ ((16 ≠ 18 ∧ 16 ≠ 20 ∧ 16 ≠ 23 ∧ 16 ≠ 25) ∨ 1 ≠ 1) by omega)).trans (ho1916 16 1 (Or.inl (by omega)))))))).trans al.2.2.1, ((F1929 17 0 (by omega)).trans ((F1928 17 0 (by omega)).trans ((F1922 17 0 (by omega)).trans ((ho1918 17 0 (Or.inl (by omega))).trans ((O1917.2.2 17 1001 0 (tv17 hg1916) (show (17 ≠ 15 ∨ 0 < 2) ∧ 17 ≠ 27 ∧ 17 ≠ 19 ∧ 17 ≠ 21 ∧ 17 ≠ 24 ∧ 17 ≠ 26 ∧ ((17 ≠ 18 ∧ 17 ≠ 20 ∧ 17 ≠ 23 ∧ 17 ≠ 25) ∨ 0 ≠ 1) by omega)).trans (ho1916 17 0 (Or.inl (by omega)))))))).trans al.2.2.2.1, ((F1929 17 1 (by omega)).trans ((F1928 17 1 (by omega)).trans ((F1922 17 1 (by omega)).trans ((ho1918 17 1 (Or.inl (by omega))).trans ((O1917.2.2 17 1001 1 (tv17 hg1916) (show (17 ≠ 15 ∨ 1 < 2) ∧ 17 ≠ 27 ∧ 17 ≠ 19 ∧ 17 ≠ 21 ∧ 17 ≠ 24 ∧ 17 ≠ 26 ∧ ((17 ≠ 18 ∧ 17 ≠ 20 ∧ 17 ≠ 23 ∧ 17 ≠ 25) ∨ 1 ≠ 1) by omega)).trans (ho1916 17 1 (Or.inl (by omega)))))))).trans al.2.2.2.2.1, ((F1929 22 0 (by omega)).trans ((F1928 22 0 (by omega)).trans ((F1922 22 0 (by omega)).trans ((ho1918 22 0 (Or.inl (by omega))).trans ((O1917.2.2 22 1001 0 (tv22 hg1916) (show (22 ≠ 15 ∨ 0 < 2) ∧ 22 ≠ 27 ∧ 22 ≠ 19 ∧ 22 ≠ 21 ∧ 22 ≠ 24 ∧ 22 ≠ 26 ∧ ((22 ≠ 18 ∧ 22 ≠ 20 ∧ 22 ≠ 23 ∧ 22 ≠ 25) ∨ 0 ≠ 1) by omega)).trans (ho1916 22 0 (Or.inl (by omega)))))))).trans al.2.2.2.2.2.1, ((F1929 22 1 (by omega)).trans ((F1928 22 1 (by omega)).trans ((F1922 22 1 (by omega)).trans ((ho1918 22 1 (Or.inl (by omega))).trans ((O1917.2.2 22 1001 1 (tv22 hg1916) (show (22 ≠ 15 ∨ 1 < 2) ∧ 22 ≠ 27 ∧ 22 ≠ 19 ∧ 22 ≠ 21 ∧ 22 ≠ 24 ∧ 22 ≠ 26 ∧ ((22 ≠ 18 ∧ 22 ≠ 20 ∧ 22 ≠ 23 ∧ 22 ≠ 25) ∨ 1 ≠ 1) by omega)).trans (ho1916 22 1 (Or.inl (by omega)))))))).trans al.2.2.2.2.2.2.1, ((F1929 18 0 (by omega)).trans ((F1928 18 0 (by omega)).trans ((F1922 18 0 (by omega)).trans ((ho1918 18 0 (Or.inl (by omega))).trans ((O1917.2.2 18 1002 0 (tv18 hg1916) (show (18 ≠ 15 ∨ 0 < 2) ∧ 18 ≠ 27 ∧ 18 ≠ 19 ∧ 18 ≠ 21 ∧ 18 ≠ 24 ∧ 18 ≠ 26 ∧ ((18 ≠ 18 ∧ 18 ≠ 20 ∧ 18 ≠ 23 ∧ 18 ≠ 25) ∨ 0 ≠ 1) by omega)).trans (ho1916 18 0 (Or.inl (by omega)))))))).trans al.2.2.2.2.2.2.2.1, ((F1929 20 0 (by omega)).trans ((F1928 20 0 (by omega)).trans ((F1922 20 0 (by omega)).trans ((ho1918 20 0 (Or.inl (by omega))).trans ((O1917.2.2 20 1003 0 (tv20 hg1916) (show (20 ≠ 15 ∨ 0 < 2) ∧ 20 ≠ 27 ∧ 20 ≠ 19 ∧ 20 ≠ 21 ∧ 20 ≠ 24 ∧ 20 ≠ 26 ∧ ((20 ≠ 18 ∧ 20 ≠ 20 ∧ 20 ≠ 23 ∧ 20 ≠ 25) ∨ 0 ≠ 1) by omega)).trans (ho1916 20 0 (Or.inl (by omega)))))))).trans al.2.2.2.2.2.2.2.2.1, ((F1929 23 0 (by omega)).trans ((F1928 23 0 (by omega)).trans ((F1922 23 0 (by omega)).trans ((ho1918 23 0 (Or.inl (by omega))).trans ((O1917.2.2 23 1002 0 (tv23 hg1916) (show (23 ≠ 15 ∨ 0 < 2) ∧ 23 ≠ 27 ∧ 23 ≠ 19 ∧ 23 ≠ 21 ∧ 23 ≠ 24 ∧ 23 ≠ 26 ∧ ((23 ≠ 18 ∧ 23 ≠ 20 ∧ 23 ≠ 23 ∧ 23 ≠ 25) ∨ 0 ≠ 1) by omega)).trans (ho1916 23 0 (Or.inl (by omega)))))))).trans al.2.2.2.2.2.2.2.2.2.1, ((F1929 25 0 (by omega)).trans ((F1928 25 0 (by omega)).trans ((F1922 25 0 (by omega)).trans ((ho1918 25 0 (Or.inl (by omega))).trans ((O1917.2.2 25 1003 0 (tv25 hg1916) (show (25 ≠ 15 ∨ 0 < 2) ∧ 25 ≠ 27 ∧ 25 ≠ 19 ∧ 25 ≠ 21 ∧ 25 ≠ 24 ∧ 25 ≠ 26 ∧ ((25 ≠ 18 ∧ 25 ≠ 20 ∧ 25 ≠ 23 ∧ 25 ≠ 25) ∨ 0 ≠ 1) by omega)).trans (ho1916 25 0 (Or.inl (by omega)))))))).trans al.2.2.2.2.2.2.2.2.2.2⟩, ((F1929 0 5 (by omega)).trans ((F1928 0 5 (by omega)).trans ((F1922 0 5 (by omega)).trans ((ho1918 0 5 (Or.inr (by omega))).trans ((O1917.2.2 0 0 5 (tv0 hg1916) (show (0 ≠ 15 ∨ 5 < 2) ∧ 0 ≠ 27 ∧ 0 ≠ 19 ∧ 0 ≠ 21 ∧ 0 ≠ 24 ∧ 0 ≠ 26 ∧ ((0 ≠ 18 ∧ 0 ≠ 20 ∧ 0 ≠ 23 ∧ 0 ≠ 25) ∨ 5 ≠ 1) by omega)).trans (ho1916 0 5 (Or.inr (by omega)))))))), ⟨_, hv1940, by omega⟩, ⟨_, hv1935, (by rw [e1917]; unfold flV; simp only; omega)⟩, fun cur hs rm => RM_upT hg rm (fun k T j hk hC => ((F1929 k j (by omega)).trans ((F1928 k j (by omega)).trans ((F1922 k j (by omega)).trans ((ho1918 k j (by omega)).trans ((O1917.2.2 k T j hk (show (k ≠ 15 ∨ j < 2) ∧ k ≠ 27 ∧ k ≠ 19 ∧ k ≠ 21 ∧ k ≠ 24 ∧ k ≠ 26 ∧ ((k ≠ 18 ∧ k ≠ 20 ∧ k ≠ 23 ∧ k ≠ 25) ∨ j ≠ 1) by omega)).trans (ho1916 k j (by omega)))))))), (by rw [e1917]; exact (RC_up rc1928 (fun k j h1 => (F1929 k j (by omega))))), (by rw [e1917]; show _ = _; omega)⟩
  ·
    refine y_same (i := .istore_n 2) (len := 1) (r := (0, 0, 0, 0)) (pc' := 39) (ls' := [some (.inl (some 0)), some (zi xn), some (zi y1917)]) (st' := []) (by decide +kernel) (fun k q => by cases q) rfl ?_
    refine y_same (i := .aload_n 0) (len := 1) (r := (0, 0, 0, 0)) (pc' := 40) (ls' := [some (.inl (some 0)), some (zi xn), some (zi y1917)]) (st' := [.inl (some 0)]) (by decide +kernel) (fun k q => by cases q) rfl ?_
    refine y_same (i := .aload_n 0) (len := 1) (r := (0, 0, 0, 0)) (pc' := 41) (ls' := [some (.inl (some 0)), some (zi xn), some (zi y1917)]) (st' := [.inl (some 0), .inl (some 0)]) (by decide +kernel) (fun k q => by cases q) rfl ?_
    refine y_get (j := 43) (len := 3) (r := (11, 7, 2, 406)) (by decide +kernel) O1917.2.1 (tv0 O1917.2.1) aw0 rfl rfl (g_rU (f := 7) (T2 := 15) O1917.2.1 (tv0 O1917.2.1) aw0 rfl (by decide)) ?_
    refine y_get (j := 77) (len := 3) (r := (5, 5, 0, 20247)) (by decide +kernel) O1917.2.1 (tv15 O1917.2.1) aw15 rfl rfl hw1917 ?_
    refine y_put (j := 17) (lo := (-2147483648)) (hi := 2147483647) (len := 3) (r := (11, 2, 0, 401)) (by decide +kernel) O1917.2.1 (tv0 O1917.2.1) aw0 rfl rfl (by decide) rfl (qin_full _).1 (qin_full _).2 rfl (fun h1941 hg1941 hl1941 hs1941 ho1941 => ?_)
    have ho1941 : hO 0 2 h1917 h1941 := ho1941
    have hs1941 : hsl h1941 0 2 = some (zi xw1917) := hs1941
    refine y_same (i := .iload_n 2) (len := 1) (r := (0, 0, 0, 0)) (pc' := 51) (ls' := [some (.inl (some 0)), some (zi xn), some (zi y1917)]) (st' := [zi y1917]) (by decide +kernel) (fun k q => by cases q) rfl ?_
    refine y_iF (c := .ne) (off := 14) (len := 3) (r := (0, 0, 0, 0)) (by decide +kernel) (acmpF (c := .ne) (by show _ = _; omega)) ?_
    refine y_same (i := .aload_n 0) (len := 1) (r := (0, 0, 0, 0)) (pc' := 55) (ls' := [some (.inl (some 0)), some (zi xn), some (zi y1917)]) (st' := [.inl (some 0)]) (by decide +kernel) (fun k q => by cases q) rfl ?_
    refine y_get (j := 43) (len := 3) (r := (11, 7, 2, 406)) (by decide +kernel) hg1941 (tv0 hg1941) aw0 rfl rfl (g_rU (f := 7) (T2 := 15) hg1941 (tv0 hg1941) aw0 rfl (by decide)) ?_
    have hv1942 := (ho1941 15 4 (Or.inl (by omega))).trans hr1917
    refine y_get (j := 80) (len := 3) (r := (5, 4, 0, 20245)) (by decide +kernel) hg1941 (tv15 hg1941) aw15 rfl rfl hv1942 ?_
    refine y_bi (c := 10) (len := 2) (r := (0, 0, 0, 0)) (by decide +kernel) (by decide) (fun y1943 hy1943 => ?_)
    refine y_bp (i := .isub) (f := fun x y => x - y) (len := 1) (r := (0, 0, 0, 0)) (by decide +kernel) rfl rfl (fun y1944 hy1944 => ?_)
    refine y_rI (len := 1) (r := (0, 0, 0, 0)) (nL := 3) (k := 1) (n9 := 2) (hs := []) (by decide +kernel) rfl rfl ?_
    have hv1945 := (O1917.2.2 0 0 1 (tv0 hg1916) (show (0 ≠ 15 ∨ 1 < 2) ∧ 0 ≠ 27 ∧ 0 ≠ 19 ∧ 0 ≠ 21 ∧ 0 ≠ 24 ∧ 0 ≠ 26 ∧ ((0 ≠ 18 ∧ 0 ≠ 20 ∧ 0 ≠ 23 ∧ 0 ≠ 25) ∨ 1 ≠ 1) by omega)).trans hs1916
    have hv1946 := (ho1941 0 1 (Or.inr (by omega))).trans hv1945
    have er9 := i32_of er1917
    exact ⟨_, hg1941, ⟨fun j => ((ho1941 54 j (Or.inl (by omega))).trans ((O1917.2.2 54 54 j (tu54 hg1916) (show (54 ≠ 15 ∨ j < 2) ∧ 54 ≠ 27 ∧ 54 ≠ 19 ∧ 54 ≠ 21 ∧ 54 ≠ 24 ∧ 54 ≠ 26 ∧ ((54 ≠ 18 ∧ 54 ≠ 20 ∧ 54 ≠ 23 ∧ 54 ≠ 25) ∨ j ≠ 1) by omega)).trans (ho1916 54 j (Or.inl (by omega))))), ((ho1941 52 2 (Or.inl (by omega))).trans ((O1917.2.2 52 52 2 (t52 hg1916) (show (52 ≠ 15 ∨ 2 < 2) ∧ 52 ≠ 27 ∧ 52 ≠ 19 ∧ 52 ≠ 21 ∧ 52 ≠ 24 ∧ 52 ≠ 26 ∧ ((52 ≠ 18 ∧ 52 ≠ 20 ∧ 52 ≠ 23 ∧ 52 ≠ 25) ∨ 2 ≠ 1) by omega)).trans (ho1916 52 2 (Or.inl (by omega))))), ((ho1941 52 5 (Or.inl (by omega))).trans ((O1917.2.2 52 52 5 (t52 hg1916) (show (52 ≠ 15 ∨ 5 < 2) ∧ 52 ≠ 27 ∧ 52 ≠ 19 ∧ 52 ≠ 21 ∧ 52 ≠ 24 ∧ 52 ≠ 26 ∧ ((52 ≠ 18 ∧ 52 ≠ 20 ∧ 52 ≠ 23 ∧ 52 ≠ 25) ∨ 5 ≠ 1) by omega)).trans (ho1916 52 5 (Or.inl (by omega)))))⟩, (fun j => ((ho1941 1 j (Or.inl (by omega))).trans ((O1917.2.2 1 1 j (tv1 hg1916) (show (1 ≠ 15 ∨ j < 2) ∧ 1 ≠ 27 ∧ 1 ≠ 19 ∧ 1 ≠ 21 ∧ 1 ≠ 24 ∧ 1 ≠ 26 ∧ ((1 ≠ 18 ∧ 1 ≠ 20 ∧ 1 ≠ 23 ∧ 1 ≠ 25) ∨ j ≠ 1) by omega)).trans (ho1916 1 j (Or.inl (by omega)))))), ⟨((ho1941 15 0 (Or.inl (by omega))).trans ((O1917.2.2 15 15 0 (tv15 hg1916) (show (15 ≠ 15 ∨ 0 < 2) ∧ 15 ≠ 27 ∧ 15 ≠ 19 ∧ 15 ≠ 21 ∧ 15 ≠ 24 ∧ 15 ≠ 26 ∧ ((15 ≠ 18 ∧ 15 ≠ 20 ∧ 15 ≠ 23 ∧ 15 ≠ 25) ∨ 0 ≠ 1) by omega)).trans (ho1916 15 0 (Or.inl (by omega))))).trans al.1, ((ho1941 16 0 (Or.inl (by omega))).trans ((O1917.2.2 16 1000 0 (tv16 hg1916) (show (16 ≠ 15 ∨ 0 < 2) ∧ 16 ≠ 27 ∧ 16 ≠ 19 ∧ 16 ≠ 21 ∧ 16 ≠ 24 ∧ 16 ≠ 26 ∧ ((16 ≠ 18 ∧ 16 ≠ 20 ∧ 16 ≠ 23 ∧ 16 ≠ 25) ∨ 0 ≠ 1) by omega)).trans (ho1916 16 0 (Or.inl (by omega))))).trans al.2.1, ((ho1941 16 1 (Or.inl (by omega))).trans ((O1917.2.2 16 1000 1 (tv16 hg1916) (show (16 ≠ 15 ∨ 1 < 2) ∧ 16 ≠ 27 ∧ 16 ≠ 19 ∧ 16 ≠ 21 ∧ 16 ≠ 24 ∧ 16 ≠ 26 ∧ ((16 ≠ 18 ∧ 16 ≠ 20 ∧ 16 ≠ 23 ∧ 16 ≠ 25) ∨ 1 ≠ 1) by omega)).trans (ho1916 16 1 (Or.inl (by omega))))).trans al.2.2.1, ((ho1941 17 0 (Or.inl (by omega))).trans ((O1917.2.2 17 1001 0 (tv17 hg1916) (show (17 ≠ 15 ∨ 0 < 2) ∧ 17 ≠ 27 ∧ 17 ≠ 19 ∧ 17 ≠ 21 ∧ 17 ≠ 24 ∧ 17 ≠ 26 ∧ ((17 ≠ 18 ∧ 17 ≠ 20 ∧ 17 ≠ 23 ∧ 17 ≠ 25) ∨ 0 ≠ 1) by omega)).trans (ho1916 17 0 (Or.inl (by omega))))).trans al.2.2.2.1, ((ho1941 17 1 (Or.inl (by omega))).trans ((O1917.2.2 17 1001 1 (tv17 hg1916) (show (17 ≠ 15 ∨ 1 < 2) ∧ 17 ≠ 27 ∧ 17 ≠ 19 ∧ 17 ≠ 21 ∧ 17 ≠ 24 ∧ 17 ≠ 26 ∧ ((17 ≠ 18 ∧ 17 ≠ 20 ∧ 17 ≠ 23 ∧ 17 ≠ 25) ∨ 1 ≠ 1) by omega)).trans (ho1916 17 1 (Or.inl (by omega))))).trans al.2.2.2.2.1, ((ho1941 22 0 (Or.inl (by omega))).trans ((O1917.2.2 22 1001 0 (tv22 hg1916) (show (22 ≠ 15 ∨ 0 < 2) ∧ 22 ≠ 27 ∧ 22 ≠ 19 ∧ 22 ≠ 21 ∧ 22 ≠ 24 ∧ 22 ≠ 26 ∧ ((22 ≠ 18 ∧ 22 ≠ 20 ∧ 22 ≠ 23 ∧ 22 ≠ 25) ∨ 0 ≠ 1) by omega)).trans (ho1916 22 0 (Or.inl (by omega))))).trans al.2.2.2.2.2.1, ((ho1941 22 1 (Or.inl (by omega))).trans ((O1917.2.2 22 1001 1 (tv22 hg1916) (show (22 ≠ 15 ∨ 1 < 2) ∧ 22 ≠ 27 ∧ 22 ≠ 19 ∧ 22 ≠ 21 ∧ 22 ≠ 24 ∧ 22 ≠ 26 ∧ ((22 ≠ 18 ∧ 22 ≠ 20 ∧ 22 ≠ 23 ∧ 22 ≠ 25) ∨ 1 ≠ 1) by omega)).trans (ho1916 22 1 (Or.inl (by omega))))).trans al.2.2.2.2.2.2.1, ((ho1941 18 0 (Or.inl (by omega))).trans ((O1917.2.2 18 1002 0 (tv18 hg1916) (show (18 ≠ 15 ∨ 0 < 2) ∧ 18 ≠ 27 ∧ 18 ≠ 19 ∧ 18 ≠ 21 ∧ 18 ≠ 24 ∧ 18 ≠ 26 ∧ ((18 ≠ 18 ∧ 18 ≠ 20 ∧ 18 ≠ 23 ∧ 18 ≠ 25) ∨ 0 ≠ 1) by omega)).trans (ho1916 18 0 (Or.inl (by omega))))).trans al.2.2.2.2.2.2.2.1, ((ho1941 20 0 (Or.inl (by omega))).trans ((O1917.2.2 20 1003 0 (tv20 hg1916) (show (20 ≠ 15 ∨ 0 < 2) ∧ 20 ≠ 27 ∧ 20 ≠ 19 ∧ 20 ≠ 21 ∧ 20 ≠ 24 ∧ 20 ≠ 26 ∧ ((20 ≠ 18 ∧ 20 ≠ 20 ∧ 20 ≠ 23 ∧ 20 ≠ 25) ∨ 0 ≠ 1) by omega)).trans (ho1916 20 0 (Or.inl (by omega))))).trans al.2.2.2.2.2.2.2.2.1, ((ho1941 23 0 (Or.inl (by omega))).trans ((O1917.2.2 23 1002 0 (tv23 hg1916) (show (23 ≠ 15 ∨ 0 < 2) ∧ 23 ≠ 27 ∧ 23 ≠ 19 ∧ 23 ≠ 21 ∧ 23 ≠ 24 ∧ 23 ≠ 26 ∧ ((23 ≠ 18 ∧ 23 ≠ 20 ∧ 23 ≠ 23 ∧ 23 ≠ 25) ∨ 0 ≠ 1) by omega)).trans (ho1916 23 0 (Or.inl (by omega))))).trans al.2.2.2.2.2.2.2.2.2.1, ((ho1941 25 0 (Or.inl (by omega))).trans ((O1917.2.2 25 1003 0 (tv25 hg1916) (show (25 ≠ 15 ∨ 0 < 2) ∧ 25 ≠ 27 ∧ 25 ≠ 19 ∧ 25 ≠ 21 ∧ 25 ≠ 24 ∧ 25 ≠ 26 ∧ ((25 ≠ 18 ∧ 25 ≠ 20 ∧ 25 ≠ 23 ∧ 25 ≠ 25) ∨ 0 ≠ 1) by omega)).trans (ho1916 25 0 (Or.inl (by omega))))).trans al.2.2.2.2.2.2.2.2.2.2⟩, ((ho1941 0 5 (Or.inr (by omega))).trans ((O1917.2.2 0 0 5 (tv0 hg1916) (show (0 ≠ 15 ∨ 5 < 2) ∧ 0 ≠ 27 ∧ 0 ≠ 19 ∧ 0 ≠ 21 ∧ 0 ≠ 24 ∧ 0 ≠ 26 ∧ ((0 ≠ 18 ∧ 0 ≠ 20 ∧ 0 ≠ 23 ∧ 0 ≠ 25) ∨ 5 ≠ 1) by omega)).trans (ho1916 0 5 (Or.inr (by omega))))), ⟨_, hv1946, by omega⟩, ⟨_, hs1941, (by rw [e1917]; unfold flV; simp only; omega)⟩, fun cur hs rm => RM_upT hg rm (fun k T j hk hC => ((ho1941 k j (by omega)).trans ((O1917.2.2 k T j hk (show (k ≠ 15 ∨ j < 2) ∧ k ≠ 27 ∧ k ≠ 19 ∧ k ≠ 21 ∧ k ≠ 24 ∧ k ≠ 26 ∧ ((k ≠ 18 ∧ k ≠ 20 ∧ k ≠ 23 ∧ k ≠ 25) ∨ j ≠ 1) by omega)).trans (ho1916 k j (by omega))))), (by rw [e1917]; exact (RC_up rc1917 (fun k j h1 => (ho1941 k j (by omega))))), (by rw [e1917]; show _ = _; rw [hy1944, er9]; simp only; rw [ofI (w := 10) hy1943 rfl])⟩
theorem c_ltext2 {t n T : Nat} {b : Nat → Int} {τ : List Nat} {h : zh} {xn xT : Int32} {cur : bsT} {hs : List bsT} (hg : hG τ h) (rc : RC h cur hs) (r5 : hsl h 0 5 = some (.inl (some 2))) (al : alC h) (hT : hsl h 0 1 = some (zi xT)) (eT : xT.toInt = (T : Int)) (hT2 : T ≤ 200) (en : xn.toInt = (n : Int)) (hn : n ≤ T) (hb : ∀ j, j < n → ∃ x : Int32, hsl h 1 j = some (zi x) ∧ x.toInt = b j) : qI 60 276 [some (.inl (some 0)), some (zi xn), some (.inl (some 388)), none] h t (fun y h1 => ∃ τ1, hG τ1 h1 ∧ y.toInt = 0 ∧ ∃ z : Int32, ou_ h1 z ∧ kpM h h1 ∧ (∀ j, hsl h1 1 j = hsl h 1 j) ∧ alC h1 ∧ hsl h1 0 5 = hsl h 0 5 ∧ (∃ x : Int32, hsl h1 0 1 = some (zi x) ∧ x.toInt = 0) ∧ (∃ x : Int32, hsl h1 0 2 = some (zi x) ∧ x.toInt = flV (wAll b n)) ∧ (∀ cur hs, RM h cur hs → RM h1 cur hs) ∧ RC h1 (tcur (wAll b n) cur) (ths (wAll b n) cur hs) ∧ txA (wAll b n) z) := by
  refine qI_le (d := 32) (by decide) (qI_of ?_)
  refine y_same (i := .aload_n 2) (len := 1) (r := (0, 0, 0, 0)) (pc' := 1) (ls' := [some (.inl (some 0)), some (zi xn), some (.inl (some 388)), none]) (st' := [.inl (some 388)]) (by decide +kernel) (fun k q => by cases q) rfl ?_
  refine y_ic (c := 0) (len := 1) (r := (0, 0, 0, 0)) (by decide +kernel) (by decide) (fun y1947 hy1947 => ?_)
  refine y_same (i := .aload_n 0) (len := 1) (r := (0, 0, 0, 0)) (pc' := 3) (ls' := [some (.inl (some 0)), some (zi xn), some (.inl (some 388)), none]) (st' := [.inl (some 0), zi y1947, .inl (some 388)]) (by decide +kernel) (fun k q => by cases q) rfl ?_
  refine y_same (i := .iload_n 1) (len := 1) (r := (0, 0, 0, 0)) (pc' := 4) (ls' := [some (.inl (some 0)), some (zi xn), some (.inl (some 388)), none]) (st' := [zi xn, .inl (some 0), zi y1947, .inl (some 388)]) (by decide +kernel) (fun k q => by cases q) rfl ?_
  refine y_cI (i := .invokevirtual 7) (len := 3) (r := (0, 133, 11, 848)) (nL := 3) (k := 1) (n := 2) (hs := []) (args := [.inl (some 0), zi xn]) (rest := [zi y1947, .inl (some 388)]) (l0 := [some (.inl (some 0)), some (zi xn), none]) (by decide +kernel) (Or.inr (Or.inl ⟨_, rfl⟩)) rfl rfl rfl rfl (Nat.le_of_ble_eq_true rfl) (zO hg (tv0 hg) aw0 rfl) rfl (qI_le (by decide) (c_text2 hg rc r5 al hT eT hT2 en hn hb)) (fun y1948 h1948 hRy1948 => ?_)
  obtain ⟨τ1948, hg1948, kM, kt, ka, k5, ⟨x1, a1, b1⟩, ⟨x2, a2, b2⟩, krm, krc, ktx⟩ := hRy1948
  refine y_i2l2 (len := 1) (r := (0, 0, 0, 0)) (by decide +kernel) ?_
  refine y_las2 (i := 0) (len := 1) (r := (0, 0, 0, 0)) (by decide +kernel) hg1948 (t388 hg1948) aw388 rfl (by omega) (by omega) rfl (fun h1949 hg1949 hw1949 ho1949 => ?_)
  refine y_goto (off := 6) (pc' := 15) (len := 3) (r := (0, 0, 0, 0)) (by decide +kernel) (by decide +kernel) ?_
  refine y_ic (c := 0) (len := 1) (r := (0, 0, 0, 0)) (by decide +kernel) (by decide) (fun y1950 hy1950 => ?_)
  refine y_rI (len := 1) (r := (0, 0, 0, 0)) (nL := 4) (k := 1) (n9 := 3) (hs := [(0, 9, 12, 1)]) (by decide +kernel) rfl rfl ?_
  exact ⟨_, hg1949, by omega, _, hw1949, ⟨fun j => (ho1949 54 j (Or.inl (by omega))).trans (kM.1 j), (ho1949 52 2 (Or.inl (by omega))).trans kM.2.1, (ho1949 52 5 (Or.inl (by omega))).trans kM.2.2⟩, (fun j => (ho1949 1 j (Or.inl (by omega))).trans (kt j)), ⟨(ho1949 15 0 (Or.inl (by omega))).trans ka.1, (ho1949 16 0 (Or.inl (by omega))).trans ka.2.1, (ho1949 16 1 (Or.inl (by omega))).trans ka.2.2.1, (ho1949 17 0 (Or.inl (by omega))).trans ka.2.2.2.1, (ho1949 17 1 (Or.inl (by omega))).trans ka.2.2.2.2.1, (ho1949 22 0 (Or.inl (by omega))).trans ka.2.2.2.2.2.1, (ho1949 22 1 (Or.inl (by omega))).trans ka.2.2.2.2.2.2.1, (ho1949 18 0 (Or.inl (by omega))).trans ka.2.2.2.2.2.2.2.1, (ho1949 20 0 (Or.inl (by omega))).trans ka.2.2.2.2.2.2.2.2.1, (ho1949 23 0 (Or.inl (by omega))).trans ka.2.2.2.2.2.2.2.2.2.1, (ho1949 25 0 (Or.inl (by omega))).trans ka.2.2.2.2.2.2.2.2.2.2⟩, (ho1949 0 5 (Or.inl (by omega))).trans k5, ⟨x1, (ho1949 0 1 (Or.inl (by omega))).trans a1, b1⟩, ⟨x2, (ho1949 0 2 (Or.inl (by omega))).trans a2, b2⟩, fun cur hs rm => RM_up (krm cur hs rm) (fun k j hC => ho1949 k j (by omega)), RC_up krc (fun k j hC => ho1949 k j (by omega)), ktx⟩
theorem c_fitT {d t : Nat} {τ : List Nat} {h : zh} {x : Int32} (hg : hG τ h) (hx : x.toInt = 0) : qT (d + 1) 153 [some (.inl (some 0)), some (zi x)] h t 1 (fun h1 => hG τ h1 ∧ ∀ k j, (k ≠ 0 ∨ j ≠ 4) → hsl h1 k j = hsl h k j) := by
  refine qT_of ?_
  refine y_same (i := .iload_n 1) (len := 1) (r := (0, 0, 0, 0)) (pc' := 1) (ls' := [some (.inl (some 0)), some (zi x)]) (st' := [zi x]) (by decide +kernel) (fun k q => by cases q) rfl ?_
  refine y_iF (c := .ne) (off := 23) (len := 3) (r := (0, 0, 0, 0)) (by decide +kernel) (acmpF (c := .ne) (by show _ = _; omega)) ?_
  refine y_same (i := .aload_n 0) (len := 1) (r := (0, 0, 0, 0)) (pc' := 5) (ls' := [some (.inl (some 0)), some (zi x)]) (st' := [.inl (some 0)]) (by decide +kernel) (fun k q => by cases q) rfl ?_
  refine y_same (i := .dup) (len := 1) (r := (0, 0, 0, 0)) (pc' := 6) (ls' := [some (.inl (some 0)), some (zi x)]) (st' := [.inl (some 0), .inl (some 0)]) (by decide +kernel) (fun k q => by cases q) rfl ?_
  obtain ⟨v1951, hv1952, lv1951, uv1951⟩ := g_int (i := 4) (lo := (-2147483648)) (hi := 2147483647) hg (tv0 hg) aw0 (by decide) rfl
  refine y_get (j := 23) (len := 3) (r := (11, 4, 0, 403)) (by decide +kernel) hg (tv0 hg) aw0 rfl rfl hv1952 ?_
  refine y_ic (c := 1) (len := 1) (r := (0, 0, 0, 0)) (by decide +kernel) (by decide) (fun y1953 hy1953 => ?_)
  refine y_bp (i := .iadd) (f := fun x y => x + y) (len := 1) (r := (0, 0, 0, 0)) (by decide +kernel) rfl rfl (fun y1954 hy1954 => ?_)
  refine y_put (j := 23) (lo := (-2147483648)) (hi := 2147483647) (len := 3) (r := (11, 4, 0, 403)) (by decide +kernel) hg (tv0 hg) aw0 rfl rfl (by decide) rfl (qin_full _).1 (qin_full _).2 rfl (fun h1955 hg1955 hl1955 hs1955 ho1955 => ?_)
  have ho1955 : hO 0 4 h h1955 := ho1955
  have hs1955 : hsl h1955 0 4 = some (zi y1954) := hs1955
  refine y_thr (k := 233) (len := 3) (r := (99, 1, 0, 0)) (by decide +kernel) rfl ?_
  exact ⟨hg1955, fun k j hC => (ho1955 k j (by omega))⟩
theorem c_thereT {d t : Nat} {τ : List Nat} {h : zh} {x : Int32} (hg : hG τ h) (hx : x.toInt = 0) : qT (d + 1) 152 [some (.inl (some 0)), some (zi x)] h t 0 (fun h1 => hG τ h1 ∧ ∀ k j, (k ≠ 0 ∨ j ≠ 3) → hsl h1 k j = hsl h k j) := by
  refine qT_of ?_
  refine y_same (i := .iload_n 1) (len := 1) (r := (0, 0, 0, 0)) (pc' := 1) (ls' := [some (.inl (some 0)), some (zi x)]) (st' := [zi x]) (by decide +kernel) (fun k q => by cases q) rfl ?_
  refine y_iF (c := .ne) (off := 23) (len := 3) (r := (0, 0, 0, 0)) (by decide +kernel) (acmpF (c := .ne) (by show _ = _; omega)) ?_
  refine y_same (i := .aload_n 0) (len := 1) (r := (0, 0, 0, 0)) (pc' := 5) (ls' := [some (.inl (some 0)), some (zi x)]) (st' := [.inl (some 0)]) (by decide +kernel) (fun k q => by cases q) rfl ?_
  refine y_same (i := .dup) (len := 1) (r := (0, 0, 0, 0)) (pc' := 6) (ls' := [some (.inl (some 0)), some (zi x)]) (st' := [.inl (some 0), .inl (some 0)]) (by decide +kernel) (fun k q => by cases q) rfl ?_
  obtain ⟨v1956, hv1957, lv1956, uv1956⟩ := g_int (i := 3) (lo := (-2147483648)) (hi := 2147483647) hg (tv0 hg) aw0 (by decide) rfl
  refine y_get (j := 20) (len := 3) (r := (11, 3, 0, 402)) (by decide +kernel) hg (tv0 hg) aw0 rfl rfl hv1957 ?_
  refine y_ic (c := 1) (len := 1) (r := (0, 0, 0, 0)) (by decide +kernel) (by decide) (fun y1958 hy1958 => ?_)
  refine y_bp (i := .iadd) (f := fun x y => x + y) (len := 1) (r := (0, 0, 0, 0)) (by decide +kernel) rfl rfl (fun y1959 hy1959 => ?_)
  refine y_put (j := 20) (lo := (-2147483648)) (hi := 2147483647) (len := 3) (r := (11, 3, 0, 402)) (by decide +kernel) hg (tv0 hg) aw0 rfl rfl (by decide) rfl (qin_full _).1 (qin_full _).2 rfl (fun h1960 hg1960 hl1960 hs1960 ho1960 => ?_)
  have ho1960 : hO 0 3 h h1960 := ho1960
  have hs1960 : hsl h1960 0 3 = some (zi y1959) := hs1960
  refine y_thr (k := 226) (len := 3) (r := (99, 0, 0, 0)) (by decide +kernel) rfl ?_
  exact ⟨hg1960, fun k j hC => (ho1960 k j (by omega))⟩
theorem c_there {d t : Nat} {h : zh} {x : Int32} (hx : x.toInt = 1) : qV (d + 1) 152 [some (.inl (some 0)), some (zi x)] h t (fun h1 => h = h1) := by
  refine qV_of ?_
  refine y_same (i := .iload_n 1) (len := 1) (r := (0, 0, 0, 0)) (pc' := 1) (ls' := [some (.inl (some 0)), some (zi x)]) (st' := [zi x]) (by decide +kernel) (fun k q => by cases q) rfl ?_
  refine y_iT (c := .ne) (off := 23) (pc' := 24) (len := 3) (r := (0, 0, 0, 0)) (by decide +kernel) (acmpT (c := .ne) (by show ¬ (_ = _); omega)) (by decide +kernel) ?_
  refine y_rV (len := 1) (r := (0, 0, 0, 0)) (nL := 2) (n9 := 2) (hs := []) (by decide +kernel) rfl ?_
  exact rfl
theorem c_textT {t T : Nat} {τ : List Nat} {h : zh} {xn xT : Int32} (hg : hG τ h) (hT : hsl h 0 1 = some (zi xT)) (eT : xT.toInt = (T : Int)) (ho : xn.toInt < 0 ∨ (T : Int) < xn.toInt) : qT 21 133 [some (.inl (some 0)), some (zi xn), none] h t 1 (fun h1 => hG τ h1 ∧ ∀ k j, (k ≠ 0 ∨ j ≠ 4) → hsl h1 k j = hsl h k j) := by
  refine qT_of ?_
  refine y_same (i := .aload_n 0) (len := 1) (r := (0, 0, 0, 0)) (pc' := 1) (ls' := [some (.inl (some 0)), some (zi xn), none]) (st' := [.inl (some 0)]) (by decide +kernel) (fun k q => by cases q) rfl ?_
  refine y_same (i := .iload_n 1) (len := 1) (r := (0, 0, 0, 0)) (pc' := 2) (ls' := [some (.inl (some 0)), some (zi xn), none]) (st' := [zi xn, .inl (some 0)]) (by decide +kernel) (fun k q => by cases q) rfl ?_
  rcases Decidable.em (xn.toInt < 0) with q1961 | q1961
  ·
    refine y_iT (c := .lt) (off := 15) (pc' := 17) (len := 3) (r := (0, 0, 0, 0)) (by decide +kernel) (acmpT (c := .lt) (by show _ < _; omega)) (by decide +kernel) ?_
    refine y_ic (c := 0) (len := 1) (r := (0, 0, 0, 0)) (by decide +kernel) (by decide) (fun y1962 hy1962 => ?_)
    refine y_cX (i := .invokevirtual 70) (len := 3) (r := (0, 153, 11, 852)) (nL := 2) (k := 0) (n := 2) (hs := []) (args := [.inl (some 0), zi y1962]) (rest := []) (l0 := [some (.inl (some 0)), some (zi y1962)]) (by decide +kernel) (Or.inr (Or.inl ⟨_, rfl⟩)) rfl rfl rfl rfl (Nat.le_of_ble_eq_true rfl) (zO hg (tv0 hg) aw0 rfl) rfl rfl (mL := 3) (mk := 1) (m9 := 2) (ms := []) rfl rfl (qT_le (by decide) (c_fitT (d := 0) hg (by omega))) (fun h1963 hR1963 => ?_)
    obtain ⟨hg1963, F1963⟩ := hR1963
    exact ⟨_, rfl, hg1963, fun k j hC => (F1963 k j (by omega))⟩
  ·
    refine y_iF (c := .lt) (off := 15) (len := 3) (r := (0, 0, 0, 0)) (by decide +kernel) (acmpF (c := .lt) (by show _ ≤ _; omega)) ?_
    refine y_same (i := .iload_n 1) (len := 1) (r := (0, 0, 0, 0)) (pc' := 6) (ls' := [some (.inl (some 0)), some (zi xn), none]) (st' := [zi xn, .inl (some 0)]) (by decide +kernel) (fun k q => by cases q) rfl ?_
    refine y_same (i := .aload_n 0) (len := 1) (r := (0, 0, 0, 0)) (pc' := 7) (ls' := [some (.inl (some 0)), some (zi xn), none]) (st' := [.inl (some 0), zi xn, .inl (some 0)]) (by decide +kernel) (fun k q => by cases q) rfl ?_
    refine y_get (j := 13) (len := 3) (r := (11, 1, 0, 400)) (by decide +kernel) hg (tv0 hg) aw0 rfl rfl hT ?_
    rcases Decidable.em (xn.toInt > xT.toInt) with q1964 | q1964
    ·
      refine y_cT (c := .gt) (off := 7) (pc' := 17) (len := 3) (r := (0, 0, 0, 0)) (by decide +kernel) (acmpT (c := .gt) (by show _ < _; omega)) (by decide +kernel) ?_
      refine y_ic (c := 0) (len := 1) (r := (0, 0, 0, 0)) (by decide +kernel) (by decide) (fun y1965 hy1965 => ?_)
      refine y_cX (i := .invokevirtual 70) (len := 3) (r := (0, 153, 11, 852)) (nL := 2) (k := 0) (n := 2) (hs := []) (args := [.inl (some 0), zi y1965]) (rest := []) (l0 := [some (.inl (some 0)), some (zi y1965)]) (by decide +kernel) (Or.inr (Or.inl ⟨_, rfl⟩)) rfl rfl rfl rfl (Nat.le_of_ble_eq_true rfl) (zO hg (tv0 hg) aw0 rfl) rfl rfl (mL := 3) (mk := 1) (m9 := 2) (ms := []) rfl rfl (qT_le (by decide) (c_fitT (d := 0) hg (by omega))) (fun h1966 hR1966 => ?_)
      obtain ⟨hg1966, F1966⟩ := hR1966
      exact ⟨_, rfl, hg1966, fun k j hC => (F1966 k j (by omega))⟩
    ·
      refine y_cF (c := .gt) (off := 7) (len := 3) (r := (0, 0, 0, 0)) (by decide +kernel) (acmpF (c := .gt) (by show _ ≤ _; omega)) ?_
      refine y_ic (c := 1) (len := 1) (r := (0, 0, 0, 0)) (by decide +kernel) (by decide) (fun y1967 hy1967 => ?_)
      refine y_goto (off := 4) (pc' := 18) (len := 3) (r := (0, 0, 0, 0)) (by decide +kernel) (by decide +kernel) ?_
      exfalso
      omega
theorem c_ltextT {t T : Nat} {τ : List Nat} {h : zh} {xn xT : Int32} (hg : hG τ h) (hT : hsl h 0 1 = some (zi xT)) (eT : xT.toInt = (T : Int)) (ho : xn.toInt < 0 ∨ (T : Int) < xn.toInt) : ∃ (y : Int32) (h1 : zh), qE 60 276 [some (.inl (some 0)), some (zi xn), some (.inl (some 388)), none] h t (.inl (some (zi y)), h1, t + 1) ∧ y.toInt = 1 ∧ hG τ h1 ∧ ∀ k j, (k ≠ 0 ∨ j ≠ 4) → hsl h1 k j = hsl h k j := by
  have key : qX 31 276 0 [some (.inl (some 0)), some (zi xn), some (.inl (some 388)), none] [] h t (rI (fun y h1 => y.toInt = 1 ∧ hG τ h1 ∧ ∀ k j, (k ≠ 0 ∨ j ≠ 4) → hsl h1 k j = hsl h k j) (t + 1)) := by
    refine y_same (i := .aload_n 2) (len := 1) (r := (0, 0, 0, 0)) (pc' := 1) (ls' := [some (.inl (some 0)), some (zi xn), some (.inl (some 388)), none]) (st' := [.inl (some 388)]) (by decide +kernel) (fun k q => by cases q) rfl ?_
    refine y_ic (c := 0) (len := 1) (r := (0, 0, 0, 0)) (by decide +kernel) (by decide) (fun y1968 hy1968 => ?_)
    refine y_same (i := .aload_n 0) (len := 1) (r := (0, 0, 0, 0)) (pc' := 3) (ls' := [some (.inl (some 0)), some (zi xn), some (.inl (some 388)), none]) (st' := [.inl (some 0), zi y1968, .inl (some 388)]) (by decide +kernel) (fun k q => by cases q) rfl ?_
    refine y_same (i := .iload_n 1) (len := 1) (r := (0, 0, 0, 0)) (pc' := 4) (ls' := [some (.inl (some 0)), some (zi xn), some (.inl (some 388)), none]) (st' := [zi xn, .inl (some 0), zi y1968, .inl (some 388)]) (by decide +kernel) (fun k q => by cases q) rfl ?_
    refine y_cC (i := .invokevirtual 7) (len := 3) (r := (0, 133, 11, 848)) (nL := 3) (k := 1) (n := 2) (hs := []) (args := [.inl (some 0), zi xn]) (rest := [zi y1968, .inl (some 388)]) (l0 := [some (.inl (some 0)), some (zi xn), none]) (by decide +kernel) (Or.inr (Or.inl ⟨_, rfl⟩)) rfl rfl rfl rfl (Nat.le_of_ble_eq_true rfl) (zO hg (tv0 hg) aw0 rfl) rfl rfl (mL := 4) (mk := 1) (m9 := 3) (ms := [(0, 9, 12, 1)]) rfl rfl (qT_le (by decide) (c_textT hg hT eT ho)) (fun h1969 hR1969 => ?_)
    obtain ⟨hg1969, F1969⟩ := hR1969
    refine y_same (i := .astore_n 3) (len := 1) (r := (0, 0, 0, 0)) (pc' := 13) (ls' := [some (.inl (some 0)), some (zi xn), some (.inl (some 388)), some (.inl (some 1000001))]) (st' := []) (by decide +kernel) (fun k q => by cases q) rfl ?_
    refine y_ic (c := 1) (len := 1) (r := (0, 0, 0, 0)) (by decide +kernel) (by decide) (fun y1970 hy1970 => ?_)
    refine y_rI (len := 1) (r := (0, 0, 0, 0)) (nL := 4) (k := 1) (n9 := 3) (hs := [(0, 9, 12, 1)]) (by decide +kernel) rfl rfl ?_
    exact ⟨by omega, hg1969, fun k j hC => (F1969 k j (by omega))⟩
  obtain ⟨x, k, y, h1, rfl, hR⟩ := key
  exact ⟨y, h1, qE_le (by decide) (qE_of k), hR⟩
