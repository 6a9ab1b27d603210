/-! the class's row of what can be taken back -/
theorem tv14 {τ : List Nat} {h : zh} (hg : hG τ h) : τ[14]? = some 14 := hg.1.2.2.1 _ _ atau_pr.2.2.1
theorem pO1_up {h h1 : zh} {a : Nat} (o : pO1 h a) (e : ∀ k j, a ≤ k → k < a + 11 → hsl h1 k j = hsl h k j) : pO1 h1 a :=
  ⟨o.1, layC_up o.2.1 (fun k j h1 h2 => e k j (by omega) h2), rfs_up o.2.2.1 (e _ _ (by omega) (by omega)), rfs_up o.2.2.2 (e _ _ (by omega) (by omega))⟩
theorem rfs_eq {h : zh} {a j v w : Nat} (r : rfs h a j v) (s : rfs h a j w) : v = w := by
  have e := r.symm.trans s
  cases e
  rfl
theorem RC_kp {h h1 : zh} {cur : bsT} {hs : List bsT} {s n a : Nat} (hl : hs.length ≤ 10) (hs9 : s < 10) (en : n = (s + hs.length) % 10) (ha : 388 < a) (Pk : ∀ k, k < 10 → k ≠ n → hsl h 14 k = some (.inl none) ∨ ∃ a', rfs h 14 k a' ∧ pO1 h a' ∧ (a' + 11 ≤ a ∨ a + 11 ≤ a')) (inj : ∀ k k' a', k < 10 → k' < 10 → k ≠ n → k' ≠ n → rfs h 14 k a' → rfs h 14 k' a' → k = k') (hcur : ∃ u v, uv_ u v ∧ layC h 2 ∧ bsC h 2 u v cur) (hh : ∀ (j : Nat) (b : bsT), hs[j]? = some b → ∃ a', rfs h 14 ((s + j) % 10) a' ∧ bsC h a' 1 6 b) (F : ∀ k j, (k ≠ 13 ∨ j = 0) → (k ≠ 14 ∨ j ≠ n) → (k < a ∨ a + 11 ≤ k) → hsl h1 k j = hsl h k j) (pa : rfs h1 14 n a) (o1 : pO1 h1 a) (ba : bsC h1 a 1 6 cur) (c1 : ci_ h1 13 1 ((n + 1) % 10)) (c2 : ci_ h1 13 2 (min (hs.length + 1) 10)) : RC h1 cur (psh hs cur) := by
  have up : ∀ k a', k < 10 → k ≠ n → rfs h 14 k a' → pO1 h a' ∧ (a' + 11 ≤ a ∨ a + 11 ≤ a') := by
    intro k a' hk hn r
    rcases Pk k hk hn with e | ⟨b, r2, o2, d2⟩
    · have := r.symm.trans e
      cases this
    · have := rfs_eq r r2
      subst this
      exact ⟨o2, d2⟩
  have upb : ∀ k a' b, k < 10 → k ≠ n → rfs h 14 k a' → bsC h a' 1 6 b → rfs h1 14 k a' ∧ bsC h1 a' 1 6 b := by
    intro k a' b hk hn r hb
    obtain ⟨o2, d2⟩ := up k a' hk hn r
    have o3 := o2.1
    exact ⟨rfs_up r (F 14 k (by omega) (by omega) (by omega)), bsC_up (Or.inl ⟨rfl, rfl⟩) hb (fun k j h1 h2 => F k j (by omega) (by omega) (by omega))⟩
  have back : ∀ k a', k < 10 → k ≠ n → rfs h1 14 k a' → rfs h 14 k a' := fun k a' hk hn r => (F 14 k (by omega) (by omega) (by omega)).symm.trans r
  have hn : n < 10 := by omega
  refine ⟨⟨fun k hk => ?_, fun k k' a' hk hk' r r' => ?_⟩, ?_, ?_, ?_⟩
  · by_cases hkn : k = n
    · subst hkn
      exact Or.inr ⟨a, pa, o1⟩
    · rcases Pk k hk hkn with e | ⟨b, r2, o2, d2⟩
      · exact Or.inl ((F 14 k (by omega) (by omega) (by omega)).trans e)
      · have o3 := o2.1
        exact Or.inr ⟨b, rfs_up r2 (F 14 k (by omega) (by omega) (by omega)), pO1_up o2 (fun k j h1 h2 => F k j (by omega) (by omega) (by omega))⟩
  · by_cases hkn : k = n
    · by_cases hkn' : k' = n
      · omega
      · exfalso
        subst hkn
        have e := rfs_eq pa r
        subst e
        have := (up k' a hk' hkn' (back k' a hk' hkn' r')).2
        omega
    · by_cases hkn' : k' = n
      · exfalso
        subst hkn'
        have e := rfs_eq pa r'
        subst e
        have := (up k a hk hkn (back k a hk hkn r)).2
        omega
      · exact inj k k' a' hk hk' hkn hkn' (back k a' hk hkn r) (back k' a' hk' hkn' r')
  · obtain ⟨u, v, huv, l2, b2⟩ := hcur
    exact ⟨u, v, huv, layC_up l2 (fun k j h1 h2 => F k j (by omega) (by omega) (by omega)), bsC_up huv b2 (fun k j h1 h2 => F k j (by omega) (by omega) (by omega))⟩
  · rw [psh_len hl]
    omega
  · refine ⟨if hs.length = 10 then (s + 1) % 10 else s, (n + 1) % 10, ?_, ?_, c1, ?_, fun j b hj => ?_⟩
    · split <;> omega
    · rw [psh_len hl]
      split <;> omega
    · rw [psh_len hl]
      exact c2
    · rcases psh_get hl hj with ⟨q1, q2, q3⟩ | ⟨q1, q2, q3⟩ | ⟨q1, q2, q3⟩ | ⟨q1, q2, q3⟩
      · obtain ⟨a', r, hb⟩ := hh j b q3
        rw [if_neg (by omega)]
        obtain ⟨z1, z2⟩ := upb _ a' b (by omega) (by omega) r hb
        exact ⟨a', z1, z2⟩
      · rw [if_neg (by omega)]
        subst q3
        rw [show (s + j) % 10 = n by omega]
        exact ⟨a, pa, ba⟩
      · obtain ⟨a', r, hb⟩ := hh (j + 1) b q3
        rw [if_pos q1]
        obtain ⟨z1, z2⟩ := upb _ a' b (by omega) (by omega) r hb
        rw [show ((s + 1) % 10 + j) % 10 = (s + (j + 1)) % 10 by omega]
        exact ⟨a', z1, z2⟩
      · rw [if_pos q1]
        subst q3
        rw [show ((s + 1) % 10 + j) % 10 = n by omega]
        exact ⟨a, pa, ba⟩
theorem g_slot14 {τ : List Nat} {h : zh} {i : Nat} (hg : hG τ h) (hi : i < 10) : ∃ v : zv, hsl h 14 i = some v ∧ (v = .inl none ∨ ∃ b, v = .inl (some b) ∧ τ[b]? = some 1000) := by
  have h14 : τ[14]? = some 14 := hg.1.2.2.1 _ _ atau_pr.2.2.1
  obtain ⟨-, c, hc, hty⟩ := hg.1.2.2.2 14 14 h14
  obtain ⟨w, q, e1, e2, e3⟩ := tyc_slot (i := i) at14 hty (show i < 10 from hi)
  have e4 : aslq (.inl (3, 10, [(10, .inr (.inl (1000, true)))])) i = some (.inr (.inl (1000, true))) := by
    show (bif Nat.blt i 10 then some (.inr (.inl (1000, true)) : qs) else none) = _
    rw [bltT.mpr hi]
    rfl
  rw [e4] at e2
  cases e2
  refine ⟨w, hsl_of hc e1, ?_⟩
  rcases e3 with ⟨-, e3⟩ | ⟨b, e3, e5⟩
  · exact Or.inl e3
  · exact Or.inr ⟨b, e3, e5⟩
theorem keep_1 {t n a u v c : Nat} {τ : List Nat} {h : zh} {cur : bsT} {xn xc : Int32} (hg : hG τ h) (hn : hsl h 13 1 = some (zi xn)) (en : xn.toInt = (n : Int)) (hn9 : n < 10) (hc : hsl h 13 2 = some (zi xc)) (ec : xc.toInt = (c : Int)) (hc9 : c ≤ 10) (pa : rfs h 14 n a) (o1 : pO1 h a) (hu : uv_ u v) (l2 : layC h 2) (b2 : bsC h 2 u v cur) : qX 8 24 49 [some (.inl (some 13)), some (.inl (some 2))] [] h t (rV (fun h1 => hG τ h1 ∧ ci_ h1 13 1 ((n + 1) % 10) ∧ ci_ h1 13 2 (min (c + 1) 10) ∧ pO1 h1 a ∧ bsC h1 a 1 6 cur ∧ ∀ k j, (k ≠ 13 ∨ j = 0) → (k < a ∨ a + 11 ≤ k) → hsl h1 k j = hsl h k j) t) := by
  have a9 := o1.1
  obtain ⟨a8, e8, ta0⟩ : ∃ T, τ[a]? = some T ∧ T = 1000 := by
    obtain ⟨v, e, e2⟩ := g_slot14 hg hn9
    have := pa.symm.trans e
    cases this
    rcases e2 with e2 | ⟨b, e2, e3⟩
    · cases e2
    · cases e2
      exact ⟨_, e3, rfl⟩
  have ta : τ[a]? = some 1000 := by rw [e8, ta0]
  have tA := tyB_of hg (Or.inl ⟨rfl, rfl⟩) ta o1.2.2.1 o1.2.2.2 o1.2.1
  have tB := tyB_of hg hu (tv2 hg) b2.1 b2.2.1 l2
  refine y_same (i := .aload_n 0) (len := 1) (r := (0, 0, 0, 0)) (pc' := 50) (ls' := [some (.inl (some 13)), some (.inl (some 2))]) (st' := [.inl (some 13)]) (by decide +kernel) (fun k q => by cases q) rfl ?_
  refine y_get (j := 11) (len := 3) (r := (2, 0, 2, 220)) (by decide +kernel) hg (tv13 hg) aw13 rfl rfl (g_rU (f := 0) (T2 := 14) hg (tv13 hg) aw13 rfl (by decide)) ?_
  refine y_same (i := .aload_n 0) (len := 1) (r := (0, 0, 0, 0)) (pc' := 54) (ls' := [some (.inl (some 13)), some (.inl (some 2))]) (st' := [.inl (some 13), .inl (some 14)]) (by decide +kernel) (fun k q => by cases q) rfl ?_
  refine y_get (j := 17) (len := 3) (r := (2, 1, 0, 221)) (by decide +kernel) hg (tv13 hg) aw13 rfl rfl hn ?_
  refine y_aal (i := n) (len := 1) (r := (0, 0, 0, 0)) (by decide +kernel) hg (tv14 hg) at14 rfl (by omega) pa ?_
  refine y_same (i := .aload_n 1) (len := 1) (r := (0, 0, 0, 0)) (pc' := 59) (ls' := [some (.inl (some 13)), some (.inl (some 2))]) (st' := [.inl (some 2), .inl (some a)]) (by decide +kernel) (fun k q => by cases q) rfl ?_
  refine y_cV (i := .invokevirtual 25) (len := 3) (r := (0, 109, 9, 454)) (nL := 2) (k := 0) (n := 2) (hs := []) (args := [.inl (some a), .inl (some 2)]) (rest := []) (l0 := [some (.inl (some a)), some (.inl (some 2))]) (by decide +kernel) (Or.inr (Or.inl ⟨_, rfl⟩)) rfl rfl rfl rfl (Nat.le_of_ble_eq_true rfl) (zO hg ta aw1000 rfl) rfl (qV_le (by decide) (e_cpb hg ta (tv2 hg) tA tB (Or.inl ⟨rfl, rfl⟩) hu o1.2.1 l2 o1.2.2.1 o1.2.2.2 b2 (by omega))) (fun h1833 hR1833 => ?_)
  obtain ⟨hg1833, b1833, l1833, F1833⟩ := hR1833
  refine y_same (i := .aload_n 0) (len := 1) (r := (0, 0, 0, 0)) (pc' := 63) (ls' := [some (.inl (some 13)), some (.inl (some 2))]) (st' := [.inl (some 13)]) (by decide +kernel) (fun k q => by cases q) rfl ?_
  refine y_same (i := .aload_n 0) (len := 1) (r := (0, 0, 0, 0)) (pc' := 64) (ls' := [some (.inl (some 13)), some (.inl (some 2))]) (st' := [.inl (some 13), .inl (some 13)]) (by decide +kernel) (fun k q => by cases q) rfl ?_
  have hv1834 := (F1833 13 1 (by omega)).trans hn
  refine y_get (j := 17) (len := 3) (r := (2, 1, 0, 221)) (by decide +kernel) hg1833 (tv13 hg1833) aw13 rfl rfl hv1834 ?_
  refine y_ic (c := 1) (len := 1) (r := (0, 0, 0, 0)) (by decide +kernel) (by decide) (fun y1835 hy1835 => ?_)
  refine y_add (len := 1) (r := (0, 0, 0, 0)) (by decide +kernel) (by omega) (by omega) (fun y1836 hy1836 => ?_)
  refine y_bi (c := 10) (len := 2) (r := (0, 0, 0, 0)) (by decide +kernel) (by decide) (fun y1837 hy1837 => ?_)
  rcases Decidable.em (y1836.toInt ≥ y1837.toInt) with q1838 | q1838
  ·
    refine y_cT (c := .ge) (off := 12) (pc' := 83) (len := 3) (r := (0, 0, 0, 0)) (by decide +kernel) (acmpT (c := .ge) (by show _ ≤ _; omega)) (by decide +kernel) ?_
    refine y_ic (c := 0) (len := 1) (r := (0, 0, 0, 0)) (by decide +kernel) (by decide) (fun y1839 hy1839 => ?_)
    refine y_put (j := 17) (lo := (-2147483648)) (hi := 2147483647) (len := 3) (r := (2, 1, 0, 221)) (by decide +kernel) hg1833 (tv13 hg1833) aw13 rfl rfl (by decide) rfl (qin_full _).1 (qin_full _).2 rfl (fun h1840 hg1840 hl1840 hs1840 ho1840 => ?_)
    have ho1840 : hO 13 1 h1833 h1840 := ho1840
    have hs1840 : hsl h1840 13 1 = some (zi y1839) := hs1840
    refine y_same (i := .aload_n 0) (len := 1) (r := (0, 0, 0, 0)) (pc' := 88) (ls' := [some (.inl (some 13)), some (.inl (some 2))]) (st' := [.inl (some 13)]) (by decide +kernel) (fun k q => by cases q) rfl ?_
    refine y_same (i := .aload_n 0) (len := 1) (r := (0, 0, 0, 0)) (pc' := 89) (ls' := [some (.inl (some 13)), some (.inl (some 2))]) (st' := [.inl (some 13), .inl (some 13)]) (by decide +kernel) (fun k q => by cases q) rfl ?_
    have hv1841 := (F1833 13 2 (by omega)).trans hc
    have hv1842 := (ho1840 13 2 (Or.inr (by omega))).trans hv1841
    refine y_get (j := 21) (len := 3) (r := (2, 2, 0, 222)) (by decide +kernel) hg1840 (tv13 hg1840) aw13 rfl rfl hv1842 ?_
    refine y_ic (c := 1) (len := 1) (r := (0, 0, 0, 0)) (by decide +kernel) (by decide) (fun y1843 hy1843 => ?_)
    refine y_add (len := 1) (r := (0, 0, 0, 0)) (by decide +kernel) (by omega) (by omega) (fun y1844 hy1844 => ?_)
    refine y_bi (c := 10) (len := 2) (r := (0, 0, 0, 0)) (by decide +kernel) (by decide) (fun y1845 hy1845 => ?_)
    refine y_cI (i := .invokestatic 29) (len := 3) (r := (1, 267, 60, 469)) (nL := 2) (k := 1) (n := 2) (hs := []) (args := [zi y1844, zi y1845]) (rest := [.inl (some 13)]) (l0 := [some (zi y1844), some (zi y1845)]) (by decide +kernel) (Or.inl ⟨_, rfl⟩) rfl rfl rfl rfl (Nat.le_of_ble_eq_true rfl) rfl rfl (qI_le (by omega) (e_jmin (d := 0))) (fun y1846 qy1846 hRy1846 => ?_)
    obtain ⟨rfl, my1846, wy1846⟩ := hRy1846
    have ey1846 : y1846.toInt = ((min (c + 1) 10 : Nat) : Int) := by omega
    refine y_put (j := 21) (lo := (-2147483648)) (hi := 2147483647) (len := 3) (r := (2, 2, 0, 222)) (by decide +kernel) hg1840 (tv13 hg1840) aw13 rfl rfl (by decide) rfl (qin_full _).1 (qin_full _).2 rfl (fun h1847 hg1847 hl1847 hs1847 ho1847 => ?_)
    have ho1847 : hO 13 2 h1840 h1847 := ho1847
    have hs1847 : hsl h1847 13 2 = some (zi y1846) := hs1847
    refine y_rV (len := 1) (r := (0, 0, 0, 0)) (nL := 2) (n9 := 2) (hs := []) (by decide +kernel) rfl ?_
    have hv1848 := (ho1847 13 1 (Or.inr (by omega))).trans hs1840
    exact ⟨hg1847, ⟨_, hv1848, by omega⟩, ⟨_, hs1847, by omega⟩, ⟨o1.1, layC_up l1833 (fun k j h1 h2 => ((ho1847 k j (by omega)).trans (ho1840 k j (by omega)))), rfs_up b1833.1 (((ho1847 a 0 (by omega)).trans (ho1840 a 0 (by omega)))), rfs_up b1833.2.1 (((ho1847 a 1 (by omega)).trans (ho1840 a 1 (by omega))))⟩, bsC_up (Or.inl ⟨rfl, rfl⟩) b1833 (fun k j h1 h2 => ((ho1847 k j (by omega)).trans (ho1840 k j (by omega)))), fun k j h1 h2 => ((ho1847 k j (by omega)).trans ((ho1840 k j (by omega)).trans (F1833 k j (by omega))))⟩
  ·
    refine y_cF (c := .ge) (off := 12) (len := 3) (r := (0, 0, 0, 0)) (by decide +kernel) (acmpF (c := .ge) (by show _ < _; omega)) ?_
    refine y_same (i := .aload_n 0) (len := 1) (r := (0, 0, 0, 0)) (pc' := 75) (ls' := [some (.inl (some 13)), some (.inl (some 2))]) (st' := [.inl (some 13), .inl (some 13)]) (by decide +kernel) (fun k q => by cases q) rfl ?_
    refine y_get (j := 17) (len := 3) (r := (2, 1, 0, 221)) (by decide +kernel) hg1833 (tv13 hg1833) aw13 rfl rfl hv1834 ?_
    refine y_ic (c := 1) (len := 1) (r := (0, 0, 0, 0)) (by decide +kernel) (by decide) (fun y1849 hy1849 => ?_)
    refine y_add (len := 1) (r := (0, 0, 0, 0)) (by decide +kernel) (by omega) (by omega) (fun y1850 hy1850 => ?_)
    refine y_goto (off := 4) (pc' := 84) (len := 3) (r := (0, 0, 0, 0)) (by decide +kernel) (by decide +kernel) ?_
    refine y_put (j := 17) (lo := (-2147483648)) (hi := 2147483647) (len := 3) (r := (2, 1, 0, 221)) (by decide +kernel) hg1833 (tv13 hg1833) aw13 rfl rfl (by decide) rfl (qin_full _).1 (qin_full _).2 rfl (fun h1851 hg1851 hl1851 hs1851 ho1851 => ?_)
    have ho1851 : hO 13 1 h1833 h1851 := ho1851
    have hs1851 : hsl h1851 13 1 = some (zi y1850) := hs1851
    refine y_same (i := .aload_n 0) (len := 1) (r := (0, 0, 0, 0)) (pc' := 88) (ls' := [some (.inl (some 13)), some (.inl (some 2))]) (st' := [.inl (some 13)]) (by decide +kernel) (fun k q => by cases q) rfl ?_
    refine y_same (i := .aload_n 0) (len := 1) (r := (0, 0, 0, 0)) (pc' := 89) (ls' := [some (.inl (some 13)), some (.inl (some 2))]) (st' := [.inl (some 13), .inl (some 13)]) (by decide +kernel) (fun k q => by cases q) rfl ?_
    have hv1852 := (F1833 13 2 (by omega)).trans hc
    have hv1853 := (ho1851 13 2 (Or.inr (by omega))).trans hv1852
    refine y_get (j := 21) (len := 3) (r := (2, 2, 0, 222)) (by decide +kernel) hg1851 (tv13 hg1851) aw13 rfl rfl hv1853 ?_
    refine y_ic (c := 1) (len := 1) (r := (0, 0, 0, 0)) (by decide +kernel) (by decide) (fun y1854 hy1854 => ?_)
    refine y_add (len := 1) (r := (0, 0, 0, 0)) (by decide +kernel) (by omega) (by omega) (fun y1855 hy1855 => ?_)
    refine y_bi (c := 10) (len := 2) (r := (0, 0, 0, 0)) (by decide +kernel) (by decide) (fun y1856 hy1856 => ?_)
    refine y_cI (i := .invokestatic 29) (len := 3) (r := (1, 267, 60, 469)) (nL := 2) (k := 1) (n := 2) (hs := []) (args := [zi y1855, zi y1856]) (rest := [.inl (some 13)]) (l0 := [some (zi y1855), some (zi y1856)]) (by decide +kernel) (Or.inl ⟨_, rfl⟩) rfl rfl rfl rfl (Nat.le_of_ble_eq_true rfl) rfl rfl (qI_le (by omega) (e_jmin (d := 0))) (fun y1857 qy1857 hRy1857 => ?_)
    obtain ⟨rfl, my1857, wy1857⟩ := hRy1857
    have ey1857 : y1857.toInt = ((min (c + 1) 10 : Nat) : Int) := by omega
    refine y_put (j := 21) (lo := (-2147483648)) (hi := 2147483647) (len := 3) (r := (2, 2, 0, 222)) (by decide +kernel) hg1851 (tv13 hg1851) aw13 rfl rfl (by decide) rfl (qin_full _).1 (qin_full _).2 rfl (fun h1858 hg1858 hl1858 hs1858 ho1858 => ?_)
    have ho1858 : hO 13 2 h1851 h1858 := ho1858
    have hs1858 : hsl h1858 13 2 = some (zi y1857) := hs1858
    refine y_rV (len := 1) (r := (0, 0, 0, 0)) (nL := 2) (n9 := 2) (hs := []) (by decide +kernel) rfl ?_
    have hv1859 := (ho1858 13 1 (Or.inr (by omega))).trans hs1851
    exact ⟨hg1858, ⟨_, hv1859, by omega⟩, ⟨_, hs1858, by omega⟩, ⟨o1.1, layC_up l1833 (fun k j h1 h2 => ((ho1858 k j (by omega)).trans (ho1851 k j (by omega)))), rfs_up b1833.1 (((ho1858 a 0 (by omega)).trans (ho1851 a 0 (by omega)))), rfs_up b1833.2.1 (((ho1858 a 1 (by omega)).trans (ho1851 a 1 (by omega))))⟩, bsC_up (Or.inl ⟨rfl, rfl⟩) b1833 (fun k j h1 h2 => ((ho1858 k j (by omega)).trans (ho1851 k j (by omega)))), fun k j h1 h2 => ((ho1858 k j (by omega)).trans ((ho1851 k j (by omega)).trans (F1833 k j (by omega))))⟩
theorem len_389 {τ : List Nat} {h : zh} (hg : hG τ h) : 388 < h.length := by
  rw [← hg.1.1]
  exact (List.getElem?_eq_some_iff.mp (hg.1.2.2.1 388 388 (by decide +kernel))).1
theorem hsl_none {h : zh} {k j : Nat} (hk : h.length ≤ k) : hsl h k j = none := by
  unfold hsl
  rw [List.getElem?_eq_none hk]
theorem ty_lt {τ : List Nat} {h : zh} {k T : Nat} (hg : hG τ h) (hk : τ[k]? = some T) : k < h.length := by
  rw [← hg.1.1]
  exact (List.getElem?_eq_some_iff.mp hk).1
theorem e_keep {t : Nat} {τ : List Nat} {h : zh} {cur : bsT} {hs : List bsT} (hg : hG τ h) (rc : RC h cur hs) : qV 9 24 [some (.inl (some 13)), some (.inl (some 2))] h t (fun h1 => ∃ τ1, aup τ τ1 ∧ hG τ1 h1 ∧ RC h1 cur (psh hs cur) ∧ ∀ k j, (k ≠ 13 ∧ k ≠ 14 ∧ k < 389) → hsl h1 k j = hsl h k j) := by
  obtain ⟨⟨p1, p2⟩, ⟨u, v, hu, l2, b2⟩, hl, s, n, hs9, en9, ⟨xn, hn, en⟩, ⟨xc, hc, ec⟩, hh⟩ := rc
  have hn9 : n < 10 := by omega
  have hL := len_389 hg
  have tyA : ∀ k a', k < 10 → rfs h 14 k a' → τ[a']? = some 1000 := by
    intro k a' hk r
    obtain ⟨v, e, e2⟩ := g_slot14 hg hk
    have := r.symm.trans e
    cases this
    rcases e2 with e2 | ⟨b, e2, e3⟩
    · cases e2
    · cases e2
      exact e3
  have tyA2 : ∀ k a', k < 10 → rfs h 14 k a' → pO1 h a' → tyS τ (a' + 1) ∧ tyS τ (a' + 6) := fun k a' hk r o => tyB_of hg (Or.inl ⟨rfl, rfl⟩) (tyA k a' hk r) o.2.2.1 o.2.2.2 o.2.1
  refine qV_of ?_
  rcases p1 n hn9 with rz | ⟨a, ra, o1⟩
  ·
    refine y_same (i := .aload_n 0) (len := 1) (r := (0, 0, 0, 0)) (pc' := 1) (ls' := [some (.inl (some 13)), some (.inl (some 2))]) (st' := [.inl (some 13)]) (by decide +kernel) (fun k q => by cases q) rfl ?_
    refine y_get (j := 17) (len := 3) (r := (2, 1, 0, 221)) (by decide +kernel) hg (tv13 hg) aw13 rfl rfl hn ?_
    refine y_iF (c := .lt) (off := 12) (len := 3) (r := (0, 0, 0, 0)) (by decide +kernel) (acmpF (c := .lt) (by show _ ≤ _; omega)) ?_
    refine y_same (i := .aload_n 0) (len := 1) (r := (0, 0, 0, 0)) (pc' := 8) (ls' := [some (.inl (some 13)), some (.inl (some 2))]) (st' := [.inl (some 13)]) (by decide +kernel) (fun k q => by cases q) rfl ?_
    refine y_get (j := 17) (len := 3) (r := (2, 1, 0, 221)) (by decide +kernel) hg (tv13 hg) aw13 rfl rfl hn ?_
    refine y_bi (c := 10) (len := 2) (r := (0, 0, 0, 0)) (by decide +kernel) (by decide) (fun y1861 hy1861 => ?_)
    refine y_cT (c := .lt) (off := 8) (pc' := 21) (len := 3) (r := (0, 0, 0, 0)) (by decide +kernel) (acmpT (c := .lt) (by show _ < _; omega)) (by decide +kernel) ?_
    refine y_same (i := .aload_n 0) (len := 1) (r := (0, 0, 0, 0)) (pc' := 22) (ls' := [some (.inl (some 13)), some (.inl (some 2))]) (st' := [.inl (some 13)]) (by decide +kernel) (fun k q => by cases q) rfl ?_
    refine y_get (j := 11) (len := 3) (r := (2, 0, 2, 220)) (by decide +kernel) hg (tv13 hg) aw13 rfl rfl (g_rU (f := 0) (T2 := 14) hg (tv13 hg) aw13 rfl (by decide)) ?_
    refine y_same (i := .aload_n 0) (len := 1) (r := (0, 0, 0, 0)) (pc' := 26) (ls' := [some (.inl (some 13)), some (.inl (some 2))]) (st' := [.inl (some 13), .inl (some 14)]) (by decide +kernel) (fun k q => by cases q) rfl ?_
    refine y_get (j := 17) (len := 3) (r := (2, 1, 0, 221)) (by decide +kernel) hg (tv13 hg) aw13 rfl rfl hn ?_
    refine y_aal (i := n) (len := 1) (r := (0, 0, 0, 0)) (by decide +kernel) hg (tv14 hg) at14 rfl (by omega) rz ?_
    refine y_same (i := .ifnonnull 19) (len := 3) (r := (0, 0, 0, 0)) (pc' := 33) (ls' := [some (.inl (some 13)), some (.inl (some 2))]) (st' := []) (by decide +kernel) (fun k q => by cases q) rfl ?_
    have p14 := tv14 hg
    obtain ⟨-, cA, hcA, htyA⟩ := hg.1.2.2.2 14 14 p14
    obtain ⟨fsA, rfl, hlA⟩ := tyc_arr at14 htyA
    have p13 := tv13 hg
    obtain ⟨-, cH, hcH, htyH⟩ := hg.1.2.2.2 13 13 p13
    obtain ⟨fsH, rfl, hlH⟩ := tyc_obj at13 htyH
    have hj9 : h.length ≤ 5899 := by
      have h9 := hg.2.1
      omega
    have g4 := rz
    rw [hsl_arr hcA] at g4
    have f4 := hn
    rw [hsl_obj hcH] at f4
    have hty := sides_ty hg.1 (by omega)
    have p14b : (τ ++ sidesT)[14]? = some 14 := aup_app _ _ _ _ p14
    have hnew : (τ ++ sidesT)[h.length]? = some 1000 := by
      have h9 := app_at (a := τ) (b := sidesT) (k := 0) hg.1.1
      exact h9
    have hp0 : fsH[0]? = some (.inl (some 14)) := by
      have e := g_rU (f := 0) (T2 := 14) hg p13 aw13 rfl (by decide)
      rw [hsl_obj hcH] at e
      exact e
    have hM2 : hM (τ ++ sidesT) (hup (h ++ sidesC h.length) 14 n (.inl (some h.length))) := by
      refine hM_hup (w := .inl none) hty p14b at14 (qq := .inr (.inl (1000, true))) ?_ (Or.inr ⟨_, rfl, hnew⟩)
      show (bif Nat.blt n 10 then some (.inr (.inl (1000, true)) : qs) else none) = _
      rw [bltT.mpr hn9]
      rfl
    have hG2 : hG (τ ++ sidesT) (hup (h ++ sidesC h.length) 14 n (.inl (some h.length))) := ⟨hM2, keep_J hg.2 hcA g4 (by omega) _⟩
    have hcA2 : (h ++ sidesC h.length)[14]? = some (.inl (3, fsA)) := by rw [List.getElem?_append_left (by omega)]; exact hcA
    have ha2 : hsl (h ++ sidesC h.length) 14 n = some (.inl none) := by
      rw [hsl_arr hcA2]
      exact g4
    have fr0 : ∀ k j, k < h.length → (k ≠ 14 ∨ j ≠ n) → hsl (hup (h ++ sidesC h.length) 14 n (.inl (some h.length))) k j = hsl h k j := by
      intro k j hk hne
      rw [hup_sl ha2, if_neg (by omega)]
      unfold hsl
      rw [List.getElem?_append_left hk]
    have fr1 : ∀ i j, i < 11 → hsl (hup (h ++ sidesC h.length) 14 n (.inl (some h.length))) (h.length + i) j = hsl (sidesC h.length) i j := by
      intro i j hi
      rw [hup_sl ha2, if_neg (by omega)]
      unfold hsl
      rw [List.getElem?_append_right (by omega), Nat.add_sub_cancel_left]
    have pa : rfs (hup (h ++ sidesC h.length) 14 n (.inl (some h.length))) 14 n h.length := by
      show hsl _ _ _ = _
      rw [hup_sl ha2, if_pos ⟨rfl, rfl⟩]
    have o1 : pO1 (hup (h ++ sidesC h.length) 14 n (.inl (some h.length))) h.length := by
      refine ⟨hL, ⟨⟨?_, ?_, ?_, ?_⟩, ?_, ?_, ?_, ?_⟩, ?_, ?_⟩
      · exact fr1 1 0 (by decide)
      · exact fr1 1 1 (by decide)
      · exact fr1 2 0 (by decide)
      · exact fr1 4 0 (by decide)
      · exact fr1 6 0 (by decide)
      · exact fr1 6 1 (by decide)
      · exact fr1 7 0 (by decide)
      · exact fr1 9 0 (by decide)
      · exact fr1 0 0 (by decide)
      · exact fr1 0 1 (by decide)
    obtain ⟨x, q1, h1, rfl, g1, c1, c2, o2, ba, F⟩ := keep_1 (t := t) hG2 ((fr0 13 1 (by omega) (by omega)).trans hn) en hn9 ((fr0 13 2 (by omega) (by omega)).trans hc) ec hl pa o1 hu (layC_up l2 (fun k j h1 h2 => fr0 k j (by omega) (by omega))) (bsC_up hu b2 (fun k j h1 h2 => fr0 k j (by omega) (by omega)))
    have FF : ∀ k j, (k ≠ 13 ∨ j = 0) → (k ≠ 14 ∨ j ≠ n) → (k < h.length ∨ h.length + 11 ≤ k) → hsl h1 k j = hsl h k j := by
      intro k j h1 h2 h3
      refine (F k j h1 h3).trans ?_
      rcases h3 with h3 | h3
      · exact fr0 k j h3 h2
      · rw [hsl_none (by rw [hup_len, List.length_append]; exact h3), hsl_none (by omega)]
    refine ⟨_, keep_B (d := 5) hcH hp0 f4 hcA (by omega) en (by omega) q1, h1, rfl, τ ++ sidesT, aup_app _ _, g1, RC_kp (n := n) (a := h.length) hl hs9 en9 hL (fun k hk hkn => ?_) (fun k k' a' hk hk' _ _ r r' => p2 k k' a' hk hk' r r') ⟨u, v, hu, l2, b2⟩ hh FF ((F 14 n (by omega) (by omega)).trans pa) o2 ba c1 c2, fun k j hk => FF k j (by omega) (by omega) (by omega)⟩
    rcases p1 k hk with e | ⟨b, r, o⟩
    · exact Or.inl e
    · refine Or.inr ⟨b, r, o, Or.inl ?_⟩
      have := ty_lt hg (tyA2 k b hk r o).2.2.2.2.2
      omega
  ·
    refine y_same (i := .aload_n 0) (len := 1) (r := (0, 0, 0, 0)) (pc' := 1) (ls' := [some (.inl (some 13)), some (.inl (some 2))]) (st' := [.inl (some 13)]) (by decide +kernel) (fun k q => by cases q) rfl ?_
    refine y_get (j := 17) (len := 3) (r := (2, 1, 0, 221)) (by decide +kernel) hg (tv13 hg) aw13 rfl rfl hn ?_
    refine y_iF (c := .lt) (off := 12) (len := 3) (r := (0, 0, 0, 0)) (by decide +kernel) (acmpF (c := .lt) (by show _ ≤ _; omega)) ?_
    refine y_same (i := .aload_n 0) (len := 1) (r := (0, 0, 0, 0)) (pc' := 8) (ls' := [some (.inl (some 13)), some (.inl (some 2))]) (st' := [.inl (some 13)]) (by decide +kernel) (fun k q => by cases q) rfl ?_
    refine y_get (j := 17) (len := 3) (r := (2, 1, 0, 221)) (by decide +kernel) hg (tv13 hg) aw13 rfl rfl hn ?_
    refine y_bi (c := 10) (len := 2) (r := (0, 0, 0, 0)) (by decide +kernel) (by decide) (fun y1860 hy1860 => ?_)
    refine y_cT (c := .lt) (off := 8) (pc' := 21) (len := 3) (r := (0, 0, 0, 0)) (by decide +kernel) (acmpT (c := .lt) (by show _ < _; omega)) (by decide +kernel) ?_
    refine y_same (i := .aload_n 0) (len := 1) (r := (0, 0, 0, 0)) (pc' := 22) (ls' := [some (.inl (some 13)), some (.inl (some 2))]) (st' := [.inl (some 13)]) (by decide +kernel) (fun k q => by cases q) rfl ?_
    refine y_get (j := 11) (len := 3) (r := (2, 0, 2, 220)) (by decide +kernel) hg (tv13 hg) aw13 rfl rfl (g_rU (f := 0) (T2 := 14) hg (tv13 hg) aw13 rfl (by decide)) ?_
    refine y_same (i := .aload_n 0) (len := 1) (r := (0, 0, 0, 0)) (pc' := 26) (ls' := [some (.inl (some 13)), some (.inl (some 2))]) (st' := [.inl (some 13), .inl (some 14)]) (by decide +kernel) (fun k q => by cases q) rfl ?_
    refine y_get (j := 17) (len := 3) (r := (2, 1, 0, 221)) (by decide +kernel) hg (tv13 hg) aw13 rfl rfl hn ?_
    refine y_aal (i := n) (len := 1) (r := (0, 0, 0, 0)) (by decide +kernel) hg (tv14 hg) at14 rfl (by omega) ra ?_
    refine y_nnT (off := 19) (pc' := 49) (len := 3) (r := (0, 0, 0, 0)) (by decide +kernel) (by decide +kernel) (lt_mm hg (tyA n a hn9 ra)) ?_
    refine qX_V (keep_1 (t := t) hg hn en hn9 hc ec hl ra o1 hu l2 b2) (fun h1 hR => ?_)
    obtain ⟨g1, c1, c2, o2, ba, F⟩ := hR
    have o9 := o1.1
    refine ⟨τ, aup_refl _, g1, RC_kp (n := n) (a := a) hl hs9 en9 o1.1 (fun k hk hkn => ?_) (fun k k' a' hk hk' _ _ r r' => p2 k k' a' hk hk' r r') ⟨u, v, hu, l2, b2⟩ hh (fun k j h1 _ h3 => F k j h1 h3) ((F 14 n (by omega) (by omega)).trans ra) o2 ba c1 c2, fun k j hk => F k j (by omega) (by omega)⟩
    rcases p1 k hk with e | ⟨b, r, o⟩
    · exact Or.inl e
    · refine Or.inr ⟨b, r, o, ?_⟩
      have tb := tyA2 k b hk r o
      have ta := tyA2 n a hn9 ra o1
      exact dis_ (tyA k b hk r) tb.1 tb.2 (tyA n a hn9 ra) ta.1 ta.2 (fun e => hkn (p2 k n b hk hn9 r (by rw [e]; exact ra)))
theorem RC_hist {h : zh} {cur : bsT} {hs : List bsT} (rc : RC h cur hs) : hs.length ≤ 10 := rc.2.2.1
theorem tb_x {t n c m u v a : Nat} {τ : List Nat} {h : zh} {cur b9 : bsT} {xn xc : Int32} (hg : hG τ h) (hn : hsl h 13 1 = some (zi xn)) (en : xn.toInt = (n : Int)) (hn9 : n < 10) (hc : hsl h 13 2 = some (zi xc)) (ec : xc.toInt = (c : Int)) (hc9 : c ≤ 10) (em : m = (n + 9) % 10) (hu : uv_ u v) (l2 : layC h 2) (b2 : bsC h 2 u v cur) (hx : c ≠ 0 → rfs h 14 m a ∧ pO1 h a ∧ bsC h a 1 6 b9) : qI 9 25 [some (.inl (some 13)), some (.inl (some 2)), none] h t (fun y h1 => (c = 0 ∧ y.toInt = 0 ∧ h = h1) ∨ (c ≠ 0 ∧ y.toInt = 1 ∧ hG τ h1 ∧ ci_ h1 13 1 m ∧ ci_ h1 13 2 (c - 1) ∧ (∃ u v, uv_ u v ∧ layC h1 2 ∧ bsC h1 2 u v b9) ∧ ∀ k j, ((k ≠ 13 ∨ j = 0) ∧ (k < 2 ∨ 12 < k)) → hsl h1 k j = hsl h k j)) := by
  refine qI_of ?_
  rcases Nat.eq_zero_or_pos c with h0 | h0
  ·
    refine y_same (i := .aload_n 0) (len := 1) (r := (0, 0, 0, 0)) (pc' := 1) (ls' := [some (.inl (some 13)), some (.inl (some 2)), none]) (st' := [.inl (some 13)]) (by decide +kernel) (fun k q => by cases q) rfl ?_
    refine y_get (j := 17) (len := 3) (r := (2, 1, 0, 221)) (by decide +kernel) hg (tv13 hg) aw13 rfl rfl hn ?_
    rcases Decidable.em (xn.toInt ≤ 0) with q1862 | q1862
    ·
      refine y_iT (c := .le) (off := 12) (pc' := 16) (len := 3) (r := (0, 0, 0, 0)) (by decide +kernel) (acmpT (c := .le) (by show _ ≤ _; omega)) (by decide +kernel) ?_
      refine y_bi (c := 9) (len := 2) (r := (0, 0, 0, 0)) (by decide +kernel) (by decide) (fun y1863 hy1863 => ?_)
      refine y_same (i := .istore_n 2) (len := 1) (r := (0, 0, 0, 0)) (pc' := 19) (ls' := [some (.inl (some 13)), some (.inl (some 2)), some (zi y1863)]) (st' := []) (by decide +kernel) (fun k q => by cases q) rfl ?_
      refine y_same (i := .aload_n 0) (len := 1) (r := (0, 0, 0, 0)) (pc' := 20) (ls' := [some (.inl (some 13)), some (.inl (some 2)), some (zi y1863)]) (st' := [.inl (some 13)]) (by decide +kernel) (fun k q => by cases q) rfl ?_
      refine y_get (j := 21) (len := 3) (r := (2, 2, 0, 222)) (by decide +kernel) hg (tv13 hg) aw13 rfl rfl hc ?_
      refine y_iT (c := .le) (off := 18) (pc' := 41) (len := 3) (r := (0, 0, 0, 0)) (by decide +kernel) (acmpT (c := .le) (by show _ ≤ _; omega)) (by decide +kernel) ?_
      refine y_ic (c := 0) (len := 1) (r := (0, 0, 0, 0)) (by decide +kernel) (by decide) (fun y1864 hy1864 => ?_)
      refine y_rI (len := 1) (r := (0, 0, 0, 0)) (nL := 3) (k := 2) (n9 := 2) (hs := []) (by decide +kernel) rfl (zfit_b (by omega) (by omega)).2 ?_
      exact Or.inl ⟨by omega, by omega, rfl⟩
    ·
      refine y_iF (c := .le) (off := 12) (len := 3) (r := (0, 0, 0, 0)) (by decide +kernel) (acmpF (c := .le) (by show _ < _; omega)) ?_
      refine y_same (i := .aload_n 0) (len := 1) (r := (0, 0, 0, 0)) (pc' := 8) (ls' := [some (.inl (some 13)), some (.inl (some 2)), none]) (st' := [.inl (some 13)]) (by decide +kernel) (fun k q => by cases q) rfl ?_
      refine y_get (j := 17) (len := 3) (r := (2, 1, 0, 221)) (by decide +kernel) hg (tv13 hg) aw13 rfl rfl hn ?_
      refine y_ic (c := 1) (len := 1) (r := (0, 0, 0, 0)) (by decide +kernel) (by decide) (fun y1865 hy1865 => ?_)
      refine y_sub (len := 1) (r := (0, 0, 0, 0)) (by decide +kernel) (by omega) (by omega) (fun y1866 hy1866 => ?_)
      refine y_goto (off := 5) (pc' := 18) (len := 3) (r := (0, 0, 0, 0)) (by decide +kernel) (by decide +kernel) ?_
      refine y_same (i := .istore_n 2) (len := 1) (r := (0, 0, 0, 0)) (pc' := 19) (ls' := [some (.inl (some 13)), some (.inl (some 2)), some (zi y1866)]) (st' := []) (by decide +kernel) (fun k q => by cases q) rfl ?_
      refine y_same (i := .aload_n 0) (len := 1) (r := (0, 0, 0, 0)) (pc' := 20) (ls' := [some (.inl (some 13)), some (.inl (some 2)), some (zi y1866)]) (st' := [.inl (some 13)]) (by decide +kernel) (fun k q => by cases q) rfl ?_
      refine y_get (j := 21) (len := 3) (r := (2, 2, 0, 222)) (by decide +kernel) hg (tv13 hg) aw13 rfl rfl hc ?_
      refine y_iT (c := .le) (off := 18) (pc' := 41) (len := 3) (r := (0, 0, 0, 0)) (by decide +kernel) (acmpT (c := .le) (by show _ ≤ _; omega)) (by decide +kernel) ?_
      refine y_ic (c := 0) (len := 1) (r := (0, 0, 0, 0)) (by decide +kernel) (by decide) (fun y1867 hy1867 => ?_)
      refine y_rI (len := 1) (r := (0, 0, 0, 0)) (nL := 3) (k := 2) (n9 := 2) (hs := []) (by decide +kernel) rfl (zfit_b (by omega) (by omega)).2 ?_
      exact Or.inl ⟨by omega, by omega, rfl⟩
  · obtain ⟨ra, o1, ba⟩ := hx (by omega)
    have a9 := o1.1
    have hm9 : m < 10 := by omega
    obtain ⟨a8, e8, ta0⟩ : ∃ T, τ[a]? = some T ∧ T = 1000 := by
      obtain ⟨v, e, e2⟩ := g_slot14 hg hm9
      have := ra.symm.trans e
      cases this
      rcases e2 with e2 | ⟨b, e2, e3⟩
      · cases e2
      · cases e2
        exact ⟨_, e3, rfl⟩
    have ta : τ[a]? = some 1000 := by rw [e8, ta0]
    have tA := tyB_of hg (Or.inl ⟨rfl, rfl⟩) ta o1.2.2.1 o1.2.2.2 o1.2.1
    have tB := tyB_of hg hu (tv2 hg) b2.1 b2.2.1 l2
    refine y_same (i := .aload_n 0) (len := 1) (r := (0, 0, 0, 0)) (pc' := 1) (ls' := [some (.inl (some 13)), some (.inl (some 2)), none]) (st' := [.inl (some 13)]) (by decide +kernel) (fun k q => by cases q) rfl ?_
    refine y_get (j := 17) (len := 3) (r := (2, 1, 0, 221)) (by decide +kernel) hg (tv13 hg) aw13 rfl rfl hn ?_
    rcases Decidable.em (xn.toInt ≤ 0) with q1868 | q1868
    ·
      refine y_iT (c := .le) (off := 12) (pc' := 16) (len := 3) (r := (0, 0, 0, 0)) (by decide +kernel) (acmpT (c := .le) (by show _ ≤ _; omega)) (by decide +kernel) ?_
      refine y_bi (c := 9) (len := 2) (r := (0, 0, 0, 0)) (by decide +kernel) (by decide) (fun y1869 hy1869 => ?_)
      refine y_same (i := .istore_n 2) (len := 1) (r := (0, 0, 0, 0)) (pc' := 19) (ls' := [some (.inl (some 13)), some (.inl (some 2)), some (zi y1869)]) (st' := []) (by decide +kernel) (fun k q => by cases q) rfl ?_
      refine y_same (i := .aload_n 0) (len := 1) (r := (0, 0, 0, 0)) (pc' := 20) (ls' := [some (.inl (some 13)), some (.inl (some 2)), some (zi y1869)]) (st' := [.inl (some 13)]) (by decide +kernel) (fun k q => by cases q) rfl ?_
      refine y_get (j := 21) (len := 3) (r := (2, 2, 0, 222)) (by decide +kernel) hg (tv13 hg) aw13 rfl rfl hc ?_
      refine y_iF (c := .le) (off := 18) (len := 3) (r := (0, 0, 0, 0)) (by decide +kernel) (acmpF (c := .le) (by show _ < _; omega)) ?_
      refine y_same (i := .iload_n 2) (len := 1) (r := (0, 0, 0, 0)) (pc' := 27) (ls' := [some (.inl (some 13)), some (.inl (some 2)), some (zi y1869)]) (st' := [zi y1869]) (by decide +kernel) (fun k q => by cases q) rfl ?_
      refine y_bi (c := 10) (len := 2) (r := (0, 0, 0, 0)) (by decide +kernel) (by decide) (fun y1870 hy1870 => ?_)
      refine y_cF (c := .ge) (off := 12) (len := 3) (r := (0, 0, 0, 0)) (by decide +kernel) (acmpF (c := .ge) (by show _ < _; omega)) ?_
      refine y_same (i := .aload_n 0) (len := 1) (r := (0, 0, 0, 0)) (pc' := 33) (ls' := [some (.inl (some 13)), some (.inl (some 2)), some (zi y1869)]) (st' := [.inl (some 13)]) (by decide +kernel) (fun k q => by cases q) rfl ?_
      refine y_get (j := 11) (len := 3) (r := (2, 0, 2, 220)) (by decide +kernel) hg (tv13 hg) aw13 rfl rfl (g_rU (f := 0) (T2 := 14) hg (tv13 hg) aw13 rfl (by decide)) ?_
      refine y_same (i := .iload_n 2) (len := 1) (r := (0, 0, 0, 0)) (pc' := 37) (ls' := [some (.inl (some 13)), some (.inl (some 2)), some (zi y1869)]) (st' := [zi y1869, .inl (some 14)]) (by decide +kernel) (fun k q => by cases q) rfl ?_
      refine y_aal (i := m) (len := 1) (r := (0, 0, 0, 0)) (by decide +kernel) hg (tv14 hg) at14 rfl (by omega) ra ?_
      refine y_nnT (off := 5) (pc' := 43) (len := 3) (r := (0, 0, 0, 0)) (by decide +kernel) (by decide +kernel) (lt_mm hg ta) ?_
      refine y_same (i := .aload_n 1) (len := 1) (r := (0, 0, 0, 0)) (pc' := 44) (ls' := [some (.inl (some 13)), some (.inl (some 2)), some (zi y1869)]) (st' := [.inl (some 2)]) (by decide +kernel) (fun k q => by cases q) rfl ?_
      refine y_same (i := .aload_n 0) (len := 1) (r := (0, 0, 0, 0)) (pc' := 45) (ls' := [some (.inl (some 13)), some (.inl (some 2)), some (zi y1869)]) (st' := [.inl (some 13), .inl (some 2)]) (by decide +kernel) (fun k q => by cases q) rfl ?_
      refine y_get (j := 11) (len := 3) (r := (2, 0, 2, 220)) (by decide +kernel) hg (tv13 hg) aw13 rfl rfl (g_rU (f := 0) (T2 := 14) hg (tv13 hg) aw13 rfl (by decide)) ?_
      refine y_same (i := .iload_n 2) (len := 1) (r := (0, 0, 0, 0)) (pc' := 49) (ls' := [some (.inl (some 13)), some (.inl (some 2)), some (zi y1869)]) (st' := [zi y1869, .inl (some 14), .inl (some 2)]) (by decide +kernel) (fun k q => by cases q) rfl ?_
      refine y_aal (i := m) (len := 1) (r := (0, 0, 0, 0)) (by decide +kernel) hg (tv14 hg) at14 rfl (by omega) ra ?_
      refine y_cV (i := .invokevirtual 25) (len := 3) (r := (0, 109, 9, 454)) (nL := 2) (k := 0) (n := 2) (hs := []) (args := [.inl (some 2), .inl (some a)]) (rest := []) (l0 := [some (.inl (some 2)), some (.inl (some a))]) (by decide +kernel) (Or.inr (Or.inl ⟨_, rfl⟩)) rfl rfl rfl rfl (Nat.le_of_ble_eq_true rfl) (zO hg (tv2 hg) aw1000 rfl) rfl (qV_le (by decide) (e_cpb hg (tv2 hg) ta tB tA hu (Or.inl ⟨rfl, rfl⟩) l2 o1.2.1 b2.1 b2.2.1 ba (by omega))) (fun h1871 hR1871 => ?_)
      obtain ⟨hg1871, b1871, l1871, F1871⟩ := hR1871
      refine y_same (i := .aload_n 0) (len := 1) (r := (0, 0, 0, 0)) (pc' := 54) (ls' := [some (.inl (some 13)), some (.inl (some 2)), some (zi y1869)]) (st' := [.inl (some 13)]) (by decide +kernel) (fun k q => by cases q) rfl ?_
      refine y_same (i := .iload_n 2) (len := 1) (r := (0, 0, 0, 0)) (pc' := 55) (ls' := [some (.inl (some 13)), some (.inl (some 2)), some (zi y1869)]) (st' := [zi y1869, .inl (some 13)]) (by decide +kernel) (fun k q => by cases q) rfl ?_
      refine y_put (j := 17) (lo := (-2147483648)) (hi := 2147483647) (len := 3) (r := (2, 1, 0, 221)) (by decide +kernel) hg1871 (tv13 hg1871) aw13 rfl rfl (by decide) rfl (qin_full _).1 (qin_full _).2 rfl (fun h1872 hg1872 hl1872 hs1872 ho1872 => ?_)
      have ho1872 : hO 13 1 h1871 h1872 := ho1872
      have hs1872 : hsl h1872 13 1 = some (zi y1869) := hs1872
      refine y_same (i := .aload_n 0) (len := 1) (r := (0, 0, 0, 0)) (pc' := 59) (ls' := [some (.inl (some 13)), some (.inl (some 2)), some (zi y1869)]) (st' := [.inl (some 13)]) (by decide +kernel) (fun k q => by cases q) rfl ?_
      refine y_same (i := .dup) (len := 1) (r := (0, 0, 0, 0)) (pc' := 60) (ls' := [some (.inl (some 13)), some (.inl (some 2)), some (zi y1869)]) (st' := [.inl (some 13), .inl (some 13)]) (by decide +kernel) (fun k q => by cases q) rfl ?_
      have hv1873 := (F1871 13 2 (by omega)).trans hc
      have hv1874 := (ho1872 13 2 (Or.inr (by omega))).trans hv1873
      refine y_get (j := 21) (len := 3) (r := (2, 2, 0, 222)) (by decide +kernel) hg1872 (tv13 hg1872) aw13 rfl rfl hv1874 ?_
      refine y_ic (c := 1) (len := 1) (r := (0, 0, 0, 0)) (by decide +kernel) (by decide) (fun y1875 hy1875 => ?_)
      refine y_sub (len := 1) (r := (0, 0, 0, 0)) (by decide +kernel) (by omega) (by omega) (fun y1876 hy1876 => ?_)
      refine y_put (j := 21) (lo := (-2147483648)) (hi := 2147483647) (len := 3) (r := (2, 2, 0, 222)) (by decide +kernel) hg1872 (tv13 hg1872) aw13 rfl rfl (by decide) rfl (qin_full _).1 (qin_full _).2 rfl (fun h1877 hg1877 hl1877 hs1877 ho1877 => ?_)
      have ho1877 : hO 13 2 h1872 h1877 := ho1877
      have hs1877 : hsl h1877 13 2 = some (zi y1876) := hs1877
      refine y_ic (c := 1) (len := 1) (r := (0, 0, 0, 0)) (by decide +kernel) (by decide) (fun y1878 hy1878 => ?_)
      refine y_rI (len := 1) (r := (0, 0, 0, 0)) (nL := 3) (k := 2) (n9 := 2) (hs := []) (by decide +kernel) rfl (zfit_b (by omega) (by omega)).2 ?_
      have hv1879 := (ho1877 13 1 (Or.inr (by omega))).trans hs1872
      exact Or.inr ⟨by omega, by omega, hg1877, ⟨_, hv1879, by omega⟩, ⟨_, hs1877, by omega⟩, ⟨u, v, hu, layC_up l1871 (fun k j h1 h2 => ((ho1877 k j (by omega)).trans (ho1872 k j (by omega)))), bsC_up hu b1871 (fun k j h1 h2 => ((ho1877 k j (by omega)).trans (ho1872 k j (by omega))))⟩, fun k j h1 => ((ho1877 k j (by omega)).trans ((ho1872 k j (by omega)).trans (F1871 k j (by omega))))⟩
    ·
      refine y_iF (c := .le) (off := 12) (len := 3) (r := (0, 0, 0, 0)) (by decide +kernel) (acmpF (c := .le) (by show _ < _; omega)) ?_
      refine y_same (i := .aload_n 0) (len := 1) (r := (0, 0, 0, 0)) (pc' := 8) (ls' := [some (.inl (some 13)), some (.inl (some 2)), none]) (st' := [.inl (some 13)]) (by decide +kernel) (fun k q => by cases q) rfl ?_
      refine y_get (j := 17) (len := 3) (r := (2, 1, 0, 221)) (by decide +kernel) hg (tv13 hg) aw13 rfl rfl hn ?_
      refine y_ic (c := 1) (len := 1) (r := (0, 0, 0, 0)) (by decide +kernel) (by decide) (fun y1880 hy1880 => ?_)
      refine y_sub (len := 1) (r := (0, 0, 0, 0)) (by decide +kernel) (by omega) (by omega) (fun y1881 hy1881 => ?_)
      refine y_goto (off := 5) (pc' := 18) (len := 3) (r := (0, 0, 0, 0)) (by decide +kernel) (by decide +kernel) ?_
      refine y_same (i := .istore_n 2) (len := 1) (r := (0, 0, 0, 0)) (pc' := 19) (ls' := [some (.inl (some 13)), some (.inl (some 2)), some (zi y1881)]) (st' := []) (by decide +kernel) (fun k q => by cases q) rfl ?_
      refine y_same (i := .aload_n 0) (len := 1) (r := (0, 0, 0, 0)) (pc' := 20) (ls' := [some (.inl (some 13)), some (.inl (some 2)), some (zi y1881)]) (st' := [.inl (some 13)]) (by decide +kernel) (fun k q => by cases q) rfl ?_
      refine y_get (j := 21) (len := 3) (r := (2, 2, 0, 222)) (by decide +kernel) hg (tv13 hg) aw13 rfl rfl hc ?_
      refine y_iF (c := .le) (off := 18) (len := 3) (r := (0, 0, 0, 0)) (by decide +kernel) (acmpF (c := .le) (by show _ < _; omega)) ?_
      refine y_same (i := .iload_n 2) (len := 1) (r := (0, 0, 0, 0)) (pc' := 27) (ls' := [some (.inl (some 13)), some (.inl (some 2)), some (zi y1881)]) (st' := [zi y1881]) (by decide +kernel) (fun k q => by cases q) rfl ?_
      refine y_bi (c := 10) (len := 2) (r := (0, 0, 0, 0)) (by decide +kernel) (by decide) (fun y1882 hy1882 => ?_)
      refine y_cF (c := .ge) (off := 12) (len := 3) (r := (0, 0, 0, 0)) (by decide +kernel) (acmpF (c := .ge) (by show _ < _; omega)) ?_
      refine y_same (i := .aload_n 0) (len := 1) (r := (0, 0, 0, 0)) (pc' := 33) (ls' := [some (.inl (some 13)), some (.inl (some 2)), some (zi y1881)]) (st' := [.inl (some 13)]) (by decide +kernel) (fun k q => by cases q) rfl ?_
      refine y_get (j := 11) (len := 3) (r := (2, 0, 2, 220)) (by decide +kernel) hg (tv13 hg) aw13 rfl rfl (g_rU (f := 0) (T2 := 14) hg (tv13 hg) aw13 rfl (by decide)) ?_
      refine y_same (i := .iload_n 2) (len := 1) (r := (0, 0, 0, 0)) (pc' := 37) (ls' := [some (.inl (some 13)), some (.inl (some 2)), some (zi y1881)]) (st' := [zi y1881, .inl (some 14)]) (by decide +kernel) (fun k q => by cases q) rfl ?_
      refine y_aal (i := m) (len := 1) (r := (0, 0, 0, 0)) (by decide +kernel) hg (tv14 hg) at14 rfl (by omega) ra ?_
      refine y_nnT (off := 5) (pc' := 43) (len := 3) (r := (0, 0, 0, 0)) (by decide +kernel) (by decide +kernel) (lt_mm hg ta) ?_
      refine y_same (i := .aload_n 1) (len := 1) (r := (0, 0, 0, 0)) (pc' := 44) (ls' := [some (.inl (some 13)), some (.inl (some 2)), some (zi y1881)]) (st' := [.inl (some 2)]) (by decide +kernel) (fun k q => by cases q) rfl ?_
      refine y_same (i := .aload_n 0) (len := 1) (r := (0, 0, 0, 0)) (pc' := 45) (ls' := [some (.inl (some 13)), some (.inl (some 2)), some (zi y1881)]) (st' := [.inl (some 13), .inl (some 2)]) (by decide +kernel) (fun k q => by cases q) rfl ?_
      refine y_get (j := 11) (len := 3) (r := (2, 0, 2, 220)) (by decide +kernel) hg (tv13 hg) aw13 rfl rfl (g_rU (f := 0) (T2 := 14) hg (tv13 hg) aw13 rfl (by decide)) ?_
      refine y_same (i := .iload_n 2) (len := 1) (r := (0, 0, 0, 0)) (pc' := 49) (ls' := [some (.inl (some 13)), some (.inl (some 2)), some (zi y1881)]) (st' := [zi y1881, .inl (some 14), .inl (some 2)]) (by decide +kernel) (fun k q => by cases q) rfl ?_
      refine y_aal (i := m) (len := 1) (r := (0, 0, 0, 0)) (by decide +kernel) hg (tv14 hg) at14 rfl (by omega) ra ?_
      refine y_cV (i := .invokevirtual 25) (len := 3) (r := (0, 109, 9, 454)) (nL := 2) (k := 0) (n := 2) (hs := []) (args := [.inl (some 2), .inl (some a)]) (rest := []) (l0 := [some (.inl (some 2)), some (.inl (some a))]) (by decide +kernel) (Or.inr (Or.inl ⟨_, rfl⟩)) rfl rfl rfl rfl (Nat.le_of_ble_eq_true rfl) (zO hg (tv2 hg) aw1000 rfl) rfl (qV_le (by decide) (e_cpb hg (tv2 hg) ta tB tA hu (Or.inl ⟨rfl, rfl⟩) l2 o1.2.1 b2.1 b2.2.1 ba (by omega))) (fun h1883 hR1883 => ?_)
      obtain ⟨hg1883, b1883, l1883, F1883⟩ := hR1883
      refine y_same (i := .aload_n 0) (len := 1) (r := (0, 0, 0, 0)) (pc' := 54) (ls' := [some (.inl (some 13)), some (.inl (some 2)), some (zi y1881)]) (st' := [.inl (some 13)]) (by decide +kernel) (fun k q => by cases q) rfl ?_
      refine y_same (i := .iload_n 2) (len := 1) (r := (0, 0, 0, 0)) (pc' := 55) (ls' := [some (.inl (some 13)), some (.inl (some 2)), some (zi y1881)]) (st' := [zi y1881, .inl (some 13)]) (by decide +kernel) (fun k q => by cases q) rfl ?_
      refine y_put (j := 17) (lo := (-2147483648)) (hi := 2147483647) (len := 3) (r := (2, 1, 0, 221)) (by decide +kernel) hg1883 (tv13 hg1883) aw13 rfl rfl (by decide) rfl (qin_full _).1 (qin_full _).2 rfl (fun h1884 hg1884 hl1884 hs1884 ho1884 => ?_)
      have ho1884 : hO 13 1 h1883 h1884 := ho1884
      have hs1884 : hsl h1884 13 1 = some (zi y1881) := hs1884
      refine y_same (i := .aload_n 0) (len := 1) (r := (0, 0, 0, 0)) (pc' := 59) (ls' := [some (.inl (some 13)), some (.inl (some 2)), some (zi y1881)]) (st' := [.inl (some 13)]) (by decide +kernel) (fun k q => by cases q) rfl ?_
      refine y_same (i := .dup) (len := 1) (r := (0, 0, 0, 0)) (pc' := 60) (ls' := [some (.inl (some 13)), some (.inl (some 2)), some (zi y1881)]) (st' := [.inl (some 13), .inl (some 13)]) (by decide +kernel) (fun k q => by cases q) rfl ?_
      have hv1885 := (F1883 13 2 (by omega)).trans hc
      have hv1886 := (ho1884 13 2 (Or.inr (by omega))).trans hv1885
      refine y_get (j := 21) (len := 3) (r := (2, 2, 0, 222)) (by decide +kernel) hg1884 (tv13 hg1884) aw13 rfl rfl hv1886 ?_
      refine y_ic (c := 1) (len := 1) (r := (0, 0, 0, 0)) (by decide +kernel) (by decide) (fun y1887 hy1887 => ?_)
      refine y_sub (len := 1) (r := (0, 0, 0, 0)) (by decide +kernel) (by omega) (by omega) (fun y1888 hy1888 => ?_)
      refine y_put (j := 21) (lo := (-2147483648)) (hi := 2147483647) (len := 3) (r := (2, 2, 0, 222)) (by decide +kernel) hg1884 (tv13 hg1884) aw13 rfl rfl (by decide) rfl (qin_full _).1 (qin_full _).2 rfl (fun h1889 hg1889 hl1889 hs1889 ho1889 => ?_)
      have ho1889 : hO 13 2 h1884 h1889 := ho1889
      have hs1889 : hsl h1889 13 2 = some (zi y1888) := hs1889
      refine y_ic (c := 1) (len := 1) (r := (0, 0, 0, 0)) (by decide +kernel) (by decide) (fun y1890 hy1890 => ?_)
      refine y_rI (len := 1) (r := (0, 0, 0, 0)) (nL := 3) (k := 2) (n9 := 2) (hs := []) (by decide +kernel) rfl (zfit_b (by omega) (by omega)).2 ?_
      have hv1891 := (ho1889 13 1 (Or.inr (by omega))).trans hs1884
      exact Or.inr ⟨by omega, by omega, hg1889, ⟨_, hv1891, by omega⟩, ⟨_, hs1889, by omega⟩, ⟨u, v, hu, layC_up l1883 (fun k j h1 h2 => ((ho1889 k j (by omega)).trans (ho1884 k j (by omega)))), bsC_up hu b1883 (fun k j h1 h2 => ((ho1889 k j (by omega)).trans (ho1884 k j (by omega))))⟩, fun k j h1 => ((ho1889 k j (by omega)).trans ((ho1884 k j (by omega)).trans (F1883 k j (by omega))))⟩
theorem RC_tb {h h1 : zh} {b9 : bsT} {hs : List bsT} {s n : Nat} (rc1 : pOK h) (hs9 : s < 10) (hl : (hs ++ [b9]).length ≤ 10) (en : n = (s + hs.length) % 10) (hh : ∀ (j : Nat) (b : bsT), (hs ++ [b9])[j]? = some b → ∃ a, rfs h 14 ((s + j) % 10) a ∧ bsC h a 1 6 b) (c1 : ci_ h1 13 1 n) (c2 : ci_ h1 13 2 hs.length) (hcur : ∃ u v, uv_ u v ∧ layC h1 2 ∧ bsC h1 2 u v b9) (F : ∀ k j, ((k ≠ 13 ∨ j = 0) ∧ (k < 2 ∨ 12 < k)) → hsl h1 k j = hsl h k j) : RC h1 b9 hs := by
  have hl2 : hs.length ≤ 9 := by rw [List.length_append] at hl; simp only [List.length_cons, List.length_nil] at hl; omega
  refine ⟨⟨fun k hk => ?_, fun k k' a hk hk' r r' => rc1.2 k k' a hk hk' ((F 14 k (by omega)).symm.trans r) ((F 14 k' (by omega)).symm.trans r')⟩, hcur, by omega, s, n, hs9, en, c1, c2, fun j b hj => ?_⟩
  · rcases rc1.1 k hk with e | ⟨a, r, o⟩
    · exact Or.inl ((F 14 k (by omega)).trans e)
    · have o9 := o.1
      exact Or.inr ⟨a, rfs_up r (F 14 k (by omega)), pO1_up o (fun k j h1 h2 => F k j (by omega))⟩
  · have hj9 := (List.getElem?_eq_some_iff.mp hj).1
    obtain ⟨a, r, hb⟩ := hh j b (by rw [List.getElem?_append_left hj9]; exact hj)
    rcases rc1.1 ((s + j) % 10) (by omega) with e | ⟨a', r', o⟩
    · have := r.symm.trans e
      cases this
    · have e := rfs_eq r r'
      subst e
      have o9 := o.1
      exact ⟨a, rfs_up r (F 14 _ (by omega)), bsC_up (Or.inl ⟨rfl, rfl⟩) hb (fun k j h1 h2 => F k j (by omega))⟩
theorem e_back {t : Nat} {τ : List Nat} {h : zh} {cur : bsT} {hs : List bsT} (hg : hG τ h) (rc : RC h cur hs) : qI 9 25 [some (.inl (some 13)), some (.inl (some 2)), none] h t (fun y h1 => (hs = [] ∧ y.toInt = 0 ∧ h = h1) ∨ (∃ hs' b, hs = hs' ++ [b] ∧ y.toInt = 1 ∧ hG τ h1 ∧ RC h1 b hs' ∧ ∀ k j, ((k ≠ 13 ∨ j = 0) ∧ (k < 2 ∨ 12 < k)) → hsl h1 k j = hsl h k j)) := by
  obtain ⟨p1, ⟨u, v, hu, l2, b2⟩, hl, s, n, hs9, en9, ⟨xn, hn, en⟩, ⟨xc, hc, ec⟩, hh⟩ := rc
  rcases List.eq_nil_or_concat hs with e | ⟨hs', b, e⟩
  · subst e
    refine qI_imp (tb_x (t := t) (m := (n + 9) % 10) (a := 0) (b9 := cur) hg hn en (by omega) hc ec hl rfl hu l2 b2 (fun q => absurd rfl q)) (fun y h1 hR => ?_)
    rcases hR with ⟨-, q1, q2⟩ | ⟨q, -⟩
    · exact Or.inl ⟨rfl, q1, q2⟩
    · exact absurd rfl q
  · rw [List.concat_eq_append] at e
    subst e
    have hlen : (hs' ++ [b]).length = hs'.length + 1 := by rw [List.length_append]; rfl
    obtain ⟨a, ra, ba⟩ := hh hs'.length b (by rw [List.getElem?_append_right (Nat.le_refl _), Nat.sub_self]; rfl)
    have hm : (s + hs'.length) % 10 = (n + 9) % 10 := by omega
    have o1 : pO1 h a := by
      rcases p1.1 ((s + hs'.length) % 10) (by omega) with e | ⟨a', r', o⟩
      · have := ra.symm.trans e
        cases this
      · have e := rfs_eq ra r'
        subst e
        exact o
    rw [hm] at ra
    refine qI_imp (tb_x (t := t) (m := (n + 9) % 10) (a := a) (b9 := b) hg hn en (by omega) hc ec hl rfl hu l2 b2 (fun _ => ⟨ra, o1, ba⟩)) (fun y h1 hR => ?_)
    rcases hR with ⟨q0, -⟩ | ⟨-, q1, q2, q3, q4, q5, q6⟩
    · omega
    · rw [hlen, Nat.add_sub_cancel] at q4
      exact Or.inr ⟨hs', b, rfl, q1, q2, RC_tb (n := (n + 9) % 10) p1 hs9 hl hm.symm hh q3 q4 q5 q6, q6⟩
