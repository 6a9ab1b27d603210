/-! the model's acts: turn, undo, drop, forget -/
def frM (h h1 : zh) : Prop := ∀ k j, (k < 52 ∨ 67 < k ∨ k = 54 ∨ (k = 52 ∧ j ≠ 0 ∧ j ≠ 12 ∧ j ≠ 31 ∧ j ≠ 47)) → hsl h1 k j = hsl h k j
theorem RM_set {h h1 : zh} {cur cur' : bsT} {hs : List bsT} (rm : RM h cur hs) (b : bsM h1 55 cur') (F : ∀ k j, ((56 < k ∧ k < 68) ∨ (k = 52 ∧ j = 12)) → hsl h1 k j = hsl h k j) : RM h1 cur' hs := by
  obtain ⟨-, r57, c, hl, hh⟩ := rm
  refine ⟨b, fun k hk => rfs_up (r57 k hk) (F _ _ (by omega)), ci_up c (F _ _ (by omega)), hl, fun j b hj => bsM_to (hh j b hj) (fun i => F _ _ ?_)⟩
  have := (List.getElem?_eq_some_iff.mp hj).1
  omega
theorem RM_up {h h1 : zh} {cur : bsT} {hs : List bsT} (rm : RM h cur hs) (F : ∀ k j, (k = 55 ∨ (56 < k ∧ k < 68) ∨ (k = 52 ∧ j = 12)) → hsl h1 k j = hsl h k j) : RM h1 cur hs := RM_set rm (bsM_to rm.1 (fun j => F _ _ (by omega))) (fun k j hC => F k j (by omega))
theorem len55 {τ : List Nat} {h : zh} {b : bsT} (hg : hG τ h) (r : bsM h 55 b) : b.1.1.length ≤ 5 ∧ b.1.2.length ≤ 6 ∧ b.2.1.length ≤ 5 ∧ b.2.2.length ≤ 6 := by
  have key : ∀ (p n : Nat), p < 92 → ci_ h 55 p n → (n : Int) ≤ if p = 1 ∨ p = 47 then 6 else 5 := by
    intro p n hp c
    obtain ⟨x, e1, e2⟩ := c
    obtain ⟨y, f1, f2, f3⟩ := g_int (i := p) hg (tv55 hg) av55 (show p < 92 from hp) (sr92 p hp)
    have := e1.symm.trans f1
    cases this
    omega
  have a1 := key _ _ (by omega) r.1.1
  have a2 := key _ _ (by omega) r.1.2.1
  have a3 := key _ _ (by omega) r.2.1
  have a4 := key _ _ (by omega) r.2.2.1
  exact ⟨by omega, by omega, by omega, by omega⟩
theorem m_parts {d t s : Nat} {τ : List Nat} {h : zh} {x z : Int32} (hg : hG τ h) (hx : x.toInt = (s : Int)) (hs : s ≤ 1) (hz : hsl h 55 (46 * s) = some (zi z)) : qI (d + 1) 166 [some (.inl (some 55)), some (zi x)] h t (fun y h1 => h = h1 ∧ z = y) := by
  refine qI_of ?_
  refine y_same (i := .aload_n 0) (len := 1) (r := (0, 0, 0, 0)) (pc' := 1) (ls' := [some (.inl (some 55)), some (zi x)]) (st' := [.inl (some 55)]) (by decide +kernel) (fun k q => by cases q) rfl ?_
  refine y_bi (c := 46) (len := 2) (r := (0, 0, 0, 0)) (by decide +kernel) (by decide) (fun y1870 hy1870 => ?_)
  refine y_same (i := .iload_n 1) (len := 1) (r := (0, 0, 0, 0)) (pc' := 4) (ls' := [some (.inl (some 55)), some (zi x)]) (st' := [zi x, zi y1870, .inl (some 55)]) (by decide +kernel) (fun k q => by cases q) rfl ?_
  refine y_mul (c := 46) (len := 1) (r := (0, 0, 0, 0)) (by decide +kernel) (by omega) (by omega) (by omega) (fun y1871 hy1871 => ?_)
  refine y_ial (i := (46 * s)) (len := 1) (r := (0, 0, 0, 0)) (by decide +kernel) hg (tv55 hg) av55 (by omega) hz ?_
  refine y_rI (len := 1) (r := (0, 0, 0, 0)) (nL := 2) (k := 1) (n9 := 2) (hs := []) (by decide +kernel) rfl rfl ?_
  exact ⟨rfl, rfl⟩
theorem m_claims {d t s : Nat} {τ : List Nat} {h : zh} {x z : Int32} (hg : hG τ h) (hx : x.toInt = (s : Int)) (hs : s ≤ 1) (hz : hsl h 55 ((46 * s) + 1) = some (zi z)) : qI (d + 1) 167 [some (.inl (some 55)), some (zi x)] h t (fun y h1 => h = h1 ∧ z = y) := by
  refine qI_of ?_
  refine y_same (i := .aload_n 0) (len := 1) (r := (0, 0, 0, 0)) (pc' := 1) (ls' := [some (.inl (some 55)), some (zi x)]) (st' := [.inl (some 55)]) (by decide +kernel) (fun k q => by cases q) rfl ?_
  refine y_bi (c := 46) (len := 2) (r := (0, 0, 0, 0)) (by decide +kernel) (by decide) (fun y1872 hy1872 => ?_)
  refine y_same (i := .iload_n 1) (len := 1) (r := (0, 0, 0, 0)) (pc' := 4) (ls' := [some (.inl (some 55)), some (zi x)]) (st' := [zi x, zi y1872, .inl (some 55)]) (by decide +kernel) (fun k q => by cases q) rfl ?_
  refine y_mul (c := 46) (len := 1) (r := (0, 0, 0, 0)) (by decide +kernel) (by omega) (by omega) (by omega) (fun y1873 hy1873 => ?_)
  refine y_ic (c := 1) (len := 1) (r := (0, 0, 0, 0)) (by decide +kernel) (by decide) (fun y1874 hy1874 => ?_)
  refine y_add (len := 1) (r := (0, 0, 0, 0)) (by decide +kernel) (by omega) (by omega) (fun y1875 hy1875 => ?_)
  refine y_ial (i := ((46 * s) + 1)) (len := 1) (r := (0, 0, 0, 0)) (by decide +kernel) hg (tv55 hg) av55 (by omega) hz ?_
  refine y_rI (len := 1) (r := (0, 0, 0, 0)) (nL := 2) (k := 1) (n9 := 2) (hs := []) (by decide +kernel) rfl rfl ?_
  exact ⟨rfl, rfl⟩
theorem mt_l {t : Nat} {τ : List Nat} {h0 : zh} {P : zo × zh × Nat → Prop} (kk : ∀ (h : zh) (x : Int32) (l : Option zv), hG τ h → (∀ j, j < 46 → hsl h 55 j = hsl h0 55 (46 + j) ∧ hsl h 55 (46 + j) = hsl h0 55 j) → (∀ k i, k ≠ 55 → hsl h k i = hsl h0 k i) → qX 20 188 55 [some (.inl (some 52)), some (zi x), l] [] h t P) : ∀ (n : Nat) (h : zh) (k : Nat) (xk : Int32) (l2 : Option zv), hG τ h → (∀ j, j < k → hsl h 55 j = hsl h0 55 (46 + j) ∧ hsl h 55 (46 + j) = hsl h0 55 j) → (∀ j, k ≤ j → j < 46 → hsl h 55 j = hsl h0 55 j ∧ hsl h 55 (46 + j) = hsl h0 55 (46 + j)) → (∀ k i, k ≠ 55 → hsl h k i = hsl h0 k i) → xk.toInt = (k : Int) → k ≤ 46 → 46 ≤ k + n → qX 20 188 11 [some (.inl (some 52)), some (zi xk), l2] [] h t P := by
  intro n
  induction n with
  | zero =>
    intro h k xk l2 hg c1 c2 c3 hxk hk hn
    refine y_same (i := .iload_n 1) (len := 1) (r := (0, 0, 0, 0)) (pc' := 12) (ls' := [some (.inl (some 52)), some (zi xk), l2]) (st' := [zi xk]) (by decide +kernel) (fun k q => by cases q) rfl ?_
    refine y_bi (c := 46) (len := 2) (r := (0, 0, 0, 0)) (by decide +kernel) (by decide) (fun y1888 hy1888 => ?_)
    refine y_cT (c := .ge) (off := 41) (pc' := 55) (len := 3) (r := (0, 0, 0, 0)) (by decide +kernel) (acmpT (c := .ge) (by show _ ≤ _; omega)) (by decide +kernel) ?_
    exact kk _ _ _ hg (fun j hj => c1 j (by omega)) c3
  | succ n ih =>
    intro h k xk l2 hg c1 c2 c3 hxk hk hn
    rcases Nat.lt_or_ge k 46 with q | q
    ·
      refine y_same (i := .iload_n 1) (len := 1) (r := (0, 0, 0, 0)) (pc' := 12) (ls' := [some (.inl (some 52)), some (zi xk), l2]) (st' := [zi xk]) (by decide +kernel) (fun k q => by cases q) rfl ?_
      refine y_bi (c := 46) (len := 2) (r := (0, 0, 0, 0)) (by decide +kernel) (by decide) (fun y1876 hy1876 => ?_)
      refine y_cF (c := .ge) (off := 41) (len := 3) (r := (0, 0, 0, 0)) (by decide +kernel) (acmpF (c := .ge) (by show _ < _; omega)) ?_
      refine y_same (i := .aload_n 0) (len := 1) (r := (0, 0, 0, 0)) (pc' := 18) (ls' := [some (.inl (some 52)), some (zi xk), l2]) (st' := [.inl (some 52)]) (by decide +kernel) (fun k q => by cases q) rfl ?_
      refine y_get (j := 20) (len := 3) (r := (12, 9, 2, 1337)) (by decide +kernel) hg (t52 hg) at52 rfl rfl (g_r52 (f := 9) (T2 := 55) hg rfl (by decide)).1 ?_
      refine y_same (i := .iload_n 1) (len := 1) (r := (0, 0, 0, 0)) (pc' := 22) (ls' := [some (.inl (some 52)), some (zi xk), l2]) (st' := [zi xk, .inl (some 55)]) (by decide +kernel) (fun k q => by cases q) rfl ?_
      obtain ⟨v1877, hv1878, lv1877, uv1877⟩ := g_int (i := k) hg (tv55 hg) av55 (show k < 92 by omega) (sr92 _ (by omega))
      refine y_ial (i := k) (len := 1) (r := (0, 0, 0, 0)) (by decide +kernel) hg (tv55 hg) av55 (by omega) hv1878 ?_
      refine y_same (i := .istore_n 2) (len := 1) (r := (0, 0, 0, 0)) (pc' := 24) (ls' := [some (.inl (some 52)), some (zi xk), some (zi v1877)]) (st' := []) (by decide +kernel) (fun k q => by cases q) rfl ?_
      refine y_same (i := .aload_n 0) (len := 1) (r := (0, 0, 0, 0)) (pc' := 25) (ls' := [some (.inl (some 52)), some (zi xk), some (zi v1877)]) (st' := [.inl (some 52)]) (by decide +kernel) (fun k q => by cases q) rfl ?_
      refine y_get (j := 20) (len := 3) (r := (12, 9, 2, 1337)) (by decide +kernel) hg (t52 hg) at52 rfl rfl (g_r52 (f := 9) (T2 := 55) hg rfl (by decide)).1 ?_
      refine y_same (i := .iload_n 1) (len := 1) (r := (0, 0, 0, 0)) (pc' := 29) (ls' := [some (.inl (some 52)), some (zi xk), some (zi v1877)]) (st' := [zi xk, .inl (some 55)]) (by decide +kernel) (fun k q => by cases q) rfl ?_
      refine y_same (i := .aload_n 0) (len := 1) (r := (0, 0, 0, 0)) (pc' := 30) (ls' := [some (.inl (some 52)), some (zi xk), some (zi v1877)]) (st' := [.inl (some 52), zi xk, .inl (some 55)]) (by decide +kernel) (fun k q => by cases q) rfl ?_
      refine y_get (j := 20) (len := 3) (r := (12, 9, 2, 1337)) (by decide +kernel) hg (t52 hg) at52 rfl rfl (g_r52 (f := 9) (T2 := 55) hg rfl (by decide)).1 ?_
      refine y_bi (c := 46) (len := 2) (r := (0, 0, 0, 0)) (by decide +kernel) (by decide) (fun y1879 hy1879 => ?_)
      refine y_same (i := .iload_n 1) (len := 1) (r := (0, 0, 0, 0)) (pc' := 36) (ls' := [some (.inl (some 52)), some (zi xk), some (zi v1877)]) (st' := [zi xk, zi y1879, .inl (some 55), zi xk, .inl (some 55)]) (by decide +kernel) (fun k q => by cases q) rfl ?_
      refine y_add (len := 1) (r := (0, 0, 0, 0)) (by decide +kernel) (by omega) (by omega) (fun y1880 hy1880 => ?_)
      obtain ⟨v1881, hv1882, lv1881, uv1881⟩ := g_int (i := (46 + k)) hg (tv55 hg) av55 (show (46 + k) < 92 by omega) (sr92 _ (by omega))
      refine y_ial (i := (46 + k)) (len := 1) (r := (0, 0, 0, 0)) (by decide +kernel) hg (tv55 hg) av55 (by omega) hv1882 ?_
      refine y_ias (i := k) (len := 1) (r := (0, 0, 0, 0)) (by decide +kernel) hg (tv55 hg) av55 rfl (by omega) (by omega) (sr92 _ (by omega)) (by omega) (by omega) (fun h1883 hg1883 hl1883 hs1883 ho1883 => ?_)
      refine y_same (i := .aload_n 0) (len := 1) (r := (0, 0, 0, 0)) (pc' := 40) (ls' := [some (.inl (some 52)), some (zi xk), some (zi v1877)]) (st' := [.inl (some 52)]) (by decide +kernel) (fun k q => by cases q) rfl ?_
      refine y_get (j := 20) (len := 3) (r := (12, 9, 2, 1337)) (by decide +kernel) hg1883 (t52 hg1883) at52 rfl rfl (g_r52 (f := 9) (T2 := 55) hg1883 rfl (by decide)).1 ?_
      refine y_bi (c := 46) (len := 2) (r := (0, 0, 0, 0)) (by decide +kernel) (by decide) (fun y1884 hy1884 => ?_)
      refine y_same (i := .iload_n 1) (len := 1) (r := (0, 0, 0, 0)) (pc' := 46) (ls' := [some (.inl (some 52)), some (zi xk), some (zi v1877)]) (st' := [zi xk, zi y1884, .inl (some 55)]) (by decide +kernel) (fun k q => by cases q) rfl ?_
      refine y_add (len := 1) (r := (0, 0, 0, 0)) (by decide +kernel) (by omega) (by omega) (fun y1885 hy1885 => ?_)
      refine y_same (i := .iload_n 2) (len := 1) (r := (0, 0, 0, 0)) (pc' := 48) (ls' := [some (.inl (some 52)), some (zi xk), some (zi v1877)]) (st' := [zi v1877, zi y1885, .inl (some 55)]) (by decide +kernel) (fun k q => by cases q) rfl ?_
      refine y_ias (i := (46 + k)) (len := 1) (r := (0, 0, 0, 0)) (by decide +kernel) hg1883 (tv55 hg1883) av55 rfl (by omega) (by omega) (sr92 _ (by omega)) (by omega) (by omega) (fun h1886 hg1886 hl1886 hs1886 ho1886 => ?_)
      refine y_inc (j := 1) (a := xk) (c := 1) (ls' := fun v => [some (.inl (some 52)), some v, some (zi v1877)]) (len := 3) (r := (0, 0, 0, 0)) (by decide +kernel) rfl (fun _ => rfl) (by decide) (by omega) (by omega) (fun y1887 hy1887 => ?_)
      show qX 20 188 52 [some (.inl (some 52)), some (zi y1887), some (zi v1877)] [] h1886 t _
      refine y_goto (off := (-41)) (pc' := 11) (len := 3) (r := (0, 0, 0, 0)) (by decide +kernel) (by decide +kernel) ?_
      have fr : ∀ i j, (i ≠ 55 ∨ (j ≠ k ∧ j ≠ 46 + k)) → hsl h1886 i j = hsl h i j := fun i j hC => (ho1886 i j (by omega)).trans (ho1883 i j (by omega))
      refine ih h1886 (k + 1) y1887 _ hg1886 (fun j hj => ?_) (fun j h1 h2 => ⟨(fr 55 j (by omega)).trans (c2 j (by omega) h2).1, (fr 55 (46 + j) (by omega)).trans (c2 j (by omega) h2).2⟩) (fun k i hk => (fr k i (by omega)).trans (c3 k i hk)) (by omega) (by omega) (by omega)
      rcases Nat.lt_or_ge j k with q9 | q9
      · exact ⟨(fr 55 j (by omega)).trans (c1 j q9).1, (fr 55 (46 + j) (by omega)).trans (c1 j q9).2⟩
      · have e9 : j = k := by omega
        subst e9
        obtain ⟨d1, d2⟩ := c2 j (by omega) q
        exact ⟨(ho1886 55 j (by omega)).trans (hs1883.trans (d2.symm.trans hv1882).symm), hs1886.trans (d1.symm.trans hv1878).symm⟩
    ·
      refine y_same (i := .iload_n 1) (len := 1) (r := (0, 0, 0, 0)) (pc' := 12) (ls' := [some (.inl (some 52)), some (zi xk), l2]) (st' := [zi xk]) (by decide +kernel) (fun k q => by cases q) rfl ?_
      refine y_bi (c := 46) (len := 2) (r := (0, 0, 0, 0)) (by decide +kernel) (by decide) (fun y1889 hy1889 => ?_)
      refine y_cT (c := .ge) (off := 41) (pc' := 55) (len := 3) (r := (0, 0, 0, 0)) (by decide +kernel) (acmpT (c := .ge) (by show _ ≤ _; omega)) (by decide +kernel) ?_
      exact kk _ _ _ hg (fun j hj => c1 j (by omega)) c3
theorem m_turn2 {t : Nat} {τ : List Nat} {h : zh} {cur : bsT} {hs : List bsT} (hg : hG τ h) (rm : RM h cur hs) : qI 60 188 [some (.inl (some 52)), none, none] h t (fun y h1 => ∃ τ1, hG τ1 h1 ∧ RM h1 (cur.2, cur.1) (psh hs cur) ∧ frM h h1 ∧ y.toInt = ((cur.2.1.length + cur.1.1.length : Nat) : Int)) := by
  refine qI_le (d := 21) (by decide) (qI_of ?_)
  refine y_same (i := .aload_n 0) (len := 1) (r := (0, 0, 0, 0)) (pc' := 1) (ls' := [some (.inl (some 52)), none, none]) (st' := [.inl (some 52)]) (by decide +kernel) (fun k q => by cases q) rfl ?_
  refine y_ic (c := 0) (len := 1) (r := (0, 0, 0, 0)) (by decide +kernel) (by decide) (fun y1890 hy1890 => ?_)
  refine y_put (j := 92) (lo := (-2147483648)) (hi := 2147483647) (len := 3) (r := (12, 0, 0, 1328)) (by decide +kernel) hg (t52 hg) at52 rfl rfl (by decide) rfl (qin_full _).1 (qin_full _).2 rfl (fun h1891 hg1891 hl1891 hs1891 ho1891 => ?_)
  have ho1891 : hO 52 0 h h1891 := ho1891
  have hs1891 : hsl h1891 52 0 = some (zi y1890) := hs1891
  refine y_same (i := .aload_n 0) (len := 1) (r := (0, 0, 0, 0)) (pc' := 6) (ls' := [some (.inl (some 52)), none, none]) (st' := [.inl (some 52)]) (by decide +kernel) (fun k q => by cases q) rfl ?_
  refine y_cV (i := .invokevirtual 213) (len := 3) (r := (0, 186, 12, 1568)) (nL := 2) (k := 0) (n := 1) (hs := []) (args := [.inl (some 52)]) (rest := []) (l0 := [some (.inl (some 52)), none]) (by decide +kernel) (Or.inr (Or.inl ⟨_, rfl⟩)) rfl rfl rfl rfl (Nat.le_of_ble_eq_true rfl) (z52 hg1891) rfl (qV_le (by decide) (m_rem hg1891 (RM_up rm (fun k j h1 => (ho1891 k j (by omega)))))) (fun h1892 hR1892 => ?_)
  obtain ⟨hg1892, rm1892, F1892⟩ := hR1892
  have le1892 := len55 hg1892 rm1892.1
  obtain ⟨⟨xp01892, hp01892, ep01892⟩, ⟨xc01892, hc01892, ec01892⟩, ip01892, ic01892⟩ := rm1892.1.1
  obtain ⟨⟨xp11892, hp11892, ep11892⟩, ⟨xc11892, hc11892, ec11892⟩, ip11892, ic11892⟩ := rm1892.1.2
  refine y_ic (c := 0) (len := 1) (r := (0, 0, 0, 0)) (by decide +kernel) (by decide) (fun y1893 hy1893 => ?_)
  refine y_same (i := .istore_n 1) (len := 1) (r := (0, 0, 0, 0)) (pc' := 11) (ls' := [some (.inl (some 52)), some (zi y1893), none]) (st' := []) (by decide +kernel) (fun k q => by cases q) rfl ?_
  refine mt_l (τ := τ) (h0 := h1892) (fun he xe le ge b1 b2 => ?_) 46 h1892 0 y1893 _ hg1892 (fun j hj => absurd hj (Nat.not_lt_zero j)) (fun j _ _ => ⟨rfl, rfl⟩) (fun k i _ => rfl) (by omega) (by omega) (by omega)
  have rz : RM he (cur.2, cur.1) (psh hs cur) := RM_set rm1892 ⟨sdM_to rm1892.1.2 le1892.2.2.1 le1892.2.2.2 (fun j hj => by rw [Nat.zero_add]; exact (b1 j hj).1), sdM_to rm1892.1.1 le1892.1 le1892.2.1 (fun j hj => by rw [Nat.zero_add]; exact (b1 j hj).2)⟩ (fun k j hC => b2 k j (by omega))
  have lz := len55 ge rz.1
  simp only at lz
  obtain ⟨⟨xp0z, hp0z, ep0z⟩, ⟨xc0z, hc0z, ec0z⟩, ip0z, ic0z⟩ := rz.1.1
  obtain ⟨⟨xp1z, hp1z, ep1z⟩, ⟨xc1z, hc1z, ec1z⟩, ip1z, ic1z⟩ := rz.1.2
  simp only at ep0z ep1z
  refine y_same (i := .aload_n 0) (len := 1) (r := (0, 0, 0, 0)) (pc' := 56) (ls' := [some (.inl (some 52)), some (zi xe), le]) (st' := [.inl (some 52)]) (by decide +kernel) (fun k q => by cases q) rfl ?_
  refine y_get (j := 20) (len := 3) (r := (12, 9, 2, 1337)) (by decide +kernel) ge (t52 ge) at52 rfl rfl (g_r52 (f := 9) (T2 := 55) ge rfl (by decide)).1 ?_
  refine y_ic (c := 0) (len := 1) (r := (0, 0, 0, 0)) (by decide +kernel) (by decide) (fun y1894 hy1894 => ?_)
  refine y_cI (i := .invokestatic 143) (len := 3) (r := (1, 166, 12, 1543)) (nL := 2) (k := 1) (n := 2) (hs := []) (args := [.inl (some 55), zi y1894]) (rest := []) (l0 := [some (.inl (some 55)), some (zi y1894)]) (by decide +kernel) (Or.inl ⟨_, rfl⟩) rfl rfl rfl rfl (Nat.le_of_ble_eq_true rfl) rfl rfl (qI_le (by decide) (m_parts (d := 0) (s := 0) ge (by omega) (by omega) hp0z)) (fun y1895 qy1895 hRy1895 => ?_)
  obtain ⟨rfl, rfl⟩ := hRy1895
  refine y_same (i := .aload_n 0) (len := 1) (r := (0, 0, 0, 0)) (pc' := 64) (ls' := [some (.inl (some 52)), some (zi xe), le]) (st' := [.inl (some 52), zi xp0z]) (by decide +kernel) (fun k q => by cases q) rfl ?_
  refine y_get (j := 20) (len := 3) (r := (12, 9, 2, 1337)) (by decide +kernel) ge (t52 ge) at52 rfl rfl (g_r52 (f := 9) (T2 := 55) ge rfl (by decide)).1 ?_
  refine y_ic (c := 1) (len := 1) (r := (0, 0, 0, 0)) (by decide +kernel) (by decide) (fun y1896 hy1896 => ?_)
  refine y_cI (i := .invokestatic 143) (len := 3) (r := (1, 166, 12, 1543)) (nL := 2) (k := 1) (n := 2) (hs := []) (args := [.inl (some 55), zi y1896]) (rest := [zi xp0z]) (l0 := [some (.inl (some 55)), some (zi y1896)]) (by decide +kernel) (Or.inl ⟨_, rfl⟩) rfl rfl rfl rfl (Nat.le_of_ble_eq_true rfl) rfl rfl (qI_le (by decide) (m_parts (d := 0) (s := 1) ge (by omega) (by omega) hp1z)) (fun y1897 qy1897 hRy1897 => ?_)
  obtain ⟨rfl, rfl⟩ := hRy1897
  refine y_add (len := 1) (r := (0, 0, 0, 0)) (by decide +kernel) (by omega) (by omega) (fun y1898 hy1898 => ?_)
  refine y_rI (len := 1) (r := (0, 0, 0, 0)) (nL := 3) (k := 1) (n9 := 1) (hs := []) (by decide +kernel) rfl rfl ?_
  exact ⟨_, ge, rz, fun k j hC => (b2 k j (by omega)).trans ((F1892 k j (by omega)).trans (ho1891 k j (by omega))), by omega⟩
theorem m_undo2 {t : Nat} {τ : List Nat} {h : zh} {cur : bsT} {hs : List bsT} (hg : hG τ h) (rm : RM h cur hs) : qI 60 187 [some (.inl (some 52))] h t (fun y h1 => ∃ τ1, hG τ1 h1 ∧ frM h h1 ∧ ((hs = [] ∧ y.toInt = -1 ∧ RM h1 cur hs) ∨ ∃ hs' b, hs = hs' ++ [b] ∧ y.toInt = (hs'.length : Int) ∧ RM h1 b hs')) := by
  obtain ⟨b0, r57, ⟨xc, hc, ec⟩, hl, hh⟩ := id rm
  refine qI_le (d := 21) (by decide) (qI_of ?_)
  rcases List.eq_nil_or_concat hs with e | ⟨hs', b, e⟩
  · subst e
    have ec : xc.toInt = 0 := ec
    refine y_same (i := .aload_n 0) (len := 1) (r := (0, 0, 0, 0)) (pc' := 1) (ls' := [some (.inl (some 52))]) (st' := [.inl (some 52)]) (by decide +kernel) (fun k q => by cases q) rfl ?_
    refine y_ic (c := 0) (len := 1) (r := (0, 0, 0, 0)) (by decide +kernel) (by decide) (fun y1899 hy1899 => ?_)
    refine y_put (j := 92) (lo := (-2147483648)) (hi := 2147483647) (len := 3) (r := (12, 0, 0, 1328)) (by decide +kernel) hg (t52 hg) at52 rfl rfl (by decide) rfl (qin_full _).1 (qin_full _).2 rfl (fun h1900 hg1900 hl1900 hs1900 ho1900 => ?_)
    have ho1900 : hO 52 0 h h1900 := ho1900
    have hs1900 : hsl h1900 52 0 = some (zi y1899) := hs1900
    refine y_same (i := .aload_n 0) (len := 1) (r := (0, 0, 0, 0)) (pc' := 6) (ls' := [some (.inl (some 52))]) (st' := [.inl (some 52)]) (by decide +kernel) (fun k q => by cases q) rfl ?_
    have hv1901 := (ho1900 52 12 (Or.inr (by omega))).trans hc
    refine y_get (j := 227) (len := 3) (r := (12, 12, 0, 1340)) (by decide +kernel) hg1900 (t52 hg1900) at52 rfl rfl hv1901 ?_
    refine y_iF (c := .ne) (off := 5) (len := 3) (r := (0, 0, 0, 0)) (by decide +kernel) (acmpF (c := .ne) (by show _ = _; omega)) ?_
    refine y_ic (c := (-1)) (len := 1) (r := (0, 0, 0, 0)) (by decide +kernel) (by decide) (fun y1902 hy1902 => ?_)
    refine y_rI (len := 1) (r := (0, 0, 0, 0)) (nL := 1) (k := 1) (n9 := 1) (hs := []) (by decide +kernel) rfl rfl ?_
    exact ⟨_, hg1900, fun k j hC => (ho1900 k j (by omega)), Or.inl ⟨rfl, by omega, RM_up rm (fun k j hC => (ho1900 k j (by omega)))⟩⟩
  · rw [List.concat_eq_append] at e
    subst e
    have hlen : (hs' ++ [b]).length = hs'.length + 1 := by rw [List.length_append]; rfl
    have hb := hh hs'.length b (by rw [List.getElem?_append_right (Nat.le_refl _), Nat.sub_self]; rfl)
    refine y_same (i := .aload_n 0) (len := 1) (r := (0, 0, 0, 0)) (pc' := 1) (ls' := [some (.inl (some 52))]) (st' := [.inl (some 52)]) (by decide +kernel) (fun k q => by cases q) rfl ?_
    refine y_ic (c := 0) (len := 1) (r := (0, 0, 0, 0)) (by decide +kernel) (by decide) (fun y1903 hy1903 => ?_)
    refine y_put (j := 92) (lo := (-2147483648)) (hi := 2147483647) (len := 3) (r := (12, 0, 0, 1328)) (by decide +kernel) hg (t52 hg) at52 rfl rfl (by decide) rfl (qin_full _).1 (qin_full _).2 rfl (fun h1904 hg1904 hl1904 hs1904 ho1904 => ?_)
    have ho1904 : hO 52 0 h h1904 := ho1904
    have hs1904 : hsl h1904 52 0 = some (zi y1903) := hs1904
    refine y_same (i := .aload_n 0) (len := 1) (r := (0, 0, 0, 0)) (pc' := 6) (ls' := [some (.inl (some 52))]) (st' := [.inl (some 52)]) (by decide +kernel) (fun k q => by cases q) rfl ?_
    have hv1905 := (ho1904 52 12 (Or.inr (by omega))).trans hc
    refine y_get (j := 227) (len := 3) (r := (12, 12, 0, 1340)) (by decide +kernel) hg1904 (t52 hg1904) at52 rfl rfl hv1905 ?_
    refine y_iT (c := .ne) (off := 5) (pc' := 14) (len := 3) (r := (0, 0, 0, 0)) (by decide +kernel) (acmpT (c := .ne) (by show ¬ (_ = _); omega)) (by decide +kernel) ?_
    refine y_same (i := .aload_n 0) (len := 1) (r := (0, 0, 0, 0)) (pc' := 15) (ls' := [some (.inl (some 52))]) (st' := [.inl (some 52)]) (by decide +kernel) (fun k q => by cases q) rfl ?_
    refine y_same (i := .dup) (len := 1) (r := (0, 0, 0, 0)) (pc' := 16) (ls' := [some (.inl (some 52))]) (st' := [.inl (some 52), .inl (some 52)]) (by decide +kernel) (fun k q => by cases q) rfl ?_
    refine y_get (j := 227) (len := 3) (r := (12, 12, 0, 1340)) (by decide +kernel) hg1904 (t52 hg1904) at52 rfl rfl hv1905 ?_
    refine y_ic (c := 1) (len := 1) (r := (0, 0, 0, 0)) (by decide +kernel) (by decide) (fun y1906 hy1906 => ?_)
    refine y_sub (len := 1) (r := (0, 0, 0, 0)) (by decide +kernel) (by omega) (by omega) (fun y1907 hy1907 => ?_)
    refine y_put (j := 227) (lo := 0) (hi := 10) (len := 3) (r := (12, 12, 0, 1340)) (by decide +kernel) hg1904 (t52 hg1904) at52 rfl rfl (by decide) rfl (by omega) (by omega) rfl (fun h1908 hg1908 hl1908 hs1908 ho1908 => ?_)
    have ho1908 : hO 52 12 h1904 h1908 := ho1908
    have hs1908 : hsl h1908 52 12 = some (zi y1907) := hs1908
    refine y_same (i := .aload_n 0) (len := 1) (r := (0, 0, 0, 0)) (pc' := 25) (ls' := [some (.inl (some 52))]) (st' := [.inl (some 52)]) (by decide +kernel) (fun k q => by cases q) rfl ?_
    refine y_get (j := 28) (len := 3) (r := (12, 11, 2, 1339)) (by decide +kernel) hg1908 (t52 hg1908) at52 rfl rfl (g_r52 (f := 11) (T2 := 57) hg1908 rfl (by decide)).1 ?_
    refine y_same (i := .aload_n 0) (len := 1) (r := (0, 0, 0, 0)) (pc' := 29) (ls' := [some (.inl (some 52))]) (st' := [.inl (some 52), .inl (some 57)]) (by decide +kernel) (fun k q => by cases q) rfl ?_
    refine y_get (j := 227) (len := 3) (r := (12, 12, 0, 1340)) (by decide +kernel) hg1908 (t52 hg1908) at52 rfl rfl hs1908 ?_
    refine y_aal (i := ((hs'.length + 1) - 1)) (len := 1) (r := (0, 0, 0, 0)) (by decide +kernel) hg1908 (tv57 hg1908) av57 rfl (by omega) (((ho1908 57 ((hs'.length + 1) - 1) (by omega)).trans (ho1904 57 ((hs'.length + 1) - 1) (by omega))).trans (r57 ((hs'.length + 1) - 1) (by omega))) ?_
    refine y_same (i := .aload_n 0) (len := 1) (r := (0, 0, 0, 0)) (pc' := 34) (ls' := [some (.inl (some 52))]) (st' := [.inl (some 52), .inl (some ((58 + ((hs'.length + 1) - 1))))]) (by decide +kernel) (fun k q => by cases q) rfl ?_
    refine y_get (j := 20) (len := 3) (r := (12, 9, 2, 1337)) (by decide +kernel) hg1908 (t52 hg1908) at52 rfl rfl (g_r52 (f := 9) (T2 := 55) hg1908 rfl (by decide)).1 ?_
    refine y_bi (c := 92) (len := 2) (r := (0, 0, 0, 0)) (by decide +kernel) (by decide) (fun y1909 hy1909 => ?_)
    refine y_cV (i := .invokestatic 216) (len := 3) (r := (1, 185, 12, 1572)) (nL := 4) (k := 0) (n := 3) (hs := []) (args := [.inl (some ((58 + ((hs'.length + 1) - 1)))), .inl (some 55), zi y1909]) (rest := []) (l0 := [some (.inl (some ((58 + ((hs'.length + 1) - 1))))), some (.inl (some 55)), some (zi y1909), none]) (by decide +kernel) (Or.inl ⟨_, rfl⟩) rfl rfl rfl rfl (Nat.le_of_ble_eq_true rfl) rfl rfl (qV_le (by decide) (e_mcp (d := 0) hg1908 (tvP (k := ((hs'.length + 1) - 1)) hg1908 (by omega)) (tv55 hg1908) av1011 av55 rfl (by omega) (by omega))) (fun h1910 hR1910 => ?_)
    obtain ⟨hg1910, C1910, F1910⟩ := hR1910
    refine y_same (i := .aload_n 0) (len := 1) (r := (0, 0, 0, 0)) (pc' := 43) (ls' := [some (.inl (some 52))]) (st' := [.inl (some 52)]) (by decide +kernel) (fun k q => by cases q) rfl ?_
    refine y_ic (c := 0) (len := 1) (r := (0, 0, 0, 0)) (by decide +kernel) (by decide) (fun y1911 hy1911 => ?_)
    refine y_put (j := 220) (lo := 0) (hi := 1) (len := 3) (r := (12, 31, 1, 1359)) (by decide +kernel) hg1910 (t52 hg1910) at52 rfl rfl (by decide) rfl (by omega) (by omega) (zfit_b (by omega) (by omega)).1 (fun h1912 hg1912 hl1912 hs1912 ho1912 => ?_)
    have ho1912 : hO 52 31 h1910 h1912 := ho1912
    have hs1912 : hsl h1912 52 31 = some (zi y1911) := hs1912
    refine y_same (i := .aload_n 0) (len := 1) (r := (0, 0, 0, 0)) (pc' := 48) (ls' := [some (.inl (some 52))]) (st' := [.inl (some 52)]) (by decide +kernel) (fun k q => by cases q) rfl ?_
    refine y_ic (c := 0) (len := 1) (r := (0, 0, 0, 0)) (by decide +kernel) (by decide) (fun y1913 hy1913 => ?_)
    refine y_put (j := 224) (lo := 0) (hi := 1) (len := 3) (r := (12, 47, 1, 1375)) (by decide +kernel) hg1912 (t52 hg1912) at52 rfl rfl (by decide) rfl (by omega) (by omega) (zfit_b (by omega) (by omega)).1 (fun h1914 hg1914 hl1914 hs1914 ho1914 => ?_)
    have ho1914 : hO 52 47 h1912 h1914 := ho1914
    have hs1914 : hsl h1914 52 47 = some (zi y1913) := hs1914
    refine y_same (i := .aload_n 0) (len := 1) (r := (0, 0, 0, 0)) (pc' := 53) (ls' := [some (.inl (some 52))]) (st' := [.inl (some 52)]) (by decide +kernel) (fun k q => by cases q) rfl ?_
    have hv1915 := (F1910 52 12 (by omega)).trans hs1908
    have hv1916 := (ho1912 52 12 (Or.inr (by omega))).trans hv1915
    have hv1917 := (ho1914 52 12 (Or.inr (by omega))).trans hv1916
    refine y_get (j := 227) (len := 3) (r := (12, 12, 0, 1340)) (by decide +kernel) hg1914 (t52 hg1914) at52 rfl rfl hv1917 ?_
    refine y_rI (len := 1) (r := (0, 0, 0, 0)) (nL := 1) (k := 1) (n9 := 1) (hs := []) (by decide +kernel) rfl rfl ?_
    refine ⟨_, hg1914, fun k j hC => ((ho1914 k j (by omega)).trans ((ho1912 k j (by omega)).trans ((F1910 k j (by omega)).trans ((ho1908 k j (by omega)).trans (ho1904 k j (by omega)))))), Or.inr ⟨hs', b, rfl, by omega, bsM_to hb (fun j => ((ho1914 55 j (by omega)).trans (ho1912 55 j (by omega))).trans ((C1910 j).trans ((ho1908 (58 + ((hs'.length + 1) - 1)) j (by omega)).trans (ho1904 (58 + ((hs'.length + 1) - 1)) j (by omega))))), fun k hk => rfs_up (r57 k hk) ((ho1914 57 k (by omega)).trans ((ho1912 57 k (by omega)).trans ((F1910 57 k (by omega)).trans ((ho1908 57 k (by omega)).trans (ho1904 57 k (by omega)))))), ⟨_, hv1917, by omega⟩, by omega, fun j c hj => ?_⟩⟩
    have hj9 := (List.getElem?_eq_some_iff.mp hj).1
    exact bsM_to (hh j c (by rw [List.getElem?_append_left hj9]; exact hj)) (fun i => ((ho1914 (58 + j) i (by omega)).trans ((ho1912 (58 + j) i (by omega)).trans ((F1910 (58 + j) i (by omega)).trans ((ho1908 (58 + j) i (by omega)).trans (ho1904 (58 + j) i (by omega)))))))
