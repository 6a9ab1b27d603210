/-! a sequent of the class: made, copied, void, known -/
theorem okQ_rnL {s : sqT} {x y : Int} (o : okQ s) (hx : 0 ≤ x ∧ x ≤ 20) (hy : 0 ≤ y ∧ y ≤ 20) : okQ (s.1.map (mI (rn1 x y)), s.2) := ⟨fun p hp => by
    obtain ⟨q, m, e⟩ := List.mem_map.mp hp
    rw [← e]
    exact okP_m hx hy (o.1 q m), o.2⟩
theorem q_rnL {d t a : Nat} {τ : List Nat} {h : zh} {s : sqT} {x y : Int} {xo xy : Int32} (Q : QC τ h a s) (exo : xo.toInt = max x y) (exy : xy.toInt = min x y) (hx : 0 ≤ x ∧ x ≤ 20) (hy : 0 ≤ y ∧ y ≤ 20) (ne : x ≠ y) : qV (d + 1) 72 [some (.inl (some (a + 3))), some (zi xo), some (zi xy), none, none] h t (fun h1 => QC τ h1 a (s.1.map (mI (rn1 x y)), s.2) ∧ FQ a h h1) := qV_mono (e_rnV (oo := max x y) (yo := min x y) Q.1 Q.2.1.2.2.2.1 Q.2.1.2.2.2.2.1 Q.2.2.1.2.2.2.2.2.1 Q.2.2.2.1.1 (by omega) (okL_Pt Q.2.2.2.2.1) exo (by omega) exy (by omega) (by omega)) (fun h1 ⟨g, r, F⟩ => QC_L Q g r (fun k j hC => F k j hC.1) (okQ_rnL Q.2.2.2.2 hx hy))
theorem okQ_rnR {s : sqT} {x y : Int} (o : okQ s) (hx : 0 ≤ x ∧ x ≤ 20) (hy : 0 ≤ y ∧ y ≤ 20) : okQ (s.1, s.2.1.map (mI (rn1 x y)), s.2.2) := ⟨o.1, fun p hp => by
    obtain ⟨q, m, e⟩ := List.mem_map.mp hp
    rw [← e]
    exact okP_m hx hy (o.2.1 q m), o.2.2⟩
theorem q_rnR {d t a : Nat} {τ : List Nat} {h : zh} {s : sqT} {x y : Int} {xo xy : Int32} (Q : QC τ h a s) (exo : xo.toInt = max x y) (exy : xy.toInt = min x y) (hx : 0 ≤ x ∧ x ≤ 20) (hy : 0 ≤ y ∧ y ≤ 20) (ne : x ≠ y) : qV (d + 1) 72 [some (.inl (some (a + 5))), some (zi xo), some (zi xy), none, none] h t (fun h1 => QC τ h1 a (s.1, s.2.1.map (mI (rn1 x y)), s.2.2) ∧ FQ a h h1) := qV_mono (e_rnV (oo := max x y) (yo := min x y) Q.1 Q.2.1.2.2.2.2.2.1 Q.2.1.2.2.2.2.2.2.1 Q.2.2.1.2.2.2.2.2.2.1 Q.2.2.2.1.2.1 (by omega) (okL_Pt Q.2.2.2.2.2.1) exo (by omega) exy (by omega) (by omega)) (fun h1 ⟨g, r, F⟩ => QC_R Q g r (fun k j hC => F k j hC.1) (okQ_rnR Q.2.2.2.2 hx hy))
theorem okQ_rnC {s : sqT} {x y : Int} (o : okQ s) (hx : 0 ≤ x ∧ x ≤ 20) (hy : 0 ≤ y ∧ y ≤ 20) : okQ (s.1, s.2.1, s.2.2.1.map (mI (rn1 x y)), s.2.2.2) := ⟨o.1, o.2.1, fun p hp => by
    obtain ⟨q, m, e⟩ := List.mem_map.mp hp
    rw [← e]
    exact okC_m hx hy (o.2.2.1 q m), o.2.2.2⟩
theorem q_rnC {d t a : Nat} {τ : List Nat} {h : zh} {s : sqT} {x y : Int} {xo xy : Int32} (Q : QC τ h a s) (exo : xo.toInt = max x y) (exy : xy.toInt = min x y) (hx : 0 ≤ x ∧ x ≤ 20) (hy : 0 ≤ y ∧ y ≤ 20) (ne : x ≠ y) : qV (d + 1) 72 [some (.inl (some (a + 7))), some (zi xo), some (zi xy), none, none] h t (fun h1 => QC τ h1 a (s.1, s.2.1, s.2.2.1.map (mI (rn1 x y)), s.2.2.2) ∧ FQ a h h1) := qV_mono (e_rnV (oo := max x y) (yo := min x y) Q.1 Q.2.1.2.2.2.2.2.2.2.1 Q.2.1.2.2.2.2.2.2.2.2 Q.2.2.1.2.2.2.2.2.2.2 Q.2.2.2.1.2.2.1 (by omega) (okL_Cl Q.2.2.2.2.2.2.1) exo (by omega) exy (by omega) (by omega)) (fun h1 ⟨g, r, F⟩ => QC_C Q g r (fun k j hC => F k j hC.1) (okQ_rnC Q.2.2.2.2 hx hy))
theorem q_drn {d t a : Nat} {τ : List Nat} {h : zh} {s : sqT} {x y : Int} {xo xy : Int32} (Q : QC τ h a s) (exo : xo.toInt = max x y) (exy : xy.toInt = min x y) (hx : 0 ≤ x ∧ x ≤ 20) (hy : 0 ≤ y ∧ y ≤ 20) (ne : x ≠ y) : qV (d + 1) 5 [some (.inl (some (a + 1))), some (zi xo), some (zi xy), none] h t (fun h1 => QC τ h1 a (s.1, s.2.1, s.2.2.1, Dm (rn1 x y) s.2.2.2) ∧ FQ a h h1) := by
  have e1 : (((max x y).toNat : Nat) : Int) = max x y := by omega
  have e2 : (((min x y).toNat : Nat) : Int) = min x y := by omega
  refine qV_mono (e_drn (o := (max x y).toNat) (g := (min x y).toNat) Q.1 Q.2.1.2.1 Q.2.1.2.2.1 Q.2.2.1.2.2.2.2.1 Q.2.2.2.1.2.2.2 (by omega) (by omega) (by omega) (by omega) (by omega)) (fun h1 ⟨g, r, F⟩ => ?_)
  rw [e1, e2] at r
  exact QC_D Q g r F (okD_m hx hy Q.2.2.2.2.2.2.2)
theorem q_mk {d t a : Nat} {τ : List Nat} {h : zh} {s : sqT} (Q : QC τ h a s) {x y : Int} {xx xy : Int32} (exx : xx.toInt = x) (hx : 0 ≤ x ∧ x ≤ 20) (exy : xy.toInt = y) (hy : 0 ≤ y ∧ y ≤ 20) : qV (d + 2) 80 [some (.inl (some a)), some (zi xx), some (zi xy), none, none] h t (fun h1 => QC τ h1 a (mkQ x y s) ∧ FQ a h h1) := by
  refine qV_of ?_
  refine y_same (i := .iload_n 1) (len := 1) (r := (0, 0, 0, 0)) (pc' := 1) (ls' := [some (.inl (some a)), some (zi xx), some (zi xy), none, none]) (st' := [zi xx]) (by decide +kernel) (fun k q => by cases q) rfl ?_
  refine y_same (i := .iload_n 2) (len := 1) (r := (0, 0, 0, 0)) (pc' := 2) (ls' := [some (.inl (some a)), some (zi xx), some (zi xy), none, none]) (st' := [zi xy, zi xx]) (by decide +kernel) (fun k q => by cases q) rfl ?_
  refine y_cI (i := .invokestatic 94) (len := 3) (r := (1, 266, 60, 621)) (nL := 2) (k := 1) (n := 2) (hs := []) (args := [zi xx, zi xy]) (rest := []) (l0 := [some (zi xx), some (zi xy)]) (by decide +kernel) (Or.inl ⟨_, rfl⟩) rfl rfl rfl rfl (Nat.le_of_ble_eq_true rfl) rfl rfl (qI_le (by omega) (e_jmax (d := 0))) (fun y1921 qy1921 hRy1921 => ?_)
  obtain ⟨rfl, my1921, wy1921⟩ := hRy1921
  refine y_same (i := .istore_n 3) (len := 1) (r := (0, 0, 0, 0)) (pc' := 6) (ls' := [some (.inl (some a)), some (zi xx), some (zi xy), some (zi y1921), none]) (st' := []) (by decide +kernel) (fun k q => by cases q) rfl ?_
  refine y_same (i := .iload_n 1) (len := 1) (r := (0, 0, 0, 0)) (pc' := 7) (ls' := [some (.inl (some a)), some (zi xx), some (zi xy), some (zi y1921), none]) (st' := [zi xx]) (by decide +kernel) (fun k q => by cases q) rfl ?_
  refine y_same (i := .iload_n 2) (len := 1) (r := (0, 0, 0, 0)) (pc' := 8) (ls' := [some (.inl (some a)), some (zi xx), some (zi xy), some (zi y1921), none]) (st' := [zi xy, zi xx]) (by decide +kernel) (fun k q => by cases q) rfl ?_
  refine y_cI (i := .invokestatic 99) (len := 3) (r := (1, 267, 60, 622)) (nL := 2) (k := 1) (n := 2) (hs := []) (args := [zi xx, zi xy]) (rest := []) (l0 := [some (zi xx), some (zi xy)]) (by decide +kernel) (Or.inl ⟨_, rfl⟩) rfl rfl rfl rfl (Nat.le_of_ble_eq_true rfl) rfl rfl (qI_le (by omega) (e_jmin (d := 0))) (fun y1922 qy1922 hRy1922 => ?_)
  obtain ⟨rfl, my1922, wy1922⟩ := hRy1922
  refine y_same (i := .istore 4) (len := 2) (r := (0, 0, 0, 0)) (pc' := 13) (ls' := [some (.inl (some a)), some (zi xx), some (zi xy), some (zi y1921), some (zi y1922)]) (st' := []) (by decide +kernel) (fun k q => by cases q) rfl ?_
  refine y_same (i := .iload_n 3) (len := 1) (r := (0, 0, 0, 0)) (pc' := 14) (ls' := [some (.inl (some a)), some (zi xx), some (zi xy), some (zi y1921), some (zi y1922)]) (st' := [zi y1921]) (by decide +kernel) (fun k q => by cases q) rfl ?_
  refine y_same (i := .iload 4) (len := 2) (r := (0, 0, 0, 0)) (pc' := 16) (ls' := [some (.inl (some a)), some (zi xx), some (zi xy), some (zi y1921), some (zi y1922)]) (st' := [zi y1922, zi y1921]) (by decide +kernel) (fun k q => by cases q) rfl ?_
  rcases Decidable.em (y1921.toInt ≠ y1922.toInt) with q1923 | q1923
  ·
    refine y_cT (c := .ne) (off := 4) (pc' := 20) (len := 3) (r := (0, 0, 0, 0)) (by decide +kernel) (acmpT (c := .ne) (by show ¬ (_ = _); omega)) (by decide +kernel) ?_
    refine y_same (i := .aload_n 0) (len := 1) (r := (0, 0, 0, 0)) (pc' := 21) (ls' := [some (.inl (some a)), some (zi xx), some (zi xy), some (zi y1921), some (zi y1922)]) (st' := [.inl (some a)]) (by decide +kernel) (fun k q => by cases q) rfl ?_
    refine y_get (j := 23) (len := 3) (r := (7, 1, 2, 533)) (by decide +kernel) Q.1 Q.2.1.1 aw1008 rfl rfl Q.2.2.1.2.1 ?_
    refine y_same (i := .iload_n 3) (len := 1) (r := (0, 0, 0, 0)) (pc' := 25) (ls' := [some (.inl (some a)), some (zi xx), some (zi xy), some (zi y1921), some (zi y1922)]) (st' := [zi y1921, .inl (some ((a + 3)))]) (by decide +kernel) (fun k q => by cases q) rfl ?_
    refine y_same (i := .iload 4) (len := 2) (r := (0, 0, 0, 0)) (pc' := 27) (ls' := [some (.inl (some a)), some (zi xx), some (zi xy), some (zi y1921), some (zi y1922)]) (st' := [zi y1922, zi y1921, .inl (some ((a + 3)))]) (by decide +kernel) (fun k q => by cases q) rfl ?_
    refine y_cV (i := .invokevirtual 102) (len := 3) (r := (0, 72, 6, 623)) (nL := 5) (k := 0) (n := 3) (hs := []) (args := [.inl (some ((a + 3))), zi y1921, zi y1922]) (rest := []) (l0 := [some (.inl (some ((a + 3)))), some (zi y1921), some (zi y1922), none, none]) (by decide +kernel) (Or.inr (Or.inl ⟨_, rfl⟩)) rfl rfl rfl rfl (Nat.le_of_ble_eq_true rfl) (zO Q.1 Q.2.1.2.2.2.1 aw1004 rfl) rfl (qV_le (by omega) (q_rnL (d := 0) (x := x) (y := y) Q (by omega) (by omega) hx hy (by omega))) (fun h1924 hR1924 => ?_)
    obtain ⟨Q1924, F1924⟩ := hR1924
    refine y_same (i := .aload_n 0) (len := 1) (r := (0, 0, 0, 0)) (pc' := 31) (ls' := [some (.inl (some a)), some (zi xx), some (zi xy), some (zi y1921), some (zi y1922)]) (st' := [.inl (some a)]) (by decide +kernel) (fun k q => by cases q) rfl ?_
    refine y_get (j := 27) (len := 3) (r := (7, 2, 2, 536)) (by decide +kernel) Q1924.1 Q1924.2.1.1 aw1008 rfl rfl Q1924.2.2.1.2.2.1 ?_
    refine y_same (i := .iload_n 3) (len := 1) (r := (0, 0, 0, 0)) (pc' := 35) (ls' := [some (.inl (some a)), some (zi xx), some (zi xy), some (zi y1921), some (zi y1922)]) (st' := [zi y1921, .inl (some ((a + 5)))]) (by decide +kernel) (fun k q => by cases q) rfl ?_
    refine y_same (i := .iload 4) (len := 2) (r := (0, 0, 0, 0)) (pc' := 37) (ls' := [some (.inl (some a)), some (zi xx), some (zi xy), some (zi y1921), some (zi y1922)]) (st' := [zi y1922, zi y1921, .inl (some ((a + 5)))]) (by decide +kernel) (fun k q => by cases q) rfl ?_
    refine y_cV (i := .invokevirtual 102) (len := 3) (r := (0, 72, 6, 623)) (nL := 5) (k := 0) (n := 3) (hs := []) (args := [.inl (some ((a + 5))), zi y1921, zi y1922]) (rest := []) (l0 := [some (.inl (some ((a + 5)))), some (zi y1921), some (zi y1922), none, none]) (by decide +kernel) (Or.inr (Or.inl ⟨_, rfl⟩)) rfl rfl rfl rfl (Nat.le_of_ble_eq_true rfl) (zO Q1924.1 Q1924.2.1.2.2.2.2.2.1 aw1004 rfl) rfl (qV_le (by omega) (q_rnR (d := 0) (x := x) (y := y) Q1924 (by omega) (by omega) hx hy (by omega))) (fun h1925 hR1925 => ?_)
    obtain ⟨Q1925, F1925⟩ := hR1925
    refine y_same (i := .aload_n 0) (len := 1) (r := (0, 0, 0, 0)) (pc' := 41) (ls' := [some (.inl (some a)), some (zi xx), some (zi xy), some (zi y1921), some (zi y1922)]) (st' := [.inl (some a)]) (by decide +kernel) (fun k q => by cases q) rfl ?_
    refine y_get (j := 30) (len := 3) (r := (7, 3, 2, 539)) (by decide +kernel) Q1925.1 Q1925.2.1.1 aw1008 rfl rfl Q1925.2.2.1.2.2.2.1 ?_
    refine y_same (i := .iload_n 3) (len := 1) (r := (0, 0, 0, 0)) (pc' := 45) (ls' := [some (.inl (some a)), some (zi xx), some (zi xy), some (zi y1921), some (zi y1922)]) (st' := [zi y1921, .inl (some ((a + 7)))]) (by decide +kernel) (fun k q => by cases q) rfl ?_
    refine y_same (i := .iload 4) (len := 2) (r := (0, 0, 0, 0)) (pc' := 47) (ls' := [some (.inl (some a)), some (zi xx), some (zi xy), some (zi y1921), some (zi y1922)]) (st' := [zi y1922, zi y1921, .inl (some ((a + 7)))]) (by decide +kernel) (fun k q => by cases q) rfl ?_
    refine y_cV (i := .invokevirtual 102) (len := 3) (r := (0, 72, 6, 623)) (nL := 5) (k := 0) (n := 3) (hs := []) (args := [.inl (some ((a + 7))), zi y1921, zi y1922]) (rest := []) (l0 := [some (.inl (some ((a + 7)))), some (zi y1921), some (zi y1922), none, none]) (by decide +kernel) (Or.inr (Or.inl ⟨_, rfl⟩)) rfl rfl rfl rfl (Nat.le_of_ble_eq_true rfl) (zO Q1925.1 Q1925.2.1.2.2.2.2.2.2.2.1 aw1004 rfl) rfl (qV_le (by omega) (q_rnC (d := 0) (x := x) (y := y) Q1925 (by omega) (by omega) hx hy (by omega))) (fun h1926 hR1926 => ?_)
    obtain ⟨Q1926, F1926⟩ := hR1926
    refine y_same (i := .aload_n 0) (len := 1) (r := (0, 0, 0, 0)) (pc' := 51) (ls' := [some (.inl (some a)), some (zi xx), some (zi xy), some (zi y1921), some (zi y1922)]) (st' := [.inl (some a)]) (by decide +kernel) (fun k q => by cases q) rfl ?_
    refine y_get (j := 12) (len := 3) (r := (7, 0, 2, 530)) (by decide +kernel) Q1926.1 Q1926.2.1.1 aw1008 rfl rfl Q1926.2.2.1.1 ?_
    refine y_same (i := .iload_n 3) (len := 1) (r := (0, 0, 0, 0)) (pc' := 55) (ls' := [some (.inl (some a)), some (zi xx), some (zi xy), some (zi y1921), some (zi y1922)]) (st' := [zi y1921, .inl (some ((a + 1)))]) (by decide +kernel) (fun k q => by cases q) rfl ?_
    refine y_same (i := .iload 4) (len := 2) (r := (0, 0, 0, 0)) (pc' := 57) (ls' := [some (.inl (some a)), some (zi xx), some (zi xy), some (zi y1921), some (zi y1922)]) (st' := [zi y1922, zi y1921, .inl (some ((a + 1)))]) (by decide +kernel) (fun k q => by cases q) rfl ?_
    refine y_cV (i := .invokevirtual 105) (len := 3) (r := (0, 5, 0, 627)) (nL := 4) (k := 0) (n := 3) (hs := []) (args := [.inl (some ((a + 1))), zi y1921, zi y1922]) (rest := []) (l0 := [some (.inl (some ((a + 1)))), some (zi y1921), some (zi y1922), none]) (by decide +kernel) (Or.inr (Or.inl ⟨_, rfl⟩)) rfl rfl rfl rfl (Nat.le_of_ble_eq_true rfl) (zO Q1926.1 Q1926.2.1.2.1 aw1009 rfl) rfl (qV_le (by omega) (q_drn (d := 0) (x := x) (y := y) Q1926 (by omega) (by omega) hx hy (by omega))) (fun h1927 hR1927 => ?_)
    obtain ⟨Q1927, F1927⟩ := hR1927
    refine y_rV (len := 1) (r := (0, 0, 0, 0)) (nL := 5) (n9 := 3) (hs := []) (by decide +kernel) rfl ?_
    exact ⟨Q1927, fun k j hC => ((F1927 k j (by omega)).trans ((F1926 k j (by omega)).trans ((F1925 k j (by omega)).trans (F1924 k j (by omega)))))⟩
  ·
    refine y_cF (c := .ne) (off := 4) (len := 3) (r := (0, 0, 0, 0)) (by decide +kernel) (acmpF (c := .ne) (by show _ = _; omega)) ?_
    refine y_rV (len := 1) (r := (0, 0, 0, 0)) (nL := 5) (n9 := 3) (hs := []) (by decide +kernel) rfl ?_
    obtain rfl : x = y := by omega
    exact ⟨by rw [mkQ_self]; exact Q, fun k j _ => rfl⟩
def big_ (s : sqT) : Prop := 12 < s.1.length ∨ 12 < s.2.1.length ∨ 12 < s.2.2.1.length
theorem q_big {d t a : Nat} {τ : List Nat} {h : zh} {s : sqT} (Q : QC τ h a s) : qI (d + 1) 81 [some (.inl (some a))] h t (fun y h1 => h = h1 ∧ ((y.toInt = 1 ∧ big_ s) ∨ (y.toInt = 0 ∧ ¬ big_ s))) := by
  refine qI_of ?_
  refine y_same (i := .aload_n 0) (len := 1) (r := (0, 0, 0, 0)) (pc' := 1) (ls' := [some (.inl (some a))]) (st' := [.inl (some a)]) (by decide +kernel) (fun k q => by cases q) rfl ?_
  refine y_get (j := 23) (len := 3) (r := (7, 1, 2, 533)) (by decide +kernel) Q.1 Q.2.1.1 aw1008 rfl rfl Q.2.2.1.2.1 ?_
  obtain ⟨z1928, hz1928, ez1928, mz1928⟩ := q_szL Q
  have ez1928 : z1928.toInt = ((s.1.length : Nat) : Int) := ez1928
  have mz1928 : s.1.length ≤ 14 := mz1928
  refine y_get (j := 65) (len := 3) (r := (6, 1, 0, 20165)) (by decide +kernel) Q.1 Q.2.1.2.2.2.1 aw1004 rfl rfl hz1928 ?_
  refine y_bi (c := 12) (len := 2) (r := (0, 0, 0, 0)) (by decide +kernel) (by decide) (fun y1929 hy1929 => ?_)
  rcases Decidable.em (z1928.toInt > y1929.toInt) with q1930 | q1930
  ·
    refine y_cT (c := .gt) (off := 27) (pc' := 36) (len := 3) (r := (0, 0, 0, 0)) (by decide +kernel) (acmpT (c := .gt) (by show _ < _; omega)) (by decide +kernel) ?_
    refine y_ic (c := 1) (len := 1) (r := (0, 0, 0, 0)) (by decide +kernel) (by decide) (fun y1931 hy1931 => ?_)
    refine y_goto (off := 4) (pc' := 41) (len := 3) (r := (0, 0, 0, 0)) (by decide +kernel) (by decide +kernel) ?_
    refine y_rI (len := 1) (r := (0, 0, 0, 0)) (nL := 1) (k := 2) (n9 := 1) (hs := []) (by decide +kernel) rfl (zfit_b (by omega) (by omega)).2 ?_
    exact ⟨rfl, Or.inl ⟨by omega, Or.inl (by omega)⟩⟩
  ·
    refine y_cF (c := .gt) (off := 27) (len := 3) (r := (0, 0, 0, 0)) (by decide +kernel) (acmpF (c := .gt) (by show _ ≤ _; omega)) ?_
    refine y_same (i := .aload_n 0) (len := 1) (r := (0, 0, 0, 0)) (pc' := 13) (ls' := [some (.inl (some a))]) (st' := [.inl (some a)]) (by decide +kernel) (fun k q => by cases q) rfl ?_
    refine y_get (j := 27) (len := 3) (r := (7, 2, 2, 536)) (by decide +kernel) Q.1 Q.2.1.1 aw1008 rfl rfl Q.2.2.1.2.2.1 ?_
    obtain ⟨z1932, hz1932, ez1932, mz1932⟩ := q_szR Q
    have ez1932 : z1932.toInt = ((s.2.1.length : Nat) : Int) := ez1932
    have mz1932 : s.2.1.length ≤ 14 := mz1932
    refine y_get (j := 65) (len := 3) (r := (6, 1, 0, 20165)) (by decide +kernel) Q.1 Q.2.1.2.2.2.2.2.1 aw1004 rfl rfl hz1932 ?_
    refine y_bi (c := 12) (len := 2) (r := (0, 0, 0, 0)) (by decide +kernel) (by decide) (fun y1933 hy1933 => ?_)
    rcases Decidable.em (z1932.toInt > y1933.toInt) with q1934 | q1934
    ·
      refine y_cT (c := .gt) (off := 15) (pc' := 36) (len := 3) (r := (0, 0, 0, 0)) (by decide +kernel) (acmpT (c := .gt) (by show _ < _; omega)) (by decide +kernel) ?_
      refine y_ic (c := 1) (len := 1) (r := (0, 0, 0, 0)) (by decide +kernel) (by decide) (fun y1935 hy1935 => ?_)
      refine y_goto (off := 4) (pc' := 41) (len := 3) (r := (0, 0, 0, 0)) (by decide +kernel) (by decide +kernel) ?_
      refine y_rI (len := 1) (r := (0, 0, 0, 0)) (nL := 1) (k := 2) (n9 := 1) (hs := []) (by decide +kernel) rfl (zfit_b (by omega) (by omega)).2 ?_
      exact ⟨rfl, Or.inl ⟨by omega, Or.inr (Or.inl (by omega))⟩⟩
    ·
      refine y_cF (c := .gt) (off := 15) (len := 3) (r := (0, 0, 0, 0)) (by decide +kernel) (acmpF (c := .gt) (by show _ ≤ _; omega)) ?_
      refine y_same (i := .aload_n 0) (len := 1) (r := (0, 0, 0, 0)) (pc' := 25) (ls' := [some (.inl (some a))]) (st' := [.inl (some a)]) (by decide +kernel) (fun k q => by cases q) rfl ?_
      refine y_get (j := 30) (len := 3) (r := (7, 3, 2, 539)) (by decide +kernel) Q.1 Q.2.1.1 aw1008 rfl rfl Q.2.2.1.2.2.2.1 ?_
      obtain ⟨z1936, hz1936, ez1936, mz1936⟩ := q_szC Q
      have ez1936 : z1936.toInt = ((s.2.2.1.length : Nat) : Int) := ez1936
      have mz1936 : s.2.2.1.length ≤ 14 := mz1936
      refine y_get (j := 65) (len := 3) (r := (6, 1, 0, 20165)) (by decide +kernel) Q.1 Q.2.1.2.2.2.2.2.2.2.1 aw1004 rfl rfl hz1936 ?_
      refine y_bi (c := 12) (len := 2) (r := (0, 0, 0, 0)) (by decide +kernel) (by decide) (fun y1937 hy1937 => ?_)
      rcases Decidable.em (z1936.toInt ≤ y1937.toInt) with q1938 | q1938
      ·
        refine y_cT (c := .le) (off := 7) (pc' := 40) (len := 3) (r := (0, 0, 0, 0)) (by decide +kernel) (acmpT (c := .le) (by show _ ≤ _; omega)) (by decide +kernel) ?_
        refine y_ic (c := 0) (len := 1) (r := (0, 0, 0, 0)) (by decide +kernel) (by decide) (fun y1939 hy1939 => ?_)
        refine y_rI (len := 1) (r := (0, 0, 0, 0)) (nL := 1) (k := 2) (n9 := 1) (hs := []) (by decide +kernel) rfl (zfit_b (by omega) (by omega)).2 ?_
        exact ⟨rfl, Or.inr ⟨by omega, fun q9 => q9.elim (fun q8 => by omega) (fun q8 => q8.elim (fun q7 => by omega) (fun q7 => by omega))⟩⟩
      ·
        refine y_cF (c := .le) (off := 7) (len := 3) (r := (0, 0, 0, 0)) (by decide +kernel) (acmpF (c := .le) (by show _ < _; omega)) ?_
        refine y_ic (c := 1) (len := 1) (r := (0, 0, 0, 0)) (by decide +kernel) (by decide) (fun y1940 hy1940 => ?_)
        refine y_goto (off := 4) (pc' := 41) (len := 3) (r := (0, 0, 0, 0)) (by decide +kernel) (by decide +kernel) ?_
        refine y_rI (len := 1) (r := (0, 0, 0, 0)) (nL := 1) (k := 2) (n9 := 1) (hs := []) (by decide +kernel) rfl (zfit_b (by omega) (by omega)).2 ?_
        exact ⟨rfl, Or.inl ⟨by omega, Or.inr (Or.inr (by omega))⟩⟩
theorem mnt_app {L M : List it4} {v : Int} : mnt (L ++ M) v ↔ (mnt L v ∨ mnt M v) := ⟨fun ⟨p, m, e⟩ => (List.mem_append.mp m).elim (fun q => Or.inl ⟨p, q, e⟩) (fun q => Or.inr ⟨p, q, e⟩), fun h => h.elim (fun ⟨p, m, e⟩ => ⟨p, List.mem_append_left _ m, e⟩) (fun ⟨p, m, e⟩ => ⟨p, List.mem_append_right _ m, e⟩)⟩
abbrev mnP (s : sqT) (v : Int) : Prop := mnt (s.1 ++ (s.2.1 ++ s.2.2.1)) v
theorem q_ipc {d t a : Nat} {τ : List Nat} {h : zh} {s : sqT} (Q : QC τ h a s) : qI (d + 3) 83 [some (.inl (some a))] h t (fun y h1 => h = h1 ∧ bs_ y (fun v => mnP s (v : Int))) := by
  refine qI_of ?_
  refine y_same (i := .aload_n 0) (len := 1) (r := (0, 0, 0, 0)) (pc' := 1) (ls' := [some (.inl (some a))]) (st' := [.inl (some a)]) (by decide +kernel) (fun k q => by cases q) rfl ?_
  refine y_get (j := 23) (len := 3) (r := (7, 1, 2, 533)) (by decide +kernel) Q.1 Q.2.1.1 aw1008 rfl rfl Q.2.2.1.2.1 ?_
  refine y_cI (i := .invokevirtual 106) (len := 3) (r := (0, 73, 6, 692)) (nL := 3) (k := 1) (n := 1) (hs := []) (args := [.inl (some ((a + 3)))]) (rest := []) (l0 := [some (.inl (some ((a + 3)))), none, none]) (by decide +kernel) (Or.inr (Or.inl ⟨_, rfl⟩)) rfl rfl rfl rfl (Nat.le_of_ble_eq_true rfl) (zO Q.1 Q.2.1.2.2.2.1 aw1004 rfl) rfl (qI_le (by omega) (q_mnL (d := 0) Q)) (fun y1941 qy1941 hRy1941 => ?_)
  obtain ⟨rfl, ty1941⟩ := hRy1941
  refine y_same (i := .aload_n 0) (len := 1) (r := (0, 0, 0, 0)) (pc' := 8) (ls' := [some (.inl (some a))]) (st' := [.inl (some a), zi y1941]) (by decide +kernel) (fun k q => by cases q) rfl ?_
  refine y_get (j := 27) (len := 3) (r := (7, 2, 2, 536)) (by decide +kernel) Q.1 Q.2.1.1 aw1008 rfl rfl Q.2.2.1.2.2.1 ?_
  refine y_cI (i := .invokevirtual 106) (len := 3) (r := (0, 73, 6, 692)) (nL := 3) (k := 1) (n := 1) (hs := []) (args := [.inl (some ((a + 5)))]) (rest := [zi y1941]) (l0 := [some (.inl (some ((a + 5)))), none, none]) (by decide +kernel) (Or.inr (Or.inl ⟨_, rfl⟩)) rfl rfl rfl rfl (Nat.le_of_ble_eq_true rfl) (zO Q.1 Q.2.1.2.2.2.2.2.1 aw1004 rfl) rfl (qI_le (by omega) (q_mnR (d := 0) Q)) (fun y1942 qy1942 hRy1942 => ?_)
  obtain ⟨rfl, ty1942⟩ := hRy1942
  refine y_bp (i := .ior) (f := fun x y => x ||| y) (len := 1) (r := (0, 0, 0, 0)) (by decide +kernel) rfl rfl (fun y1943 hy1943 => ?_)
  have hy1943 : y1943 = y1941 ||| y1942 := hy1943
  refine y_same (i := .aload_n 0) (len := 1) (r := (0, 0, 0, 0)) (pc' := 16) (ls' := [some (.inl (some a))]) (st' := [.inl (some a), zi y1943]) (by decide +kernel) (fun k q => by cases q) rfl ?_
  refine y_get (j := 30) (len := 3) (r := (7, 3, 2, 539)) (by decide +kernel) Q.1 Q.2.1.1 aw1008 rfl rfl Q.2.2.1.2.2.2.1 ?_
  refine y_cI (i := .invokevirtual 106) (len := 3) (r := (0, 73, 6, 692)) (nL := 3) (k := 1) (n := 1) (hs := []) (args := [.inl (some ((a + 7)))]) (rest := [zi y1943]) (l0 := [some (.inl (some ((a + 7)))), none, none]) (by decide +kernel) (Or.inr (Or.inl ⟨_, rfl⟩)) rfl rfl rfl rfl (Nat.le_of_ble_eq_true rfl) (zO Q.1 Q.2.1.2.2.2.2.2.2.2.1 aw1004 rfl) rfl (qI_le (by omega) (q_mnC (d := 0) Q)) (fun y1944 qy1944 hRy1944 => ?_)
  obtain ⟨rfl, ty1944⟩ := hRy1944
  refine y_bp (i := .ior) (f := fun x y => x ||| y) (len := 1) (r := (0, 0, 0, 0)) (by decide +kernel) rfl rfl (fun y1945 hy1945 => ?_)
  have hy1945 : y1945 = y1943 ||| y1944 := hy1945
  refine y_rI (len := 1) (r := (0, 0, 0, 0)) (nL := 1) (k := 1) (n9 := 1) (hs := []) (by decide +kernel) rfl rfl ?_
  have c0 := bs_or ty1941 ty1942
  rw [← hy1943] at c0
  have c1 := bs_or c0 ty1944
  rw [← hy1945] at c1
  refine ⟨rfl, bs_cg c1 (fun v hv => ?_)⟩
  show _ ↔ mnt (s.1 ++ (s.2.1 ++ s.2.2.1)) (v : Int)
  rw [mnt_app, mnt_app]
  exact ⟨fun q => q.elim (fun q => q.elim Or.inl (fun q => Or.inr (Or.inl q))) (fun q => Or.inr (Or.inr q)), fun q => q.elim (fun q => Or.inl (Or.inl q)) (fun q => q.elim (fun q => Or.inl (Or.inr q)) Or.inr)⟩
theorem q_mns {d t a : Nat} {τ : List Nat} {h : zh} {s : sqT} (Q : QC τ h a s) : qI (d + 3) 82 [some (.inl (some a))] h t (fun y h1 => h = h1 ∧ bs_ y (fun v => mnP s (v : Int) ∨ ∃ a, s.2.2.2 a (v : Int))) := by
  refine qI_of ?_
  refine y_same (i := .aload_n 0) (len := 1) (r := (0, 0, 0, 0)) (pc' := 1) (ls' := [some (.inl (some a))]) (st' := [.inl (some a)]) (by decide +kernel) (fun k q => by cases q) rfl ?_
  refine y_get (j := 23) (len := 3) (r := (7, 1, 2, 533)) (by decide +kernel) Q.1 Q.2.1.1 aw1008 rfl rfl Q.2.2.1.2.1 ?_
  refine y_cI (i := .invokevirtual 106) (len := 3) (r := (0, 73, 6, 692)) (nL := 3) (k := 1) (n := 1) (hs := []) (args := [.inl (some ((a + 3)))]) (rest := []) (l0 := [some (.inl (some ((a + 3)))), none, none]) (by decide +kernel) (Or.inr (Or.inl ⟨_, rfl⟩)) rfl rfl rfl rfl (Nat.le_of_ble_eq_true rfl) (zO Q.1 Q.2.1.2.2.2.1 aw1004 rfl) rfl (qI_le (by omega) (q_mnL (d := 0) Q)) (fun y1946 qy1946 hRy1946 => ?_)
  obtain ⟨rfl, ty1946⟩ := hRy1946
  refine y_same (i := .aload_n 0) (len := 1) (r := (0, 0, 0, 0)) (pc' := 8) (ls' := [some (.inl (some a))]) (st' := [.inl (some a), zi y1946]) (by decide +kernel) (fun k q => by cases q) rfl ?_
  refine y_get (j := 27) (len := 3) (r := (7, 2, 2, 536)) (by decide +kernel) Q.1 Q.2.1.1 aw1008 rfl rfl Q.2.2.1.2.2.1 ?_
  refine y_cI (i := .invokevirtual 106) (len := 3) (r := (0, 73, 6, 692)) (nL := 3) (k := 1) (n := 1) (hs := []) (args := [.inl (some ((a + 5)))]) (rest := [zi y1946]) (l0 := [some (.inl (some ((a + 5)))), none, none]) (by decide +kernel) (Or.inr (Or.inl ⟨_, rfl⟩)) rfl rfl rfl rfl (Nat.le_of_ble_eq_true rfl) (zO Q.1 Q.2.1.2.2.2.2.2.1 aw1004 rfl) rfl (qI_le (by omega) (q_mnR (d := 0) Q)) (fun y1947 qy1947 hRy1947 => ?_)
  obtain ⟨rfl, ty1947⟩ := hRy1947
  refine y_bp (i := .ior) (f := fun x y => x ||| y) (len := 1) (r := (0, 0, 0, 0)) (by decide +kernel) rfl rfl (fun y1948 hy1948 => ?_)
  have hy1948 : y1948 = y1946 ||| y1947 := hy1948
  refine y_same (i := .aload_n 0) (len := 1) (r := (0, 0, 0, 0)) (pc' := 16) (ls' := [some (.inl (some a))]) (st' := [.inl (some a), zi y1948]) (by decide +kernel) (fun k q => by cases q) rfl ?_
  refine y_get (j := 30) (len := 3) (r := (7, 3, 2, 539)) (by decide +kernel) Q.1 Q.2.1.1 aw1008 rfl rfl Q.2.2.1.2.2.2.1 ?_
  refine y_cI (i := .invokevirtual 106) (len := 3) (r := (0, 73, 6, 692)) (nL := 3) (k := 1) (n := 1) (hs := []) (args := [.inl (some ((a + 7)))]) (rest := [zi y1948]) (l0 := [some (.inl (some ((a + 7)))), none, none]) (by decide +kernel) (Or.inr (Or.inl ⟨_, rfl⟩)) rfl rfl rfl rfl (Nat.le_of_ble_eq_true rfl) (zO Q.1 Q.2.1.2.2.2.2.2.2.2.1 aw1004 rfl) rfl (qI_le (by omega) (q_mnC (d := 0) Q)) (fun y1949 qy1949 hRy1949 => ?_)
  obtain ⟨rfl, ty1949⟩ := hRy1949
  refine y_bp (i := .ior) (f := fun x y => x ||| y) (len := 1) (r := (0, 0, 0, 0)) (by decide +kernel) rfl rfl (fun y1950 hy1950 => ?_)
  have hy1950 : y1950 = y1948 ||| y1949 := hy1950
  refine y_same (i := .aload_n 0) (len := 1) (r := (0, 0, 0, 0)) (pc' := 24) (ls' := [some (.inl (some a))]) (st' := [.inl (some a), zi y1950]) (by decide +kernel) (fun k q => by cases q) rfl ?_
  refine y_get (j := 12) (len := 3) (r := (7, 0, 2, 530)) (by decide +kernel) Q.1 Q.2.1.1 aw1008 rfl rfl Q.2.2.1.1 ?_
  refine y_cI (i := .invokevirtual 110) (len := 3) (r := (0, 8, 0, 755)) (nL := 3) (k := 1) (n := 1) (hs := []) (args := [.inl (some ((a + 1)))]) (rest := [zi y1950]) (l0 := [some (.inl (some ((a + 1)))), none, none]) (by decide +kernel) (Or.inr (Or.inl ⟨_, rfl⟩)) rfl rfl rfl rfl (Nat.le_of_ble_eq_true rfl) (zO Q.1 Q.2.1.2.1 aw1009 rfl) rfl (qI_le (by omega) (q_dmn (d := 0) Q)) (fun y1951 qy1951 hRy1951 => ?_)
  obtain ⟨rfl, ty1951⟩ := hRy1951
  refine y_bp (i := .ior) (f := fun x y => x ||| y) (len := 1) (r := (0, 0, 0, 0)) (by decide +kernel) rfl rfl (fun y1952 hy1952 => ?_)
  have hy1952 : y1952 = y1950 ||| y1951 := hy1952
  refine y_rI (len := 1) (r := (0, 0, 0, 0)) (nL := 1) (k := 1) (n9 := 1) (hs := []) (by decide +kernel) rfl rfl ?_
  have c0 := bs_or ty1946 ty1947
  rw [← hy1948] at c0
  have c1 := bs_or c0 ty1949
  rw [← hy1950] at c1
  have c2 := bs_or c1 ty1951
  rw [← hy1952] at c2
  refine ⟨rfl, bs_cg c2 (fun v hv => ?_)⟩
  show _ ↔ mnt (s.1 ++ (s.2.1 ++ s.2.2.1)) (v : Int) ∨ ∃ a, s.2.2.2 a (v : Int)
  rw [mnt_app, mnt_app]
  exact ⟨fun q => q.elim (fun q => q.elim (fun q => q.elim (fun q => Or.inl (Or.inl q)) (fun q => Or.inl (Or.inr (Or.inl q)))) (fun q => Or.inl (Or.inr (Or.inr q)))) Or.inr, fun q => q.elim (fun q => q.elim (fun q => Or.inl (Or.inl (Or.inl q))) (fun q => q.elim (fun q => Or.inl (Or.inl (Or.inr q))) (fun q => Or.inl (Or.inr q)))) Or.inr⟩
theorem clq_l {d t a : Nat} {τ : List Nat} {h : zh} {s : sqT} (Q : QC τ h a s) {k : Nat} {ik : it4} {xk : Int32} (exk : xk.toInt = (k : Int)) (kik : s.1[k]? = some ik) : ∀ (n : Nat) (i : Nat) (xi : Int32), (xi.toInt = (i : Int)) → (i ≤ s.1.length) → (∀ (j : Nat) (q : it4), j < i → j ≠ k → s.1[j]? = some q → q.1 ≠ 2 → q.2.1 ≠ ik.2.1) → (s.1.length < i + n) → qX (d + 1) 86 2 [some (.inl (some a)), some (zi xk), some (zi xi)] [] h t (rI (fun y h1 => h = h1 ∧ ((y.toInt = 1 ∧ (∃ (j : Nat) (q : it4), j ≠ k ∧ s.1[j]? = some q ∧ q.1 ≠ 2 ∧ q.2.1 = ik.2.1)) ∨ (y.toInt = 0 ∧ ∀ (j : Nat) (q : it4), j ≠ k → s.1[j]? = some q → q.1 ≠ 2 → q.2.1 ≠ ik.2.1))) t) := by
  intro n
  induction n with
  | zero =>
    intro i xi hxi hi c1 hn
    exfalso
    omega
  | succ n ih =>
    intro i xi hxi hi c1 hn
    have hk9 := (List.getElem?_eq_some_iff.mp kik).1
    refine y_same (i := .iload_n 2) (len := 1) (r := (0, 0, 0, 0)) (pc' := 3) (ls' := [some (.inl (some a)), some (zi xk), some (zi xi)]) (st' := [zi xi]) (by decide +kernel) (fun k q => by cases q) rfl ?_
    refine y_same (i := .aload_n 0) (len := 1) (r := (0, 0, 0, 0)) (pc' := 4) (ls' := [some (.inl (some a)), some (zi xk), some (zi xi)]) (st' := [.inl (some a), zi xi]) (by decide +kernel) (fun k q => by cases q) rfl ?_
    refine y_get (j := 23) (len := 3) (r := (7, 1, 2, 533)) (by decide +kernel) Q.1 Q.2.1.1 aw1008 rfl rfl Q.2.2.1.2.1 ?_
    obtain ⟨z1953, hz1953, ez1953, mz1953⟩ := q_szL Q
    have ez1953 : z1953.toInt = ((s.1.length : Nat) : Int) := ez1953
    have mz1953 : s.1.length ≤ 14 := mz1953
    refine y_get (j := 65) (len := 3) (r := (6, 1, 0, 20165)) (by decide +kernel) Q.1 Q.2.1.2.2.2.1 aw1004 rfl rfl hz1953 ?_
    rcases Decidable.em (xi.toInt ≥ z1953.toInt) with q1954 | q1954
    ·
      refine y_cT (c := .ge) (off := 50) (pc' := 60) (len := 3) (r := (0, 0, 0, 0)) (by decide +kernel) (acmpT (c := .ge) (by show _ ≤ _; omega)) (by decide +kernel) ?_
      refine y_ic (c := 0) (len := 1) (r := (0, 0, 0, 0)) (by decide +kernel) (by decide) (fun y1955 hy1955 => ?_)
      refine y_rI (len := 1) (r := (0, 0, 0, 0)) (nL := 3) (k := 2) (n9 := 2) (hs := []) (by decide +kernel) rfl (zfit_b (by omega) (by omega)).2 ?_
      exact ⟨rfl, Or.inr ⟨by omega, fun j q h1 h2 h3 => c1 j q (by have := (List.getElem?_eq_some_iff.mp h2).1; omega) h1 h2 h3⟩⟩
    ·
      refine y_cF (c := .ge) (off := 50) (len := 3) (r := (0, 0, 0, 0)) (by decide +kernel) (acmpF (c := .ge) (by show _ < _; omega)) ?_
      refine y_same (i := .iload_n 2) (len := 1) (r := (0, 0, 0, 0)) (pc' := 14) (ls' := [some (.inl (some a)), some (zi xk), some (zi xi)]) (st' := [zi xi]) (by decide +kernel) (fun k q => by cases q) rfl ?_
      refine y_same (i := .iload_n 1) (len := 1) (r := (0, 0, 0, 0)) (pc' := 15) (ls' := [some (.inl (some a)), some (zi xk), some (zi xi)]) (st' := [zi xk, zi xi]) (by decide +kernel) (fun k q => by cases q) rfl ?_
      rcases Decidable.em (xi.toInt = xk.toInt) with q1956 | q1956
      ·
        refine y_cT (c := .eq) (off := 39) (pc' := 54) (len := 3) (r := (0, 0, 0, 0)) (by decide +kernel) (acmpT (c := .eq) (by show _ = _; omega)) (by decide +kernel) ?_
        refine y_inc (j := 2) (a := xi) (c := 1) (ls' := fun v => [some (.inl (some a)), some (zi xk), some v]) (len := 3) (r := (0, 0, 0, 0)) (by decide +kernel) rfl (fun _ => rfl) (by decide) (by omega) (by omega) (fun y1957 hy1957 => ?_)
        show qX (d + 1) 86 57 [some (.inl (some a)), some (zi xk), some (zi y1957)] [] h t _
        refine y_goto (off := (-55)) (pc' := 2) (len := 3) (r := (0, 0, 0, 0)) (by decide +kernel) (by decide +kernel) ?_
        refine ih (i + 1) y1957 (by omega) (by omega) (fun j q hj h1 h2 h3 => ?_) (by omega)
        rcases Nat.lt_or_ge j i with q9 | q9
        · exact c1 j q q9 h1 h2 h3
        · obtain rfl : j = i := by omega
          omega
      ·
        refine y_cF (c := .eq) (off := 39) (len := 3) (r := (0, 0, 0, 0)) (by decide +kernel) (acmpF (c := .eq) (by show ¬ (_ = _); omega)) ?_
        refine y_same (i := .aload_n 0) (len := 1) (r := (0, 0, 0, 0)) (pc' := 19) (ls' := [some (.inl (some a)), some (zi xk), some (zi xi)]) (st' := [.inl (some a)]) (by decide +kernel) (fun k q => by cases q) rfl ?_
        refine y_get (j := 23) (len := 3) (r := (7, 1, 2, 533)) (by decide +kernel) Q.1 Q.2.1.1 aw1008 rfl rfl Q.2.2.1.2.1 ?_
        refine y_same (i := .iload_n 2) (len := 1) (r := (0, 0, 0, 0)) (pc' := 23) (ls' := [some (.inl (some a)), some (zi xk), some (zi xi)]) (st' := [zi xi, .inl (some ((a + 3)))]) (by decide +kernel) (fun k q => by cases q) rfl ?_
        refine y_ic (c := 0) (len := 1) (r := (0, 0, 0, 0)) (by decide +kernel) (by decide) (fun y1958 hy1958 => ?_)
        obtain ⟨i1960, ki1960⟩ : ∃ i9, s.1[i]? = some i9 := ⟨_, List.getElem?_eq_getElem (by omega)⟩
        have oi1960 := okQ_L Q.2.2.2.2 ki1960
        have pi1960 := oi1960.1
        unfold okV at pi1960
        refine y_cI (i := .invokevirtual 68) (len := 3) (r := (0, 64, 6, 586)) (nL := 3) (k := 1) (n := 3) (hs := []) (args := [.inl (some ((a + 3))), zi xi, zi y1958]) (rest := []) (l0 := [some (.inl (some ((a + 3)))), some (zi xi), some (zi y1958)]) (by decide +kernel) (Or.inr (Or.inl ⟨_, rfl⟩)) rfl rfl rfl rfl (Nat.le_of_ble_eq_true rfl) (zO Q.1 Q.2.1.2.2.2.1 aw1004 rfl) rfl (qI_le (by omega) (q_tlL (d := 0) (k := i) (w := 0) Q (by omega) ki1960 (by omega) (by omega))) (fun y1959 qy1959 hRy1959 => ?_)
        obtain ⟨rfl, ey1959⟩ := hRy1959
        have ey1959 : y1959.toInt = i1960.1 := ey1959
        refine y_ic (c := 2) (len := 1) (r := (0, 0, 0, 0)) (by decide +kernel) (by decide) (fun y1961 hy1961 => ?_)
        rcases Decidable.em (y1959.toInt = y1961.toInt) with q1962 | q1962
        ·
          refine y_cT (c := .eq) (off := 26) (pc' := 54) (len := 3) (r := (0, 0, 0, 0)) (by decide +kernel) (acmpT (c := .eq) (by show _ = _; omega)) (by decide +kernel) ?_
          refine y_inc (j := 2) (a := xi) (c := 1) (ls' := fun v => [some (.inl (some a)), some (zi xk), some v]) (len := 3) (r := (0, 0, 0, 0)) (by decide +kernel) rfl (fun _ => rfl) (by decide) (by omega) (by omega) (fun y1963 hy1963 => ?_)
          show qX (d + 1) 86 57 [some (.inl (some a)), some (zi xk), some (zi y1963)] [] h t _
          refine y_goto (off := (-55)) (pc' := 2) (len := 3) (r := (0, 0, 0, 0)) (by decide +kernel) (by decide +kernel) ?_
          refine ih (i + 1) y1963 (by omega) (by omega) (fun j q hj h1 h2 h3 => ?_) (by omega)
          rcases Nat.lt_or_ge j i with q9 | q9
          · exact c1 j q q9 h1 h2 h3
          · obtain rfl : j = i := by omega
            cases ki1960.symm.trans h2
            omega
        ·
          refine y_cF (c := .eq) (off := 26) (len := 3) (r := (0, 0, 0, 0)) (by decide +kernel) (acmpF (c := .eq) (by show ¬ (_ = _); omega)) ?_
          refine y_same (i := .aload_n 0) (len := 1) (r := (0, 0, 0, 0)) (pc' := 32) (ls' := [some (.inl (some a)), some (zi xk), some (zi xi)]) (st' := [.inl (some a)]) (by decide +kernel) (fun k q => by cases q) rfl ?_
          refine y_get (j := 23) (len := 3) (r := (7, 1, 2, 533)) (by decide +kernel) Q.1 Q.2.1.1 aw1008 rfl rfl Q.2.2.1.2.1 ?_
          refine y_same (i := .iload_n 2) (len := 1) (r := (0, 0, 0, 0)) (pc' := 36) (ls' := [some (.inl (some a)), some (zi xk), some (zi xi)]) (st' := [zi xi, .inl (some ((a + 3)))]) (by decide +kernel) (fun k q => by cases q) rfl ?_
          refine y_ic (c := 1) (len := 1) (r := (0, 0, 0, 0)) (by decide +kernel) (by decide) (fun y1964 hy1964 => ?_)
          refine y_cI (i := .invokevirtual 68) (len := 3) (r := (0, 64, 6, 586)) (nL := 3) (k := 1) (n := 3) (hs := []) (args := [.inl (some ((a + 3))), zi xi, zi y1964]) (rest := []) (l0 := [some (.inl (some ((a + 3)))), some (zi xi), some (zi y1964)]) (by decide +kernel) (Or.inr (Or.inl ⟨_, rfl⟩)) rfl rfl rfl rfl (Nat.le_of_ble_eq_true rfl) (zO Q.1 Q.2.1.2.2.2.1 aw1004 rfl) rfl (qI_le (by omega) (q_tlL (d := 0) (k := i) (w := 1) Q (by omega) ki1960 (by omega) (by omega))) (fun y1965 qy1965 hRy1965 => ?_)
          obtain ⟨rfl, ey1965⟩ := hRy1965
          have ey1965 : y1965.toInt = i1960.2.1 := ey1965
          refine y_same (i := .aload_n 0) (len := 1) (r := (0, 0, 0, 0)) (pc' := 41) (ls' := [some (.inl (some a)), some (zi xk), some (zi xi)]) (st' := [.inl (some a), zi y1965]) (by decide +kernel) (fun k q => by cases q) rfl ?_
          refine y_get (j := 23) (len := 3) (r := (7, 1, 2, 533)) (by decide +kernel) Q.1 Q.2.1.1 aw1008 rfl rfl Q.2.2.1.2.1 ?_
          refine y_same (i := .iload_n 1) (len := 1) (r := (0, 0, 0, 0)) (pc' := 45) (ls' := [some (.inl (some a)), some (zi xk), some (zi xi)]) (st' := [zi xk, .inl (some ((a + 3))), zi y1965]) (by decide +kernel) (fun k q => by cases q) rfl ?_
          refine y_ic (c := 1) (len := 1) (r := (0, 0, 0, 0)) (by decide +kernel) (by decide) (fun y1966 hy1966 => ?_)
          refine y_cI (i := .invokevirtual 68) (len := 3) (r := (0, 64, 6, 586)) (nL := 3) (k := 1) (n := 3) (hs := []) (args := [.inl (some ((a + 3))), zi xk, zi y1966]) (rest := [zi y1965]) (l0 := [some (.inl (some ((a + 3)))), some (zi xk), some (zi y1966)]) (by decide +kernel) (Or.inr (Or.inl ⟨_, rfl⟩)) rfl rfl rfl rfl (Nat.le_of_ble_eq_true rfl) (zO Q.1 Q.2.1.2.2.2.1 aw1004 rfl) rfl (qI_le (by omega) (q_tlL (d := 0) (k := k) (w := 1) Q (by omega) kik (by omega) (by omega))) (fun y1967 qy1967 hRy1967 => ?_)
          obtain ⟨rfl, ey1967⟩ := hRy1967
          have ey1967 : y1967.toInt = ik.2.1 := ey1967
          rcases Decidable.em (y1965.toInt ≠ y1967.toInt) with q1968 | q1968
          ·
            refine y_cT (c := .ne) (off := 5) (pc' := 54) (len := 3) (r := (0, 0, 0, 0)) (by decide +kernel) (acmpT (c := .ne) (by show ¬ (_ = _); omega)) (by decide +kernel) ?_
            refine y_inc (j := 2) (a := xi) (c := 1) (ls' := fun v => [some (.inl (some a)), some (zi xk), some v]) (len := 3) (r := (0, 0, 0, 0)) (by decide +kernel) rfl (fun _ => rfl) (by decide) (by omega) (by omega) (fun y1969 hy1969 => ?_)
            show qX (d + 1) 86 57 [some (.inl (some a)), some (zi xk), some (zi y1969)] [] h t _
            refine y_goto (off := (-55)) (pc' := 2) (len := 3) (r := (0, 0, 0, 0)) (by decide +kernel) (by decide +kernel) ?_
            refine ih (i + 1) y1969 (by omega) (by omega) (fun j q hj h1 h2 h3 => ?_) (by omega)
            rcases Nat.lt_or_ge j i with q9 | q9
            · exact c1 j q q9 h1 h2 h3
            · obtain rfl : j = i := by omega
              cases ki1960.symm.trans h2
              omega
          ·
            refine y_cF (c := .ne) (off := 5) (len := 3) (r := (0, 0, 0, 0)) (by decide +kernel) (acmpF (c := .ne) (by show _ = _; omega)) ?_
            refine y_ic (c := 1) (len := 1) (r := (0, 0, 0, 0)) (by decide +kernel) (by decide) (fun y1970 hy1970 => ?_)
            refine y_rI (len := 1) (r := (0, 0, 0, 0)) (nL := 3) (k := 2) (n9 := 2) (hs := []) (by decide +kernel) rfl (zfit_b (by omega) (by omega)).2 ?_
            exact ⟨rfl, Or.inl ⟨by omega, i, i1960, by omega, ki1960, by omega, by omega⟩⟩
theorem q_cl {d t a : Nat} {τ : List Nat} {h : zh} {s : sqT} (Q : QC τ h a s) {k : Nat} {ik : it4} {xk : Int32} (exk : xk.toInt = (k : Int)) (kik : s.1[k]? = some ik) : qI (d + 2) 86 [some (.inl (some a)), some (zi xk), none] h t (fun y h1 => h = h1 ∧ ((y.toInt = 1 ∧ (∃ (j : Nat) (q : it4), j ≠ k ∧ s.1[j]? = some q ∧ q.1 ≠ 2 ∧ q.2.1 = ik.2.1)) ∨ (y.toInt = 0 ∧ ∀ (j : Nat) (q : it4), j ≠ k → s.1[j]? = some q → q.1 ≠ 2 → q.2.1 ≠ ik.2.1))) := by
  refine qI_of ?_
  refine y_ic (c := 0) (len := 1) (r := (0, 0, 0, 0)) (by decide +kernel) (by decide) (fun y1971 hy1971 => ?_)
  refine y_same (i := .istore_n 2) (len := 1) (r := (0, 0, 0, 0)) (pc' := 2) (ls' := [some (.inl (some a)), some (zi xk), some (zi y1971)]) (st' := []) (by decide +kernel) (fun k q => by cases q) rfl ?_
  exact clq_l Q exk kik (s.1.length + 1) 0 y1971 (by omega) (by omega) (fun j _ hj => absurd hj (Nat.not_lt_zero j)) (by omega)
theorem vd_c0 {s : sqT} {k : Nat} {p : it4} (h : s.1[k]? = some p) (h1 : p.1 ≤ 1) (h2 : p.2.1 = 0) : vd_ s := Or.inr (Or.inl ⟨p, List.mem_of_getElem? h, h1, h2⟩)
theorem vd_cl {s : sqT} {i j : Nat} {p q : it4} (o : okQ s) (hi : s.1[i]? = some p) (hj : s.1[j]? = some q) (ne : j ≠ i) (h1 : p.1 ≤ 1) (h2 : q.1 ≠ 2) (e : q.2.1 = p.2.1) : vd_ s := by
  have oq := (o.1 q (List.mem_of_getElem? hj)).1.1
  by_cases q3 : q.1 = 3
  · exact Or.inr (Or.inr (Or.inr ⟨p, List.mem_of_getElem? hi, h1, q, List.mem_of_getElem? hj, q3, e⟩))
  · rcases Nat.lt_or_ge i j with l | l
    · exact Or.inr (Or.inr (Or.inl ⟨i, j, p, q, l, hi, hj, h1, by omega, e.symm⟩))
    · exact Or.inr (Or.inr (Or.inl ⟨j, i, q, p, by omega, hj, hi, by omega, h1, e⟩))
theorem vd_no {s : sqT} (hD : ∀ a, ¬ s.2.2.2 a a) (c : ∀ (j : Nat) (q : it4), s.1[j]? = some q → q.1 ≤ 1 → q.2.1 ≠ 0 ∧ ∀ (i : Nat) (p : it4), i ≠ j → s.1[i]? = some p → p.1 ≠ 2 → p.2.1 ≠ q.2.1) : ¬ vd_ s := by
  rintro (⟨a, b, h, e⟩ | ⟨p, m, h1, e⟩ | ⟨i, j, p, q, l, hi, hj, h1, h2, e⟩ | ⟨p, m, h1, q, m2, h2, e⟩)
  · have e : a = b := e
    subst e
    exact hD a h
  · obtain ⟨k, hk⟩ := List.getElem?_of_mem m
    exact (c k p hk h1).1 e
  · exact (c i p hi h1).2 j q (by omega) hj (by omega) e.symm
  · obtain ⟨k, hk⟩ := List.getElem?_of_mem m
    obtain ⟨k2, hk2⟩ := List.getElem?_of_mem m2
    refine (c k p hk h1).2 k2 q (fun q9 => ?_) hk2 (by omega) e
    subst q9
    cases hk.symm.trans hk2
    omega
theorem vdq_l {d t a : Nat} {τ : List Nat} {h : zh} {s : sqT} (Q : QC τ h a s) (hD : ∀ a, ¬ s.2.2.2 a a) : ∀ (n : Nat) (i : Nat) (xi : Int32), (xi.toInt = (i : Int)) → (i ≤ s.1.length) → (∀ (j : Nat) (q : it4), j < i → s.1[j]? = some q → q.1 ≤ 1 → q.2.1 ≠ 0 ∧ ∀ (i : Nat) (p : it4), i ≠ j → s.1[i]? = some p → p.1 ≠ 2 → p.2.1 ≠ q.2.1) → (s.1.length < i + n) → qX (d + 2) 85 14 [some (.inl (some a)), some (zi xi)] [] h t (rI (fun y h1 => h = h1 ∧ ((y.toInt = 1 ∧ vd_ s) ∨ (y.toInt = 0 ∧ ¬ vd_ s))) t) := by
  intro n
  induction n with
  | zero =>
    intro i xi hxi hi c1 hn
    exfalso
    omega
  | succ n ih =>
    intro i xi hxi hi c1 hn
    skip
    refine y_same (i := .iload_n 1) (len := 1) (r := (0, 0, 0, 0)) (pc' := 15) (ls' := [some (.inl (some a)), some (zi xi)]) (st' := [zi xi]) (by decide +kernel) (fun k q => by cases q) rfl ?_
    refine y_same (i := .aload_n 0) (len := 1) (r := (0, 0, 0, 0)) (pc' := 16) (ls' := [some (.inl (some a)), some (zi xi)]) (st' := [.inl (some a), zi xi]) (by decide +kernel) (fun k q => by cases q) rfl ?_
    refine y_get (j := 23) (len := 3) (r := (7, 1, 2, 533)) (by decide +kernel) Q.1 Q.2.1.1 aw1008 rfl rfl Q.2.2.1.2.1 ?_
    obtain ⟨z1972, hz1972, ez1972, mz1972⟩ := q_szL Q
    have ez1972 : z1972.toInt = ((s.1.length : Nat) : Int) := ez1972
    have mz1972 : s.1.length ≤ 14 := mz1972
    refine y_get (j := 65) (len := 3) (r := (6, 1, 0, 20165)) (by decide +kernel) Q.1 Q.2.1.2.2.2.1 aw1004 rfl rfl hz1972 ?_
    rcases Decidable.em (xi.toInt ≥ z1972.toInt) with q1973 | q1973
    ·
      refine y_cT (c := .ge) (off := 44) (pc' := 66) (len := 3) (r := (0, 0, 0, 0)) (by decide +kernel) (acmpT (c := .ge) (by show _ ≤ _; omega)) (by decide +kernel) ?_
      refine y_ic (c := 0) (len := 1) (r := (0, 0, 0, 0)) (by decide +kernel) (by decide) (fun y1974 hy1974 => ?_)
      refine y_rI (len := 1) (r := (0, 0, 0, 0)) (nL := 2) (k := 2) (n9 := 1) (hs := []) (by decide +kernel) rfl (zfit_b (by omega) (by omega)).2 ?_
      exact ⟨rfl, Or.inr ⟨by omega, vd_no hD (fun j q h2 h1 => c1 j q (by have := (List.getElem?_eq_some_iff.mp h2).1; omega) h2 h1)⟩⟩
    ·
      refine y_cF (c := .ge) (off := 44) (len := 3) (r := (0, 0, 0, 0)) (by decide +kernel) (acmpF (c := .ge) (by show _ < _; omega)) ?_
      refine y_same (i := .aload_n 0) (len := 1) (r := (0, 0, 0, 0)) (pc' := 26) (ls' := [some (.inl (some a)), some (zi xi)]) (st' := [.inl (some a)]) (by decide +kernel) (fun k q => by cases q) rfl ?_
      refine y_get (j := 23) (len := 3) (r := (7, 1, 2, 533)) (by decide +kernel) Q.1 Q.2.1.1 aw1008 rfl rfl Q.2.2.1.2.1 ?_
      refine y_same (i := .iload_n 1) (len := 1) (r := (0, 0, 0, 0)) (pc' := 30) (ls' := [some (.inl (some a)), some (zi xi)]) (st' := [zi xi, .inl (some ((a + 3)))]) (by decide +kernel) (fun k q => by cases q) rfl ?_
      refine y_ic (c := 0) (len := 1) (r := (0, 0, 0, 0)) (by decide +kernel) (by decide) (fun y1975 hy1975 => ?_)
      obtain ⟨i1977, ki1977⟩ : ∃ i9, s.1[i]? = some i9 := ⟨_, List.getElem?_eq_getElem (by omega)⟩
      have oi1977 := okQ_L Q.2.2.2.2 ki1977
      have pi1977 := oi1977.1
      unfold okV at pi1977
      refine y_cI (i := .invokevirtual 68) (len := 3) (r := (0, 64, 6, 586)) (nL := 3) (k := 1) (n := 3) (hs := []) (args := [.inl (some ((a + 3))), zi xi, zi y1975]) (rest := []) (l0 := [some (.inl (some ((a + 3)))), some (zi xi), some (zi y1975)]) (by decide +kernel) (Or.inr (Or.inl ⟨_, rfl⟩)) rfl rfl rfl rfl (Nat.le_of_ble_eq_true rfl) (zO Q.1 Q.2.1.2.2.2.1 aw1004 rfl) rfl (qI_le (by omega) (q_tlL (d := 0) (k := i) (w := 0) Q (by omega) ki1977 (by omega) (by omega))) (fun y1976 qy1976 hRy1976 => ?_)
      obtain ⟨rfl, ey1976⟩ := hRy1976
      have ey1976 : y1976.toInt = i1977.1 := ey1976
      refine y_ic (c := 1) (len := 1) (r := (0, 0, 0, 0)) (by decide +kernel) (by decide) (fun y1978 hy1978 => ?_)
      rcases Decidable.em (y1976.toInt > y1978.toInt) with q1979 | q1979
      ·
        refine y_cT (c := .gt) (off := 25) (pc' := 60) (len := 3) (r := (0, 0, 0, 0)) (by decide +kernel) (acmpT (c := .gt) (by show _ < _; omega)) (by decide +kernel) ?_
        refine y_inc (j := 1) (a := xi) (c := 1) (ls' := fun v => [some (.inl (some a)), some v]) (len := 3) (r := (0, 0, 0, 0)) (by decide +kernel) rfl (fun _ => rfl) (by decide) (by omega) (by omega) (fun y1980 hy1980 => ?_)
        show qX (d + 2) 85 63 [some (.inl (some a)), some (zi y1980)] [] h t _
        refine y_goto (off := (-49)) (pc' := 14) (len := 3) (r := (0, 0, 0, 0)) (by decide +kernel) (by decide +kernel) ?_
        refine ih (i + 1) y1980 (by omega) (by omega) (fun j q hj h2 h1 => ?_) (by omega)
        rcases Nat.lt_or_ge j i with q9 | q9
        · exact c1 j q q9 h2 h1
        · obtain rfl : j = i := by omega
          cases ki1977.symm.trans h2
          omega
      ·
        refine y_cF (c := .gt) (off := 25) (len := 3) (r := (0, 0, 0, 0)) (by decide +kernel) (acmpF (c := .gt) (by show _ ≤ _; omega)) ?_
        refine y_same (i := .aload_n 0) (len := 1) (r := (0, 0, 0, 0)) (pc' := 39) (ls' := [some (.inl (some a)), some (zi xi)]) (st' := [.inl (some a)]) (by decide +kernel) (fun k q => by cases q) rfl ?_
        refine y_get (j := 23) (len := 3) (r := (7, 1, 2, 533)) (by decide +kernel) Q.1 Q.2.1.1 aw1008 rfl rfl Q.2.2.1.2.1 ?_
        refine y_same (i := .iload_n 1) (len := 1) (r := (0, 0, 0, 0)) (pc' := 43) (ls' := [some (.inl (some a)), some (zi xi)]) (st' := [zi xi, .inl (some ((a + 3)))]) (by decide +kernel) (fun k q => by cases q) rfl ?_
        refine y_ic (c := 1) (len := 1) (r := (0, 0, 0, 0)) (by decide +kernel) (by decide) (fun y1981 hy1981 => ?_)
        refine y_cI (i := .invokevirtual 68) (len := 3) (r := (0, 64, 6, 586)) (nL := 3) (k := 1) (n := 3) (hs := []) (args := [.inl (some ((a + 3))), zi xi, zi y1981]) (rest := []) (l0 := [some (.inl (some ((a + 3)))), some (zi xi), some (zi y1981)]) (by decide +kernel) (Or.inr (Or.inl ⟨_, rfl⟩)) rfl rfl rfl rfl (Nat.le_of_ble_eq_true rfl) (zO Q.1 Q.2.1.2.2.2.1 aw1004 rfl) rfl (qI_le (by omega) (q_tlL (d := 0) (k := i) (w := 1) Q (by omega) ki1977 (by omega) (by omega))) (fun y1982 qy1982 hRy1982 => ?_)
        obtain ⟨rfl, ey1982⟩ := hRy1982
        have ey1982 : y1982.toInt = i1977.2.1 := ey1982
        rcases Decidable.em (y1982.toInt = 0) with q1983 | q1983
        ·
          refine y_iT (c := .eq) (off := 11) (pc' := 58) (len := 3) (r := (0, 0, 0, 0)) (by decide +kernel) (acmpT (c := .eq) (by show _ = _; omega)) (by decide +kernel) ?_
          refine y_ic (c := 1) (len := 1) (r := (0, 0, 0, 0)) (by decide +kernel) (by decide) (fun y1984 hy1984 => ?_)
          refine y_rI (len := 1) (r := (0, 0, 0, 0)) (nL := 2) (k := 2) (n9 := 1) (hs := []) (by decide +kernel) rfl (zfit_b (by omega) (by omega)).2 ?_
          exact ⟨rfl, Or.inl ⟨by omega, vd_c0 ki1977 (by omega) (by omega)⟩⟩
        ·
          refine y_iF (c := .eq) (off := 11) (len := 3) (r := (0, 0, 0, 0)) (by decide +kernel) (acmpF (c := .eq) (by show ¬ (_ = _); omega)) ?_
          refine y_same (i := .aload_n 0) (len := 1) (r := (0, 0, 0, 0)) (pc' := 51) (ls' := [some (.inl (some a)), some (zi xi)]) (st' := [.inl (some a)]) (by decide +kernel) (fun k q => by cases q) rfl ?_
          refine y_same (i := .iload_n 1) (len := 1) (r := (0, 0, 0, 0)) (pc' := 52) (ls' := [some (.inl (some a)), some (zi xi)]) (st' := [zi xi, .inl (some a)]) (by decide +kernel) (fun k q => by cases q) rfl ?_
          refine y_cI (i := .invokevirtual 131) (len := 3) (r := (0, 86, 7, 647)) (nL := 3) (k := 2) (n := 2) (hs := []) (args := [.inl (some a), zi xi]) (rest := []) (l0 := [some (.inl (some a)), some (zi xi), none]) (by decide +kernel) (Or.inr (Or.inl ⟨_, rfl⟩)) rfl rfl rfl rfl (Nat.le_of_ble_eq_true rfl) (zO Q.1 Q.2.1.1 aw1008 rfl) rfl (qI_le (by omega) (q_cl (d := 0) (k := i) Q (by omega) ki1977)) (fun y1985 qy1985 hRy1985 => ?_)
          obtain ⟨rfl, hDy1985⟩ := hRy1985
          rcases hDy1985 with ⟨vy1985, ty1985⟩ | ⟨vy1985, ty1985⟩
          ·
            refine y_iF (c := .eq) (off := 5) (len := 3) (r := (0, 0, 0, 0)) (by decide +kernel) (acmpF (c := .eq) (by show ¬ (_ = _); omega)) ?_
            refine y_ic (c := 1) (len := 1) (r := (0, 0, 0, 0)) (by decide +kernel) (by decide) (fun y1986 hy1986 => ?_)
            refine y_rI (len := 1) (r := (0, 0, 0, 0)) (nL := 2) (k := 2) (n9 := 1) (hs := []) (by decide +kernel) rfl (zfit_b (by omega) (by omega)).2 ?_
            obtain ⟨j9, q9, n9, k9, w9, e9⟩ := ty1985
            exact ⟨rfl, Or.inl ⟨by omega, vd_cl Q.2.2.2.2 ki1977 k9 n9 (by omega) w9 e9⟩⟩
          ·
            refine y_iT (c := .eq) (off := 5) (pc' := 60) (len := 3) (r := (0, 0, 0, 0)) (by decide +kernel) (acmpT (c := .eq) (by show _ = _; omega)) (by decide +kernel) ?_
            refine y_inc (j := 1) (a := xi) (c := 1) (ls' := fun v => [some (.inl (some a)), some v]) (len := 3) (r := (0, 0, 0, 0)) (by decide +kernel) rfl (fun _ => rfl) (by decide) (by omega) (by omega) (fun y1987 hy1987 => ?_)
            show qX (d + 2) 85 63 [some (.inl (some a)), some (zi y1987)] [] h t _
            refine y_goto (off := (-49)) (pc' := 14) (len := 3) (r := (0, 0, 0, 0)) (by decide +kernel) (by decide +kernel) ?_
            refine ih (i + 1) y1987 (by omega) (by omega) (fun j q hj h2 h1 => ?_) (by omega)
            rcases Nat.lt_or_ge j i with q9 | q9
            · exact c1 j q q9 h2 h1
            · obtain rfl : j = i := by omega
              cases ki1977.symm.trans h2
              exact ⟨by omega, ty1985⟩
theorem q_vd {d t a : Nat} {τ : List Nat} {h : zh} {s : sqT} (Q : QC τ h a s) : qI (d + 3) 85 [some (.inl (some a)), none] h t (fun y h1 => h = h1 ∧ ((y.toInt = 1 ∧ vd_ s) ∨ (y.toInt = 0 ∧ ¬ vd_ s))) := by
  refine qI_of ?_
  refine y_same (i := .aload_n 0) (len := 1) (r := (0, 0, 0, 0)) (pc' := 1) (ls' := [some (.inl (some a)), none]) (st' := [.inl (some a)]) (by decide +kernel) (fun k q => by cases q) rfl ?_
  refine y_get (j := 12) (len := 3) (r := (7, 0, 2, 530)) (by decide +kernel) Q.1 Q.2.1.1 aw1008 rfl rfl Q.2.2.1.1 ?_
  refine y_cI (i := .invokevirtual 128) (len := 3) (r := (0, 6, 0, 643)) (nL := 2) (k := 2) (n := 1) (hs := []) (args := [.inl (some ((a + 1)))]) (rest := []) (l0 := [some (.inl (some ((a + 1)))), none]) (by decide +kernel) (Or.inr (Or.inl ⟨_, rfl⟩)) rfl rfl rfl rfl (Nat.le_of_ble_eq_true rfl) (zO Q.1 Q.2.1.2.1 aw1009 rfl) rfl (qI_le (by omega) (q_dself (d := 0) Q)) (fun y1988 qy1988 hRy1988 => ?_)
  obtain ⟨rfl, hDy1988⟩ := hRy1988
  rcases hDy1988 with ⟨vy1988, ty1988⟩ | ⟨vy1988, ty1988⟩
  ·
    refine y_iF (c := .eq) (off := 5) (len := 3) (r := (0, 0, 0, 0)) (by decide +kernel) (acmpF (c := .eq) (by show ¬ (_ = _); omega)) ?_
    refine y_ic (c := 1) (len := 1) (r := (0, 0, 0, 0)) (by decide +kernel) (by decide) (fun y1989 hy1989 => ?_)
    refine y_rI (len := 1) (r := (0, 0, 0, 0)) (nL := 2) (k := 2) (n9 := 1) (hs := []) (by decide +kernel) rfl (zfit_b (by omega) (by omega)).2 ?_
    obtain ⟨a9, d9⟩ := ty1988
    exact ⟨rfl, Or.inl ⟨by omega, Or.inl ⟨a9, a9, d9, rfl⟩⟩⟩
  ·
    refine y_iT (c := .eq) (off := 5) (pc' := 12) (len := 3) (r := (0, 0, 0, 0)) (by decide +kernel) (acmpT (c := .eq) (by show _ = _; omega)) (by decide +kernel) ?_
    refine y_ic (c := 0) (len := 1) (r := (0, 0, 0, 0)) (by decide +kernel) (by decide) (fun y1990 hy1990 => ?_)
    refine y_same (i := .istore_n 1) (len := 1) (r := (0, 0, 0, 0)) (pc' := 14) (ls' := [some (.inl (some a)), some (zi y1990)]) (st' := []) (by decide +kernel) (fun k q => by cases q) rfl ?_
    exact vdq_l Q ty1988 (s.1.length + 1) 0 y1990 (by omega) (by omega) (fun j _ hj => absurd hj (Nat.not_lt_zero j)) (by omega)
theorem bs_k1 {c : Int32} (hc : c.toInt = 1) : bs_ c (fun v => v = 0) := fun v hv => by
  rw [ofI (w := 1) hc rfl, show (1 : Int32) = nI 1 from rfl, bt_nI hv, show (1 : Nat) = 2 ^ 0 from rfl, Nat.testBit_two_pow, decide_eq_true_eq]
  omega
theorem ap_b {L : List it4} {m : Nat} (h : (∃ p ∈ L, p.1 ≤ 1 ∧ p.2.1 = (m : Int)) ∨ m = 0) : ap L (m : Int) := h.elim Or.inr (fun e => Or.inl (by omega))
theorem ap_f {L : List it4} {m : Nat} (h : ap L (m : Int)) : (∃ p ∈ L, p.1 ≤ 1 ∧ p.2.1 = (m : Int)) ∨ m = 0 := h.elim (fun e => Or.inr (by omega)) Or.inl
theorem q_knN {d t a : Nat} {τ : List Nat} {h : zh} {s : sqT} (Q : QC τ h a s) {m n : Nat} {xx xy : Int32} (exx : xx.toInt = (m : Int)) (hm : m ≤ 20) (exy : xy.toInt = (n : Int)) (hn : n ≤ 20) : qI (d + 3) 92 [some (.inl (some a)), some (zi xx), some (zi xy), none] h t (fun y h1 => h = h1 ∧ ((y.toInt = 1 ∧ kn s.1 s.2.2.2 m n) ∨ (y.toInt = 0 ∧ ¬ kn s.1 s.2.2.2 m n))) := by
  refine qI_of ?_
  refine y_same (i := .aload_n 0) (len := 1) (r := (0, 0, 0, 0)) (pc' := 1) (ls' := [some (.inl (some a)), some (zi xx), some (zi xy), none]) (st' := [.inl (some a)]) (by decide +kernel) (fun k q => by cases q) rfl ?_
  refine y_get (j := 23) (len := 3) (r := (7, 1, 2, 533)) (by decide +kernel) Q.1 Q.2.1.1 aw1008 rfl rfl Q.2.2.1.2.1 ?_
  refine y_cI (i := .invokevirtual 146) (len := 3) (r := (0, 74, 6, 668)) (nL := 3) (k := 1) (n := 1) (hs := []) (args := [.inl (some ((a + 3)))]) (rest := []) (l0 := [some (.inl (some ((a + 3)))), none, none]) (by decide +kernel) (Or.inr (Or.inl ⟨_, rfl⟩)) rfl rfl rfl rfl (Nat.le_of_ble_eq_true rfl) (zO Q.1 Q.2.1.2.2.2.1 aw1004 rfl) rfl (qI_le (by omega) (q_ow (d := 0) Q)) (fun y1991 qy1991 hRy1991 => ?_)
  obtain ⟨rfl, ty1991⟩ := hRy1991
  refine y_ic (c := 1) (len := 1) (r := (0, 0, 0, 0)) (by decide +kernel) (by decide) (fun y1992 hy1992 => ?_)
  refine y_bp (i := .ior) (f := fun x y => x ||| y) (len := 1) (r := (0, 0, 0, 0)) (by decide +kernel) rfl rfl (fun y1993 hy1993 => ?_)
  have hy1993 : y1993 = y1991 ||| y1992 := hy1993
  have ba := bs_or ty1991 (bs_k1 (c := y1992) (by omega))
  rw [← hy1993] at ba
  refine y_same (i := .istore_n 3) (len := 1) (r := (0, 0, 0, 0)) (pc' := 10) (ls' := [some (.inl (some a)), some (zi xx), some (zi xy), some (zi y1993)]) (st' := []) (by decide +kernel) (fun k q => by cases q) rfl ?_
  refine y_same (i := .aload_n 0) (len := 1) (r := (0, 0, 0, 0)) (pc' := 11) (ls' := [some (.inl (some a)), some (zi xx), some (zi xy), some (zi y1993)]) (st' := [.inl (some a)]) (by decide +kernel) (fun k q => by cases q) rfl ?_
  refine y_get (j := 12) (len := 3) (r := (7, 0, 2, 530)) (by decide +kernel) Q.1 Q.2.1.1 aw1008 rfl rfl Q.2.2.1.1 ?_
  refine y_same (i := .iload_n 1) (len := 1) (r := (0, 0, 0, 0)) (pc' := 15) (ls' := [some (.inl (some a)), some (zi xx), some (zi xy), some (zi y1993)]) (st' := [zi xx, .inl (some ((a + 1)))]) (by decide +kernel) (fun k q => by cases q) rfl ?_
  refine y_same (i := .iload_n 2) (len := 1) (r := (0, 0, 0, 0)) (pc' := 16) (ls' := [some (.inl (some a)), some (zi xx), some (zi xy), some (zi y1993)]) (st' := [zi xy, zi xx, .inl (some ((a + 1)))]) (by decide +kernel) (fun k q => by cases q) rfl ?_
  refine y_cI (i := .invokevirtual 153) (len := 3) (r := (0, 3, 0, 684)) (nL := 3) (k := 2) (n := 3) (hs := []) (args := [.inl (some ((a + 1))), zi xx, zi xy]) (rest := []) (l0 := [some (.inl (some ((a + 1)))), some (zi xx), some (zi xy)]) (by decide +kernel) (Or.inr (Or.inl ⟨_, rfl⟩)) rfl rfl rfl rfl (Nat.le_of_ble_eq_true rfl) (zO Q.1 Q.2.1.2.1 aw1009 rfl) rfl (qI_le (by omega) (q_dhas (d := 0) (x := m) (y := n) Q (by omega) (by omega) (by omega) (by omega))) (fun y1994 qy1994 hRy1994 => ?_)
  obtain ⟨rfl, hDy1994⟩ := hRy1994
  rcases hDy1994 with ⟨vy1994, ty1994⟩ | ⟨vy1994, ty1994⟩
  ·
    refine y_iT (c := .ne) (off := 26) (pc' := 45) (len := 3) (r := (0, 0, 0, 0)) (by decide +kernel) (acmpT (c := .ne) (by show ¬ (_ = _); omega)) (by decide +kernel) ?_
    refine y_ic (c := 1) (len := 1) (r := (0, 0, 0, 0)) (by decide +kernel) (by decide) (fun y1995 hy1995 => ?_)
    refine y_goto (off := 4) (pc' := 50) (len := 3) (r := (0, 0, 0, 0)) (by decide +kernel) (by decide +kernel) ?_
    refine y_rI (len := 1) (r := (0, 0, 0, 0)) (nL := 4) (k := 2) (n9 := 3) (hs := []) (by decide +kernel) rfl (zfit_b (by omega) (by omega)).2 ?_
    exact ⟨rfl, Or.inl ⟨by omega, Or.inl ty1994⟩⟩
  ·
    refine y_iF (c := .ne) (off := 26) (len := 3) (r := (0, 0, 0, 0)) (by decide +kernel) (acmpF (c := .ne) (by show _ = _; omega)) ?_
    refine y_same (i := .iload_n 1) (len := 1) (r := (0, 0, 0, 0)) (pc' := 23) (ls' := [some (.inl (some a)), some (zi xx), some (zi xy), some (zi y1993)]) (st' := [zi xx]) (by decide +kernel) (fun k q => by cases q) rfl ?_
    refine y_same (i := .iload_n 2) (len := 1) (r := (0, 0, 0, 0)) (pc' := 24) (ls' := [some (.inl (some a)), some (zi xx), some (zi xy), some (zi y1993)]) (st' := [zi xy, zi xx]) (by decide +kernel) (fun k q => by cases q) rfl ?_
    rcases Decidable.em (xx.toInt = xy.toInt) with q1996 | q1996
    ·
      refine y_cT (c := .eq) (off := 25) (pc' := 49) (len := 3) (r := (0, 0, 0, 0)) (by decide +kernel) (acmpT (c := .eq) (by show _ = _; omega)) (by decide +kernel) ?_
      refine y_ic (c := 0) (len := 1) (r := (0, 0, 0, 0)) (by decide +kernel) (by decide) (fun y1997 hy1997 => ?_)
      refine y_rI (len := 1) (r := (0, 0, 0, 0)) (nL := 4) (k := 2) (n9 := 3) (hs := []) (by decide +kernel) rfl (zfit_b (by omega) (by omega)).2 ?_
      refine ⟨rfl, Or.inr ⟨by omega, fun q9 => q9.elim ty1994 (fun q8 => ?_)⟩⟩
      obtain ⟨q7, q6, q5⟩ := q8
      omega
    ·
      refine y_cF (c := .eq) (off := 25) (len := 3) (r := (0, 0, 0, 0)) (by decide +kernel) (acmpF (c := .eq) (by show ¬ (_ = _); omega)) ?_
      refine y_same (i := .iload_n 3) (len := 1) (r := (0, 0, 0, 0)) (pc' := 28) (ls' := [some (.inl (some a)), some (zi xx), some (zi xy), some (zi y1993)]) (st' := [zi y1993]) (by decide +kernel) (fun k q => by cases q) rfl ?_
      refine y_same (i := .iload_n 1) (len := 1) (r := (0, 0, 0, 0)) (pc' := 29) (ls' := [some (.inl (some a)), some (zi xx), some (zi xy), some (zi y1993)]) (st' := [zi xx, zi y1993]) (by decide +kernel) (fun k q => by cases q) rfl ?_
      refine y_bp (i := .ishr) (f := fun x y => x >>> (y &&& 31)) (len := 1) (r := (0, 0, 0, 0)) (by decide +kernel) rfl rfl (fun y1998 hy1998 => ?_)
      have hy1998 : y1998 = y1993 >>> (xx &&& 31) := hy1998
      refine y_ic (c := 1) (len := 1) (r := (0, 0, 0, 0)) (by decide +kernel) (by decide) (fun y1999 hy1999 => ?_)
      refine y_bp (i := .iand) (f := fun x y => x &&& y) (len := 1) (r := (0, 0, 0, 0)) (by decide +kernel) rfl rfl (fun y2000 hy2000 => ?_)
      have hy2000 : y2000 = y1998 &&& y1999 := hy2000
      have tm := bs_t (k := m) ba exx (by omega) hy1998 hy1999 hy2000
      refine y_ic (c := 1) (len := 1) (r := (0, 0, 0, 0)) (by decide +kernel) (by decide) (fun y2001 hy2001 => ?_)
      rcases Decidable.em (y2000.toInt ≠ y2001.toInt) with q2002 | q2002
      ·
        refine y_cT (c := .ne) (off := 16) (pc' := 49) (len := 3) (r := (0, 0, 0, 0)) (by decide +kernel) (acmpT (c := .ne) (by show ¬ (_ = _); omega)) (by decide +kernel) ?_
        refine y_ic (c := 0) (len := 1) (r := (0, 0, 0, 0)) (by decide +kernel) (by decide) (fun y2003 hy2003 => ?_)
        refine y_rI (len := 1) (r := (0, 0, 0, 0)) (nL := 4) (k := 2) (n9 := 3) (hs := []) (by decide +kernel) rfl (zfit_b (by omega) (by omega)).2 ?_
        refine ⟨rfl, Or.inr ⟨by omega, fun q9 => q9.elim ty1994 (fun q8 => ?_)⟩⟩
        obtain ⟨q7, q6, q5⟩ := q8
        rcases tm with ⟨q1, -⟩ | ⟨-, q1⟩
        · omega
        · exact q1 (ap_f q6)
      ·
        refine y_cF (c := .ne) (off := 16) (len := 3) (r := (0, 0, 0, 0)) (by decide +kernel) (acmpF (c := .ne) (by show _ = _; omega)) ?_
        refine y_same (i := .iload_n 3) (len := 1) (r := (0, 0, 0, 0)) (pc' := 37) (ls' := [some (.inl (some a)), some (zi xx), some (zi xy), some (zi y1993)]) (st' := [zi y1993]) (by decide +kernel) (fun k q => by cases q) rfl ?_
        refine y_same (i := .iload_n 2) (len := 1) (r := (0, 0, 0, 0)) (pc' := 38) (ls' := [some (.inl (some a)), some (zi xx), some (zi xy), some (zi y1993)]) (st' := [zi xy, zi y1993]) (by decide +kernel) (fun k q => by cases q) rfl ?_
        refine y_bp (i := .ishr) (f := fun x y => x >>> (y &&& 31)) (len := 1) (r := (0, 0, 0, 0)) (by decide +kernel) rfl rfl (fun y2004 hy2004 => ?_)
        have hy2004 : y2004 = y1993 >>> (xy &&& 31) := hy2004
        refine y_ic (c := 1) (len := 1) (r := (0, 0, 0, 0)) (by decide +kernel) (by decide) (fun y2005 hy2005 => ?_)
        refine y_bp (i := .iand) (f := fun x y => x &&& y) (len := 1) (r := (0, 0, 0, 0)) (by decide +kernel) rfl rfl (fun y2006 hy2006 => ?_)
        have hy2006 : y2006 = y2004 &&& y2005 := hy2006
        have tn := bs_t (k := n) ba exy (by omega) hy2004 hy2005 hy2006
        refine y_ic (c := 1) (len := 1) (r := (0, 0, 0, 0)) (by decide +kernel) (by decide) (fun y2007 hy2007 => ?_)
        rcases Decidable.em (y2006.toInt ≠ y2007.toInt) with q2008 | q2008
        ·
          refine y_cT (c := .ne) (off := 7) (pc' := 49) (len := 3) (r := (0, 0, 0, 0)) (by decide +kernel) (acmpT (c := .ne) (by show ¬ (_ = _); omega)) (by decide +kernel) ?_
          refine y_ic (c := 0) (len := 1) (r := (0, 0, 0, 0)) (by decide +kernel) (by decide) (fun y2009 hy2009 => ?_)
          refine y_rI (len := 1) (r := (0, 0, 0, 0)) (nL := 4) (k := 2) (n9 := 3) (hs := []) (by decide +kernel) rfl (zfit_b (by omega) (by omega)).2 ?_
          refine ⟨rfl, Or.inr ⟨by omega, fun q9 => q9.elim ty1994 (fun q8 => ?_)⟩⟩
          obtain ⟨q7, q6, q5⟩ := q8
          rcases tn with ⟨q1, -⟩ | ⟨-, q1⟩
          · omega
          · exact q1 (ap_f q5)
        ·
          refine y_cF (c := .ne) (off := 7) (len := 3) (r := (0, 0, 0, 0)) (by decide +kernel) (acmpF (c := .ne) (by show _ = _; omega)) ?_
          refine y_ic (c := 1) (len := 1) (r := (0, 0, 0, 0)) (by decide +kernel) (by decide) (fun y2010 hy2010 => ?_)
          refine y_goto (off := 4) (pc' := 50) (len := 3) (r := (0, 0, 0, 0)) (by decide +kernel) (by decide +kernel) ?_
          refine y_rI (len := 1) (r := (0, 0, 0, 0)) (nL := 4) (k := 2) (n9 := 3) (hs := []) (by decide +kernel) rfl (zfit_b (by omega) (by omega)).2 ?_
          refine ⟨rfl, Or.inl ⟨by omega, Or.inr ⟨fun e9 => q1996 (exx.trans (e9.trans exy.symm)), ?_, ?_⟩⟩⟩
          · rcases tm with ⟨-, q1⟩ | ⟨q1, -⟩
            · exact ap_b q1
            · omega
          · rcases tn with ⟨-, q1⟩ | ⟨q1, -⟩
            · exact ap_b q1
            · omega
theorem q_kn {d t a : Nat} {τ : List Nat} {h : zh} {s : sqT} (Q : QC τ h a s) {x y : Int} {xx xy : Int32} (exx : xx.toInt = x) (hx : 0 ≤ x ∧ x ≤ 20) (exy : xy.toInt = y) (hy : 0 ≤ y ∧ y ≤ 20) : qI (d + 3) 92 [some (.inl (some a)), some (zi xx), some (zi xy), none] h t (fun z h1 => h = h1 ∧ ((z.toInt = 1 ∧ kn s.1 s.2.2.2 x y) ∨ (z.toInt = 0 ∧ ¬ kn s.1 s.2.2.2 x y))) := by
  obtain ⟨m, rfl⟩ := Int.eq_ofNat_of_zero_le hx.1
  obtain ⟨n, rfl⟩ := Int.eq_ofNat_of_zero_le hy.1
  exact q_knN Q exx (by omega) exy (by omega)
def dn_ (m : Bool) (s : sqT) : Prop := s.2.1 = [] ∧ s.2.2.1 = [] ∧ (m = true ∨ s.1 = [])
theorem q_done0 {d t a : Nat} {τ : List Nat} {h : zh} {s : sqT} (Q : QC τ h a s) {xm : Int32} : qI (d + 1) 93 [some (.inl (some a)), some (zi xm)] h t (fun y h1 => h = h1 ∧ ((y.toInt = 1 ∧ s.2.1 = [] ∧ s.2.2.1 = [] ∧ (xm.toInt ≠ 0 ∨ s.1 = [])) ∨ (y.toInt = 0 ∧ ¬ (s.2.1 = [] ∧ s.2.2.1 = [] ∧ (xm.toInt ≠ 0 ∨ s.1 = []))))) := by
  refine qI_of ?_
  refine y_same (i := .aload_n 0) (len := 1) (r := (0, 0, 0, 0)) (pc' := 1) (ls' := [some (.inl (some a)), some (zi xm)]) (st' := [.inl (some a)]) (by decide +kernel) (fun k q => by cases q) rfl ?_
  refine y_get (j := 27) (len := 3) (r := (7, 2, 2, 536)) (by decide +kernel) Q.1 Q.2.1.1 aw1008 rfl rfl Q.2.2.1.2.2.1 ?_
  obtain ⟨z2011, hz2011, ez2011, mz2011⟩ := q_szR Q
  have ez2011 : z2011.toInt = ((s.2.1.length : Nat) : Int) := ez2011
  have mz2011 : s.2.1.length ≤ 14 := mz2011
  refine y_get (j := 65) (len := 3) (r := (6, 1, 0, 20165)) (by decide +kernel) Q.1 Q.2.1.2.2.2.2.2.1 aw1004 rfl rfl hz2011 ?_
  rcases Decidable.em (z2011.toInt ≠ 0) with q2012 | q2012
  ·
    refine y_iT (c := .ne) (off := 31) (pc' := 38) (len := 3) (r := (0, 0, 0, 0)) (by decide +kernel) (acmpT (c := .ne) (by show ¬ (_ = _); omega)) (by decide +kernel) ?_
    refine y_ic (c := 0) (len := 1) (r := (0, 0, 0, 0)) (by decide +kernel) (by decide) (fun y2013 hy2013 => ?_)
    refine y_rI (len := 1) (r := (0, 0, 0, 0)) (nL := 2) (k := 2) (n9 := 2) (hs := []) (by decide +kernel) rfl (zfit_b (by omega) (by omega)).2 ?_
    refine ⟨rfl, Or.inr ⟨by omega, fun q9 => ?_⟩⟩
    obtain ⟨q8, q7, q6⟩ := q9
    have q8 := List.length_eq_zero_iff.mpr q8
    have q7 := List.length_eq_zero_iff.mpr q7
    rcases q6 with q6 | q6
    · omega
    · have q6 := List.length_eq_zero_iff.mpr q6
      omega
  ·
    refine y_iF (c := .ne) (off := 31) (len := 3) (r := (0, 0, 0, 0)) (by decide +kernel) (acmpF (c := .ne) (by show _ = _; omega)) ?_
    refine y_same (i := .aload_n 0) (len := 1) (r := (0, 0, 0, 0)) (pc' := 11) (ls' := [some (.inl (some a)), some (zi xm)]) (st' := [.inl (some a)]) (by decide +kernel) (fun k q => by cases q) rfl ?_
    refine y_get (j := 30) (len := 3) (r := (7, 3, 2, 539)) (by decide +kernel) Q.1 Q.2.1.1 aw1008 rfl rfl Q.2.2.1.2.2.2.1 ?_
    obtain ⟨z2014, hz2014, ez2014, mz2014⟩ := q_szC Q
    have ez2014 : z2014.toInt = ((s.2.2.1.length : Nat) : Int) := ez2014
    have mz2014 : s.2.2.1.length ≤ 14 := mz2014
    refine y_get (j := 65) (len := 3) (r := (6, 1, 0, 20165)) (by decide +kernel) Q.1 Q.2.1.2.2.2.2.2.2.2.1 aw1004 rfl rfl hz2014 ?_
    rcases Decidable.em (z2014.toInt ≠ 0) with q2015 | q2015
    ·
      refine y_iT (c := .ne) (off := 21) (pc' := 38) (len := 3) (r := (0, 0, 0, 0)) (by decide +kernel) (acmpT (c := .ne) (by show ¬ (_ = _); omega)) (by decide +kernel) ?_
      refine y_ic (c := 0) (len := 1) (r := (0, 0, 0, 0)) (by decide +kernel) (by decide) (fun y2016 hy2016 => ?_)
      refine y_rI (len := 1) (r := (0, 0, 0, 0)) (nL := 2) (k := 2) (n9 := 2) (hs := []) (by decide +kernel) rfl (zfit_b (by omega) (by omega)).2 ?_
      refine ⟨rfl, Or.inr ⟨by omega, fun q9 => ?_⟩⟩
      obtain ⟨q8, q7, q6⟩ := q9
      have q8 := List.length_eq_zero_iff.mpr q8
      have q7 := List.length_eq_zero_iff.mpr q7
      rcases q6 with q6 | q6
      · omega
      · have q6 := List.length_eq_zero_iff.mpr q6
        omega
    ·
      refine y_iF (c := .ne) (off := 21) (len := 3) (r := (0, 0, 0, 0)) (by decide +kernel) (acmpF (c := .ne) (by show _ = _; omega)) ?_
      refine y_same (i := .iload_n 1) (len := 1) (r := (0, 0, 0, 0)) (pc' := 21) (ls' := [some (.inl (some a)), some (zi xm)]) (st' := [zi xm]) (by decide +kernel) (fun k q => by cases q) rfl ?_
      rcases Decidable.em (xm.toInt ≠ 0) with q2017 | q2017
      ·
        refine y_iT (c := .ne) (off := 13) (pc' := 34) (len := 3) (r := (0, 0, 0, 0)) (by decide +kernel) (acmpT (c := .ne) (by show ¬ (_ = _); omega)) (by decide +kernel) ?_
        refine y_ic (c := 1) (len := 1) (r := (0, 0, 0, 0)) (by decide +kernel) (by decide) (fun y2018 hy2018 => ?_)
        refine y_goto (off := 4) (pc' := 39) (len := 3) (r := (0, 0, 0, 0)) (by decide +kernel) (by decide +kernel) ?_
        refine y_rI (len := 1) (r := (0, 0, 0, 0)) (nL := 2) (k := 2) (n9 := 2) (hs := []) (by decide +kernel) rfl (zfit_b (by omega) (by omega)).2 ?_
        exact ⟨rfl, Or.inl ⟨by omega, List.length_eq_zero_iff.mp (by omega), List.length_eq_zero_iff.mp (by omega), Or.inl (by omega)⟩⟩
      ·
        refine y_iF (c := .ne) (off := 13) (len := 3) (r := (0, 0, 0, 0)) (by decide +kernel) (acmpF (c := .ne) (by show _ = _; omega)) ?_
        refine y_same (i := .aload_n 0) (len := 1) (r := (0, 0, 0, 0)) (pc' := 25) (ls' := [some (.inl (some a)), some (zi xm)]) (st' := [.inl (some a)]) (by decide +kernel) (fun k q => by cases q) rfl ?_
        refine y_get (j := 23) (len := 3) (r := (7, 1, 2, 533)) (by decide +kernel) Q.1 Q.2.1.1 aw1008 rfl rfl Q.2.2.1.2.1 ?_
        obtain ⟨z2019, hz2019, ez2019, mz2019⟩ := q_szL Q
        have ez2019 : z2019.toInt = ((s.1.length : Nat) : Int) := ez2019
        have mz2019 : s.1.length ≤ 14 := mz2019
        refine y_get (j := 65) (len := 3) (r := (6, 1, 0, 20165)) (by decide +kernel) Q.1 Q.2.1.2.2.2.1 aw1004 rfl rfl hz2019 ?_
        rcases Decidable.em (z2019.toInt ≠ 0) with q2020 | q2020
        ·
          refine y_iT (c := .ne) (off := 7) (pc' := 38) (len := 3) (r := (0, 0, 0, 0)) (by decide +kernel) (acmpT (c := .ne) (by show ¬ (_ = _); omega)) (by decide +kernel) ?_
          refine y_ic (c := 0) (len := 1) (r := (0, 0, 0, 0)) (by decide +kernel) (by decide) (fun y2021 hy2021 => ?_)
          refine y_rI (len := 1) (r := (0, 0, 0, 0)) (nL := 2) (k := 2) (n9 := 2) (hs := []) (by decide +kernel) rfl (zfit_b (by omega) (by omega)).2 ?_
          refine ⟨rfl, Or.inr ⟨by omega, fun q9 => ?_⟩⟩
          obtain ⟨q8, q7, q6⟩ := q9
          have q8 := List.length_eq_zero_iff.mpr q8
          have q7 := List.length_eq_zero_iff.mpr q7
          rcases q6 with q6 | q6
          · omega
          · have q6 := List.length_eq_zero_iff.mpr q6
            omega
        ·
          refine y_iF (c := .ne) (off := 7) (len := 3) (r := (0, 0, 0, 0)) (by decide +kernel) (acmpF (c := .ne) (by show _ = _; omega)) ?_
          refine y_ic (c := 1) (len := 1) (r := (0, 0, 0, 0)) (by decide +kernel) (by decide) (fun y2022 hy2022 => ?_)
          refine y_goto (off := 4) (pc' := 39) (len := 3) (r := (0, 0, 0, 0)) (by decide +kernel) (by decide +kernel) ?_
          refine y_rI (len := 1) (r := (0, 0, 0, 0)) (nL := 2) (k := 2) (n9 := 2) (hs := []) (by decide +kernel) rfl (zfit_b (by omega) (by omega)).2 ?_
          exact ⟨rfl, Or.inl ⟨by omega, List.length_eq_zero_iff.mp (by omega), List.length_eq_zero_iff.mp (by omega), Or.inr (List.length_eq_zero_iff.mp (by omega))⟩⟩
theorem q_done {d t a : Nat} {τ : List Nat} {h : zh} {s : sqT} (Q : QC τ h a s) {m : Bool} {xm : Int32} (em : xm.toInt = if m then 1 else 0) : qI (d + 1) 93 [some (.inl (some a)), some (zi xm)] h t (fun y h1 => h = h1 ∧ ((y.toInt = 1 ∧ dn_ m s) ∨ (y.toInt = 0 ∧ ¬ dn_ m s))) := by
  have e : (xm.toInt ≠ 0) = (m = true) := by
    rw [em]
    cases m <;> simp
  have k := q_done0 (d := d) (t := t) (xm := xm) Q
  rw [e] at k
  exact k
