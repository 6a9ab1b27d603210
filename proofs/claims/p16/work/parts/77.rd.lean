theorem alC_up5 {τ τ1 : List Nat} {h h1 : zh} (hg : hG τ h) (al : alC h) (F : oF (fun k j => k ≠ 15 ∨ j < 3) τ h τ1 h1) : alC h1 := ⟨(F.2.2 15 15 0 (tv15 hg) (show 15 ≠ 15 ∨ 0 < 3 by omega)).trans al.1, (F.2.2 16 1000 0 (tv16 hg) (show 16 ≠ 15 ∨ 0 < 3 by omega)).trans al.2.1, (F.2.2 16 1000 1 (tv16 hg) (show 16 ≠ 15 ∨ 1 < 3 by omega)).trans al.2.2.1, (F.2.2 17 1001 0 (tv17 hg) (show 17 ≠ 15 ∨ 0 < 3 by omega)).trans al.2.2.2.1, (F.2.2 17 1001 1 (tv17 hg) (show 17 ≠ 15 ∨ 1 < 3 by omega)).trans al.2.2.2.2.1, (F.2.2 22 1001 0 (tv22 hg) (show 22 ≠ 15 ∨ 0 < 3 by omega)).trans al.2.2.2.2.2.1, (F.2.2 22 1001 1 (tv22 hg) (show 22 ≠ 15 ∨ 1 < 3 by omega)).trans al.2.2.2.2.2.2.1, (F.2.2 18 1002 0 (tv18 hg) (show 18 ≠ 15 ∨ 0 < 3 by omega)).trans al.2.2.2.2.2.2.2.1, (F.2.2 20 1003 0 (tv20 hg) (show 20 ≠ 15 ∨ 0 < 3 by omega)).trans al.2.2.2.2.2.2.2.2.1, (F.2.2 23 1002 0 (tv23 hg) (show 23 ≠ 15 ∨ 0 < 3 by omega)).trans al.2.2.2.2.2.2.2.2.2.1, (F.2.2 25 1003 0 (tv25 hg) (show 25 ≠ 15 ∨ 0 < 3 by omega)).trans al.2.2.2.2.2.2.2.2.2.2⟩
theorem alC_upS0 {τ τ1 : List Nat} {h h1 : zh} (hg : hG τ h) (al : alC h) (F : oF (fun k j => (k ≠ 15 ∨ j < 3) ∧ k ≠ 19 ∧ k ≠ 21 ∧ ((k ≠ 18 ∧ k ≠ 20) ∨ j ≠ 1)) τ h τ1 h1) : alC h1 := ⟨(F.2.2 15 15 0 (tv15 hg) (show (15 ≠ 15 ∨ 0 < 3) ∧ 15 ≠ 19 ∧ 15 ≠ 21 ∧ ((15 ≠ 18 ∧ 15 ≠ 20) ∨ 0 ≠ 1) by omega)).trans al.1, (F.2.2 16 1000 0 (tv16 hg) (show (16 ≠ 15 ∨ 0 < 3) ∧ 16 ≠ 19 ∧ 16 ≠ 21 ∧ ((16 ≠ 18 ∧ 16 ≠ 20) ∨ 0 ≠ 1) by omega)).trans al.2.1, (F.2.2 16 1000 1 (tv16 hg) (show (16 ≠ 15 ∨ 1 < 3) ∧ 16 ≠ 19 ∧ 16 ≠ 21 ∧ ((16 ≠ 18 ∧ 16 ≠ 20) ∨ 1 ≠ 1) by omega)).trans al.2.2.1, (F.2.2 17 1001 0 (tv17 hg) (show (17 ≠ 15 ∨ 0 < 3) ∧ 17 ≠ 19 ∧ 17 ≠ 21 ∧ ((17 ≠ 18 ∧ 17 ≠ 20) ∨ 0 ≠ 1) by omega)).trans al.2.2.2.1, (F.2.2 17 1001 1 (tv17 hg) (show (17 ≠ 15 ∨ 1 < 3) ∧ 17 ≠ 19 ∧ 17 ≠ 21 ∧ ((17 ≠ 18 ∧ 17 ≠ 20) ∨ 1 ≠ 1) by omega)).trans al.2.2.2.2.1, (F.2.2 22 1001 0 (tv22 hg) (show (22 ≠ 15 ∨ 0 < 3) ∧ 22 ≠ 19 ∧ 22 ≠ 21 ∧ ((22 ≠ 18 ∧ 22 ≠ 20) ∨ 0 ≠ 1) by omega)).trans al.2.2.2.2.2.1, (F.2.2 22 1001 1 (tv22 hg) (show (22 ≠ 15 ∨ 1 < 3) ∧ 22 ≠ 19 ∧ 22 ≠ 21 ∧ ((22 ≠ 18 ∧ 22 ≠ 20) ∨ 1 ≠ 1) by omega)).trans al.2.2.2.2.2.2.1, (F.2.2 18 1002 0 (tv18 hg) (show (18 ≠ 15 ∨ 0 < 3) ∧ 18 ≠ 19 ∧ 18 ≠ 21 ∧ ((18 ≠ 18 ∧ 18 ≠ 20) ∨ 0 ≠ 1) by omega)).trans al.2.2.2.2.2.2.2.1, (F.2.2 20 1003 0 (tv20 hg) (show (20 ≠ 15 ∨ 0 < 3) ∧ 20 ≠ 19 ∧ 20 ≠ 21 ∧ ((20 ≠ 18 ∧ 20 ≠ 20) ∨ 0 ≠ 1) by omega)).trans al.2.2.2.2.2.2.2.2.1, (F.2.2 23 1002 0 (tv23 hg) (show (23 ≠ 15 ∨ 0 < 3) ∧ 23 ≠ 19 ∧ 23 ≠ 21 ∧ ((23 ≠ 18 ∧ 23 ≠ 20) ∨ 0 ≠ 1) by omega)).trans al.2.2.2.2.2.2.2.2.2.1, (F.2.2 25 1003 0 (tv25 hg) (show (25 ≠ 15 ∨ 0 < 3) ∧ 25 ≠ 19 ∧ 25 ≠ 21 ∧ ((25 ≠ 18 ∧ 25 ≠ 20) ∨ 0 ≠ 1) by omega)).trans al.2.2.2.2.2.2.2.2.2.2⟩
theorem alC_upS1 {τ τ1 : List Nat} {h h1 : zh} (hg : hG τ h) (al : alC h) (F : oF (fun k j => (k ≠ 15 ∨ j < 3) ∧ k ≠ 24 ∧ k ≠ 26 ∧ ((k ≠ 23 ∧ k ≠ 25) ∨ j ≠ 1)) τ h τ1 h1) : alC h1 := ⟨(F.2.2 15 15 0 (tv15 hg) (show (15 ≠ 15 ∨ 0 < 3) ∧ 15 ≠ 24 ∧ 15 ≠ 26 ∧ ((15 ≠ 23 ∧ 15 ≠ 25) ∨ 0 ≠ 1) by omega)).trans al.1, (F.2.2 16 1000 0 (tv16 hg) (show (16 ≠ 15 ∨ 0 < 3) ∧ 16 ≠ 24 ∧ 16 ≠ 26 ∧ ((16 ≠ 23 ∧ 16 ≠ 25) ∨ 0 ≠ 1) by omega)).trans al.2.1, (F.2.2 16 1000 1 (tv16 hg) (show (16 ≠ 15 ∨ 1 < 3) ∧ 16 ≠ 24 ∧ 16 ≠ 26 ∧ ((16 ≠ 23 ∧ 16 ≠ 25) ∨ 1 ≠ 1) by omega)).trans al.2.2.1, (F.2.2 17 1001 0 (tv17 hg) (show (17 ≠ 15 ∨ 0 < 3) ∧ 17 ≠ 24 ∧ 17 ≠ 26 ∧ ((17 ≠ 23 ∧ 17 ≠ 25) ∨ 0 ≠ 1) by omega)).trans al.2.2.2.1, (F.2.2 17 1001 1 (tv17 hg) (show (17 ≠ 15 ∨ 1 < 3) ∧ 17 ≠ 24 ∧ 17 ≠ 26 ∧ ((17 ≠ 23 ∧ 17 ≠ 25) ∨ 1 ≠ 1) by omega)).trans al.2.2.2.2.1, (F.2.2 22 1001 0 (tv22 hg) (show (22 ≠ 15 ∨ 0 < 3) ∧ 22 ≠ 24 ∧ 22 ≠ 26 ∧ ((22 ≠ 23 ∧ 22 ≠ 25) ∨ 0 ≠ 1) by omega)).trans al.2.2.2.2.2.1, (F.2.2 22 1001 1 (tv22 hg) (show (22 ≠ 15 ∨ 1 < 3) ∧ 22 ≠ 24 ∧ 22 ≠ 26 ∧ ((22 ≠ 23 ∧ 22 ≠ 25) ∨ 1 ≠ 1) by omega)).trans al.2.2.2.2.2.2.1, (F.2.2 18 1002 0 (tv18 hg) (show (18 ≠ 15 ∨ 0 < 3) ∧ 18 ≠ 24 ∧ 18 ≠ 26 ∧ ((18 ≠ 23 ∧ 18 ≠ 25) ∨ 0 ≠ 1) by omega)).trans al.2.2.2.2.2.2.2.1, (F.2.2 20 1003 0 (tv20 hg) (show (20 ≠ 15 ∨ 0 < 3) ∧ 20 ≠ 24 ∧ 20 ≠ 26 ∧ ((20 ≠ 23 ∧ 20 ≠ 25) ∨ 0 ≠ 1) by omega)).trans al.2.2.2.2.2.2.2.2.1, (F.2.2 23 1002 0 (tv23 hg) (show (23 ≠ 15 ∨ 0 < 3) ∧ 23 ≠ 24 ∧ 23 ≠ 26 ∧ ((23 ≠ 23 ∧ 23 ≠ 25) ∨ 0 ≠ 1) by omega)).trans al.2.2.2.2.2.2.2.2.2.1, (F.2.2 25 1003 0 (tv25 hg) (show (25 ≠ 15 ∨ 0 < 3) ∧ 25 ≠ 24 ∧ 25 ≠ 26 ∧ ((25 ≠ 23 ∧ 25 ≠ 25) ∨ 0 ≠ 1) by omega)).trans al.2.2.2.2.2.2.2.2.2.2⟩
def itR0 (n : Nat) (b : Nat → Int) (τ : List Nat) (h : zh) (w : prs) (y : Int32) (h1 : zh) : Prop := ∃ τ1, oF (fun k j => (k ≠ 15 ∨ j < 3) ∧ k ≠ 19 ∧ k ≠ 21 ∧ ((k ≠ 18 ∧ k ≠ 20) ∨ j ≠ 1)) τ h τ1 h1 ∧ ((∃ (a' : Nat) (ps' cs' : List it4), w = .inr (a', ps', cs') ∧ a' ≤ n ∧ y.toInt = 1 ∧ rdC h1 n a' b ∧ rwC h1 18 19 ps' ∧ rwC h1 20 21 cs') ∨ (∃ (r : Int) (q : Nat), w = .inl (r, q) ∧ y.toInt = 0 ∧ flt h1 r q))
def itR1 (n : Nat) (b : Nat → Int) (τ : List Nat) (h : zh) (w : prs) (y : Int32) (h1 : zh) : Prop := ∃ τ1, oF (fun k j => (k ≠ 15 ∨ j < 3) ∧ k ≠ 24 ∧ k ≠ 26 ∧ ((k ≠ 23 ∧ k ≠ 25) ∨ j ≠ 1)) τ h τ1 h1 ∧ ((∃ (a' : Nat) (ps' cs' : List it4), w = .inr (a', ps', cs') ∧ a' ≤ n ∧ y.toInt = 1 ∧ rdC h1 n a' b ∧ rwC h1 23 24 ps' ∧ rwC h1 25 26 cs') ∨ (∃ (r : Int) (q : Nat), w = .inl (r, q) ∧ y.toInt = 0 ∧ flt h1 r q))
theorem e_list0 {t n a q a0 : Nat} {b : Nat → Int} {τ : List Nat} {h : zh} {ps cs : List it4} {xp : Int32} (hg : hG τ h) (al : alC h) (rd : rdC h n a b) (han : a ≤ n) (rp : rwC h 18 19 ps) (rc : rwC h 20 21 cs) (hq : xp.toInt = (q : Int)) : qI 12 49 [some (.inl (some 15)), some (.inl (some 17)), some (zi xp), none, none] h t (itR0 n b τ h (wLst b n (a0, ps, cs) a q)) := by
  obtain ⟨⟨xn, hn, en⟩, ⟨xa, ha, ea⟩, hb, hn2⟩ := id rd
  refine qI_of ?_
  refine y_same (i := .aload_n 0) (len := 1) (r := (0, 0, 0, 0)) (pc' := 1) (ls' := [some (.inl (some 15)), some (.inl (some 17)), some (zi xp), none, none]) (st' := [.inl (some 15)]) (by decide +kernel) (fun k q => by cases q) rfl ?_
  refine y_same (i := .ldc 121) (len := 2) (r := (1, 2, 1016, 0)) (pc' := 3) (ls' := [some (.inl (some 15)), some (.inl (some 17)), some (zi xp), none, none]) (st' := [.inl (some 2000002), .inl (some 15)]) (by decide +kernel) (fun k q => by cases q) rfl ?_
  refine y_cI (i := .invokevirtual 68) (len := 3) (r := (0, 55, 5, 1017)) (nL := 2) (k := 2) (n := 2) (hs := []) (args := [.inl (some 15), .inl (some 2000002)]) (rest := []) (l0 := [some (.inl (some 15)), some (.inl (some 2000002))]) (by decide +kernel) (Or.inr (Or.inl ⟨_, rfl⟩)) rfl rfl rfl rfl (Nat.le_of_ble_eq_true rfl) (zO hg (tv15 hg) aw15 rfl) rfl (qI_le (by decide) (e_need2 hg rd (by omega))) (fun y515 h515 hRy515 => ?_)
  obtain ⟨τ515, O515, hD515⟩ := hRy515
  rcases hD515 with ⟨a515, e515, le515, hy515, r515⟩ | ⟨e515, hy515, f515⟩
  ·
    obtain ⟨⟨xn515y, hn515y, en515y⟩, ⟨xa515y, ha515y, ea515y⟩, hb515y, -⟩ := id r515
    refine y_iF (c := .eq) (off := 10) (len := 3) (r := (0, 0, 0, 0)) (by decide +kernel) (acmpF (c := .eq) (by show ¬ (_ = _); omega)) ?_
    refine y_same (i := .aload_n 0) (len := 1) (r := (0, 0, 0, 0)) (pc' := 10) (ls' := [some (.inl (some 15)), some (.inl (some 17)), some (zi xp), none, none]) (st' := [.inl (some 15)]) (by decide +kernel) (fun k q => by cases q) rfl ?_
    refine y_cI (i := .invokevirtual 103) (len := 3) (r := (0, 54, 5, 1025)) (nL := 3) (k := 1) (n := 1) (hs := []) (args := [.inl (some 15)]) (rest := []) (l0 := [some (.inl (some 15)), none, none]) (by decide +kernel) (Or.inr (Or.inl ⟨_, rfl⟩)) rfl rfl rfl rfl (Nat.le_of_ble_eq_true rfl) (zO O515.2.1 (tv15 O515.2.1) aw15 rfl) rfl (qI_le (by decide) (e_var O515.2.1 r515 (by omega))) (fun y516 h516 hRy516 => ?_)
    obtain ⟨τ516, O516, hD516⟩ := hRy516
    rcases hD516 with ⟨v516, a516, e516, le516, hy516, lv516, uv516, r516⟩ | ⟨q516, e516, hy516, f516⟩
    ·
      obtain ⟨⟨xn516y, hn516y, en516y⟩, ⟨xa516y, ha516y, ea516y⟩, hb516y, -⟩ := id r516
      refine y_goto (off := 4) (pc' := 17) (len := 3) (r := (0, 0, 0, 0)) (by decide +kernel) (by decide +kernel) ?_
      refine y_same (i := .istore_n 3) (len := 1) (r := (0, 0, 0, 0)) (pc' := 18) (ls' := [some (.inl (some 15)), some (.inl (some 17)), some (zi xp), some (zi y516), none]) (st' := []) (by decide +kernel) (fun k q => by cases q) rfl ?_
      refine y_same (i := .iload_n 3) (len := 1) (r := (0, 0, 0, 0)) (pc' := 19) (ls' := [some (.inl (some 15)), some (.inl (some 17)), some (zi xp), some (zi y516), none]) (st' := [zi y516]) (by decide +kernel) (fun k q => by cases q) rfl ?_
      refine y_ic (c := (-1)) (len := 1) (r := (0, 0, 0, 0)) (by decide +kernel) (by decide) (fun y517 hy517 => ?_)
      refine y_cF (c := .eq) (off := 19) (len := 3) (r := (0, 0, 0, 0)) (by decide +kernel) (acmpF (c := .eq) (by show ¬ (_ = _); omega)) ?_
      refine y_same (i := .aload_n 0) (len := 1) (r := (0, 0, 0, 0)) (pc' := 24) (ls' := [some (.inl (some 15)), some (.inl (some 17)), some (zi xp), some (zi y516), none]) (st' := [.inl (some 15)]) (by decide +kernel) (fun k q => by cases q) rfl ?_
      refine y_same (i := .ldc 123) (len := 2) (r := (1, 3, 1029, 0)) (pc' := 26) (ls' := [some (.inl (some 15)), some (.inl (some 17)), some (zi xp), some (zi y516), none]) (st' := [.inl (some 2000003), .inl (some 15)]) (by decide +kernel) (fun k q => by cases q) rfl ?_
      refine y_cI (i := .invokevirtual 68) (len := 3) (r := (0, 55, 5, 1017)) (nL := 2) (k := 2) (n := 2) (hs := []) (args := [.inl (some 15), .inl (some 2000003)]) (rest := []) (l0 := [some (.inl (some 15)), some (.inl (some 2000003))]) (by decide +kernel) (Or.inr (Or.inl ⟨_, rfl⟩)) rfl rfl rfl rfl (Nat.le_of_ble_eq_true rfl) (zO O516.2.1 (tv15 O516.2.1) aw15 rfl) rfl (qI_le (by decide) (e_need3 O516.2.1 r516 (by omega))) (fun y518 h518 hRy518 => ?_)
      obtain ⟨τ518, O518, hD518⟩ := hRy518
      rcases hD518 with ⟨a518, e518, le518, hy518, r518⟩ | ⟨e518, hy518, f518⟩
      ·
        obtain ⟨⟨xn518y, hn518y, en518y⟩, ⟨xa518y, ha518y, ea518y⟩, hb518y, -⟩ := id r518
        refine y_iF (c := .eq) (off := 10) (len := 3) (r := (0, 0, 0, 0)) (by decide +kernel) (acmpF (c := .eq) (by show ¬ (_ = _); omega)) ?_
        refine y_same (i := .aload_n 0) (len := 1) (r := (0, 0, 0, 0)) (pc' := 33) (ls' := [some (.inl (some 15)), some (.inl (some 17)), some (zi xp), some (zi y516), none]) (st' := [.inl (some 15)]) (by decide +kernel) (fun k q => by cases q) rfl ?_
        refine y_cI (i := .invokevirtual 103) (len := 3) (r := (0, 54, 5, 1025)) (nL := 3) (k := 1) (n := 1) (hs := []) (args := [.inl (some 15)]) (rest := []) (l0 := [some (.inl (some 15)), none, none]) (by decide +kernel) (Or.inr (Or.inl ⟨_, rfl⟩)) rfl rfl rfl rfl (Nat.le_of_ble_eq_true rfl) (zO O518.2.1 (tv15 O518.2.1) aw15 rfl) rfl (qI_le (by decide) (e_var O518.2.1 r518 (by omega))) (fun y519 h519 hRy519 => ?_)
        obtain ⟨τ519, O519, hD519⟩ := hRy519
        rcases hD519 with ⟨v519, a519, e519, le519, hy519, lv519, uv519, r519⟩ | ⟨q519, e519, hy519, f519⟩
        ·
          obtain ⟨⟨xn519y, hn519y, en519y⟩, ⟨xa519y, ha519y, ea519y⟩, hb519y, -⟩ := id r519
          refine y_goto (off := 4) (pc' := 40) (len := 3) (r := (0, 0, 0, 0)) (by decide +kernel) (by decide +kernel) ?_
          refine y_same (i := .istore 4) (len := 2) (r := (0, 0, 0, 0)) (pc' := 42) (ls' := [some (.inl (some 15)), some (.inl (some 17)), some (zi xp), some (zi y516), some (zi y519)]) (st' := []) (by decide +kernel) (fun k q => by cases q) rfl ?_
          refine y_same (i := .iload 4) (len := 2) (r := (0, 0, 0, 0)) (pc' := 44) (ls' := [some (.inl (some 15)), some (.inl (some 17)), some (zi xp), some (zi y516), some (zi y519)]) (st' := [zi y519]) (by decide +kernel) (fun k q => by cases q) rfl ?_
          refine y_ic (c := (-1)) (len := 1) (r := (0, 0, 0, 0)) (by decide +kernel) (by decide) (fun y520 hy520 => ?_)
          refine y_cF (c := .eq) (off := 37) (len := 3) (r := (0, 0, 0, 0)) (by decide +kernel) (acmpF (c := .eq) (by show ¬ (_ = _); omega)) ?_
          refine y_same (i := .aload_n 0) (len := 1) (r := (0, 0, 0, 0)) (pc' := 49) (ls' := [some (.inl (some 15)), some (.inl (some 17)), some (zi xp), some (zi y516), some (zi y519)]) (st' := [.inl (some 15)]) (by decide +kernel) (fun k q => by cases q) rfl ?_
          refine y_same (i := .ldc 125) (len := 2) (r := (1, 4, 1030, 0)) (pc' := 51) (ls' := [some (.inl (some 15)), some (.inl (some 17)), some (zi xp), some (zi y516), some (zi y519)]) (st' := [.inl (some 2000004), .inl (some 15)]) (by decide +kernel) (fun k q => by cases q) rfl ?_
          refine y_cI (i := .invokevirtual 68) (len := 3) (r := (0, 55, 5, 1017)) (nL := 2) (k := 2) (n := 2) (hs := []) (args := [.inl (some 15), .inl (some 2000004)]) (rest := []) (l0 := [some (.inl (some 15)), some (.inl (some 2000004))]) (by decide +kernel) (Or.inr (Or.inl ⟨_, rfl⟩)) rfl rfl rfl rfl (Nat.le_of_ble_eq_true rfl) (zO O519.2.1 (tv15 O519.2.1) aw15 rfl) rfl (qI_le (by decide) (e_need4 O519.2.1 r519 (by omega))) (fun y521 h521 hRy521 => ?_)
          obtain ⟨τ521, O521, hD521⟩ := hRy521
          rcases hD521 with ⟨a521, e521, le521, hy521, r521⟩ | ⟨e521, hy521, f521⟩
          ·
            obtain ⟨⟨xn521y, hn521y, en521y⟩, ⟨xa521y, ha521y, ea521y⟩, hb521y, -⟩ := id r521
            refine y_iF (c := .eq) (off := 28) (len := 3) (r := (0, 0, 0, 0)) (by decide +kernel) (acmpF (c := .eq) (by show ¬ (_ = _); omega)) ?_
            refine y_same (i := .aload_n 0) (len := 1) (r := (0, 0, 0, 0)) (pc' := 58) (ls' := [some (.inl (some 15)), some (.inl (some 17)), some (zi xp), some (zi y516), some (zi y519)]) (st' := [.inl (some 15)]) (by decide +kernel) (fun k q => by cases q) rfl ?_
            refine y_same (i := .aload_n 1) (len := 1) (r := (0, 0, 0, 0)) (pc' := 59) (ls' := [some (.inl (some 15)), some (.inl (some 17)), some (zi xp), some (zi y516), some (zi y519)]) (st' := [.inl (some 17), .inl (some 15)]) (by decide +kernel) (fun k q => by cases q) rfl ?_
            have hv522 := (O515.2.2 17 1001 0 (tv17 hg) (show 17 ≠ 15 ∨ 0 < 3 by omega)).trans al.2.2.2.1
            have hv523 := (O516.2.2 17 1001 0 (tv17 O515.2.1) (show 17 ≠ 15 ∨ 0 < 3 by omega)).trans hv522
            have hv524 := (O518.2.2 17 1001 0 (tv17 O516.2.1) (show 17 ≠ 15 ∨ 0 < 3 by omega)).trans hv523
            have hv525 := (O519.2.2 17 1001 0 (tv17 O518.2.1) (show 17 ≠ 15 ∨ 0 < 3 by omega)).trans hv524
            have hv526 := (O521.2.2 17 1001 0 (tv17 O519.2.1) (show 17 ≠ 15 ∨ 0 < 3 by omega)).trans hv525
            refine y_get (j := 127) (len := 3) (r := (8, 0, 2, 20181)) (by decide +kernel) O521.2.1 (tv17 O521.2.1) aw1001 rfl rfl hv526 ?_
            refine y_ic (c := 5) (len := 1) (r := (0, 0, 0, 0)) (by decide +kernel) (by decide) (fun y527 hy527 => ?_)
            refine y_ic (c := 2) (len := 1) (r := (0, 0, 0, 0)) (by decide +kernel) (by decide) (fun y528 hy528 => ?_)
            refine y_same (i := .iload_n 3) (len := 1) (r := (0, 0, 0, 0)) (pc' := 65) (ls' := [some (.inl (some 15)), some (.inl (some 17)), some (zi xp), some (zi y516), some (zi y519)]) (st' := [zi y516, zi y528, zi y527, .inl (some 18), .inl (some 15)]) (by decide +kernel) (fun k q => by cases q) rfl ?_
            refine y_same (i := .iload 4) (len := 2) (r := (0, 0, 0, 0)) (pc' := 67) (ls' := [some (.inl (some 15)), some (.inl (some 17)), some (zi xp), some (zi y516), some (zi y519)]) (st' := [zi y519, zi y516, zi y528, zi y527, .inl (some 18), .inl (some 15)]) (by decide +kernel) (fun k q => by cases q) rfl ?_
            refine y_ic (c := 0) (len := 1) (r := (0, 0, 0, 0)) (by decide +kernel) (by decide) (fun y529 hy529 => ?_)
            refine y_cI (i := .invokestatic 131) (len := 3) (r := (3, 158, 11, 1031)) (nL := 4) (k := 1) (n := 4) (hs := []) (args := [zi y528, zi y516, zi y519, zi y529]) (rest := [zi y527, .inl (some 18), .inl (some 15)]) (l0 := [some (zi y528), some (zi y516), some (zi y519), some (zi y529)]) (by decide +kernel) (Or.inl ⟨_, rfl⟩) rfl rfl rfl rfl (Nat.le_of_ble_eq_true rfl) rfl rfl (e_packed (by omega) (by omega) (by omega) (by omega) (by omega) (by omega) (by omega) (by omega)) (fun y530 qy530 hRy530 => ?_)
            obtain ⟨rfl, hy530⟩ := hRy530
            have py530 : y530.toInt = pk (2, v516, v519, 0) := by
              rw [hy530]
              unfold pk
              simp only
              omega
            refine y_same (i := .iload_n 2) (len := 1) (r := (0, 0, 0, 0)) (pc' := 72) (ls' := [some (.inl (some 15)), some (.inl (some 17)), some (zi xp), some (zi y516), some (zi y519)]) (st' := [zi xp, zi y530, zi y527, .inl (some 18), .inl (some 15)]) (by decide +kernel) (fun k q => by cases q) rfl ?_
            have F531 : oF (fun k j => k ≠ 15 ∨ j < 3) τ h τ521 h521 := ⟨(aup_trans (aup_trans (aup_trans (aup_trans O515.1 O516.1) O518.1) O519.1) O521.1), O521.2.1, fun k T j hk (hC : k ≠ 15 ∨ j < 3) => ((O521.2.2 k T j (O519.1 _ _ (O518.1 _ _ (O516.1 _ _ (O515.1 _ _ hk)))) (show k ≠ 15 ∨ j < 3 by omega)).trans ((O519.2.2 k T j (O518.1 _ _ (O516.1 _ _ (O515.1 _ _ hk))) (show k ≠ 15 ∨ j < 3 by omega)).trans ((O518.2.2 k T j (O516.1 _ _ (O515.1 _ _ hk)) (show k ≠ 15 ∨ j < 3 by omega)).trans ((O516.2.2 k T j (O515.1 _ _ hk) (show k ≠ 15 ∨ j < 3 by omega)).trans (O515.2.2 k T j hk (show k ≠ 15 ∨ j < 3 by omega))))))⟩
            have al531 := alC_up5 hg al F531
            have rr531 := rwC_up rp (F531.2.2 18 1002 1 (tv18 hg) (show 18 ≠ 15 ∨ 1 < 3 by omega)) (fun j => F531.2.2 19 1005 j (tv19 hg) (show 19 ≠ 15 ∨ j < 3 by omega))
            refine y_cI (i := .invokevirtual 135) (len := 3) (r := (0, 53, 5, 1032)) (nL := 5) (k := 2) (n := 5) (hs := []) (args := [.inl (some 15), .inl (some 18), zi y527, zi y530, zi xp]) (rest := []) (l0 := [some (.inl (some 15)), some (.inl (some 18)), some (zi y527), some (zi y530), some (zi xp)]) (by decide +kernel) (Or.inr (Or.inl ⟨_, rfl⟩)) rfl rfl rfl rfl (Nat.le_of_ble_eq_true rfl) (zO O521.2.1 (tv15 O521.2.1) aw15 rfl) rfl (qI_le (by decide) (e_take18 (q := q) (i := (2, v516, v519, 0)) O521.2.1 al531 rr531 (by omega) py530 (by omega))) (fun y531 h531 hRy531 => ?_)
            obtain ⟨τ531, O531, hD531⟩ := hRy531
            rcases hD531 with ⟨l531, hy531, w531, v531⟩ | ⟨l531, hy531, f531⟩
            ·
              refine y_iF (c := .eq) (off := 7) (len := 3) (r := (0, 0, 0, 0)) (by decide +kernel) (acmpF (c := .eq) (by show ¬ (_ = _); omega)) ?_
              refine y_ic (c := 1) (len := 1) (r := (0, 0, 0, 0)) (by decide +kernel) (by decide) (fun y532 hy532 => ?_)
              refine y_goto (off := 4) (pc' := 83) (len := 3) (r := (0, 0, 0, 0)) (by decide +kernel) (by decide +kernel) ?_
              refine y_rI (len := 1) (r := (0, 0, 0, 0)) (nL := 5) (k := 2) (n9 := 3) (hs := []) (by decide +kernel) rfl (zfit_b (by omega) (by omega)).2 ?_
              have F : oF (fun k j => (k ≠ 15 ∨ j < 3) ∧ k ≠ 19 ∧ k ≠ 21 ∧ ((k ≠ 18 ∧ k ≠ 20) ∨ j ≠ 1)) τ h τ531 h531 := ⟨(aup_trans (aup_trans (aup_trans (aup_trans (aup_trans O515.1 O516.1) O518.1) O519.1) O521.1) O531.1), O531.2.1, fun k T j hk (hC : (k ≠ 15 ∨ j < 3) ∧ k ≠ 19 ∧ k ≠ 21 ∧ ((k ≠ 18 ∧ k ≠ 20) ∨ j ≠ 1)) => ((O531.2.2 k T j (O521.1 _ _ (O519.1 _ _ (O518.1 _ _ (O516.1 _ _ (O515.1 _ _ hk))))) (show k ≠ 19 ∧ (k ≠ 18 ∨ j ≠ 1) ∧ (k ≠ 15 ∨ j < 4) by omega)).trans ((O521.2.2 k T j (O519.1 _ _ (O518.1 _ _ (O516.1 _ _ (O515.1 _ _ hk)))) (show k ≠ 15 ∨ j < 3 by omega)).trans ((O519.2.2 k T j (O518.1 _ _ (O516.1 _ _ (O515.1 _ _ hk))) (show k ≠ 15 ∨ j < 3 by omega)).trans ((O518.2.2 k T j (O516.1 _ _ (O515.1 _ _ hk)) (show k ≠ 15 ∨ j < 3 by omega)).trans ((O516.2.2 k T j (O515.1 _ _ hk) (show k ≠ 15 ∨ j < 3 by omega)).trans (O515.2.2 k T j hk (show k ≠ 15 ∨ j < 3 by omega)))))))⟩
              have ew : wLst b n (a0, ps, cs) a q = .inr (a521, ps ++ [(2, v516, v519, 0)], cs) := by
                unfold wLst
                simp only [e515, e516, e518, e519, e521]
                unfold tkp
                exact if_neg (show ¬ ps.length = 5 by omega)
              exact ⟨_, F, Or.inl ⟨_, _, _, ew, by omega, by omega, (rdc_k r521 (O531.2.2 15 15 2 (tv15 O521.2.1) (show 15 ≠ 19 ∧ (15 ≠ 18 ∨ 2 ≠ 1) ∧ (15 ≠ 15 ∨ 2 < 4) by omega)) (O531.2.2 15 15 3 (tv15 O521.2.1) (show 15 ≠ 19 ∧ (15 ≠ 18 ∨ 3 ≠ 1) ∧ (15 ≠ 15 ∨ 3 < 4) by omega)) (fun j => O531.2.2 27 27 j (tv27 O521.2.1) (show 27 ≠ 19 ∧ (27 ≠ 18 ∨ j ≠ 1) ∧ (27 ≠ 15 ∨ j < 4) by omega)) v531), w531, rwC_up rc (((O531.2.2 20 1003 1 (tv20 O521.2.1) (show 20 ≠ 19 ∧ (20 ≠ 18 ∨ 1 ≠ 1) ∧ (20 ≠ 15 ∨ 1 < 4) by omega)).trans ((O521.2.2 20 1003 1 (tv20 O519.2.1) (show 20 ≠ 15 ∨ 1 < 3 by omega)).trans ((O519.2.2 20 1003 1 (tv20 O518.2.1) (show 20 ≠ 15 ∨ 1 < 3 by omega)).trans ((O518.2.2 20 1003 1 (tv20 O516.2.1) (show 20 ≠ 15 ∨ 1 < 3 by omega)).trans ((O516.2.2 20 1003 1 (tv20 O515.2.1) (show 20 ≠ 15 ∨ 1 < 3 by omega)).trans (O515.2.2 20 1003 1 (tv20 hg) (show 20 ≠ 15 ∨ 1 < 3 by omega)))))))) (fun j => ((O531.2.2 21 1006 j (tv21 O521.2.1) (show 21 ≠ 19 ∧ (21 ≠ 18 ∨ j ≠ 1) ∧ (21 ≠ 15 ∨ j < 4) by omega)).trans ((O521.2.2 21 1006 j (tv21 O519.2.1) (show 21 ≠ 15 ∨ j < 3 by omega)).trans ((O519.2.2 21 1006 j (tv21 O518.2.1) (show 21 ≠ 15 ∨ j < 3 by omega)).trans ((O518.2.2 21 1006 j (tv21 O516.2.1) (show 21 ≠ 15 ∨ j < 3 by omega)).trans ((O516.2.2 21 1006 j (tv21 O515.2.1) (show 21 ≠ 15 ∨ j < 3 by omega)).trans (O515.2.2 21 1006 j (tv21 hg) (show 21 ≠ 15 ∨ j < 3 by omega))))))))⟩⟩
            ·
              refine y_iT (c := .eq) (off := 7) (pc' := 82) (len := 3) (r := (0, 0, 0, 0)) (by decide +kernel) (acmpT (c := .eq) (by show _ = _; omega)) (by decide +kernel) ?_
              refine y_ic (c := 0) (len := 1) (r := (0, 0, 0, 0)) (by decide +kernel) (by decide) (fun y533 hy533 => ?_)
              refine y_rI (len := 1) (r := (0, 0, 0, 0)) (nL := 5) (k := 2) (n9 := 3) (hs := []) (by decide +kernel) rfl (zfit_b (by omega) (by omega)).2 ?_
              have F : oF (fun k j => (k ≠ 15 ∨ j < 3) ∧ k ≠ 19 ∧ k ≠ 21 ∧ ((k ≠ 18 ∧ k ≠ 20) ∨ j ≠ 1)) τ h τ531 h531 := ⟨(aup_trans (aup_trans (aup_trans (aup_trans (aup_trans O515.1 O516.1) O518.1) O519.1) O521.1) O531.1), O531.2.1, fun k T j hk (hC : (k ≠ 15 ∨ j < 3) ∧ k ≠ 19 ∧ k ≠ 21 ∧ ((k ≠ 18 ∧ k ≠ 20) ∨ j ≠ 1)) => ((O531.2.2 k T j (O521.1 _ _ (O519.1 _ _ (O518.1 _ _ (O516.1 _ _ (O515.1 _ _ hk))))) (show k ≠ 19 ∧ (k ≠ 18 ∨ j ≠ 1) ∧ (k ≠ 15 ∨ j < 4) by omega)).trans ((O521.2.2 k T j (O519.1 _ _ (O518.1 _ _ (O516.1 _ _ (O515.1 _ _ hk)))) (show k ≠ 15 ∨ j < 3 by omega)).trans ((O519.2.2 k T j (O518.1 _ _ (O516.1 _ _ (O515.1 _ _ hk))) (show k ≠ 15 ∨ j < 3 by omega)).trans ((O518.2.2 k T j (O516.1 _ _ (O515.1 _ _ hk)) (show k ≠ 15 ∨ j < 3 by omega)).trans ((O516.2.2 k T j (O515.1 _ _ hk) (show k ≠ 15 ∨ j < 3 by omega)).trans (O515.2.2 k T j hk (show k ≠ 15 ∨ j < 3 by omega)))))))⟩
              have ew : wLst b n (a0, ps, cs) a q = .inl (2, q) := by
                unfold wLst
                simp only [e515, e516, e518, e519, e521]
                unfold tkp
                exact if_pos (show ps.length = 5 by omega)
              exact ⟨_, F, Or.inr ⟨_, _, ew, by omega, f531⟩⟩
          ·
            refine y_iT (c := .eq) (off := 28) (pc' := 82) (len := 3) (r := (0, 0, 0, 0)) (by decide +kernel) (acmpT (c := .eq) (by show _ = _; omega)) (by decide +kernel) ?_
            refine y_ic (c := 0) (len := 1) (r := (0, 0, 0, 0)) (by decide +kernel) (by decide) (fun y534 hy534 => ?_)
            refine y_rI (len := 1) (r := (0, 0, 0, 0)) (nL := 5) (k := 2) (n9 := 3) (hs := []) (by decide +kernel) rfl (zfit_b (by omega) (by omega)).2 ?_
            have F : oF (fun k j => (k ≠ 15 ∨ j < 3) ∧ k ≠ 19 ∧ k ≠ 21 ∧ ((k ≠ 18 ∧ k ≠ 20) ∨ j ≠ 1)) τ h τ521 h521 := ⟨(aup_trans (aup_trans (aup_trans (aup_trans O515.1 O516.1) O518.1) O519.1) O521.1), O521.2.1, fun k T j hk (hC : (k ≠ 15 ∨ j < 3) ∧ k ≠ 19 ∧ k ≠ 21 ∧ ((k ≠ 18 ∧ k ≠ 20) ∨ j ≠ 1)) => ((O521.2.2 k T j (O519.1 _ _ (O518.1 _ _ (O516.1 _ _ (O515.1 _ _ hk)))) (show k ≠ 15 ∨ j < 3 by omega)).trans ((O519.2.2 k T j (O518.1 _ _ (O516.1 _ _ (O515.1 _ _ hk))) (show k ≠ 15 ∨ j < 3 by omega)).trans ((O518.2.2 k T j (O516.1 _ _ (O515.1 _ _ hk)) (show k ≠ 15 ∨ j < 3 by omega)).trans ((O516.2.2 k T j (O515.1 _ _ hk) (show k ≠ 15 ∨ j < 3 by omega)).trans (O515.2.2 k T j hk (show k ≠ 15 ∨ j < 3 by omega))))))⟩
            refine ⟨_, F, Or.inr ⟨_, _, (by unfold wLst; simp only [e515, e516, e518, e519, e521]), by omega, f521⟩⟩
        ·
          refine y_goto (off := 4) (pc' := 40) (len := 3) (r := (0, 0, 0, 0)) (by decide +kernel) (by decide +kernel) ?_
          refine y_same (i := .istore 4) (len := 2) (r := (0, 0, 0, 0)) (pc' := 42) (ls' := [some (.inl (some 15)), some (.inl (some 17)), some (zi xp), some (zi y516), some (zi y519)]) (st' := []) (by decide +kernel) (fun k q => by cases q) rfl ?_
          refine y_same (i := .iload 4) (len := 2) (r := (0, 0, 0, 0)) (pc' := 44) (ls' := [some (.inl (some 15)), some (.inl (some 17)), some (zi xp), some (zi y516), some (zi y519)]) (st' := [zi y519]) (by decide +kernel) (fun k q => by cases q) rfl ?_
          refine y_ic (c := (-1)) (len := 1) (r := (0, 0, 0, 0)) (by decide +kernel) (by decide) (fun y535 hy535 => ?_)
          refine y_cT (c := .eq) (off := 37) (pc' := 82) (len := 3) (r := (0, 0, 0, 0)) (by decide +kernel) (acmpT (c := .eq) (by show _ = _; omega)) (by decide +kernel) ?_
          refine y_ic (c := 0) (len := 1) (r := (0, 0, 0, 0)) (by decide +kernel) (by decide) (fun y536 hy536 => ?_)
          refine y_rI (len := 1) (r := (0, 0, 0, 0)) (nL := 5) (k := 2) (n9 := 3) (hs := []) (by decide +kernel) rfl (zfit_b (by omega) (by omega)).2 ?_
          have F : oF (fun k j => (k ≠ 15 ∨ j < 3) ∧ k ≠ 19 ∧ k ≠ 21 ∧ ((k ≠ 18 ∧ k ≠ 20) ∨ j ≠ 1)) τ h τ519 h519 := ⟨(aup_trans (aup_trans (aup_trans O515.1 O516.1) O518.1) O519.1), O519.2.1, fun k T j hk (hC : (k ≠ 15 ∨ j < 3) ∧ k ≠ 19 ∧ k ≠ 21 ∧ ((k ≠ 18 ∧ k ≠ 20) ∨ j ≠ 1)) => ((O519.2.2 k T j (O518.1 _ _ (O516.1 _ _ (O515.1 _ _ hk))) (show k ≠ 15 ∨ j < 3 by omega)).trans ((O518.2.2 k T j (O516.1 _ _ (O515.1 _ _ hk)) (show k ≠ 15 ∨ j < 3 by omega)).trans ((O516.2.2 k T j (O515.1 _ _ hk) (show k ≠ 15 ∨ j < 3 by omega)).trans (O515.2.2 k T j hk (show k ≠ 15 ∨ j < 3 by omega)))))⟩
          refine ⟨_, F, Or.inr ⟨_, _, (by unfold wLst; simp only [e515, e516, e518, e519]), by omega, f519⟩⟩
      ·
        refine y_iT (c := .eq) (off := 10) (pc' := 39) (len := 3) (r := (0, 0, 0, 0)) (by decide +kernel) (acmpT (c := .eq) (by show _ = _; omega)) (by decide +kernel) ?_
        refine y_ic (c := (-1)) (len := 1) (r := (0, 0, 0, 0)) (by decide +kernel) (by decide) (fun y537 hy537 => ?_)
        refine y_same (i := .istore 4) (len := 2) (r := (0, 0, 0, 0)) (pc' := 42) (ls' := [some (.inl (some 15)), some (.inl (some 17)), some (zi xp), some (zi y516), some (zi y537)]) (st' := []) (by decide +kernel) (fun k q => by cases q) rfl ?_
        refine y_same (i := .iload 4) (len := 2) (r := (0, 0, 0, 0)) (pc' := 44) (ls' := [some (.inl (some 15)), some (.inl (some 17)), some (zi xp), some (zi y516), some (zi y537)]) (st' := [zi y537]) (by decide +kernel) (fun k q => by cases q) rfl ?_
        refine y_ic (c := (-1)) (len := 1) (r := (0, 0, 0, 0)) (by decide +kernel) (by decide) (fun y538 hy538 => ?_)
        refine y_cT (c := .eq) (off := 37) (pc' := 82) (len := 3) (r := (0, 0, 0, 0)) (by decide +kernel) (acmpT (c := .eq) (by show _ = _; omega)) (by decide +kernel) ?_
        refine y_ic (c := 0) (len := 1) (r := (0, 0, 0, 0)) (by decide +kernel) (by decide) (fun y539 hy539 => ?_)
        refine y_rI (len := 1) (r := (0, 0, 0, 0)) (nL := 5) (k := 2) (n9 := 3) (hs := []) (by decide +kernel) rfl (zfit_b (by omega) (by omega)).2 ?_
        have F : oF (fun k j => (k ≠ 15 ∨ j < 3) ∧ k ≠ 19 ∧ k ≠ 21 ∧ ((k ≠ 18 ∧ k ≠ 20) ∨ j ≠ 1)) τ h τ518 h518 := ⟨(aup_trans (aup_trans O515.1 O516.1) O518.1), O518.2.1, fun k T j hk (hC : (k ≠ 15 ∨ j < 3) ∧ k ≠ 19 ∧ k ≠ 21 ∧ ((k ≠ 18 ∧ k ≠ 20) ∨ j ≠ 1)) => ((O518.2.2 k T j (O516.1 _ _ (O515.1 _ _ hk)) (show k ≠ 15 ∨ j < 3 by omega)).trans ((O516.2.2 k T j (O515.1 _ _ hk) (show k ≠ 15 ∨ j < 3 by omega)).trans (O515.2.2 k T j hk (show k ≠ 15 ∨ j < 3 by omega))))⟩
        refine ⟨_, F, Or.inr ⟨_, _, (by unfold wLst; simp only [e515, e516, e518]), by omega, f518⟩⟩
    ·
      refine y_goto (off := 4) (pc' := 17) (len := 3) (r := (0, 0, 0, 0)) (by decide +kernel) (by decide +kernel) ?_
      refine y_same (i := .istore_n 3) (len := 1) (r := (0, 0, 0, 0)) (pc' := 18) (ls' := [some (.inl (some 15)), some (.inl (some 17)), some (zi xp), some (zi y516), none]) (st' := []) (by decide +kernel) (fun k q => by cases q) rfl ?_
      refine y_same (i := .iload_n 3) (len := 1) (r := (0, 0, 0, 0)) (pc' := 19) (ls' := [some (.inl (some 15)), some (.inl (some 17)), some (zi xp), some (zi y516), none]) (st' := [zi y516]) (by decide +kernel) (fun k q => by cases q) rfl ?_
      refine y_ic (c := (-1)) (len := 1) (r := (0, 0, 0, 0)) (by decide +kernel) (by decide) (fun y540 hy540 => ?_)
      refine y_cT (c := .eq) (off := 19) (pc' := 39) (len := 3) (r := (0, 0, 0, 0)) (by decide +kernel) (acmpT (c := .eq) (by show _ = _; omega)) (by decide +kernel) ?_
      refine y_ic (c := (-1)) (len := 1) (r := (0, 0, 0, 0)) (by decide +kernel) (by decide) (fun y541 hy541 => ?_)
      refine y_same (i := .istore 4) (len := 2) (r := (0, 0, 0, 0)) (pc' := 42) (ls' := [some (.inl (some 15)), some (.inl (some 17)), some (zi xp), some (zi y516), some (zi y541)]) (st' := []) (by decide +kernel) (fun k q => by cases q) rfl ?_
      refine y_same (i := .iload 4) (len := 2) (r := (0, 0, 0, 0)) (pc' := 44) (ls' := [some (.inl (some 15)), some (.inl (some 17)), some (zi xp), some (zi y516), some (zi y541)]) (st' := [zi y541]) (by decide +kernel) (fun k q => by cases q) rfl ?_
      refine y_ic (c := (-1)) (len := 1) (r := (0, 0, 0, 0)) (by decide +kernel) (by decide) (fun y542 hy542 => ?_)
      refine y_cT (c := .eq) (off := 37) (pc' := 82) (len := 3) (r := (0, 0, 0, 0)) (by decide +kernel) (acmpT (c := .eq) (by show _ = _; omega)) (by decide +kernel) ?_
      refine y_ic (c := 0) (len := 1) (r := (0, 0, 0, 0)) (by decide +kernel) (by decide) (fun y543 hy543 => ?_)
      refine y_rI (len := 1) (r := (0, 0, 0, 0)) (nL := 5) (k := 2) (n9 := 3) (hs := []) (by decide +kernel) rfl (zfit_b (by omega) (by omega)).2 ?_
      have F : oF (fun k j => (k ≠ 15 ∨ j < 3) ∧ k ≠ 19 ∧ k ≠ 21 ∧ ((k ≠ 18 ∧ k ≠ 20) ∨ j ≠ 1)) τ h τ516 h516 := ⟨(aup_trans O515.1 O516.1), O516.2.1, fun k T j hk (hC : (k ≠ 15 ∨ j < 3) ∧ k ≠ 19 ∧ k ≠ 21 ∧ ((k ≠ 18 ∧ k ≠ 20) ∨ j ≠ 1)) => ((O516.2.2 k T j (O515.1 _ _ hk) (show k ≠ 15 ∨ j < 3 by omega)).trans (O515.2.2 k T j hk (show k ≠ 15 ∨ j < 3 by omega)))⟩
      refine ⟨_, F, Or.inr ⟨_, _, (by unfold wLst; simp only [e515, e516]), by omega, f516⟩⟩
  ·
    refine y_iT (c := .eq) (off := 10) (pc' := 16) (len := 3) (r := (0, 0, 0, 0)) (by decide +kernel) (acmpT (c := .eq) (by show _ = _; omega)) (by decide +kernel) ?_
    refine y_ic (c := (-1)) (len := 1) (r := (0, 0, 0, 0)) (by decide +kernel) (by decide) (fun y544 hy544 => ?_)
    refine y_same (i := .istore_n 3) (len := 1) (r := (0, 0, 0, 0)) (pc' := 18) (ls' := [some (.inl (some 15)), some (.inl (some 17)), some (zi xp), some (zi y544), none]) (st' := []) (by decide +kernel) (fun k q => by cases q) rfl ?_
    refine y_same (i := .iload_n 3) (len := 1) (r := (0, 0, 0, 0)) (pc' := 19) (ls' := [some (.inl (some 15)), some (.inl (some 17)), some (zi xp), some (zi y544), none]) (st' := [zi y544]) (by decide +kernel) (fun k q => by cases q) rfl ?_
    refine y_ic (c := (-1)) (len := 1) (r := (0, 0, 0, 0)) (by decide +kernel) (by decide) (fun y545 hy545 => ?_)
    refine y_cT (c := .eq) (off := 19) (pc' := 39) (len := 3) (r := (0, 0, 0, 0)) (by decide +kernel) (acmpT (c := .eq) (by show _ = _; omega)) (by decide +kernel) ?_
    refine y_ic (c := (-1)) (len := 1) (r := (0, 0, 0, 0)) (by decide +kernel) (by decide) (fun y546 hy546 => ?_)
    refine y_same (i := .istore 4) (len := 2) (r := (0, 0, 0, 0)) (pc' := 42) (ls' := [some (.inl (some 15)), some (.inl (some 17)), some (zi xp), some (zi y544), some (zi y546)]) (st' := []) (by decide +kernel) (fun k q => by cases q) rfl ?_
    refine y_same (i := .iload 4) (len := 2) (r := (0, 0, 0, 0)) (pc' := 44) (ls' := [some (.inl (some 15)), some (.inl (some 17)), some (zi xp), some (zi y544), some (zi y546)]) (st' := [zi y546]) (by decide +kernel) (fun k q => by cases q) rfl ?_
    refine y_ic (c := (-1)) (len := 1) (r := (0, 0, 0, 0)) (by decide +kernel) (by decide) (fun y547 hy547 => ?_)
    refine y_cT (c := .eq) (off := 37) (pc' := 82) (len := 3) (r := (0, 0, 0, 0)) (by decide +kernel) (acmpT (c := .eq) (by show _ = _; omega)) (by decide +kernel) ?_
    refine y_ic (c := 0) (len := 1) (r := (0, 0, 0, 0)) (by decide +kernel) (by decide) (fun y548 hy548 => ?_)
    refine y_rI (len := 1) (r := (0, 0, 0, 0)) (nL := 5) (k := 2) (n9 := 3) (hs := []) (by decide +kernel) rfl (zfit_b (by omega) (by omega)).2 ?_
    have F : oF (fun k j => (k ≠ 15 ∨ j < 3) ∧ k ≠ 19 ∧ k ≠ 21 ∧ ((k ≠ 18 ∧ k ≠ 20) ∨ j ≠ 1)) τ h τ515 h515 := ⟨O515.1, O515.2.1, fun k T j hk (hC : (k ≠ 15 ∨ j < 3) ∧ k ≠ 19 ∧ k ≠ 21 ∧ ((k ≠ 18 ∧ k ≠ 20) ∨ j ≠ 1)) => (O515.2.2 k T j hk (show k ≠ 15 ∨ j < 3 by omega))⟩
    refine ⟨_, F, Or.inr ⟨_, _, (by unfold wLst; simp only [e515]), by omega, f515⟩⟩
theorem e_tree0 {t n a q a0 : Nat} {b : Nat → Int} {τ : List Nat} {h : zh} {ps cs : List it4} {xp : Int32} (hg : hG τ h) (al : alC h) (rd : rdC h n a b) (han : a ≤ n) (rp : rwC h 18 19 ps) (rc : rwC h 20 21 cs) (hq : xp.toInt = (q : Int)) : qI 12 50 [some (.inl (some 15)), some (.inl (some 17)), some (zi xp), none] h t (itR0 n b τ h (wTre b n (a0, ps, cs) a q)) := by
  obtain ⟨⟨xn, hn, en⟩, ⟨xa, ha, ea⟩, hb, hn2⟩ := id rd
  refine qI_of ?_
  refine y_same (i := .aload_n 0) (len := 1) (r := (0, 0, 0, 0)) (pc' := 1) (ls' := [some (.inl (some 15)), some (.inl (some 17)), some (zi xp), none]) (st' := [.inl (some 15)]) (by decide +kernel) (fun k q => by cases q) rfl ?_
  refine y_same (i := .ldc 121) (len := 2) (r := (1, 2, 1016, 0)) (pc' := 3) (ls' := [some (.inl (some 15)), some (.inl (some 17)), some (zi xp), none]) (st' := [.inl (some 2000002), .inl (some 15)]) (by decide +kernel) (fun k q => by cases q) rfl ?_
  refine y_cI (i := .invokevirtual 68) (len := 3) (r := (0, 55, 5, 1017)) (nL := 2) (k := 2) (n := 2) (hs := []) (args := [.inl (some 15), .inl (some 2000002)]) (rest := []) (l0 := [some (.inl (some 15)), some (.inl (some 2000002))]) (by decide +kernel) (Or.inr (Or.inl ⟨_, rfl⟩)) rfl rfl rfl rfl (Nat.le_of_ble_eq_true rfl) (zO hg (tv15 hg) aw15 rfl) rfl (qI_le (by decide) (e_need2 hg rd (by omega))) (fun y549 h549 hRy549 => ?_)
  obtain ⟨τ549, O549, hD549⟩ := hRy549
  rcases hD549 with ⟨a549, e549, le549, hy549, r549⟩ | ⟨e549, hy549, f549⟩
  ·
    obtain ⟨⟨xn549y, hn549y, en549y⟩, ⟨xa549y, ha549y, ea549y⟩, hb549y, -⟩ := id r549
    refine y_iF (c := .eq) (off := 10) (len := 3) (r := (0, 0, 0, 0)) (by decide +kernel) (acmpF (c := .eq) (by show ¬ (_ = _); omega)) ?_
    refine y_same (i := .aload_n 0) (len := 1) (r := (0, 0, 0, 0)) (pc' := 10) (ls' := [some (.inl (some 15)), some (.inl (some 17)), some (zi xp), none]) (st' := [.inl (some 15)]) (by decide +kernel) (fun k q => by cases q) rfl ?_
    refine y_cI (i := .invokevirtual 103) (len := 3) (r := (0, 54, 5, 1025)) (nL := 3) (k := 1) (n := 1) (hs := []) (args := [.inl (some 15)]) (rest := []) (l0 := [some (.inl (some 15)), none, none]) (by decide +kernel) (Or.inr (Or.inl ⟨_, rfl⟩)) rfl rfl rfl rfl (Nat.le_of_ble_eq_true rfl) (zO O549.2.1 (tv15 O549.2.1) aw15 rfl) rfl (qI_le (by decide) (e_var O549.2.1 r549 (by omega))) (fun y550 h550 hRy550 => ?_)
    obtain ⟨τ550, O550, hD550⟩ := hRy550
    rcases hD550 with ⟨v550, a550, e550, le550, hy550, lv550, uv550, r550⟩ | ⟨q550, e550, hy550, f550⟩
    ·
      obtain ⟨⟨xn550y, hn550y, en550y⟩, ⟨xa550y, ha550y, ea550y⟩, hb550y, -⟩ := id r550
      refine y_goto (off := 4) (pc' := 17) (len := 3) (r := (0, 0, 0, 0)) (by decide +kernel) (by decide +kernel) ?_
      refine y_same (i := .istore_n 3) (len := 1) (r := (0, 0, 0, 0)) (pc' := 18) (ls' := [some (.inl (some 15)), some (.inl (some 17)), some (zi xp), some (zi y550)]) (st' := []) (by decide +kernel) (fun k q => by cases q) rfl ?_
      refine y_same (i := .iload_n 3) (len := 1) (r := (0, 0, 0, 0)) (pc' := 19) (ls' := [some (.inl (some 15)), some (.inl (some 17)), some (zi xp), some (zi y550)]) (st' := [zi y550]) (by decide +kernel) (fun k q => by cases q) rfl ?_
      refine y_ic (c := (-1)) (len := 1) (r := (0, 0, 0, 0)) (by decide +kernel) (by decide) (fun y551 hy551 => ?_)
      refine y_cF (c := .eq) (off := 36) (len := 3) (r := (0, 0, 0, 0)) (by decide +kernel) (acmpF (c := .eq) (by show ¬ (_ = _); omega)) ?_
      refine y_same (i := .aload_n 0) (len := 1) (r := (0, 0, 0, 0)) (pc' := 24) (ls' := [some (.inl (some 15)), some (.inl (some 17)), some (zi xp), some (zi y550)]) (st' := [.inl (some 15)]) (by decide +kernel) (fun k q => by cases q) rfl ?_
      refine y_same (i := .ldc 125) (len := 2) (r := (1, 4, 1030, 0)) (pc' := 26) (ls' := [some (.inl (some 15)), some (.inl (some 17)), some (zi xp), some (zi y550)]) (st' := [.inl (some 2000004), .inl (some 15)]) (by decide +kernel) (fun k q => by cases q) rfl ?_
      refine y_cI (i := .invokevirtual 68) (len := 3) (r := (0, 55, 5, 1017)) (nL := 2) (k := 2) (n := 2) (hs := []) (args := [.inl (some 15), .inl (some 2000004)]) (rest := []) (l0 := [some (.inl (some 15)), some (.inl (some 2000004))]) (by decide +kernel) (Or.inr (Or.inl ⟨_, rfl⟩)) rfl rfl rfl rfl (Nat.le_of_ble_eq_true rfl) (zO O550.2.1 (tv15 O550.2.1) aw15 rfl) rfl (qI_le (by decide) (e_need4 O550.2.1 r550 (by omega))) (fun y552 h552 hRy552 => ?_)
      obtain ⟨τ552, O552, hD552⟩ := hRy552
      rcases hD552 with ⟨a552, e552, le552, hy552, r552⟩ | ⟨e552, hy552, f552⟩
      ·
        obtain ⟨⟨xn552y, hn552y, en552y⟩, ⟨xa552y, ha552y, ea552y⟩, hb552y, -⟩ := id r552
        refine y_iF (c := .eq) (off := 27) (len := 3) (r := (0, 0, 0, 0)) (by decide +kernel) (acmpF (c := .eq) (by show ¬ (_ = _); omega)) ?_
        refine y_same (i := .aload_n 0) (len := 1) (r := (0, 0, 0, 0)) (pc' := 33) (ls' := [some (.inl (some 15)), some (.inl (some 17)), some (zi xp), some (zi y550)]) (st' := [.inl (some 15)]) (by decide +kernel) (fun k q => by cases q) rfl ?_
        refine y_same (i := .aload_n 1) (len := 1) (r := (0, 0, 0, 0)) (pc' := 34) (ls' := [some (.inl (some 15)), some (.inl (some 17)), some (zi xp), some (zi y550)]) (st' := [.inl (some 17), .inl (some 15)]) (by decide +kernel) (fun k q => by cases q) rfl ?_
        have hv553 := (O549.2.2 17 1001 0 (tv17 hg) (show 17 ≠ 15 ∨ 0 < 3 by omega)).trans al.2.2.2.1
        have hv554 := (O550.2.2 17 1001 0 (tv17 O549.2.1) (show 17 ≠ 15 ∨ 0 < 3 by omega)).trans hv553
        have hv555 := (O552.2.2 17 1001 0 (tv17 O550.2.1) (show 17 ≠ 15 ∨ 0 < 3 by omega)).trans hv554
        refine y_get (j := 127) (len := 3) (r := (8, 0, 2, 20181)) (by decide +kernel) O552.2.1 (tv17 O552.2.1) aw1001 rfl rfl hv555 ?_
        refine y_ic (c := 5) (len := 1) (r := (0, 0, 0, 0)) (by decide +kernel) (by decide) (fun y556 hy556 => ?_)
        refine y_ic (c := 3) (len := 1) (r := (0, 0, 0, 0)) (by decide +kernel) (by decide) (fun y557 hy557 => ?_)
        refine y_same (i := .iload_n 3) (len := 1) (r := (0, 0, 0, 0)) (pc' := 40) (ls' := [some (.inl (some 15)), some (.inl (some 17)), some (zi xp), some (zi y550)]) (st' := [zi y550, zi y557, zi y556, .inl (some 18), .inl (some 15)]) (by decide +kernel) (fun k q => by cases q) rfl ?_
        refine y_ic (c := 0) (len := 1) (r := (0, 0, 0, 0)) (by decide +kernel) (by decide) (fun y558 hy558 => ?_)
        refine y_ic (c := 0) (len := 1) (r := (0, 0, 0, 0)) (by decide +kernel) (by decide) (fun y559 hy559 => ?_)
        refine y_cI (i := .invokestatic 131) (len := 3) (r := (3, 158, 11, 1031)) (nL := 4) (k := 1) (n := 4) (hs := []) (args := [zi y557, zi y550, zi y558, zi y559]) (rest := [zi y556, .inl (some 18), .inl (some 15)]) (l0 := [some (zi y557), some (zi y550), some (zi y558), some (zi y559)]) (by decide +kernel) (Or.inl ⟨_, rfl⟩) rfl rfl rfl rfl (Nat.le_of_ble_eq_true rfl) rfl rfl (e_packed (by omega) (by omega) (by omega) (by omega) (by omega) (by omega) (by omega) (by omega)) (fun y560 qy560 hRy560 => ?_)
        obtain ⟨rfl, hy560⟩ := hRy560
        have py560 : y560.toInt = pk (3, v550, 0, 0) := by
          rw [hy560]
          unfold pk
          simp only
          omega
        refine y_same (i := .iload_n 2) (len := 1) (r := (0, 0, 0, 0)) (pc' := 46) (ls' := [some (.inl (some 15)), some (.inl (some 17)), some (zi xp), some (zi y550)]) (st' := [zi xp, zi y560, zi y556, .inl (some 18), .inl (some 15)]) (by decide +kernel) (fun k q => by cases q) rfl ?_
        have F561 : oF (fun k j => k ≠ 15 ∨ j < 3) τ h τ552 h552 := ⟨(aup_trans (aup_trans O549.1 O550.1) O552.1), O552.2.1, fun k T j hk (hC : k ≠ 15 ∨ j < 3) => ((O552.2.2 k T j (O550.1 _ _ (O549.1 _ _ hk)) (show k ≠ 15 ∨ j < 3 by omega)).trans ((O550.2.2 k T j (O549.1 _ _ hk) (show k ≠ 15 ∨ j < 3 by omega)).trans (O549.2.2 k T j hk (show k ≠ 15 ∨ j < 3 by omega))))⟩
        have al561 := alC_up5 hg al F561
        have rr561 := rwC_up rp (F561.2.2 18 1002 1 (tv18 hg) (show 18 ≠ 15 ∨ 1 < 3 by omega)) (fun j => F561.2.2 19 1005 j (tv19 hg) (show 19 ≠ 15 ∨ j < 3 by omega))
        refine y_cI (i := .invokevirtual 135) (len := 3) (r := (0, 53, 5, 1032)) (nL := 5) (k := 2) (n := 5) (hs := []) (args := [.inl (some 15), .inl (some 18), zi y556, zi y560, zi xp]) (rest := []) (l0 := [some (.inl (some 15)), some (.inl (some 18)), some (zi y556), some (zi y560), some (zi xp)]) (by decide +kernel) (Or.inr (Or.inl ⟨_, rfl⟩)) rfl rfl rfl rfl (Nat.le_of_ble_eq_true rfl) (zO O552.2.1 (tv15 O552.2.1) aw15 rfl) rfl (qI_le (by decide) (e_take18 (q := q) (i := (3, v550, 0, 0)) O552.2.1 al561 rr561 (by omega) py560 (by omega))) (fun y561 h561 hRy561 => ?_)
        obtain ⟨τ561, O561, hD561⟩ := hRy561
        rcases hD561 with ⟨l561, hy561, w561, v561⟩ | ⟨l561, hy561, f561⟩
        ·
          refine y_iF (c := .eq) (off := 7) (len := 3) (r := (0, 0, 0, 0)) (by decide +kernel) (acmpF (c := .eq) (by show ¬ (_ = _); omega)) ?_
          refine y_ic (c := 1) (len := 1) (r := (0, 0, 0, 0)) (by decide +kernel) (by decide) (fun y562 hy562 => ?_)
          refine y_goto (off := 4) (pc' := 57) (len := 3) (r := (0, 0, 0, 0)) (by decide +kernel) (by decide +kernel) ?_
          refine y_rI (len := 1) (r := (0, 0, 0, 0)) (nL := 4) (k := 2) (n9 := 3) (hs := []) (by decide +kernel) rfl (zfit_b (by omega) (by omega)).2 ?_
          have F : oF (fun k j => (k ≠ 15 ∨ j < 3) ∧ k ≠ 19 ∧ k ≠ 21 ∧ ((k ≠ 18 ∧ k ≠ 20) ∨ j ≠ 1)) τ h τ561 h561 := ⟨(aup_trans (aup_trans (aup_trans O549.1 O550.1) O552.1) O561.1), O561.2.1, fun k T j hk (hC : (k ≠ 15 ∨ j < 3) ∧ k ≠ 19 ∧ k ≠ 21 ∧ ((k ≠ 18 ∧ k ≠ 20) ∨ j ≠ 1)) => ((O561.2.2 k T j (O552.1 _ _ (O550.1 _ _ (O549.1 _ _ hk))) (show k ≠ 19 ∧ (k ≠ 18 ∨ j ≠ 1) ∧ (k ≠ 15 ∨ j < 4) by omega)).trans ((O552.2.2 k T j (O550.1 _ _ (O549.1 _ _ hk)) (show k ≠ 15 ∨ j < 3 by omega)).trans ((O550.2.2 k T j (O549.1 _ _ hk) (show k ≠ 15 ∨ j < 3 by omega)).trans (O549.2.2 k T j hk (show k ≠ 15 ∨ j < 3 by omega)))))⟩
          have ew : wTre b n (a0, ps, cs) a q = .inr (a552, ps ++ [(3, v550, 0, 0)], cs) := by
            unfold wTre
            simp only [e549, e550, e552]
            unfold tkp
            exact if_neg (show ¬ ps.length = 5 by omega)
          exact ⟨_, F, Or.inl ⟨_, _, _, ew, by omega, by omega, (rdc_k r552 (O561.2.2 15 15 2 (tv15 O552.2.1) (show 15 ≠ 19 ∧ (15 ≠ 18 ∨ 2 ≠ 1) ∧ (15 ≠ 15 ∨ 2 < 4) by omega)) (O561.2.2 15 15 3 (tv15 O552.2.1) (show 15 ≠ 19 ∧ (15 ≠ 18 ∨ 3 ≠ 1) ∧ (15 ≠ 15 ∨ 3 < 4) by omega)) (fun j => O561.2.2 27 27 j (tv27 O552.2.1) (show 27 ≠ 19 ∧ (27 ≠ 18 ∨ j ≠ 1) ∧ (27 ≠ 15 ∨ j < 4) by omega)) v561), w561, rwC_up rc (((O561.2.2 20 1003 1 (tv20 O552.2.1) (show 20 ≠ 19 ∧ (20 ≠ 18 ∨ 1 ≠ 1) ∧ (20 ≠ 15 ∨ 1 < 4) by omega)).trans ((O552.2.2 20 1003 1 (tv20 O550.2.1) (show 20 ≠ 15 ∨ 1 < 3 by omega)).trans ((O550.2.2 20 1003 1 (tv20 O549.2.1) (show 20 ≠ 15 ∨ 1 < 3 by omega)).trans (O549.2.2 20 1003 1 (tv20 hg) (show 20 ≠ 15 ∨ 1 < 3 by omega)))))) (fun j => ((O561.2.2 21 1006 j (tv21 O552.2.1) (show 21 ≠ 19 ∧ (21 ≠ 18 ∨ j ≠ 1) ∧ (21 ≠ 15 ∨ j < 4) by omega)).trans ((O552.2.2 21 1006 j (tv21 O550.2.1) (show 21 ≠ 15 ∨ j < 3 by omega)).trans ((O550.2.2 21 1006 j (tv21 O549.2.1) (show 21 ≠ 15 ∨ j < 3 by omega)).trans (O549.2.2 21 1006 j (tv21 hg) (show 21 ≠ 15 ∨ j < 3 by omega))))))⟩⟩
        ·
          refine y_iT (c := .eq) (off := 7) (pc' := 56) (len := 3) (r := (0, 0, 0, 0)) (by decide +kernel) (acmpT (c := .eq) (by show _ = _; omega)) (by decide +kernel) ?_
          refine y_ic (c := 0) (len := 1) (r := (0, 0, 0, 0)) (by decide +kernel) (by decide) (fun y563 hy563 => ?_)
          refine y_rI (len := 1) (r := (0, 0, 0, 0)) (nL := 4) (k := 2) (n9 := 3) (hs := []) (by decide +kernel) rfl (zfit_b (by omega) (by omega)).2 ?_
          have F : oF (fun k j => (k ≠ 15 ∨ j < 3) ∧ k ≠ 19 ∧ k ≠ 21 ∧ ((k ≠ 18 ∧ k ≠ 20) ∨ j ≠ 1)) τ h τ561 h561 := ⟨(aup_trans (aup_trans (aup_trans O549.1 O550.1) O552.1) O561.1), O561.2.1, fun k T j hk (hC : (k ≠ 15 ∨ j < 3) ∧ k ≠ 19 ∧ k ≠ 21 ∧ ((k ≠ 18 ∧ k ≠ 20) ∨ j ≠ 1)) => ((O561.2.2 k T j (O552.1 _ _ (O550.1 _ _ (O549.1 _ _ hk))) (show k ≠ 19 ∧ (k ≠ 18 ∨ j ≠ 1) ∧ (k ≠ 15 ∨ j < 4) by omega)).trans ((O552.2.2 k T j (O550.1 _ _ (O549.1 _ _ hk)) (show k ≠ 15 ∨ j < 3 by omega)).trans ((O550.2.2 k T j (O549.1 _ _ hk) (show k ≠ 15 ∨ j < 3 by omega)).trans (O549.2.2 k T j hk (show k ≠ 15 ∨ j < 3 by omega)))))⟩
          have ew : wTre b n (a0, ps, cs) a q = .inl (2, q) := by
            unfold wTre
            simp only [e549, e550, e552]
            unfold tkp
            exact if_pos (show ps.length = 5 by omega)
          exact ⟨_, F, Or.inr ⟨_, _, ew, by omega, f561⟩⟩
      ·
        refine y_iT (c := .eq) (off := 27) (pc' := 56) (len := 3) (r := (0, 0, 0, 0)) (by decide +kernel) (acmpT (c := .eq) (by show _ = _; omega)) (by decide +kernel) ?_
        refine y_ic (c := 0) (len := 1) (r := (0, 0, 0, 0)) (by decide +kernel) (by decide) (fun y564 hy564 => ?_)
        refine y_rI (len := 1) (r := (0, 0, 0, 0)) (nL := 4) (k := 2) (n9 := 3) (hs := []) (by decide +kernel) rfl (zfit_b (by omega) (by omega)).2 ?_
        have F : oF (fun k j => (k ≠ 15 ∨ j < 3) ∧ k ≠ 19 ∧ k ≠ 21 ∧ ((k ≠ 18 ∧ k ≠ 20) ∨ j ≠ 1)) τ h τ552 h552 := ⟨(aup_trans (aup_trans O549.1 O550.1) O552.1), O552.2.1, fun k T j hk (hC : (k ≠ 15 ∨ j < 3) ∧ k ≠ 19 ∧ k ≠ 21 ∧ ((k ≠ 18 ∧ k ≠ 20) ∨ j ≠ 1)) => ((O552.2.2 k T j (O550.1 _ _ (O549.1 _ _ hk)) (show k ≠ 15 ∨ j < 3 by omega)).trans ((O550.2.2 k T j (O549.1 _ _ hk) (show k ≠ 15 ∨ j < 3 by omega)).trans (O549.2.2 k T j hk (show k ≠ 15 ∨ j < 3 by omega))))⟩
        refine ⟨_, F, Or.inr ⟨_, _, (by unfold wTre; simp only [e549, e550, e552]), by omega, f552⟩⟩
    ·
      refine y_goto (off := 4) (pc' := 17) (len := 3) (r := (0, 0, 0, 0)) (by decide +kernel) (by decide +kernel) ?_
      refine y_same (i := .istore_n 3) (len := 1) (r := (0, 0, 0, 0)) (pc' := 18) (ls' := [some (.inl (some 15)), some (.inl (some 17)), some (zi xp), some (zi y550)]) (st' := []) (by decide +kernel) (fun k q => by cases q) rfl ?_
      refine y_same (i := .iload_n 3) (len := 1) (r := (0, 0, 0, 0)) (pc' := 19) (ls' := [some (.inl (some 15)), some (.inl (some 17)), some (zi xp), some (zi y550)]) (st' := [zi y550]) (by decide +kernel) (fun k q => by cases q) rfl ?_
      refine y_ic (c := (-1)) (len := 1) (r := (0, 0, 0, 0)) (by decide +kernel) (by decide) (fun y565 hy565 => ?_)
      refine y_cT (c := .eq) (off := 36) (pc' := 56) (len := 3) (r := (0, 0, 0, 0)) (by decide +kernel) (acmpT (c := .eq) (by show _ = _; omega)) (by decide +kernel) ?_
      refine y_ic (c := 0) (len := 1) (r := (0, 0, 0, 0)) (by decide +kernel) (by decide) (fun y566 hy566 => ?_)
      refine y_rI (len := 1) (r := (0, 0, 0, 0)) (nL := 4) (k := 2) (n9 := 3) (hs := []) (by decide +kernel) rfl (zfit_b (by omega) (by omega)).2 ?_
      have F : oF (fun k j => (k ≠ 15 ∨ j < 3) ∧ k ≠ 19 ∧ k ≠ 21 ∧ ((k ≠ 18 ∧ k ≠ 20) ∨ j ≠ 1)) τ h τ550 h550 := ⟨(aup_trans O549.1 O550.1), O550.2.1, fun k T j hk (hC : (k ≠ 15 ∨ j < 3) ∧ k ≠ 19 ∧ k ≠ 21 ∧ ((k ≠ 18 ∧ k ≠ 20) ∨ j ≠ 1)) => ((O550.2.2 k T j (O549.1 _ _ hk) (show k ≠ 15 ∨ j < 3 by omega)).trans (O549.2.2 k T j hk (show k ≠ 15 ∨ j < 3 by omega)))⟩
      refine ⟨_, F, Or.inr ⟨_, _, (by unfold wTre; simp only [e549, e550]), by omega, f550⟩⟩
  ·
    refine y_iT (c := .eq) (off := 10) (pc' := 16) (len := 3) (r := (0, 0, 0, 0)) (by decide +kernel) (acmpT (c := .eq) (by show _ = _; omega)) (by decide +kernel) ?_
    refine y_ic (c := (-1)) (len := 1) (r := (0, 0, 0, 0)) (by decide +kernel) (by decide) (fun y567 hy567 => ?_)
    refine y_same (i := .istore_n 3) (len := 1) (r := (0, 0, 0, 0)) (pc' := 18) (ls' := [some (.inl (some 15)), some (.inl (some 17)), some (zi xp), some (zi y567)]) (st' := []) (by decide +kernel) (fun k q => by cases q) rfl ?_
    refine y_same (i := .iload_n 3) (len := 1) (r := (0, 0, 0, 0)) (pc' := 19) (ls' := [some (.inl (some 15)), some (.inl (some 17)), some (zi xp), some (zi y567)]) (st' := [zi y567]) (by decide +kernel) (fun k q => by cases q) rfl ?_
    refine y_ic (c := (-1)) (len := 1) (r := (0, 0, 0, 0)) (by decide +kernel) (by decide) (fun y568 hy568 => ?_)
    refine y_cT (c := .eq) (off := 36) (pc' := 56) (len := 3) (r := (0, 0, 0, 0)) (by decide +kernel) (acmpT (c := .eq) (by show _ = _; omega)) (by decide +kernel) ?_
    refine y_ic (c := 0) (len := 1) (r := (0, 0, 0, 0)) (by decide +kernel) (by decide) (fun y569 hy569 => ?_)
    refine y_rI (len := 1) (r := (0, 0, 0, 0)) (nL := 4) (k := 2) (n9 := 3) (hs := []) (by decide +kernel) rfl (zfit_b (by omega) (by omega)).2 ?_
    have F : oF (fun k j => (k ≠ 15 ∨ j < 3) ∧ k ≠ 19 ∧ k ≠ 21 ∧ ((k ≠ 18 ∧ k ≠ 20) ∨ j ≠ 1)) τ h τ549 h549 := ⟨O549.1, O549.2.1, fun k T j hk (hC : (k ≠ 15 ∨ j < 3) ∧ k ≠ 19 ∧ k ≠ 21 ∧ ((k ≠ 18 ∧ k ≠ 20) ∨ j ≠ 1)) => (O549.2.2 k T j hk (show k ≠ 15 ∨ j < 3 by omega))⟩
    refine ⟨_, F, Or.inr ⟨_, _, (by unfold wTre; simp only [e549]), by omega, f549⟩⟩
theorem e_cell0 {t n a q a0 : Nat} {b : Nat → Int} {τ : List Nat} {h : zh} {ps cs : List it4} {xp : Int32} (hg : hG τ h) (al : alC h) (rd : rdC h n a b) (han : a ≤ n) (rp : rwC h 18 19 ps) (rc : rwC h 20 21 cs) (hq : xp.toInt = (q : Int)) {xx : Int32} {x : Int} (hxx : xx.toInt = x) (hx0 : 0 ≤ x) (hx5 : x ≤ 5) : qI 12 51 [some (.inl (some 15)), some (.inl (some 17)), some (zi xp), some (zi xx), none, none] h t (itR0 n b τ h (wCel b n (a0, ps, cs) a q x)) := by
  obtain ⟨⟨xn, hn, en⟩, ⟨xa, ha, ea⟩, hb, hn2⟩ := id rd
  refine qI_of ?_
  refine y_same (i := .aload_n 0) (len := 1) (r := (0, 0, 0, 0)) (pc' := 1) (ls' := [some (.inl (some 15)), some (.inl (some 17)), some (zi xp), some (zi xx), none, none]) (st' := [.inl (some 15)]) (by decide +kernel) (fun k q => by cases q) rfl ?_
  refine y_cI (i := .invokevirtual 103) (len := 3) (r := (0, 54, 5, 1025)) (nL := 3) (k := 1) (n := 1) (hs := []) (args := [.inl (some 15)]) (rest := []) (l0 := [some (.inl (some 15)), none, none]) (by decide +kernel) (Or.inr (Or.inl ⟨_, rfl⟩)) rfl rfl rfl rfl (Nat.le_of_ble_eq_true rfl) (zO hg (tv15 hg) aw15 rfl) rfl (qI_le (by decide) (e_var hg rd (by omega))) (fun y570 h570 hRy570 => ?_)
  obtain ⟨τ570, O570, hD570⟩ := hRy570
  rcases hD570 with ⟨v570, a570, e570, le570, hy570, lv570, uv570, r570⟩ | ⟨q570, e570, hy570, f570⟩
  ·
    obtain ⟨⟨xn570y, hn570y, en570y⟩, ⟨xa570y, ha570y, ea570y⟩, hb570y, -⟩ := id r570
    refine y_same (i := .istore 4) (len := 2) (r := (0, 0, 0, 0)) (pc' := 6) (ls' := [some (.inl (some 15)), some (.inl (some 17)), some (zi xp), some (zi xx), some (zi y570), none]) (st' := []) (by decide +kernel) (fun k q => by cases q) rfl ?_
    refine y_same (i := .iload 4) (len := 2) (r := (0, 0, 0, 0)) (pc' := 8) (ls' := [some (.inl (some 15)), some (.inl (some 17)), some (zi xp), some (zi xx), some (zi y570), none]) (st' := [zi y570]) (by decide +kernel) (fun k q => by cases q) rfl ?_
    refine y_ic (c := (-1)) (len := 1) (r := (0, 0, 0, 0)) (by decide +kernel) (by decide) (fun y571 hy571 => ?_)
    refine y_cT (c := .ne) (off := 5) (pc' := 14) (len := 3) (r := (0, 0, 0, 0)) (by decide +kernel) (acmpT (c := .ne) (by show ¬ (_ = _); omega)) (by decide +kernel) ?_
    refine y_same (i := .aload_n 0) (len := 1) (r := (0, 0, 0, 0)) (pc' := 15) (ls' := [some (.inl (some 15)), some (.inl (some 17)), some (zi xp), some (zi xx), some (zi y570), none]) (st' := [.inl (some 15)]) (by decide +kernel) (fun k q => by cases q) rfl ?_
    refine y_same (i := .ldc 123) (len := 2) (r := (1, 3, 1029, 0)) (pc' := 17) (ls' := [some (.inl (some 15)), some (.inl (some 17)), some (zi xp), some (zi xx), some (zi y570), none]) (st' := [.inl (some 2000003), .inl (some 15)]) (by decide +kernel) (fun k q => by cases q) rfl ?_
    refine y_cI (i := .invokevirtual 86) (len := 3) (r := (0, 57, 5, 965)) (nL := 4) (k := 2) (n := 2) (hs := []) (args := [.inl (some 15), .inl (some 2000003)]) (rest := []) (l0 := [some (.inl (some 15)), some (.inl (some 2000003)), none, none]) (by decide +kernel) (Or.inr (Or.inl ⟨_, rfl⟩)) rfl rfl rfl rfl (Nat.le_of_ble_eq_true rfl) (zO O570.2.1 (tv15 O570.2.1) aw15 rfl) rfl (qI_le (by decide) (e_sign3 O570.2.1 r570 (by omega))) (fun y572 h572 hRy572 => ?_)
    obtain ⟨τ572, O572, hD572⟩ := hRy572
    rcases hD572 with ⟨a572, e572, le572, hy572, r572⟩ | ⟨e572, hy572, r572⟩
    ·
      obtain ⟨⟨xn572y, hn572y, en572y⟩, ⟨xa572y, ha572y, ea572y⟩, hb572y, -⟩ := id r572
      refine y_iT (c := .ne) (off := 22) (pc' := 42) (len := 3) (r := (0, 0, 0, 0)) (by decide +kernel) (acmpT (c := .ne) (by show ¬ (_ = _); omega)) (by decide +kernel) ?_
      refine y_same (i := .aload_n 0) (len := 1) (r := (0, 0, 0, 0)) (pc' := 43) (ls' := [some (.inl (some 15)), some (.inl (some 17)), some (zi xp), some (zi xx), some (zi y570), none]) (st' := [.inl (some 15)]) (by decide +kernel) (fun k q => by cases q) rfl ?_
      refine y_cI (i := .invokevirtual 103) (len := 3) (r := (0, 54, 5, 1025)) (nL := 3) (k := 1) (n := 1) (hs := []) (args := [.inl (some 15)]) (rest := []) (l0 := [some (.inl (some 15)), none, none]) (by decide +kernel) (Or.inr (Or.inl ⟨_, rfl⟩)) rfl rfl rfl rfl (Nat.le_of_ble_eq_true rfl) (zO O572.2.1 (tv15 O572.2.1) aw15 rfl) rfl (qI_le (by decide) (e_var O572.2.1 r572 (by omega))) (fun y573 h573 hRy573 => ?_)
      obtain ⟨τ573, O573, hD573⟩ := hRy573
      rcases hD573 with ⟨v573, a573, e573, le573, hy573, lv573, uv573, r573⟩ | ⟨q573, e573, hy573, f573⟩
      ·
        obtain ⟨⟨xn573y, hn573y, en573y⟩, ⟨xa573y, ha573y, ea573y⟩, hb573y, -⟩ := id r573
        refine y_same (i := .istore 5) (len := 2) (r := (0, 0, 0, 0)) (pc' := 48) (ls' := [some (.inl (some 15)), some (.inl (some 17)), some (zi xp), some (zi xx), some (zi y570), some (zi y573)]) (st' := []) (by decide +kernel) (fun k q => by cases q) rfl ?_
        refine y_same (i := .iload 5) (len := 2) (r := (0, 0, 0, 0)) (pc' := 50) (ls' := [some (.inl (some 15)), some (.inl (some 17)), some (zi xp), some (zi xx), some (zi y570), some (zi y573)]) (st' := [zi y573]) (by decide +kernel) (fun k q => by cases q) rfl ?_
        refine y_ic (c := (-1)) (len := 1) (r := (0, 0, 0, 0)) (by decide +kernel) (by decide) (fun y574 hy574 => ?_)
        refine y_cF (c := .eq) (off := 29) (len := 3) (r := (0, 0, 0, 0)) (by decide +kernel) (acmpF (c := .eq) (by show ¬ (_ = _); omega)) ?_
        refine y_same (i := .aload_n 0) (len := 1) (r := (0, 0, 0, 0)) (pc' := 55) (ls' := [some (.inl (some 15)), some (.inl (some 17)), some (zi xp), some (zi xx), some (zi y570), some (zi y573)]) (st' := [.inl (some 15)]) (by decide +kernel) (fun k q => by cases q) rfl ?_
        refine y_same (i := .aload_n 1) (len := 1) (r := (0, 0, 0, 0)) (pc' := 56) (ls' := [some (.inl (some 15)), some (.inl (some 17)), some (zi xp), some (zi xx), some (zi y570), some (zi y573)]) (st' := [.inl (some 17), .inl (some 15)]) (by decide +kernel) (fun k q => by cases q) rfl ?_
        have hv575 := (O570.2.2 17 1001 0 (tv17 hg) (show 17 ≠ 15 ∨ 0 < 3 by omega)).trans al.2.2.2.1
        have hv576 := (O572.2.2 17 1001 0 (tv17 O570.2.1) (show 17 ≠ 15 ∨ 0 ≠ 3 by omega)).trans hv575
        have hv577 := (O573.2.2 17 1001 0 (tv17 O572.2.1) (show 17 ≠ 15 ∨ 0 < 3 by omega)).trans hv576
        refine y_get (j := 127) (len := 3) (r := (8, 0, 2, 20181)) (by decide +kernel) O573.2.1 (tv17 O573.2.1) aw1001 rfl rfl hv577 ?_
        refine y_ic (c := 5) (len := 1) (r := (0, 0, 0, 0)) (by decide +kernel) (by decide) (fun y578 hy578 => ?_)
        refine y_ic (c := 1) (len := 1) (r := (0, 0, 0, 0)) (by decide +kernel) (by decide) (fun y579 hy579 => ?_)
        refine y_same (i := .iload_n 3) (len := 1) (r := (0, 0, 0, 0)) (pc' := 62) (ls' := [some (.inl (some 15)), some (.inl (some 17)), some (zi xp), some (zi xx), some (zi y570), some (zi y573)]) (st' := [zi xx, zi y579, zi y578, .inl (some 18), .inl (some 15)]) (by decide +kernel) (fun k q => by cases q) rfl ?_
        refine y_same (i := .iload 4) (len := 2) (r := (0, 0, 0, 0)) (pc' := 64) (ls' := [some (.inl (some 15)), some (.inl (some 17)), some (zi xp), some (zi xx), some (zi y570), some (zi y573)]) (st' := [zi y570, zi xx, zi y579, zi y578, .inl (some 18), .inl (some 15)]) (by decide +kernel) (fun k q => by cases q) rfl ?_
        refine y_same (i := .iload 5) (len := 2) (r := (0, 0, 0, 0)) (pc' := 66) (ls' := [some (.inl (some 15)), some (.inl (some 17)), some (zi xp), some (zi xx), some (zi y570), some (zi y573)]) (st' := [zi y573, zi y570, zi xx, zi y579, zi y578, .inl (some 18), .inl (some 15)]) (by decide +kernel) (fun k q => by cases q) rfl ?_
        refine y_cI (i := .invokestatic 131) (len := 3) (r := (3, 158, 11, 1031)) (nL := 4) (k := 1) (n := 4) (hs := []) (args := [zi y579, zi xx, zi y570, zi y573]) (rest := [zi y578, .inl (some 18), .inl (some 15)]) (l0 := [some (zi y579), some (zi xx), some (zi y570), some (zi y573)]) (by decide +kernel) (Or.inl ⟨_, rfl⟩) rfl rfl rfl rfl (Nat.le_of_ble_eq_true rfl) rfl rfl (e_packed (by omega) (by omega) (by omega) (by omega) (by omega) (by omega) (by omega) (by omega)) (fun y580 qy580 hRy580 => ?_)
        obtain ⟨rfl, hy580⟩ := hRy580
        have py580 : y580.toInt = pk (1, x, v570, v573) := by
          rw [hy580]
          unfold pk
          simp only
          omega
        refine y_same (i := .iload_n 2) (len := 1) (r := (0, 0, 0, 0)) (pc' := 70) (ls' := [some (.inl (some 15)), some (.inl (some 17)), some (zi xp), some (zi xx), some (zi y570), some (zi y573)]) (st' := [zi xp, zi y580, zi y578, .inl (some 18), .inl (some 15)]) (by decide +kernel) (fun k q => by cases q) rfl ?_
        have F581 : oF (fun k j => k ≠ 15 ∨ j < 3) τ h τ573 h573 := ⟨(aup_trans (aup_trans O570.1 O572.1) O573.1), O573.2.1, fun k T j hk (hC : k ≠ 15 ∨ j < 3) => ((O573.2.2 k T j (O572.1 _ _ (O570.1 _ _ hk)) (show k ≠ 15 ∨ j < 3 by omega)).trans ((O572.2.2 k T j (O570.1 _ _ hk) (show k ≠ 15 ∨ j ≠ 3 by omega)).trans (O570.2.2 k T j hk (show k ≠ 15 ∨ j < 3 by omega))))⟩
        have al581 := alC_up5 hg al F581
        have rr581 := rwC_up rp (F581.2.2 18 1002 1 (tv18 hg) (show 18 ≠ 15 ∨ 1 < 3 by omega)) (fun j => F581.2.2 19 1005 j (tv19 hg) (show 19 ≠ 15 ∨ j < 3 by omega))
        refine y_cI (i := .invokevirtual 135) (len := 3) (r := (0, 53, 5, 1032)) (nL := 5) (k := 2) (n := 5) (hs := []) (args := [.inl (some 15), .inl (some 18), zi y578, zi y580, zi xp]) (rest := []) (l0 := [some (.inl (some 15)), some (.inl (some 18)), some (zi y578), some (zi y580), some (zi xp)]) (by decide +kernel) (Or.inr (Or.inl ⟨_, rfl⟩)) rfl rfl rfl rfl (Nat.le_of_ble_eq_true rfl) (zO O573.2.1 (tv15 O573.2.1) aw15 rfl) rfl (qI_le (by decide) (e_take18 (q := q) (i := (1, x, v570, v573)) O573.2.1 al581 rr581 (by omega) py580 (by omega))) (fun y581 h581 hRy581 => ?_)
        obtain ⟨τ581, O581, hD581⟩ := hRy581
        rcases hD581 with ⟨l581, hy581, w581, v581⟩ | ⟨l581, hy581, f581⟩
        ·
          refine y_iF (c := .eq) (off := 7) (len := 3) (r := (0, 0, 0, 0)) (by decide +kernel) (acmpF (c := .eq) (by show ¬ (_ = _); omega)) ?_
          refine y_ic (c := 1) (len := 1) (r := (0, 0, 0, 0)) (by decide +kernel) (by decide) (fun y582 hy582 => ?_)
          refine y_goto (off := 4) (pc' := 81) (len := 3) (r := (0, 0, 0, 0)) (by decide +kernel) (by decide +kernel) ?_
          refine y_rI (len := 1) (r := (0, 0, 0, 0)) (nL := 6) (k := 2) (n9 := 4) (hs := []) (by decide +kernel) rfl (zfit_b (by omega) (by omega)).2 ?_
          have F : oF (fun k j => (k ≠ 15 ∨ j < 3) ∧ k ≠ 19 ∧ k ≠ 21 ∧ ((k ≠ 18 ∧ k ≠ 20) ∨ j ≠ 1)) τ h τ581 h581 := ⟨(aup_trans (aup_trans (aup_trans O570.1 O572.1) O573.1) O581.1), O581.2.1, fun k T j hk (hC : (k ≠ 15 ∨ j < 3) ∧ k ≠ 19 ∧ k ≠ 21 ∧ ((k ≠ 18 ∧ k ≠ 20) ∨ j ≠ 1)) => ((O581.2.2 k T j (O573.1 _ _ (O572.1 _ _ (O570.1 _ _ hk))) (show k ≠ 19 ∧ (k ≠ 18 ∨ j ≠ 1) ∧ (k ≠ 15 ∨ j < 4) by omega)).trans ((O573.2.2 k T j (O572.1 _ _ (O570.1 _ _ hk)) (show k ≠ 15 ∨ j < 3 by omega)).trans ((O572.2.2 k T j (O570.1 _ _ hk) (show k ≠ 15 ∨ j ≠ 3 by omega)).trans (O570.2.2 k T j hk (show k ≠ 15 ∨ j < 3 by omega)))))⟩
          have ew : wCel b n (a0, ps, cs) a q x = .inr (a573, ps ++ [(1, x, v570, v573)], cs) := by
            unfold wCel
            simp only [e570, e572, e573]
            unfold tkp
            exact if_neg (show ¬ ps.length = 5 by omega)
          exact ⟨_, F, Or.inl ⟨_, _, _, ew, by omega, by omega, (rdc_k r573 (O581.2.2 15 15 2 (tv15 O573.2.1) (show 15 ≠ 19 ∧ (15 ≠ 18 ∨ 2 ≠ 1) ∧ (15 ≠ 15 ∨ 2 < 4) by omega)) (O581.2.2 15 15 3 (tv15 O573.2.1) (show 15 ≠ 19 ∧ (15 ≠ 18 ∨ 3 ≠ 1) ∧ (15 ≠ 15 ∨ 3 < 4) by omega)) (fun j => O581.2.2 27 27 j (tv27 O573.2.1) (show 27 ≠ 19 ∧ (27 ≠ 18 ∨ j ≠ 1) ∧ (27 ≠ 15 ∨ j < 4) by omega)) v581), w581, rwC_up rc (((O581.2.2 20 1003 1 (tv20 O573.2.1) (show 20 ≠ 19 ∧ (20 ≠ 18 ∨ 1 ≠ 1) ∧ (20 ≠ 15 ∨ 1 < 4) by omega)).trans ((O573.2.2 20 1003 1 (tv20 O572.2.1) (show 20 ≠ 15 ∨ 1 < 3 by omega)).trans ((O572.2.2 20 1003 1 (tv20 O570.2.1) (show 20 ≠ 15 ∨ 1 ≠ 3 by omega)).trans (O570.2.2 20 1003 1 (tv20 hg) (show 20 ≠ 15 ∨ 1 < 3 by omega)))))) (fun j => ((O581.2.2 21 1006 j (tv21 O573.2.1) (show 21 ≠ 19 ∧ (21 ≠ 18 ∨ j ≠ 1) ∧ (21 ≠ 15 ∨ j < 4) by omega)).trans ((O573.2.2 21 1006 j (tv21 O572.2.1) (show 21 ≠ 15 ∨ j < 3 by omega)).trans ((O572.2.2 21 1006 j (tv21 O570.2.1) (show 21 ≠ 15 ∨ j ≠ 3 by omega)).trans (O570.2.2 21 1006 j (tv21 hg) (show 21 ≠ 15 ∨ j < 3 by omega))))))⟩⟩
        ·
          refine y_iT (c := .eq) (off := 7) (pc' := 80) (len := 3) (r := (0, 0, 0, 0)) (by decide +kernel) (acmpT (c := .eq) (by show _ = _; omega)) (by decide +kernel) ?_
          refine y_ic (c := 0) (len := 1) (r := (0, 0, 0, 0)) (by decide +kernel) (by decide) (fun y583 hy583 => ?_)
          refine y_rI (len := 1) (r := (0, 0, 0, 0)) (nL := 6) (k := 2) (n9 := 4) (hs := []) (by decide +kernel) rfl (zfit_b (by omega) (by omega)).2 ?_
          have F : oF (fun k j => (k ≠ 15 ∨ j < 3) ∧ k ≠ 19 ∧ k ≠ 21 ∧ ((k ≠ 18 ∧ k ≠ 20) ∨ j ≠ 1)) τ h τ581 h581 := ⟨(aup_trans (aup_trans (aup_trans O570.1 O572.1) O573.1) O581.1), O581.2.1, fun k T j hk (hC : (k ≠ 15 ∨ j < 3) ∧ k ≠ 19 ∧ k ≠ 21 ∧ ((k ≠ 18 ∧ k ≠ 20) ∨ j ≠ 1)) => ((O581.2.2 k T j (O573.1 _ _ (O572.1 _ _ (O570.1 _ _ hk))) (show k ≠ 19 ∧ (k ≠ 18 ∨ j ≠ 1) ∧ (k ≠ 15 ∨ j < 4) by omega)).trans ((O573.2.2 k T j (O572.1 _ _ (O570.1 _ _ hk)) (show k ≠ 15 ∨ j < 3 by omega)).trans ((O572.2.2 k T j (O570.1 _ _ hk) (show k ≠ 15 ∨ j ≠ 3 by omega)).trans (O570.2.2 k T j hk (show k ≠ 15 ∨ j < 3 by omega)))))⟩
          have ew : wCel b n (a0, ps, cs) a q x = .inl (2, q) := by
            unfold wCel
            simp only [e570, e572, e573]
            unfold tkp
            exact if_pos (show ps.length = 5 by omega)
          exact ⟨_, F, Or.inr ⟨_, _, ew, by omega, f581⟩⟩
      ·
        refine y_same (i := .istore 5) (len := 2) (r := (0, 0, 0, 0)) (pc' := 48) (ls' := [some (.inl (some 15)), some (.inl (some 17)), some (zi xp), some (zi xx), some (zi y570), some (zi y573)]) (st' := []) (by decide +kernel) (fun k q => by cases q) rfl ?_
        refine y_same (i := .iload 5) (len := 2) (r := (0, 0, 0, 0)) (pc' := 50) (ls' := [some (.inl (some 15)), some (.inl (some 17)), some (zi xp), some (zi xx), some (zi y570), some (zi y573)]) (st' := [zi y573]) (by decide +kernel) (fun k q => by cases q) rfl ?_
        refine y_ic (c := (-1)) (len := 1) (r := (0, 0, 0, 0)) (by decide +kernel) (by decide) (fun y584 hy584 => ?_)
        refine y_cT (c := .eq) (off := 29) (pc' := 80) (len := 3) (r := (0, 0, 0, 0)) (by decide +kernel) (acmpT (c := .eq) (by show _ = _; omega)) (by decide +kernel) ?_
        refine y_ic (c := 0) (len := 1) (r := (0, 0, 0, 0)) (by decide +kernel) (by decide) (fun y585 hy585 => ?_)
        refine y_rI (len := 1) (r := (0, 0, 0, 0)) (nL := 6) (k := 2) (n9 := 4) (hs := []) (by decide +kernel) rfl (zfit_b (by omega) (by omega)).2 ?_
        have F : oF (fun k j => (k ≠ 15 ∨ j < 3) ∧ k ≠ 19 ∧ k ≠ 21 ∧ ((k ≠ 18 ∧ k ≠ 20) ∨ j ≠ 1)) τ h τ573 h573 := ⟨(aup_trans (aup_trans O570.1 O572.1) O573.1), O573.2.1, fun k T j hk (hC : (k ≠ 15 ∨ j < 3) ∧ k ≠ 19 ∧ k ≠ 21 ∧ ((k ≠ 18 ∧ k ≠ 20) ∨ j ≠ 1)) => ((O573.2.2 k T j (O572.1 _ _ (O570.1 _ _ hk)) (show k ≠ 15 ∨ j < 3 by omega)).trans ((O572.2.2 k T j (O570.1 _ _ hk) (show k ≠ 15 ∨ j ≠ 3 by omega)).trans (O570.2.2 k T j hk (show k ≠ 15 ∨ j < 3 by omega))))⟩
        refine ⟨_, F, Or.inr ⟨_, _, (by unfold wCel; simp only [e570, e572, e573]), by omega, f573⟩⟩
    ·
      have sl572 := sk_le (b := b) (n := n) (a := a570) (by omega)
      obtain ⟨⟨xn572n, hn572n, en572n⟩, ⟨xa572n, ha572n, ea572n⟩, hb572n, -⟩ := id r572
      refine y_iF (c := .ne) (off := 22) (len := 3) (r := (0, 0, 0, 0)) (by decide +kernel) (acmpF (c := .ne) (by show _ = _; omega)) ?_
      refine y_same (i := .aload_n 0) (len := 1) (r := (0, 0, 0, 0)) (pc' := 24) (ls' := [some (.inl (some 15)), some (.inl (some 17)), some (zi xp), some (zi xx), some (zi y570), none]) (st' := [.inl (some 15)]) (by decide +kernel) (fun k q => by cases q) rfl ?_
      refine y_same (i := .aload_n 1) (len := 1) (r := (0, 0, 0, 0)) (pc' := 25) (ls' := [some (.inl (some 15)), some (.inl (some 17)), some (zi xp), some (zi xx), some (zi y570), none]) (st' := [.inl (some 17), .inl (some 15)]) (by decide +kernel) (fun k q => by cases q) rfl ?_
      have hv586 := (O570.2.2 17 1001 0 (tv17 hg) (show 17 ≠ 15 ∨ 0 < 3 by omega)).trans al.2.2.2.1
      have hv587 := (O572.2.2 17 1001 0 (tv17 O570.2.1) (show 17 ≠ 15 ∨ 0 ≠ 3 by omega)).trans hv586
      refine y_get (j := 127) (len := 3) (r := (8, 0, 2, 20181)) (by decide +kernel) O572.2.1 (tv17 O572.2.1) aw1001 rfl rfl hv587 ?_
      refine y_ic (c := 5) (len := 1) (r := (0, 0, 0, 0)) (by decide +kernel) (by decide) (fun y588 hy588 => ?_)
      refine y_ic (c := 0) (len := 1) (r := (0, 0, 0, 0)) (by decide +kernel) (by decide) (fun y589 hy589 => ?_)
      refine y_same (i := .iload_n 3) (len := 1) (r := (0, 0, 0, 0)) (pc' := 31) (ls' := [some (.inl (some 15)), some (.inl (some 17)), some (zi xp), some (zi xx), some (zi y570), none]) (st' := [zi xx, zi y589, zi y588, .inl (some 18), .inl (some 15)]) (by decide +kernel) (fun k q => by cases q) rfl ?_
      refine y_same (i := .iload 4) (len := 2) (r := (0, 0, 0, 0)) (pc' := 33) (ls' := [some (.inl (some 15)), some (.inl (some 17)), some (zi xp), some (zi xx), some (zi y570), none]) (st' := [zi y570, zi xx, zi y589, zi y588, .inl (some 18), .inl (some 15)]) (by decide +kernel) (fun k q => by cases q) rfl ?_
      refine y_ic (c := 0) (len := 1) (r := (0, 0, 0, 0)) (by decide +kernel) (by decide) (fun y590 hy590 => ?_)
      refine y_cI (i := .invokestatic 131) (len := 3) (r := (3, 158, 11, 1031)) (nL := 4) (k := 1) (n := 4) (hs := []) (args := [zi y589, zi xx, zi y570, zi y590]) (rest := [zi y588, .inl (some 18), .inl (some 15)]) (l0 := [some (zi y589), some (zi xx), some (zi y570), some (zi y590)]) (by decide +kernel) (Or.inl ⟨_, rfl⟩) rfl rfl rfl rfl (Nat.le_of_ble_eq_true rfl) rfl rfl (e_packed (by omega) (by omega) (by omega) (by omega) (by omega) (by omega) (by omega) (by omega)) (fun y591 qy591 hRy591 => ?_)
      obtain ⟨rfl, hy591⟩ := hRy591
      have py591 : y591.toInt = pk (0, x, v570, 0) := by
        rw [hy591]
        unfold pk
        simp only
        omega
      refine y_same (i := .iload_n 2) (len := 1) (r := (0, 0, 0, 0)) (pc' := 38) (ls' := [some (.inl (some 15)), some (.inl (some 17)), some (zi xp), some (zi xx), some (zi y570), none]) (st' := [zi xp, zi y591, zi y588, .inl (some 18), .inl (some 15)]) (by decide +kernel) (fun k q => by cases q) rfl ?_
      have F592 : oF (fun k j => k ≠ 15 ∨ j < 3) τ h τ572 h572 := ⟨(aup_trans O570.1 O572.1), O572.2.1, fun k T j hk (hC : k ≠ 15 ∨ j < 3) => ((O572.2.2 k T j (O570.1 _ _ hk) (show k ≠ 15 ∨ j ≠ 3 by omega)).trans (O570.2.2 k T j hk (show k ≠ 15 ∨ j < 3 by omega)))⟩
      have al592 := alC_up5 hg al F592
      have rr592 := rwC_up rp (F592.2.2 18 1002 1 (tv18 hg) (show 18 ≠ 15 ∨ 1 < 3 by omega)) (fun j => F592.2.2 19 1005 j (tv19 hg) (show 19 ≠ 15 ∨ j < 3 by omega))
      refine y_cI (i := .invokevirtual 135) (len := 3) (r := (0, 53, 5, 1032)) (nL := 5) (k := 2) (n := 5) (hs := []) (args := [.inl (some 15), .inl (some 18), zi y588, zi y591, zi xp]) (rest := []) (l0 := [some (.inl (some 15)), some (.inl (some 18)), some (zi y588), some (zi y591), some (zi xp)]) (by decide +kernel) (Or.inr (Or.inl ⟨_, rfl⟩)) rfl rfl rfl rfl (Nat.le_of_ble_eq_true rfl) (zO O572.2.1 (tv15 O572.2.1) aw15 rfl) rfl (qI_le (by decide) (e_take18 (q := q) (i := (0, x, v570, 0)) O572.2.1 al592 rr592 (by omega) py591 (by omega))) (fun y592 h592 hRy592 => ?_)
      obtain ⟨τ592, O592, hD592⟩ := hRy592
      rcases hD592 with ⟨l592, hy592, w592, v592⟩ | ⟨l592, hy592, f592⟩
      ·
        refine y_rI (len := 1) (r := (0, 0, 0, 0)) (nL := 6) (k := 2) (n9 := 4) (hs := []) (by decide +kernel) rfl (zfit_b (by omega) (by omega)).2 ?_
        have F : oF (fun k j => (k ≠ 15 ∨ j < 3) ∧ k ≠ 19 ∧ k ≠ 21 ∧ ((k ≠ 18 ∧ k ≠ 20) ∨ j ≠ 1)) τ h τ592 h592 := ⟨(aup_trans (aup_trans O570.1 O572.1) O592.1), O592.2.1, fun k T j hk (hC : (k ≠ 15 ∨ j < 3) ∧ k ≠ 19 ∧ k ≠ 21 ∧ ((k ≠ 18 ∧ k ≠ 20) ∨ j ≠ 1)) => ((O592.2.2 k T j (O572.1 _ _ (O570.1 _ _ hk)) (show k ≠ 19 ∧ (k ≠ 18 ∨ j ≠ 1) ∧ (k ≠ 15 ∨ j < 4) by omega)).trans ((O572.2.2 k T j (O570.1 _ _ hk) (show k ≠ 15 ∨ j ≠ 3 by omega)).trans (O570.2.2 k T j hk (show k ≠ 15 ∨ j < 3 by omega))))⟩
        have ew : wCel b n (a0, ps, cs) a q x = .inr ((sk b n a570), ps ++ [(0, x, v570, 0)], cs) := by
          unfold wCel
          simp only [e570, e572]
          unfold tkp
          exact if_neg (show ¬ ps.length = 5 by omega)
        exact ⟨_, F, Or.inl ⟨_, _, _, ew, by omega, by omega, (rdc_k r572 (O592.2.2 15 15 2 (tv15 O572.2.1) (show 15 ≠ 19 ∧ (15 ≠ 18 ∨ 2 ≠ 1) ∧ (15 ≠ 15 ∨ 2 < 4) by omega)) (O592.2.2 15 15 3 (tv15 O572.2.1) (show 15 ≠ 19 ∧ (15 ≠ 18 ∨ 3 ≠ 1) ∧ (15 ≠ 15 ∨ 3 < 4) by omega)) (fun j => O592.2.2 27 27 j (tv27 O572.2.1) (show 27 ≠ 19 ∧ (27 ≠ 18 ∨ j ≠ 1) ∧ (27 ≠ 15 ∨ j < 4) by omega)) v592), w592, rwC_up rc (((O592.2.2 20 1003 1 (tv20 O572.2.1) (show 20 ≠ 19 ∧ (20 ≠ 18 ∨ 1 ≠ 1) ∧ (20 ≠ 15 ∨ 1 < 4) by omega)).trans ((O572.2.2 20 1003 1 (tv20 O570.2.1) (show 20 ≠ 15 ∨ 1 ≠ 3 by omega)).trans (O570.2.2 20 1003 1 (tv20 hg) (show 20 ≠ 15 ∨ 1 < 3 by omega))))) (fun j => ((O592.2.2 21 1006 j (tv21 O572.2.1) (show 21 ≠ 19 ∧ (21 ≠ 18 ∨ j ≠ 1) ∧ (21 ≠ 15 ∨ j < 4) by omega)).trans ((O572.2.2 21 1006 j (tv21 O570.2.1) (show 21 ≠ 15 ∨ j ≠ 3 by omega)).trans (O570.2.2 21 1006 j (tv21 hg) (show 21 ≠ 15 ∨ j < 3 by omega)))))⟩⟩
      ·
        refine y_rI (len := 1) (r := (0, 0, 0, 0)) (nL := 6) (k := 2) (n9 := 4) (hs := []) (by decide +kernel) rfl (zfit_b (by omega) (by omega)).2 ?_
        have F : oF (fun k j => (k ≠ 15 ∨ j < 3) ∧ k ≠ 19 ∧ k ≠ 21 ∧ ((k ≠ 18 ∧ k ≠ 20) ∨ j ≠ 1)) τ h τ592 h592 := ⟨(aup_trans (aup_trans O570.1 O572.1) O592.1), O592.2.1, fun k T j hk (hC : (k ≠ 15 ∨ j < 3) ∧ k ≠ 19 ∧ k ≠ 21 ∧ ((k ≠ 18 ∧ k ≠ 20) ∨ j ≠ 1)) => ((O592.2.2 k T j (O572.1 _ _ (O570.1 _ _ hk)) (show k ≠ 19 ∧ (k ≠ 18 ∨ j ≠ 1) ∧ (k ≠ 15 ∨ j < 4) by omega)).trans ((O572.2.2 k T j (O570.1 _ _ hk) (show k ≠ 15 ∨ j ≠ 3 by omega)).trans (O570.2.2 k T j hk (show k ≠ 15 ∨ j < 3 by omega))))⟩
        have ew : wCel b n (a0, ps, cs) a q x = .inl (2, q) := by
          unfold wCel
          simp only [e570, e572]
          unfold tkp
          exact if_pos (show ps.length = 5 by omega)
        exact ⟨_, F, Or.inr ⟨_, _, ew, by omega, f592⟩⟩
  ·
    refine y_same (i := .istore 4) (len := 2) (r := (0, 0, 0, 0)) (pc' := 6) (ls' := [some (.inl (some 15)), some (.inl (some 17)), some (zi xp), some (zi xx), some (zi y570), none]) (st' := []) (by decide +kernel) (fun k q => by cases q) rfl ?_
    refine y_same (i := .iload 4) (len := 2) (r := (0, 0, 0, 0)) (pc' := 8) (ls' := [some (.inl (some 15)), some (.inl (some 17)), some (zi xp), some (zi xx), some (zi y570), none]) (st' := [zi y570]) (by decide +kernel) (fun k q => by cases q) rfl ?_
    refine y_ic (c := (-1)) (len := 1) (r := (0, 0, 0, 0)) (by decide +kernel) (by decide) (fun y593 hy593 => ?_)
    refine y_cF (c := .ne) (off := 5) (len := 3) (r := (0, 0, 0, 0)) (by decide +kernel) (acmpF (c := .ne) (by show _ = _; omega)) ?_
    refine y_ic (c := 0) (len := 1) (r := (0, 0, 0, 0)) (by decide +kernel) (by decide) (fun y594 hy594 => ?_)
    refine y_rI (len := 1) (r := (0, 0, 0, 0)) (nL := 6) (k := 2) (n9 := 4) (hs := []) (by decide +kernel) rfl (zfit_b (by omega) (by omega)).2 ?_
    have F : oF (fun k j => (k ≠ 15 ∨ j < 3) ∧ k ≠ 19 ∧ k ≠ 21 ∧ ((k ≠ 18 ∧ k ≠ 20) ∨ j ≠ 1)) τ h τ570 h570 := ⟨O570.1, O570.2.1, fun k T j hk (hC : (k ≠ 15 ∨ j < 3) ∧ k ≠ 19 ∧ k ≠ 21 ∧ ((k ≠ 18 ∧ k ≠ 20) ∨ j ≠ 1)) => (O570.2.2 k T j hk (show k ≠ 15 ∨ j < 3 by omega))⟩
    refine ⟨_, F, Or.inr ⟨_, _, (by unfold wCel; simp only [e570]), by omega, f570⟩⟩
theorem e_claim0 {t n a q a0 : Nat} {b : Nat → Int} {τ : List Nat} {h : zh} {ps cs : List it4} {xp : Int32} (hg : hG τ h) (al : alC h) (rd : rdC h n a b) (han : a ≤ n) (rp : rwC h 18 19 ps) (rc : rwC h 20 21 cs) (hq : xp.toInt = (q : Int)) {xk xx : Int32} {kd x : Int} (hkd : xk.toInt = kd) (hk0 : 0 ≤ kd) (hk1 : kd ≤ 1) (hxx : xx.toInt = x) (hx0 : 0 ≤ x) (hx5 : x ≤ 5) : qI 12 52 [some (.inl (some 15)), some (.inl (some 17)), some (zi xp), some (zi xk), some (zi xx), none] h t (itR0 n b τ h (wClm b n (a0, ps, cs) a q kd x)) := by
  obtain ⟨⟨xn, hn, en⟩, ⟨xa, ha, ea⟩, hb, hn2⟩ := id rd
  refine qI_of ?_
  refine y_same (i := .aload_n 0) (len := 1) (r := (0, 0, 0, 0)) (pc' := 1) (ls' := [some (.inl (some 15)), some (.inl (some 17)), some (zi xp), some (zi xk), some (zi xx), none]) (st' := [.inl (some 15)]) (by decide +kernel) (fun k q => by cases q) rfl ?_
  refine y_cI (i := .invokevirtual 103) (len := 3) (r := (0, 54, 5, 1025)) (nL := 3) (k := 1) (n := 1) (hs := []) (args := [.inl (some 15)]) (rest := []) (l0 := [some (.inl (some 15)), none, none]) (by decide +kernel) (Or.inr (Or.inl ⟨_, rfl⟩)) rfl rfl rfl rfl (Nat.le_of_ble_eq_true rfl) (zO hg (tv15 hg) aw15 rfl) rfl (qI_le (by decide) (e_var hg rd (by omega))) (fun y595 h595 hRy595 => ?_)
  obtain ⟨τ595, O595, hD595⟩ := hRy595
  rcases hD595 with ⟨v595, a595, e595, le595, hy595, lv595, uv595, r595⟩ | ⟨q595, e595, hy595, f595⟩
  ·
    obtain ⟨⟨xn595y, hn595y, en595y⟩, ⟨xa595y, ha595y, ea595y⟩, hb595y, -⟩ := id r595
    refine y_same (i := .istore 5) (len := 2) (r := (0, 0, 0, 0)) (pc' := 6) (ls' := [some (.inl (some 15)), some (.inl (some 17)), some (zi xp), some (zi xk), some (zi xx), some (zi y595)]) (st' := []) (by decide +kernel) (fun k q => by cases q) rfl ?_
    refine y_same (i := .iload 5) (len := 2) (r := (0, 0, 0, 0)) (pc' := 8) (ls' := [some (.inl (some 15)), some (.inl (some 17)), some (zi xp), some (zi xk), some (zi xx), some (zi y595)]) (st' := [zi y595]) (by decide +kernel) (fun k q => by cases q) rfl ?_
    refine y_ic (c := (-1)) (len := 1) (r := (0, 0, 0, 0)) (by decide +kernel) (by decide) (fun y596 hy596 => ?_)
    refine y_cF (c := .eq) (off := 30) (len := 3) (r := (0, 0, 0, 0)) (by decide +kernel) (acmpF (c := .eq) (by show ¬ (_ = _); omega)) ?_
    refine y_same (i := .aload_n 0) (len := 1) (r := (0, 0, 0, 0)) (pc' := 13) (ls' := [some (.inl (some 15)), some (.inl (some 17)), some (zi xp), some (zi xk), some (zi xx), some (zi y595)]) (st' := [.inl (some 15)]) (by decide +kernel) (fun k q => by cases q) rfl ?_
    refine y_same (i := .aload_n 1) (len := 1) (r := (0, 0, 0, 0)) (pc' := 14) (ls' := [some (.inl (some 15)), some (.inl (some 17)), some (zi xp), some (zi xk), some (zi xx), some (zi y595)]) (st' := [.inl (some 17), .inl (some 15)]) (by decide +kernel) (fun k q => by cases q) rfl ?_
    have hv597 := (O595.2.2 17 1001 1 (tv17 hg) (show 17 ≠ 15 ∨ 1 < 3 by omega)).trans al.2.2.2.2.1
    refine y_get (j := 139) (len := 3) (r := (8, 1, 2, 20190)) (by decide +kernel) O595.2.1 (tv17 O595.2.1) aw1001 rfl rfl hv597 ?_
    refine y_bi (c := 6) (len := 2) (r := (0, 0, 0, 0)) (by decide +kernel) (by decide) (fun y598 hy598 => ?_)
    refine y_same (i := .iload_n 3) (len := 1) (r := (0, 0, 0, 0)) (pc' := 20) (ls' := [some (.inl (some 15)), some (.inl (some 17)), some (zi xp), some (zi xk), some (zi xx), some (zi y595)]) (st' := [zi xk, zi y598, .inl (some 20), .inl (some 15)]) (by decide +kernel) (fun k q => by cases q) rfl ?_
    refine y_same (i := .iload 4) (len := 2) (r := (0, 0, 0, 0)) (pc' := 22) (ls' := [some (.inl (some 15)), some (.inl (some 17)), some (zi xp), some (zi xk), some (zi xx), some (zi y595)]) (st' := [zi xx, zi xk, zi y598, .inl (some 20), .inl (some 15)]) (by decide +kernel) (fun k q => by cases q) rfl ?_
    refine y_same (i := .iload 5) (len := 2) (r := (0, 0, 0, 0)) (pc' := 24) (ls' := [some (.inl (some 15)), some (.inl (some 17)), some (zi xp), some (zi xk), some (zi xx), some (zi y595)]) (st' := [zi y595, zi xx, zi xk, zi y598, .inl (some 20), .inl (some 15)]) (by decide +kernel) (fun k q => by cases q) rfl ?_
    refine y_ic (c := 0) (len := 1) (r := (0, 0, 0, 0)) (by decide +kernel) (by decide) (fun y599 hy599 => ?_)
    refine y_cI (i := .invokestatic 131) (len := 3) (r := (3, 158, 11, 1031)) (nL := 4) (k := 1) (n := 4) (hs := []) (args := [zi xk, zi xx, zi y595, zi y599]) (rest := [zi y598, .inl (some 20), .inl (some 15)]) (l0 := [some (zi xk), some (zi xx), some (zi y595), some (zi y599)]) (by decide +kernel) (Or.inl ⟨_, rfl⟩) rfl rfl rfl rfl (Nat.le_of_ble_eq_true rfl) rfl rfl (e_packed (by omega) (by omega) (by omega) (by omega) (by omega) (by omega) (by omega) (by omega)) (fun y600 qy600 hRy600 => ?_)
    obtain ⟨rfl, hy600⟩ := hRy600
    have py600 : y600.toInt = pk (kd, x, v595, 0) := by
      rw [hy600]
      unfold pk
      simp only
      omega
    refine y_same (i := .iload_n 2) (len := 1) (r := (0, 0, 0, 0)) (pc' := 29) (ls' := [some (.inl (some 15)), some (.inl (some 17)), some (zi xp), some (zi xk), some (zi xx), some (zi y595)]) (st' := [zi xp, zi y600, zi y598, .inl (some 20), .inl (some 15)]) (by decide +kernel) (fun k q => by cases q) rfl ?_
    have F601 : oF (fun k j => k ≠ 15 ∨ j < 3) τ h τ595 h595 := ⟨O595.1, O595.2.1, fun k T j hk (hC : k ≠ 15 ∨ j < 3) => (O595.2.2 k T j hk (show k ≠ 15 ∨ j < 3 by omega))⟩
    have al601 := alC_up5 hg al F601
    have rr601 := rwC_up rc (F601.2.2 20 1003 1 (tv20 hg) (show 20 ≠ 15 ∨ 1 < 3 by omega)) (fun j => F601.2.2 21 1006 j (tv21 hg) (show 21 ≠ 15 ∨ j < 3 by omega))
    refine y_cI (i := .invokevirtual 135) (len := 3) (r := (0, 53, 5, 1032)) (nL := 5) (k := 2) (n := 5) (hs := []) (args := [.inl (some 15), .inl (some 20), zi y598, zi y600, zi xp]) (rest := []) (l0 := [some (.inl (some 15)), some (.inl (some 20)), some (zi y598), some (zi y600), some (zi xp)]) (by decide +kernel) (Or.inr (Or.inl ⟨_, rfl⟩)) rfl rfl rfl rfl (Nat.le_of_ble_eq_true rfl) (zO O595.2.1 (tv15 O595.2.1) aw15 rfl) rfl (qI_le (by decide) (e_take20 (q := q) (i := (kd, x, v595, 0)) O595.2.1 al601 rr601 (by omega) py600 (by omega))) (fun y601 h601 hRy601 => ?_)
    obtain ⟨τ601, O601, hD601⟩ := hRy601
    rcases hD601 with ⟨l601, hy601, w601, v601⟩ | ⟨l601, hy601, f601⟩
    ·
      refine y_iF (c := .eq) (off := 7) (len := 3) (r := (0, 0, 0, 0)) (by decide +kernel) (acmpF (c := .eq) (by show ¬ (_ = _); omega)) ?_
      refine y_ic (c := 1) (len := 1) (r := (0, 0, 0, 0)) (by decide +kernel) (by decide) (fun y602 hy602 => ?_)
      refine y_goto (off := 4) (pc' := 40) (len := 3) (r := (0, 0, 0, 0)) (by decide +kernel) (by decide +kernel) ?_
      refine y_rI (len := 1) (r := (0, 0, 0, 0)) (nL := 6) (k := 2) (n9 := 5) (hs := []) (by decide +kernel) rfl (zfit_b (by omega) (by omega)).2 ?_
      have F : oF (fun k j => (k ≠ 15 ∨ j < 3) ∧ k ≠ 19 ∧ k ≠ 21 ∧ ((k ≠ 18 ∧ k ≠ 20) ∨ j ≠ 1)) τ h τ601 h601 := ⟨(aup_trans O595.1 O601.1), O601.2.1, fun k T j hk (hC : (k ≠ 15 ∨ j < 3) ∧ k ≠ 19 ∧ k ≠ 21 ∧ ((k ≠ 18 ∧ k ≠ 20) ∨ j ≠ 1)) => ((O601.2.2 k T j (O595.1 _ _ hk) (show k ≠ 21 ∧ (k ≠ 20 ∨ j ≠ 1) ∧ (k ≠ 15 ∨ j < 4) by omega)).trans (O595.2.2 k T j hk (show k ≠ 15 ∨ j < 3 by omega)))⟩
      have ew : wClm b n (a0, ps, cs) a q kd x = .inr (a595, ps, cs ++ [(kd, x, v595, 0)]) := by
        unfold wClm
        simp only [e595]
        unfold tkc
        exact if_neg (show ¬ cs.length = 6 by omega)
      exact ⟨_, F, Or.inl ⟨_, _, _, ew, by omega, by omega, (rdc_k r595 (O601.2.2 15 15 2 (tv15 O595.2.1) (show 15 ≠ 21 ∧ (15 ≠ 20 ∨ 2 ≠ 1) ∧ (15 ≠ 15 ∨ 2 < 4) by omega)) (O601.2.2 15 15 3 (tv15 O595.2.1) (show 15 ≠ 21 ∧ (15 ≠ 20 ∨ 3 ≠ 1) ∧ (15 ≠ 15 ∨ 3 < 4) by omega)) (fun j => O601.2.2 27 27 j (tv27 O595.2.1) (show 27 ≠ 21 ∧ (27 ≠ 20 ∨ j ≠ 1) ∧ (27 ≠ 15 ∨ j < 4) by omega)) v601), rwC_up rp (((O601.2.2 18 1002 1 (tv18 O595.2.1) (show 18 ≠ 21 ∧ (18 ≠ 20 ∨ 1 ≠ 1) ∧ (18 ≠ 15 ∨ 1 < 4) by omega)).trans (O595.2.2 18 1002 1 (tv18 hg) (show 18 ≠ 15 ∨ 1 < 3 by omega)))) (fun j => ((O601.2.2 19 1005 j (tv19 O595.2.1) (show 19 ≠ 21 ∧ (19 ≠ 20 ∨ j ≠ 1) ∧ (19 ≠ 15 ∨ j < 4) by omega)).trans (O595.2.2 19 1005 j (tv19 hg) (show 19 ≠ 15 ∨ j < 3 by omega)))), w601⟩⟩
    ·
      refine y_iT (c := .eq) (off := 7) (pc' := 39) (len := 3) (r := (0, 0, 0, 0)) (by decide +kernel) (acmpT (c := .eq) (by show _ = _; omega)) (by decide +kernel) ?_
      refine y_ic (c := 0) (len := 1) (r := (0, 0, 0, 0)) (by decide +kernel) (by decide) (fun y603 hy603 => ?_)
      refine y_rI (len := 1) (r := (0, 0, 0, 0)) (nL := 6) (k := 2) (n9 := 5) (hs := []) (by decide +kernel) rfl (zfit_b (by omega) (by omega)).2 ?_
      have F : oF (fun k j => (k ≠ 15 ∨ j < 3) ∧ k ≠ 19 ∧ k ≠ 21 ∧ ((k ≠ 18 ∧ k ≠ 20) ∨ j ≠ 1)) τ h τ601 h601 := ⟨(aup_trans O595.1 O601.1), O601.2.1, fun k T j hk (hC : (k ≠ 15 ∨ j < 3) ∧ k ≠ 19 ∧ k ≠ 21 ∧ ((k ≠ 18 ∧ k ≠ 20) ∨ j ≠ 1)) => ((O601.2.2 k T j (O595.1 _ _ hk) (show k ≠ 21 ∧ (k ≠ 20 ∨ j ≠ 1) ∧ (k ≠ 15 ∨ j < 4) by omega)).trans (O595.2.2 k T j hk (show k ≠ 15 ∨ j < 3 by omega)))⟩
      have ew : wClm b n (a0, ps, cs) a q kd x = .inl (2, q) := by
        unfold wClm
        simp only [e595]
        unfold tkc
        exact if_pos (show cs.length = 6 by omega)
      exact ⟨_, F, Or.inr ⟨_, _, ew, by omega, f601⟩⟩
  ·
    refine y_same (i := .istore 5) (len := 2) (r := (0, 0, 0, 0)) (pc' := 6) (ls' := [some (.inl (some 15)), some (.inl (some 17)), some (zi xp), some (zi xk), some (zi xx), some (zi y595)]) (st' := []) (by decide +kernel) (fun k q => by cases q) rfl ?_
    refine y_same (i := .iload 5) (len := 2) (r := (0, 0, 0, 0)) (pc' := 8) (ls' := [some (.inl (some 15)), some (.inl (some 17)), some (zi xp), some (zi xk), some (zi xx), some (zi y595)]) (st' := [zi y595]) (by decide +kernel) (fun k q => by cases q) rfl ?_
    refine y_ic (c := (-1)) (len := 1) (r := (0, 0, 0, 0)) (by decide +kernel) (by decide) (fun y604 hy604 => ?_)
    refine y_cT (c := .eq) (off := 30) (pc' := 39) (len := 3) (r := (0, 0, 0, 0)) (by decide +kernel) (acmpT (c := .eq) (by show _ = _; omega)) (by decide +kernel) ?_
    refine y_ic (c := 0) (len := 1) (r := (0, 0, 0, 0)) (by decide +kernel) (by decide) (fun y605 hy605 => ?_)
    refine y_rI (len := 1) (r := (0, 0, 0, 0)) (nL := 6) (k := 2) (n9 := 5) (hs := []) (by decide +kernel) rfl (zfit_b (by omega) (by omega)).2 ?_
    have F : oF (fun k j => (k ≠ 15 ∨ j < 3) ∧ k ≠ 19 ∧ k ≠ 21 ∧ ((k ≠ 18 ∧ k ≠ 20) ∨ j ≠ 1)) τ h τ595 h595 := ⟨O595.1, O595.2.1, fun k T j hk (hC : (k ≠ 15 ∨ j < 3) ∧ k ≠ 19 ∧ k ≠ 21 ∧ ((k ≠ 18 ∧ k ≠ 20) ∨ j ≠ 1)) => (O595.2.2 k T j hk (show k ≠ 15 ∨ j < 3 by omega))⟩
    refine ⟨_, F, Or.inr ⟨_, _, (by unfold wClm; simp only [e595]), by omega, f595⟩⟩
theorem e_list1 {t n a q a0 : Nat} {b : Nat → Int} {τ : List Nat} {h : zh} {ps cs : List it4} {xp : Int32} (hg : hG τ h) (al : alC h) (rd : rdC h n a b) (han : a ≤ n) (rp : rwC h 23 24 ps) (rc : rwC h 25 26 cs) (hq : xp.toInt = (q : Int)) : qI 12 49 [some (.inl (some 15)), some (.inl (some 22)), some (zi xp), none, none] h t (itR1 n b τ h (wLst b n (a0, ps, cs) a q)) := by
  obtain ⟨⟨xn, hn, en⟩, ⟨xa, ha, ea⟩, hb, hn2⟩ := id rd
  refine qI_of ?_
  refine y_same (i := .aload_n 0) (len := 1) (r := (0, 0, 0, 0)) (pc' := 1) (ls' := [some (.inl (some 15)), some (.inl (some 22)), some (zi xp), none, none]) (st' := [.inl (some 15)]) (by decide +kernel) (fun k q => by cases q) rfl ?_
  refine y_same (i := .ldc 121) (len := 2) (r := (1, 2, 1016, 0)) (pc' := 3) (ls' := [some (.inl (some 15)), some (.inl (some 22)), some (zi xp), none, none]) (st' := [.inl (some 2000002), .inl (some 15)]) (by decide +kernel) (fun k q => by cases q) rfl ?_
  refine y_cI (i := .invokevirtual 68) (len := 3) (r := (0, 55, 5, 1017)) (nL := 2) (k := 2) (n := 2) (hs := []) (args := [.inl (some 15), .inl (some 2000002)]) (rest := []) (l0 := [some (.inl (some 15)), some (.inl (some 2000002))]) (by decide +kernel) (Or.inr (Or.inl ⟨_, rfl⟩)) rfl rfl rfl rfl (Nat.le_of_ble_eq_true rfl) (zO hg (tv15 hg) aw15 rfl) rfl (qI_le (by decide) (e_need2 hg rd (by omega))) (fun y606 h606 hRy606 => ?_)
  obtain ⟨τ606, O606, hD606⟩ := hRy606
  rcases hD606 with ⟨a606, e606, le606, hy606, r606⟩ | ⟨e606, hy606, f606⟩
  ·
    obtain ⟨⟨xn606y, hn606y, en606y⟩, ⟨xa606y, ha606y, ea606y⟩, hb606y, -⟩ := id r606
    refine y_iF (c := .eq) (off := 10) (len := 3) (r := (0, 0, 0, 0)) (by decide +kernel) (acmpF (c := .eq) (by show ¬ (_ = _); omega)) ?_
    refine y_same (i := .aload_n 0) (len := 1) (r := (0, 0, 0, 0)) (pc' := 10) (ls' := [some (.inl (some 15)), some (.inl (some 22)), some (zi xp), none, none]) (st' := [.inl (some 15)]) (by decide +kernel) (fun k q => by cases q) rfl ?_
    refine y_cI (i := .invokevirtual 103) (len := 3) (r := (0, 54, 5, 1025)) (nL := 3) (k := 1) (n := 1) (hs := []) (args := [.inl (some 15)]) (rest := []) (l0 := [some (.inl (some 15)), none, none]) (by decide +kernel) (Or.inr (Or.inl ⟨_, rfl⟩)) rfl rfl rfl rfl (Nat.le_of_ble_eq_true rfl) (zO O606.2.1 (tv15 O606.2.1) aw15 rfl) rfl (qI_le (by decide) (e_var O606.2.1 r606 (by omega))) (fun y607 h607 hRy607 => ?_)
    obtain ⟨τ607, O607, hD607⟩ := hRy607
    rcases hD607 with ⟨v607, a607, e607, le607, hy607, lv607, uv607, r607⟩ | ⟨q607, e607, hy607, f607⟩
    ·
      obtain ⟨⟨xn607y, hn607y, en607y⟩, ⟨xa607y, ha607y, ea607y⟩, hb607y, -⟩ := id r607
      refine y_goto (off := 4) (pc' := 17) (len := 3) (r := (0, 0, 0, 0)) (by decide +kernel) (by decide +kernel) ?_
      refine y_same (i := .istore_n 3) (len := 1) (r := (0, 0, 0, 0)) (pc' := 18) (ls' := [some (.inl (some 15)), some (.inl (some 22)), some (zi xp), some (zi y607), none]) (st' := []) (by decide +kernel) (fun k q => by cases q) rfl ?_
      refine y_same (i := .iload_n 3) (len := 1) (r := (0, 0, 0, 0)) (pc' := 19) (ls' := [some (.inl (some 15)), some (.inl (some 22)), some (zi xp), some (zi y607), none]) (st' := [zi y607]) (by decide +kernel) (fun k q => by cases q) rfl ?_
      refine y_ic (c := (-1)) (len := 1) (r := (0, 0, 0, 0)) (by decide +kernel) (by decide) (fun y608 hy608 => ?_)
      refine y_cF (c := .eq) (off := 19) (len := 3) (r := (0, 0, 0, 0)) (by decide +kernel) (acmpF (c := .eq) (by show ¬ (_ = _); omega)) ?_
      refine y_same (i := .aload_n 0) (len := 1) (r := (0, 0, 0, 0)) (pc' := 24) (ls' := [some (.inl (some 15)), some (.inl (some 22)), some (zi xp), some (zi y607), none]) (st' := [.inl (some 15)]) (by decide +kernel) (fun k q => by cases q) rfl ?_
      refine y_same (i := .ldc 123) (len := 2) (r := (1, 3, 1029, 0)) (pc' := 26) (ls' := [some (.inl (some 15)), some (.inl (some 22)), some (zi xp), some (zi y607), none]) (st' := [.inl (some 2000003), .inl (some 15)]) (by decide +kernel) (fun k q => by cases q) rfl ?_
      refine y_cI (i := .invokevirtual 68) (len := 3) (r := (0, 55, 5, 1017)) (nL := 2) (k := 2) (n := 2) (hs := []) (args := [.inl (some 15), .inl (some 2000003)]) (rest := []) (l0 := [some (.inl (some 15)), some (.inl (some 2000003))]) (by decide +kernel) (Or.inr (Or.inl ⟨_, rfl⟩)) rfl rfl rfl rfl (Nat.le_of_ble_eq_true rfl) (zO O607.2.1 (tv15 O607.2.1) aw15 rfl) rfl (qI_le (by decide) (e_need3 O607.2.1 r607 (by omega))) (fun y609 h609 hRy609 => ?_)
      obtain ⟨τ609, O609, hD609⟩ := hRy609
      rcases hD609 with ⟨a609, e609, le609, hy609, r609⟩ | ⟨e609, hy609, f609⟩
      ·
        obtain ⟨⟨xn609y, hn609y, en609y⟩, ⟨xa609y, ha609y, ea609y⟩, hb609y, -⟩ := id r609
        refine y_iF (c := .eq) (off := 10) (len := 3) (r := (0, 0, 0, 0)) (by decide +kernel) (acmpF (c := .eq) (by show ¬ (_ = _); omega)) ?_
        refine y_same (i := .aload_n 0) (len := 1) (r := (0, 0, 0, 0)) (pc' := 33) (ls' := [some (.inl (some 15)), some (.inl (some 22)), some (zi xp), some (zi y607), none]) (st' := [.inl (some 15)]) (by decide +kernel) (fun k q => by cases q) rfl ?_
        refine y_cI (i := .invokevirtual 103) (len := 3) (r := (0, 54, 5, 1025)) (nL := 3) (k := 1) (n := 1) (hs := []) (args := [.inl (some 15)]) (rest := []) (l0 := [some (.inl (some 15)), none, none]) (by decide +kernel) (Or.inr (Or.inl ⟨_, rfl⟩)) rfl rfl rfl rfl (Nat.le_of_ble_eq_true rfl) (zO O609.2.1 (tv15 O609.2.1) aw15 rfl) rfl (qI_le (by decide) (e_var O609.2.1 r609 (by omega))) (fun y610 h610 hRy610 => ?_)
        obtain ⟨τ610, O610, hD610⟩ := hRy610
        rcases hD610 with ⟨v610, a610, e610, le610, hy610, lv610, uv610, r610⟩ | ⟨q610, e610, hy610, f610⟩
        ·
          obtain ⟨⟨xn610y, hn610y, en610y⟩, ⟨xa610y, ha610y, ea610y⟩, hb610y, -⟩ := id r610
          refine y_goto (off := 4) (pc' := 40) (len := 3) (r := (0, 0, 0, 0)) (by decide +kernel) (by decide +kernel) ?_
          refine y_same (i := .istore 4) (len := 2) (r := (0, 0, 0, 0)) (pc' := 42) (ls' := [some (.inl (some 15)), some (.inl (some 22)), some (zi xp), some (zi y607), some (zi y610)]) (st' := []) (by decide +kernel) (fun k q => by cases q) rfl ?_
          refine y_same (i := .iload 4) (len := 2) (r := (0, 0, 0, 0)) (pc' := 44) (ls' := [some (.inl (some 15)), some (.inl (some 22)), some (zi xp), some (zi y607), some (zi y610)]) (st' := [zi y610]) (by decide +kernel) (fun k q => by cases q) rfl ?_
          refine y_ic (c := (-1)) (len := 1) (r := (0, 0, 0, 0)) (by decide +kernel) (by decide) (fun y611 hy611 => ?_)
          refine y_cF (c := .eq) (off := 37) (len := 3) (r := (0, 0, 0, 0)) (by decide +kernel) (acmpF (c := .eq) (by show ¬ (_ = _); omega)) ?_
          refine y_same (i := .aload_n 0) (len := 1) (r := (0, 0, 0, 0)) (pc' := 49) (ls' := [some (.inl (some 15)), some (.inl (some 22)), some (zi xp), some (zi y607), some (zi y610)]) (st' := [.inl (some 15)]) (by decide +kernel) (fun k q => by cases q) rfl ?_
          refine y_same (i := .ldc 125) (len := 2) (r := (1, 4, 1030, 0)) (pc' := 51) (ls' := [some (.inl (some 15)), some (.inl (some 22)), some (zi xp), some (zi y607), some (zi y610)]) (st' := [.inl (some 2000004), .inl (some 15)]) (by decide +kernel) (fun k q => by cases q) rfl ?_
          refine y_cI (i := .invokevirtual 68) (len := 3) (r := (0, 55, 5, 1017)) (nL := 2) (k := 2) (n := 2) (hs := []) (args := [.inl (some 15), .inl (some 2000004)]) (rest := []) (l0 := [some (.inl (some 15)), some (.inl (some 2000004))]) (by decide +kernel) (Or.inr (Or.inl ⟨_, rfl⟩)) rfl rfl rfl rfl (Nat.le_of_ble_eq_true rfl) (zO O610.2.1 (tv15 O610.2.1) aw15 rfl) rfl (qI_le (by decide) (e_need4 O610.2.1 r610 (by omega))) (fun y612 h612 hRy612 => ?_)
          obtain ⟨τ612, O612, hD612⟩ := hRy612
          rcases hD612 with ⟨a612, e612, le612, hy612, r612⟩ | ⟨e612, hy612, f612⟩
          ·
            obtain ⟨⟨xn612y, hn612y, en612y⟩, ⟨xa612y, ha612y, ea612y⟩, hb612y, -⟩ := id r612
            refine y_iF (c := .eq) (off := 28) (len := 3) (r := (0, 0, 0, 0)) (by decide +kernel) (acmpF (c := .eq) (by show ¬ (_ = _); omega)) ?_
            refine y_same (i := .aload_n 0) (len := 1) (r := (0, 0, 0, 0)) (pc' := 58) (ls' := [some (.inl (some 15)), some (.inl (some 22)), some (zi xp), some (zi y607), some (zi y610)]) (st' := [.inl (some 15)]) (by decide +kernel) (fun k q => by cases q) rfl ?_
            refine y_same (i := .aload_n 1) (len := 1) (r := (0, 0, 0, 0)) (pc' := 59) (ls' := [some (.inl (some 15)), some (.inl (some 22)), some (zi xp), some (zi y607), some (zi y610)]) (st' := [.inl (some 22), .inl (some 15)]) (by decide +kernel) (fun k q => by cases q) rfl ?_
            have hv613 := (O606.2.2 22 1001 0 (tv22 hg) (show 22 ≠ 15 ∨ 0 < 3 by omega)).trans al.2.2.2.2.2.1
            have hv614 := (O607.2.2 22 1001 0 (tv22 O606.2.1) (show 22 ≠ 15 ∨ 0 < 3 by omega)).trans hv613
            have hv615 := (O609.2.2 22 1001 0 (tv22 O607.2.1) (show 22 ≠ 15 ∨ 0 < 3 by omega)).trans hv614
            have hv616 := (O610.2.2 22 1001 0 (tv22 O609.2.1) (show 22 ≠ 15 ∨ 0 < 3 by omega)).trans hv615
            have hv617 := (O612.2.2 22 1001 0 (tv22 O610.2.1) (show 22 ≠ 15 ∨ 0 < 3 by omega)).trans hv616
            refine y_get (j := 127) (len := 3) (r := (8, 0, 2, 20181)) (by decide +kernel) O612.2.1 (tv22 O612.2.1) aw1001 rfl rfl hv617 ?_
            refine y_ic (c := 5) (len := 1) (r := (0, 0, 0, 0)) (by decide +kernel) (by decide) (fun y618 hy618 => ?_)
            refine y_ic (c := 2) (len := 1) (r := (0, 0, 0, 0)) (by decide +kernel) (by decide) (fun y619 hy619 => ?_)
            refine y_same (i := .iload_n 3) (len := 1) (r := (0, 0, 0, 0)) (pc' := 65) (ls' := [some (.inl (some 15)), some (.inl (some 22)), some (zi xp), some (zi y607), some (zi y610)]) (st' := [zi y607, zi y619, zi y618, .inl (some 23), .inl (some 15)]) (by decide +kernel) (fun k q => by cases q) rfl ?_
            refine y_same (i := .iload 4) (len := 2) (r := (0, 0, 0, 0)) (pc' := 67) (ls' := [some (.inl (some 15)), some (.inl (some 22)), some (zi xp), some (zi y607), some (zi y610)]) (st' := [zi y610, zi y607, zi y619, zi y618, .inl (some 23), .inl (some 15)]) (by decide +kernel) (fun k q => by cases q) rfl ?_
            refine y_ic (c := 0) (len := 1) (r := (0, 0, 0, 0)) (by decide +kernel) (by decide) (fun y620 hy620 => ?_)
            refine y_cI (i := .invokestatic 131) (len := 3) (r := (3, 158, 11, 1031)) (nL := 4) (k := 1) (n := 4) (hs := []) (args := [zi y619, zi y607, zi y610, zi y620]) (rest := [zi y618, .inl (some 23), .inl (some 15)]) (l0 := [some (zi y619), some (zi y607), some (zi y610), some (zi y620)]) (by decide +kernel) (Or.inl ⟨_, rfl⟩) rfl rfl rfl rfl (Nat.le_of_ble_eq_true rfl) rfl rfl (e_packed (by omega) (by omega) (by omega) (by omega) (by omega) (by omega) (by omega) (by omega)) (fun y621 qy621 hRy621 => ?_)
            obtain ⟨rfl, hy621⟩ := hRy621
            have py621 : y621.toInt = pk (2, v607, v610, 0) := by
              rw [hy621]
              unfold pk
              simp only
              omega
            refine y_same (i := .iload_n 2) (len := 1) (r := (0, 0, 0, 0)) (pc' := 72) (ls' := [some (.inl (some 15)), some (.inl (some 22)), some (zi xp), some (zi y607), some (zi y610)]) (st' := [zi xp, zi y621, zi y618, .inl (some 23), .inl (some 15)]) (by decide +kernel) (fun k q => by cases q) rfl ?_
            have F622 : oF (fun k j => k ≠ 15 ∨ j < 3) τ h τ612 h612 := ⟨(aup_trans (aup_trans (aup_trans (aup_trans O606.1 O607.1) O609.1) O610.1) O612.1), O612.2.1, fun k T j hk (hC : k ≠ 15 ∨ j < 3) => ((O612.2.2 k T j (O610.1 _ _ (O609.1 _ _ (O607.1 _ _ (O606.1 _ _ hk)))) (show k ≠ 15 ∨ j < 3 by omega)).trans ((O610.2.2 k T j (O609.1 _ _ (O607.1 _ _ (O606.1 _ _ hk))) (show k ≠ 15 ∨ j < 3 by omega)).trans ((O609.2.2 k T j (O607.1 _ _ (O606.1 _ _ hk)) (show k ≠ 15 ∨ j < 3 by omega)).trans ((O607.2.2 k T j (O606.1 _ _ hk) (show k ≠ 15 ∨ j < 3 by omega)).trans (O606.2.2 k T j hk (show k ≠ 15 ∨ j < 3 by omega))))))⟩
            have al622 := alC_up5 hg al F622
            have rr622 := rwC_up rp (F622.2.2 23 1002 1 (tv23 hg) (show 23 ≠ 15 ∨ 1 < 3 by omega)) (fun j => F622.2.2 24 1005 j (tv24 hg) (show 24 ≠ 15 ∨ j < 3 by omega))
            refine y_cI (i := .invokevirtual 135) (len := 3) (r := (0, 53, 5, 1032)) (nL := 5) (k := 2) (n := 5) (hs := []) (args := [.inl (some 15), .inl (some 23), zi y618, zi y621, zi xp]) (rest := []) (l0 := [some (.inl (some 15)), some (.inl (some 23)), some (zi y618), some (zi y621), some (zi xp)]) (by decide +kernel) (Or.inr (Or.inl ⟨_, rfl⟩)) rfl rfl rfl rfl (Nat.le_of_ble_eq_true rfl) (zO O612.2.1 (tv15 O612.2.1) aw15 rfl) rfl (qI_le (by decide) (e_take23 (q := q) (i := (2, v607, v610, 0)) O612.2.1 al622 rr622 (by omega) py621 (by omega))) (fun y622 h622 hRy622 => ?_)
            obtain ⟨τ622, O622, hD622⟩ := hRy622
            rcases hD622 with ⟨l622, hy622, w622, v622⟩ | ⟨l622, hy622, f622⟩
            ·
              refine y_iF (c := .eq) (off := 7) (len := 3) (r := (0, 0, 0, 0)) (by decide +kernel) (acmpF (c := .eq) (by show ¬ (_ = _); omega)) ?_
              refine y_ic (c := 1) (len := 1) (r := (0, 0, 0, 0)) (by decide +kernel) (by decide) (fun y623 hy623 => ?_)
              refine y_goto (off := 4) (pc' := 83) (len := 3) (r := (0, 0, 0, 0)) (by decide +kernel) (by decide +kernel) ?_
              refine y_rI (len := 1) (r := (0, 0, 0, 0)) (nL := 5) (k := 2) (n9 := 3) (hs := []) (by decide +kernel) rfl (zfit_b (by omega) (by omega)).2 ?_
              have F : oF (fun k j => (k ≠ 15 ∨ j < 3) ∧ k ≠ 24 ∧ k ≠ 26 ∧ ((k ≠ 23 ∧ k ≠ 25) ∨ j ≠ 1)) τ h τ622 h622 := ⟨(aup_trans (aup_trans (aup_trans (aup_trans (aup_trans O606.1 O607.1) O609.1) O610.1) O612.1) O622.1), O622.2.1, fun k T j hk (hC : (k ≠ 15 ∨ j < 3) ∧ k ≠ 24 ∧ k ≠ 26 ∧ ((k ≠ 23 ∧ k ≠ 25) ∨ j ≠ 1)) => ((O622.2.2 k T j (O612.1 _ _ (O610.1 _ _ (O609.1 _ _ (O607.1 _ _ (O606.1 _ _ hk))))) (show k ≠ 24 ∧ (k ≠ 23 ∨ j ≠ 1) ∧ (k ≠ 15 ∨ j < 4) by omega)).trans ((O612.2.2 k T j (O610.1 _ _ (O609.1 _ _ (O607.1 _ _ (O606.1 _ _ hk)))) (show k ≠ 15 ∨ j < 3 by omega)).trans ((O610.2.2 k T j (O609.1 _ _ (O607.1 _ _ (O606.1 _ _ hk))) (show k ≠ 15 ∨ j < 3 by omega)).trans ((O609.2.2 k T j (O607.1 _ _ (O606.1 _ _ hk)) (show k ≠ 15 ∨ j < 3 by omega)).trans ((O607.2.2 k T j (O606.1 _ _ hk) (show k ≠ 15 ∨ j < 3 by omega)).trans (O606.2.2 k T j hk (show k ≠ 15 ∨ j < 3 by omega)))))))⟩
              have ew : wLst b n (a0, ps, cs) a q = .inr (a612, ps ++ [(2, v607, v610, 0)], cs) := by
                unfold wLst
                simp only [e606, e607, e609, e610, e612]
                unfold tkp
                exact if_neg (show ¬ ps.length = 5 by omega)
              exact ⟨_, F, Or.inl ⟨_, _, _, ew, by omega, by omega, (rdc_k r612 (O622.2.2 15 15 2 (tv15 O612.2.1) (show 15 ≠ 24 ∧ (15 ≠ 23 ∨ 2 ≠ 1) ∧ (15 ≠ 15 ∨ 2 < 4) by omega)) (O622.2.2 15 15 3 (tv15 O612.2.1) (show 15 ≠ 24 ∧ (15 ≠ 23 ∨ 3 ≠ 1) ∧ (15 ≠ 15 ∨ 3 < 4) by omega)) (fun j => O622.2.2 27 27 j (tv27 O612.2.1) (show 27 ≠ 24 ∧ (27 ≠ 23 ∨ j ≠ 1) ∧ (27 ≠ 15 ∨ j < 4) by omega)) v622), w622, rwC_up rc (((O622.2.2 25 1003 1 (tv25 O612.2.1) (show 25 ≠ 24 ∧ (25 ≠ 23 ∨ 1 ≠ 1) ∧ (25 ≠ 15 ∨ 1 < 4) by omega)).trans ((O612.2.2 25 1003 1 (tv25 O610.2.1) (show 25 ≠ 15 ∨ 1 < 3 by omega)).trans ((O610.2.2 25 1003 1 (tv25 O609.2.1) (show 25 ≠ 15 ∨ 1 < 3 by omega)).trans ((O609.2.2 25 1003 1 (tv25 O607.2.1) (show 25 ≠ 15 ∨ 1 < 3 by omega)).trans ((O607.2.2 25 1003 1 (tv25 O606.2.1) (show 25 ≠ 15 ∨ 1 < 3 by omega)).trans (O606.2.2 25 1003 1 (tv25 hg) (show 25 ≠ 15 ∨ 1 < 3 by omega)))))))) (fun j => ((O622.2.2 26 1006 j (tv26 O612.2.1) (show 26 ≠ 24 ∧ (26 ≠ 23 ∨ j ≠ 1) ∧ (26 ≠ 15 ∨ j < 4) by omega)).trans ((O612.2.2 26 1006 j (tv26 O610.2.1) (show 26 ≠ 15 ∨ j < 3 by omega)).trans ((O610.2.2 26 1006 j (tv26 O609.2.1) (show 26 ≠ 15 ∨ j < 3 by omega)).trans ((O609.2.2 26 1006 j (tv26 O607.2.1) (show 26 ≠ 15 ∨ j < 3 by omega)).trans ((O607.2.2 26 1006 j (tv26 O606.2.1) (show 26 ≠ 15 ∨ j < 3 by omega)).trans (O606.2.2 26 1006 j (tv26 hg) (show 26 ≠ 15 ∨ j < 3 by omega))))))))⟩⟩
            ·
              refine y_iT (c := .eq) (off := 7) (pc' := 82) (len := 3) (r := (0, 0, 0, 0)) (by decide +kernel) (acmpT (c := .eq) (by show _ = _; omega)) (by decide +kernel) ?_
              refine y_ic (c := 0) (len := 1) (r := (0, 0, 0, 0)) (by decide +kernel) (by decide) (fun y624 hy624 => ?_)
              refine y_rI (len := 1) (r := (0, 0, 0, 0)) (nL := 5) (k := 2) (n9 := 3) (hs := []) (by decide +kernel) rfl (zfit_b (by omega) (by omega)).2 ?_
              have F : oF (fun k j => (k ≠ 15 ∨ j < 3) ∧ k ≠ 24 ∧ k ≠ 26 ∧ ((k ≠ 23 ∧ k ≠ 25) ∨ j ≠ 1)) τ h τ622 h622 := ⟨(aup_trans (aup_trans (aup_trans (aup_trans (aup_trans O606.1 O607.1) O609.1) O610.1) O612.1) O622.1), O622.2.1, fun k T j hk (hC : (k ≠ 15 ∨ j < 3) ∧ k ≠ 24 ∧ k ≠ 26 ∧ ((k ≠ 23 ∧ k ≠ 25) ∨ j ≠ 1)) => ((O622.2.2 k T j (O612.1 _ _ (O610.1 _ _ (O609.1 _ _ (O607.1 _ _ (O606.1 _ _ hk))))) (show k ≠ 24 ∧ (k ≠ 23 ∨ j ≠ 1) ∧ (k ≠ 15 ∨ j < 4) by omega)).trans ((O612.2.2 k T j (O610.1 _ _ (O609.1 _ _ (O607.1 _ _ (O606.1 _ _ hk)))) (show k ≠ 15 ∨ j < 3 by omega)).trans ((O610.2.2 k T j (O609.1 _ _ (O607.1 _ _ (O606.1 _ _ hk))) (show k ≠ 15 ∨ j < 3 by omega)).trans ((O609.2.2 k T j (O607.1 _ _ (O606.1 _ _ hk)) (show k ≠ 15 ∨ j < 3 by omega)).trans ((O607.2.2 k T j (O606.1 _ _ hk) (show k ≠ 15 ∨ j < 3 by omega)).trans (O606.2.2 k T j hk (show k ≠ 15 ∨ j < 3 by omega)))))))⟩
              have ew : wLst b n (a0, ps, cs) a q = .inl (2, q) := by
                unfold wLst
                simp only [e606, e607, e609, e610, e612]
                unfold tkp
                exact if_pos (show ps.length = 5 by omega)
              exact ⟨_, F, Or.inr ⟨_, _, ew, by omega, f622⟩⟩
          ·
            refine y_iT (c := .eq) (off := 28) (pc' := 82) (len := 3) (r := (0, 0, 0, 0)) (by decide +kernel) (acmpT (c := .eq) (by show _ = _; omega)) (by decide +kernel) ?_
            refine y_ic (c := 0) (len := 1) (r := (0, 0, 0, 0)) (by decide +kernel) (by decide) (fun y625 hy625 => ?_)
            refine y_rI (len := 1) (r := (0, 0, 0, 0)) (nL := 5) (k := 2) (n9 := 3) (hs := []) (by decide +kernel) rfl (zfit_b (by omega) (by omega)).2 ?_
            have F : oF (fun k j => (k ≠ 15 ∨ j < 3) ∧ k ≠ 24 ∧ k ≠ 26 ∧ ((k ≠ 23 ∧ k ≠ 25) ∨ j ≠ 1)) τ h τ612 h612 := ⟨(aup_trans (aup_trans (aup_trans (aup_trans O606.1 O607.1) O609.1) O610.1) O612.1), O612.2.1, fun k T j hk (hC : (k ≠ 15 ∨ j < 3) ∧ k ≠ 24 ∧ k ≠ 26 ∧ ((k ≠ 23 ∧ k ≠ 25) ∨ j ≠ 1)) => ((O612.2.2 k T j (O610.1 _ _ (O609.1 _ _ (O607.1 _ _ (O606.1 _ _ hk)))) (show k ≠ 15 ∨ j < 3 by omega)).trans ((O610.2.2 k T j (O609.1 _ _ (O607.1 _ _ (O606.1 _ _ hk))) (show k ≠ 15 ∨ j < 3 by omega)).trans ((O609.2.2 k T j (O607.1 _ _ (O606.1 _ _ hk)) (show k ≠ 15 ∨ j < 3 by omega)).trans ((O607.2.2 k T j (O606.1 _ _ hk) (show k ≠ 15 ∨ j < 3 by omega)).trans (O606.2.2 k T j hk (show k ≠ 15 ∨ j < 3 by omega))))))⟩
            refine ⟨_, F, Or.inr ⟨_, _, (by unfold wLst; simp only [e606, e607, e609, e610, e612]), by omega, f612⟩⟩
        ·
          refine y_goto (off := 4) (pc' := 40) (len := 3) (r := (0, 0, 0, 0)) (by decide +kernel) (by decide +kernel) ?_
          refine y_same (i := .istore 4) (len := 2) (r := (0, 0, 0, 0)) (pc' := 42) (ls' := [some (.inl (some 15)), some (.inl (some 22)), some (zi xp), some (zi y607), some (zi y610)]) (st' := []) (by decide +kernel) (fun k q => by cases q) rfl ?_
          refine y_same (i := .iload 4) (len := 2) (r := (0, 0, 0, 0)) (pc' := 44) (ls' := [some (.inl (some 15)), some (.inl (some 22)), some (zi xp), some (zi y607), some (zi y610)]) (st' := [zi y610]) (by decide +kernel) (fun k q => by cases q) rfl ?_
          refine y_ic (c := (-1)) (len := 1) (r := (0, 0, 0, 0)) (by decide +kernel) (by decide) (fun y626 hy626 => ?_)
          refine y_cT (c := .eq) (off := 37) (pc' := 82) (len := 3) (r := (0, 0, 0, 0)) (by decide +kernel) (acmpT (c := .eq) (by show _ = _; omega)) (by decide +kernel) ?_
          refine y_ic (c := 0) (len := 1) (r := (0, 0, 0, 0)) (by decide +kernel) (by decide) (fun y627 hy627 => ?_)
          refine y_rI (len := 1) (r := (0, 0, 0, 0)) (nL := 5) (k := 2) (n9 := 3) (hs := []) (by decide +kernel) rfl (zfit_b (by omega) (by omega)).2 ?_
          have F : oF (fun k j => (k ≠ 15 ∨ j < 3) ∧ k ≠ 24 ∧ k ≠ 26 ∧ ((k ≠ 23 ∧ k ≠ 25) ∨ j ≠ 1)) τ h τ610 h610 := ⟨(aup_trans (aup_trans (aup_trans O606.1 O607.1) O609.1) O610.1), O610.2.1, fun k T j hk (hC : (k ≠ 15 ∨ j < 3) ∧ k ≠ 24 ∧ k ≠ 26 ∧ ((k ≠ 23 ∧ k ≠ 25) ∨ j ≠ 1)) => ((O610.2.2 k T j (O609.1 _ _ (O607.1 _ _ (O606.1 _ _ hk))) (show k ≠ 15 ∨ j < 3 by omega)).trans ((O609.2.2 k T j (O607.1 _ _ (O606.1 _ _ hk)) (show k ≠ 15 ∨ j < 3 by omega)).trans ((O607.2.2 k T j (O606.1 _ _ hk) (show k ≠ 15 ∨ j < 3 by omega)).trans (O606.2.2 k T j hk (show k ≠ 15 ∨ j < 3 by omega)))))⟩
          refine ⟨_, F, Or.inr ⟨_, _, (by unfold wLst; simp only [e606, e607, e609, e610]), by omega, f610⟩⟩
      ·
        refine y_iT (c := .eq) (off := 10) (pc' := 39) (len := 3) (r := (0, 0, 0, 0)) (by decide +kernel) (acmpT (c := .eq) (by show _ = _; omega)) (by decide +kernel) ?_
        refine y_ic (c := (-1)) (len := 1) (r := (0, 0, 0, 0)) (by decide +kernel) (by decide) (fun y628 hy628 => ?_)
        refine y_same (i := .istore 4) (len := 2) (r := (0, 0, 0, 0)) (pc' := 42) (ls' := [some (.inl (some 15)), some (.inl (some 22)), some (zi xp), some (zi y607), some (zi y628)]) (st' := []) (by decide +kernel) (fun k q => by cases q) rfl ?_
        refine y_same (i := .iload 4) (len := 2) (r := (0, 0, 0, 0)) (pc' := 44) (ls' := [some (.inl (some 15)), some (.inl (some 22)), some (zi xp), some (zi y607), some (zi y628)]) (st' := [zi y628]) (by decide +kernel) (fun k q => by cases q) rfl ?_
        refine y_ic (c := (-1)) (len := 1) (r := (0, 0, 0, 0)) (by decide +kernel) (by decide) (fun y629 hy629 => ?_)
        refine y_cT (c := .eq) (off := 37) (pc' := 82) (len := 3) (r := (0, 0, 0, 0)) (by decide +kernel) (acmpT (c := .eq) (by show _ = _; omega)) (by decide +kernel) ?_
        refine y_ic (c := 0) (len := 1) (r := (0, 0, 0, 0)) (by decide +kernel) (by decide) (fun y630 hy630 => ?_)
        refine y_rI (len := 1) (r := (0, 0, 0, 0)) (nL := 5) (k := 2) (n9 := 3) (hs := []) (by decide +kernel) rfl (zfit_b (by omega) (by omega)).2 ?_
        have F : oF (fun k j => (k ≠ 15 ∨ j < 3) ∧ k ≠ 24 ∧ k ≠ 26 ∧ ((k ≠ 23 ∧ k ≠ 25) ∨ j ≠ 1)) τ h τ609 h609 := ⟨(aup_trans (aup_trans O606.1 O607.1) O609.1), O609.2.1, fun k T j hk (hC : (k ≠ 15 ∨ j < 3) ∧ k ≠ 24 ∧ k ≠ 26 ∧ ((k ≠ 23 ∧ k ≠ 25) ∨ j ≠ 1)) => ((O609.2.2 k T j (O607.1 _ _ (O606.1 _ _ hk)) (show k ≠ 15 ∨ j < 3 by omega)).trans ((O607.2.2 k T j (O606.1 _ _ hk) (show k ≠ 15 ∨ j < 3 by omega)).trans (O606.2.2 k T j hk (show k ≠ 15 ∨ j < 3 by omega))))⟩
        refine ⟨_, F, Or.inr ⟨_, _, (by unfold wLst; simp only [e606, e607, e609]), by omega, f609⟩⟩
    ·
      refine y_goto (off := 4) (pc' := 17) (len := 3) (r := (0, 0, 0, 0)) (by decide +kernel) (by decide +kernel) ?_
      refine y_same (i := .istore_n 3) (len := 1) (r := (0, 0, 0, 0)) (pc' := 18) (ls' := [some (.inl (some 15)), some (.inl (some 22)), some (zi xp), some (zi y607), none]) (st' := []) (by decide +kernel) (fun k q => by cases q) rfl ?_
      refine y_same (i := .iload_n 3) (len := 1) (r := (0, 0, 0, 0)) (pc' := 19) (ls' := [some (.inl (some 15)), some (.inl (some 22)), some (zi xp), some (zi y607), none]) (st' := [zi y607]) (by decide +kernel) (fun k q => by cases q) rfl ?_
      refine y_ic (c := (-1)) (len := 1) (r := (0, 0, 0, 0)) (by decide +kernel) (by decide) (fun y631 hy631 => ?_)
      refine y_cT (c := .eq) (off := 19) (pc' := 39) (len := 3) (r := (0, 0, 0, 0)) (by decide +kernel) (acmpT (c := .eq) (by show _ = _; omega)) (by decide +kernel) ?_
      refine y_ic (c := (-1)) (len := 1) (r := (0, 0, 0, 0)) (by decide +kernel) (by decide) (fun y632 hy632 => ?_)
      refine y_same (i := .istore 4) (len := 2) (r := (0, 0, 0, 0)) (pc' := 42) (ls' := [some (.inl (some 15)), some (.inl (some 22)), some (zi xp), some (zi y607), some (zi y632)]) (st' := []) (by decide +kernel) (fun k q => by cases q) rfl ?_
      refine y_same (i := .iload 4) (len := 2) (r := (0, 0, 0, 0)) (pc' := 44) (ls' := [some (.inl (some 15)), some (.inl (some 22)), some (zi xp), some (zi y607), some (zi y632)]) (st' := [zi y632]) (by decide +kernel) (fun k q => by cases q) rfl ?_
      refine y_ic (c := (-1)) (len := 1) (r := (0, 0, 0, 0)) (by decide +kernel) (by decide) (fun y633 hy633 => ?_)
      refine y_cT (c := .eq) (off := 37) (pc' := 82) (len := 3) (r := (0, 0, 0, 0)) (by decide +kernel) (acmpT (c := .eq) (by show _ = _; omega)) (by decide +kernel) ?_
      refine y_ic (c := 0) (len := 1) (r := (0, 0, 0, 0)) (by decide +kernel) (by decide) (fun y634 hy634 => ?_)
      refine y_rI (len := 1) (r := (0, 0, 0, 0)) (nL := 5) (k := 2) (n9 := 3) (hs := []) (by decide +kernel) rfl (zfit_b (by omega) (by omega)).2 ?_
      have F : oF (fun k j => (k ≠ 15 ∨ j < 3) ∧ k ≠ 24 ∧ k ≠ 26 ∧ ((k ≠ 23 ∧ k ≠ 25) ∨ j ≠ 1)) τ h τ607 h607 := ⟨(aup_trans O606.1 O607.1), O607.2.1, fun k T j hk (hC : (k ≠ 15 ∨ j < 3) ∧ k ≠ 24 ∧ k ≠ 26 ∧ ((k ≠ 23 ∧ k ≠ 25) ∨ j ≠ 1)) => ((O607.2.2 k T j (O606.1 _ _ hk) (show k ≠ 15 ∨ j < 3 by omega)).trans (O606.2.2 k T j hk (show k ≠ 15 ∨ j < 3 by omega)))⟩
      refine ⟨_, F, Or.inr ⟨_, _, (by unfold wLst; simp only [e606, e607]), by omega, f607⟩⟩
  ·
    refine y_iT (c := .eq) (off := 10) (pc' := 16) (len := 3) (r := (0, 0, 0, 0)) (by decide +kernel) (acmpT (c := .eq) (by show _ = _; omega)) (by decide +kernel) ?_
    refine y_ic (c := (-1)) (len := 1) (r := (0, 0, 0, 0)) (by decide +kernel) (by decide) (fun y635 hy635 => ?_)
    refine y_same (i := .istore_n 3) (len := 1) (r := (0, 0, 0, 0)) (pc' := 18) (ls' := [some (.inl (some 15)), some (.inl (some 22)), some (zi xp), some (zi y635), none]) (st' := []) (by decide +kernel) (fun k q => by cases q) rfl ?_
    refine y_same (i := .iload_n 3) (len := 1) (r := (0, 0, 0, 0)) (pc' := 19) (ls' := [some (.inl (some 15)), some (.inl (some 22)), some (zi xp), some (zi y635), none]) (st' := [zi y635]) (by decide +kernel) (fun k q => by cases q) rfl ?_
    refine y_ic (c := (-1)) (len := 1) (r := (0, 0, 0, 0)) (by decide +kernel) (by decide) (fun y636 hy636 => ?_)
    refine y_cT (c := .eq) (off := 19) (pc' := 39) (len := 3) (r := (0, 0, 0, 0)) (by decide +kernel) (acmpT (c := .eq) (by show _ = _; omega)) (by decide +kernel) ?_
    refine y_ic (c := (-1)) (len := 1) (r := (0, 0, 0, 0)) (by decide +kernel) (by decide) (fun y637 hy637 => ?_)
    refine y_same (i := .istore 4) (len := 2) (r := (0, 0, 0, 0)) (pc' := 42) (ls' := [some (.inl (some 15)), some (.inl (some 22)), some (zi xp), some (zi y635), some (zi y637)]) (st' := []) (by decide +kernel) (fun k q => by cases q) rfl ?_
    refine y_same (i := .iload 4) (len := 2) (r := (0, 0, 0, 0)) (pc' := 44) (ls' := [some (.inl (some 15)), some (.inl (some 22)), some (zi xp), some (zi y635), some (zi y637)]) (st' := [zi y637]) (by decide +kernel) (fun k q => by cases q) rfl ?_
    refine y_ic (c := (-1)) (len := 1) (r := (0, 0, 0, 0)) (by decide +kernel) (by decide) (fun y638 hy638 => ?_)
    refine y_cT (c := .eq) (off := 37) (pc' := 82) (len := 3) (r := (0, 0, 0, 0)) (by decide +kernel) (acmpT (c := .eq) (by show _ = _; omega)) (by decide +kernel) ?_
    refine y_ic (c := 0) (len := 1) (r := (0, 0, 0, 0)) (by decide +kernel) (by decide) (fun y639 hy639 => ?_)
    refine y_rI (len := 1) (r := (0, 0, 0, 0)) (nL := 5) (k := 2) (n9 := 3) (hs := []) (by decide +kernel) rfl (zfit_b (by omega) (by omega)).2 ?_
    have F : oF (fun k j => (k ≠ 15 ∨ j < 3) ∧ k ≠ 24 ∧ k ≠ 26 ∧ ((k ≠ 23 ∧ k ≠ 25) ∨ j ≠ 1)) τ h τ606 h606 := ⟨O606.1, O606.2.1, fun k T j hk (hC : (k ≠ 15 ∨ j < 3) ∧ k ≠ 24 ∧ k ≠ 26 ∧ ((k ≠ 23 ∧ k ≠ 25) ∨ j ≠ 1)) => (O606.2.2 k T j hk (show k ≠ 15 ∨ j < 3 by omega))⟩
    refine ⟨_, F, Or.inr ⟨_, _, (by unfold wLst; simp only [e606]), by omega, f606⟩⟩
theorem e_tree1 {t n a q a0 : Nat} {b : Nat → Int} {τ : List Nat} {h : zh} {ps cs : List it4} {xp : Int32} (hg : hG τ h) (al : alC h) (rd : rdC h n a b) (han : a ≤ n) (rp : rwC h 23 24 ps) (rc : rwC h 25 26 cs) (hq : xp.toInt = (q : Int)) : qI 12 50 [some (.inl (some 15)), some (.inl (some 22)), some (zi xp), none] h t (itR1 n b τ h (wTre b n (a0, ps, cs) a q)) := by
  obtain ⟨⟨xn, hn, en⟩, ⟨xa, ha, ea⟩, hb, hn2⟩ := id rd
  refine qI_of ?_
  refine y_same (i := .aload_n 0) (len := 1) (r := (0, 0, 0, 0)) (pc' := 1) (ls' := [some (.inl (some 15)), some (.inl (some 22)), some (zi xp), none]) (st' := [.inl (some 15)]) (by decide +kernel) (fun k q => by cases q) rfl ?_
  refine y_same (i := .ldc 121) (len := 2) (r := (1, 2, 1016, 0)) (pc' := 3) (ls' := [some (.inl (some 15)), some (.inl (some 22)), some (zi xp), none]) (st' := [.inl (some 2000002), .inl (some 15)]) (by decide +kernel) (fun k q => by cases q) rfl ?_
  refine y_cI (i := .invokevirtual 68) (len := 3) (r := (0, 55, 5, 1017)) (nL := 2) (k := 2) (n := 2) (hs := []) (args := [.inl (some 15), .inl (some 2000002)]) (rest := []) (l0 := [some (.inl (some 15)), some (.inl (some 2000002))]) (by decide +kernel) (Or.inr (Or.inl ⟨_, rfl⟩)) rfl rfl rfl rfl (Nat.le_of_ble_eq_true rfl) (zO hg (tv15 hg) aw15 rfl) rfl (qI_le (by decide) (e_need2 hg rd (by omega))) (fun y640 h640 hRy640 => ?_)
  obtain ⟨τ640, O640, hD640⟩ := hRy640
  rcases hD640 with ⟨a640, e640, le640, hy640, r640⟩ | ⟨e640, hy640, f640⟩
  ·
    obtain ⟨⟨xn640y, hn640y, en640y⟩, ⟨xa640y, ha640y, ea640y⟩, hb640y, -⟩ := id r640
    refine y_iF (c := .eq) (off := 10) (len := 3) (r := (0, 0, 0, 0)) (by decide +kernel) (acmpF (c := .eq) (by show ¬ (_ = _); omega)) ?_
    refine y_same (i := .aload_n 0) (len := 1) (r := (0, 0, 0, 0)) (pc' := 10) (ls' := [some (.inl (some 15)), some (.inl (some 22)), some (zi xp), none]) (st' := [.inl (some 15)]) (by decide +kernel) (fun k q => by cases q) rfl ?_
    refine y_cI (i := .invokevirtual 103) (len := 3) (r := (0, 54, 5, 1025)) (nL := 3) (k := 1) (n := 1) (hs := []) (args := [.inl (some 15)]) (rest := []) (l0 := [some (.inl (some 15)), none, none]) (by decide +kernel) (Or.inr (Or.inl ⟨_, rfl⟩)) rfl rfl rfl rfl (Nat.le_of_ble_eq_true rfl) (zO O640.2.1 (tv15 O640.2.1) aw15 rfl) rfl (qI_le (by decide) (e_var O640.2.1 r640 (by omega))) (fun y641 h641 hRy641 => ?_)
    obtain ⟨τ641, O641, hD641⟩ := hRy641
    rcases hD641 with ⟨v641, a641, e641, le641, hy641, lv641, uv641, r641⟩ | ⟨q641, e641, hy641, f641⟩
    ·
      obtain ⟨⟨xn641y, hn641y, en641y⟩, ⟨xa641y, ha641y, ea641y⟩, hb641y, -⟩ := id r641
      refine y_goto (off := 4) (pc' := 17) (len := 3) (r := (0, 0, 0, 0)) (by decide +kernel) (by decide +kernel) ?_
      refine y_same (i := .istore_n 3) (len := 1) (r := (0, 0, 0, 0)) (pc' := 18) (ls' := [some (.inl (some 15)), some (.inl (some 22)), some (zi xp), some (zi y641)]) (st' := []) (by decide +kernel) (fun k q => by cases q) rfl ?_
      refine y_same (i := .iload_n 3) (len := 1) (r := (0, 0, 0, 0)) (pc' := 19) (ls' := [some (.inl (some 15)), some (.inl (some 22)), some (zi xp), some (zi y641)]) (st' := [zi y641]) (by decide +kernel) (fun k q => by cases q) rfl ?_
      refine y_ic (c := (-1)) (len := 1) (r := (0, 0, 0, 0)) (by decide +kernel) (by decide) (fun y642 hy642 => ?_)
      refine y_cF (c := .eq) (off := 36) (len := 3) (r := (0, 0, 0, 0)) (by decide +kernel) (acmpF (c := .eq) (by show ¬ (_ = _); omega)) ?_
      refine y_same (i := .aload_n 0) (len := 1) (r := (0, 0, 0, 0)) (pc' := 24) (ls' := [some (.inl (some 15)), some (.inl (some 22)), some (zi xp), some (zi y641)]) (st' := [.inl (some 15)]) (by decide +kernel) (fun k q => by cases q) rfl ?_
      refine y_same (i := .ldc 125) (len := 2) (r := (1, 4, 1030, 0)) (pc' := 26) (ls' := [some (.inl (some 15)), some (.inl (some 22)), some (zi xp), some (zi y641)]) (st' := [.inl (some 2000004), .inl (some 15)]) (by decide +kernel) (fun k q => by cases q) rfl ?_
      refine y_cI (i := .invokevirtual 68) (len := 3) (r := (0, 55, 5, 1017)) (nL := 2) (k := 2) (n := 2) (hs := []) (args := [.inl (some 15), .inl (some 2000004)]) (rest := []) (l0 := [some (.inl (some 15)), some (.inl (some 2000004))]) (by decide +kernel) (Or.inr (Or.inl ⟨_, rfl⟩)) rfl rfl rfl rfl (Nat.le_of_ble_eq_true rfl) (zO O641.2.1 (tv15 O641.2.1) aw15 rfl) rfl (qI_le (by decide) (e_need4 O641.2.1 r641 (by omega))) (fun y643 h643 hRy643 => ?_)
      obtain ⟨τ643, O643, hD643⟩ := hRy643
      rcases hD643 with ⟨a643, e643, le643, hy643, r643⟩ | ⟨e643, hy643, f643⟩
      ·
        obtain ⟨⟨xn643y, hn643y, en643y⟩, ⟨xa643y, ha643y, ea643y⟩, hb643y, -⟩ := id r643
        refine y_iF (c := .eq) (off := 27) (len := 3) (r := (0, 0, 0, 0)) (by decide +kernel) (acmpF (c := .eq) (by show ¬ (_ = _); omega)) ?_
        refine y_same (i := .aload_n 0) (len := 1) (r := (0, 0, 0, 0)) (pc' := 33) (ls' := [some (.inl (some 15)), some (.inl (some 22)), some (zi xp), some (zi y641)]) (st' := [.inl (some 15)]) (by decide +kernel) (fun k q => by cases q) rfl ?_
        refine y_same (i := .aload_n 1) (len := 1) (r := (0, 0, 0, 0)) (pc' := 34) (ls' := [some (.inl (some 15)), some (.inl (some 22)), some (zi xp), some (zi y641)]) (st' := [.inl (some 22), .inl (some 15)]) (by decide +kernel) (fun k q => by cases q) rfl ?_
        have hv644 := (O640.2.2 22 1001 0 (tv22 hg) (show 22 ≠ 15 ∨ 0 < 3 by omega)).trans al.2.2.2.2.2.1
        have hv645 := (O641.2.2 22 1001 0 (tv22 O640.2.1) (show 22 ≠ 15 ∨ 0 < 3 by omega)).trans hv644
        have hv646 := (O643.2.2 22 1001 0 (tv22 O641.2.1) (show 22 ≠ 15 ∨ 0 < 3 by omega)).trans hv645
        refine y_get (j := 127) (len := 3) (r := (8, 0, 2, 20181)) (by decide +kernel) O643.2.1 (tv22 O643.2.1) aw1001 rfl rfl hv646 ?_
        refine y_ic (c := 5) (len := 1) (r := (0, 0, 0, 0)) (by decide +kernel) (by decide) (fun y647 hy647 => ?_)
        refine y_ic (c := 3) (len := 1) (r := (0, 0, 0, 0)) (by decide +kernel) (by decide) (fun y648 hy648 => ?_)
        refine y_same (i := .iload_n 3) (len := 1) (r := (0, 0, 0, 0)) (pc' := 40) (ls' := [some (.inl (some 15)), some (.inl (some 22)), some (zi xp), some (zi y641)]) (st' := [zi y641, zi y648, zi y647, .inl (some 23), .inl (some 15)]) (by decide +kernel) (fun k q => by cases q) rfl ?_
        refine y_ic (c := 0) (len := 1) (r := (0, 0, 0, 0)) (by decide +kernel) (by decide) (fun y649 hy649 => ?_)
        refine y_ic (c := 0) (len := 1) (r := (0, 0, 0, 0)) (by decide +kernel) (by decide) (fun y650 hy650 => ?_)
        refine y_cI (i := .invokestatic 131) (len := 3) (r := (3, 158, 11, 1031)) (nL := 4) (k := 1) (n := 4) (hs := []) (args := [zi y648, zi y641, zi y649, zi y650]) (rest := [zi y647, .inl (some 23), .inl (some 15)]) (l0 := [some (zi y648), some (zi y641), some (zi y649), some (zi y650)]) (by decide +kernel) (Or.inl ⟨_, rfl⟩) rfl rfl rfl rfl (Nat.le_of_ble_eq_true rfl) rfl rfl (e_packed (by omega) (by omega) (by omega) (by omega) (by omega) (by omega) (by omega) (by omega)) (fun y651 qy651 hRy651 => ?_)
        obtain ⟨rfl, hy651⟩ := hRy651
        have py651 : y651.toInt = pk (3, v641, 0, 0) := by
          rw [hy651]
          unfold pk
          simp only
          omega
        refine y_same (i := .iload_n 2) (len := 1) (r := (0, 0, 0, 0)) (pc' := 46) (ls' := [some (.inl (some 15)), some (.inl (some 22)), some (zi xp), some (zi y641)]) (st' := [zi xp, zi y651, zi y647, .inl (some 23), .inl (some 15)]) (by decide +kernel) (fun k q => by cases q) rfl ?_
        have F652 : oF (fun k j => k ≠ 15 ∨ j < 3) τ h τ643 h643 := ⟨(aup_trans (aup_trans O640.1 O641.1) O643.1), O643.2.1, fun k T j hk (hC : k ≠ 15 ∨ j < 3) => ((O643.2.2 k T j (O641.1 _ _ (O640.1 _ _ hk)) (show k ≠ 15 ∨ j < 3 by omega)).trans ((O641.2.2 k T j (O640.1 _ _ hk) (show k ≠ 15 ∨ j < 3 by omega)).trans (O640.2.2 k T j hk (show k ≠ 15 ∨ j < 3 by omega))))⟩
        have al652 := alC_up5 hg al F652
        have rr652 := rwC_up rp (F652.2.2 23 1002 1 (tv23 hg) (show 23 ≠ 15 ∨ 1 < 3 by omega)) (fun j => F652.2.2 24 1005 j (tv24 hg) (show 24 ≠ 15 ∨ j < 3 by omega))
        refine y_cI (i := .invokevirtual 135) (len := 3) (r := (0, 53, 5, 1032)) (nL := 5) (k := 2) (n := 5) (hs := []) (args := [.inl (some 15), .inl (some 23), zi y647, zi y651, zi xp]) (rest := []) (l0 := [some (.inl (some 15)), some (.inl (some 23)), some (zi y647), some (zi y651), some (zi xp)]) (by decide +kernel) (Or.inr (Or.inl ⟨_, rfl⟩)) rfl rfl rfl rfl (Nat.le_of_ble_eq_true rfl) (zO O643.2.1 (tv15 O643.2.1) aw15 rfl) rfl (qI_le (by decide) (e_take23 (q := q) (i := (3, v641, 0, 0)) O643.2.1 al652 rr652 (by omega) py651 (by omega))) (fun y652 h652 hRy652 => ?_)
        obtain ⟨τ652, O652, hD652⟩ := hRy652
        rcases hD652 with ⟨l652, hy652, w652, v652⟩ | ⟨l652, hy652, f652⟩
        ·
          refine y_iF (c := .eq) (off := 7) (len := 3) (r := (0, 0, 0, 0)) (by decide +kernel) (acmpF (c := .eq) (by show ¬ (_ = _); omega)) ?_
          refine y_ic (c := 1) (len := 1) (r := (0, 0, 0, 0)) (by decide +kernel) (by decide) (fun y653 hy653 => ?_)
          refine y_goto (off := 4) (pc' := 57) (len := 3) (r := (0, 0, 0, 0)) (by decide +kernel) (by decide +kernel) ?_
          refine y_rI (len := 1) (r := (0, 0, 0, 0)) (nL := 4) (k := 2) (n9 := 3) (hs := []) (by decide +kernel) rfl (zfit_b (by omega) (by omega)).2 ?_
          have F : oF (fun k j => (k ≠ 15 ∨ j < 3) ∧ k ≠ 24 ∧ k ≠ 26 ∧ ((k ≠ 23 ∧ k ≠ 25) ∨ j ≠ 1)) τ h τ652 h652 := ⟨(aup_trans (aup_trans (aup_trans O640.1 O641.1) O643.1) O652.1), O652.2.1, fun k T j hk (hC : (k ≠ 15 ∨ j < 3) ∧ k ≠ 24 ∧ k ≠ 26 ∧ ((k ≠ 23 ∧ k ≠ 25) ∨ j ≠ 1)) => ((O652.2.2 k T j (O643.1 _ _ (O641.1 _ _ (O640.1 _ _ hk))) (show k ≠ 24 ∧ (k ≠ 23 ∨ j ≠ 1) ∧ (k ≠ 15 ∨ j < 4) by omega)).trans ((O643.2.2 k T j (O641.1 _ _ (O640.1 _ _ hk)) (show k ≠ 15 ∨ j < 3 by omega)).trans ((O641.2.2 k T j (O640.1 _ _ hk) (show k ≠ 15 ∨ j < 3 by omega)).trans (O640.2.2 k T j hk (show k ≠ 15 ∨ j < 3 by omega)))))⟩
          have ew : wTre b n (a0, ps, cs) a q = .inr (a643, ps ++ [(3, v641, 0, 0)], cs) := by
            unfold wTre
            simp only [e640, e641, e643]
            unfold tkp
            exact if_neg (show ¬ ps.length = 5 by omega)
          exact ⟨_, F, Or.inl ⟨_, _, _, ew, by omega, by omega, (rdc_k r643 (O652.2.2 15 15 2 (tv15 O643.2.1) (show 15 ≠ 24 ∧ (15 ≠ 23 ∨ 2 ≠ 1) ∧ (15 ≠ 15 ∨ 2 < 4) by omega)) (O652.2.2 15 15 3 (tv15 O643.2.1) (show 15 ≠ 24 ∧ (15 ≠ 23 ∨ 3 ≠ 1) ∧ (15 ≠ 15 ∨ 3 < 4) by omega)) (fun j => O652.2.2 27 27 j (tv27 O643.2.1) (show 27 ≠ 24 ∧ (27 ≠ 23 ∨ j ≠ 1) ∧ (27 ≠ 15 ∨ j < 4) by omega)) v652), w652, rwC_up rc (((O652.2.2 25 1003 1 (tv25 O643.2.1) (show 25 ≠ 24 ∧ (25 ≠ 23 ∨ 1 ≠ 1) ∧ (25 ≠ 15 ∨ 1 < 4) by omega)).trans ((O643.2.2 25 1003 1 (tv25 O641.2.1) (show 25 ≠ 15 ∨ 1 < 3 by omega)).trans ((O641.2.2 25 1003 1 (tv25 O640.2.1) (show 25 ≠ 15 ∨ 1 < 3 by omega)).trans (O640.2.2 25 1003 1 (tv25 hg) (show 25 ≠ 15 ∨ 1 < 3 by omega)))))) (fun j => ((O652.2.2 26 1006 j (tv26 O643.2.1) (show 26 ≠ 24 ∧ (26 ≠ 23 ∨ j ≠ 1) ∧ (26 ≠ 15 ∨ j < 4) by omega)).trans ((O643.2.2 26 1006 j (tv26 O641.2.1) (show 26 ≠ 15 ∨ j < 3 by omega)).trans ((O641.2.2 26 1006 j (tv26 O640.2.1) (show 26 ≠ 15 ∨ j < 3 by omega)).trans (O640.2.2 26 1006 j (tv26 hg) (show 26 ≠ 15 ∨ j < 3 by omega))))))⟩⟩
        ·
          refine y_iT (c := .eq) (off := 7) (pc' := 56) (len := 3) (r := (0, 0, 0, 0)) (by decide +kernel) (acmpT (c := .eq) (by show _ = _; omega)) (by decide +kernel) ?_
          refine y_ic (c := 0) (len := 1) (r := (0, 0, 0, 0)) (by decide +kernel) (by decide) (fun y654 hy654 => ?_)
          refine y_rI (len := 1) (r := (0, 0, 0, 0)) (nL := 4) (k := 2) (n9 := 3) (hs := []) (by decide +kernel) rfl (zfit_b (by omega) (by omega)).2 ?_
          have F : oF (fun k j => (k ≠ 15 ∨ j < 3) ∧ k ≠ 24 ∧ k ≠ 26 ∧ ((k ≠ 23 ∧ k ≠ 25) ∨ j ≠ 1)) τ h τ652 h652 := ⟨(aup_trans (aup_trans (aup_trans O640.1 O641.1) O643.1) O652.1), O652.2.1, fun k T j hk (hC : (k ≠ 15 ∨ j < 3) ∧ k ≠ 24 ∧ k ≠ 26 ∧ ((k ≠ 23 ∧ k ≠ 25) ∨ j ≠ 1)) => ((O652.2.2 k T j (O643.1 _ _ (O641.1 _ _ (O640.1 _ _ hk))) (show k ≠ 24 ∧ (k ≠ 23 ∨ j ≠ 1) ∧ (k ≠ 15 ∨ j < 4) by omega)).trans ((O643.2.2 k T j (O641.1 _ _ (O640.1 _ _ hk)) (show k ≠ 15 ∨ j < 3 by omega)).trans ((O641.2.2 k T j (O640.1 _ _ hk) (show k ≠ 15 ∨ j < 3 by omega)).trans (O640.2.2 k T j hk (show k ≠ 15 ∨ j < 3 by omega)))))⟩
          have ew : wTre b n (a0, ps, cs) a q = .inl (2, q) := by
            unfold wTre
            simp only [e640, e641, e643]
            unfold tkp
            exact if_pos (show ps.length = 5 by omega)
          exact ⟨_, F, Or.inr ⟨_, _, ew, by omega, f652⟩⟩
      ·
        refine y_iT (c := .eq) (off := 27) (pc' := 56) (len := 3) (r := (0, 0, 0, 0)) (by decide +kernel) (acmpT (c := .eq) (by show _ = _; omega)) (by decide +kernel) ?_
        refine y_ic (c := 0) (len := 1) (r := (0, 0, 0, 0)) (by decide +kernel) (by decide) (fun y655 hy655 => ?_)
        refine y_rI (len := 1) (r := (0, 0, 0, 0)) (nL := 4) (k := 2) (n9 := 3) (hs := []) (by decide +kernel) rfl (zfit_b (by omega) (by omega)).2 ?_
        have F : oF (fun k j => (k ≠ 15 ∨ j < 3) ∧ k ≠ 24 ∧ k ≠ 26 ∧ ((k ≠ 23 ∧ k ≠ 25) ∨ j ≠ 1)) τ h τ643 h643 := ⟨(aup_trans (aup_trans O640.1 O641.1) O643.1), O643.2.1, fun k T j hk (hC : (k ≠ 15 ∨ j < 3) ∧ k ≠ 24 ∧ k ≠ 26 ∧ ((k ≠ 23 ∧ k ≠ 25) ∨ j ≠ 1)) => ((O643.2.2 k T j (O641.1 _ _ (O640.1 _ _ hk)) (show k ≠ 15 ∨ j < 3 by omega)).trans ((O641.2.2 k T j (O640.1 _ _ hk) (show k ≠ 15 ∨ j < 3 by omega)).trans (O640.2.2 k T j hk (show k ≠ 15 ∨ j < 3 by omega))))⟩
        refine ⟨_, F, Or.inr ⟨_, _, (by unfold wTre; simp only [e640, e641, e643]), by omega, f643⟩⟩
    ·
      refine y_goto (off := 4) (pc' := 17) (len := 3) (r := (0, 0, 0, 0)) (by decide +kernel) (by decide +kernel) ?_
      refine y_same (i := .istore_n 3) (len := 1) (r := (0, 0, 0, 0)) (pc' := 18) (ls' := [some (.inl (some 15)), some (.inl (some 22)), some (zi xp), some (zi y641)]) (st' := []) (by decide +kernel) (fun k q => by cases q) rfl ?_
      refine y_same (i := .iload_n 3) (len := 1) (r := (0, 0, 0, 0)) (pc' := 19) (ls' := [some (.inl (some 15)), some (.inl (some 22)), some (zi xp), some (zi y641)]) (st' := [zi y641]) (by decide +kernel) (fun k q => by cases q) rfl ?_
      refine y_ic (c := (-1)) (len := 1) (r := (0, 0, 0, 0)) (by decide +kernel) (by decide) (fun y656 hy656 => ?_)
      refine y_cT (c := .eq) (off := 36) (pc' := 56) (len := 3) (r := (0, 0, 0, 0)) (by decide +kernel) (acmpT (c := .eq) (by show _ = _; omega)) (by decide +kernel) ?_
      refine y_ic (c := 0) (len := 1) (r := (0, 0, 0, 0)) (by decide +kernel) (by decide) (fun y657 hy657 => ?_)
      refine y_rI (len := 1) (r := (0, 0, 0, 0)) (nL := 4) (k := 2) (n9 := 3) (hs := []) (by decide +kernel) rfl (zfit_b (by omega) (by omega)).2 ?_
      have F : oF (fun k j => (k ≠ 15 ∨ j < 3) ∧ k ≠ 24 ∧ k ≠ 26 ∧ ((k ≠ 23 ∧ k ≠ 25) ∨ j ≠ 1)) τ h τ641 h641 := ⟨(aup_trans O640.1 O641.1), O641.2.1, fun k T j hk (hC : (k ≠ 15 ∨ j < 3) ∧ k ≠ 24 ∧ k ≠ 26 ∧ ((k ≠ 23 ∧ k ≠ 25) ∨ j ≠ 1)) => ((O641.2.2 k T j (O640.1 _ _ hk) (show k ≠ 15 ∨ j < 3 by omega)).trans (O640.2.2 k T j hk (show k ≠ 15 ∨ j < 3 by omega)))⟩
      refine ⟨_, F, Or.inr ⟨_, _, (by unfold wTre; simp only [e640, e641]), by omega, f641⟩⟩
  ·
    refine y_iT (c := .eq) (off := 10) (pc' := 16) (len := 3) (r := (0, 0, 0, 0)) (by decide +kernel) (acmpT (c := .eq) (by show _ = _; omega)) (by decide +kernel) ?_
    refine y_ic (c := (-1)) (len := 1) (r := (0, 0, 0, 0)) (by decide +kernel) (by decide) (fun y658 hy658 => ?_)
    refine y_same (i := .istore_n 3) (len := 1) (r := (0, 0, 0, 0)) (pc' := 18) (ls' := [some (.inl (some 15)), some (.inl (some 22)), some (zi xp), some (zi y658)]) (st' := []) (by decide +kernel) (fun k q => by cases q) rfl ?_
    refine y_same (i := .iload_n 3) (len := 1) (r := (0, 0, 0, 0)) (pc' := 19) (ls' := [some (.inl (some 15)), some (.inl (some 22)), some (zi xp), some (zi y658)]) (st' := [zi y658]) (by decide +kernel) (fun k q => by cases q) rfl ?_
    refine y_ic (c := (-1)) (len := 1) (r := (0, 0, 0, 0)) (by decide +kernel) (by decide) (fun y659 hy659 => ?_)
    refine y_cT (c := .eq) (off := 36) (pc' := 56) (len := 3) (r := (0, 0, 0, 0)) (by decide +kernel) (acmpT (c := .eq) (by show _ = _; omega)) (by decide +kernel) ?_
    refine y_ic (c := 0) (len := 1) (r := (0, 0, 0, 0)) (by decide +kernel) (by decide) (fun y660 hy660 => ?_)
    refine y_rI (len := 1) (r := (0, 0, 0, 0)) (nL := 4) (k := 2) (n9 := 3) (hs := []) (by decide +kernel) rfl (zfit_b (by omega) (by omega)).2 ?_
    have F : oF (fun k j => (k ≠ 15 ∨ j < 3) ∧ k ≠ 24 ∧ k ≠ 26 ∧ ((k ≠ 23 ∧ k ≠ 25) ∨ j ≠ 1)) τ h τ640 h640 := ⟨O640.1, O640.2.1, fun k T j hk (hC : (k ≠ 15 ∨ j < 3) ∧ k ≠ 24 ∧ k ≠ 26 ∧ ((k ≠ 23 ∧ k ≠ 25) ∨ j ≠ 1)) => (O640.2.2 k T j hk (show k ≠ 15 ∨ j < 3 by omega))⟩
    refine ⟨_, F, Or.inr ⟨_, _, (by unfold wTre; simp only [e640]), by omega, f640⟩⟩
theorem e_cell1 {t n a q a0 : Nat} {b : Nat → Int} {τ : List Nat} {h : zh} {ps cs : List it4} {xp : Int32} (hg : hG τ h) (al : alC h) (rd : rdC h n a b) (han : a ≤ n) (rp : rwC h 23 24 ps) (rc : rwC h 25 26 cs) (hq : xp.toInt = (q : Int)) {xx : Int32} {x : Int} (hxx : xx.toInt = x) (hx0 : 0 ≤ x) (hx5 : x ≤ 5) : qI 12 51 [some (.inl (some 15)), some (.inl (some 22)), some (zi xp), some (zi xx), none, none] h t (itR1 n b τ h (wCel b n (a0, ps, cs) a q x)) := by
  obtain ⟨⟨xn, hn, en⟩, ⟨xa, ha, ea⟩, hb, hn2⟩ := id rd
  refine qI_of ?_
  refine y_same (i := .aload_n 0) (len := 1) (r := (0, 0, 0, 0)) (pc' := 1) (ls' := [some (.inl (some 15)), some (.inl (some 22)), some (zi xp), some (zi xx), none, none]) (st' := [.inl (some 15)]) (by decide +kernel) (fun k q => by cases q) rfl ?_
  refine y_cI (i := .invokevirtual 103) (len := 3) (r := (0, 54, 5, 1025)) (nL := 3) (k := 1) (n := 1) (hs := []) (args := [.inl (some 15)]) (rest := []) (l0 := [some (.inl (some 15)), none, none]) (by decide +kernel) (Or.inr (Or.inl ⟨_, rfl⟩)) rfl rfl rfl rfl (Nat.le_of_ble_eq_true rfl) (zO hg (tv15 hg) aw15 rfl) rfl (qI_le (by decide) (e_var hg rd (by omega))) (fun y661 h661 hRy661 => ?_)
  obtain ⟨τ661, O661, hD661⟩ := hRy661
  rcases hD661 with ⟨v661, a661, e661, le661, hy661, lv661, uv661, r661⟩ | ⟨q661, e661, hy661, f661⟩
  ·
    obtain ⟨⟨xn661y, hn661y, en661y⟩, ⟨xa661y, ha661y, ea661y⟩, hb661y, -⟩ := id r661
    refine y_same (i := .istore 4) (len := 2) (r := (0, 0, 0, 0)) (pc' := 6) (ls' := [some (.inl (some 15)), some (.inl (some 22)), some (zi xp), some (zi xx), some (zi y661), none]) (st' := []) (by decide +kernel) (fun k q => by cases q) rfl ?_
    refine y_same (i := .iload 4) (len := 2) (r := (0, 0, 0, 0)) (pc' := 8) (ls' := [some (.inl (some 15)), some (.inl (some 22)), some (zi xp), some (zi xx), some (zi y661), none]) (st' := [zi y661]) (by decide +kernel) (fun k q => by cases q) rfl ?_
    refine y_ic (c := (-1)) (len := 1) (r := (0, 0, 0, 0)) (by decide +kernel) (by decide) (fun y662 hy662 => ?_)
    refine y_cT (c := .ne) (off := 5) (pc' := 14) (len := 3) (r := (0, 0, 0, 0)) (by decide +kernel) (acmpT (c := .ne) (by show ¬ (_ = _); omega)) (by decide +kernel) ?_
    refine y_same (i := .aload_n 0) (len := 1) (r := (0, 0, 0, 0)) (pc' := 15) (ls' := [some (.inl (some 15)), some (.inl (some 22)), some (zi xp), some (zi xx), some (zi y661), none]) (st' := [.inl (some 15)]) (by decide +kernel) (fun k q => by cases q) rfl ?_
    refine y_same (i := .ldc 123) (len := 2) (r := (1, 3, 1029, 0)) (pc' := 17) (ls' := [some (.inl (some 15)), some (.inl (some 22)), some (zi xp), some (zi xx), some (zi y661), none]) (st' := [.inl (some 2000003), .inl (some 15)]) (by decide +kernel) (fun k q => by cases q) rfl ?_
    refine y_cI (i := .invokevirtual 86) (len := 3) (r := (0, 57, 5, 965)) (nL := 4) (k := 2) (n := 2) (hs := []) (args := [.inl (some 15), .inl (some 2000003)]) (rest := []) (l0 := [some (.inl (some 15)), some (.inl (some 2000003)), none, none]) (by decide +kernel) (Or.inr (Or.inl ⟨_, rfl⟩)) rfl rfl rfl rfl (Nat.le_of_ble_eq_true rfl) (zO O661.2.1 (tv15 O661.2.1) aw15 rfl) rfl (qI_le (by decide) (e_sign3 O661.2.1 r661 (by omega))) (fun y663 h663 hRy663 => ?_)
    obtain ⟨τ663, O663, hD663⟩ := hRy663
    rcases hD663 with ⟨a663, e663, le663, hy663, r663⟩ | ⟨e663, hy663, r663⟩
    ·
      obtain ⟨⟨xn663y, hn663y, en663y⟩, ⟨xa663y, ha663y, ea663y⟩, hb663y, -⟩ := id r663
      refine y_iT (c := .ne) (off := 22) (pc' := 42) (len := 3) (r := (0, 0, 0, 0)) (by decide +kernel) (acmpT (c := .ne) (by show ¬ (_ = _); omega)) (by decide +kernel) ?_
      refine y_same (i := .aload_n 0) (len := 1) (r := (0, 0, 0, 0)) (pc' := 43) (ls' := [some (.inl (some 15)), some (.inl (some 22)), some (zi xp), some (zi xx), some (zi y661), none]) (st' := [.inl (some 15)]) (by decide +kernel) (fun k q => by cases q) rfl ?_
      refine y_cI (i := .invokevirtual 103) (len := 3) (r := (0, 54, 5, 1025)) (nL := 3) (k := 1) (n := 1) (hs := []) (args := [.inl (some 15)]) (rest := []) (l0 := [some (.inl (some 15)), none, none]) (by decide +kernel) (Or.inr (Or.inl ⟨_, rfl⟩)) rfl rfl rfl rfl (Nat.le_of_ble_eq_true rfl) (zO O663.2.1 (tv15 O663.2.1) aw15 rfl) rfl (qI_le (by decide) (e_var O663.2.1 r663 (by omega))) (fun y664 h664 hRy664 => ?_)
      obtain ⟨τ664, O664, hD664⟩ := hRy664
      rcases hD664 with ⟨v664, a664, e664, le664, hy664, lv664, uv664, r664⟩ | ⟨q664, e664, hy664, f664⟩
      ·
        obtain ⟨⟨xn664y, hn664y, en664y⟩, ⟨xa664y, ha664y, ea664y⟩, hb664y, -⟩ := id r664
        refine y_same (i := .istore 5) (len := 2) (r := (0, 0, 0, 0)) (pc' := 48) (ls' := [some (.inl (some 15)), some (.inl (some 22)), some (zi xp), some (zi xx), some (zi y661), some (zi y664)]) (st' := []) (by decide +kernel) (fun k q => by cases q) rfl ?_
        refine y_same (i := .iload 5) (len := 2) (r := (0, 0, 0, 0)) (pc' := 50) (ls' := [some (.inl (some 15)), some (.inl (some 22)), some (zi xp), some (zi xx), some (zi y661), some (zi y664)]) (st' := [zi y664]) (by decide +kernel) (fun k q => by cases q) rfl ?_
        refine y_ic (c := (-1)) (len := 1) (r := (0, 0, 0, 0)) (by decide +kernel) (by decide) (fun y665 hy665 => ?_)
        refine y_cF (c := .eq) (off := 29) (len := 3) (r := (0, 0, 0, 0)) (by decide +kernel) (acmpF (c := .eq) (by show ¬ (_ = _); omega)) ?_
        refine y_same (i := .aload_n 0) (len := 1) (r := (0, 0, 0, 0)) (pc' := 55) (ls' := [some (.inl (some 15)), some (.inl (some 22)), some (zi xp), some (zi xx), some (zi y661), some (zi y664)]) (st' := [.inl (some 15)]) (by decide +kernel) (fun k q => by cases q) rfl ?_
        refine y_same (i := .aload_n 1) (len := 1) (r := (0, 0, 0, 0)) (pc' := 56) (ls' := [some (.inl (some 15)), some (.inl (some 22)), some (zi xp), some (zi xx), some (zi y661), some (zi y664)]) (st' := [.inl (some 22), .inl (some 15)]) (by decide +kernel) (fun k q => by cases q) rfl ?_
        have hv666 := (O661.2.2 22 1001 0 (tv22 hg) (show 22 ≠ 15 ∨ 0 < 3 by omega)).trans al.2.2.2.2.2.1
        have hv667 := (O663.2.2 22 1001 0 (tv22 O661.2.1) (show 22 ≠ 15 ∨ 0 ≠ 3 by omega)).trans hv666
        have hv668 := (O664.2.2 22 1001 0 (tv22 O663.2.1) (show 22 ≠ 15 ∨ 0 < 3 by omega)).trans hv667
        refine y_get (j := 127) (len := 3) (r := (8, 0, 2, 20181)) (by decide +kernel) O664.2.1 (tv22 O664.2.1) aw1001 rfl rfl hv668 ?_
        refine y_ic (c := 5) (len := 1) (r := (0, 0, 0, 0)) (by decide +kernel) (by decide) (fun y669 hy669 => ?_)
        refine y_ic (c := 1) (len := 1) (r := (0, 0, 0, 0)) (by decide +kernel) (by decide) (fun y670 hy670 => ?_)
        refine y_same (i := .iload_n 3) (len := 1) (r := (0, 0, 0, 0)) (pc' := 62) (ls' := [some (.inl (some 15)), some (.inl (some 22)), some (zi xp), some (zi xx), some (zi y661), some (zi y664)]) (st' := [zi xx, zi y670, zi y669, .inl (some 23), .inl (some 15)]) (by decide +kernel) (fun k q => by cases q) rfl ?_
        refine y_same (i := .iload 4) (len := 2) (r := (0, 0, 0, 0)) (pc' := 64) (ls' := [some (.inl (some 15)), some (.inl (some 22)), some (zi xp), some (zi xx), some (zi y661), some (zi y664)]) (st' := [zi y661, zi xx, zi y670, zi y669, .inl (some 23), .inl (some 15)]) (by decide +kernel) (fun k q => by cases q) rfl ?_
        refine y_same (i := .iload 5) (len := 2) (r := (0, 0, 0, 0)) (pc' := 66) (ls' := [some (.inl (some 15)), some (.inl (some 22)), some (zi xp), some (zi xx), some (zi y661), some (zi y664)]) (st' := [zi y664, zi y661, zi xx, zi y670, zi y669, .inl (some 23), .inl (some 15)]) (by decide +kernel) (fun k q => by cases q) rfl ?_
        refine y_cI (i := .invokestatic 131) (len := 3) (r := (3, 158, 11, 1031)) (nL := 4) (k := 1) (n := 4) (hs := []) (args := [zi y670, zi xx, zi y661, zi y664]) (rest := [zi y669, .inl (some 23), .inl (some 15)]) (l0 := [some (zi y670), some (zi xx), some (zi y661), some (zi y664)]) (by decide +kernel) (Or.inl ⟨_, rfl⟩) rfl rfl rfl rfl (Nat.le_of_ble_eq_true rfl) rfl rfl (e_packed (by omega) (by omega) (by omega) (by omega) (by omega) (by omega) (by omega) (by omega)) (fun y671 qy671 hRy671 => ?_)
        obtain ⟨rfl, hy671⟩ := hRy671
        have py671 : y671.toInt = pk (1, x, v661, v664) := by
          rw [hy671]
          unfold pk
          simp only
          omega
        refine y_same (i := .iload_n 2) (len := 1) (r := (0, 0, 0, 0)) (pc' := 70) (ls' := [some (.inl (some 15)), some (.inl (some 22)), some (zi xp), some (zi xx), some (zi y661), some (zi y664)]) (st' := [zi xp, zi y671, zi y669, .inl (some 23), .inl (some 15)]) (by decide +kernel) (fun k q => by cases q) rfl ?_
        have F672 : oF (fun k j => k ≠ 15 ∨ j < 3) τ h τ664 h664 := ⟨(aup_trans (aup_trans O661.1 O663.1) O664.1), O664.2.1, fun k T j hk (hC : k ≠ 15 ∨ j < 3) => ((O664.2.2 k T j (O663.1 _ _ (O661.1 _ _ hk)) (show k ≠ 15 ∨ j < 3 by omega)).trans ((O663.2.2 k T j (O661.1 _ _ hk) (show k ≠ 15 ∨ j ≠ 3 by omega)).trans (O661.2.2 k T j hk (show k ≠ 15 ∨ j < 3 by omega))))⟩
        have al672 := alC_up5 hg al F672
        have rr672 := rwC_up rp (F672.2.2 23 1002 1 (tv23 hg) (show 23 ≠ 15 ∨ 1 < 3 by omega)) (fun j => F672.2.2 24 1005 j (tv24 hg) (show 24 ≠ 15 ∨ j < 3 by omega))
        refine y_cI (i := .invokevirtual 135) (len := 3) (r := (0, 53, 5, 1032)) (nL := 5) (k := 2) (n := 5) (hs := []) (args := [.inl (some 15), .inl (some 23), zi y669, zi y671, zi xp]) (rest := []) (l0 := [some (.inl (some 15)), some (.inl (some 23)), some (zi y669), some (zi y671), some (zi xp)]) (by decide +kernel) (Or.inr (Or.inl ⟨_, rfl⟩)) rfl rfl rfl rfl (Nat.le_of_ble_eq_true rfl) (zO O664.2.1 (tv15 O664.2.1) aw15 rfl) rfl (qI_le (by decide) (e_take23 (q := q) (i := (1, x, v661, v664)) O664.2.1 al672 rr672 (by omega) py671 (by omega))) (fun y672 h672 hRy672 => ?_)
        obtain ⟨τ672, O672, hD672⟩ := hRy672
        rcases hD672 with ⟨l672, hy672, w672, v672⟩ | ⟨l672, hy672, f672⟩
        ·
          refine y_iF (c := .eq) (off := 7) (len := 3) (r := (0, 0, 0, 0)) (by decide +kernel) (acmpF (c := .eq) (by show ¬ (_ = _); omega)) ?_
          refine y_ic (c := 1) (len := 1) (r := (0, 0, 0, 0)) (by decide +kernel) (by decide) (fun y673 hy673 => ?_)
          refine y_goto (off := 4) (pc' := 81) (len := 3) (r := (0, 0, 0, 0)) (by decide +kernel) (by decide +kernel) ?_
          refine y_rI (len := 1) (r := (0, 0, 0, 0)) (nL := 6) (k := 2) (n9 := 4) (hs := []) (by decide +kernel) rfl (zfit_b (by omega) (by omega)).2 ?_
          have F : oF (fun k j => (k ≠ 15 ∨ j < 3) ∧ k ≠ 24 ∧ k ≠ 26 ∧ ((k ≠ 23 ∧ k ≠ 25) ∨ j ≠ 1)) τ h τ672 h672 := ⟨(aup_trans (aup_trans (aup_trans O661.1 O663.1) O664.1) O672.1), O672.2.1, fun k T j hk (hC : (k ≠ 15 ∨ j < 3) ∧ k ≠ 24 ∧ k ≠ 26 ∧ ((k ≠ 23 ∧ k ≠ 25) ∨ j ≠ 1)) => ((O672.2.2 k T j (O664.1 _ _ (O663.1 _ _ (O661.1 _ _ hk))) (show k ≠ 24 ∧ (k ≠ 23 ∨ j ≠ 1) ∧ (k ≠ 15 ∨ j < 4) by omega)).trans ((O664.2.2 k T j (O663.1 _ _ (O661.1 _ _ hk)) (show k ≠ 15 ∨ j < 3 by omega)).trans ((O663.2.2 k T j (O661.1 _ _ hk) (show k ≠ 15 ∨ j ≠ 3 by omega)).trans (O661.2.2 k T j hk (show k ≠ 15 ∨ j < 3 by omega)))))⟩
          have ew : wCel b n (a0, ps, cs) a q x = .inr (a664, ps ++ [(1, x, v661, v664)], cs) := by
            unfold wCel
            simp only [e661, e663, e664]
            unfold tkp
            exact if_neg (show ¬ ps.length = 5 by omega)
          exact ⟨_, F, Or.inl ⟨_, _, _, ew, by omega, by omega, (rdc_k r664 (O672.2.2 15 15 2 (tv15 O664.2.1) (show 15 ≠ 24 ∧ (15 ≠ 23 ∨ 2 ≠ 1) ∧ (15 ≠ 15 ∨ 2 < 4) by omega)) (O672.2.2 15 15 3 (tv15 O664.2.1) (show 15 ≠ 24 ∧ (15 ≠ 23 ∨ 3 ≠ 1) ∧ (15 ≠ 15 ∨ 3 < 4) by omega)) (fun j => O672.2.2 27 27 j (tv27 O664.2.1) (show 27 ≠ 24 ∧ (27 ≠ 23 ∨ j ≠ 1) ∧ (27 ≠ 15 ∨ j < 4) by omega)) v672), w672, rwC_up rc (((O672.2.2 25 1003 1 (tv25 O664.2.1) (show 25 ≠ 24 ∧ (25 ≠ 23 ∨ 1 ≠ 1) ∧ (25 ≠ 15 ∨ 1 < 4) by omega)).trans ((O664.2.2 25 1003 1 (tv25 O663.2.1) (show 25 ≠ 15 ∨ 1 < 3 by omega)).trans ((O663.2.2 25 1003 1 (tv25 O661.2.1) (show 25 ≠ 15 ∨ 1 ≠ 3 by omega)).trans (O661.2.2 25 1003 1 (tv25 hg) (show 25 ≠ 15 ∨ 1 < 3 by omega)))))) (fun j => ((O672.2.2 26 1006 j (tv26 O664.2.1) (show 26 ≠ 24 ∧ (26 ≠ 23 ∨ j ≠ 1) ∧ (26 ≠ 15 ∨ j < 4) by omega)).trans ((O664.2.2 26 1006 j (tv26 O663.2.1) (show 26 ≠ 15 ∨ j < 3 by omega)).trans ((O663.2.2 26 1006 j (tv26 O661.2.1) (show 26 ≠ 15 ∨ j ≠ 3 by omega)).trans (O661.2.2 26 1006 j (tv26 hg) (show 26 ≠ 15 ∨ j < 3 by omega))))))⟩⟩
        ·
          refine y_iT (c := .eq) (off := 7) (pc' := 80) (len := 3) (r := (0, 0, 0, 0)) (by decide +kernel) (acmpT (c := .eq) (by show _ = _; omega)) (by decide +kernel) ?_
          refine y_ic (c := 0) (len := 1) (r := (0, 0, 0, 0)) (by decide +kernel) (by decide) (fun y674 hy674 => ?_)
          refine y_rI (len := 1) (r := (0, 0, 0, 0)) (nL := 6) (k := 2) (n9 := 4) (hs := []) (by decide +kernel) rfl (zfit_b (by omega) (by omega)).2 ?_
          have F : oF (fun k j => (k ≠ 15 ∨ j < 3) ∧ k ≠ 24 ∧ k ≠ 26 ∧ ((k ≠ 23 ∧ k ≠ 25) ∨ j ≠ 1)) τ h τ672 h672 := ⟨(aup_trans (aup_trans (aup_trans O661.1 O663.1) O664.1) O672.1), O672.2.1, fun k T j hk (hC : (k ≠ 15 ∨ j < 3) ∧ k ≠ 24 ∧ k ≠ 26 ∧ ((k ≠ 23 ∧ k ≠ 25) ∨ j ≠ 1)) => ((O672.2.2 k T j (O664.1 _ _ (O663.1 _ _ (O661.1 _ _ hk))) (show k ≠ 24 ∧ (k ≠ 23 ∨ j ≠ 1) ∧ (k ≠ 15 ∨ j < 4) by omega)).trans ((O664.2.2 k T j (O663.1 _ _ (O661.1 _ _ hk)) (show k ≠ 15 ∨ j < 3 by omega)).trans ((O663.2.2 k T j (O661.1 _ _ hk) (show k ≠ 15 ∨ j ≠ 3 by omega)).trans (O661.2.2 k T j hk (show k ≠ 15 ∨ j < 3 by omega)))))⟩
          have ew : wCel b n (a0, ps, cs) a q x = .inl (2, q) := by
            unfold wCel
            simp only [e661, e663, e664]
            unfold tkp
            exact if_pos (show ps.length = 5 by omega)
          exact ⟨_, F, Or.inr ⟨_, _, ew, by omega, f672⟩⟩
      ·
        refine y_same (i := .istore 5) (len := 2) (r := (0, 0, 0, 0)) (pc' := 48) (ls' := [some (.inl (some 15)), some (.inl (some 22)), some (zi xp), some (zi xx), some (zi y661), some (zi y664)]) (st' := []) (by decide +kernel) (fun k q => by cases q) rfl ?_
        refine y_same (i := .iload 5) (len := 2) (r := (0, 0, 0, 0)) (pc' := 50) (ls' := [some (.inl (some 15)), some (.inl (some 22)), some (zi xp), some (zi xx), some (zi y661), some (zi y664)]) (st' := [zi y664]) (by decide +kernel) (fun k q => by cases q) rfl ?_
        refine y_ic (c := (-1)) (len := 1) (r := (0, 0, 0, 0)) (by decide +kernel) (by decide) (fun y675 hy675 => ?_)
        refine y_cT (c := .eq) (off := 29) (pc' := 80) (len := 3) (r := (0, 0, 0, 0)) (by decide +kernel) (acmpT (c := .eq) (by show _ = _; omega)) (by decide +kernel) ?_
        refine y_ic (c := 0) (len := 1) (r := (0, 0, 0, 0)) (by decide +kernel) (by decide) (fun y676 hy676 => ?_)
        refine y_rI (len := 1) (r := (0, 0, 0, 0)) (nL := 6) (k := 2) (n9 := 4) (hs := []) (by decide +kernel) rfl (zfit_b (by omega) (by omega)).2 ?_
        have F : oF (fun k j => (k ≠ 15 ∨ j < 3) ∧ k ≠ 24 ∧ k ≠ 26 ∧ ((k ≠ 23 ∧ k ≠ 25) ∨ j ≠ 1)) τ h τ664 h664 := ⟨(aup_trans (aup_trans O661.1 O663.1) O664.1), O664.2.1, fun k T j hk (hC : (k ≠ 15 ∨ j < 3) ∧ k ≠ 24 ∧ k ≠ 26 ∧ ((k ≠ 23 ∧ k ≠ 25) ∨ j ≠ 1)) => ((O664.2.2 k T j (O663.1 _ _ (O661.1 _ _ hk)) (show k ≠ 15 ∨ j < 3 by omega)).trans ((O663.2.2 k T j (O661.1 _ _ hk) (show k ≠ 15 ∨ j ≠ 3 by omega)).trans (O661.2.2 k T j hk (show k ≠ 15 ∨ j < 3 by omega))))⟩
        refine ⟨_, F, Or.inr ⟨_, _, (by unfold wCel; simp only [e661, e663, e664]), by omega, f664⟩⟩
    ·
      have sl663 := sk_le (b := b) (n := n) (a := a661) (by omega)
      obtain ⟨⟨xn663n, hn663n, en663n⟩, ⟨xa663n, ha663n, ea663n⟩, hb663n, -⟩ := id r663
      refine y_iF (c := .ne) (off := 22) (len := 3) (r := (0, 0, 0, 0)) (by decide +kernel) (acmpF (c := .ne) (by show _ = _; omega)) ?_
      refine y_same (i := .aload_n 0) (len := 1) (r := (0, 0, 0, 0)) (pc' := 24) (ls' := [some (.inl (some 15)), some (.inl (some 22)), some (zi xp), some (zi xx), some (zi y661), none]) (st' := [.inl (some 15)]) (by decide +kernel) (fun k q => by cases q) rfl ?_
      refine y_same (i := .aload_n 1) (len := 1) (r := (0, 0, 0, 0)) (pc' := 25) (ls' := [some (.inl (some 15)), some (.inl (some 22)), some (zi xp), some (zi xx), some (zi y661), none]) (st' := [.inl (some 22), .inl (some 15)]) (by decide +kernel) (fun k q => by cases q) rfl ?_
      have hv677 := (O661.2.2 22 1001 0 (tv22 hg) (show 22 ≠ 15 ∨ 0 < 3 by omega)).trans al.2.2.2.2.2.1
      have hv678 := (O663.2.2 22 1001 0 (tv22 O661.2.1) (show 22 ≠ 15 ∨ 0 ≠ 3 by omega)).trans hv677
      refine y_get (j := 127) (len := 3) (r := (8, 0, 2, 20181)) (by decide +kernel) O663.2.1 (tv22 O663.2.1) aw1001 rfl rfl hv678 ?_
      refine y_ic (c := 5) (len := 1) (r := (0, 0, 0, 0)) (by decide +kernel) (by decide) (fun y679 hy679 => ?_)
      refine y_ic (c := 0) (len := 1) (r := (0, 0, 0, 0)) (by decide +kernel) (by decide) (fun y680 hy680 => ?_)
      refine y_same (i := .iload_n 3) (len := 1) (r := (0, 0, 0, 0)) (pc' := 31) (ls' := [some (.inl (some 15)), some (.inl (some 22)), some (zi xp), some (zi xx), some (zi y661), none]) (st' := [zi xx, zi y680, zi y679, .inl (some 23), .inl (some 15)]) (by decide +kernel) (fun k q => by cases q) rfl ?_
      refine y_same (i := .iload 4) (len := 2) (r := (0, 0, 0, 0)) (pc' := 33) (ls' := [some (.inl (some 15)), some (.inl (some 22)), some (zi xp), some (zi xx), some (zi y661), none]) (st' := [zi y661, zi xx, zi y680, zi y679, .inl (some 23), .inl (some 15)]) (by decide +kernel) (fun k q => by cases q) rfl ?_
      refine y_ic (c := 0) (len := 1) (r := (0, 0, 0, 0)) (by decide +kernel) (by decide) (fun y681 hy681 => ?_)
      refine y_cI (i := .invokestatic 131) (len := 3) (r := (3, 158, 11, 1031)) (nL := 4) (k := 1) (n := 4) (hs := []) (args := [zi y680, zi xx, zi y661, zi y681]) (rest := [zi y679, .inl (some 23), .inl (some 15)]) (l0 := [some (zi y680), some (zi xx), some (zi y661), some (zi y681)]) (by decide +kernel) (Or.inl ⟨_, rfl⟩) rfl rfl rfl rfl (Nat.le_of_ble_eq_true rfl) rfl rfl (e_packed (by omega) (by omega) (by omega) (by omega) (by omega) (by omega) (by omega) (by omega)) (fun y682 qy682 hRy682 => ?_)
      obtain ⟨rfl, hy682⟩ := hRy682
      have py682 : y682.toInt = pk (0, x, v661, 0) := by
        rw [hy682]
        unfold pk
        simp only
        omega
      refine y_same (i := .iload_n 2) (len := 1) (r := (0, 0, 0, 0)) (pc' := 38) (ls' := [some (.inl (some 15)), some (.inl (some 22)), some (zi xp), some (zi xx), some (zi y661), none]) (st' := [zi xp, zi y682, zi y679, .inl (some 23), .inl (some 15)]) (by decide +kernel) (fun k q => by cases q) rfl ?_
      have F683 : oF (fun k j => k ≠ 15 ∨ j < 3) τ h τ663 h663 := ⟨(aup_trans O661.1 O663.1), O663.2.1, fun k T j hk (hC : k ≠ 15 ∨ j < 3) => ((O663.2.2 k T j (O661.1 _ _ hk) (show k ≠ 15 ∨ j ≠ 3 by omega)).trans (O661.2.2 k T j hk (show k ≠ 15 ∨ j < 3 by omega)))⟩
      have al683 := alC_up5 hg al F683
      have rr683 := rwC_up rp (F683.2.2 23 1002 1 (tv23 hg) (show 23 ≠ 15 ∨ 1 < 3 by omega)) (fun j => F683.2.2 24 1005 j (tv24 hg) (show 24 ≠ 15 ∨ j < 3 by omega))
      refine y_cI (i := .invokevirtual 135) (len := 3) (r := (0, 53, 5, 1032)) (nL := 5) (k := 2) (n := 5) (hs := []) (args := [.inl (some 15), .inl (some 23), zi y679, zi y682, zi xp]) (rest := []) (l0 := [some (.inl (some 15)), some (.inl (some 23)), some (zi y679), some (zi y682), some (zi xp)]) (by decide +kernel) (Or.inr (Or.inl ⟨_, rfl⟩)) rfl rfl rfl rfl (Nat.le_of_ble_eq_true rfl) (zO O663.2.1 (tv15 O663.2.1) aw15 rfl) rfl (qI_le (by decide) (e_take23 (q := q) (i := (0, x, v661, 0)) O663.2.1 al683 rr683 (by omega) py682 (by omega))) (fun y683 h683 hRy683 => ?_)
      obtain ⟨τ683, O683, hD683⟩ := hRy683
      rcases hD683 with ⟨l683, hy683, w683, v683⟩ | ⟨l683, hy683, f683⟩
      ·
        refine y_rI (len := 1) (r := (0, 0, 0, 0)) (nL := 6) (k := 2) (n9 := 4) (hs := []) (by decide +kernel) rfl (zfit_b (by omega) (by omega)).2 ?_
        have F : oF (fun k j => (k ≠ 15 ∨ j < 3) ∧ k ≠ 24 ∧ k ≠ 26 ∧ ((k ≠ 23 ∧ k ≠ 25) ∨ j ≠ 1)) τ h τ683 h683 := ⟨(aup_trans (aup_trans O661.1 O663.1) O683.1), O683.2.1, fun k T j hk (hC : (k ≠ 15 ∨ j < 3) ∧ k ≠ 24 ∧ k ≠ 26 ∧ ((k ≠ 23 ∧ k ≠ 25) ∨ j ≠ 1)) => ((O683.2.2 k T j (O663.1 _ _ (O661.1 _ _ hk)) (show k ≠ 24 ∧ (k ≠ 23 ∨ j ≠ 1) ∧ (k ≠ 15 ∨ j < 4) by omega)).trans ((O663.2.2 k T j (O661.1 _ _ hk) (show k ≠ 15 ∨ j ≠ 3 by omega)).trans (O661.2.2 k T j hk (show k ≠ 15 ∨ j < 3 by omega))))⟩
        have ew : wCel b n (a0, ps, cs) a q x = .inr ((sk b n a661), ps ++ [(0, x, v661, 0)], cs) := by
          unfold wCel
          simp only [e661, e663]
          unfold tkp
          exact if_neg (show ¬ ps.length = 5 by omega)
        exact ⟨_, F, Or.inl ⟨_, _, _, ew, by omega, by omega, (rdc_k r663 (O683.2.2 15 15 2 (tv15 O663.2.1) (show 15 ≠ 24 ∧ (15 ≠ 23 ∨ 2 ≠ 1) ∧ (15 ≠ 15 ∨ 2 < 4) by omega)) (O683.2.2 15 15 3 (tv15 O663.2.1) (show 15 ≠ 24 ∧ (15 ≠ 23 ∨ 3 ≠ 1) ∧ (15 ≠ 15 ∨ 3 < 4) by omega)) (fun j => O683.2.2 27 27 j (tv27 O663.2.1) (show 27 ≠ 24 ∧ (27 ≠ 23 ∨ j ≠ 1) ∧ (27 ≠ 15 ∨ j < 4) by omega)) v683), w683, rwC_up rc (((O683.2.2 25 1003 1 (tv25 O663.2.1) (show 25 ≠ 24 ∧ (25 ≠ 23 ∨ 1 ≠ 1) ∧ (25 ≠ 15 ∨ 1 < 4) by omega)).trans ((O663.2.2 25 1003 1 (tv25 O661.2.1) (show 25 ≠ 15 ∨ 1 ≠ 3 by omega)).trans (O661.2.2 25 1003 1 (tv25 hg) (show 25 ≠ 15 ∨ 1 < 3 by omega))))) (fun j => ((O683.2.2 26 1006 j (tv26 O663.2.1) (show 26 ≠ 24 ∧ (26 ≠ 23 ∨ j ≠ 1) ∧ (26 ≠ 15 ∨ j < 4) by omega)).trans ((O663.2.2 26 1006 j (tv26 O661.2.1) (show 26 ≠ 15 ∨ j ≠ 3 by omega)).trans (O661.2.2 26 1006 j (tv26 hg) (show 26 ≠ 15 ∨ j < 3 by omega)))))⟩⟩
      ·
        refine y_rI (len := 1) (r := (0, 0, 0, 0)) (nL := 6) (k := 2) (n9 := 4) (hs := []) (by decide +kernel) rfl (zfit_b (by omega) (by omega)).2 ?_
        have F : oF (fun k j => (k ≠ 15 ∨ j < 3) ∧ k ≠ 24 ∧ k ≠ 26 ∧ ((k ≠ 23 ∧ k ≠ 25) ∨ j ≠ 1)) τ h τ683 h683 := ⟨(aup_trans (aup_trans O661.1 O663.1) O683.1), O683.2.1, fun k T j hk (hC : (k ≠ 15 ∨ j < 3) ∧ k ≠ 24 ∧ k ≠ 26 ∧ ((k ≠ 23 ∧ k ≠ 25) ∨ j ≠ 1)) => ((O683.2.2 k T j (O663.1 _ _ (O661.1 _ _ hk)) (show k ≠ 24 ∧ (k ≠ 23 ∨ j ≠ 1) ∧ (k ≠ 15 ∨ j < 4) by omega)).trans ((O663.2.2 k T j (O661.1 _ _ hk) (show k ≠ 15 ∨ j ≠ 3 by omega)).trans (O661.2.2 k T j hk (show k ≠ 15 ∨ j < 3 by omega))))⟩
        have ew : wCel b n (a0, ps, cs) a q x = .inl (2, q) := by
          unfold wCel
          simp only [e661, e663]
          unfold tkp
          exact if_pos (show ps.length = 5 by omega)
        exact ⟨_, F, Or.inr ⟨_, _, ew, by omega, f683⟩⟩
  ·
    refine y_same (i := .istore 4) (len := 2) (r := (0, 0, 0, 0)) (pc' := 6) (ls' := [some (.inl (some 15)), some (.inl (some 22)), some (zi xp), some (zi xx), some (zi y661), none]) (st' := []) (by decide +kernel) (fun k q => by cases q) rfl ?_
    refine y_same (i := .iload 4) (len := 2) (r := (0, 0, 0, 0)) (pc' := 8) (ls' := [some (.inl (some 15)), some (.inl (some 22)), some (zi xp), some (zi xx), some (zi y661), none]) (st' := [zi y661]) (by decide +kernel) (fun k q => by cases q) rfl ?_
    refine y_ic (c := (-1)) (len := 1) (r := (0, 0, 0, 0)) (by decide +kernel) (by decide) (fun y684 hy684 => ?_)
    refine y_cF (c := .ne) (off := 5) (len := 3) (r := (0, 0, 0, 0)) (by decide +kernel) (acmpF (c := .ne) (by show _ = _; omega)) ?_
    refine y_ic (c := 0) (len := 1) (r := (0, 0, 0, 0)) (by decide +kernel) (by decide) (fun y685 hy685 => ?_)
    refine y_rI (len := 1) (r := (0, 0, 0, 0)) (nL := 6) (k := 2) (n9 := 4) (hs := []) (by decide +kernel) rfl (zfit_b (by omega) (by omega)).2 ?_
    have F : oF (fun k j => (k ≠ 15 ∨ j < 3) ∧ k ≠ 24 ∧ k ≠ 26 ∧ ((k ≠ 23 ∧ k ≠ 25) ∨ j ≠ 1)) τ h τ661 h661 := ⟨O661.1, O661.2.1, fun k T j hk (hC : (k ≠ 15 ∨ j < 3) ∧ k ≠ 24 ∧ k ≠ 26 ∧ ((k ≠ 23 ∧ k ≠ 25) ∨ j ≠ 1)) => (O661.2.2 k T j hk (show k ≠ 15 ∨ j < 3 by omega))⟩
    refine ⟨_, F, Or.inr ⟨_, _, (by unfold wCel; simp only [e661]), by omega, f661⟩⟩
theorem e_claim1 {t n a q a0 : Nat} {b : Nat → Int} {τ : List Nat} {h : zh} {ps cs : List it4} {xp : Int32} (hg : hG τ h) (al : alC h) (rd : rdC h n a b) (han : a ≤ n) (rp : rwC h 23 24 ps) (rc : rwC h 25 26 cs) (hq : xp.toInt = (q : Int)) {xk xx : Int32} {kd x : Int} (hkd : xk.toInt = kd) (hk0 : 0 ≤ kd) (hk1 : kd ≤ 1) (hxx : xx.toInt = x) (hx0 : 0 ≤ x) (hx5 : x ≤ 5) : qI 12 52 [some (.inl (some 15)), some (.inl (some 22)), some (zi xp), some (zi xk), some (zi xx), none] h t (itR1 n b τ h (wClm b n (a0, ps, cs) a q kd x)) := by
  obtain ⟨⟨xn, hn, en⟩, ⟨xa, ha, ea⟩, hb, hn2⟩ := id rd
  refine qI_of ?_
  refine y_same (i := .aload_n 0) (len := 1) (r := (0, 0, 0, 0)) (pc' := 1) (ls' := [some (.inl (some 15)), some (.inl (some 22)), some (zi xp), some (zi xk), some (zi xx), none]) (st' := [.inl (some 15)]) (by decide +kernel) (fun k q => by cases q) rfl ?_
  refine y_cI (i := .invokevirtual 103) (len := 3) (r := (0, 54, 5, 1025)) (nL := 3) (k := 1) (n := 1) (hs := []) (args := [.inl (some 15)]) (rest := []) (l0 := [some (.inl (some 15)), none, none]) (by decide +kernel) (Or.inr (Or.inl ⟨_, rfl⟩)) rfl rfl rfl rfl (Nat.le_of_ble_eq_true rfl) (zO hg (tv15 hg) aw15 rfl) rfl (qI_le (by decide) (e_var hg rd (by omega))) (fun y686 h686 hRy686 => ?_)
  obtain ⟨τ686, O686, hD686⟩ := hRy686
  rcases hD686 with ⟨v686, a686, e686, le686, hy686, lv686, uv686, r686⟩ | ⟨q686, e686, hy686, f686⟩
  ·
    obtain ⟨⟨xn686y, hn686y, en686y⟩, ⟨xa686y, ha686y, ea686y⟩, hb686y, -⟩ := id r686
    refine y_same (i := .istore 5) (len := 2) (r := (0, 0, 0, 0)) (pc' := 6) (ls' := [some (.inl (some 15)), some (.inl (some 22)), some (zi xp), some (zi xk), some (zi xx), some (zi y686)]) (st' := []) (by decide +kernel) (fun k q => by cases q) rfl ?_
    refine y_same (i := .iload 5) (len := 2) (r := (0, 0, 0, 0)) (pc' := 8) (ls' := [some (.inl (some 15)), some (.inl (some 22)), some (zi xp), some (zi xk), some (zi xx), some (zi y686)]) (st' := [zi y686]) (by decide +kernel) (fun k q => by cases q) rfl ?_
    refine y_ic (c := (-1)) (len := 1) (r := (0, 0, 0, 0)) (by decide +kernel) (by decide) (fun y687 hy687 => ?_)
    refine y_cF (c := .eq) (off := 30) (len := 3) (r := (0, 0, 0, 0)) (by decide +kernel) (acmpF (c := .eq) (by show ¬ (_ = _); omega)) ?_
    refine y_same (i := .aload_n 0) (len := 1) (r := (0, 0, 0, 0)) (pc' := 13) (ls' := [some (.inl (some 15)), some (.inl (some 22)), some (zi xp), some (zi xk), some (zi xx), some (zi y686)]) (st' := [.inl (some 15)]) (by decide +kernel) (fun k q => by cases q) rfl ?_
    refine y_same (i := .aload_n 1) (len := 1) (r := (0, 0, 0, 0)) (pc' := 14) (ls' := [some (.inl (some 15)), some (.inl (some 22)), some (zi xp), some (zi xk), some (zi xx), some (zi y686)]) (st' := [.inl (some 22), .inl (some 15)]) (by decide +kernel) (fun k q => by cases q) rfl ?_
    have hv688 := (O686.2.2 22 1001 1 (tv22 hg) (show 22 ≠ 15 ∨ 1 < 3 by omega)).trans al.2.2.2.2.2.2.1
    refine y_get (j := 139) (len := 3) (r := (8, 1, 2, 20190)) (by decide +kernel) O686.2.1 (tv22 O686.2.1) aw1001 rfl rfl hv688 ?_
    refine y_bi (c := 6) (len := 2) (r := (0, 0, 0, 0)) (by decide +kernel) (by decide) (fun y689 hy689 => ?_)
    refine y_same (i := .iload_n 3) (len := 1) (r := (0, 0, 0, 0)) (pc' := 20) (ls' := [some (.inl (some 15)), some (.inl (some 22)), some (zi xp), some (zi xk), some (zi xx), some (zi y686)]) (st' := [zi xk, zi y689, .inl (some 25), .inl (some 15)]) (by decide +kernel) (fun k q => by cases q) rfl ?_
    refine y_same (i := .iload 4) (len := 2) (r := (0, 0, 0, 0)) (pc' := 22) (ls' := [some (.inl (some 15)), some (.inl (some 22)), some (zi xp), some (zi xk), some (zi xx), some (zi y686)]) (st' := [zi xx, zi xk, zi y689, .inl (some 25), .inl (some 15)]) (by decide +kernel) (fun k q => by cases q) rfl ?_
    refine y_same (i := .iload 5) (len := 2) (r := (0, 0, 0, 0)) (pc' := 24) (ls' := [some (.inl (some 15)), some (.inl (some 22)), some (zi xp), some (zi xk), some (zi xx), some (zi y686)]) (st' := [zi y686, zi xx, zi xk, zi y689, .inl (some 25), .inl (some 15)]) (by decide +kernel) (fun k q => by cases q) rfl ?_
    refine y_ic (c := 0) (len := 1) (r := (0, 0, 0, 0)) (by decide +kernel) (by decide) (fun y690 hy690 => ?_)
    refine y_cI (i := .invokestatic 131) (len := 3) (r := (3, 158, 11, 1031)) (nL := 4) (k := 1) (n := 4) (hs := []) (args := [zi xk, zi xx, zi y686, zi y690]) (rest := [zi y689, .inl (some 25), .inl (some 15)]) (l0 := [some (zi xk), some (zi xx), some (zi y686), some (zi y690)]) (by decide +kernel) (Or.inl ⟨_, rfl⟩) rfl rfl rfl rfl (Nat.le_of_ble_eq_true rfl) rfl rfl (e_packed (by omega) (by omega) (by omega) (by omega) (by omega) (by omega) (by omega) (by omega)) (fun y691 qy691 hRy691 => ?_)
    obtain ⟨rfl, hy691⟩ := hRy691
    have py691 : y691.toInt = pk (kd, x, v686, 0) := by
      rw [hy691]
      unfold pk
      simp only
      omega
    refine y_same (i := .iload_n 2) (len := 1) (r := (0, 0, 0, 0)) (pc' := 29) (ls' := [some (.inl (some 15)), some (.inl (some 22)), some (zi xp), some (zi xk), some (zi xx), some (zi y686)]) (st' := [zi xp, zi y691, zi y689, .inl (some 25), .inl (some 15)]) (by decide +kernel) (fun k q => by cases q) rfl ?_
    have F692 : oF (fun k j => k ≠ 15 ∨ j < 3) τ h τ686 h686 := ⟨O686.1, O686.2.1, fun k T j hk (hC : k ≠ 15 ∨ j < 3) => (O686.2.2 k T j hk (show k ≠ 15 ∨ j < 3 by omega))⟩
    have al692 := alC_up5 hg al F692
    have rr692 := rwC_up rc (F692.2.2 25 1003 1 (tv25 hg) (show 25 ≠ 15 ∨ 1 < 3 by omega)) (fun j => F692.2.2 26 1006 j (tv26 hg) (show 26 ≠ 15 ∨ j < 3 by omega))
    refine y_cI (i := .invokevirtual 135) (len := 3) (r := (0, 53, 5, 1032)) (nL := 5) (k := 2) (n := 5) (hs := []) (args := [.inl (some 15), .inl (some 25), zi y689, zi y691, zi xp]) (rest := []) (l0 := [some (.inl (some 15)), some (.inl (some 25)), some (zi y689), some (zi y691), some (zi xp)]) (by decide +kernel) (Or.inr (Or.inl ⟨_, rfl⟩)) rfl rfl rfl rfl (Nat.le_of_ble_eq_true rfl) (zO O686.2.1 (tv15 O686.2.1) aw15 rfl) rfl (qI_le (by decide) (e_take25 (q := q) (i := (kd, x, v686, 0)) O686.2.1 al692 rr692 (by omega) py691 (by omega))) (fun y692 h692 hRy692 => ?_)
    obtain ⟨τ692, O692, hD692⟩ := hRy692
    rcases hD692 with ⟨l692, hy692, w692, v692⟩ | ⟨l692, hy692, f692⟩
    ·
      refine y_iF (c := .eq) (off := 7) (len := 3) (r := (0, 0, 0, 0)) (by decide +kernel) (acmpF (c := .eq) (by show ¬ (_ = _); omega)) ?_
      refine y_ic (c := 1) (len := 1) (r := (0, 0, 0, 0)) (by decide +kernel) (by decide) (fun y693 hy693 => ?_)
      refine y_goto (off := 4) (pc' := 40) (len := 3) (r := (0, 0, 0, 0)) (by decide +kernel) (by decide +kernel) ?_
      refine y_rI (len := 1) (r := (0, 0, 0, 0)) (nL := 6) (k := 2) (n9 := 5) (hs := []) (by decide +kernel) rfl (zfit_b (by omega) (by omega)).2 ?_
      have F : oF (fun k j => (k ≠ 15 ∨ j < 3) ∧ k ≠ 24 ∧ k ≠ 26 ∧ ((k ≠ 23 ∧ k ≠ 25) ∨ j ≠ 1)) τ h τ692 h692 := ⟨(aup_trans O686.1 O692.1), O692.2.1, fun k T j hk (hC : (k ≠ 15 ∨ j < 3) ∧ k ≠ 24 ∧ k ≠ 26 ∧ ((k ≠ 23 ∧ k ≠ 25) ∨ j ≠ 1)) => ((O692.2.2 k T j (O686.1 _ _ hk) (show k ≠ 26 ∧ (k ≠ 25 ∨ j ≠ 1) ∧ (k ≠ 15 ∨ j < 4) by omega)).trans (O686.2.2 k T j hk (show k ≠ 15 ∨ j < 3 by omega)))⟩
      have ew : wClm b n (a0, ps, cs) a q kd x = .inr (a686, ps, cs ++ [(kd, x, v686, 0)]) := by
        unfold wClm
        simp only [e686]
        unfold tkc
        exact if_neg (show ¬ cs.length = 6 by omega)
      exact ⟨_, F, Or.inl ⟨_, _, _, ew, by omega, by omega, (rdc_k r686 (O692.2.2 15 15 2 (tv15 O686.2.1) (show 15 ≠ 26 ∧ (15 ≠ 25 ∨ 2 ≠ 1) ∧ (15 ≠ 15 ∨ 2 < 4) by omega)) (O692.2.2 15 15 3 (tv15 O686.2.1) (show 15 ≠ 26 ∧ (15 ≠ 25 ∨ 3 ≠ 1) ∧ (15 ≠ 15 ∨ 3 < 4) by omega)) (fun j => O692.2.2 27 27 j (tv27 O686.2.1) (show 27 ≠ 26 ∧ (27 ≠ 25 ∨ j ≠ 1) ∧ (27 ≠ 15 ∨ j < 4) by omega)) v692), rwC_up rp (((O692.2.2 23 1002 1 (tv23 O686.2.1) (show 23 ≠ 26 ∧ (23 ≠ 25 ∨ 1 ≠ 1) ∧ (23 ≠ 15 ∨ 1 < 4) by omega)).trans (O686.2.2 23 1002 1 (tv23 hg) (show 23 ≠ 15 ∨ 1 < 3 by omega)))) (fun j => ((O692.2.2 24 1005 j (tv24 O686.2.1) (show 24 ≠ 26 ∧ (24 ≠ 25 ∨ j ≠ 1) ∧ (24 ≠ 15 ∨ j < 4) by omega)).trans (O686.2.2 24 1005 j (tv24 hg) (show 24 ≠ 15 ∨ j < 3 by omega)))), w692⟩⟩
    ·
      refine y_iT (c := .eq) (off := 7) (pc' := 39) (len := 3) (r := (0, 0, 0, 0)) (by decide +kernel) (acmpT (c := .eq) (by show _ = _; omega)) (by decide +kernel) ?_
      refine y_ic (c := 0) (len := 1) (r := (0, 0, 0, 0)) (by decide +kernel) (by decide) (fun y694 hy694 => ?_)
      refine y_rI (len := 1) (r := (0, 0, 0, 0)) (nL := 6) (k := 2) (n9 := 5) (hs := []) (by decide +kernel) rfl (zfit_b (by omega) (by omega)).2 ?_
      have F : oF (fun k j => (k ≠ 15 ∨ j < 3) ∧ k ≠ 24 ∧ k ≠ 26 ∧ ((k ≠ 23 ∧ k ≠ 25) ∨ j ≠ 1)) τ h τ692 h692 := ⟨(aup_trans O686.1 O692.1), O692.2.1, fun k T j hk (hC : (k ≠ 15 ∨ j < 3) ∧ k ≠ 24 ∧ k ≠ 26 ∧ ((k ≠ 23 ∧ k ≠ 25) ∨ j ≠ 1)) => ((O692.2.2 k T j (O686.1 _ _ hk) (show k ≠ 26 ∧ (k ≠ 25 ∨ j ≠ 1) ∧ (k ≠ 15 ∨ j < 4) by omega)).trans (O686.2.2 k T j hk (show k ≠ 15 ∨ j < 3 by omega)))⟩
      have ew : wClm b n (a0, ps, cs) a q kd x = .inl (2, q) := by
        unfold wClm
        simp only [e686]
        unfold tkc
        exact if_pos (show cs.length = 6 by omega)
      exact ⟨_, F, Or.inr ⟨_, _, ew, by omega, f692⟩⟩
  ·
    refine y_same (i := .istore 5) (len := 2) (r := (0, 0, 0, 0)) (pc' := 6) (ls' := [some (.inl (some 15)), some (.inl (some 22)), some (zi xp), some (zi xk), some (zi xx), some (zi y686)]) (st' := []) (by decide +kernel) (fun k q => by cases q) rfl ?_
    refine y_same (i := .iload 5) (len := 2) (r := (0, 0, 0, 0)) (pc' := 8) (ls' := [some (.inl (some 15)), some (.inl (some 22)), some (zi xp), some (zi xk), some (zi xx), some (zi y686)]) (st' := [zi y686]) (by decide +kernel) (fun k q => by cases q) rfl ?_
    refine y_ic (c := (-1)) (len := 1) (r := (0, 0, 0, 0)) (by decide +kernel) (by decide) (fun y695 hy695 => ?_)
    refine y_cT (c := .eq) (off := 30) (pc' := 39) (len := 3) (r := (0, 0, 0, 0)) (by decide +kernel) (acmpT (c := .eq) (by show _ = _; omega)) (by decide +kernel) ?_
    refine y_ic (c := 0) (len := 1) (r := (0, 0, 0, 0)) (by decide +kernel) (by decide) (fun y696 hy696 => ?_)
    refine y_rI (len := 1) (r := (0, 0, 0, 0)) (nL := 6) (k := 2) (n9 := 5) (hs := []) (by decide +kernel) rfl (zfit_b (by omega) (by omega)).2 ?_
    have F : oF (fun k j => (k ≠ 15 ∨ j < 3) ∧ k ≠ 24 ∧ k ≠ 26 ∧ ((k ≠ 23 ∧ k ≠ 25) ∨ j ≠ 1)) τ h τ686 h686 := ⟨O686.1, O686.2.1, fun k T j hk (hC : (k ≠ 15 ∨ j < 3) ∧ k ≠ 24 ∧ k ≠ 26 ∧ ((k ≠ 23 ∧ k ≠ 25) ∨ j ≠ 1)) => (O686.2.2 k T j hk (show k ≠ 15 ∨ j < 3 by omega))⟩
    refine ⟨_, F, Or.inr ⟨_, _, (by unfold wClm; simp only [e686]), by omega, f686⟩⟩
