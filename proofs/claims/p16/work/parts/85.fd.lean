/-! FEED, told exactly -/
def bf (v : Int32) (j : Nat) : Int32 := match j with
  | 0 => (v >>> ((24 : Int32) &&& 31)) &&& 255
  | 1 => (v >>> ((16 : Int32) &&& 31)) &&& 255
  | 2 => (v >>> ((8 : Int32) &&& 31)) &&& 255
  | _ => (v >>> ((0 : Int32) &&& 31)) &&& 255
theorem and255 {x y c : Int32} (hc : c.toInt = 255) (hy : y = x &&& c) : 0 ≤ y.toInt ∧ y.toInt ≤ 255 := by
  have h1 := zand_le (x := x) (y := c) (by omega)
  rw [← hy] at h1
  omega
theorem y_rem {d mi pc : Nat} {ls : List (Option zv)} {h : zh} {t : Nat} {P : zo × zh × Nat → Prop} {len : Nat} {r : zr} {a b c e w : Int32} {st' : List zv} (hf : zfetch mi pc = some (.irem, len, r)) (ha : a = c) (hb : b = e) (hr : zrem (zi c) (zi e) = some (zi w)) (k : qX d mi (pc + 1) ls (zi w :: st') h t P) : qX d mi pc ls (zi b :: zi a :: st') h t P := by
  subst ha
  subst hb
  refine y_same hf (fun k q => by cases q) (stH_A' rfl ?_) k
  show zbin zrem pc ls (zi b :: zi a :: st') = _
  unfold zbin
  simp only [hr]
theorem c_put {d t S : Nat} {τ : List Nat} {h : zh} {xv xS : Int32} (hg : hG τ h) (hS : hsl h 0 1 = some (zi xS)) (eS : xS.toInt = (S : Int)) (hS2 : S + 4 ≤ 200) : qV (d + 1) 155 [some (.inl (some 0)), some (zi xv), none] h t (fun h1 => ∃ τ1, oF (fun k j => (k ≠ 0 ∨ j ≠ 1) ∧ (k ≠ 1 ∨ j < S ∨ S + 4 ≤ j)) τ h τ1 h1 ∧ (∃ x : Int32, hsl h1 0 1 = some (zi x) ∧ x.toInt = ((S + 4 : Nat) : Int)) ∧ hsl h1 1 S = some (zi (bf xv 0)) ∧ hsl h1 1 (S + 1) = some (zi (bf xv 1)) ∧ hsl h1 1 (S + 2) = some (zi (bf xv 2)) ∧ hsl h1 1 (S + 3) = some (zi (bf xv 3))) := by
  refine qV_of ?_
  refine y_bi (c := 24) (len := 2) (r := (0, 0, 0, 0)) (by decide +kernel) (by decide) (fun y1434 hy1434 => ?_)
  refine y_same (i := .istore_n 2) (len := 1) (r := (0, 0, 0, 0)) (pc' := 3) (ls' := [some (.inl (some 0)), some (zi xv), some (zi y1434)]) (st' := []) (by decide +kernel) (fun k q => by cases q) rfl ?_
  refine y_same (i := .iload_n 2) (len := 1) (r := (0, 0, 0, 0)) (pc' := 4) (ls' := [some (.inl (some 0)), some (zi xv), some (zi y1434)]) (st' := [zi y1434]) (by decide +kernel) (fun k q => by cases q) rfl ?_
  refine y_iF (c := .lt) (off := 45) (len := 3) (r := (0, 0, 0, 0)) (by decide +kernel) (acmpF (c := .lt) (by show _ ≤ _; omega)) ?_
  refine y_same (i := .aload_n 0) (len := 1) (r := (0, 0, 0, 0)) (pc' := 8) (ls' := [some (.inl (some 0)), some (zi xv), some (zi y1434)]) (st' := [.inl (some 0)]) (by decide +kernel) (fun k q => by cases q) rfl ?_
  refine y_get (j := 13) (len := 3) (r := (11, 1, 0, 400)) (by decide +kernel) hg (tv0 hg) aw0 rfl rfl hS ?_
  refine y_si (c := 200) (len := 3) (r := (0, 0, 0, 0)) (by decide +kernel) (by decide) (fun y1435 hy1435 => ?_)
  refine y_cF (c := .ge) (off := 35) (len := 3) (r := (0, 0, 0, 0)) (by decide +kernel) (acmpF (c := .ge) (by show _ < _; omega)) ?_
  refine y_same (i := .aload_n 0) (len := 1) (r := (0, 0, 0, 0)) (pc' := 18) (ls' := [some (.inl (some 0)), some (zi xv), some (zi y1434)]) (st' := [.inl (some 0)]) (by decide +kernel) (fun k q => by cases q) rfl ?_
  refine y_get (j := 9) (len := 3) (r := (11, 0, 2, 399)) (by decide +kernel) hg (tv0 hg) aw0 rfl rfl (g_rU (f := 0) (T2 := 1) hg (tv0 hg) aw0 rfl (by decide)) ?_
  refine y_same (i := .aload_n 0) (len := 1) (r := (0, 0, 0, 0)) (pc' := 22) (ls' := [some (.inl (some 0)), some (zi xv), some (zi y1434)]) (st' := [.inl (some 0), .inl (some 1)]) (by decide +kernel) (fun k q => by cases q) rfl ?_
  refine y_get (j := 13) (len := 3) (r := (11, 1, 0, 400)) (by decide +kernel) hg (tv0 hg) aw0 rfl rfl hS ?_
  refine y_same (i := .iload_n 1) (len := 1) (r := (0, 0, 0, 0)) (pc' := 26) (ls' := [some (.inl (some 0)), some (zi xv), some (zi y1434)]) (st' := [zi xv, zi xS, .inl (some 1)]) (by decide +kernel) (fun k q => by cases q) rfl ?_
  refine y_same (i := .iload_n 2) (len := 1) (r := (0, 0, 0, 0)) (pc' := 27) (ls' := [some (.inl (some 0)), some (zi xv), some (zi y1434)]) (st' := [zi y1434, zi xv, zi xS, .inl (some 1)]) (by decide +kernel) (fun k q => by cases q) rfl ?_
  refine y_bp (i := .ishr) (f := fun x y => x >>> (y &&& 31)) (len := 1) (r := (0, 0, 0, 0)) (by decide +kernel) rfl rfl (fun y1436 hy1436 => ?_)
  have hy1436 : y1436 = xv >>> (y1434 &&& 31) := hy1436
  refine y_si (c := 255) (len := 3) (r := (0, 0, 0, 0)) (by decide +kernel) (by decide) (fun y1437 hy1437 => ?_)
  refine y_bp (i := .iand) (f := fun x y => x &&& y) (len := 1) (r := (0, 0, 0, 0)) (by decide +kernel) rfl rfl (fun y1438 hy1438 => ?_)
  have hy1438 : y1438 = y1436 &&& y1437 := hy1438
  have by1438 := and255 (x := y1436) (by omega) hy1438
  refine y_ias (i := S) (len := 1) (r := (0, 0, 0, 0)) (by decide +kernel) hg (tv1 hg) aw1 rfl (by omega) (by omega) (sr1 (by omega)) (qin_full _).1 (qin_full _).2 (fun h1439 hg1439 hl1439 hs1439 ho1439 => ?_)
  refine y_same (i := .aload_n 0) (len := 1) (r := (0, 0, 0, 0)) (pc' := 34) (ls' := [some (.inl (some 0)), some (zi xv), some (zi y1434)]) (st' := [.inl (some 0)]) (by decide +kernel) (fun k q => by cases q) rfl ?_
  refine y_same (i := .dup) (len := 1) (r := (0, 0, 0, 0)) (pc' := 35) (ls' := [some (.inl (some 0)), some (zi xv), some (zi y1434)]) (st' := [.inl (some 0), .inl (some 0)]) (by decide +kernel) (fun k q => by cases q) rfl ?_
  have hv1440 := (ho1439 0 1 (Or.inl (by omega))).trans hS
  refine y_get (j := 13) (len := 3) (r := (11, 1, 0, 400)) (by decide +kernel) hg1439 (tv0 hg1439) aw0 rfl rfl hv1440 ?_
  refine y_ic (c := 1) (len := 1) (r := (0, 0, 0, 0)) (by decide +kernel) (by decide) (fun y1441 hy1441 => ?_)
  refine y_add (len := 1) (r := (0, 0, 0, 0)) (by decide +kernel) (by omega) (by omega) (fun y1442 hy1442 => ?_)
  refine y_put (j := 13) (lo := 0) (hi := 200) (len := 3) (r := (11, 1, 0, 400)) (by decide +kernel) hg1439 (tv0 hg1439) aw0 rfl rfl (by decide) rfl (by omega) (by omega) rfl (fun h1443 hg1443 hl1443 hs1443 ho1443 => ?_)
  have ho1443 : hO 0 1 h1439 h1443 := ho1443
  have hs1443 : hsl h1443 0 1 = some (zi y1442) := hs1443
  refine y_inc (j := 2) (a := y1434) (c := (-8)) (ls' := fun v => [some (.inl (some 0)), some (zi xv), some v]) (len := 3) (r := (0, 0, 0, 0)) (by decide +kernel) rfl (fun _ => rfl) (by decide) (by omega) (by omega) (fun y1444 hy1444 => ?_)
  show qX d 155 46 [some (.inl (some 0)), some (zi xv), some (zi y1444)] [] h1443 t _
  refine y_goto (off := (-43)) (pc' := 3) (len := 3) (r := (0, 0, 0, 0)) (by decide +kernel) (by decide +kernel) ?_
  refine y_same (i := .iload_n 2) (len := 1) (r := (0, 0, 0, 0)) (pc' := 4) (ls' := [some (.inl (some 0)), some (zi xv), some (zi y1444)]) (st' := [zi y1444]) (by decide +kernel) (fun k q => by cases q) rfl ?_
  refine y_iF (c := .lt) (off := 45) (len := 3) (r := (0, 0, 0, 0)) (by decide +kernel) (acmpF (c := .lt) (by show _ ≤ _; omega)) ?_
  refine y_same (i := .aload_n 0) (len := 1) (r := (0, 0, 0, 0)) (pc' := 8) (ls' := [some (.inl (some 0)), some (zi xv), some (zi y1444)]) (st' := [.inl (some 0)]) (by decide +kernel) (fun k q => by cases q) rfl ?_
  refine y_get (j := 13) (len := 3) (r := (11, 1, 0, 400)) (by decide +kernel) hg1443 (tv0 hg1443) aw0 rfl rfl hs1443 ?_
  refine y_si (c := 200) (len := 3) (r := (0, 0, 0, 0)) (by decide +kernel) (by decide) (fun y1445 hy1445 => ?_)
  refine y_cF (c := .ge) (off := 35) (len := 3) (r := (0, 0, 0, 0)) (by decide +kernel) (acmpF (c := .ge) (by show _ < _; omega)) ?_
  refine y_same (i := .aload_n 0) (len := 1) (r := (0, 0, 0, 0)) (pc' := 18) (ls' := [some (.inl (some 0)), some (zi xv), some (zi y1444)]) (st' := [.inl (some 0)]) (by decide +kernel) (fun k q => by cases q) rfl ?_
  refine y_get (j := 9) (len := 3) (r := (11, 0, 2, 399)) (by decide +kernel) hg1443 (tv0 hg1443) aw0 rfl rfl (g_rU (f := 0) (T2 := 1) hg1443 (tv0 hg1443) aw0 rfl (by decide)) ?_
  refine y_same (i := .aload_n 0) (len := 1) (r := (0, 0, 0, 0)) (pc' := 22) (ls' := [some (.inl (some 0)), some (zi xv), some (zi y1444)]) (st' := [.inl (some 0), .inl (some 1)]) (by decide +kernel) (fun k q => by cases q) rfl ?_
  refine y_get (j := 13) (len := 3) (r := (11, 1, 0, 400)) (by decide +kernel) hg1443 (tv0 hg1443) aw0 rfl rfl hs1443 ?_
  refine y_same (i := .iload_n 1) (len := 1) (r := (0, 0, 0, 0)) (pc' := 26) (ls' := [some (.inl (some 0)), some (zi xv), some (zi y1444)]) (st' := [zi xv, zi y1442, .inl (some 1)]) (by decide +kernel) (fun k q => by cases q) rfl ?_
  refine y_same (i := .iload_n 2) (len := 1) (r := (0, 0, 0, 0)) (pc' := 27) (ls' := [some (.inl (some 0)), some (zi xv), some (zi y1444)]) (st' := [zi y1444, zi xv, zi y1442, .inl (some 1)]) (by decide +kernel) (fun k q => by cases q) rfl ?_
  refine y_bp (i := .ishr) (f := fun x y => x >>> (y &&& 31)) (len := 1) (r := (0, 0, 0, 0)) (by decide +kernel) rfl rfl (fun y1446 hy1446 => ?_)
  have hy1446 : y1446 = xv >>> (y1444 &&& 31) := hy1446
  refine y_si (c := 255) (len := 3) (r := (0, 0, 0, 0)) (by decide +kernel) (by decide) (fun y1447 hy1447 => ?_)
  refine y_bp (i := .iand) (f := fun x y => x &&& y) (len := 1) (r := (0, 0, 0, 0)) (by decide +kernel) rfl rfl (fun y1448 hy1448 => ?_)
  have hy1448 : y1448 = y1446 &&& y1447 := hy1448
  have by1448 := and255 (x := y1446) (by omega) hy1448
  refine y_ias (i := (S + 1)) (len := 1) (r := (0, 0, 0, 0)) (by decide +kernel) hg1443 (tv1 hg1443) aw1 rfl (by omega) (by omega) (sr1 (by omega)) (qin_full _).1 (qin_full _).2 (fun h1449 hg1449 hl1449 hs1449 ho1449 => ?_)
  refine y_same (i := .aload_n 0) (len := 1) (r := (0, 0, 0, 0)) (pc' := 34) (ls' := [some (.inl (some 0)), some (zi xv), some (zi y1444)]) (st' := [.inl (some 0)]) (by decide +kernel) (fun k q => by cases q) rfl ?_
  refine y_same (i := .dup) (len := 1) (r := (0, 0, 0, 0)) (pc' := 35) (ls' := [some (.inl (some 0)), some (zi xv), some (zi y1444)]) (st' := [.inl (some 0), .inl (some 0)]) (by decide +kernel) (fun k q => by cases q) rfl ?_
  have hv1450 := (ho1449 0 1 (Or.inl (by omega))).trans hs1443
  refine y_get (j := 13) (len := 3) (r := (11, 1, 0, 400)) (by decide +kernel) hg1449 (tv0 hg1449) aw0 rfl rfl hv1450 ?_
  refine y_ic (c := 1) (len := 1) (r := (0, 0, 0, 0)) (by decide +kernel) (by decide) (fun y1451 hy1451 => ?_)
  refine y_add (len := 1) (r := (0, 0, 0, 0)) (by decide +kernel) (by omega) (by omega) (fun y1452 hy1452 => ?_)
  refine y_put (j := 13) (lo := 0) (hi := 200) (len := 3) (r := (11, 1, 0, 400)) (by decide +kernel) hg1449 (tv0 hg1449) aw0 rfl rfl (by decide) rfl (by omega) (by omega) rfl (fun h1453 hg1453 hl1453 hs1453 ho1453 => ?_)
  have ho1453 : hO 0 1 h1449 h1453 := ho1453
  have hs1453 : hsl h1453 0 1 = some (zi y1452) := hs1453
  refine y_inc (j := 2) (a := y1444) (c := (-8)) (ls' := fun v => [some (.inl (some 0)), some (zi xv), some v]) (len := 3) (r := (0, 0, 0, 0)) (by decide +kernel) rfl (fun _ => rfl) (by decide) (by omega) (by omega) (fun y1454 hy1454 => ?_)
  show qX d 155 46 [some (.inl (some 0)), some (zi xv), some (zi y1454)] [] h1453 t _
  refine y_goto (off := (-43)) (pc' := 3) (len := 3) (r := (0, 0, 0, 0)) (by decide +kernel) (by decide +kernel) ?_
  refine y_same (i := .iload_n 2) (len := 1) (r := (0, 0, 0, 0)) (pc' := 4) (ls' := [some (.inl (some 0)), some (zi xv), some (zi y1454)]) (st' := [zi y1454]) (by decide +kernel) (fun k q => by cases q) rfl ?_
  refine y_iF (c := .lt) (off := 45) (len := 3) (r := (0, 0, 0, 0)) (by decide +kernel) (acmpF (c := .lt) (by show _ ≤ _; omega)) ?_
  refine y_same (i := .aload_n 0) (len := 1) (r := (0, 0, 0, 0)) (pc' := 8) (ls' := [some (.inl (some 0)), some (zi xv), some (zi y1454)]) (st' := [.inl (some 0)]) (by decide +kernel) (fun k q => by cases q) rfl ?_
  refine y_get (j := 13) (len := 3) (r := (11, 1, 0, 400)) (by decide +kernel) hg1453 (tv0 hg1453) aw0 rfl rfl hs1453 ?_
  refine y_si (c := 200) (len := 3) (r := (0, 0, 0, 0)) (by decide +kernel) (by decide) (fun y1455 hy1455 => ?_)
  refine y_cF (c := .ge) (off := 35) (len := 3) (r := (0, 0, 0, 0)) (by decide +kernel) (acmpF (c := .ge) (by show _ < _; omega)) ?_
  refine y_same (i := .aload_n 0) (len := 1) (r := (0, 0, 0, 0)) (pc' := 18) (ls' := [some (.inl (some 0)), some (zi xv), some (zi y1454)]) (st' := [.inl (some 0)]) (by decide +kernel) (fun k q => by cases q) rfl ?_
  refine y_get (j := 9) (len := 3) (r := (11, 0, 2, 399)) (by decide +kernel) hg1453 (tv0 hg1453) aw0 rfl rfl (g_rU (f := 0) (T2 := 1) hg1453 (tv0 hg1453) aw0 rfl (by decide)) ?_
  refine y_same (i := .aload_n 0) (len := 1) (r := (0, 0, 0, 0)) (pc' := 22) (ls' := [some (.inl (some 0)), some (zi xv), some (zi y1454)]) (st' := [.inl (some 0), .inl (some 1)]) (by decide +kernel) (fun k q => by cases q) rfl ?_
  refine y_get (j := 13) (len := 3) (r := (11, 1, 0, 400)) (by decide +kernel) hg1453 (tv0 hg1453) aw0 rfl rfl hs1453 ?_
  refine y_same (i := .iload_n 1) (len := 1) (r := (0, 0, 0, 0)) (pc' := 26) (ls' := [some (.inl (some 0)), some (zi xv), some (zi y1454)]) (st' := [zi xv, zi y1452, .inl (some 1)]) (by decide +kernel) (fun k q => by cases q) rfl ?_
  refine y_same (i := .iload_n 2) (len := 1) (r := (0, 0, 0, 0)) (pc' := 27) (ls' := [some (.inl (some 0)), some (zi xv), some (zi y1454)]) (st' := [zi y1454, zi xv, zi y1452, .inl (some 1)]) (by decide +kernel) (fun k q => by cases q) rfl ?_
  refine y_bp (i := .ishr) (f := fun x y => x >>> (y &&& 31)) (len := 1) (r := (0, 0, 0, 0)) (by decide +kernel) rfl rfl (fun y1456 hy1456 => ?_)
  have hy1456 : y1456 = xv >>> (y1454 &&& 31) := hy1456
  refine y_si (c := 255) (len := 3) (r := (0, 0, 0, 0)) (by decide +kernel) (by decide) (fun y1457 hy1457 => ?_)
  refine y_bp (i := .iand) (f := fun x y => x &&& y) (len := 1) (r := (0, 0, 0, 0)) (by decide +kernel) rfl rfl (fun y1458 hy1458 => ?_)
  have hy1458 : y1458 = y1456 &&& y1457 := hy1458
  have by1458 := and255 (x := y1456) (by omega) hy1458
  refine y_ias (i := (S + 2)) (len := 1) (r := (0, 0, 0, 0)) (by decide +kernel) hg1453 (tv1 hg1453) aw1 rfl (by omega) (by omega) (sr1 (by omega)) (qin_full _).1 (qin_full _).2 (fun h1459 hg1459 hl1459 hs1459 ho1459 => ?_)
  refine y_same (i := .aload_n 0) (len := 1) (r := (0, 0, 0, 0)) (pc' := 34) (ls' := [some (.inl (some 0)), some (zi xv), some (zi y1454)]) (st' := [.inl (some 0)]) (by decide +kernel) (fun k q => by cases q) rfl ?_
  refine y_same (i := .dup) (len := 1) (r := (0, 0, 0, 0)) (pc' := 35) (ls' := [some (.inl (some 0)), some (zi xv), some (zi y1454)]) (st' := [.inl (some 0), .inl (some 0)]) (by decide +kernel) (fun k q => by cases q) rfl ?_
  have hv1460 := (ho1459 0 1 (Or.inl (by omega))).trans hs1453
  refine y_get (j := 13) (len := 3) (r := (11, 1, 0, 400)) (by decide +kernel) hg1459 (tv0 hg1459) aw0 rfl rfl hv1460 ?_
  refine y_ic (c := 1) (len := 1) (r := (0, 0, 0, 0)) (by decide +kernel) (by decide) (fun y1461 hy1461 => ?_)
  refine y_add (len := 1) (r := (0, 0, 0, 0)) (by decide +kernel) (by omega) (by omega) (fun y1462 hy1462 => ?_)
  refine y_put (j := 13) (lo := 0) (hi := 200) (len := 3) (r := (11, 1, 0, 400)) (by decide +kernel) hg1459 (tv0 hg1459) aw0 rfl rfl (by decide) rfl (by omega) (by omega) rfl (fun h1463 hg1463 hl1463 hs1463 ho1463 => ?_)
  have ho1463 : hO 0 1 h1459 h1463 := ho1463
  have hs1463 : hsl h1463 0 1 = some (zi y1462) := hs1463
  refine y_inc (j := 2) (a := y1454) (c := (-8)) (ls' := fun v => [some (.inl (some 0)), some (zi xv), some v]) (len := 3) (r := (0, 0, 0, 0)) (by decide +kernel) rfl (fun _ => rfl) (by decide) (by omega) (by omega) (fun y1464 hy1464 => ?_)
  show qX d 155 46 [some (.inl (some 0)), some (zi xv), some (zi y1464)] [] h1463 t _
  refine y_goto (off := (-43)) (pc' := 3) (len := 3) (r := (0, 0, 0, 0)) (by decide +kernel) (by decide +kernel) ?_
  refine y_same (i := .iload_n 2) (len := 1) (r := (0, 0, 0, 0)) (pc' := 4) (ls' := [some (.inl (some 0)), some (zi xv), some (zi y1464)]) (st' := [zi y1464]) (by decide +kernel) (fun k q => by cases q) rfl ?_
  refine y_iF (c := .lt) (off := 45) (len := 3) (r := (0, 0, 0, 0)) (by decide +kernel) (acmpF (c := .lt) (by show _ ≤ _; omega)) ?_
  refine y_same (i := .aload_n 0) (len := 1) (r := (0, 0, 0, 0)) (pc' := 8) (ls' := [some (.inl (some 0)), some (zi xv), some (zi y1464)]) (st' := [.inl (some 0)]) (by decide +kernel) (fun k q => by cases q) rfl ?_
  refine y_get (j := 13) (len := 3) (r := (11, 1, 0, 400)) (by decide +kernel) hg1463 (tv0 hg1463) aw0 rfl rfl hs1463 ?_
  refine y_si (c := 200) (len := 3) (r := (0, 0, 0, 0)) (by decide +kernel) (by decide) (fun y1465 hy1465 => ?_)
  refine y_cF (c := .ge) (off := 35) (len := 3) (r := (0, 0, 0, 0)) (by decide +kernel) (acmpF (c := .ge) (by show _ < _; omega)) ?_
  refine y_same (i := .aload_n 0) (len := 1) (r := (0, 0, 0, 0)) (pc' := 18) (ls' := [some (.inl (some 0)), some (zi xv), some (zi y1464)]) (st' := [.inl (some 0)]) (by decide +kernel) (fun k q => by cases q) rfl ?_
  refine y_get (j := 9) (len := 3) (r := (11, 0, 2, 399)) (by decide +kernel) hg1463 (tv0 hg1463) aw0 rfl rfl (g_rU (f := 0) (T2 := 1) hg1463 (tv0 hg1463) aw0 rfl (by decide)) ?_
  refine y_same (i := .aload_n 0) (len := 1) (r := (0, 0, 0, 0)) (pc' := 22) (ls' := [some (.inl (some 0)), some (zi xv), some (zi y1464)]) (st' := [.inl (some 0), .inl (some 1)]) (by decide +kernel) (fun k q => by cases q) rfl ?_
  refine y_get (j := 13) (len := 3) (r := (11, 1, 0, 400)) (by decide +kernel) hg1463 (tv0 hg1463) aw0 rfl rfl hs1463 ?_
  refine y_same (i := .iload_n 1) (len := 1) (r := (0, 0, 0, 0)) (pc' := 26) (ls' := [some (.inl (some 0)), some (zi xv), some (zi y1464)]) (st' := [zi xv, zi y1462, .inl (some 1)]) (by decide +kernel) (fun k q => by cases q) rfl ?_
  refine y_same (i := .iload_n 2) (len := 1) (r := (0, 0, 0, 0)) (pc' := 27) (ls' := [some (.inl (some 0)), some (zi xv), some (zi y1464)]) (st' := [zi y1464, zi xv, zi y1462, .inl (some 1)]) (by decide +kernel) (fun k q => by cases q) rfl ?_
  refine y_bp (i := .ishr) (f := fun x y => x >>> (y &&& 31)) (len := 1) (r := (0, 0, 0, 0)) (by decide +kernel) rfl rfl (fun y1466 hy1466 => ?_)
  have hy1466 : y1466 = xv >>> (y1464 &&& 31) := hy1466
  refine y_si (c := 255) (len := 3) (r := (0, 0, 0, 0)) (by decide +kernel) (by decide) (fun y1467 hy1467 => ?_)
  refine y_bp (i := .iand) (f := fun x y => x &&& y) (len := 1) (r := (0, 0, 0, 0)) (by decide +kernel) rfl rfl (fun y1468 hy1468 => ?_)
  have hy1468 : y1468 = y1466 &&& y1467 := hy1468
  have by1468 := and255 (x := y1466) (by omega) hy1468
  refine y_ias (i := (S + 3)) (len := 1) (r := (0, 0, 0, 0)) (by decide +kernel) hg1463 (tv1 hg1463) aw1 rfl (by omega) (by omega) (sr1 (by omega)) (qin_full _).1 (qin_full _).2 (fun h1469 hg1469 hl1469 hs1469 ho1469 => ?_)
  refine y_same (i := .aload_n 0) (len := 1) (r := (0, 0, 0, 0)) (pc' := 34) (ls' := [some (.inl (some 0)), some (zi xv), some (zi y1464)]) (st' := [.inl (some 0)]) (by decide +kernel) (fun k q => by cases q) rfl ?_
  refine y_same (i := .dup) (len := 1) (r := (0, 0, 0, 0)) (pc' := 35) (ls' := [some (.inl (some 0)), some (zi xv), some (zi y1464)]) (st' := [.inl (some 0), .inl (some 0)]) (by decide +kernel) (fun k q => by cases q) rfl ?_
  have hv1470 := (ho1469 0 1 (Or.inl (by omega))).trans hs1463
  refine y_get (j := 13) (len := 3) (r := (11, 1, 0, 400)) (by decide +kernel) hg1469 (tv0 hg1469) aw0 rfl rfl hv1470 ?_
  refine y_ic (c := 1) (len := 1) (r := (0, 0, 0, 0)) (by decide +kernel) (by decide) (fun y1471 hy1471 => ?_)
  refine y_add (len := 1) (r := (0, 0, 0, 0)) (by decide +kernel) (by omega) (by omega) (fun y1472 hy1472 => ?_)
  refine y_put (j := 13) (lo := 0) (hi := 200) (len := 3) (r := (11, 1, 0, 400)) (by decide +kernel) hg1469 (tv0 hg1469) aw0 rfl rfl (by decide) rfl (by omega) (by omega) rfl (fun h1473 hg1473 hl1473 hs1473 ho1473 => ?_)
  have ho1473 : hO 0 1 h1469 h1473 := ho1473
  have hs1473 : hsl h1473 0 1 = some (zi y1472) := hs1473
  refine y_inc (j := 2) (a := y1464) (c := (-8)) (ls' := fun v => [some (.inl (some 0)), some (zi xv), some v]) (len := 3) (r := (0, 0, 0, 0)) (by decide +kernel) rfl (fun _ => rfl) (by decide) (by omega) (by omega) (fun y1474 hy1474 => ?_)
  show qX d 155 46 [some (.inl (some 0)), some (zi xv), some (zi y1474)] [] h1473 t _
  refine y_goto (off := (-43)) (pc' := 3) (len := 3) (r := (0, 0, 0, 0)) (by decide +kernel) (by decide +kernel) ?_
  refine y_same (i := .iload_n 2) (len := 1) (r := (0, 0, 0, 0)) (pc' := 4) (ls' := [some (.inl (some 0)), some (zi xv), some (zi y1474)]) (st' := [zi y1474]) (by decide +kernel) (fun k q => by cases q) rfl ?_
  refine y_iT (c := .lt) (off := 45) (pc' := 49) (len := 3) (r := (0, 0, 0, 0)) (by decide +kernel) (acmpT (c := .lt) (by show _ < _; omega)) (by decide +kernel) ?_
  refine y_rV (len := 1) (r := (0, 0, 0, 0)) (nL := 3) (n9 := 2) (hs := []) (by decide +kernel) rfl ?_
  have hv1475 := (ho1443 1 S (Or.inl (by omega))).trans hs1439
  have hv1476 := (ho1449 1 S (Or.inr (by omega))).trans hv1475
  have hv1477 := (ho1453 1 S (Or.inl (by omega))).trans hv1476
  have hv1478 := (ho1459 1 S (Or.inr (by omega))).trans hv1477
  have hv1479 := (ho1463 1 S (Or.inl (by omega))).trans hv1478
  have hv1480 := (ho1469 1 S (Or.inr (by omega))).trans hv1479
  have hv1481 := (ho1473 1 S (Or.inl (by omega))).trans hv1480
  have hv1482 := (ho1453 1 (S + 1) (Or.inl (by omega))).trans hs1449
  have hv1483 := (ho1459 1 (S + 1) (Or.inr (by omega))).trans hv1482
  have hv1484 := (ho1463 1 (S + 1) (Or.inl (by omega))).trans hv1483
  have hv1485 := (ho1469 1 (S + 1) (Or.inr (by omega))).trans hv1484
  have hv1486 := (ho1473 1 (S + 1) (Or.inl (by omega))).trans hv1485
  have hv1487 := (ho1463 1 (S + 2) (Or.inl (by omega))).trans hs1459
  have hv1488 := (ho1469 1 (S + 2) (Or.inr (by omega))).trans hv1487
  have hv1489 := (ho1473 1 (S + 2) (Or.inl (by omega))).trans hv1488
  have hv1490 := (ho1473 1 (S + 3) (Or.inl (by omega))).trans hs1469
  exact ⟨_, ⟨(aup_refl _), hg1473, fun k T j hk (hC : (k ≠ 0 ∨ j ≠ 1) ∧ (k ≠ 1 ∨ j < S ∨ S + 4 ≤ j)) => ((ho1473 k j (by omega)).trans ((ho1469 k j (by omega)).trans ((ho1463 k j (by omega)).trans ((ho1459 k j (by omega)).trans ((ho1453 k j (by omega)).trans ((ho1449 k j (by omega)).trans ((ho1443 k j (by omega)).trans (ho1439 k j (by omega)))))))))⟩, ⟨_, hs1473, by omega⟩, (show y1438 = bf xv 0 by rw [hy1438, hy1436, ofI2 (y := y1434) (w := 24) (c := 24) (by omega) (by decide), ofI2 (y := y1437) (w := 255) (c := 255) (by omega) (by decide)]; rfl) ▸ hv1481, (show y1448 = bf xv 1 by rw [hy1448, hy1446, ofI2 (y := y1444) (w := 16) (c := 16) (by omega) (by decide), ofI2 (y := y1447) (w := 255) (c := 255) (by omega) (by decide)]; rfl) ▸ hv1486, (show y1458 = bf xv 2 by rw [hy1458, hy1456, ofI2 (y := y1454) (w := 8) (c := 8) (by omega) (by decide), ofI2 (y := y1457) (w := 255) (c := 255) (by omega) (by decide)]; rfl) ▸ hv1489, (show y1468 = bf xv 3 by rw [hy1468, hy1466, ofI2 (y := y1464) (w := 0) (c := 0) (by omega) (by decide), ofI2 (y := y1467) (w := 255) (c := 255) (by omega) (by decide)]; rfl) ▸ hv1490⟩
def fdC (h1 : zh) (N : Nat) (a1 a2 a3 a4 a5 : Int32) : Prop := hsl h1 1 N = some (zi (bf a1 0)) ∧ hsl h1 1 (N + 1) = some (zi (bf a1 1)) ∧ hsl h1 1 (N + 2) = some (zi (bf a1 2)) ∧ hsl h1 1 (N + 3) = some (zi (bf a1 3)) ∧ hsl h1 1 (N + 4) = some (zi (bf a2 0)) ∧ hsl h1 1 (N + 5) = some (zi (bf a2 1)) ∧ hsl h1 1 (N + 6) = some (zi (bf a2 2)) ∧ hsl h1 1 (N + 7) = some (zi (bf a2 3)) ∧ hsl h1 1 (N + 8) = some (zi (bf a3 0)) ∧ hsl h1 1 (N + 9) = some (zi (bf a3 1)) ∧ hsl h1 1 (N + 10) = some (zi (bf a3 2)) ∧ hsl h1 1 (N + 11) = some (zi (bf a3 3)) ∧ hsl h1 1 (N + 12) = some (zi (bf a4 0)) ∧ hsl h1 1 (N + 13) = some (zi (bf a4 1)) ∧ hsl h1 1 (N + 14) = some (zi (bf a4 2)) ∧ hsl h1 1 (N + 15) = some (zi (bf a4 3)) ∧ hsl h1 1 (N + 16) = some (zi (bf a5 0)) ∧ hsl h1 1 (N + 17) = some (zi (bf a5 1)) ∧ hsl h1 1 (N + 18) = some (zi (bf a5 2)) ∧ hsl h1 1 (N + 19) = some (zi (bf a5 3))
def fdM (h1 : zh) (N : Nat) (a1 a2 a3 a4 a5 : Int32) : Prop := hsl h1 54 N = some (zi (bf a1 0)) ∧ hsl h1 54 (N + 1) = some (zi (bf a1 1)) ∧ hsl h1 54 (N + 2) = some (zi (bf a1 2)) ∧ hsl h1 54 (N + 3) = some (zi (bf a1 3)) ∧ hsl h1 54 (N + 4) = some (zi (bf a2 0)) ∧ hsl h1 54 (N + 5) = some (zi (bf a2 1)) ∧ hsl h1 54 (N + 6) = some (zi (bf a2 2)) ∧ hsl h1 54 (N + 7) = some (zi (bf a2 3)) ∧ hsl h1 54 (N + 8) = some (zi (bf a3 0)) ∧ hsl h1 54 (N + 9) = some (zi (bf a3 1)) ∧ hsl h1 54 (N + 10) = some (zi (bf a3 2)) ∧ hsl h1 54 (N + 11) = some (zi (bf a3 3)) ∧ hsl h1 54 (N + 12) = some (zi (bf a4 0)) ∧ hsl h1 54 (N + 13) = some (zi (bf a4 1)) ∧ hsl h1 54 (N + 14) = some (zi (bf a4 2)) ∧ hsl h1 54 (N + 15) = some (zi (bf a4 3)) ∧ hsl h1 54 (N + 16) = some (zi (bf a5 0)) ∧ hsl h1 54 (N + 17) = some (zi (bf a5 1)) ∧ hsl h1 54 (N + 18) = some (zi (bf a5 2)) ∧ hsl h1 54 (N + 19) = some (zi (bf a5 3))
theorem c_feed {t N : Nat} {τ : List Nat} {h : zh} {xT a1 a2 a3 a4 a5 : Int32} (hg : hG τ h) (hT : hsl h 0 1 = some (zi xT)) (eT : xT.toInt = (N : Int)) (hT2 : N + 20 ≤ 200) : qI 60 132 [some (.inl (some 0)), some (zi a1), some (zi a2), some (zi a3), some (zi a4), some (zi a5)] h t (fun _ h1 => ∃ τ1, oF (fun k j => (k ≠ 0 ∨ j ≠ 1) ∧ (k ≠ 1 ∨ j < N ∨ N + 20 ≤ j)) τ h τ1 h1 ∧ (∃ x : Int32, hsl h1 0 1 = some (zi x) ∧ x.toInt = ((N + 20 : Nat) : Int)) ∧ fdC h1 N a1 a2 a3 a4 a5) := by
  refine qI_le (d := 4) (by decide) (qI_of ?_)
  refine y_same (i := .aload_n 0) (len := 1) (r := (0, 0, 0, 0)) (pc' := 1) (ls' := [some (.inl (some 0)), some (zi a1), some (zi a2), some (zi a3), some (zi a4), some (zi a5)]) (st' := [.inl (some 0)]) (by decide +kernel) (fun k q => by cases q) rfl ?_
  refine y_get (j := 13) (len := 3) (r := (11, 1, 0, 400)) (by decide +kernel) hg (tv0 hg) aw0 rfl rfl hT ?_
  refine y_bi (c := 20) (len := 2) (r := (0, 0, 0, 0)) (by decide +kernel) (by decide) (fun y1491 hy1491 => ?_)
  refine y_add (len := 1) (r := (0, 0, 0, 0)) (by decide +kernel) (by omega) (by omega) (fun y1492 hy1492 => ?_)
  refine y_si (c := 200) (len := 3) (r := (0, 0, 0, 0)) (by decide +kernel) (by decide) (fun y1493 hy1493 => ?_)
  refine y_cT (c := .le) (off := 5) (pc' := 15) (len := 3) (r := (0, 0, 0, 0)) (by decide +kernel) (acmpT (c := .le) (by show _ ≤ _; omega)) (by decide +kernel) ?_
  refine y_same (i := .aload_n 0) (len := 1) (r := (0, 0, 0, 0)) (pc' := 16) (ls' := [some (.inl (some 0)), some (zi a1), some (zi a2), some (zi a3), some (zi a4), some (zi a5)]) (st' := [.inl (some 0)]) (by decide +kernel) (fun k q => by cases q) rfl ?_
  refine y_same (i := .iload_n 1) (len := 1) (r := (0, 0, 0, 0)) (pc' := 17) (ls' := [some (.inl (some 0)), some (zi a1), some (zi a2), some (zi a3), some (zi a4), some (zi a5)]) (st' := [zi a1, .inl (some 0)]) (by decide +kernel) (fun k q => by cases q) rfl ?_
  refine y_cV (i := .invokevirtual 66) (len := 3) (r := (0, 155, 11, 437)) (nL := 3) (k := 0) (n := 2) (hs := []) (args := [.inl (some 0), zi a1]) (rest := []) (l0 := [some (.inl (some 0)), some (zi a1), none]) (by decide +kernel) (Or.inr (Or.inl ⟨_, rfl⟩)) rfl rfl rfl rfl (Nat.le_of_ble_eq_true rfl) (zO hg (tv0 hg) aw0 rfl) rfl (qV_le (by decide) (c_put (d := 0) (S := N) hg hT (by omega) (by omega))) (fun h1494 hR1494 => ?_)
  obtain ⟨τ1494, O1494, ⟨x1494, hx1494, ex1494⟩, p14940, p14941, p14942, p14943⟩ := hR1494
  refine y_same (i := .aload_n 0) (len := 1) (r := (0, 0, 0, 0)) (pc' := 21) (ls' := [some (.inl (some 0)), some (zi a1), some (zi a2), some (zi a3), some (zi a4), some (zi a5)]) (st' := [.inl (some 0)]) (by decide +kernel) (fun k q => by cases q) rfl ?_
  refine y_same (i := .iload_n 2) (len := 1) (r := (0, 0, 0, 0)) (pc' := 22) (ls' := [some (.inl (some 0)), some (zi a1), some (zi a2), some (zi a3), some (zi a4), some (zi a5)]) (st' := [zi a2, .inl (some 0)]) (by decide +kernel) (fun k q => by cases q) rfl ?_
  refine y_cV (i := .invokevirtual 66) (len := 3) (r := (0, 155, 11, 437)) (nL := 3) (k := 0) (n := 2) (hs := []) (args := [.inl (some 0), zi a2]) (rest := []) (l0 := [some (.inl (some 0)), some (zi a2), none]) (by decide +kernel) (Or.inr (Or.inl ⟨_, rfl⟩)) rfl rfl rfl rfl (Nat.le_of_ble_eq_true rfl) (zO O1494.2.1 (tv0 O1494.2.1) aw0 rfl) rfl (qV_le (by decide) (c_put (d := 0) (S := (N + 4)) O1494.2.1 hx1494 (by omega) (by omega))) (fun h1495 hR1495 => ?_)
  obtain ⟨τ1495, O1495, ⟨x1495, hx1495, ex1495⟩, p14950, p14951, p14952, p14953⟩ := hR1495
  refine y_same (i := .aload_n 0) (len := 1) (r := (0, 0, 0, 0)) (pc' := 26) (ls' := [some (.inl (some 0)), some (zi a1), some (zi a2), some (zi a3), some (zi a4), some (zi a5)]) (st' := [.inl (some 0)]) (by decide +kernel) (fun k q => by cases q) rfl ?_
  refine y_same (i := .iload_n 3) (len := 1) (r := (0, 0, 0, 0)) (pc' := 27) (ls' := [some (.inl (some 0)), some (zi a1), some (zi a2), some (zi a3), some (zi a4), some (zi a5)]) (st' := [zi a3, .inl (some 0)]) (by decide +kernel) (fun k q => by cases q) rfl ?_
  refine y_cV (i := .invokevirtual 66) (len := 3) (r := (0, 155, 11, 437)) (nL := 3) (k := 0) (n := 2) (hs := []) (args := [.inl (some 0), zi a3]) (rest := []) (l0 := [some (.inl (some 0)), some (zi a3), none]) (by decide +kernel) (Or.inr (Or.inl ⟨_, rfl⟩)) rfl rfl rfl rfl (Nat.le_of_ble_eq_true rfl) (zO O1495.2.1 (tv0 O1495.2.1) aw0 rfl) rfl (qV_le (by decide) (c_put (d := 0) (S := (N + 8)) O1495.2.1 hx1495 (by omega) (by omega))) (fun h1496 hR1496 => ?_)
  obtain ⟨τ1496, O1496, ⟨x1496, hx1496, ex1496⟩, p14960, p14961, p14962, p14963⟩ := hR1496
  refine y_same (i := .aload_n 0) (len := 1) (r := (0, 0, 0, 0)) (pc' := 31) (ls' := [some (.inl (some 0)), some (zi a1), some (zi a2), some (zi a3), some (zi a4), some (zi a5)]) (st' := [.inl (some 0)]) (by decide +kernel) (fun k q => by cases q) rfl ?_
  refine y_same (i := .iload 4) (len := 2) (r := (0, 0, 0, 0)) (pc' := 33) (ls' := [some (.inl (some 0)), some (zi a1), some (zi a2), some (zi a3), some (zi a4), some (zi a5)]) (st' := [zi a4, .inl (some 0)]) (by decide +kernel) (fun k q => by cases q) rfl ?_
  refine y_cV (i := .invokevirtual 66) (len := 3) (r := (0, 155, 11, 437)) (nL := 3) (k := 0) (n := 2) (hs := []) (args := [.inl (some 0), zi a4]) (rest := []) (l0 := [some (.inl (some 0)), some (zi a4), none]) (by decide +kernel) (Or.inr (Or.inl ⟨_, rfl⟩)) rfl rfl rfl rfl (Nat.le_of_ble_eq_true rfl) (zO O1496.2.1 (tv0 O1496.2.1) aw0 rfl) rfl (qV_le (by decide) (c_put (d := 0) (S := (N + 12)) O1496.2.1 hx1496 (by omega) (by omega))) (fun h1497 hR1497 => ?_)
  obtain ⟨τ1497, O1497, ⟨x1497, hx1497, ex1497⟩, p14970, p14971, p14972, p14973⟩ := hR1497
  refine y_same (i := .aload_n 0) (len := 1) (r := (0, 0, 0, 0)) (pc' := 37) (ls' := [some (.inl (some 0)), some (zi a1), some (zi a2), some (zi a3), some (zi a4), some (zi a5)]) (st' := [.inl (some 0)]) (by decide +kernel) (fun k q => by cases q) rfl ?_
  refine y_same (i := .iload 5) (len := 2) (r := (0, 0, 0, 0)) (pc' := 39) (ls' := [some (.inl (some 0)), some (zi a1), some (zi a2), some (zi a3), some (zi a4), some (zi a5)]) (st' := [zi a5, .inl (some 0)]) (by decide +kernel) (fun k q => by cases q) rfl ?_
  refine y_cV (i := .invokevirtual 66) (len := 3) (r := (0, 155, 11, 437)) (nL := 3) (k := 0) (n := 2) (hs := []) (args := [.inl (some 0), zi a5]) (rest := []) (l0 := [some (.inl (some 0)), some (zi a5), none]) (by decide +kernel) (Or.inr (Or.inl ⟨_, rfl⟩)) rfl rfl rfl rfl (Nat.le_of_ble_eq_true rfl) (zO O1497.2.1 (tv0 O1497.2.1) aw0 rfl) rfl (qV_le (by decide) (c_put (d := 0) (S := (N + 16)) O1497.2.1 hx1497 (by omega) (by omega))) (fun h1498 hR1498 => ?_)
  obtain ⟨τ1498, O1498, ⟨x1498, hx1498, ex1498⟩, p14980, p14981, p14982, p14983⟩ := hR1498
  refine y_same (i := .aload_n 0) (len := 1) (r := (0, 0, 0, 0)) (pc' := 43) (ls' := [some (.inl (some 0)), some (zi a1), some (zi a2), some (zi a3), some (zi a4), some (zi a5)]) (st' := [.inl (some 0)]) (by decide +kernel) (fun k q => by cases q) rfl ?_
  refine y_get (j := 13) (len := 3) (r := (11, 1, 0, 400)) (by decide +kernel) O1498.2.1 (tv0 O1498.2.1) aw0 rfl rfl hx1498 ?_
  refine y_rI (len := 1) (r := (0, 0, 0, 0)) (nL := 6) (k := 1) (n9 := 6) (hs := []) (by decide +kernel) rfl rfl ?_
  exact ⟨_, ⟨(aup_trans (aup_trans (aup_trans (aup_trans O1494.1 O1495.1) O1496.1) O1497.1) O1498.1), O1498.2.1, fun k T j hk (hC : (k ≠ 0 ∨ j ≠ 1) ∧ (k ≠ 1 ∨ j < N ∨ N + 20 ≤ j)) => ((O1498.2.2 k T j (O1497.1 _ _ (O1496.1 _ _ (O1495.1 _ _ (O1494.1 _ _ hk)))) (show (k ≠ 0 ∨ j ≠ 1) ∧ (k ≠ 1 ∨ j < (N + 16) ∨ (N + 16) + 4 ≤ j) by omega)).trans ((O1497.2.2 k T j (O1496.1 _ _ (O1495.1 _ _ (O1494.1 _ _ hk))) (show (k ≠ 0 ∨ j ≠ 1) ∧ (k ≠ 1 ∨ j < (N + 12) ∨ (N + 12) + 4 ≤ j) by omega)).trans ((O1496.2.2 k T j (O1495.1 _ _ (O1494.1 _ _ hk)) (show (k ≠ 0 ∨ j ≠ 1) ∧ (k ≠ 1 ∨ j < (N + 8) ∨ (N + 8) + 4 ≤ j) by omega)).trans ((O1495.2.2 k T j (O1494.1 _ _ hk) (show (k ≠ 0 ∨ j ≠ 1) ∧ (k ≠ 1 ∨ j < (N + 4) ∨ (N + 4) + 4 ≤ j) by omega)).trans (O1494.2.2 k T j hk (show (k ≠ 0 ∨ j ≠ 1) ∧ (k ≠ 1 ∨ j < N ∨ N + 4 ≤ j) by omega))))))⟩, ⟨_, hx1498, by omega⟩, (((O1498.2.2 1 1 N (tv1 O1497.2.1) (show (1 ≠ 0 ∨ N ≠ 1) ∧ (1 ≠ 1 ∨ N < (N + 16) ∨ (N + 16) + 4 ≤ N) by omega)).trans ((O1497.2.2 1 1 N (tv1 O1496.2.1) (show (1 ≠ 0 ∨ N ≠ 1) ∧ (1 ≠ 1 ∨ N < (N + 12) ∨ (N + 12) + 4 ≤ N) by omega)).trans ((O1496.2.2 1 1 N (tv1 O1495.2.1) (show (1 ≠ 0 ∨ N ≠ 1) ∧ (1 ≠ 1 ∨ N < (N + 8) ∨ (N + 8) + 4 ≤ N) by omega)).trans (O1495.2.2 1 1 N (tv1 O1494.2.1) (show (1 ≠ 0 ∨ N ≠ 1) ∧ (1 ≠ 1 ∨ N < (N + 4) ∨ (N + 4) + 4 ≤ N) by omega))))).trans p14940), (((O1498.2.2 1 1 (N + 1) (tv1 O1497.2.1) (show (1 ≠ 0 ∨ (N + 1) ≠ 1) ∧ (1 ≠ 1 ∨ (N + 1) < (N + 16) ∨ (N + 16) + 4 ≤ (N + 1)) by omega)).trans ((O1497.2.2 1 1 (N + 1) (tv1 O1496.2.1) (show (1 ≠ 0 ∨ (N + 1) ≠ 1) ∧ (1 ≠ 1 ∨ (N + 1) < (N + 12) ∨ (N + 12) + 4 ≤ (N + 1)) by omega)).trans ((O1496.2.2 1 1 (N + 1) (tv1 O1495.2.1) (show (1 ≠ 0 ∨ (N + 1) ≠ 1) ∧ (1 ≠ 1 ∨ (N + 1) < (N + 8) ∨ (N + 8) + 4 ≤ (N + 1)) by omega)).trans (O1495.2.2 1 1 (N + 1) (tv1 O1494.2.1) (show (1 ≠ 0 ∨ (N + 1) ≠ 1) ∧ (1 ≠ 1 ∨ (N + 1) < (N + 4) ∨ (N + 4) + 4 ≤ (N + 1)) by omega))))).trans p14941), (((O1498.2.2 1 1 (N + 2) (tv1 O1497.2.1) (show (1 ≠ 0 ∨ (N + 2) ≠ 1) ∧ (1 ≠ 1 ∨ (N + 2) < (N + 16) ∨ (N + 16) + 4 ≤ (N + 2)) by omega)).trans ((O1497.2.2 1 1 (N + 2) (tv1 O1496.2.1) (show (1 ≠ 0 ∨ (N + 2) ≠ 1) ∧ (1 ≠ 1 ∨ (N + 2) < (N + 12) ∨ (N + 12) + 4 ≤ (N + 2)) by omega)).trans ((O1496.2.2 1 1 (N + 2) (tv1 O1495.2.1) (show (1 ≠ 0 ∨ (N + 2) ≠ 1) ∧ (1 ≠ 1 ∨ (N + 2) < (N + 8) ∨ (N + 8) + 4 ≤ (N + 2)) by omega)).trans (O1495.2.2 1 1 (N + 2) (tv1 O1494.2.1) (show (1 ≠ 0 ∨ (N + 2) ≠ 1) ∧ (1 ≠ 1 ∨ (N + 2) < (N + 4) ∨ (N + 4) + 4 ≤ (N + 2)) by omega))))).trans p14942), (((O1498.2.2 1 1 (N + 3) (tv1 O1497.2.1) (show (1 ≠ 0 ∨ (N + 3) ≠ 1) ∧ (1 ≠ 1 ∨ (N + 3) < (N + 16) ∨ (N + 16) + 4 ≤ (N + 3)) by omega)).trans ((O1497.2.2 1 1 (N + 3) (tv1 O1496.2.1) (show (1 ≠ 0 ∨ (N + 3) ≠ 1) ∧ (1 ≠ 1 ∨ (N + 3) < (N + 12) ∨ (N + 12) + 4 ≤ (N + 3)) by omega)).trans ((O1496.2.2 1 1 (N + 3) (tv1 O1495.2.1) (show (1 ≠ 0 ∨ (N + 3) ≠ 1) ∧ (1 ≠ 1 ∨ (N + 3) < (N + 8) ∨ (N + 8) + 4 ≤ (N + 3)) by omega)).trans (O1495.2.2 1 1 (N + 3) (tv1 O1494.2.1) (show (1 ≠ 0 ∨ (N + 3) ≠ 1) ∧ (1 ≠ 1 ∨ (N + 3) < (N + 4) ∨ (N + 4) + 4 ≤ (N + 3)) by omega))))).trans p14943), (((O1498.2.2 1 1 (N + 4) (tv1 O1497.2.1) (show (1 ≠ 0 ∨ (N + 4) ≠ 1) ∧ (1 ≠ 1 ∨ (N + 4) < (N + 16) ∨ (N + 16) + 4 ≤ (N + 4)) by omega)).trans ((O1497.2.2 1 1 (N + 4) (tv1 O1496.2.1) (show (1 ≠ 0 ∨ (N + 4) ≠ 1) ∧ (1 ≠ 1 ∨ (N + 4) < (N + 12) ∨ (N + 12) + 4 ≤ (N + 4)) by omega)).trans (O1496.2.2 1 1 (N + 4) (tv1 O1495.2.1) (show (1 ≠ 0 ∨ (N + 4) ≠ 1) ∧ (1 ≠ 1 ∨ (N + 4) < (N + 8) ∨ (N + 8) + 4 ≤ (N + 4)) by omega)))).trans p14950), (((O1498.2.2 1 1 (N + 5) (tv1 O1497.2.1) (show (1 ≠ 0 ∨ (N + 5) ≠ 1) ∧ (1 ≠ 1 ∨ (N + 5) < (N + 16) ∨ (N + 16) + 4 ≤ (N + 5)) by omega)).trans ((O1497.2.2 1 1 (N + 5) (tv1 O1496.2.1) (show (1 ≠ 0 ∨ (N + 5) ≠ 1) ∧ (1 ≠ 1 ∨ (N + 5) < (N + 12) ∨ (N + 12) + 4 ≤ (N + 5)) by omega)).trans (O1496.2.2 1 1 (N + 5) (tv1 O1495.2.1) (show (1 ≠ 0 ∨ (N + 5) ≠ 1) ∧ (1 ≠ 1 ∨ (N + 5) < (N + 8) ∨ (N + 8) + 4 ≤ (N + 5)) by omega)))).trans p14951), (((O1498.2.2 1 1 (N + 6) (tv1 O1497.2.1) (show (1 ≠ 0 ∨ (N + 6) ≠ 1) ∧ (1 ≠ 1 ∨ (N + 6) < (N + 16) ∨ (N + 16) + 4 ≤ (N + 6)) by omega)).trans ((O1497.2.2 1 1 (N + 6) (tv1 O1496.2.1) (show (1 ≠ 0 ∨ (N + 6) ≠ 1) ∧ (1 ≠ 1 ∨ (N + 6) < (N + 12) ∨ (N + 12) + 4 ≤ (N + 6)) by omega)).trans (O1496.2.2 1 1 (N + 6) (tv1 O1495.2.1) (show (1 ≠ 0 ∨ (N + 6) ≠ 1) ∧ (1 ≠ 1 ∨ (N + 6) < (N + 8) ∨ (N + 8) + 4 ≤ (N + 6)) by omega)))).trans p14952), (((O1498.2.2 1 1 (N + 7) (tv1 O1497.2.1) (show (1 ≠ 0 ∨ (N + 7) ≠ 1) ∧ (1 ≠ 1 ∨ (N + 7) < (N + 16) ∨ (N + 16) + 4 ≤ (N + 7)) by omega)).trans ((O1497.2.2 1 1 (N + 7) (tv1 O1496.2.1) (show (1 ≠ 0 ∨ (N + 7) ≠ 1) ∧ (1 ≠ 1 ∨ (N + 7) < (N + 12) ∨ (N + 12) + 4 ≤ (N + 7)) by omega)).trans (O1496.2.2 1 1 (N + 7) (tv1 O1495.2.1) (show (1 ≠ 0 ∨ (N + 7) ≠ 1) ∧ (1 ≠ 1 ∨ (N + 7) < (N + 8) ∨ (N + 8) + 4 ≤ (N + 7)) by omega)))).trans p14953), (((O1498.2.2 1 1 (N + 8) (tv1 O1497.2.1) (show (1 ≠ 0 ∨ (N + 8) ≠ 1) ∧ (1 ≠ 1 ∨ (N + 8) < (N + 16) ∨ (N + 16) + 4 ≤ (N + 8)) by omega)).trans (O1497.2.2 1 1 (N + 8) (tv1 O1496.2.1) (show (1 ≠ 0 ∨ (N + 8) ≠ 1) ∧ (1 ≠ 1 ∨ (N + 8) < (N + 12) ∨ (N + 12) + 4 ≤ (N + 8)) by omega))).trans p14960), (((O1498.2.2 1 1 (N + 9) (tv1 O1497.2.1) (show (1 ≠ 0 ∨ (N + 9) ≠ 1) ∧ (1 ≠ 1 ∨ (N + 9) < (N + 16) ∨ (N + 16) + 4 ≤ (N + 9)) by omega)).trans (O1497.2.2 1 1 (N + 9) (tv1 O1496.2.1) (show (1 ≠ 0 ∨ (N + 9) ≠ 1) ∧ (1 ≠ 1 ∨ (N + 9) < (N + 12) ∨ (N + 12) + 4 ≤ (N + 9)) by omega))).trans p14961), (((O1498.2.2 1 1 (N + 10) (tv1 O1497.2.1) (show (1 ≠ 0 ∨ (N + 10) ≠ 1) ∧ (1 ≠ 1 ∨ (N + 10) < (N + 16) ∨ (N + 16) + 4 ≤ (N + 10)) by omega)).trans (O1497.2.2 1 1 (N + 10) (tv1 O1496.2.1) (show (1 ≠ 0 ∨ (N + 10) ≠ 1) ∧ (1 ≠ 1 ∨ (N + 10) < (N + 12) ∨ (N + 12) + 4 ≤ (N + 10)) by omega))).trans p14962), (((O1498.2.2 1 1 (N + 11) (tv1 O1497.2.1) (show (1 ≠ 0 ∨ (N + 11) ≠ 1) ∧ (1 ≠ 1 ∨ (N + 11) < (N + 16) ∨ (N + 16) + 4 ≤ (N + 11)) by omega)).trans (O1497.2.2 1 1 (N + 11) (tv1 O1496.2.1) (show (1 ≠ 0 ∨ (N + 11) ≠ 1) ∧ (1 ≠ 1 ∨ (N + 11) < (N + 12) ∨ (N + 12) + 4 ≤ (N + 11)) by omega))).trans p14963), ((O1498.2.2 1 1 (N + 12) (tv1 O1497.2.1) (show (1 ≠ 0 ∨ (N + 12) ≠ 1) ∧ (1 ≠ 1 ∨ (N + 12) < (N + 16) ∨ (N + 16) + 4 ≤ (N + 12)) by omega)).trans p14970), ((O1498.2.2 1 1 (N + 13) (tv1 O1497.2.1) (show (1 ≠ 0 ∨ (N + 13) ≠ 1) ∧ (1 ≠ 1 ∨ (N + 13) < (N + 16) ∨ (N + 16) + 4 ≤ (N + 13)) by omega)).trans p14971), ((O1498.2.2 1 1 (N + 14) (tv1 O1497.2.1) (show (1 ≠ 0 ∨ (N + 14) ≠ 1) ∧ (1 ≠ 1 ∨ (N + 14) < (N + 16) ∨ (N + 16) + 4 ≤ (N + 14)) by omega)).trans p14972), ((O1498.2.2 1 1 (N + 15) (tv1 O1497.2.1) (show (1 ≠ 0 ∨ (N + 15) ≠ 1) ∧ (1 ≠ 1 ∨ (N + 15) < (N + 16) ∨ (N + 16) + 4 ≤ (N + 15)) by omega)).trans p14973), p14980, p14981, p14982, p14983⟩
theorem mf_0 {t N : Nat} {P : zo × zh × Nat → Prop} {τ : List Nat} {h : zh} {xT a1 a2 a3 a4 a5 xi : Int32} (hg : hG τ h) (hT : hsl h 52 2 = some (zi xT)) (eT : xT.toInt = ((N + 0 : Nat) : Int)) (hT2 : N + 20 ≤ 200) (hxi : xi.toInt = 0) (kk : ∀ (h1 : zh) (x1 xi1 x71 : Int32), oF (fun k j => (k ≠ 52 ∨ j ≠ 2) ∧ (k ≠ 54 ∨ j ≠ N + 0)) τ h τ h1 → hsl h1 52 2 = some (zi x1) → x1.toInt = ((N + 1 : Nat) : Int) → hsl h1 54 (N + 0) = some (zi (bf a1 0)) → xi1.toInt = 1 → qX 3 165 23 [some (.inl (some 52)), some (zi a1), some (zi a2), some (zi a3), some (zi a4), some (zi a5), some (zi xi1), some (zi x71)] [] h1 t P) : qX 3 165 23 [some (.inl (some 52)), some (zi a1), some (zi a2), some (zi a3), some (zi a4), some (zi a5), some (zi xi), none] [] h t P := by
  refine y_same (i := .iload 6) (len := 2) (r := (0, 0, 0, 0)) (pc' := 25) (ls' := [some (.inl (some 52)), some (zi a1), some (zi a2), some (zi a3), some (zi a4), some (zi a5), some (zi xi), none]) (st' := [zi xi]) (by decide +kernel) (fun k q => by cases q) rfl ?_
  refine y_bi (c := 20) (len := 2) (r := (0, 0, 0, 0)) (by decide +kernel) (by decide) (fun y1499 hy1499 => ?_)
  refine y_cF (c := .ge) (off := 93) (len := 3) (r := (0, 0, 0, 0)) (by decide +kernel) (acmpF (c := .ge) (by show _ < _; omega)) ?_
  refine y_same (i := .iload 6) (len := 2) (r := (0, 0, 0, 0)) (pc' := 32) (ls' := [some (.inl (some 52)), some (zi a1), some (zi a2), some (zi a3), some (zi a4), some (zi a5), some (zi xi), none]) (st' := [zi xi]) (by decide +kernel) (fun k q => by cases q) rfl ?_
  refine y_ic (c := 4) (len := 1) (r := (0, 0, 0, 0)) (by decide +kernel) (by decide) (fun y1500 hy1500 => ?_)
  refine y_cF (c := .ge) (off := 7) (len := 3) (r := (0, 0, 0, 0)) (by decide +kernel) (acmpF (c := .ge) (by show _ < _; omega)) ?_
  refine y_same (i := .iload_n 1) (len := 1) (r := (0, 0, 0, 0)) (pc' := 37) (ls' := [some (.inl (some 52)), some (zi a1), some (zi a2), some (zi a3), some (zi a4), some (zi a5), some (zi xi), none]) (st' := [zi a1]) (by decide +kernel) (fun k q => by cases q) rfl ?_
  refine y_goto (off := 39) (pc' := 76) (len := 3) (r := (0, 0, 0, 0)) (by decide +kernel) (by decide +kernel) ?_
  refine y_same (i := .istore 7) (len := 2) (r := (0, 0, 0, 0)) (pc' := 78) (ls' := [some (.inl (some 52)), some (zi a1), some (zi a2), some (zi a3), some (zi a4), some (zi a5), some (zi xi), some (zi a1)]) (st' := []) (by decide +kernel) (fun k q => by cases q) rfl ?_
  refine y_same (i := .aload_n 0) (len := 1) (r := (0, 0, 0, 0)) (pc' := 79) (ls' := [some (.inl (some 52)), some (zi a1), some (zi a2), some (zi a3), some (zi a4), some (zi a5), some (zi xi), some (zi a1)]) (st' := [.inl (some 52)]) (by decide +kernel) (fun k q => by cases q) rfl ?_
  refine y_get (j := 17) (len := 3) (r := (12, 8, 2, 1336)) (by decide +kernel) hg (t52 hg) at52 rfl rfl (g_r52 (f := 8) (T2 := 54) hg rfl (by decide)).1 ?_
  refine y_same (i := .aload_n 0) (len := 1) (r := (0, 0, 0, 0)) (pc' := 83) (ls' := [some (.inl (some 52)), some (zi a1), some (zi a2), some (zi a3), some (zi a4), some (zi a5), some (zi xi), some (zi a1)]) (st' := [.inl (some 52), .inl (some 54)]) (by decide +kernel) (fun k q => by cases q) rfl ?_
  refine y_get (j := 95) (len := 3) (r := (12, 2, 0, 1330)) (by decide +kernel) hg (t52 hg) at52 rfl rfl hT ?_
  refine y_same (i := .iload 7) (len := 2) (r := (0, 0, 0, 0)) (pc' := 88) (ls' := [some (.inl (some 52)), some (zi a1), some (zi a2), some (zi a3), some (zi a4), some (zi a5), some (zi xi), some (zi a1)]) (st' := [zi a1, zi xT, .inl (some 54)]) (by decide +kernel) (fun k q => by cases q) rfl ?_
  refine y_bi (c := 24) (len := 2) (r := (0, 0, 0, 0)) (by decide +kernel) (by decide) (fun y1501 hy1501 => ?_)
  refine y_bi (c := 8) (len := 2) (r := (0, 0, 0, 0)) (by decide +kernel) (by decide) (fun y1502 hy1502 => ?_)
  refine y_same (i := .iload 6) (len := 2) (r := (0, 0, 0, 0)) (pc' := 94) (ls' := [some (.inl (some 52)), some (zi a1), some (zi a2), some (zi a3), some (zi a4), some (zi a5), some (zi xi), some (zi a1)]) (st' := [zi xi, zi y1502, zi y1501, zi a1, zi xT, .inl (some 54)]) (by decide +kernel) (fun k q => by cases q) rfl ?_
  refine y_ic (c := 4) (len := 1) (r := (0, 0, 0, 0)) (by decide +kernel) (by decide) (fun y1503 hy1503 => ?_)
  refine y_rem (c := 0) (e := 4) (w := 0) (len := 1) (r := (0, 0, 0, 0)) (by decide +kernel) (ofI2 (c := 0) (by omega) (by decide)) (ofI2 (c := 4) (by omega) (by decide)) (by first | rfl | decide +kernel) ?_
  obtain ⟨w1504, hw1504⟩ : ∃ z : Int32, (0 : Int32) = z := ⟨_, rfl⟩
  rw [hw1504]
  have ew1504 : w1504.toInt = 0 := by rw [← hw1504]; decide
  refine y_mul (c := 8) (len := 1) (r := (0, 0, 0, 0)) (by decide +kernel) (by omega) (by omega) (by omega) (fun y1505 hy1505 => ?_)
  refine y_sub (len := 1) (r := (0, 0, 0, 0)) (by decide +kernel) (by omega) (by omega) (fun y1506 hy1506 => ?_)
  refine y_bp (i := .ishr) (f := fun x y => x >>> (y &&& 31)) (len := 1) (r := (0, 0, 0, 0)) (by decide +kernel) rfl rfl (fun y1507 hy1507 => ?_)
  have hy1507 : y1507 = a1 >>> (y1506 &&& 31) := hy1507
  refine y_si (c := 255) (len := 3) (r := (0, 0, 0, 0)) (by decide +kernel) (by decide) (fun y1508 hy1508 => ?_)
  refine y_bp (i := .iand) (f := fun x y => x &&& y) (len := 1) (r := (0, 0, 0, 0)) (by decide +kernel) rfl rfl (fun y1509 hy1509 => ?_)
  have hy1509 : y1509 = y1507 &&& y1508 := hy1509
  have by1509 := and255 (x := y1507) (by omega) hy1509
  refine y_ias (i := N) (len := 1) (r := (0, 0, 0, 0)) (by decide +kernel) hg (tu54 hg) at54 rfl (by omega) (by omega) (sr1 (by omega)) (by omega) (by omega) (fun h1510 hg1510 hl1510 hs1510 ho1510 => ?_)
  refine y_same (i := .aload_n 0) (len := 1) (r := (0, 0, 0, 0)) (pc' := 105) (ls' := [some (.inl (some 52)), some (zi a1), some (zi a2), some (zi a3), some (zi a4), some (zi a5), some (zi xi), some (zi a1)]) (st' := [.inl (some 52)]) (by decide +kernel) (fun k q => by cases q) rfl ?_
  refine y_same (i := .dup) (len := 1) (r := (0, 0, 0, 0)) (pc' := 106) (ls' := [some (.inl (some 52)), some (zi a1), some (zi a2), some (zi a3), some (zi a4), some (zi a5), some (zi xi), some (zi a1)]) (st' := [.inl (some 52), .inl (some 52)]) (by decide +kernel) (fun k q => by cases q) rfl ?_
  have hv1511 := (ho1510 52 2 (Or.inl (by omega))).trans hT
  refine y_get (j := 95) (len := 3) (r := (12, 2, 0, 1330)) (by decide +kernel) hg1510 (t52 hg1510) at52 rfl rfl hv1511 ?_
  refine y_ic (c := 1) (len := 1) (r := (0, 0, 0, 0)) (by decide +kernel) (by decide) (fun y1512 hy1512 => ?_)
  refine y_add (len := 1) (r := (0, 0, 0, 0)) (by decide +kernel) (by omega) (by omega) (fun y1513 hy1513 => ?_)
  refine y_put (j := 95) (lo := 0) (hi := 200) (len := 3) (r := (12, 2, 0, 1330)) (by decide +kernel) hg1510 (t52 hg1510) at52 rfl rfl (by decide) rfl (by omega) (by omega) rfl (fun h1514 hg1514 hl1514 hs1514 ho1514 => ?_)
  have ho1514 : hO 52 2 h1510 h1514 := ho1514
  have hs1514 : hsl h1514 52 2 = some (zi y1513) := hs1514
  refine y_inc (j := 6) (a := xi) (c := 1) (ls' := fun v => [some (.inl (some 52)), some (zi a1), some (zi a2), some (zi a3), some (zi a4), some (zi a5), some v, some (zi a1)]) (len := 3) (r := (0, 0, 0, 0)) (by decide +kernel) rfl (fun _ => rfl) (by decide) (by omega) (by omega) (fun y1515 hy1515 => ?_)
  show qX 3 165 117 [some (.inl (some 52)), some (zi a1), some (zi a2), some (zi a3), some (zi a4), some (zi a5), some (zi y1515), some (zi a1)] [] h1514 t _
  refine y_goto (off := (-94)) (pc' := 23) (len := 3) (r := (0, 0, 0, 0)) (by decide +kernel) (by decide +kernel) ?_
  have hv1516 := (ho1514 54 N (Or.inl (by omega))).trans hs1510
  exact kk _ _ _ _ ⟨(aup_refl _), hg1514, fun k T j hk (hC : (k ≠ 52 ∨ j ≠ 2) ∧ (k ≠ 54 ∨ j ≠ N + 0)) => ((ho1514 k j (by omega)).trans (ho1510 k j (by omega)))⟩ hs1514 (by omega) ((show y1509 = bf a1 0 by rw [hy1509, hy1507, ofI2 (y := y1506) (w := 24) (c := 24) (by omega) (by decide), ofI2 (y := y1508) (w := 255) (c := 255) (by omega) (by decide)]; rfl) ▸ hv1516) (by omega)
theorem mf_1 {t N : Nat} {P : zo × zh × Nat → Prop} {τ : List Nat} {h : zh} {xT a1 a2 a3 a4 a5 xi x7 : Int32} (hg : hG τ h) (hT : hsl h 52 2 = some (zi xT)) (eT : xT.toInt = ((N + 1 : Nat) : Int)) (hT2 : N + 20 ≤ 200) (hxi : xi.toInt = 1) (kk : ∀ (h1 : zh) (x1 xi1 x71 : Int32), oF (fun k j => (k ≠ 52 ∨ j ≠ 2) ∧ (k ≠ 54 ∨ j ≠ N + 1)) τ h τ h1 → hsl h1 52 2 = some (zi x1) → x1.toInt = ((N + 2 : Nat) : Int) → hsl h1 54 (N + 1) = some (zi (bf a1 1)) → xi1.toInt = 2 → qX 3 165 23 [some (.inl (some 52)), some (zi a1), some (zi a2), some (zi a3), some (zi a4), some (zi a5), some (zi xi1), some (zi x71)] [] h1 t P) : qX 3 165 23 [some (.inl (some 52)), some (zi a1), some (zi a2), some (zi a3), some (zi a4), some (zi a5), some (zi xi), some (zi x7)] [] h t P := by
  refine y_same (i := .iload 6) (len := 2) (r := (0, 0, 0, 0)) (pc' := 25) (ls' := [some (.inl (some 52)), some (zi a1), some (zi a2), some (zi a3), some (zi a4), some (zi a5), some (zi xi), some (zi x7)]) (st' := [zi xi]) (by decide +kernel) (fun k q => by cases q) rfl ?_
  refine y_bi (c := 20) (len := 2) (r := (0, 0, 0, 0)) (by decide +kernel) (by decide) (fun y1517 hy1517 => ?_)
  refine y_cF (c := .ge) (off := 93) (len := 3) (r := (0, 0, 0, 0)) (by decide +kernel) (acmpF (c := .ge) (by show _ < _; omega)) ?_
  refine y_same (i := .iload 6) (len := 2) (r := (0, 0, 0, 0)) (pc' := 32) (ls' := [some (.inl (some 52)), some (zi a1), some (zi a2), some (zi a3), some (zi a4), some (zi a5), some (zi xi), some (zi x7)]) (st' := [zi xi]) (by decide +kernel) (fun k q => by cases q) rfl ?_
  refine y_ic (c := 4) (len := 1) (r := (0, 0, 0, 0)) (by decide +kernel) (by decide) (fun y1518 hy1518 => ?_)
  refine y_cF (c := .ge) (off := 7) (len := 3) (r := (0, 0, 0, 0)) (by decide +kernel) (acmpF (c := .ge) (by show _ < _; omega)) ?_
  refine y_same (i := .iload_n 1) (len := 1) (r := (0, 0, 0, 0)) (pc' := 37) (ls' := [some (.inl (some 52)), some (zi a1), some (zi a2), some (zi a3), some (zi a4), some (zi a5), some (zi xi), some (zi x7)]) (st' := [zi a1]) (by decide +kernel) (fun k q => by cases q) rfl ?_
  refine y_goto (off := 39) (pc' := 76) (len := 3) (r := (0, 0, 0, 0)) (by decide +kernel) (by decide +kernel) ?_
  refine y_same (i := .istore 7) (len := 2) (r := (0, 0, 0, 0)) (pc' := 78) (ls' := [some (.inl (some 52)), some (zi a1), some (zi a2), some (zi a3), some (zi a4), some (zi a5), some (zi xi), some (zi a1)]) (st' := []) (by decide +kernel) (fun k q => by cases q) rfl ?_
  refine y_same (i := .aload_n 0) (len := 1) (r := (0, 0, 0, 0)) (pc' := 79) (ls' := [some (.inl (some 52)), some (zi a1), some (zi a2), some (zi a3), some (zi a4), some (zi a5), some (zi xi), some (zi a1)]) (st' := [.inl (some 52)]) (by decide +kernel) (fun k q => by cases q) rfl ?_
  refine y_get (j := 17) (len := 3) (r := (12, 8, 2, 1336)) (by decide +kernel) hg (t52 hg) at52 rfl rfl (g_r52 (f := 8) (T2 := 54) hg rfl (by decide)).1 ?_
  refine y_same (i := .aload_n 0) (len := 1) (r := (0, 0, 0, 0)) (pc' := 83) (ls' := [some (.inl (some 52)), some (zi a1), some (zi a2), some (zi a3), some (zi a4), some (zi a5), some (zi xi), some (zi a1)]) (st' := [.inl (some 52), .inl (some 54)]) (by decide +kernel) (fun k q => by cases q) rfl ?_
  refine y_get (j := 95) (len := 3) (r := (12, 2, 0, 1330)) (by decide +kernel) hg (t52 hg) at52 rfl rfl hT ?_
  refine y_same (i := .iload 7) (len := 2) (r := (0, 0, 0, 0)) (pc' := 88) (ls' := [some (.inl (some 52)), some (zi a1), some (zi a2), some (zi a3), some (zi a4), some (zi a5), some (zi xi), some (zi a1)]) (st' := [zi a1, zi xT, .inl (some 54)]) (by decide +kernel) (fun k q => by cases q) rfl ?_
  refine y_bi (c := 24) (len := 2) (r := (0, 0, 0, 0)) (by decide +kernel) (by decide) (fun y1519 hy1519 => ?_)
  refine y_bi (c := 8) (len := 2) (r := (0, 0, 0, 0)) (by decide +kernel) (by decide) (fun y1520 hy1520 => ?_)
  refine y_same (i := .iload 6) (len := 2) (r := (0, 0, 0, 0)) (pc' := 94) (ls' := [some (.inl (some 52)), some (zi a1), some (zi a2), some (zi a3), some (zi a4), some (zi a5), some (zi xi), some (zi a1)]) (st' := [zi xi, zi y1520, zi y1519, zi a1, zi xT, .inl (some 54)]) (by decide +kernel) (fun k q => by cases q) rfl ?_
  refine y_ic (c := 4) (len := 1) (r := (0, 0, 0, 0)) (by decide +kernel) (by decide) (fun y1521 hy1521 => ?_)
  refine y_rem (c := 1) (e := 4) (w := 1) (len := 1) (r := (0, 0, 0, 0)) (by decide +kernel) (ofI2 (c := 1) (by omega) (by decide)) (ofI2 (c := 4) (by omega) (by decide)) (by first | rfl | decide +kernel) ?_
  obtain ⟨w1522, hw1522⟩ : ∃ z : Int32, (1 : Int32) = z := ⟨_, rfl⟩
  rw [hw1522]
  have ew1522 : w1522.toInt = 1 := by rw [← hw1522]; decide
  refine y_mul (c := 8) (len := 1) (r := (0, 0, 0, 0)) (by decide +kernel) (by omega) (by omega) (by omega) (fun y1523 hy1523 => ?_)
  refine y_sub (len := 1) (r := (0, 0, 0, 0)) (by decide +kernel) (by omega) (by omega) (fun y1524 hy1524 => ?_)
  refine y_bp (i := .ishr) (f := fun x y => x >>> (y &&& 31)) (len := 1) (r := (0, 0, 0, 0)) (by decide +kernel) rfl rfl (fun y1525 hy1525 => ?_)
  have hy1525 : y1525 = a1 >>> (y1524 &&& 31) := hy1525
  refine y_si (c := 255) (len := 3) (r := (0, 0, 0, 0)) (by decide +kernel) (by decide) (fun y1526 hy1526 => ?_)
  refine y_bp (i := .iand) (f := fun x y => x &&& y) (len := 1) (r := (0, 0, 0, 0)) (by decide +kernel) rfl rfl (fun y1527 hy1527 => ?_)
  have hy1527 : y1527 = y1525 &&& y1526 := hy1527
  have by1527 := and255 (x := y1525) (by omega) hy1527
  refine y_ias (i := (N + 1)) (len := 1) (r := (0, 0, 0, 0)) (by decide +kernel) hg (tu54 hg) at54 rfl (by omega) (by omega) (sr1 (by omega)) (by omega) (by omega) (fun h1528 hg1528 hl1528 hs1528 ho1528 => ?_)
  refine y_same (i := .aload_n 0) (len := 1) (r := (0, 0, 0, 0)) (pc' := 105) (ls' := [some (.inl (some 52)), some (zi a1), some (zi a2), some (zi a3), some (zi a4), some (zi a5), some (zi xi), some (zi a1)]) (st' := [.inl (some 52)]) (by decide +kernel) (fun k q => by cases q) rfl ?_
  refine y_same (i := .dup) (len := 1) (r := (0, 0, 0, 0)) (pc' := 106) (ls' := [some (.inl (some 52)), some (zi a1), some (zi a2), some (zi a3), some (zi a4), some (zi a5), some (zi xi), some (zi a1)]) (st' := [.inl (some 52), .inl (some 52)]) (by decide +kernel) (fun k q => by cases q) rfl ?_
  have hv1529 := (ho1528 52 2 (Or.inl (by omega))).trans hT
  refine y_get (j := 95) (len := 3) (r := (12, 2, 0, 1330)) (by decide +kernel) hg1528 (t52 hg1528) at52 rfl rfl hv1529 ?_
  refine y_ic (c := 1) (len := 1) (r := (0, 0, 0, 0)) (by decide +kernel) (by decide) (fun y1530 hy1530 => ?_)
  refine y_add (len := 1) (r := (0, 0, 0, 0)) (by decide +kernel) (by omega) (by omega) (fun y1531 hy1531 => ?_)
  refine y_put (j := 95) (lo := 0) (hi := 200) (len := 3) (r := (12, 2, 0, 1330)) (by decide +kernel) hg1528 (t52 hg1528) at52 rfl rfl (by decide) rfl (by omega) (by omega) rfl (fun h1532 hg1532 hl1532 hs1532 ho1532 => ?_)
  have ho1532 : hO 52 2 h1528 h1532 := ho1532
  have hs1532 : hsl h1532 52 2 = some (zi y1531) := hs1532
  refine y_inc (j := 6) (a := xi) (c := 1) (ls' := fun v => [some (.inl (some 52)), some (zi a1), some (zi a2), some (zi a3), some (zi a4), some (zi a5), some v, some (zi a1)]) (len := 3) (r := (0, 0, 0, 0)) (by decide +kernel) rfl (fun _ => rfl) (by decide) (by omega) (by omega) (fun y1533 hy1533 => ?_)
  show qX 3 165 117 [some (.inl (some 52)), some (zi a1), some (zi a2), some (zi a3), some (zi a4), some (zi a5), some (zi y1533), some (zi a1)] [] h1532 t _
  refine y_goto (off := (-94)) (pc' := 23) (len := 3) (r := (0, 0, 0, 0)) (by decide +kernel) (by decide +kernel) ?_
  have hv1534 := (ho1532 54 (N + 1) (Or.inl (by omega))).trans hs1528
  exact kk _ _ _ _ ⟨(aup_refl _), hg1532, fun k T j hk (hC : (k ≠ 52 ∨ j ≠ 2) ∧ (k ≠ 54 ∨ j ≠ N + 1)) => ((ho1532 k j (by omega)).trans (ho1528 k j (by omega)))⟩ hs1532 (by omega) ((show y1527 = bf a1 1 by rw [hy1527, hy1525, ofI2 (y := y1524) (w := 16) (c := 16) (by omega) (by decide), ofI2 (y := y1526) (w := 255) (c := 255) (by omega) (by decide)]; rfl) ▸ hv1534) (by omega)
theorem mf_2 {t N : Nat} {P : zo × zh × Nat → Prop} {τ : List Nat} {h : zh} {xT a1 a2 a3 a4 a5 xi x7 : Int32} (hg : hG τ h) (hT : hsl h 52 2 = some (zi xT)) (eT : xT.toInt = ((N + 2 : Nat) : Int)) (hT2 : N + 20 ≤ 200) (hxi : xi.toInt = 2) (kk : ∀ (h1 : zh) (x1 xi1 x71 : Int32), oF (fun k j => (k ≠ 52 ∨ j ≠ 2) ∧ (k ≠ 54 ∨ j ≠ N + 2)) τ h τ h1 → hsl h1 52 2 = some (zi x1) → x1.toInt = ((N + 3 : Nat) : Int) → hsl h1 54 (N + 2) = some (zi (bf a1 2)) → xi1.toInt = 3 → qX 3 165 23 [some (.inl (some 52)), some (zi a1), some (zi a2), some (zi a3), some (zi a4), some (zi a5), some (zi xi1), some (zi x71)] [] h1 t P) : qX 3 165 23 [some (.inl (some 52)), some (zi a1), some (zi a2), some (zi a3), some (zi a4), some (zi a5), some (zi xi), some (zi x7)] [] h t P := by
  refine y_same (i := .iload 6) (len := 2) (r := (0, 0, 0, 0)) (pc' := 25) (ls' := [some (.inl (some 52)), some (zi a1), some (zi a2), some (zi a3), some (zi a4), some (zi a5), some (zi xi), some (zi x7)]) (st' := [zi xi]) (by decide +kernel) (fun k q => by cases q) rfl ?_
  refine y_bi (c := 20) (len := 2) (r := (0, 0, 0, 0)) (by decide +kernel) (by decide) (fun y1535 hy1535 => ?_)
  refine y_cF (c := .ge) (off := 93) (len := 3) (r := (0, 0, 0, 0)) (by decide +kernel) (acmpF (c := .ge) (by show _ < _; omega)) ?_
  refine y_same (i := .iload 6) (len := 2) (r := (0, 0, 0, 0)) (pc' := 32) (ls' := [some (.inl (some 52)), some (zi a1), some (zi a2), some (zi a3), some (zi a4), some (zi a5), some (zi xi), some (zi x7)]) (st' := [zi xi]) (by decide +kernel) (fun k q => by cases q) rfl ?_
  refine y_ic (c := 4) (len := 1) (r := (0, 0, 0, 0)) (by decide +kernel) (by decide) (fun y1536 hy1536 => ?_)
  refine y_cF (c := .ge) (off := 7) (len := 3) (r := (0, 0, 0, 0)) (by decide +kernel) (acmpF (c := .ge) (by show _ < _; omega)) ?_
  refine y_same (i := .iload_n 1) (len := 1) (r := (0, 0, 0, 0)) (pc' := 37) (ls' := [some (.inl (some 52)), some (zi a1), some (zi a2), some (zi a3), some (zi a4), some (zi a5), some (zi xi), some (zi x7)]) (st' := [zi a1]) (by decide +kernel) (fun k q => by cases q) rfl ?_
  refine y_goto (off := 39) (pc' := 76) (len := 3) (r := (0, 0, 0, 0)) (by decide +kernel) (by decide +kernel) ?_
  refine y_same (i := .istore 7) (len := 2) (r := (0, 0, 0, 0)) (pc' := 78) (ls' := [some (.inl (some 52)), some (zi a1), some (zi a2), some (zi a3), some (zi a4), some (zi a5), some (zi xi), some (zi a1)]) (st' := []) (by decide +kernel) (fun k q => by cases q) rfl ?_
  refine y_same (i := .aload_n 0) (len := 1) (r := (0, 0, 0, 0)) (pc' := 79) (ls' := [some (.inl (some 52)), some (zi a1), some (zi a2), some (zi a3), some (zi a4), some (zi a5), some (zi xi), some (zi a1)]) (st' := [.inl (some 52)]) (by decide +kernel) (fun k q => by cases q) rfl ?_
  refine y_get (j := 17) (len := 3) (r := (12, 8, 2, 1336)) (by decide +kernel) hg (t52 hg) at52 rfl rfl (g_r52 (f := 8) (T2 := 54) hg rfl (by decide)).1 ?_
  refine y_same (i := .aload_n 0) (len := 1) (r := (0, 0, 0, 0)) (pc' := 83) (ls' := [some (.inl (some 52)), some (zi a1), some (zi a2), some (zi a3), some (zi a4), some (zi a5), some (zi xi), some (zi a1)]) (st' := [.inl (some 52), .inl (some 54)]) (by decide +kernel) (fun k q => by cases q) rfl ?_
  refine y_get (j := 95) (len := 3) (r := (12, 2, 0, 1330)) (by decide +kernel) hg (t52 hg) at52 rfl rfl hT ?_
  refine y_same (i := .iload 7) (len := 2) (r := (0, 0, 0, 0)) (pc' := 88) (ls' := [some (.inl (some 52)), some (zi a1), some (zi a2), some (zi a3), some (zi a4), some (zi a5), some (zi xi), some (zi a1)]) (st' := [zi a1, zi xT, .inl (some 54)]) (by decide +kernel) (fun k q => by cases q) rfl ?_
  refine y_bi (c := 24) (len := 2) (r := (0, 0, 0, 0)) (by decide +kernel) (by decide) (fun y1537 hy1537 => ?_)
  refine y_bi (c := 8) (len := 2) (r := (0, 0, 0, 0)) (by decide +kernel) (by decide) (fun y1538 hy1538 => ?_)
  refine y_same (i := .iload 6) (len := 2) (r := (0, 0, 0, 0)) (pc' := 94) (ls' := [some (.inl (some 52)), some (zi a1), some (zi a2), some (zi a3), some (zi a4), some (zi a5), some (zi xi), some (zi a1)]) (st' := [zi xi, zi y1538, zi y1537, zi a1, zi xT, .inl (some 54)]) (by decide +kernel) (fun k q => by cases q) rfl ?_
  refine y_ic (c := 4) (len := 1) (r := (0, 0, 0, 0)) (by decide +kernel) (by decide) (fun y1539 hy1539 => ?_)
  refine y_rem (c := 2) (e := 4) (w := 2) (len := 1) (r := (0, 0, 0, 0)) (by decide +kernel) (ofI2 (c := 2) (by omega) (by decide)) (ofI2 (c := 4) (by omega) (by decide)) (by first | rfl | decide +kernel) ?_
  obtain ⟨w1540, hw1540⟩ : ∃ z : Int32, (2 : Int32) = z := ⟨_, rfl⟩
  rw [hw1540]
  have ew1540 : w1540.toInt = 2 := by rw [← hw1540]; decide
  refine y_mul (c := 8) (len := 1) (r := (0, 0, 0, 0)) (by decide +kernel) (by omega) (by omega) (by omega) (fun y1541 hy1541 => ?_)
  refine y_sub (len := 1) (r := (0, 0, 0, 0)) (by decide +kernel) (by omega) (by omega) (fun y1542 hy1542 => ?_)
  refine y_bp (i := .ishr) (f := fun x y => x >>> (y &&& 31)) (len := 1) (r := (0, 0, 0, 0)) (by decide +kernel) rfl rfl (fun y1543 hy1543 => ?_)
  have hy1543 : y1543 = a1 >>> (y1542 &&& 31) := hy1543
  refine y_si (c := 255) (len := 3) (r := (0, 0, 0, 0)) (by decide +kernel) (by decide) (fun y1544 hy1544 => ?_)
  refine y_bp (i := .iand) (f := fun x y => x &&& y) (len := 1) (r := (0, 0, 0, 0)) (by decide +kernel) rfl rfl (fun y1545 hy1545 => ?_)
  have hy1545 : y1545 = y1543 &&& y1544 := hy1545
  have by1545 := and255 (x := y1543) (by omega) hy1545
  refine y_ias (i := (N + 2)) (len := 1) (r := (0, 0, 0, 0)) (by decide +kernel) hg (tu54 hg) at54 rfl (by omega) (by omega) (sr1 (by omega)) (by omega) (by omega) (fun h1546 hg1546 hl1546 hs1546 ho1546 => ?_)
  refine y_same (i := .aload_n 0) (len := 1) (r := (0, 0, 0, 0)) (pc' := 105) (ls' := [some (.inl (some 52)), some (zi a1), some (zi a2), some (zi a3), some (zi a4), some (zi a5), some (zi xi), some (zi a1)]) (st' := [.inl (some 52)]) (by decide +kernel) (fun k q => by cases q) rfl ?_
  refine y_same (i := .dup) (len := 1) (r := (0, 0, 0, 0)) (pc' := 106) (ls' := [some (.inl (some 52)), some (zi a1), some (zi a2), some (zi a3), some (zi a4), some (zi a5), some (zi xi), some (zi a1)]) (st' := [.inl (some 52), .inl (some 52)]) (by decide +kernel) (fun k q => by cases q) rfl ?_
  have hv1547 := (ho1546 52 2 (Or.inl (by omega))).trans hT
  refine y_get (j := 95) (len := 3) (r := (12, 2, 0, 1330)) (by decide +kernel) hg1546 (t52 hg1546) at52 rfl rfl hv1547 ?_
  refine y_ic (c := 1) (len := 1) (r := (0, 0, 0, 0)) (by decide +kernel) (by decide) (fun y1548 hy1548 => ?_)
  refine y_add (len := 1) (r := (0, 0, 0, 0)) (by decide +kernel) (by omega) (by omega) (fun y1549 hy1549 => ?_)
  refine y_put (j := 95) (lo := 0) (hi := 200) (len := 3) (r := (12, 2, 0, 1330)) (by decide +kernel) hg1546 (t52 hg1546) at52 rfl rfl (by decide) rfl (by omega) (by omega) rfl (fun h1550 hg1550 hl1550 hs1550 ho1550 => ?_)
  have ho1550 : hO 52 2 h1546 h1550 := ho1550
  have hs1550 : hsl h1550 52 2 = some (zi y1549) := hs1550
  refine y_inc (j := 6) (a := xi) (c := 1) (ls' := fun v => [some (.inl (some 52)), some (zi a1), some (zi a2), some (zi a3), some (zi a4), some (zi a5), some v, some (zi a1)]) (len := 3) (r := (0, 0, 0, 0)) (by decide +kernel) rfl (fun _ => rfl) (by decide) (by omega) (by omega) (fun y1551 hy1551 => ?_)
  show qX 3 165 117 [some (.inl (some 52)), some (zi a1), some (zi a2), some (zi a3), some (zi a4), some (zi a5), some (zi y1551), some (zi a1)] [] h1550 t _
  refine y_goto (off := (-94)) (pc' := 23) (len := 3) (r := (0, 0, 0, 0)) (by decide +kernel) (by decide +kernel) ?_
  have hv1552 := (ho1550 54 (N + 2) (Or.inl (by omega))).trans hs1546
  exact kk _ _ _ _ ⟨(aup_refl _), hg1550, fun k T j hk (hC : (k ≠ 52 ∨ j ≠ 2) ∧ (k ≠ 54 ∨ j ≠ N + 2)) => ((ho1550 k j (by omega)).trans (ho1546 k j (by omega)))⟩ hs1550 (by omega) ((show y1545 = bf a1 2 by rw [hy1545, hy1543, ofI2 (y := y1542) (w := 8) (c := 8) (by omega) (by decide), ofI2 (y := y1544) (w := 255) (c := 255) (by omega) (by decide)]; rfl) ▸ hv1552) (by omega)
theorem mf_3 {t N : Nat} {P : zo × zh × Nat → Prop} {τ : List Nat} {h : zh} {xT a1 a2 a3 a4 a5 xi x7 : Int32} (hg : hG τ h) (hT : hsl h 52 2 = some (zi xT)) (eT : xT.toInt = ((N + 3 : Nat) : Int)) (hT2 : N + 20 ≤ 200) (hxi : xi.toInt = 3) (kk : ∀ (h1 : zh) (x1 xi1 x71 : Int32), oF (fun k j => (k ≠ 52 ∨ j ≠ 2) ∧ (k ≠ 54 ∨ j ≠ N + 3)) τ h τ h1 → hsl h1 52 2 = some (zi x1) → x1.toInt = ((N + 4 : Nat) : Int) → hsl h1 54 (N + 3) = some (zi (bf a1 3)) → xi1.toInt = 4 → qX 3 165 23 [some (.inl (some 52)), some (zi a1), some (zi a2), some (zi a3), some (zi a4), some (zi a5), some (zi xi1), some (zi x71)] [] h1 t P) : qX 3 165 23 [some (.inl (some 52)), some (zi a1), some (zi a2), some (zi a3), some (zi a4), some (zi a5), some (zi xi), some (zi x7)] [] h t P := by
  refine y_same (i := .iload 6) (len := 2) (r := (0, 0, 0, 0)) (pc' := 25) (ls' := [some (.inl (some 52)), some (zi a1), some (zi a2), some (zi a3), some (zi a4), some (zi a5), some (zi xi), some (zi x7)]) (st' := [zi xi]) (by decide +kernel) (fun k q => by cases q) rfl ?_
  refine y_bi (c := 20) (len := 2) (r := (0, 0, 0, 0)) (by decide +kernel) (by decide) (fun y1553 hy1553 => ?_)
  refine y_cF (c := .ge) (off := 93) (len := 3) (r := (0, 0, 0, 0)) (by decide +kernel) (acmpF (c := .ge) (by show _ < _; omega)) ?_
  refine y_same (i := .iload 6) (len := 2) (r := (0, 0, 0, 0)) (pc' := 32) (ls' := [some (.inl (some 52)), some (zi a1), some (zi a2), some (zi a3), some (zi a4), some (zi a5), some (zi xi), some (zi x7)]) (st' := [zi xi]) (by decide +kernel) (fun k q => by cases q) rfl ?_
  refine y_ic (c := 4) (len := 1) (r := (0, 0, 0, 0)) (by decide +kernel) (by decide) (fun y1554 hy1554 => ?_)
  refine y_cF (c := .ge) (off := 7) (len := 3) (r := (0, 0, 0, 0)) (by decide +kernel) (acmpF (c := .ge) (by show _ < _; omega)) ?_
  refine y_same (i := .iload_n 1) (len := 1) (r := (0, 0, 0, 0)) (pc' := 37) (ls' := [some (.inl (some 52)), some (zi a1), some (zi a2), some (zi a3), some (zi a4), some (zi a5), some (zi xi), some (zi x7)]) (st' := [zi a1]) (by decide +kernel) (fun k q => by cases q) rfl ?_
  refine y_goto (off := 39) (pc' := 76) (len := 3) (r := (0, 0, 0, 0)) (by decide +kernel) (by decide +kernel) ?_
  refine y_same (i := .istore 7) (len := 2) (r := (0, 0, 0, 0)) (pc' := 78) (ls' := [some (.inl (some 52)), some (zi a1), some (zi a2), some (zi a3), some (zi a4), some (zi a5), some (zi xi), some (zi a1)]) (st' := []) (by decide +kernel) (fun k q => by cases q) rfl ?_
  refine y_same (i := .aload_n 0) (len := 1) (r := (0, 0, 0, 0)) (pc' := 79) (ls' := [some (.inl (some 52)), some (zi a1), some (zi a2), some (zi a3), some (zi a4), some (zi a5), some (zi xi), some (zi a1)]) (st' := [.inl (some 52)]) (by decide +kernel) (fun k q => by cases q) rfl ?_
  refine y_get (j := 17) (len := 3) (r := (12, 8, 2, 1336)) (by decide +kernel) hg (t52 hg) at52 rfl rfl (g_r52 (f := 8) (T2 := 54) hg rfl (by decide)).1 ?_
  refine y_same (i := .aload_n 0) (len := 1) (r := (0, 0, 0, 0)) (pc' := 83) (ls' := [some (.inl (some 52)), some (zi a1), some (zi a2), some (zi a3), some (zi a4), some (zi a5), some (zi xi), some (zi a1)]) (st' := [.inl (some 52), .inl (some 54)]) (by decide +kernel) (fun k q => by cases q) rfl ?_
  refine y_get (j := 95) (len := 3) (r := (12, 2, 0, 1330)) (by decide +kernel) hg (t52 hg) at52 rfl rfl hT ?_
  refine y_same (i := .iload 7) (len := 2) (r := (0, 0, 0, 0)) (pc' := 88) (ls' := [some (.inl (some 52)), some (zi a1), some (zi a2), some (zi a3), some (zi a4), some (zi a5), some (zi xi), some (zi a1)]) (st' := [zi a1, zi xT, .inl (some 54)]) (by decide +kernel) (fun k q => by cases q) rfl ?_
  refine y_bi (c := 24) (len := 2) (r := (0, 0, 0, 0)) (by decide +kernel) (by decide) (fun y1555 hy1555 => ?_)
  refine y_bi (c := 8) (len := 2) (r := (0, 0, 0, 0)) (by decide +kernel) (by decide) (fun y1556 hy1556 => ?_)
  refine y_same (i := .iload 6) (len := 2) (r := (0, 0, 0, 0)) (pc' := 94) (ls' := [some (.inl (some 52)), some (zi a1), some (zi a2), some (zi a3), some (zi a4), some (zi a5), some (zi xi), some (zi a1)]) (st' := [zi xi, zi y1556, zi y1555, zi a1, zi xT, .inl (some 54)]) (by decide +kernel) (fun k q => by cases q) rfl ?_
  refine y_ic (c := 4) (len := 1) (r := (0, 0, 0, 0)) (by decide +kernel) (by decide) (fun y1557 hy1557 => ?_)
  refine y_rem (c := 3) (e := 4) (w := 3) (len := 1) (r := (0, 0, 0, 0)) (by decide +kernel) (ofI2 (c := 3) (by omega) (by decide)) (ofI2 (c := 4) (by omega) (by decide)) (by first | rfl | decide +kernel) ?_
  obtain ⟨w1558, hw1558⟩ : ∃ z : Int32, (3 : Int32) = z := ⟨_, rfl⟩
  rw [hw1558]
  have ew1558 : w1558.toInt = 3 := by rw [← hw1558]; decide
  refine y_mul (c := 8) (len := 1) (r := (0, 0, 0, 0)) (by decide +kernel) (by omega) (by omega) (by omega) (fun y1559 hy1559 => ?_)
  refine y_sub (len := 1) (r := (0, 0, 0, 0)) (by decide +kernel) (by omega) (by omega) (fun y1560 hy1560 => ?_)
  refine y_bp (i := .ishr) (f := fun x y => x >>> (y &&& 31)) (len := 1) (r := (0, 0, 0, 0)) (by decide +kernel) rfl rfl (fun y1561 hy1561 => ?_)
  have hy1561 : y1561 = a1 >>> (y1560 &&& 31) := hy1561
  refine y_si (c := 255) (len := 3) (r := (0, 0, 0, 0)) (by decide +kernel) (by decide) (fun y1562 hy1562 => ?_)
  refine y_bp (i := .iand) (f := fun x y => x &&& y) (len := 1) (r := (0, 0, 0, 0)) (by decide +kernel) rfl rfl (fun y1563 hy1563 => ?_)
  have hy1563 : y1563 = y1561 &&& y1562 := hy1563
  have by1563 := and255 (x := y1561) (by omega) hy1563
  refine y_ias (i := (N + 3)) (len := 1) (r := (0, 0, 0, 0)) (by decide +kernel) hg (tu54 hg) at54 rfl (by omega) (by omega) (sr1 (by omega)) (by omega) (by omega) (fun h1564 hg1564 hl1564 hs1564 ho1564 => ?_)
  refine y_same (i := .aload_n 0) (len := 1) (r := (0, 0, 0, 0)) (pc' := 105) (ls' := [some (.inl (some 52)), some (zi a1), some (zi a2), some (zi a3), some (zi a4), some (zi a5), some (zi xi), some (zi a1)]) (st' := [.inl (some 52)]) (by decide +kernel) (fun k q => by cases q) rfl ?_
  refine y_same (i := .dup) (len := 1) (r := (0, 0, 0, 0)) (pc' := 106) (ls' := [some (.inl (some 52)), some (zi a1), some (zi a2), some (zi a3), some (zi a4), some (zi a5), some (zi xi), some (zi a1)]) (st' := [.inl (some 52), .inl (some 52)]) (by decide +kernel) (fun k q => by cases q) rfl ?_
  have hv1565 := (ho1564 52 2 (Or.inl (by omega))).trans hT
  refine y_get (j := 95) (len := 3) (r := (12, 2, 0, 1330)) (by decide +kernel) hg1564 (t52 hg1564) at52 rfl rfl hv1565 ?_
  refine y_ic (c := 1) (len := 1) (r := (0, 0, 0, 0)) (by decide +kernel) (by decide) (fun y1566 hy1566 => ?_)
  refine y_add (len := 1) (r := (0, 0, 0, 0)) (by decide +kernel) (by omega) (by omega) (fun y1567 hy1567 => ?_)
  refine y_put (j := 95) (lo := 0) (hi := 200) (len := 3) (r := (12, 2, 0, 1330)) (by decide +kernel) hg1564 (t52 hg1564) at52 rfl rfl (by decide) rfl (by omega) (by omega) rfl (fun h1568 hg1568 hl1568 hs1568 ho1568 => ?_)
  have ho1568 : hO 52 2 h1564 h1568 := ho1568
  have hs1568 : hsl h1568 52 2 = some (zi y1567) := hs1568
  refine y_inc (j := 6) (a := xi) (c := 1) (ls' := fun v => [some (.inl (some 52)), some (zi a1), some (zi a2), some (zi a3), some (zi a4), some (zi a5), some v, some (zi a1)]) (len := 3) (r := (0, 0, 0, 0)) (by decide +kernel) rfl (fun _ => rfl) (by decide) (by omega) (by omega) (fun y1569 hy1569 => ?_)
  show qX 3 165 117 [some (.inl (some 52)), some (zi a1), some (zi a2), some (zi a3), some (zi a4), some (zi a5), some (zi y1569), some (zi a1)] [] h1568 t _
  refine y_goto (off := (-94)) (pc' := 23) (len := 3) (r := (0, 0, 0, 0)) (by decide +kernel) (by decide +kernel) ?_
  have hv1570 := (ho1568 54 (N + 3) (Or.inl (by omega))).trans hs1564
  exact kk _ _ _ _ ⟨(aup_refl _), hg1568, fun k T j hk (hC : (k ≠ 52 ∨ j ≠ 2) ∧ (k ≠ 54 ∨ j ≠ N + 3)) => ((ho1568 k j (by omega)).trans (ho1564 k j (by omega)))⟩ hs1568 (by omega) ((show y1563 = bf a1 3 by rw [hy1563, hy1561, ofI2 (y := y1560) (w := 0) (c := 0) (by omega) (by decide), ofI2 (y := y1562) (w := 255) (c := 255) (by omega) (by decide)]; rfl) ▸ hv1570) (by omega)
theorem mf_4 {t N : Nat} {P : zo × zh × Nat → Prop} {τ : List Nat} {h : zh} {xT a1 a2 a3 a4 a5 xi x7 : Int32} (hg : hG τ h) (hT : hsl h 52 2 = some (zi xT)) (eT : xT.toInt = ((N + 4 : Nat) : Int)) (hT2 : N + 20 ≤ 200) (hxi : xi.toInt = 4) (kk : ∀ (h1 : zh) (x1 xi1 x71 : Int32), oF (fun k j => (k ≠ 52 ∨ j ≠ 2) ∧ (k ≠ 54 ∨ j ≠ N + 4)) τ h τ h1 → hsl h1 52 2 = some (zi x1) → x1.toInt = ((N + 5 : Nat) : Int) → hsl h1 54 (N + 4) = some (zi (bf a2 0)) → xi1.toInt = 5 → qX 3 165 23 [some (.inl (some 52)), some (zi a1), some (zi a2), some (zi a3), some (zi a4), some (zi a5), some (zi xi1), some (zi x71)] [] h1 t P) : qX 3 165 23 [some (.inl (some 52)), some (zi a1), some (zi a2), some (zi a3), some (zi a4), some (zi a5), some (zi xi), some (zi x7)] [] h t P := by
  refine y_same (i := .iload 6) (len := 2) (r := (0, 0, 0, 0)) (pc' := 25) (ls' := [some (.inl (some 52)), some (zi a1), some (zi a2), some (zi a3), some (zi a4), some (zi a5), some (zi xi), some (zi x7)]) (st' := [zi xi]) (by decide +kernel) (fun k q => by cases q) rfl ?_
  refine y_bi (c := 20) (len := 2) (r := (0, 0, 0, 0)) (by decide +kernel) (by decide) (fun y1571 hy1571 => ?_)
  refine y_cF (c := .ge) (off := 93) (len := 3) (r := (0, 0, 0, 0)) (by decide +kernel) (acmpF (c := .ge) (by show _ < _; omega)) ?_
  refine y_same (i := .iload 6) (len := 2) (r := (0, 0, 0, 0)) (pc' := 32) (ls' := [some (.inl (some 52)), some (zi a1), some (zi a2), some (zi a3), some (zi a4), some (zi a5), some (zi xi), some (zi x7)]) (st' := [zi xi]) (by decide +kernel) (fun k q => by cases q) rfl ?_
  refine y_ic (c := 4) (len := 1) (r := (0, 0, 0, 0)) (by decide +kernel) (by decide) (fun y1572 hy1572 => ?_)
  refine y_cT (c := .ge) (off := 7) (pc' := 40) (len := 3) (r := (0, 0, 0, 0)) (by decide +kernel) (acmpT (c := .ge) (by show _ ≤ _; omega)) (by decide +kernel) ?_
  refine y_same (i := .iload 6) (len := 2) (r := (0, 0, 0, 0)) (pc' := 42) (ls' := [some (.inl (some 52)), some (zi a1), some (zi a2), some (zi a3), some (zi a4), some (zi a5), some (zi xi), some (zi x7)]) (st' := [zi xi]) (by decide +kernel) (fun k q => by cases q) rfl ?_
  refine y_bi (c := 8) (len := 2) (r := (0, 0, 0, 0)) (by decide +kernel) (by decide) (fun y1573 hy1573 => ?_)
  refine y_cF (c := .ge) (off := 7) (len := 3) (r := (0, 0, 0, 0)) (by decide +kernel) (acmpF (c := .ge) (by show _ < _; omega)) ?_
  refine y_same (i := .iload_n 2) (len := 1) (r := (0, 0, 0, 0)) (pc' := 48) (ls' := [some (.inl (some 52)), some (zi a1), some (zi a2), some (zi a3), some (zi a4), some (zi a5), some (zi xi), some (zi x7)]) (st' := [zi a2]) (by decide +kernel) (fun k q => by cases q) rfl ?_
  refine y_goto (off := 28) (pc' := 76) (len := 3) (r := (0, 0, 0, 0)) (by decide +kernel) (by decide +kernel) ?_
  refine y_same (i := .istore 7) (len := 2) (r := (0, 0, 0, 0)) (pc' := 78) (ls' := [some (.inl (some 52)), some (zi a1), some (zi a2), some (zi a3), some (zi a4), some (zi a5), some (zi xi), some (zi a2)]) (st' := []) (by decide +kernel) (fun k q => by cases q) rfl ?_
  refine y_same (i := .aload_n 0) (len := 1) (r := (0, 0, 0, 0)) (pc' := 79) (ls' := [some (.inl (some 52)), some (zi a1), some (zi a2), some (zi a3), some (zi a4), some (zi a5), some (zi xi), some (zi a2)]) (st' := [.inl (some 52)]) (by decide +kernel) (fun k q => by cases q) rfl ?_
  refine y_get (j := 17) (len := 3) (r := (12, 8, 2, 1336)) (by decide +kernel) hg (t52 hg) at52 rfl rfl (g_r52 (f := 8) (T2 := 54) hg rfl (by decide)).1 ?_
  refine y_same (i := .aload_n 0) (len := 1) (r := (0, 0, 0, 0)) (pc' := 83) (ls' := [some (.inl (some 52)), some (zi a1), some (zi a2), some (zi a3), some (zi a4), some (zi a5), some (zi xi), some (zi a2)]) (st' := [.inl (some 52), .inl (some 54)]) (by decide +kernel) (fun k q => by cases q) rfl ?_
  refine y_get (j := 95) (len := 3) (r := (12, 2, 0, 1330)) (by decide +kernel) hg (t52 hg) at52 rfl rfl hT ?_
  refine y_same (i := .iload 7) (len := 2) (r := (0, 0, 0, 0)) (pc' := 88) (ls' := [some (.inl (some 52)), some (zi a1), some (zi a2), some (zi a3), some (zi a4), some (zi a5), some (zi xi), some (zi a2)]) (st' := [zi a2, zi xT, .inl (some 54)]) (by decide +kernel) (fun k q => by cases q) rfl ?_
  refine y_bi (c := 24) (len := 2) (r := (0, 0, 0, 0)) (by decide +kernel) (by decide) (fun y1574 hy1574 => ?_)
  refine y_bi (c := 8) (len := 2) (r := (0, 0, 0, 0)) (by decide +kernel) (by decide) (fun y1575 hy1575 => ?_)
  refine y_same (i := .iload 6) (len := 2) (r := (0, 0, 0, 0)) (pc' := 94) (ls' := [some (.inl (some 52)), some (zi a1), some (zi a2), some (zi a3), some (zi a4), some (zi a5), some (zi xi), some (zi a2)]) (st' := [zi xi, zi y1575, zi y1574, zi a2, zi xT, .inl (some 54)]) (by decide +kernel) (fun k q => by cases q) rfl ?_
  refine y_ic (c := 4) (len := 1) (r := (0, 0, 0, 0)) (by decide +kernel) (by decide) (fun y1576 hy1576 => ?_)
  refine y_rem (c := 4) (e := 4) (w := 0) (len := 1) (r := (0, 0, 0, 0)) (by decide +kernel) (ofI2 (c := 4) (by omega) (by decide)) (ofI2 (c := 4) (by omega) (by decide)) (by first | rfl | decide +kernel) ?_
  obtain ⟨w1577, hw1577⟩ : ∃ z : Int32, (0 : Int32) = z := ⟨_, rfl⟩
  rw [hw1577]
  have ew1577 : w1577.toInt = 0 := by rw [← hw1577]; decide
  refine y_mul (c := 8) (len := 1) (r := (0, 0, 0, 0)) (by decide +kernel) (by omega) (by omega) (by omega) (fun y1578 hy1578 => ?_)
  refine y_sub (len := 1) (r := (0, 0, 0, 0)) (by decide +kernel) (by omega) (by omega) (fun y1579 hy1579 => ?_)
  refine y_bp (i := .ishr) (f := fun x y => x >>> (y &&& 31)) (len := 1) (r := (0, 0, 0, 0)) (by decide +kernel) rfl rfl (fun y1580 hy1580 => ?_)
  have hy1580 : y1580 = a2 >>> (y1579 &&& 31) := hy1580
  refine y_si (c := 255) (len := 3) (r := (0, 0, 0, 0)) (by decide +kernel) (by decide) (fun y1581 hy1581 => ?_)
  refine y_bp (i := .iand) (f := fun x y => x &&& y) (len := 1) (r := (0, 0, 0, 0)) (by decide +kernel) rfl rfl (fun y1582 hy1582 => ?_)
  have hy1582 : y1582 = y1580 &&& y1581 := hy1582
  have by1582 := and255 (x := y1580) (by omega) hy1582
  refine y_ias (i := (N + 4)) (len := 1) (r := (0, 0, 0, 0)) (by decide +kernel) hg (tu54 hg) at54 rfl (by omega) (by omega) (sr1 (by omega)) (by omega) (by omega) (fun h1583 hg1583 hl1583 hs1583 ho1583 => ?_)
  refine y_same (i := .aload_n 0) (len := 1) (r := (0, 0, 0, 0)) (pc' := 105) (ls' := [some (.inl (some 52)), some (zi a1), some (zi a2), some (zi a3), some (zi a4), some (zi a5), some (zi xi), some (zi a2)]) (st' := [.inl (some 52)]) (by decide +kernel) (fun k q => by cases q) rfl ?_
  refine y_same (i := .dup) (len := 1) (r := (0, 0, 0, 0)) (pc' := 106) (ls' := [some (.inl (some 52)), some (zi a1), some (zi a2), some (zi a3), some (zi a4), some (zi a5), some (zi xi), some (zi a2)]) (st' := [.inl (some 52), .inl (some 52)]) (by decide +kernel) (fun k q => by cases q) rfl ?_
  have hv1584 := (ho1583 52 2 (Or.inl (by omega))).trans hT
  refine y_get (j := 95) (len := 3) (r := (12, 2, 0, 1330)) (by decide +kernel) hg1583 (t52 hg1583) at52 rfl rfl hv1584 ?_
  refine y_ic (c := 1) (len := 1) (r := (0, 0, 0, 0)) (by decide +kernel) (by decide) (fun y1585 hy1585 => ?_)
  refine y_add (len := 1) (r := (0, 0, 0, 0)) (by decide +kernel) (by omega) (by omega) (fun y1586 hy1586 => ?_)
  refine y_put (j := 95) (lo := 0) (hi := 200) (len := 3) (r := (12, 2, 0, 1330)) (by decide +kernel) hg1583 (t52 hg1583) at52 rfl rfl (by decide) rfl (by omega) (by omega) rfl (fun h1587 hg1587 hl1587 hs1587 ho1587 => ?_)
  have ho1587 : hO 52 2 h1583 h1587 := ho1587
  have hs1587 : hsl h1587 52 2 = some (zi y1586) := hs1587
  refine y_inc (j := 6) (a := xi) (c := 1) (ls' := fun v => [some (.inl (some 52)), some (zi a1), some (zi a2), some (zi a3), some (zi a4), some (zi a5), some v, some (zi a2)]) (len := 3) (r := (0, 0, 0, 0)) (by decide +kernel) rfl (fun _ => rfl) (by decide) (by omega) (by omega) (fun y1588 hy1588 => ?_)
  show qX 3 165 117 [some (.inl (some 52)), some (zi a1), some (zi a2), some (zi a3), some (zi a4), some (zi a5), some (zi y1588), some (zi a2)] [] h1587 t _
  refine y_goto (off := (-94)) (pc' := 23) (len := 3) (r := (0, 0, 0, 0)) (by decide +kernel) (by decide +kernel) ?_
  have hv1589 := (ho1587 54 (N + 4) (Or.inl (by omega))).trans hs1583
  exact kk _ _ _ _ ⟨(aup_refl _), hg1587, fun k T j hk (hC : (k ≠ 52 ∨ j ≠ 2) ∧ (k ≠ 54 ∨ j ≠ N + 4)) => ((ho1587 k j (by omega)).trans (ho1583 k j (by omega)))⟩ hs1587 (by omega) ((show y1582 = bf a2 0 by rw [hy1582, hy1580, ofI2 (y := y1579) (w := 24) (c := 24) (by omega) (by decide), ofI2 (y := y1581) (w := 255) (c := 255) (by omega) (by decide)]; rfl) ▸ hv1589) (by omega)
theorem mf_5 {t N : Nat} {P : zo × zh × Nat → Prop} {τ : List Nat} {h : zh} {xT a1 a2 a3 a4 a5 xi x7 : Int32} (hg : hG τ h) (hT : hsl h 52 2 = some (zi xT)) (eT : xT.toInt = ((N + 5 : Nat) : Int)) (hT2 : N + 20 ≤ 200) (hxi : xi.toInt = 5) (kk : ∀ (h1 : zh) (x1 xi1 x71 : Int32), oF (fun k j => (k ≠ 52 ∨ j ≠ 2) ∧ (k ≠ 54 ∨ j ≠ N + 5)) τ h τ h1 → hsl h1 52 2 = some (zi x1) → x1.toInt = ((N + 6 : Nat) : Int) → hsl h1 54 (N + 5) = some (zi (bf a2 1)) → xi1.toInt = 6 → qX 3 165 23 [some (.inl (some 52)), some (zi a1), some (zi a2), some (zi a3), some (zi a4), some (zi a5), some (zi xi1), some (zi x71)] [] h1 t P) : qX 3 165 23 [some (.inl (some 52)), some (zi a1), some (zi a2), some (zi a3), some (zi a4), some (zi a5), some (zi xi), some (zi x7)] [] h t P := by
  refine y_same (i := .iload 6) (len := 2) (r := (0, 0, 0, 0)) (pc' := 25) (ls' := [some (.inl (some 52)), some (zi a1), some (zi a2), some (zi a3), some (zi a4), some (zi a5), some (zi xi), some (zi x7)]) (st' := [zi xi]) (by decide +kernel) (fun k q => by cases q) rfl ?_
  refine y_bi (c := 20) (len := 2) (r := (0, 0, 0, 0)) (by decide +kernel) (by decide) (fun y1590 hy1590 => ?_)
  refine y_cF (c := .ge) (off := 93) (len := 3) (r := (0, 0, 0, 0)) (by decide +kernel) (acmpF (c := .ge) (by show _ < _; omega)) ?_
  refine y_same (i := .iload 6) (len := 2) (r := (0, 0, 0, 0)) (pc' := 32) (ls' := [some (.inl (some 52)), some (zi a1), some (zi a2), some (zi a3), some (zi a4), some (zi a5), some (zi xi), some (zi x7)]) (st' := [zi xi]) (by decide +kernel) (fun k q => by cases q) rfl ?_
  refine y_ic (c := 4) (len := 1) (r := (0, 0, 0, 0)) (by decide +kernel) (by decide) (fun y1591 hy1591 => ?_)
  refine y_cT (c := .ge) (off := 7) (pc' := 40) (len := 3) (r := (0, 0, 0, 0)) (by decide +kernel) (acmpT (c := .ge) (by show _ ≤ _; omega)) (by decide +kernel) ?_
  refine y_same (i := .iload 6) (len := 2) (r := (0, 0, 0, 0)) (pc' := 42) (ls' := [some (.inl (some 52)), some (zi a1), some (zi a2), some (zi a3), some (zi a4), some (zi a5), some (zi xi), some (zi x7)]) (st' := [zi xi]) (by decide +kernel) (fun k q => by cases q) rfl ?_
  refine y_bi (c := 8) (len := 2) (r := (0, 0, 0, 0)) (by decide +kernel) (by decide) (fun y1592 hy1592 => ?_)
  refine y_cF (c := .ge) (off := 7) (len := 3) (r := (0, 0, 0, 0)) (by decide +kernel) (acmpF (c := .ge) (by show _ < _; omega)) ?_
  refine y_same (i := .iload_n 2) (len := 1) (r := (0, 0, 0, 0)) (pc' := 48) (ls' := [some (.inl (some 52)), some (zi a1), some (zi a2), some (zi a3), some (zi a4), some (zi a5), some (zi xi), some (zi x7)]) (st' := [zi a2]) (by decide +kernel) (fun k q => by cases q) rfl ?_
  refine y_goto (off := 28) (pc' := 76) (len := 3) (r := (0, 0, 0, 0)) (by decide +kernel) (by decide +kernel) ?_
  refine y_same (i := .istore 7) (len := 2) (r := (0, 0, 0, 0)) (pc' := 78) (ls' := [some (.inl (some 52)), some (zi a1), some (zi a2), some (zi a3), some (zi a4), some (zi a5), some (zi xi), some (zi a2)]) (st' := []) (by decide +kernel) (fun k q => by cases q) rfl ?_
  refine y_same (i := .aload_n 0) (len := 1) (r := (0, 0, 0, 0)) (pc' := 79) (ls' := [some (.inl (some 52)), some (zi a1), some (zi a2), some (zi a3), some (zi a4), some (zi a5), some (zi xi), some (zi a2)]) (st' := [.inl (some 52)]) (by decide +kernel) (fun k q => by cases q) rfl ?_
  refine y_get (j := 17) (len := 3) (r := (12, 8, 2, 1336)) (by decide +kernel) hg (t52 hg) at52 rfl rfl (g_r52 (f := 8) (T2 := 54) hg rfl (by decide)).1 ?_
  refine y_same (i := .aload_n 0) (len := 1) (r := (0, 0, 0, 0)) (pc' := 83) (ls' := [some (.inl (some 52)), some (zi a1), some (zi a2), some (zi a3), some (zi a4), some (zi a5), some (zi xi), some (zi a2)]) (st' := [.inl (some 52), .inl (some 54)]) (by decide +kernel) (fun k q => by cases q) rfl ?_
  refine y_get (j := 95) (len := 3) (r := (12, 2, 0, 1330)) (by decide +kernel) hg (t52 hg) at52 rfl rfl hT ?_
  refine y_same (i := .iload 7) (len := 2) (r := (0, 0, 0, 0)) (pc' := 88) (ls' := [some (.inl (some 52)), some (zi a1), some (zi a2), some (zi a3), some (zi a4), some (zi a5), some (zi xi), some (zi a2)]) (st' := [zi a2, zi xT, .inl (some 54)]) (by decide +kernel) (fun k q => by cases q) rfl ?_
  refine y_bi (c := 24) (len := 2) (r := (0, 0, 0, 0)) (by decide +kernel) (by decide) (fun y1593 hy1593 => ?_)
  refine y_bi (c := 8) (len := 2) (r := (0, 0, 0, 0)) (by decide +kernel) (by decide) (fun y1594 hy1594 => ?_)
  refine y_same (i := .iload 6) (len := 2) (r := (0, 0, 0, 0)) (pc' := 94) (ls' := [some (.inl (some 52)), some (zi a1), some (zi a2), some (zi a3), some (zi a4), some (zi a5), some (zi xi), some (zi a2)]) (st' := [zi xi, zi y1594, zi y1593, zi a2, zi xT, .inl (some 54)]) (by decide +kernel) (fun k q => by cases q) rfl ?_
  refine y_ic (c := 4) (len := 1) (r := (0, 0, 0, 0)) (by decide +kernel) (by decide) (fun y1595 hy1595 => ?_)
  refine y_rem (c := 5) (e := 4) (w := 1) (len := 1) (r := (0, 0, 0, 0)) (by decide +kernel) (ofI2 (c := 5) (by omega) (by decide)) (ofI2 (c := 4) (by omega) (by decide)) (by first | rfl | decide +kernel) ?_
  obtain ⟨w1596, hw1596⟩ : ∃ z : Int32, (1 : Int32) = z := ⟨_, rfl⟩
  rw [hw1596]
  have ew1596 : w1596.toInt = 1 := by rw [← hw1596]; decide
  refine y_mul (c := 8) (len := 1) (r := (0, 0, 0, 0)) (by decide +kernel) (by omega) (by omega) (by omega) (fun y1597 hy1597 => ?_)
  refine y_sub (len := 1) (r := (0, 0, 0, 0)) (by decide +kernel) (by omega) (by omega) (fun y1598 hy1598 => ?_)
  refine y_bp (i := .ishr) (f := fun x y => x >>> (y &&& 31)) (len := 1) (r := (0, 0, 0, 0)) (by decide +kernel) rfl rfl (fun y1599 hy1599 => ?_)
  have hy1599 : y1599 = a2 >>> (y1598 &&& 31) := hy1599
  refine y_si (c := 255) (len := 3) (r := (0, 0, 0, 0)) (by decide +kernel) (by decide) (fun y1600 hy1600 => ?_)
  refine y_bp (i := .iand) (f := fun x y => x &&& y) (len := 1) (r := (0, 0, 0, 0)) (by decide +kernel) rfl rfl (fun y1601 hy1601 => ?_)
  have hy1601 : y1601 = y1599 &&& y1600 := hy1601
  have by1601 := and255 (x := y1599) (by omega) hy1601
  refine y_ias (i := (N + 5)) (len := 1) (r := (0, 0, 0, 0)) (by decide +kernel) hg (tu54 hg) at54 rfl (by omega) (by omega) (sr1 (by omega)) (by omega) (by omega) (fun h1602 hg1602 hl1602 hs1602 ho1602 => ?_)
  refine y_same (i := .aload_n 0) (len := 1) (r := (0, 0, 0, 0)) (pc' := 105) (ls' := [some (.inl (some 52)), some (zi a1), some (zi a2), some (zi a3), some (zi a4), some (zi a5), some (zi xi), some (zi a2)]) (st' := [.inl (some 52)]) (by decide +kernel) (fun k q => by cases q) rfl ?_
  refine y_same (i := .dup) (len := 1) (r := (0, 0, 0, 0)) (pc' := 106) (ls' := [some (.inl (some 52)), some (zi a1), some (zi a2), some (zi a3), some (zi a4), some (zi a5), some (zi xi), some (zi a2)]) (st' := [.inl (some 52), .inl (some 52)]) (by decide +kernel) (fun k q => by cases q) rfl ?_
  have hv1603 := (ho1602 52 2 (Or.inl (by omega))).trans hT
  refine y_get (j := 95) (len := 3) (r := (12, 2, 0, 1330)) (by decide +kernel) hg1602 (t52 hg1602) at52 rfl rfl hv1603 ?_
  refine y_ic (c := 1) (len := 1) (r := (0, 0, 0, 0)) (by decide +kernel) (by decide) (fun y1604 hy1604 => ?_)
  refine y_add (len := 1) (r := (0, 0, 0, 0)) (by decide +kernel) (by omega) (by omega) (fun y1605 hy1605 => ?_)
  refine y_put (j := 95) (lo := 0) (hi := 200) (len := 3) (r := (12, 2, 0, 1330)) (by decide +kernel) hg1602 (t52 hg1602) at52 rfl rfl (by decide) rfl (by omega) (by omega) rfl (fun h1606 hg1606 hl1606 hs1606 ho1606 => ?_)
  have ho1606 : hO 52 2 h1602 h1606 := ho1606
  have hs1606 : hsl h1606 52 2 = some (zi y1605) := hs1606
  refine y_inc (j := 6) (a := xi) (c := 1) (ls' := fun v => [some (.inl (some 52)), some (zi a1), some (zi a2), some (zi a3), some (zi a4), some (zi a5), some v, some (zi a2)]) (len := 3) (r := (0, 0, 0, 0)) (by decide +kernel) rfl (fun _ => rfl) (by decide) (by omega) (by omega) (fun y1607 hy1607 => ?_)
  show qX 3 165 117 [some (.inl (some 52)), some (zi a1), some (zi a2), some (zi a3), some (zi a4), some (zi a5), some (zi y1607), some (zi a2)] [] h1606 t _
  refine y_goto (off := (-94)) (pc' := 23) (len := 3) (r := (0, 0, 0, 0)) (by decide +kernel) (by decide +kernel) ?_
  have hv1608 := (ho1606 54 (N + 5) (Or.inl (by omega))).trans hs1602
  exact kk _ _ _ _ ⟨(aup_refl _), hg1606, fun k T j hk (hC : (k ≠ 52 ∨ j ≠ 2) ∧ (k ≠ 54 ∨ j ≠ N + 5)) => ((ho1606 k j (by omega)).trans (ho1602 k j (by omega)))⟩ hs1606 (by omega) ((show y1601 = bf a2 1 by rw [hy1601, hy1599, ofI2 (y := y1598) (w := 16) (c := 16) (by omega) (by decide), ofI2 (y := y1600) (w := 255) (c := 255) (by omega) (by decide)]; rfl) ▸ hv1608) (by omega)
theorem mf_6 {t N : Nat} {P : zo × zh × Nat → Prop} {τ : List Nat} {h : zh} {xT a1 a2 a3 a4 a5 xi x7 : Int32} (hg : hG τ h) (hT : hsl h 52 2 = some (zi xT)) (eT : xT.toInt = ((N + 6 : Nat) : Int)) (hT2 : N + 20 ≤ 200) (hxi : xi.toInt = 6) (kk : ∀ (h1 : zh) (x1 xi1 x71 : Int32), oF (fun k j => (k ≠ 52 ∨ j ≠ 2) ∧ (k ≠ 54 ∨ j ≠ N + 6)) τ h τ h1 → hsl h1 52 2 = some (zi x1) → x1.toInt = ((N + 7 : Nat) : Int) → hsl h1 54 (N + 6) = some (zi (bf a2 2)) → xi1.toInt = 7 → qX 3 165 23 [some (.inl (some 52)), some (zi a1), some (zi a2), some (zi a3), some (zi a4), some (zi a5), some (zi xi1), some (zi x71)] [] h1 t P) : qX 3 165 23 [some (.inl (some 52)), some (zi a1), some (zi a2), some (zi a3), some (zi a4), some (zi a5), some (zi xi), some (zi x7)] [] h t P := by
  refine y_same (i := .iload 6) (len := 2) (r := (0, 0, 0, 0)) (pc' := 25) (ls' := [some (.inl (some 52)), some (zi a1), some (zi a2), some (zi a3), some (zi a4), some (zi a5), some (zi xi), some (zi x7)]) (st' := [zi xi]) (by decide +kernel) (fun k q => by cases q) rfl ?_
  refine y_bi (c := 20) (len := 2) (r := (0, 0, 0, 0)) (by decide +kernel) (by decide) (fun y1609 hy1609 => ?_)
  refine y_cF (c := .ge) (off := 93) (len := 3) (r := (0, 0, 0, 0)) (by decide +kernel) (acmpF (c := .ge) (by show _ < _; omega)) ?_
  refine y_same (i := .iload 6) (len := 2) (r := (0, 0, 0, 0)) (pc' := 32) (ls' := [some (.inl (some 52)), some (zi a1), some (zi a2), some (zi a3), some (zi a4), some (zi a5), some (zi xi), some (zi x7)]) (st' := [zi xi]) (by decide +kernel) (fun k q => by cases q) rfl ?_
  refine y_ic (c := 4) (len := 1) (r := (0, 0, 0, 0)) (by decide +kernel) (by decide) (fun y1610 hy1610 => ?_)
  refine y_cT (c := .ge) (off := 7) (pc' := 40) (len := 3) (r := (0, 0, 0, 0)) (by decide +kernel) (acmpT (c := .ge) (by show _ ≤ _; omega)) (by decide +kernel) ?_
  refine y_same (i := .iload 6) (len := 2) (r := (0, 0, 0, 0)) (pc' := 42) (ls' := [some (.inl (some 52)), some (zi a1), some (zi a2), some (zi a3), some (zi a4), some (zi a5), some (zi xi), some (zi x7)]) (st' := [zi xi]) (by decide +kernel) (fun k q => by cases q) rfl ?_
  refine y_bi (c := 8) (len := 2) (r := (0, 0, 0, 0)) (by decide +kernel) (by decide) (fun y1611 hy1611 => ?_)
  refine y_cF (c := .ge) (off := 7) (len := 3) (r := (0, 0, 0, 0)) (by decide +kernel) (acmpF (c := .ge) (by show _ < _; omega)) ?_
  refine y_same (i := .iload_n 2) (len := 1) (r := (0, 0, 0, 0)) (pc' := 48) (ls' := [some (.inl (some 52)), some (zi a1), some (zi a2), some (zi a3), some (zi a4), some (zi a5), some (zi xi), some (zi x7)]) (st' := [zi a2]) (by decide +kernel) (fun k q => by cases q) rfl ?_
  refine y_goto (off := 28) (pc' := 76) (len := 3) (r := (0, 0, 0, 0)) (by decide +kernel) (by decide +kernel) ?_
  refine y_same (i := .istore 7) (len := 2) (r := (0, 0, 0, 0)) (pc' := 78) (ls' := [some (.inl (some 52)), some (zi a1), some (zi a2), some (zi a3), some (zi a4), some (zi a5), some (zi xi), some (zi a2)]) (st' := []) (by decide +kernel) (fun k q => by cases q) rfl ?_
  refine y_same (i := .aload_n 0) (len := 1) (r := (0, 0, 0, 0)) (pc' := 79) (ls' := [some (.inl (some 52)), some (zi a1), some (zi a2), some (zi a3), some (zi a4), some (zi a5), some (zi xi), some (zi a2)]) (st' := [.inl (some 52)]) (by decide +kernel) (fun k q => by cases q) rfl ?_
  refine y_get (j := 17) (len := 3) (r := (12, 8, 2, 1336)) (by decide +kernel) hg (t52 hg) at52 rfl rfl (g_r52 (f := 8) (T2 := 54) hg rfl (by decide)).1 ?_
  refine y_same (i := .aload_n 0) (len := 1) (r := (0, 0, 0, 0)) (pc' := 83) (ls' := [some (.inl (some 52)), some (zi a1), some (zi a2), some (zi a3), some (zi a4), some (zi a5), some (zi xi), some (zi a2)]) (st' := [.inl (some 52), .inl (some 54)]) (by decide +kernel) (fun k q => by cases q) rfl ?_
  refine y_get (j := 95) (len := 3) (r := (12, 2, 0, 1330)) (by decide +kernel) hg (t52 hg) at52 rfl rfl hT ?_
  refine y_same (i := .iload 7) (len := 2) (r := (0, 0, 0, 0)) (pc' := 88) (ls' := [some (.inl (some 52)), some (zi a1), some (zi a2), some (zi a3), some (zi a4), some (zi a5), some (zi xi), some (zi a2)]) (st' := [zi a2, zi xT, .inl (some 54)]) (by decide +kernel) (fun k q => by cases q) rfl ?_
  refine y_bi (c := 24) (len := 2) (r := (0, 0, 0, 0)) (by decide +kernel) (by decide) (fun y1612 hy1612 => ?_)
  refine y_bi (c := 8) (len := 2) (r := (0, 0, 0, 0)) (by decide +kernel) (by decide) (fun y1613 hy1613 => ?_)
  refine y_same (i := .iload 6) (len := 2) (r := (0, 0, 0, 0)) (pc' := 94) (ls' := [some (.inl (some 52)), some (zi a1), some (zi a2), some (zi a3), some (zi a4), some (zi a5), some (zi xi), some (zi a2)]) (st' := [zi xi, zi y1613, zi y1612, zi a2, zi xT, .inl (some 54)]) (by decide +kernel) (fun k q => by cases q) rfl ?_
  refine y_ic (c := 4) (len := 1) (r := (0, 0, 0, 0)) (by decide +kernel) (by decide) (fun y1614 hy1614 => ?_)
  refine y_rem (c := 6) (e := 4) (w := 2) (len := 1) (r := (0, 0, 0, 0)) (by decide +kernel) (ofI2 (c := 6) (by omega) (by decide)) (ofI2 (c := 4) (by omega) (by decide)) (by first | rfl | decide +kernel) ?_
  obtain ⟨w1615, hw1615⟩ : ∃ z : Int32, (2 : Int32) = z := ⟨_, rfl⟩
  rw [hw1615]
  have ew1615 : w1615.toInt = 2 := by rw [← hw1615]; decide
  refine y_mul (c := 8) (len := 1) (r := (0, 0, 0, 0)) (by decide +kernel) (by omega) (by omega) (by omega) (fun y1616 hy1616 => ?_)
  refine y_sub (len := 1) (r := (0, 0, 0, 0)) (by decide +kernel) (by omega) (by omega) (fun y1617 hy1617 => ?_)
  refine y_bp (i := .ishr) (f := fun x y => x >>> (y &&& 31)) (len := 1) (r := (0, 0, 0, 0)) (by decide +kernel) rfl rfl (fun y1618 hy1618 => ?_)
  have hy1618 : y1618 = a2 >>> (y1617 &&& 31) := hy1618
  refine y_si (c := 255) (len := 3) (r := (0, 0, 0, 0)) (by decide +kernel) (by decide) (fun y1619 hy1619 => ?_)
  refine y_bp (i := .iand) (f := fun x y => x &&& y) (len := 1) (r := (0, 0, 0, 0)) (by decide +kernel) rfl rfl (fun y1620 hy1620 => ?_)
  have hy1620 : y1620 = y1618 &&& y1619 := hy1620
  have by1620 := and255 (x := y1618) (by omega) hy1620
  refine y_ias (i := (N + 6)) (len := 1) (r := (0, 0, 0, 0)) (by decide +kernel) hg (tu54 hg) at54 rfl (by omega) (by omega) (sr1 (by omega)) (by omega) (by omega) (fun h1621 hg1621 hl1621 hs1621 ho1621 => ?_)
  refine y_same (i := .aload_n 0) (len := 1) (r := (0, 0, 0, 0)) (pc' := 105) (ls' := [some (.inl (some 52)), some (zi a1), some (zi a2), some (zi a3), some (zi a4), some (zi a5), some (zi xi), some (zi a2)]) (st' := [.inl (some 52)]) (by decide +kernel) (fun k q => by cases q) rfl ?_
  refine y_same (i := .dup) (len := 1) (r := (0, 0, 0, 0)) (pc' := 106) (ls' := [some (.inl (some 52)), some (zi a1), some (zi a2), some (zi a3), some (zi a4), some (zi a5), some (zi xi), some (zi a2)]) (st' := [.inl (some 52), .inl (some 52)]) (by decide +kernel) (fun k q => by cases q) rfl ?_
  have hv1622 := (ho1621 52 2 (Or.inl (by omega))).trans hT
  refine y_get (j := 95) (len := 3) (r := (12, 2, 0, 1330)) (by decide +kernel) hg1621 (t52 hg1621) at52 rfl rfl hv1622 ?_
  refine y_ic (c := 1) (len := 1) (r := (0, 0, 0, 0)) (by decide +kernel) (by decide) (fun y1623 hy1623 => ?_)
  refine y_add (len := 1) (r := (0, 0, 0, 0)) (by decide +kernel) (by omega) (by omega) (fun y1624 hy1624 => ?_)
  refine y_put (j := 95) (lo := 0) (hi := 200) (len := 3) (r := (12, 2, 0, 1330)) (by decide +kernel) hg1621 (t52 hg1621) at52 rfl rfl (by decide) rfl (by omega) (by omega) rfl (fun h1625 hg1625 hl1625 hs1625 ho1625 => ?_)
  have ho1625 : hO 52 2 h1621 h1625 := ho1625
  have hs1625 : hsl h1625 52 2 = some (zi y1624) := hs1625
  refine y_inc (j := 6) (a := xi) (c := 1) (ls' := fun v => [some (.inl (some 52)), some (zi a1), some (zi a2), some (zi a3), some (zi a4), some (zi a5), some v, some (zi a2)]) (len := 3) (r := (0, 0, 0, 0)) (by decide +kernel) rfl (fun _ => rfl) (by decide) (by omega) (by omega) (fun y1626 hy1626 => ?_)
  show qX 3 165 117 [some (.inl (some 52)), some (zi a1), some (zi a2), some (zi a3), some (zi a4), some (zi a5), some (zi y1626), some (zi a2)] [] h1625 t _
  refine y_goto (off := (-94)) (pc' := 23) (len := 3) (r := (0, 0, 0, 0)) (by decide +kernel) (by decide +kernel) ?_
  have hv1627 := (ho1625 54 (N + 6) (Or.inl (by omega))).trans hs1621
  exact kk _ _ _ _ ⟨(aup_refl _), hg1625, fun k T j hk (hC : (k ≠ 52 ∨ j ≠ 2) ∧ (k ≠ 54 ∨ j ≠ N + 6)) => ((ho1625 k j (by omega)).trans (ho1621 k j (by omega)))⟩ hs1625 (by omega) ((show y1620 = bf a2 2 by rw [hy1620, hy1618, ofI2 (y := y1617) (w := 8) (c := 8) (by omega) (by decide), ofI2 (y := y1619) (w := 255) (c := 255) (by omega) (by decide)]; rfl) ▸ hv1627) (by omega)
theorem mf_7 {t N : Nat} {P : zo × zh × Nat → Prop} {τ : List Nat} {h : zh} {xT a1 a2 a3 a4 a5 xi x7 : Int32} (hg : hG τ h) (hT : hsl h 52 2 = some (zi xT)) (eT : xT.toInt = ((N + 7 : Nat) : Int)) (hT2 : N + 20 ≤ 200) (hxi : xi.toInt = 7) (kk : ∀ (h1 : zh) (x1 xi1 x71 : Int32), oF (fun k j => (k ≠ 52 ∨ j ≠ 2) ∧ (k ≠ 54 ∨ j ≠ N + 7)) τ h τ h1 → hsl h1 52 2 = some (zi x1) → x1.toInt = ((N + 8 : Nat) : Int) → hsl h1 54 (N + 7) = some (zi (bf a2 3)) → xi1.toInt = 8 → qX 3 165 23 [some (.inl (some 52)), some (zi a1), some (zi a2), some (zi a3), some (zi a4), some (zi a5), some (zi xi1), some (zi x71)] [] h1 t P) : qX 3 165 23 [some (.inl (some 52)), some (zi a1), some (zi a2), some (zi a3), some (zi a4), some (zi a5), some (zi xi), some (zi x7)] [] h t P := by
  refine y_same (i := .iload 6) (len := 2) (r := (0, 0, 0, 0)) (pc' := 25) (ls' := [some (.inl (some 52)), some (zi a1), some (zi a2), some (zi a3), some (zi a4), some (zi a5), some (zi xi), some (zi x7)]) (st' := [zi xi]) (by decide +kernel) (fun k q => by cases q) rfl ?_
  refine y_bi (c := 20) (len := 2) (r := (0, 0, 0, 0)) (by decide +kernel) (by decide) (fun y1628 hy1628 => ?_)
  refine y_cF (c := .ge) (off := 93) (len := 3) (r := (0, 0, 0, 0)) (by decide +kernel) (acmpF (c := .ge) (by show _ < _; omega)) ?_
  refine y_same (i := .iload 6) (len := 2) (r := (0, 0, 0, 0)) (pc' := 32) (ls' := [some (.inl (some 52)), some (zi a1), some (zi a2), some (zi a3), some (zi a4), some (zi a5), some (zi xi), some (zi x7)]) (st' := [zi xi]) (by decide +kernel) (fun k q => by cases q) rfl ?_
  refine y_ic (c := 4) (len := 1) (r := (0, 0, 0, 0)) (by decide +kernel) (by decide) (fun y1629 hy1629 => ?_)
  refine y_cT (c := .ge) (off := 7) (pc' := 40) (len := 3) (r := (0, 0, 0, 0)) (by decide +kernel) (acmpT (c := .ge) (by show _ ≤ _; omega)) (by decide +kernel) ?_
  refine y_same (i := .iload 6) (len := 2) (r := (0, 0, 0, 0)) (pc' := 42) (ls' := [some (.inl (some 52)), some (zi a1), some (zi a2), some (zi a3), some (zi a4), some (zi a5), some (zi xi), some (zi x7)]) (st' := [zi xi]) (by decide +kernel) (fun k q => by cases q) rfl ?_
  refine y_bi (c := 8) (len := 2) (r := (0, 0, 0, 0)) (by decide +kernel) (by decide) (fun y1630 hy1630 => ?_)
  refine y_cF (c := .ge) (off := 7) (len := 3) (r := (0, 0, 0, 0)) (by decide +kernel) (acmpF (c := .ge) (by show _ < _; omega)) ?_
  refine y_same (i := .iload_n 2) (len := 1) (r := (0, 0, 0, 0)) (pc' := 48) (ls' := [some (.inl (some 52)), some (zi a1), some (zi a2), some (zi a3), some (zi a4), some (zi a5), some (zi xi), some (zi x7)]) (st' := [zi a2]) (by decide +kernel) (fun k q => by cases q) rfl ?_
  refine y_goto (off := 28) (pc' := 76) (len := 3) (r := (0, 0, 0, 0)) (by decide +kernel) (by decide +kernel) ?_
  refine y_same (i := .istore 7) (len := 2) (r := (0, 0, 0, 0)) (pc' := 78) (ls' := [some (.inl (some 52)), some (zi a1), some (zi a2), some (zi a3), some (zi a4), some (zi a5), some (zi xi), some (zi a2)]) (st' := []) (by decide +kernel) (fun k q => by cases q) rfl ?_
  refine y_same (i := .aload_n 0) (len := 1) (r := (0, 0, 0, 0)) (pc' := 79) (ls' := [some (.inl (some 52)), some (zi a1), some (zi a2), some (zi a3), some (zi a4), some (zi a5), some (zi xi), some (zi a2)]) (st' := [.inl (some 52)]) (by decide +kernel) (fun k q => by cases q) rfl ?_
  refine y_get (j := 17) (len := 3) (r := (12, 8, 2, 1336)) (by decide +kernel) hg (t52 hg) at52 rfl rfl (g_r52 (f := 8) (T2 := 54) hg rfl (by decide)).1 ?_
  refine y_same (i := .aload_n 0) (len := 1) (r := (0, 0, 0, 0)) (pc' := 83) (ls' := [some (.inl (some 52)), some (zi a1), some (zi a2), some (zi a3), some (zi a4), some (zi a5), some (zi xi), some (zi a2)]) (st' := [.inl (some 52), .inl (some 54)]) (by decide +kernel) (fun k q => by cases q) rfl ?_
  refine y_get (j := 95) (len := 3) (r := (12, 2, 0, 1330)) (by decide +kernel) hg (t52 hg) at52 rfl rfl hT ?_
  refine y_same (i := .iload 7) (len := 2) (r := (0, 0, 0, 0)) (pc' := 88) (ls' := [some (.inl (some 52)), some (zi a1), some (zi a2), some (zi a3), some (zi a4), some (zi a5), some (zi xi), some (zi a2)]) (st' := [zi a2, zi xT, .inl (some 54)]) (by decide +kernel) (fun k q => by cases q) rfl ?_
  refine y_bi (c := 24) (len := 2) (r := (0, 0, 0, 0)) (by decide +kernel) (by decide) (fun y1631 hy1631 => ?_)
  refine y_bi (c := 8) (len := 2) (r := (0, 0, 0, 0)) (by decide +kernel) (by decide) (fun y1632 hy1632 => ?_)
  refine y_same (i := .iload 6) (len := 2) (r := (0, 0, 0, 0)) (pc' := 94) (ls' := [some (.inl (some 52)), some (zi a1), some (zi a2), some (zi a3), some (zi a4), some (zi a5), some (zi xi), some (zi a2)]) (st' := [zi xi, zi y1632, zi y1631, zi a2, zi xT, .inl (some 54)]) (by decide +kernel) (fun k q => by cases q) rfl ?_
  refine y_ic (c := 4) (len := 1) (r := (0, 0, 0, 0)) (by decide +kernel) (by decide) (fun y1633 hy1633 => ?_)
  refine y_rem (c := 7) (e := 4) (w := 3) (len := 1) (r := (0, 0, 0, 0)) (by decide +kernel) (ofI2 (c := 7) (by omega) (by decide)) (ofI2 (c := 4) (by omega) (by decide)) (by first | rfl | decide +kernel) ?_
  obtain ⟨w1634, hw1634⟩ : ∃ z : Int32, (3 : Int32) = z := ⟨_, rfl⟩
  rw [hw1634]
  have ew1634 : w1634.toInt = 3 := by rw [← hw1634]; decide
  refine y_mul (c := 8) (len := 1) (r := (0, 0, 0, 0)) (by decide +kernel) (by omega) (by omega) (by omega) (fun y1635 hy1635 => ?_)
  refine y_sub (len := 1) (r := (0, 0, 0, 0)) (by decide +kernel) (by omega) (by omega) (fun y1636 hy1636 => ?_)
  refine y_bp (i := .ishr) (f := fun x y => x >>> (y &&& 31)) (len := 1) (r := (0, 0, 0, 0)) (by decide +kernel) rfl rfl (fun y1637 hy1637 => ?_)
  have hy1637 : y1637 = a2 >>> (y1636 &&& 31) := hy1637
  refine y_si (c := 255) (len := 3) (r := (0, 0, 0, 0)) (by decide +kernel) (by decide) (fun y1638 hy1638 => ?_)
  refine y_bp (i := .iand) (f := fun x y => x &&& y) (len := 1) (r := (0, 0, 0, 0)) (by decide +kernel) rfl rfl (fun y1639 hy1639 => ?_)
  have hy1639 : y1639 = y1637 &&& y1638 := hy1639
  have by1639 := and255 (x := y1637) (by omega) hy1639
  refine y_ias (i := (N + 7)) (len := 1) (r := (0, 0, 0, 0)) (by decide +kernel) hg (tu54 hg) at54 rfl (by omega) (by omega) (sr1 (by omega)) (by omega) (by omega) (fun h1640 hg1640 hl1640 hs1640 ho1640 => ?_)
  refine y_same (i := .aload_n 0) (len := 1) (r := (0, 0, 0, 0)) (pc' := 105) (ls' := [some (.inl (some 52)), some (zi a1), some (zi a2), some (zi a3), some (zi a4), some (zi a5), some (zi xi), some (zi a2)]) (st' := [.inl (some 52)]) (by decide +kernel) (fun k q => by cases q) rfl ?_
  refine y_same (i := .dup) (len := 1) (r := (0, 0, 0, 0)) (pc' := 106) (ls' := [some (.inl (some 52)), some (zi a1), some (zi a2), some (zi a3), some (zi a4), some (zi a5), some (zi xi), some (zi a2)]) (st' := [.inl (some 52), .inl (some 52)]) (by decide +kernel) (fun k q => by cases q) rfl ?_
  have hv1641 := (ho1640 52 2 (Or.inl (by omega))).trans hT
  refine y_get (j := 95) (len := 3) (r := (12, 2, 0, 1330)) (by decide +kernel) hg1640 (t52 hg1640) at52 rfl rfl hv1641 ?_
  refine y_ic (c := 1) (len := 1) (r := (0, 0, 0, 0)) (by decide +kernel) (by decide) (fun y1642 hy1642 => ?_)
  refine y_add (len := 1) (r := (0, 0, 0, 0)) (by decide +kernel) (by omega) (by omega) (fun y1643 hy1643 => ?_)
  refine y_put (j := 95) (lo := 0) (hi := 200) (len := 3) (r := (12, 2, 0, 1330)) (by decide +kernel) hg1640 (t52 hg1640) at52 rfl rfl (by decide) rfl (by omega) (by omega) rfl (fun h1644 hg1644 hl1644 hs1644 ho1644 => ?_)
  have ho1644 : hO 52 2 h1640 h1644 := ho1644
  have hs1644 : hsl h1644 52 2 = some (zi y1643) := hs1644
  refine y_inc (j := 6) (a := xi) (c := 1) (ls' := fun v => [some (.inl (some 52)), some (zi a1), some (zi a2), some (zi a3), some (zi a4), some (zi a5), some v, some (zi a2)]) (len := 3) (r := (0, 0, 0, 0)) (by decide +kernel) rfl (fun _ => rfl) (by decide) (by omega) (by omega) (fun y1645 hy1645 => ?_)
  show qX 3 165 117 [some (.inl (some 52)), some (zi a1), some (zi a2), some (zi a3), some (zi a4), some (zi a5), some (zi y1645), some (zi a2)] [] h1644 t _
  refine y_goto (off := (-94)) (pc' := 23) (len := 3) (r := (0, 0, 0, 0)) (by decide +kernel) (by decide +kernel) ?_
  have hv1646 := (ho1644 54 (N + 7) (Or.inl (by omega))).trans hs1640
  exact kk _ _ _ _ ⟨(aup_refl _), hg1644, fun k T j hk (hC : (k ≠ 52 ∨ j ≠ 2) ∧ (k ≠ 54 ∨ j ≠ N + 7)) => ((ho1644 k j (by omega)).trans (ho1640 k j (by omega)))⟩ hs1644 (by omega) ((show y1639 = bf a2 3 by rw [hy1639, hy1637, ofI2 (y := y1636) (w := 0) (c := 0) (by omega) (by decide), ofI2 (y := y1638) (w := 255) (c := 255) (by omega) (by decide)]; rfl) ▸ hv1646) (by omega)
theorem mf_8 {t N : Nat} {P : zo × zh × Nat → Prop} {τ : List Nat} {h : zh} {xT a1 a2 a3 a4 a5 xi x7 : Int32} (hg : hG τ h) (hT : hsl h 52 2 = some (zi xT)) (eT : xT.toInt = ((N + 8 : Nat) : Int)) (hT2 : N + 20 ≤ 200) (hxi : xi.toInt = 8) (kk : ∀ (h1 : zh) (x1 xi1 x71 : Int32), oF (fun k j => (k ≠ 52 ∨ j ≠ 2) ∧ (k ≠ 54 ∨ j ≠ N + 8)) τ h τ h1 → hsl h1 52 2 = some (zi x1) → x1.toInt = ((N + 9 : Nat) : Int) → hsl h1 54 (N + 8) = some (zi (bf a3 0)) → xi1.toInt = 9 → qX 3 165 23 [some (.inl (some 52)), some (zi a1), some (zi a2), some (zi a3), some (zi a4), some (zi a5), some (zi xi1), some (zi x71)] [] h1 t P) : qX 3 165 23 [some (.inl (some 52)), some (zi a1), some (zi a2), some (zi a3), some (zi a4), some (zi a5), some (zi xi), some (zi x7)] [] h t P := by
  refine y_same (i := .iload 6) (len := 2) (r := (0, 0, 0, 0)) (pc' := 25) (ls' := [some (.inl (some 52)), some (zi a1), some (zi a2), some (zi a3), some (zi a4), some (zi a5), some (zi xi), some (zi x7)]) (st' := [zi xi]) (by decide +kernel) (fun k q => by cases q) rfl ?_
  refine y_bi (c := 20) (len := 2) (r := (0, 0, 0, 0)) (by decide +kernel) (by decide) (fun y1647 hy1647 => ?_)
  refine y_cF (c := .ge) (off := 93) (len := 3) (r := (0, 0, 0, 0)) (by decide +kernel) (acmpF (c := .ge) (by show _ < _; omega)) ?_
  refine y_same (i := .iload 6) (len := 2) (r := (0, 0, 0, 0)) (pc' := 32) (ls' := [some (.inl (some 52)), some (zi a1), some (zi a2), some (zi a3), some (zi a4), some (zi a5), some (zi xi), some (zi x7)]) (st' := [zi xi]) (by decide +kernel) (fun k q => by cases q) rfl ?_
  refine y_ic (c := 4) (len := 1) (r := (0, 0, 0, 0)) (by decide +kernel) (by decide) (fun y1648 hy1648 => ?_)
  refine y_cT (c := .ge) (off := 7) (pc' := 40) (len := 3) (r := (0, 0, 0, 0)) (by decide +kernel) (acmpT (c := .ge) (by show _ ≤ _; omega)) (by decide +kernel) ?_
  refine y_same (i := .iload 6) (len := 2) (r := (0, 0, 0, 0)) (pc' := 42) (ls' := [some (.inl (some 52)), some (zi a1), some (zi a2), some (zi a3), some (zi a4), some (zi a5), some (zi xi), some (zi x7)]) (st' := [zi xi]) (by decide +kernel) (fun k q => by cases q) rfl ?_
  refine y_bi (c := 8) (len := 2) (r := (0, 0, 0, 0)) (by decide +kernel) (by decide) (fun y1649 hy1649 => ?_)
  refine y_cT (c := .ge) (off := 7) (pc' := 51) (len := 3) (r := (0, 0, 0, 0)) (by decide +kernel) (acmpT (c := .ge) (by show _ ≤ _; omega)) (by decide +kernel) ?_
  refine y_same (i := .iload 6) (len := 2) (r := (0, 0, 0, 0)) (pc' := 53) (ls' := [some (.inl (some 52)), some (zi a1), some (zi a2), some (zi a3), some (zi a4), some (zi a5), some (zi xi), some (zi x7)]) (st' := [zi xi]) (by decide +kernel) (fun k q => by cases q) rfl ?_
  refine y_bi (c := 12) (len := 2) (r := (0, 0, 0, 0)) (by decide +kernel) (by decide) (fun y1650 hy1650 => ?_)
  refine y_cF (c := .ge) (off := 7) (len := 3) (r := (0, 0, 0, 0)) (by decide +kernel) (acmpF (c := .ge) (by show _ < _; omega)) ?_
  refine y_same (i := .iload_n 3) (len := 1) (r := (0, 0, 0, 0)) (pc' := 59) (ls' := [some (.inl (some 52)), some (zi a1), some (zi a2), some (zi a3), some (zi a4), some (zi a5), some (zi xi), some (zi x7)]) (st' := [zi a3]) (by decide +kernel) (fun k q => by cases q) rfl ?_
  refine y_goto (off := 17) (pc' := 76) (len := 3) (r := (0, 0, 0, 0)) (by decide +kernel) (by decide +kernel) ?_
  refine y_same (i := .istore 7) (len := 2) (r := (0, 0, 0, 0)) (pc' := 78) (ls' := [some (.inl (some 52)), some (zi a1), some (zi a2), some (zi a3), some (zi a4), some (zi a5), some (zi xi), some (zi a3)]) (st' := []) (by decide +kernel) (fun k q => by cases q) rfl ?_
  refine y_same (i := .aload_n 0) (len := 1) (r := (0, 0, 0, 0)) (pc' := 79) (ls' := [some (.inl (some 52)), some (zi a1), some (zi a2), some (zi a3), some (zi a4), some (zi a5), some (zi xi), some (zi a3)]) (st' := [.inl (some 52)]) (by decide +kernel) (fun k q => by cases q) rfl ?_
  refine y_get (j := 17) (len := 3) (r := (12, 8, 2, 1336)) (by decide +kernel) hg (t52 hg) at52 rfl rfl (g_r52 (f := 8) (T2 := 54) hg rfl (by decide)).1 ?_
  refine y_same (i := .aload_n 0) (len := 1) (r := (0, 0, 0, 0)) (pc' := 83) (ls' := [some (.inl (some 52)), some (zi a1), some (zi a2), some (zi a3), some (zi a4), some (zi a5), some (zi xi), some (zi a3)]) (st' := [.inl (some 52), .inl (some 54)]) (by decide +kernel) (fun k q => by cases q) rfl ?_
  refine y_get (j := 95) (len := 3) (r := (12, 2, 0, 1330)) (by decide +kernel) hg (t52 hg) at52 rfl rfl hT ?_
  refine y_same (i := .iload 7) (len := 2) (r := (0, 0, 0, 0)) (pc' := 88) (ls' := [some (.inl (some 52)), some (zi a1), some (zi a2), some (zi a3), some (zi a4), some (zi a5), some (zi xi), some (zi a3)]) (st' := [zi a3, zi xT, .inl (some 54)]) (by decide +kernel) (fun k q => by cases q) rfl ?_
  refine y_bi (c := 24) (len := 2) (r := (0, 0, 0, 0)) (by decide +kernel) (by decide) (fun y1651 hy1651 => ?_)
  refine y_bi (c := 8) (len := 2) (r := (0, 0, 0, 0)) (by decide +kernel) (by decide) (fun y1652 hy1652 => ?_)
  refine y_same (i := .iload 6) (len := 2) (r := (0, 0, 0, 0)) (pc' := 94) (ls' := [some (.inl (some 52)), some (zi a1), some (zi a2), some (zi a3), some (zi a4), some (zi a5), some (zi xi), some (zi a3)]) (st' := [zi xi, zi y1652, zi y1651, zi a3, zi xT, .inl (some 54)]) (by decide +kernel) (fun k q => by cases q) rfl ?_
  refine y_ic (c := 4) (len := 1) (r := (0, 0, 0, 0)) (by decide +kernel) (by decide) (fun y1653 hy1653 => ?_)
  refine y_rem (c := 8) (e := 4) (w := 0) (len := 1) (r := (0, 0, 0, 0)) (by decide +kernel) (ofI2 (c := 8) (by omega) (by decide)) (ofI2 (c := 4) (by omega) (by decide)) (by first | rfl | decide +kernel) ?_
  obtain ⟨w1654, hw1654⟩ : ∃ z : Int32, (0 : Int32) = z := ⟨_, rfl⟩
  rw [hw1654]
  have ew1654 : w1654.toInt = 0 := by rw [← hw1654]; decide
  refine y_mul (c := 8) (len := 1) (r := (0, 0, 0, 0)) (by decide +kernel) (by omega) (by omega) (by omega) (fun y1655 hy1655 => ?_)
  refine y_sub (len := 1) (r := (0, 0, 0, 0)) (by decide +kernel) (by omega) (by omega) (fun y1656 hy1656 => ?_)
  refine y_bp (i := .ishr) (f := fun x y => x >>> (y &&& 31)) (len := 1) (r := (0, 0, 0, 0)) (by decide +kernel) rfl rfl (fun y1657 hy1657 => ?_)
  have hy1657 : y1657 = a3 >>> (y1656 &&& 31) := hy1657
  refine y_si (c := 255) (len := 3) (r := (0, 0, 0, 0)) (by decide +kernel) (by decide) (fun y1658 hy1658 => ?_)
  refine y_bp (i := .iand) (f := fun x y => x &&& y) (len := 1) (r := (0, 0, 0, 0)) (by decide +kernel) rfl rfl (fun y1659 hy1659 => ?_)
  have hy1659 : y1659 = y1657 &&& y1658 := hy1659
  have by1659 := and255 (x := y1657) (by omega) hy1659
  refine y_ias (i := (N + 8)) (len := 1) (r := (0, 0, 0, 0)) (by decide +kernel) hg (tu54 hg) at54 rfl (by omega) (by omega) (sr1 (by omega)) (by omega) (by omega) (fun h1660 hg1660 hl1660 hs1660 ho1660 => ?_)
  refine y_same (i := .aload_n 0) (len := 1) (r := (0, 0, 0, 0)) (pc' := 105) (ls' := [some (.inl (some 52)), some (zi a1), some (zi a2), some (zi a3), some (zi a4), some (zi a5), some (zi xi), some (zi a3)]) (st' := [.inl (some 52)]) (by decide +kernel) (fun k q => by cases q) rfl ?_
  refine y_same (i := .dup) (len := 1) (r := (0, 0, 0, 0)) (pc' := 106) (ls' := [some (.inl (some 52)), some (zi a1), some (zi a2), some (zi a3), some (zi a4), some (zi a5), some (zi xi), some (zi a3)]) (st' := [.inl (some 52), .inl (some 52)]) (by decide +kernel) (fun k q => by cases q) rfl ?_
  have hv1661 := (ho1660 52 2 (Or.inl (by omega))).trans hT
  refine y_get (j := 95) (len := 3) (r := (12, 2, 0, 1330)) (by decide +kernel) hg1660 (t52 hg1660) at52 rfl rfl hv1661 ?_
  refine y_ic (c := 1) (len := 1) (r := (0, 0, 0, 0)) (by decide +kernel) (by decide) (fun y1662 hy1662 => ?_)
  refine y_add (len := 1) (r := (0, 0, 0, 0)) (by decide +kernel) (by omega) (by omega) (fun y1663 hy1663 => ?_)
  refine y_put (j := 95) (lo := 0) (hi := 200) (len := 3) (r := (12, 2, 0, 1330)) (by decide +kernel) hg1660 (t52 hg1660) at52 rfl rfl (by decide) rfl (by omega) (by omega) rfl (fun h1664 hg1664 hl1664 hs1664 ho1664 => ?_)
  have ho1664 : hO 52 2 h1660 h1664 := ho1664
  have hs1664 : hsl h1664 52 2 = some (zi y1663) := hs1664
  refine y_inc (j := 6) (a := xi) (c := 1) (ls' := fun v => [some (.inl (some 52)), some (zi a1), some (zi a2), some (zi a3), some (zi a4), some (zi a5), some v, some (zi a3)]) (len := 3) (r := (0, 0, 0, 0)) (by decide +kernel) rfl (fun _ => rfl) (by decide) (by omega) (by omega) (fun y1665 hy1665 => ?_)
  show qX 3 165 117 [some (.inl (some 52)), some (zi a1), some (zi a2), some (zi a3), some (zi a4), some (zi a5), some (zi y1665), some (zi a3)] [] h1664 t _
  refine y_goto (off := (-94)) (pc' := 23) (len := 3) (r := (0, 0, 0, 0)) (by decide +kernel) (by decide +kernel) ?_
  have hv1666 := (ho1664 54 (N + 8) (Or.inl (by omega))).trans hs1660
  exact kk _ _ _ _ ⟨(aup_refl _), hg1664, fun k T j hk (hC : (k ≠ 52 ∨ j ≠ 2) ∧ (k ≠ 54 ∨ j ≠ N + 8)) => ((ho1664 k j (by omega)).trans (ho1660 k j (by omega)))⟩ hs1664 (by omega) ((show y1659 = bf a3 0 by rw [hy1659, hy1657, ofI2 (y := y1656) (w := 24) (c := 24) (by omega) (by decide), ofI2 (y := y1658) (w := 255) (c := 255) (by omega) (by decide)]; rfl) ▸ hv1666) (by omega)
theorem mf_9 {t N : Nat} {P : zo × zh × Nat → Prop} {τ : List Nat} {h : zh} {xT a1 a2 a3 a4 a5 xi x7 : Int32} (hg : hG τ h) (hT : hsl h 52 2 = some (zi xT)) (eT : xT.toInt = ((N + 9 : Nat) : Int)) (hT2 : N + 20 ≤ 200) (hxi : xi.toInt = 9) (kk : ∀ (h1 : zh) (x1 xi1 x71 : Int32), oF (fun k j => (k ≠ 52 ∨ j ≠ 2) ∧ (k ≠ 54 ∨ j ≠ N + 9)) τ h τ h1 → hsl h1 52 2 = some (zi x1) → x1.toInt = ((N + 10 : Nat) : Int) → hsl h1 54 (N + 9) = some (zi (bf a3 1)) → xi1.toInt = 10 → qX 3 165 23 [some (.inl (some 52)), some (zi a1), some (zi a2), some (zi a3), some (zi a4), some (zi a5), some (zi xi1), some (zi x71)] [] h1 t P) : qX 3 165 23 [some (.inl (some 52)), some (zi a1), some (zi a2), some (zi a3), some (zi a4), some (zi a5), some (zi xi), some (zi x7)] [] h t P := by
  refine y_same (i := .iload 6) (len := 2) (r := (0, 0, 0, 0)) (pc' := 25) (ls' := [some (.inl (some 52)), some (zi a1), some (zi a2), some (zi a3), some (zi a4), some (zi a5), some (zi xi), some (zi x7)]) (st' := [zi xi]) (by decide +kernel) (fun k q => by cases q) rfl ?_
  refine y_bi (c := 20) (len := 2) (r := (0, 0, 0, 0)) (by decide +kernel) (by decide) (fun y1667 hy1667 => ?_)
  refine y_cF (c := .ge) (off := 93) (len := 3) (r := (0, 0, 0, 0)) (by decide +kernel) (acmpF (c := .ge) (by show _ < _; omega)) ?_
  refine y_same (i := .iload 6) (len := 2) (r := (0, 0, 0, 0)) (pc' := 32) (ls' := [some (.inl (some 52)), some (zi a1), some (zi a2), some (zi a3), some (zi a4), some (zi a5), some (zi xi), some (zi x7)]) (st' := [zi xi]) (by decide +kernel) (fun k q => by cases q) rfl ?_
  refine y_ic (c := 4) (len := 1) (r := (0, 0, 0, 0)) (by decide +kernel) (by decide) (fun y1668 hy1668 => ?_)
  refine y_cT (c := .ge) (off := 7) (pc' := 40) (len := 3) (r := (0, 0, 0, 0)) (by decide +kernel) (acmpT (c := .ge) (by show _ ≤ _; omega)) (by decide +kernel) ?_
  refine y_same (i := .iload 6) (len := 2) (r := (0, 0, 0, 0)) (pc' := 42) (ls' := [some (.inl (some 52)), some (zi a1), some (zi a2), some (zi a3), some (zi a4), some (zi a5), some (zi xi), some (zi x7)]) (st' := [zi xi]) (by decide +kernel) (fun k q => by cases q) rfl ?_
  refine y_bi (c := 8) (len := 2) (r := (0, 0, 0, 0)) (by decide +kernel) (by decide) (fun y1669 hy1669 => ?_)
  refine y_cT (c := .ge) (off := 7) (pc' := 51) (len := 3) (r := (0, 0, 0, 0)) (by decide +kernel) (acmpT (c := .ge) (by show _ ≤ _; omega)) (by decide +kernel) ?_
  refine y_same (i := .iload 6) (len := 2) (r := (0, 0, 0, 0)) (pc' := 53) (ls' := [some (.inl (some 52)), some (zi a1), some (zi a2), some (zi a3), some (zi a4), some (zi a5), some (zi xi), some (zi x7)]) (st' := [zi xi]) (by decide +kernel) (fun k q => by cases q) rfl ?_
  refine y_bi (c := 12) (len := 2) (r := (0, 0, 0, 0)) (by decide +kernel) (by decide) (fun y1670 hy1670 => ?_)
  refine y_cF (c := .ge) (off := 7) (len := 3) (r := (0, 0, 0, 0)) (by decide +kernel) (acmpF (c := .ge) (by show _ < _; omega)) ?_
  refine y_same (i := .iload_n 3) (len := 1) (r := (0, 0, 0, 0)) (pc' := 59) (ls' := [some (.inl (some 52)), some (zi a1), some (zi a2), some (zi a3), some (zi a4), some (zi a5), some (zi xi), some (zi x7)]) (st' := [zi a3]) (by decide +kernel) (fun k q => by cases q) rfl ?_
  refine y_goto (off := 17) (pc' := 76) (len := 3) (r := (0, 0, 0, 0)) (by decide +kernel) (by decide +kernel) ?_
  refine y_same (i := .istore 7) (len := 2) (r := (0, 0, 0, 0)) (pc' := 78) (ls' := [some (.inl (some 52)), some (zi a1), some (zi a2), some (zi a3), some (zi a4), some (zi a5), some (zi xi), some (zi a3)]) (st' := []) (by decide +kernel) (fun k q => by cases q) rfl ?_
  refine y_same (i := .aload_n 0) (len := 1) (r := (0, 0, 0, 0)) (pc' := 79) (ls' := [some (.inl (some 52)), some (zi a1), some (zi a2), some (zi a3), some (zi a4), some (zi a5), some (zi xi), some (zi a3)]) (st' := [.inl (some 52)]) (by decide +kernel) (fun k q => by cases q) rfl ?_
  refine y_get (j := 17) (len := 3) (r := (12, 8, 2, 1336)) (by decide +kernel) hg (t52 hg) at52 rfl rfl (g_r52 (f := 8) (T2 := 54) hg rfl (by decide)).1 ?_
  refine y_same (i := .aload_n 0) (len := 1) (r := (0, 0, 0, 0)) (pc' := 83) (ls' := [some (.inl (some 52)), some (zi a1), some (zi a2), some (zi a3), some (zi a4), some (zi a5), some (zi xi), some (zi a3)]) (st' := [.inl (some 52), .inl (some 54)]) (by decide +kernel) (fun k q => by cases q) rfl ?_
  refine y_get (j := 95) (len := 3) (r := (12, 2, 0, 1330)) (by decide +kernel) hg (t52 hg) at52 rfl rfl hT ?_
  refine y_same (i := .iload 7) (len := 2) (r := (0, 0, 0, 0)) (pc' := 88) (ls' := [some (.inl (some 52)), some (zi a1), some (zi a2), some (zi a3), some (zi a4), some (zi a5), some (zi xi), some (zi a3)]) (st' := [zi a3, zi xT, .inl (some 54)]) (by decide +kernel) (fun k q => by cases q) rfl ?_
  refine y_bi (c := 24) (len := 2) (r := (0, 0, 0, 0)) (by decide +kernel) (by decide) (fun y1671 hy1671 => ?_)
  refine y_bi (c := 8) (len := 2) (r := (0, 0, 0, 0)) (by decide +kernel) (by decide) (fun y1672 hy1672 => ?_)
  refine y_same (i := .iload 6) (len := 2) (r := (0, 0, 0, 0)) (pc' := 94) (ls' := [some (.inl (some 52)), some (zi a1), some (zi a2), some (zi a3), some (zi a4), some (zi a5), some (zi xi), some (zi a3)]) (st' := [zi xi, zi y1672, zi y1671, zi a3, zi xT, .inl (some 54)]) (by decide +kernel) (fun k q => by cases q) rfl ?_
  refine y_ic (c := 4) (len := 1) (r := (0, 0, 0, 0)) (by decide +kernel) (by decide) (fun y1673 hy1673 => ?_)
  refine y_rem (c := 9) (e := 4) (w := 1) (len := 1) (r := (0, 0, 0, 0)) (by decide +kernel) (ofI2 (c := 9) (by omega) (by decide)) (ofI2 (c := 4) (by omega) (by decide)) (by first | rfl | decide +kernel) ?_
  obtain ⟨w1674, hw1674⟩ : ∃ z : Int32, (1 : Int32) = z := ⟨_, rfl⟩
  rw [hw1674]
  have ew1674 : w1674.toInt = 1 := by rw [← hw1674]; decide
  refine y_mul (c := 8) (len := 1) (r := (0, 0, 0, 0)) (by decide +kernel) (by omega) (by omega) (by omega) (fun y1675 hy1675 => ?_)
  refine y_sub (len := 1) (r := (0, 0, 0, 0)) (by decide +kernel) (by omega) (by omega) (fun y1676 hy1676 => ?_)
  refine y_bp (i := .ishr) (f := fun x y => x >>> (y &&& 31)) (len := 1) (r := (0, 0, 0, 0)) (by decide +kernel) rfl rfl (fun y1677 hy1677 => ?_)
  have hy1677 : y1677 = a3 >>> (y1676 &&& 31) := hy1677
  refine y_si (c := 255) (len := 3) (r := (0, 0, 0, 0)) (by decide +kernel) (by decide) (fun y1678 hy1678 => ?_)
  refine y_bp (i := .iand) (f := fun x y => x &&& y) (len := 1) (r := (0, 0, 0, 0)) (by decide +kernel) rfl rfl (fun y1679 hy1679 => ?_)
  have hy1679 : y1679 = y1677 &&& y1678 := hy1679
  have by1679 := and255 (x := y1677) (by omega) hy1679
  refine y_ias (i := (N + 9)) (len := 1) (r := (0, 0, 0, 0)) (by decide +kernel) hg (tu54 hg) at54 rfl (by omega) (by omega) (sr1 (by omega)) (by omega) (by omega) (fun h1680 hg1680 hl1680 hs1680 ho1680 => ?_)
  refine y_same (i := .aload_n 0) (len := 1) (r := (0, 0, 0, 0)) (pc' := 105) (ls' := [some (.inl (some 52)), some (zi a1), some (zi a2), some (zi a3), some (zi a4), some (zi a5), some (zi xi), some (zi a3)]) (st' := [.inl (some 52)]) (by decide +kernel) (fun k q => by cases q) rfl ?_
  refine y_same (i := .dup) (len := 1) (r := (0, 0, 0, 0)) (pc' := 106) (ls' := [some (.inl (some 52)), some (zi a1), some (zi a2), some (zi a3), some (zi a4), some (zi a5), some (zi xi), some (zi a3)]) (st' := [.inl (some 52), .inl (some 52)]) (by decide +kernel) (fun k q => by cases q) rfl ?_
  have hv1681 := (ho1680 52 2 (Or.inl (by omega))).trans hT
  refine y_get (j := 95) (len := 3) (r := (12, 2, 0, 1330)) (by decide +kernel) hg1680 (t52 hg1680) at52 rfl rfl hv1681 ?_
  refine y_ic (c := 1) (len := 1) (r := (0, 0, 0, 0)) (by decide +kernel) (by decide) (fun y1682 hy1682 => ?_)
  refine y_add (len := 1) (r := (0, 0, 0, 0)) (by decide +kernel) (by omega) (by omega) (fun y1683 hy1683 => ?_)
  refine y_put (j := 95) (lo := 0) (hi := 200) (len := 3) (r := (12, 2, 0, 1330)) (by decide +kernel) hg1680 (t52 hg1680) at52 rfl rfl (by decide) rfl (by omega) (by omega) rfl (fun h1684 hg1684 hl1684 hs1684 ho1684 => ?_)
  have ho1684 : hO 52 2 h1680 h1684 := ho1684
  have hs1684 : hsl h1684 52 2 = some (zi y1683) := hs1684
  refine y_inc (j := 6) (a := xi) (c := 1) (ls' := fun v => [some (.inl (some 52)), some (zi a1), some (zi a2), some (zi a3), some (zi a4), some (zi a5), some v, some (zi a3)]) (len := 3) (r := (0, 0, 0, 0)) (by decide +kernel) rfl (fun _ => rfl) (by decide) (by omega) (by omega) (fun y1685 hy1685 => ?_)
  show qX 3 165 117 [some (.inl (some 52)), some (zi a1), some (zi a2), some (zi a3), some (zi a4), some (zi a5), some (zi y1685), some (zi a3)] [] h1684 t _
  refine y_goto (off := (-94)) (pc' := 23) (len := 3) (r := (0, 0, 0, 0)) (by decide +kernel) (by decide +kernel) ?_
  have hv1686 := (ho1684 54 (N + 9) (Or.inl (by omega))).trans hs1680
  exact kk _ _ _ _ ⟨(aup_refl _), hg1684, fun k T j hk (hC : (k ≠ 52 ∨ j ≠ 2) ∧ (k ≠ 54 ∨ j ≠ N + 9)) => ((ho1684 k j (by omega)).trans (ho1680 k j (by omega)))⟩ hs1684 (by omega) ((show y1679 = bf a3 1 by rw [hy1679, hy1677, ofI2 (y := y1676) (w := 16) (c := 16) (by omega) (by decide), ofI2 (y := y1678) (w := 255) (c := 255) (by omega) (by decide)]; rfl) ▸ hv1686) (by omega)
theorem mf_10 {t N : Nat} {P : zo × zh × Nat → Prop} {τ : List Nat} {h : zh} {xT a1 a2 a3 a4 a5 xi x7 : Int32} (hg : hG τ h) (hT : hsl h 52 2 = some (zi xT)) (eT : xT.toInt = ((N + 10 : Nat) : Int)) (hT2 : N + 20 ≤ 200) (hxi : xi.toInt = 10) (kk : ∀ (h1 : zh) (x1 xi1 x71 : Int32), oF (fun k j => (k ≠ 52 ∨ j ≠ 2) ∧ (k ≠ 54 ∨ j ≠ N + 10)) τ h τ h1 → hsl h1 52 2 = some (zi x1) → x1.toInt = ((N + 11 : Nat) : Int) → hsl h1 54 (N + 10) = some (zi (bf a3 2)) → xi1.toInt = 11 → qX 3 165 23 [some (.inl (some 52)), some (zi a1), some (zi a2), some (zi a3), some (zi a4), some (zi a5), some (zi xi1), some (zi x71)] [] h1 t P) : qX 3 165 23 [some (.inl (some 52)), some (zi a1), some (zi a2), some (zi a3), some (zi a4), some (zi a5), some (zi xi), some (zi x7)] [] h t P := by
  refine y_same (i := .iload 6) (len := 2) (r := (0, 0, 0, 0)) (pc' := 25) (ls' := [some (.inl (some 52)), some (zi a1), some (zi a2), some (zi a3), some (zi a4), some (zi a5), some (zi xi), some (zi x7)]) (st' := [zi xi]) (by decide +kernel) (fun k q => by cases q) rfl ?_
  refine y_bi (c := 20) (len := 2) (r := (0, 0, 0, 0)) (by decide +kernel) (by decide) (fun y1687 hy1687 => ?_)
  refine y_cF (c := .ge) (off := 93) (len := 3) (r := (0, 0, 0, 0)) (by decide +kernel) (acmpF (c := .ge) (by show _ < _; omega)) ?_
  refine y_same (i := .iload 6) (len := 2) (r := (0, 0, 0, 0)) (pc' := 32) (ls' := [some (.inl (some 52)), some (zi a1), some (zi a2), some (zi a3), some (zi a4), some (zi a5), some (zi xi), some (zi x7)]) (st' := [zi xi]) (by decide +kernel) (fun k q => by cases q) rfl ?_
  refine y_ic (c := 4) (len := 1) (r := (0, 0, 0, 0)) (by decide +kernel) (by decide) (fun y1688 hy1688 => ?_)
  refine y_cT (c := .ge) (off := 7) (pc' := 40) (len := 3) (r := (0, 0, 0, 0)) (by decide +kernel) (acmpT (c := .ge) (by show _ ≤ _; omega)) (by decide +kernel) ?_
  refine y_same (i := .iload 6) (len := 2) (r := (0, 0, 0, 0)) (pc' := 42) (ls' := [some (.inl (some 52)), some (zi a1), some (zi a2), some (zi a3), some (zi a4), some (zi a5), some (zi xi), some (zi x7)]) (st' := [zi xi]) (by decide +kernel) (fun k q => by cases q) rfl ?_
  refine y_bi (c := 8) (len := 2) (r := (0, 0, 0, 0)) (by decide +kernel) (by decide) (fun y1689 hy1689 => ?_)
  refine y_cT (c := .ge) (off := 7) (pc' := 51) (len := 3) (r := (0, 0, 0, 0)) (by decide +kernel) (acmpT (c := .ge) (by show _ ≤ _; omega)) (by decide +kernel) ?_
  refine y_same (i := .iload 6) (len := 2) (r := (0, 0, 0, 0)) (pc' := 53) (ls' := [some (.inl (some 52)), some (zi a1), some (zi a2), some (zi a3), some (zi a4), some (zi a5), some (zi xi), some (zi x7)]) (st' := [zi xi]) (by decide +kernel) (fun k q => by cases q) rfl ?_
  refine y_bi (c := 12) (len := 2) (r := (0, 0, 0, 0)) (by decide +kernel) (by decide) (fun y1690 hy1690 => ?_)
  refine y_cF (c := .ge) (off := 7) (len := 3) (r := (0, 0, 0, 0)) (by decide +kernel) (acmpF (c := .ge) (by show _ < _; omega)) ?_
  refine y_same (i := .iload_n 3) (len := 1) (r := (0, 0, 0, 0)) (pc' := 59) (ls' := [some (.inl (some 52)), some (zi a1), some (zi a2), some (zi a3), some (zi a4), some (zi a5), some (zi xi), some (zi x7)]) (st' := [zi a3]) (by decide +kernel) (fun k q => by cases q) rfl ?_
  refine y_goto (off := 17) (pc' := 76) (len := 3) (r := (0, 0, 0, 0)) (by decide +kernel) (by decide +kernel) ?_
  refine y_same (i := .istore 7) (len := 2) (r := (0, 0, 0, 0)) (pc' := 78) (ls' := [some (.inl (some 52)), some (zi a1), some (zi a2), some (zi a3), some (zi a4), some (zi a5), some (zi xi), some (zi a3)]) (st' := []) (by decide +kernel) (fun k q => by cases q) rfl ?_
  refine y_same (i := .aload_n 0) (len := 1) (r := (0, 0, 0, 0)) (pc' := 79) (ls' := [some (.inl (some 52)), some (zi a1), some (zi a2), some (zi a3), some (zi a4), some (zi a5), some (zi xi), some (zi a3)]) (st' := [.inl (some 52)]) (by decide +kernel) (fun k q => by cases q) rfl ?_
  refine y_get (j := 17) (len := 3) (r := (12, 8, 2, 1336)) (by decide +kernel) hg (t52 hg) at52 rfl rfl (g_r52 (f := 8) (T2 := 54) hg rfl (by decide)).1 ?_
  refine y_same (i := .aload_n 0) (len := 1) (r := (0, 0, 0, 0)) (pc' := 83) (ls' := [some (.inl (some 52)), some (zi a1), some (zi a2), some (zi a3), some (zi a4), some (zi a5), some (zi xi), some (zi a3)]) (st' := [.inl (some 52), .inl (some 54)]) (by decide +kernel) (fun k q => by cases q) rfl ?_
  refine y_get (j := 95) (len := 3) (r := (12, 2, 0, 1330)) (by decide +kernel) hg (t52 hg) at52 rfl rfl hT ?_
  refine y_same (i := .iload 7) (len := 2) (r := (0, 0, 0, 0)) (pc' := 88) (ls' := [some (.inl (some 52)), some (zi a1), some (zi a2), some (zi a3), some (zi a4), some (zi a5), some (zi xi), some (zi a3)]) (st' := [zi a3, zi xT, .inl (some 54)]) (by decide +kernel) (fun k q => by cases q) rfl ?_
  refine y_bi (c := 24) (len := 2) (r := (0, 0, 0, 0)) (by decide +kernel) (by decide) (fun y1691 hy1691 => ?_)
  refine y_bi (c := 8) (len := 2) (r := (0, 0, 0, 0)) (by decide +kernel) (by decide) (fun y1692 hy1692 => ?_)
  refine y_same (i := .iload 6) (len := 2) (r := (0, 0, 0, 0)) (pc' := 94) (ls' := [some (.inl (some 52)), some (zi a1), some (zi a2), some (zi a3), some (zi a4), some (zi a5), some (zi xi), some (zi a3)]) (st' := [zi xi, zi y1692, zi y1691, zi a3, zi xT, .inl (some 54)]) (by decide +kernel) (fun k q => by cases q) rfl ?_
  refine y_ic (c := 4) (len := 1) (r := (0, 0, 0, 0)) (by decide +kernel) (by decide) (fun y1693 hy1693 => ?_)
  refine y_rem (c := 10) (e := 4) (w := 2) (len := 1) (r := (0, 0, 0, 0)) (by decide +kernel) (ofI2 (c := 10) (by omega) (by decide)) (ofI2 (c := 4) (by omega) (by decide)) (by first | rfl | decide +kernel) ?_
  obtain ⟨w1694, hw1694⟩ : ∃ z : Int32, (2 : Int32) = z := ⟨_, rfl⟩
  rw [hw1694]
  have ew1694 : w1694.toInt = 2 := by rw [← hw1694]; decide
  refine y_mul (c := 8) (len := 1) (r := (0, 0, 0, 0)) (by decide +kernel) (by omega) (by omega) (by omega) (fun y1695 hy1695 => ?_)
  refine y_sub (len := 1) (r := (0, 0, 0, 0)) (by decide +kernel) (by omega) (by omega) (fun y1696 hy1696 => ?_)
  refine y_bp (i := .ishr) (f := fun x y => x >>> (y &&& 31)) (len := 1) (r := (0, 0, 0, 0)) (by decide +kernel) rfl rfl (fun y1697 hy1697 => ?_)
  have hy1697 : y1697 = a3 >>> (y1696 &&& 31) := hy1697
  refine y_si (c := 255) (len := 3) (r := (0, 0, 0, 0)) (by decide +kernel) (by decide) (fun y1698 hy1698 => ?_)
  refine y_bp (i := .iand) (f := fun x y => x &&& y) (len := 1) (r := (0, 0, 0, 0)) (by decide +kernel) rfl rfl (fun y1699 hy1699 => ?_)
  have hy1699 : y1699 = y1697 &&& y1698 := hy1699
  have by1699 := and255 (x := y1697) (by omega) hy1699
  refine y_ias (i := (N + 10)) (len := 1) (r := (0, 0, 0, 0)) (by decide +kernel) hg (tu54 hg) at54 rfl (by omega) (by omega) (sr1 (by omega)) (by omega) (by omega) (fun h1700 hg1700 hl1700 hs1700 ho1700 => ?_)
  refine y_same (i := .aload_n 0) (len := 1) (r := (0, 0, 0, 0)) (pc' := 105) (ls' := [some (.inl (some 52)), some (zi a1), some (zi a2), some (zi a3), some (zi a4), some (zi a5), some (zi xi), some (zi a3)]) (st' := [.inl (some 52)]) (by decide +kernel) (fun k q => by cases q) rfl ?_
  refine y_same (i := .dup) (len := 1) (r := (0, 0, 0, 0)) (pc' := 106) (ls' := [some (.inl (some 52)), some (zi a1), some (zi a2), some (zi a3), some (zi a4), some (zi a5), some (zi xi), some (zi a3)]) (st' := [.inl (some 52), .inl (some 52)]) (by decide +kernel) (fun k q => by cases q) rfl ?_
  have hv1701 := (ho1700 52 2 (Or.inl (by omega))).trans hT
  refine y_get (j := 95) (len := 3) (r := (12, 2, 0, 1330)) (by decide +kernel) hg1700 (t52 hg1700) at52 rfl rfl hv1701 ?_
  refine y_ic (c := 1) (len := 1) (r := (0, 0, 0, 0)) (by decide +kernel) (by decide) (fun y1702 hy1702 => ?_)
  refine y_add (len := 1) (r := (0, 0, 0, 0)) (by decide +kernel) (by omega) (by omega) (fun y1703 hy1703 => ?_)
  refine y_put (j := 95) (lo := 0) (hi := 200) (len := 3) (r := (12, 2, 0, 1330)) (by decide +kernel) hg1700 (t52 hg1700) at52 rfl rfl (by decide) rfl (by omega) (by omega) rfl (fun h1704 hg1704 hl1704 hs1704 ho1704 => ?_)
  have ho1704 : hO 52 2 h1700 h1704 := ho1704
  have hs1704 : hsl h1704 52 2 = some (zi y1703) := hs1704
  refine y_inc (j := 6) (a := xi) (c := 1) (ls' := fun v => [some (.inl (some 52)), some (zi a1), some (zi a2), some (zi a3), some (zi a4), some (zi a5), some v, some (zi a3)]) (len := 3) (r := (0, 0, 0, 0)) (by decide +kernel) rfl (fun _ => rfl) (by decide) (by omega) (by omega) (fun y1705 hy1705 => ?_)
  show qX 3 165 117 [some (.inl (some 52)), some (zi a1), some (zi a2), some (zi a3), some (zi a4), some (zi a5), some (zi y1705), some (zi a3)] [] h1704 t _
  refine y_goto (off := (-94)) (pc' := 23) (len := 3) (r := (0, 0, 0, 0)) (by decide +kernel) (by decide +kernel) ?_
  have hv1706 := (ho1704 54 (N + 10) (Or.inl (by omega))).trans hs1700
  exact kk _ _ _ _ ⟨(aup_refl _), hg1704, fun k T j hk (hC : (k ≠ 52 ∨ j ≠ 2) ∧ (k ≠ 54 ∨ j ≠ N + 10)) => ((ho1704 k j (by omega)).trans (ho1700 k j (by omega)))⟩ hs1704 (by omega) ((show y1699 = bf a3 2 by rw [hy1699, hy1697, ofI2 (y := y1696) (w := 8) (c := 8) (by omega) (by decide), ofI2 (y := y1698) (w := 255) (c := 255) (by omega) (by decide)]; rfl) ▸ hv1706) (by omega)
theorem mf_11 {t N : Nat} {P : zo × zh × Nat → Prop} {τ : List Nat} {h : zh} {xT a1 a2 a3 a4 a5 xi x7 : Int32} (hg : hG τ h) (hT : hsl h 52 2 = some (zi xT)) (eT : xT.toInt = ((N + 11 : Nat) : Int)) (hT2 : N + 20 ≤ 200) (hxi : xi.toInt = 11) (kk : ∀ (h1 : zh) (x1 xi1 x71 : Int32), oF (fun k j => (k ≠ 52 ∨ j ≠ 2) ∧ (k ≠ 54 ∨ j ≠ N + 11)) τ h τ h1 → hsl h1 52 2 = some (zi x1) → x1.toInt = ((N + 12 : Nat) : Int) → hsl h1 54 (N + 11) = some (zi (bf a3 3)) → xi1.toInt = 12 → qX 3 165 23 [some (.inl (some 52)), some (zi a1), some (zi a2), some (zi a3), some (zi a4), some (zi a5), some (zi xi1), some (zi x71)] [] h1 t P) : qX 3 165 23 [some (.inl (some 52)), some (zi a1), some (zi a2), some (zi a3), some (zi a4), some (zi a5), some (zi xi), some (zi x7)] [] h t P := by
  refine y_same (i := .iload 6) (len := 2) (r := (0, 0, 0, 0)) (pc' := 25) (ls' := [some (.inl (some 52)), some (zi a1), some (zi a2), some (zi a3), some (zi a4), some (zi a5), some (zi xi), some (zi x7)]) (st' := [zi xi]) (by decide +kernel) (fun k q => by cases q) rfl ?_
  refine y_bi (c := 20) (len := 2) (r := (0, 0, 0, 0)) (by decide +kernel) (by decide) (fun y1707 hy1707 => ?_)
  refine y_cF (c := .ge) (off := 93) (len := 3) (r := (0, 0, 0, 0)) (by decide +kernel) (acmpF (c := .ge) (by show _ < _; omega)) ?_
  refine y_same (i := .iload 6) (len := 2) (r := (0, 0, 0, 0)) (pc' := 32) (ls' := [some (.inl (some 52)), some (zi a1), some (zi a2), some (zi a3), some (zi a4), some (zi a5), some (zi xi), some (zi x7)]) (st' := [zi xi]) (by decide +kernel) (fun k q => by cases q) rfl ?_
  refine y_ic (c := 4) (len := 1) (r := (0, 0, 0, 0)) (by decide +kernel) (by decide) (fun y1708 hy1708 => ?_)
  refine y_cT (c := .ge) (off := 7) (pc' := 40) (len := 3) (r := (0, 0, 0, 0)) (by decide +kernel) (acmpT (c := .ge) (by show _ ≤ _; omega)) (by decide +kernel) ?_
  refine y_same (i := .iload 6) (len := 2) (r := (0, 0, 0, 0)) (pc' := 42) (ls' := [some (.inl (some 52)), some (zi a1), some (zi a2), some (zi a3), some (zi a4), some (zi a5), some (zi xi), some (zi x7)]) (st' := [zi xi]) (by decide +kernel) (fun k q => by cases q) rfl ?_
  refine y_bi (c := 8) (len := 2) (r := (0, 0, 0, 0)) (by decide +kernel) (by decide) (fun y1709 hy1709 => ?_)
  refine y_cT (c := .ge) (off := 7) (pc' := 51) (len := 3) (r := (0, 0, 0, 0)) (by decide +kernel) (acmpT (c := .ge) (by show _ ≤ _; omega)) (by decide +kernel) ?_
  refine y_same (i := .iload 6) (len := 2) (r := (0, 0, 0, 0)) (pc' := 53) (ls' := [some (.inl (some 52)), some (zi a1), some (zi a2), some (zi a3), some (zi a4), some (zi a5), some (zi xi), some (zi x7)]) (st' := [zi xi]) (by decide +kernel) (fun k q => by cases q) rfl ?_
  refine y_bi (c := 12) (len := 2) (r := (0, 0, 0, 0)) (by decide +kernel) (by decide) (fun y1710 hy1710 => ?_)
  refine y_cF (c := .ge) (off := 7) (len := 3) (r := (0, 0, 0, 0)) (by decide +kernel) (acmpF (c := .ge) (by show _ < _; omega)) ?_
  refine y_same (i := .iload_n 3) (len := 1) (r := (0, 0, 0, 0)) (pc' := 59) (ls' := [some (.inl (some 52)), some (zi a1), some (zi a2), some (zi a3), some (zi a4), some (zi a5), some (zi xi), some (zi x7)]) (st' := [zi a3]) (by decide +kernel) (fun k q => by cases q) rfl ?_
  refine y_goto (off := 17) (pc' := 76) (len := 3) (r := (0, 0, 0, 0)) (by decide +kernel) (by decide +kernel) ?_
  refine y_same (i := .istore 7) (len := 2) (r := (0, 0, 0, 0)) (pc' := 78) (ls' := [some (.inl (some 52)), some (zi a1), some (zi a2), some (zi a3), some (zi a4), some (zi a5), some (zi xi), some (zi a3)]) (st' := []) (by decide +kernel) (fun k q => by cases q) rfl ?_
  refine y_same (i := .aload_n 0) (len := 1) (r := (0, 0, 0, 0)) (pc' := 79) (ls' := [some (.inl (some 52)), some (zi a1), some (zi a2), some (zi a3), some (zi a4), some (zi a5), some (zi xi), some (zi a3)]) (st' := [.inl (some 52)]) (by decide +kernel) (fun k q => by cases q) rfl ?_
  refine y_get (j := 17) (len := 3) (r := (12, 8, 2, 1336)) (by decide +kernel) hg (t52 hg) at52 rfl rfl (g_r52 (f := 8) (T2 := 54) hg rfl (by decide)).1 ?_
  refine y_same (i := .aload_n 0) (len := 1) (r := (0, 0, 0, 0)) (pc' := 83) (ls' := [some (.inl (some 52)), some (zi a1), some (zi a2), some (zi a3), some (zi a4), some (zi a5), some (zi xi), some (zi a3)]) (st' := [.inl (some 52), .inl (some 54)]) (by decide +kernel) (fun k q => by cases q) rfl ?_
  refine y_get (j := 95) (len := 3) (r := (12, 2, 0, 1330)) (by decide +kernel) hg (t52 hg) at52 rfl rfl hT ?_
  refine y_same (i := .iload 7) (len := 2) (r := (0, 0, 0, 0)) (pc' := 88) (ls' := [some (.inl (some 52)), some (zi a1), some (zi a2), some (zi a3), some (zi a4), some (zi a5), some (zi xi), some (zi a3)]) (st' := [zi a3, zi xT, .inl (some 54)]) (by decide +kernel) (fun k q => by cases q) rfl ?_
  refine y_bi (c := 24) (len := 2) (r := (0, 0, 0, 0)) (by decide +kernel) (by decide) (fun y1711 hy1711 => ?_)
  refine y_bi (c := 8) (len := 2) (r := (0, 0, 0, 0)) (by decide +kernel) (by decide) (fun y1712 hy1712 => ?_)
  refine y_same (i := .iload 6) (len := 2) (r := (0, 0, 0, 0)) (pc' := 94) (ls' := [some (.inl (some 52)), some (zi a1), some (zi a2), some (zi a3), some (zi a4), some (zi a5), some (zi xi), some (zi a3)]) (st' := [zi xi, zi y1712, zi y1711, zi a3, zi xT, .inl (some 54)]) (by decide +kernel) (fun k q => by cases q) rfl ?_
  refine y_ic (c := 4) (len := 1) (r := (0, 0, 0, 0)) (by decide +kernel) (by decide) (fun y1713 hy1713 => ?_)
  refine y_rem (c := 11) (e := 4) (w := 3) (len := 1) (r := (0, 0, 0, 0)) (by decide +kernel) (ofI2 (c := 11) (by omega) (by decide)) (ofI2 (c := 4) (by omega) (by decide)) (by first | rfl | decide +kernel) ?_
  obtain ⟨w1714, hw1714⟩ : ∃ z : Int32, (3 : Int32) = z := ⟨_, rfl⟩
  rw [hw1714]
  have ew1714 : w1714.toInt = 3 := by rw [← hw1714]; decide
  refine y_mul (c := 8) (len := 1) (r := (0, 0, 0, 0)) (by decide +kernel) (by omega) (by omega) (by omega) (fun y1715 hy1715 => ?_)
  refine y_sub (len := 1) (r := (0, 0, 0, 0)) (by decide +kernel) (by omega) (by omega) (fun y1716 hy1716 => ?_)
  refine y_bp (i := .ishr) (f := fun x y => x >>> (y &&& 31)) (len := 1) (r := (0, 0, 0, 0)) (by decide +kernel) rfl rfl (fun y1717 hy1717 => ?_)
  have hy1717 : y1717 = a3 >>> (y1716 &&& 31) := hy1717
  refine y_si (c := 255) (len := 3) (r := (0, 0, 0, 0)) (by decide +kernel) (by decide) (fun y1718 hy1718 => ?_)
  refine y_bp (i := .iand) (f := fun x y => x &&& y) (len := 1) (r := (0, 0, 0, 0)) (by decide +kernel) rfl rfl (fun y1719 hy1719 => ?_)
  have hy1719 : y1719 = y1717 &&& y1718 := hy1719
  have by1719 := and255 (x := y1717) (by omega) hy1719
  refine y_ias (i := (N + 11)) (len := 1) (r := (0, 0, 0, 0)) (by decide +kernel) hg (tu54 hg) at54 rfl (by omega) (by omega) (sr1 (by omega)) (by omega) (by omega) (fun h1720 hg1720 hl1720 hs1720 ho1720 => ?_)
  refine y_same (i := .aload_n 0) (len := 1) (r := (0, 0, 0, 0)) (pc' := 105) (ls' := [some (.inl (some 52)), some (zi a1), some (zi a2), some (zi a3), some (zi a4), some (zi a5), some (zi xi), some (zi a3)]) (st' := [.inl (some 52)]) (by decide +kernel) (fun k q => by cases q) rfl ?_
  refine y_same (i := .dup) (len := 1) (r := (0, 0, 0, 0)) (pc' := 106) (ls' := [some (.inl (some 52)), some (zi a1), some (zi a2), some (zi a3), some (zi a4), some (zi a5), some (zi xi), some (zi a3)]) (st' := [.inl (some 52), .inl (some 52)]) (by decide +kernel) (fun k q => by cases q) rfl ?_
  have hv1721 := (ho1720 52 2 (Or.inl (by omega))).trans hT
  refine y_get (j := 95) (len := 3) (r := (12, 2, 0, 1330)) (by decide +kernel) hg1720 (t52 hg1720) at52 rfl rfl hv1721 ?_
  refine y_ic (c := 1) (len := 1) (r := (0, 0, 0, 0)) (by decide +kernel) (by decide) (fun y1722 hy1722 => ?_)
  refine y_add (len := 1) (r := (0, 0, 0, 0)) (by decide +kernel) (by omega) (by omega) (fun y1723 hy1723 => ?_)
  refine y_put (j := 95) (lo := 0) (hi := 200) (len := 3) (r := (12, 2, 0, 1330)) (by decide +kernel) hg1720 (t52 hg1720) at52 rfl rfl (by decide) rfl (by omega) (by omega) rfl (fun h1724 hg1724 hl1724 hs1724 ho1724 => ?_)
  have ho1724 : hO 52 2 h1720 h1724 := ho1724
  have hs1724 : hsl h1724 52 2 = some (zi y1723) := hs1724
  refine y_inc (j := 6) (a := xi) (c := 1) (ls' := fun v => [some (.inl (some 52)), some (zi a1), some (zi a2), some (zi a3), some (zi a4), some (zi a5), some v, some (zi a3)]) (len := 3) (r := (0, 0, 0, 0)) (by decide +kernel) rfl (fun _ => rfl) (by decide) (by omega) (by omega) (fun y1725 hy1725 => ?_)
  show qX 3 165 117 [some (.inl (some 52)), some (zi a1), some (zi a2), some (zi a3), some (zi a4), some (zi a5), some (zi y1725), some (zi a3)] [] h1724 t _
  refine y_goto (off := (-94)) (pc' := 23) (len := 3) (r := (0, 0, 0, 0)) (by decide +kernel) (by decide +kernel) ?_
  have hv1726 := (ho1724 54 (N + 11) (Or.inl (by omega))).trans hs1720
  exact kk _ _ _ _ ⟨(aup_refl _), hg1724, fun k T j hk (hC : (k ≠ 52 ∨ j ≠ 2) ∧ (k ≠ 54 ∨ j ≠ N + 11)) => ((ho1724 k j (by omega)).trans (ho1720 k j (by omega)))⟩ hs1724 (by omega) ((show y1719 = bf a3 3 by rw [hy1719, hy1717, ofI2 (y := y1716) (w := 0) (c := 0) (by omega) (by decide), ofI2 (y := y1718) (w := 255) (c := 255) (by omega) (by decide)]; rfl) ▸ hv1726) (by omega)
theorem mf_12 {t N : Nat} {P : zo × zh × Nat → Prop} {τ : List Nat} {h : zh} {xT a1 a2 a3 a4 a5 xi x7 : Int32} (hg : hG τ h) (hT : hsl h 52 2 = some (zi xT)) (eT : xT.toInt = ((N + 12 : Nat) : Int)) (hT2 : N + 20 ≤ 200) (hxi : xi.toInt = 12) (kk : ∀ (h1 : zh) (x1 xi1 x71 : Int32), oF (fun k j => (k ≠ 52 ∨ j ≠ 2) ∧ (k ≠ 54 ∨ j ≠ N + 12)) τ h τ h1 → hsl h1 52 2 = some (zi x1) → x1.toInt = ((N + 13 : Nat) : Int) → hsl h1 54 (N + 12) = some (zi (bf a4 0)) → xi1.toInt = 13 → qX 3 165 23 [some (.inl (some 52)), some (zi a1), some (zi a2), some (zi a3), some (zi a4), some (zi a5), some (zi xi1), some (zi x71)] [] h1 t P) : qX 3 165 23 [some (.inl (some 52)), some (zi a1), some (zi a2), some (zi a3), some (zi a4), some (zi a5), some (zi xi), some (zi x7)] [] h t P := by
  refine y_same (i := .iload 6) (len := 2) (r := (0, 0, 0, 0)) (pc' := 25) (ls' := [some (.inl (some 52)), some (zi a1), some (zi a2), some (zi a3), some (zi a4), some (zi a5), some (zi xi), some (zi x7)]) (st' := [zi xi]) (by decide +kernel) (fun k q => by cases q) rfl ?_
  refine y_bi (c := 20) (len := 2) (r := (0, 0, 0, 0)) (by decide +kernel) (by decide) (fun y1727 hy1727 => ?_)
  refine y_cF (c := .ge) (off := 93) (len := 3) (r := (0, 0, 0, 0)) (by decide +kernel) (acmpF (c := .ge) (by show _ < _; omega)) ?_
  refine y_same (i := .iload 6) (len := 2) (r := (0, 0, 0, 0)) (pc' := 32) (ls' := [some (.inl (some 52)), some (zi a1), some (zi a2), some (zi a3), some (zi a4), some (zi a5), some (zi xi), some (zi x7)]) (st' := [zi xi]) (by decide +kernel) (fun k q => by cases q) rfl ?_
  refine y_ic (c := 4) (len := 1) (r := (0, 0, 0, 0)) (by decide +kernel) (by decide) (fun y1728 hy1728 => ?_)
  refine y_cT (c := .ge) (off := 7) (pc' := 40) (len := 3) (r := (0, 0, 0, 0)) (by decide +kernel) (acmpT (c := .ge) (by show _ ≤ _; omega)) (by decide +kernel) ?_
  refine y_same (i := .iload 6) (len := 2) (r := (0, 0, 0, 0)) (pc' := 42) (ls' := [some (.inl (some 52)), some (zi a1), some (zi a2), some (zi a3), some (zi a4), some (zi a5), some (zi xi), some (zi x7)]) (st' := [zi xi]) (by decide +kernel) (fun k q => by cases q) rfl ?_
  refine y_bi (c := 8) (len := 2) (r := (0, 0, 0, 0)) (by decide +kernel) (by decide) (fun y1729 hy1729 => ?_)
  refine y_cT (c := .ge) (off := 7) (pc' := 51) (len := 3) (r := (0, 0, 0, 0)) (by decide +kernel) (acmpT (c := .ge) (by show _ ≤ _; omega)) (by decide +kernel) ?_
  refine y_same (i := .iload 6) (len := 2) (r := (0, 0, 0, 0)) (pc' := 53) (ls' := [some (.inl (some 52)), some (zi a1), some (zi a2), some (zi a3), some (zi a4), some (zi a5), some (zi xi), some (zi x7)]) (st' := [zi xi]) (by decide +kernel) (fun k q => by cases q) rfl ?_
  refine y_bi (c := 12) (len := 2) (r := (0, 0, 0, 0)) (by decide +kernel) (by decide) (fun y1730 hy1730 => ?_)
  refine y_cT (c := .ge) (off := 7) (pc' := 62) (len := 3) (r := (0, 0, 0, 0)) (by decide +kernel) (acmpT (c := .ge) (by show _ ≤ _; omega)) (by decide +kernel) ?_
  refine y_same (i := .iload 6) (len := 2) (r := (0, 0, 0, 0)) (pc' := 64) (ls' := [some (.inl (some 52)), some (zi a1), some (zi a2), some (zi a3), some (zi a4), some (zi a5), some (zi xi), some (zi x7)]) (st' := [zi xi]) (by decide +kernel) (fun k q => by cases q) rfl ?_
  refine y_bi (c := 16) (len := 2) (r := (0, 0, 0, 0)) (by decide +kernel) (by decide) (fun y1731 hy1731 => ?_)
  refine y_cF (c := .ge) (off := 8) (len := 3) (r := (0, 0, 0, 0)) (by decide +kernel) (acmpF (c := .ge) (by show _ < _; omega)) ?_
  refine y_same (i := .iload 4) (len := 2) (r := (0, 0, 0, 0)) (pc' := 71) (ls' := [some (.inl (some 52)), some (zi a1), some (zi a2), some (zi a3), some (zi a4), some (zi a5), some (zi xi), some (zi x7)]) (st' := [zi a4]) (by decide +kernel) (fun k q => by cases q) rfl ?_
  refine y_goto (off := 5) (pc' := 76) (len := 3) (r := (0, 0, 0, 0)) (by decide +kernel) (by decide +kernel) ?_
  refine y_same (i := .istore 7) (len := 2) (r := (0, 0, 0, 0)) (pc' := 78) (ls' := [some (.inl (some 52)), some (zi a1), some (zi a2), some (zi a3), some (zi a4), some (zi a5), some (zi xi), some (zi a4)]) (st' := []) (by decide +kernel) (fun k q => by cases q) rfl ?_
  refine y_same (i := .aload_n 0) (len := 1) (r := (0, 0, 0, 0)) (pc' := 79) (ls' := [some (.inl (some 52)), some (zi a1), some (zi a2), some (zi a3), some (zi a4), some (zi a5), some (zi xi), some (zi a4)]) (st' := [.inl (some 52)]) (by decide +kernel) (fun k q => by cases q) rfl ?_
  refine y_get (j := 17) (len := 3) (r := (12, 8, 2, 1336)) (by decide +kernel) hg (t52 hg) at52 rfl rfl (g_r52 (f := 8) (T2 := 54) hg rfl (by decide)).1 ?_
  refine y_same (i := .aload_n 0) (len := 1) (r := (0, 0, 0, 0)) (pc' := 83) (ls' := [some (.inl (some 52)), some (zi a1), some (zi a2), some (zi a3), some (zi a4), some (zi a5), some (zi xi), some (zi a4)]) (st' := [.inl (some 52), .inl (some 54)]) (by decide +kernel) (fun k q => by cases q) rfl ?_
  refine y_get (j := 95) (len := 3) (r := (12, 2, 0, 1330)) (by decide +kernel) hg (t52 hg) at52 rfl rfl hT ?_
  refine y_same (i := .iload 7) (len := 2) (r := (0, 0, 0, 0)) (pc' := 88) (ls' := [some (.inl (some 52)), some (zi a1), some (zi a2), some (zi a3), some (zi a4), some (zi a5), some (zi xi), some (zi a4)]) (st' := [zi a4, zi xT, .inl (some 54)]) (by decide +kernel) (fun k q => by cases q) rfl ?_
  refine y_bi (c := 24) (len := 2) (r := (0, 0, 0, 0)) (by decide +kernel) (by decide) (fun y1732 hy1732 => ?_)
  refine y_bi (c := 8) (len := 2) (r := (0, 0, 0, 0)) (by decide +kernel) (by decide) (fun y1733 hy1733 => ?_)
  refine y_same (i := .iload 6) (len := 2) (r := (0, 0, 0, 0)) (pc' := 94) (ls' := [some (.inl (some 52)), some (zi a1), some (zi a2), some (zi a3), some (zi a4), some (zi a5), some (zi xi), some (zi a4)]) (st' := [zi xi, zi y1733, zi y1732, zi a4, zi xT, .inl (some 54)]) (by decide +kernel) (fun k q => by cases q) rfl ?_
  refine y_ic (c := 4) (len := 1) (r := (0, 0, 0, 0)) (by decide +kernel) (by decide) (fun y1734 hy1734 => ?_)
  refine y_rem (c := 12) (e := 4) (w := 0) (len := 1) (r := (0, 0, 0, 0)) (by decide +kernel) (ofI2 (c := 12) (by omega) (by decide)) (ofI2 (c := 4) (by omega) (by decide)) (by first | rfl | decide +kernel) ?_
  obtain ⟨w1735, hw1735⟩ : ∃ z : Int32, (0 : Int32) = z := ⟨_, rfl⟩
  rw [hw1735]
  have ew1735 : w1735.toInt = 0 := by rw [← hw1735]; decide
  refine y_mul (c := 8) (len := 1) (r := (0, 0, 0, 0)) (by decide +kernel) (by omega) (by omega) (by omega) (fun y1736 hy1736 => ?_)
  refine y_sub (len := 1) (r := (0, 0, 0, 0)) (by decide +kernel) (by omega) (by omega) (fun y1737 hy1737 => ?_)
  refine y_bp (i := .ishr) (f := fun x y => x >>> (y &&& 31)) (len := 1) (r := (0, 0, 0, 0)) (by decide +kernel) rfl rfl (fun y1738 hy1738 => ?_)
  have hy1738 : y1738 = a4 >>> (y1737 &&& 31) := hy1738
  refine y_si (c := 255) (len := 3) (r := (0, 0, 0, 0)) (by decide +kernel) (by decide) (fun y1739 hy1739 => ?_)
  refine y_bp (i := .iand) (f := fun x y => x &&& y) (len := 1) (r := (0, 0, 0, 0)) (by decide +kernel) rfl rfl (fun y1740 hy1740 => ?_)
  have hy1740 : y1740 = y1738 &&& y1739 := hy1740
  have by1740 := and255 (x := y1738) (by omega) hy1740
  refine y_ias (i := (N + 12)) (len := 1) (r := (0, 0, 0, 0)) (by decide +kernel) hg (tu54 hg) at54 rfl (by omega) (by omega) (sr1 (by omega)) (by omega) (by omega) (fun h1741 hg1741 hl1741 hs1741 ho1741 => ?_)
  refine y_same (i := .aload_n 0) (len := 1) (r := (0, 0, 0, 0)) (pc' := 105) (ls' := [some (.inl (some 52)), some (zi a1), some (zi a2), some (zi a3), some (zi a4), some (zi a5), some (zi xi), some (zi a4)]) (st' := [.inl (some 52)]) (by decide +kernel) (fun k q => by cases q) rfl ?_
  refine y_same (i := .dup) (len := 1) (r := (0, 0, 0, 0)) (pc' := 106) (ls' := [some (.inl (some 52)), some (zi a1), some (zi a2), some (zi a3), some (zi a4), some (zi a5), some (zi xi), some (zi a4)]) (st' := [.inl (some 52), .inl (some 52)]) (by decide +kernel) (fun k q => by cases q) rfl ?_
  have hv1742 := (ho1741 52 2 (Or.inl (by omega))).trans hT
  refine y_get (j := 95) (len := 3) (r := (12, 2, 0, 1330)) (by decide +kernel) hg1741 (t52 hg1741) at52 rfl rfl hv1742 ?_
  refine y_ic (c := 1) (len := 1) (r := (0, 0, 0, 0)) (by decide +kernel) (by decide) (fun y1743 hy1743 => ?_)
  refine y_add (len := 1) (r := (0, 0, 0, 0)) (by decide +kernel) (by omega) (by omega) (fun y1744 hy1744 => ?_)
  refine y_put (j := 95) (lo := 0) (hi := 200) (len := 3) (r := (12, 2, 0, 1330)) (by decide +kernel) hg1741 (t52 hg1741) at52 rfl rfl (by decide) rfl (by omega) (by omega) rfl (fun h1745 hg1745 hl1745 hs1745 ho1745 => ?_)
  have ho1745 : hO 52 2 h1741 h1745 := ho1745
  have hs1745 : hsl h1745 52 2 = some (zi y1744) := hs1745
  refine y_inc (j := 6) (a := xi) (c := 1) (ls' := fun v => [some (.inl (some 52)), some (zi a1), some (zi a2), some (zi a3), some (zi a4), some (zi a5), some v, some (zi a4)]) (len := 3) (r := (0, 0, 0, 0)) (by decide +kernel) rfl (fun _ => rfl) (by decide) (by omega) (by omega) (fun y1746 hy1746 => ?_)
  show qX 3 165 117 [some (.inl (some 52)), some (zi a1), some (zi a2), some (zi a3), some (zi a4), some (zi a5), some (zi y1746), some (zi a4)] [] h1745 t _
  refine y_goto (off := (-94)) (pc' := 23) (len := 3) (r := (0, 0, 0, 0)) (by decide +kernel) (by decide +kernel) ?_
  have hv1747 := (ho1745 54 (N + 12) (Or.inl (by omega))).trans hs1741
  exact kk _ _ _ _ ⟨(aup_refl _), hg1745, fun k T j hk (hC : (k ≠ 52 ∨ j ≠ 2) ∧ (k ≠ 54 ∨ j ≠ N + 12)) => ((ho1745 k j (by omega)).trans (ho1741 k j (by omega)))⟩ hs1745 (by omega) ((show y1740 = bf a4 0 by rw [hy1740, hy1738, ofI2 (y := y1737) (w := 24) (c := 24) (by omega) (by decide), ofI2 (y := y1739) (w := 255) (c := 255) (by omega) (by decide)]; rfl) ▸ hv1747) (by omega)
theorem mf_13 {t N : Nat} {P : zo × zh × Nat → Prop} {τ : List Nat} {h : zh} {xT a1 a2 a3 a4 a5 xi x7 : Int32} (hg : hG τ h) (hT : hsl h 52 2 = some (zi xT)) (eT : xT.toInt = ((N + 13 : Nat) : Int)) (hT2 : N + 20 ≤ 200) (hxi : xi.toInt = 13) (kk : ∀ (h1 : zh) (x1 xi1 x71 : Int32), oF (fun k j => (k ≠ 52 ∨ j ≠ 2) ∧ (k ≠ 54 ∨ j ≠ N + 13)) τ h τ h1 → hsl h1 52 2 = some (zi x1) → x1.toInt = ((N + 14 : Nat) : Int) → hsl h1 54 (N + 13) = some (zi (bf a4 1)) → xi1.toInt = 14 → qX 3 165 23 [some (.inl (some 52)), some (zi a1), some (zi a2), some (zi a3), some (zi a4), some (zi a5), some (zi xi1), some (zi x71)] [] h1 t P) : qX 3 165 23 [some (.inl (some 52)), some (zi a1), some (zi a2), some (zi a3), some (zi a4), some (zi a5), some (zi xi), some (zi x7)] [] h t P := by
  refine y_same (i := .iload 6) (len := 2) (r := (0, 0, 0, 0)) (pc' := 25) (ls' := [some (.inl (some 52)), some (zi a1), some (zi a2), some (zi a3), some (zi a4), some (zi a5), some (zi xi), some (zi x7)]) (st' := [zi xi]) (by decide +kernel) (fun k q => by cases q) rfl ?_
  refine y_bi (c := 20) (len := 2) (r := (0, 0, 0, 0)) (by decide +kernel) (by decide) (fun y1748 hy1748 => ?_)
  refine y_cF (c := .ge) (off := 93) (len := 3) (r := (0, 0, 0, 0)) (by decide +kernel) (acmpF (c := .ge) (by show _ < _; omega)) ?_
  refine y_same (i := .iload 6) (len := 2) (r := (0, 0, 0, 0)) (pc' := 32) (ls' := [some (.inl (some 52)), some (zi a1), some (zi a2), some (zi a3), some (zi a4), some (zi a5), some (zi xi), some (zi x7)]) (st' := [zi xi]) (by decide +kernel) (fun k q => by cases q) rfl ?_
  refine y_ic (c := 4) (len := 1) (r := (0, 0, 0, 0)) (by decide +kernel) (by decide) (fun y1749 hy1749 => ?_)
  refine y_cT (c := .ge) (off := 7) (pc' := 40) (len := 3) (r := (0, 0, 0, 0)) (by decide +kernel) (acmpT (c := .ge) (by show _ ≤ _; omega)) (by decide +kernel) ?_
  refine y_same (i := .iload 6) (len := 2) (r := (0, 0, 0, 0)) (pc' := 42) (ls' := [some (.inl (some 52)), some (zi a1), some (zi a2), some (zi a3), some (zi a4), some (zi a5), some (zi xi), some (zi x7)]) (st' := [zi xi]) (by decide +kernel) (fun k q => by cases q) rfl ?_
  refine y_bi (c := 8) (len := 2) (r := (0, 0, 0, 0)) (by decide +kernel) (by decide) (fun y1750 hy1750 => ?_)
  refine y_cT (c := .ge) (off := 7) (pc' := 51) (len := 3) (r := (0, 0, 0, 0)) (by decide +kernel) (acmpT (c := .ge) (by show _ ≤ _; omega)) (by decide +kernel) ?_
  refine y_same (i := .iload 6) (len := 2) (r := (0, 0, 0, 0)) (pc' := 53) (ls' := [some (.inl (some 52)), some (zi a1), some (zi a2), some (zi a3), some (zi a4), some (zi a5), some (zi xi), some (zi x7)]) (st' := [zi xi]) (by decide +kernel) (fun k q => by cases q) rfl ?_
  refine y_bi (c := 12) (len := 2) (r := (0, 0, 0, 0)) (by decide +kernel) (by decide) (fun y1751 hy1751 => ?_)
  refine y_cT (c := .ge) (off := 7) (pc' := 62) (len := 3) (r := (0, 0, 0, 0)) (by decide +kernel) (acmpT (c := .ge) (by show _ ≤ _; omega)) (by decide +kernel) ?_
  refine y_same (i := .iload 6) (len := 2) (r := (0, 0, 0, 0)) (pc' := 64) (ls' := [some (.inl (some 52)), some (zi a1), some (zi a2), some (zi a3), some (zi a4), some (zi a5), some (zi xi), some (zi x7)]) (st' := [zi xi]) (by decide +kernel) (fun k q => by cases q) rfl ?_
  refine y_bi (c := 16) (len := 2) (r := (0, 0, 0, 0)) (by decide +kernel) (by decide) (fun y1752 hy1752 => ?_)
  refine y_cF (c := .ge) (off := 8) (len := 3) (r := (0, 0, 0, 0)) (by decide +kernel) (acmpF (c := .ge) (by show _ < _; omega)) ?_
  refine y_same (i := .iload 4) (len := 2) (r := (0, 0, 0, 0)) (pc' := 71) (ls' := [some (.inl (some 52)), some (zi a1), some (zi a2), some (zi a3), some (zi a4), some (zi a5), some (zi xi), some (zi x7)]) (st' := [zi a4]) (by decide +kernel) (fun k q => by cases q) rfl ?_
  refine y_goto (off := 5) (pc' := 76) (len := 3) (r := (0, 0, 0, 0)) (by decide +kernel) (by decide +kernel) ?_
  refine y_same (i := .istore 7) (len := 2) (r := (0, 0, 0, 0)) (pc' := 78) (ls' := [some (.inl (some 52)), some (zi a1), some (zi a2), some (zi a3), some (zi a4), some (zi a5), some (zi xi), some (zi a4)]) (st' := []) (by decide +kernel) (fun k q => by cases q) rfl ?_
  refine y_same (i := .aload_n 0) (len := 1) (r := (0, 0, 0, 0)) (pc' := 79) (ls' := [some (.inl (some 52)), some (zi a1), some (zi a2), some (zi a3), some (zi a4), some (zi a5), some (zi xi), some (zi a4)]) (st' := [.inl (some 52)]) (by decide +kernel) (fun k q => by cases q) rfl ?_
  refine y_get (j := 17) (len := 3) (r := (12, 8, 2, 1336)) (by decide +kernel) hg (t52 hg) at52 rfl rfl (g_r52 (f := 8) (T2 := 54) hg rfl (by decide)).1 ?_
  refine y_same (i := .aload_n 0) (len := 1) (r := (0, 0, 0, 0)) (pc' := 83) (ls' := [some (.inl (some 52)), some (zi a1), some (zi a2), some (zi a3), some (zi a4), some (zi a5), some (zi xi), some (zi a4)]) (st' := [.inl (some 52), .inl (some 54)]) (by decide +kernel) (fun k q => by cases q) rfl ?_
  refine y_get (j := 95) (len := 3) (r := (12, 2, 0, 1330)) (by decide +kernel) hg (t52 hg) at52 rfl rfl hT ?_
  refine y_same (i := .iload 7) (len := 2) (r := (0, 0, 0, 0)) (pc' := 88) (ls' := [some (.inl (some 52)), some (zi a1), some (zi a2), some (zi a3), some (zi a4), some (zi a5), some (zi xi), some (zi a4)]) (st' := [zi a4, zi xT, .inl (some 54)]) (by decide +kernel) (fun k q => by cases q) rfl ?_
  refine y_bi (c := 24) (len := 2) (r := (0, 0, 0, 0)) (by decide +kernel) (by decide) (fun y1753 hy1753 => ?_)
  refine y_bi (c := 8) (len := 2) (r := (0, 0, 0, 0)) (by decide +kernel) (by decide) (fun y1754 hy1754 => ?_)
  refine y_same (i := .iload 6) (len := 2) (r := (0, 0, 0, 0)) (pc' := 94) (ls' := [some (.inl (some 52)), some (zi a1), some (zi a2), some (zi a3), some (zi a4), some (zi a5), some (zi xi), some (zi a4)]) (st' := [zi xi, zi y1754, zi y1753, zi a4, zi xT, .inl (some 54)]) (by decide +kernel) (fun k q => by cases q) rfl ?_
  refine y_ic (c := 4) (len := 1) (r := (0, 0, 0, 0)) (by decide +kernel) (by decide) (fun y1755 hy1755 => ?_)
  refine y_rem (c := 13) (e := 4) (w := 1) (len := 1) (r := (0, 0, 0, 0)) (by decide +kernel) (ofI2 (c := 13) (by omega) (by decide)) (ofI2 (c := 4) (by omega) (by decide)) (by first | rfl | decide +kernel) ?_
  obtain ⟨w1756, hw1756⟩ : ∃ z : Int32, (1 : Int32) = z := ⟨_, rfl⟩
  rw [hw1756]
  have ew1756 : w1756.toInt = 1 := by rw [← hw1756]; decide
  refine y_mul (c := 8) (len := 1) (r := (0, 0, 0, 0)) (by decide +kernel) (by omega) (by omega) (by omega) (fun y1757 hy1757 => ?_)
  refine y_sub (len := 1) (r := (0, 0, 0, 0)) (by decide +kernel) (by omega) (by omega) (fun y1758 hy1758 => ?_)
  refine y_bp (i := .ishr) (f := fun x y => x >>> (y &&& 31)) (len := 1) (r := (0, 0, 0, 0)) (by decide +kernel) rfl rfl (fun y1759 hy1759 => ?_)
  have hy1759 : y1759 = a4 >>> (y1758 &&& 31) := hy1759
  refine y_si (c := 255) (len := 3) (r := (0, 0, 0, 0)) (by decide +kernel) (by decide) (fun y1760 hy1760 => ?_)
  refine y_bp (i := .iand) (f := fun x y => x &&& y) (len := 1) (r := (0, 0, 0, 0)) (by decide +kernel) rfl rfl (fun y1761 hy1761 => ?_)
  have hy1761 : y1761 = y1759 &&& y1760 := hy1761
  have by1761 := and255 (x := y1759) (by omega) hy1761
  refine y_ias (i := (N + 13)) (len := 1) (r := (0, 0, 0, 0)) (by decide +kernel) hg (tu54 hg) at54 rfl (by omega) (by omega) (sr1 (by omega)) (by omega) (by omega) (fun h1762 hg1762 hl1762 hs1762 ho1762 => ?_)
  refine y_same (i := .aload_n 0) (len := 1) (r := (0, 0, 0, 0)) (pc' := 105) (ls' := [some (.inl (some 52)), some (zi a1), some (zi a2), some (zi a3), some (zi a4), some (zi a5), some (zi xi), some (zi a4)]) (st' := [.inl (some 52)]) (by decide +kernel) (fun k q => by cases q) rfl ?_
  refine y_same (i := .dup) (len := 1) (r := (0, 0, 0, 0)) (pc' := 106) (ls' := [some (.inl (some 52)), some (zi a1), some (zi a2), some (zi a3), some (zi a4), some (zi a5), some (zi xi), some (zi a4)]) (st' := [.inl (some 52), .inl (some 52)]) (by decide +kernel) (fun k q => by cases q) rfl ?_
  have hv1763 := (ho1762 52 2 (Or.inl (by omega))).trans hT
  refine y_get (j := 95) (len := 3) (r := (12, 2, 0, 1330)) (by decide +kernel) hg1762 (t52 hg1762) at52 rfl rfl hv1763 ?_
  refine y_ic (c := 1) (len := 1) (r := (0, 0, 0, 0)) (by decide +kernel) (by decide) (fun y1764 hy1764 => ?_)
  refine y_add (len := 1) (r := (0, 0, 0, 0)) (by decide +kernel) (by omega) (by omega) (fun y1765 hy1765 => ?_)
  refine y_put (j := 95) (lo := 0) (hi := 200) (len := 3) (r := (12, 2, 0, 1330)) (by decide +kernel) hg1762 (t52 hg1762) at52 rfl rfl (by decide) rfl (by omega) (by omega) rfl (fun h1766 hg1766 hl1766 hs1766 ho1766 => ?_)
  have ho1766 : hO 52 2 h1762 h1766 := ho1766
  have hs1766 : hsl h1766 52 2 = some (zi y1765) := hs1766
  refine y_inc (j := 6) (a := xi) (c := 1) (ls' := fun v => [some (.inl (some 52)), some (zi a1), some (zi a2), some (zi a3), some (zi a4), some (zi a5), some v, some (zi a4)]) (len := 3) (r := (0, 0, 0, 0)) (by decide +kernel) rfl (fun _ => rfl) (by decide) (by omega) (by omega) (fun y1767 hy1767 => ?_)
  show qX 3 165 117 [some (.inl (some 52)), some (zi a1), some (zi a2), some (zi a3), some (zi a4), some (zi a5), some (zi y1767), some (zi a4)] [] h1766 t _
  refine y_goto (off := (-94)) (pc' := 23) (len := 3) (r := (0, 0, 0, 0)) (by decide +kernel) (by decide +kernel) ?_
  have hv1768 := (ho1766 54 (N + 13) (Or.inl (by omega))).trans hs1762
  exact kk _ _ _ _ ⟨(aup_refl _), hg1766, fun k T j hk (hC : (k ≠ 52 ∨ j ≠ 2) ∧ (k ≠ 54 ∨ j ≠ N + 13)) => ((ho1766 k j (by omega)).trans (ho1762 k j (by omega)))⟩ hs1766 (by omega) ((show y1761 = bf a4 1 by rw [hy1761, hy1759, ofI2 (y := y1758) (w := 16) (c := 16) (by omega) (by decide), ofI2 (y := y1760) (w := 255) (c := 255) (by omega) (by decide)]; rfl) ▸ hv1768) (by omega)
theorem mf_14 {t N : Nat} {P : zo × zh × Nat → Prop} {τ : List Nat} {h : zh} {xT a1 a2 a3 a4 a5 xi x7 : Int32} (hg : hG τ h) (hT : hsl h 52 2 = some (zi xT)) (eT : xT.toInt = ((N + 14 : Nat) : Int)) (hT2 : N + 20 ≤ 200) (hxi : xi.toInt = 14) (kk : ∀ (h1 : zh) (x1 xi1 x71 : Int32), oF (fun k j => (k ≠ 52 ∨ j ≠ 2) ∧ (k ≠ 54 ∨ j ≠ N + 14)) τ h τ h1 → hsl h1 52 2 = some (zi x1) → x1.toInt = ((N + 15 : Nat) : Int) → hsl h1 54 (N + 14) = some (zi (bf a4 2)) → xi1.toInt = 15 → qX 3 165 23 [some (.inl (some 52)), some (zi a1), some (zi a2), some (zi a3), some (zi a4), some (zi a5), some (zi xi1), some (zi x71)] [] h1 t P) : qX 3 165 23 [some (.inl (some 52)), some (zi a1), some (zi a2), some (zi a3), some (zi a4), some (zi a5), some (zi xi), some (zi x7)] [] h t P := by
  refine y_same (i := .iload 6) (len := 2) (r := (0, 0, 0, 0)) (pc' := 25) (ls' := [some (.inl (some 52)), some (zi a1), some (zi a2), some (zi a3), some (zi a4), some (zi a5), some (zi xi), some (zi x7)]) (st' := [zi xi]) (by decide +kernel) (fun k q => by cases q) rfl ?_
  refine y_bi (c := 20) (len := 2) (r := (0, 0, 0, 0)) (by decide +kernel) (by decide) (fun y1769 hy1769 => ?_)
  refine y_cF (c := .ge) (off := 93) (len := 3) (r := (0, 0, 0, 0)) (by decide +kernel) (acmpF (c := .ge) (by show _ < _; omega)) ?_
  refine y_same (i := .iload 6) (len := 2) (r := (0, 0, 0, 0)) (pc' := 32) (ls' := [some (.inl (some 52)), some (zi a1), some (zi a2), some (zi a3), some (zi a4), some (zi a5), some (zi xi), some (zi x7)]) (st' := [zi xi]) (by decide +kernel) (fun k q => by cases q) rfl ?_
  refine y_ic (c := 4) (len := 1) (r := (0, 0, 0, 0)) (by decide +kernel) (by decide) (fun y1770 hy1770 => ?_)
  refine y_cT (c := .ge) (off := 7) (pc' := 40) (len := 3) (r := (0, 0, 0, 0)) (by decide +kernel) (acmpT (c := .ge) (by show _ ≤ _; omega)) (by decide +kernel) ?_
  refine y_same (i := .iload 6) (len := 2) (r := (0, 0, 0, 0)) (pc' := 42) (ls' := [some (.inl (some 52)), some (zi a1), some (zi a2), some (zi a3), some (zi a4), some (zi a5), some (zi xi), some (zi x7)]) (st' := [zi xi]) (by decide +kernel) (fun k q => by cases q) rfl ?_
  refine y_bi (c := 8) (len := 2) (r := (0, 0, 0, 0)) (by decide +kernel) (by decide) (fun y1771 hy1771 => ?_)
  refine y_cT (c := .ge) (off := 7) (pc' := 51) (len := 3) (r := (0, 0, 0, 0)) (by decide +kernel) (acmpT (c := .ge) (by show _ ≤ _; omega)) (by decide +kernel) ?_
  refine y_same (i := .iload 6) (len := 2) (r := (0, 0, 0, 0)) (pc' := 53) (ls' := [some (.inl (some 52)), some (zi a1), some (zi a2), some (zi a3), some (zi a4), some (zi a5), some (zi xi), some (zi x7)]) (st' := [zi xi]) (by decide +kernel) (fun k q => by cases q) rfl ?_
  refine y_bi (c := 12) (len := 2) (r := (0, 0, 0, 0)) (by decide +kernel) (by decide) (fun y1772 hy1772 => ?_)
  refine y_cT (c := .ge) (off := 7) (pc' := 62) (len := 3) (r := (0, 0, 0, 0)) (by decide +kernel) (acmpT (c := .ge) (by show _ ≤ _; omega)) (by decide +kernel) ?_
  refine y_same (i := .iload 6) (len := 2) (r := (0, 0, 0, 0)) (pc' := 64) (ls' := [some (.inl (some 52)), some (zi a1), some (zi a2), some (zi a3), some (zi a4), some (zi a5), some (zi xi), some (zi x7)]) (st' := [zi xi]) (by decide +kernel) (fun k q => by cases q) rfl ?_
  refine y_bi (c := 16) (len := 2) (r := (0, 0, 0, 0)) (by decide +kernel) (by decide) (fun y1773 hy1773 => ?_)
  refine y_cF (c := .ge) (off := 8) (len := 3) (r := (0, 0, 0, 0)) (by decide +kernel) (acmpF (c := .ge) (by show _ < _; omega)) ?_
  refine y_same (i := .iload 4) (len := 2) (r := (0, 0, 0, 0)) (pc' := 71) (ls' := [some (.inl (some 52)), some (zi a1), some (zi a2), some (zi a3), some (zi a4), some (zi a5), some (zi xi), some (zi x7)]) (st' := [zi a4]) (by decide +kernel) (fun k q => by cases q) rfl ?_
  refine y_goto (off := 5) (pc' := 76) (len := 3) (r := (0, 0, 0, 0)) (by decide +kernel) (by decide +kernel) ?_
  refine y_same (i := .istore 7) (len := 2) (r := (0, 0, 0, 0)) (pc' := 78) (ls' := [some (.inl (some 52)), some (zi a1), some (zi a2), some (zi a3), some (zi a4), some (zi a5), some (zi xi), some (zi a4)]) (st' := []) (by decide +kernel) (fun k q => by cases q) rfl ?_
  refine y_same (i := .aload_n 0) (len := 1) (r := (0, 0, 0, 0)) (pc' := 79) (ls' := [some (.inl (some 52)), some (zi a1), some (zi a2), some (zi a3), some (zi a4), some (zi a5), some (zi xi), some (zi a4)]) (st' := [.inl (some 52)]) (by decide +kernel) (fun k q => by cases q) rfl ?_
  refine y_get (j := 17) (len := 3) (r := (12, 8, 2, 1336)) (by decide +kernel) hg (t52 hg) at52 rfl rfl (g_r52 (f := 8) (T2 := 54) hg rfl (by decide)).1 ?_
  refine y_same (i := .aload_n 0) (len := 1) (r := (0, 0, 0, 0)) (pc' := 83) (ls' := [some (.inl (some 52)), some (zi a1), some (zi a2), some (zi a3), some (zi a4), some (zi a5), some (zi xi), some (zi a4)]) (st' := [.inl (some 52), .inl (some 54)]) (by decide +kernel) (fun k q => by cases q) rfl ?_
  refine y_get (j := 95) (len := 3) (r := (12, 2, 0, 1330)) (by decide +kernel) hg (t52 hg) at52 rfl rfl hT ?_
  refine y_same (i := .iload 7) (len := 2) (r := (0, 0, 0, 0)) (pc' := 88) (ls' := [some (.inl (some 52)), some (zi a1), some (zi a2), some (zi a3), some (zi a4), some (zi a5), some (zi xi), some (zi a4)]) (st' := [zi a4, zi xT, .inl (some 54)]) (by decide +kernel) (fun k q => by cases q) rfl ?_
  refine y_bi (c := 24) (len := 2) (r := (0, 0, 0, 0)) (by decide +kernel) (by decide) (fun y1774 hy1774 => ?_)
  refine y_bi (c := 8) (len := 2) (r := (0, 0, 0, 0)) (by decide +kernel) (by decide) (fun y1775 hy1775 => ?_)
  refine y_same (i := .iload 6) (len := 2) (r := (0, 0, 0, 0)) (pc' := 94) (ls' := [some (.inl (some 52)), some (zi a1), some (zi a2), some (zi a3), some (zi a4), some (zi a5), some (zi xi), some (zi a4)]) (st' := [zi xi, zi y1775, zi y1774, zi a4, zi xT, .inl (some 54)]) (by decide +kernel) (fun k q => by cases q) rfl ?_
  refine y_ic (c := 4) (len := 1) (r := (0, 0, 0, 0)) (by decide +kernel) (by decide) (fun y1776 hy1776 => ?_)
  refine y_rem (c := 14) (e := 4) (w := 2) (len := 1) (r := (0, 0, 0, 0)) (by decide +kernel) (ofI2 (c := 14) (by omega) (by decide)) (ofI2 (c := 4) (by omega) (by decide)) (by first | rfl | decide +kernel) ?_
  obtain ⟨w1777, hw1777⟩ : ∃ z : Int32, (2 : Int32) = z := ⟨_, rfl⟩
  rw [hw1777]
  have ew1777 : w1777.toInt = 2 := by rw [← hw1777]; decide
  refine y_mul (c := 8) (len := 1) (r := (0, 0, 0, 0)) (by decide +kernel) (by omega) (by omega) (by omega) (fun y1778 hy1778 => ?_)
  refine y_sub (len := 1) (r := (0, 0, 0, 0)) (by decide +kernel) (by omega) (by omega) (fun y1779 hy1779 => ?_)
  refine y_bp (i := .ishr) (f := fun x y => x >>> (y &&& 31)) (len := 1) (r := (0, 0, 0, 0)) (by decide +kernel) rfl rfl (fun y1780 hy1780 => ?_)
  have hy1780 : y1780 = a4 >>> (y1779 &&& 31) := hy1780
  refine y_si (c := 255) (len := 3) (r := (0, 0, 0, 0)) (by decide +kernel) (by decide) (fun y1781 hy1781 => ?_)
  refine y_bp (i := .iand) (f := fun x y => x &&& y) (len := 1) (r := (0, 0, 0, 0)) (by decide +kernel) rfl rfl (fun y1782 hy1782 => ?_)
  have hy1782 : y1782 = y1780 &&& y1781 := hy1782
  have by1782 := and255 (x := y1780) (by omega) hy1782
  refine y_ias (i := (N + 14)) (len := 1) (r := (0, 0, 0, 0)) (by decide +kernel) hg (tu54 hg) at54 rfl (by omega) (by omega) (sr1 (by omega)) (by omega) (by omega) (fun h1783 hg1783 hl1783 hs1783 ho1783 => ?_)
  refine y_same (i := .aload_n 0) (len := 1) (r := (0, 0, 0, 0)) (pc' := 105) (ls' := [some (.inl (some 52)), some (zi a1), some (zi a2), some (zi a3), some (zi a4), some (zi a5), some (zi xi), some (zi a4)]) (st' := [.inl (some 52)]) (by decide +kernel) (fun k q => by cases q) rfl ?_
  refine y_same (i := .dup) (len := 1) (r := (0, 0, 0, 0)) (pc' := 106) (ls' := [some (.inl (some 52)), some (zi a1), some (zi a2), some (zi a3), some (zi a4), some (zi a5), some (zi xi), some (zi a4)]) (st' := [.inl (some 52), .inl (some 52)]) (by decide +kernel) (fun k q => by cases q) rfl ?_
  have hv1784 := (ho1783 52 2 (Or.inl (by omega))).trans hT
  refine y_get (j := 95) (len := 3) (r := (12, 2, 0, 1330)) (by decide +kernel) hg1783 (t52 hg1783) at52 rfl rfl hv1784 ?_
  refine y_ic (c := 1) (len := 1) (r := (0, 0, 0, 0)) (by decide +kernel) (by decide) (fun y1785 hy1785 => ?_)
  refine y_add (len := 1) (r := (0, 0, 0, 0)) (by decide +kernel) (by omega) (by omega) (fun y1786 hy1786 => ?_)
  refine y_put (j := 95) (lo := 0) (hi := 200) (len := 3) (r := (12, 2, 0, 1330)) (by decide +kernel) hg1783 (t52 hg1783) at52 rfl rfl (by decide) rfl (by omega) (by omega) rfl (fun h1787 hg1787 hl1787 hs1787 ho1787 => ?_)
  have ho1787 : hO 52 2 h1783 h1787 := ho1787
  have hs1787 : hsl h1787 52 2 = some (zi y1786) := hs1787
  refine y_inc (j := 6) (a := xi) (c := 1) (ls' := fun v => [some (.inl (some 52)), some (zi a1), some (zi a2), some (zi a3), some (zi a4), some (zi a5), some v, some (zi a4)]) (len := 3) (r := (0, 0, 0, 0)) (by decide +kernel) rfl (fun _ => rfl) (by decide) (by omega) (by omega) (fun y1788 hy1788 => ?_)
  show qX 3 165 117 [some (.inl (some 52)), some (zi a1), some (zi a2), some (zi a3), some (zi a4), some (zi a5), some (zi y1788), some (zi a4)] [] h1787 t _
  refine y_goto (off := (-94)) (pc' := 23) (len := 3) (r := (0, 0, 0, 0)) (by decide +kernel) (by decide +kernel) ?_
  have hv1789 := (ho1787 54 (N + 14) (Or.inl (by omega))).trans hs1783
  exact kk _ _ _ _ ⟨(aup_refl _), hg1787, fun k T j hk (hC : (k ≠ 52 ∨ j ≠ 2) ∧ (k ≠ 54 ∨ j ≠ N + 14)) => ((ho1787 k j (by omega)).trans (ho1783 k j (by omega)))⟩ hs1787 (by omega) ((show y1782 = bf a4 2 by rw [hy1782, hy1780, ofI2 (y := y1779) (w := 8) (c := 8) (by omega) (by decide), ofI2 (y := y1781) (w := 255) (c := 255) (by omega) (by decide)]; rfl) ▸ hv1789) (by omega)
theorem mf_15 {t N : Nat} {P : zo × zh × Nat → Prop} {τ : List Nat} {h : zh} {xT a1 a2 a3 a4 a5 xi x7 : Int32} (hg : hG τ h) (hT : hsl h 52 2 = some (zi xT)) (eT : xT.toInt = ((N + 15 : Nat) : Int)) (hT2 : N + 20 ≤ 200) (hxi : xi.toInt = 15) (kk : ∀ (h1 : zh) (x1 xi1 x71 : Int32), oF (fun k j => (k ≠ 52 ∨ j ≠ 2) ∧ (k ≠ 54 ∨ j ≠ N + 15)) τ h τ h1 → hsl h1 52 2 = some (zi x1) → x1.toInt = ((N + 16 : Nat) : Int) → hsl h1 54 (N + 15) = some (zi (bf a4 3)) → xi1.toInt = 16 → qX 3 165 23 [some (.inl (some 52)), some (zi a1), some (zi a2), some (zi a3), some (zi a4), some (zi a5), some (zi xi1), some (zi x71)] [] h1 t P) : qX 3 165 23 [some (.inl (some 52)), some (zi a1), some (zi a2), some (zi a3), some (zi a4), some (zi a5), some (zi xi), some (zi x7)] [] h t P := by
  refine y_same (i := .iload 6) (len := 2) (r := (0, 0, 0, 0)) (pc' := 25) (ls' := [some (.inl (some 52)), some (zi a1), some (zi a2), some (zi a3), some (zi a4), some (zi a5), some (zi xi), some (zi x7)]) (st' := [zi xi]) (by decide +kernel) (fun k q => by cases q) rfl ?_
  refine y_bi (c := 20) (len := 2) (r := (0, 0, 0, 0)) (by decide +kernel) (by decide) (fun y1790 hy1790 => ?_)
  refine y_cF (c := .ge) (off := 93) (len := 3) (r := (0, 0, 0, 0)) (by decide +kernel) (acmpF (c := .ge) (by show _ < _; omega)) ?_
  refine y_same (i := .iload 6) (len := 2) (r := (0, 0, 0, 0)) (pc' := 32) (ls' := [some (.inl (some 52)), some (zi a1), some (zi a2), some (zi a3), some (zi a4), some (zi a5), some (zi xi), some (zi x7)]) (st' := [zi xi]) (by decide +kernel) (fun k q => by cases q) rfl ?_
  refine y_ic (c := 4) (len := 1) (r := (0, 0, 0, 0)) (by decide +kernel) (by decide) (fun y1791 hy1791 => ?_)
  refine y_cT (c := .ge) (off := 7) (pc' := 40) (len := 3) (r := (0, 0, 0, 0)) (by decide +kernel) (acmpT (c := .ge) (by show _ ≤ _; omega)) (by decide +kernel) ?_
  refine y_same (i := .iload 6) (len := 2) (r := (0, 0, 0, 0)) (pc' := 42) (ls' := [some (.inl (some 52)), some (zi a1), some (zi a2), some (zi a3), some (zi a4), some (zi a5), some (zi xi), some (zi x7)]) (st' := [zi xi]) (by decide +kernel) (fun k q => by cases q) rfl ?_
  refine y_bi (c := 8) (len := 2) (r := (0, 0, 0, 0)) (by decide +kernel) (by decide) (fun y1792 hy1792 => ?_)
  refine y_cT (c := .ge) (off := 7) (pc' := 51) (len := 3) (r := (0, 0, 0, 0)) (by decide +kernel) (acmpT (c := .ge) (by show _ ≤ _; omega)) (by decide +kernel) ?_
  refine y_same (i := .iload 6) (len := 2) (r := (0, 0, 0, 0)) (pc' := 53) (ls' := [some (.inl (some 52)), some (zi a1), some (zi a2), some (zi a3), some (zi a4), some (zi a5), some (zi xi), some (zi x7)]) (st' := [zi xi]) (by decide +kernel) (fun k q => by cases q) rfl ?_
  refine y_bi (c := 12) (len := 2) (r := (0, 0, 0, 0)) (by decide +kernel) (by decide) (fun y1793 hy1793 => ?_)
  refine y_cT (c := .ge) (off := 7) (pc' := 62) (len := 3) (r := (0, 0, 0, 0)) (by decide +kernel) (acmpT (c := .ge) (by show _ ≤ _; omega)) (by decide +kernel) ?_
  refine y_same (i := .iload 6) (len := 2) (r := (0, 0, 0, 0)) (pc' := 64) (ls' := [some (.inl (some 52)), some (zi a1), some (zi a2), some (zi a3), some (zi a4), some (zi a5), some (zi xi), some (zi x7)]) (st' := [zi xi]) (by decide +kernel) (fun k q => by cases q) rfl ?_
  refine y_bi (c := 16) (len := 2) (r := (0, 0, 0, 0)) (by decide +kernel) (by decide) (fun y1794 hy1794 => ?_)
  refine y_cF (c := .ge) (off := 8) (len := 3) (r := (0, 0, 0, 0)) (by decide +kernel) (acmpF (c := .ge) (by show _ < _; omega)) ?_
  refine y_same (i := .iload 4) (len := 2) (r := (0, 0, 0, 0)) (pc' := 71) (ls' := [some (.inl (some 52)), some (zi a1), some (zi a2), some (zi a3), some (zi a4), some (zi a5), some (zi xi), some (zi x7)]) (st' := [zi a4]) (by decide +kernel) (fun k q => by cases q) rfl ?_
  refine y_goto (off := 5) (pc' := 76) (len := 3) (r := (0, 0, 0, 0)) (by decide +kernel) (by decide +kernel) ?_
  refine y_same (i := .istore 7) (len := 2) (r := (0, 0, 0, 0)) (pc' := 78) (ls' := [some (.inl (some 52)), some (zi a1), some (zi a2), some (zi a3), some (zi a4), some (zi a5), some (zi xi), some (zi a4)]) (st' := []) (by decide +kernel) (fun k q => by cases q) rfl ?_
  refine y_same (i := .aload_n 0) (len := 1) (r := (0, 0, 0, 0)) (pc' := 79) (ls' := [some (.inl (some 52)), some (zi a1), some (zi a2), some (zi a3), some (zi a4), some (zi a5), some (zi xi), some (zi a4)]) (st' := [.inl (some 52)]) (by decide +kernel) (fun k q => by cases q) rfl ?_
  refine y_get (j := 17) (len := 3) (r := (12, 8, 2, 1336)) (by decide +kernel) hg (t52 hg) at52 rfl rfl (g_r52 (f := 8) (T2 := 54) hg rfl (by decide)).1 ?_
  refine y_same (i := .aload_n 0) (len := 1) (r := (0, 0, 0, 0)) (pc' := 83) (ls' := [some (.inl (some 52)), some (zi a1), some (zi a2), some (zi a3), some (zi a4), some (zi a5), some (zi xi), some (zi a4)]) (st' := [.inl (some 52), .inl (some 54)]) (by decide +kernel) (fun k q => by cases q) rfl ?_
  refine y_get (j := 95) (len := 3) (r := (12, 2, 0, 1330)) (by decide +kernel) hg (t52 hg) at52 rfl rfl hT ?_
  refine y_same (i := .iload 7) (len := 2) (r := (0, 0, 0, 0)) (pc' := 88) (ls' := [some (.inl (some 52)), some (zi a1), some (zi a2), some (zi a3), some (zi a4), some (zi a5), some (zi xi), some (zi a4)]) (st' := [zi a4, zi xT, .inl (some 54)]) (by decide +kernel) (fun k q => by cases q) rfl ?_
  refine y_bi (c := 24) (len := 2) (r := (0, 0, 0, 0)) (by decide +kernel) (by decide) (fun y1795 hy1795 => ?_)
  refine y_bi (c := 8) (len := 2) (r := (0, 0, 0, 0)) (by decide +kernel) (by decide) (fun y1796 hy1796 => ?_)
  refine y_same (i := .iload 6) (len := 2) (r := (0, 0, 0, 0)) (pc' := 94) (ls' := [some (.inl (some 52)), some (zi a1), some (zi a2), some (zi a3), some (zi a4), some (zi a5), some (zi xi), some (zi a4)]) (st' := [zi xi, zi y1796, zi y1795, zi a4, zi xT, .inl (some 54)]) (by decide +kernel) (fun k q => by cases q) rfl ?_
  refine y_ic (c := 4) (len := 1) (r := (0, 0, 0, 0)) (by decide +kernel) (by decide) (fun y1797 hy1797 => ?_)
  refine y_rem (c := 15) (e := 4) (w := 3) (len := 1) (r := (0, 0, 0, 0)) (by decide +kernel) (ofI2 (c := 15) (by omega) (by decide)) (ofI2 (c := 4) (by omega) (by decide)) (by first | rfl | decide +kernel) ?_
  obtain ⟨w1798, hw1798⟩ : ∃ z : Int32, (3 : Int32) = z := ⟨_, rfl⟩
  rw [hw1798]
  have ew1798 : w1798.toInt = 3 := by rw [← hw1798]; decide
  refine y_mul (c := 8) (len := 1) (r := (0, 0, 0, 0)) (by decide +kernel) (by omega) (by omega) (by omega) (fun y1799 hy1799 => ?_)
  refine y_sub (len := 1) (r := (0, 0, 0, 0)) (by decide +kernel) (by omega) (by omega) (fun y1800 hy1800 => ?_)
  refine y_bp (i := .ishr) (f := fun x y => x >>> (y &&& 31)) (len := 1) (r := (0, 0, 0, 0)) (by decide +kernel) rfl rfl (fun y1801 hy1801 => ?_)
  have hy1801 : y1801 = a4 >>> (y1800 &&& 31) := hy1801
  refine y_si (c := 255) (len := 3) (r := (0, 0, 0, 0)) (by decide +kernel) (by decide) (fun y1802 hy1802 => ?_)
  refine y_bp (i := .iand) (f := fun x y => x &&& y) (len := 1) (r := (0, 0, 0, 0)) (by decide +kernel) rfl rfl (fun y1803 hy1803 => ?_)
  have hy1803 : y1803 = y1801 &&& y1802 := hy1803
  have by1803 := and255 (x := y1801) (by omega) hy1803
  refine y_ias (i := (N + 15)) (len := 1) (r := (0, 0, 0, 0)) (by decide +kernel) hg (tu54 hg) at54 rfl (by omega) (by omega) (sr1 (by omega)) (by omega) (by omega) (fun h1804 hg1804 hl1804 hs1804 ho1804 => ?_)
  refine y_same (i := .aload_n 0) (len := 1) (r := (0, 0, 0, 0)) (pc' := 105) (ls' := [some (.inl (some 52)), some (zi a1), some (zi a2), some (zi a3), some (zi a4), some (zi a5), some (zi xi), some (zi a4)]) (st' := [.inl (some 52)]) (by decide +kernel) (fun k q => by cases q) rfl ?_
  refine y_same (i := .dup) (len := 1) (r := (0, 0, 0, 0)) (pc' := 106) (ls' := [some (.inl (some 52)), some (zi a1), some (zi a2), some (zi a3), some (zi a4), some (zi a5), some (zi xi), some (zi a4)]) (st' := [.inl (some 52), .inl (some 52)]) (by decide +kernel) (fun k q => by cases q) rfl ?_
  have hv1805 := (ho1804 52 2 (Or.inl (by omega))).trans hT
  refine y_get (j := 95) (len := 3) (r := (12, 2, 0, 1330)) (by decide +kernel) hg1804 (t52 hg1804) at52 rfl rfl hv1805 ?_
  refine y_ic (c := 1) (len := 1) (r := (0, 0, 0, 0)) (by decide +kernel) (by decide) (fun y1806 hy1806 => ?_)
  refine y_add (len := 1) (r := (0, 0, 0, 0)) (by decide +kernel) (by omega) (by omega) (fun y1807 hy1807 => ?_)
  refine y_put (j := 95) (lo := 0) (hi := 200) (len := 3) (r := (12, 2, 0, 1330)) (by decide +kernel) hg1804 (t52 hg1804) at52 rfl rfl (by decide) rfl (by omega) (by omega) rfl (fun h1808 hg1808 hl1808 hs1808 ho1808 => ?_)
  have ho1808 : hO 52 2 h1804 h1808 := ho1808
  have hs1808 : hsl h1808 52 2 = some (zi y1807) := hs1808
  refine y_inc (j := 6) (a := xi) (c := 1) (ls' := fun v => [some (.inl (some 52)), some (zi a1), some (zi a2), some (zi a3), some (zi a4), some (zi a5), some v, some (zi a4)]) (len := 3) (r := (0, 0, 0, 0)) (by decide +kernel) rfl (fun _ => rfl) (by decide) (by omega) (by omega) (fun y1809 hy1809 => ?_)
  show qX 3 165 117 [some (.inl (some 52)), some (zi a1), some (zi a2), some (zi a3), some (zi a4), some (zi a5), some (zi y1809), some (zi a4)] [] h1808 t _
  refine y_goto (off := (-94)) (pc' := 23) (len := 3) (r := (0, 0, 0, 0)) (by decide +kernel) (by decide +kernel) ?_
  have hv1810 := (ho1808 54 (N + 15) (Or.inl (by omega))).trans hs1804
  exact kk _ _ _ _ ⟨(aup_refl _), hg1808, fun k T j hk (hC : (k ≠ 52 ∨ j ≠ 2) ∧ (k ≠ 54 ∨ j ≠ N + 15)) => ((ho1808 k j (by omega)).trans (ho1804 k j (by omega)))⟩ hs1808 (by omega) ((show y1803 = bf a4 3 by rw [hy1803, hy1801, ofI2 (y := y1800) (w := 0) (c := 0) (by omega) (by decide), ofI2 (y := y1802) (w := 255) (c := 255) (by omega) (by decide)]; rfl) ▸ hv1810) (by omega)
theorem mf_16 {t N : Nat} {P : zo × zh × Nat → Prop} {τ : List Nat} {h : zh} {xT a1 a2 a3 a4 a5 xi x7 : Int32} (hg : hG τ h) (hT : hsl h 52 2 = some (zi xT)) (eT : xT.toInt = ((N + 16 : Nat) : Int)) (hT2 : N + 20 ≤ 200) (hxi : xi.toInt = 16) (kk : ∀ (h1 : zh) (x1 xi1 x71 : Int32), oF (fun k j => (k ≠ 52 ∨ j ≠ 2) ∧ (k ≠ 54 ∨ j ≠ N + 16)) τ h τ h1 → hsl h1 52 2 = some (zi x1) → x1.toInt = ((N + 17 : Nat) : Int) → hsl h1 54 (N + 16) = some (zi (bf a5 0)) → xi1.toInt = 17 → qX 3 165 23 [some (.inl (some 52)), some (zi a1), some (zi a2), some (zi a3), some (zi a4), some (zi a5), some (zi xi1), some (zi x71)] [] h1 t P) : qX 3 165 23 [some (.inl (some 52)), some (zi a1), some (zi a2), some (zi a3), some (zi a4), some (zi a5), some (zi xi), some (zi x7)] [] h t P := by
  refine y_same (i := .iload 6) (len := 2) (r := (0, 0, 0, 0)) (pc' := 25) (ls' := [some (.inl (some 52)), some (zi a1), some (zi a2), some (zi a3), some (zi a4), some (zi a5), some (zi xi), some (zi x7)]) (st' := [zi xi]) (by decide +kernel) (fun k q => by cases q) rfl ?_
  refine y_bi (c := 20) (len := 2) (r := (0, 0, 0, 0)) (by decide +kernel) (by decide) (fun y1811 hy1811 => ?_)
  refine y_cF (c := .ge) (off := 93) (len := 3) (r := (0, 0, 0, 0)) (by decide +kernel) (acmpF (c := .ge) (by show _ < _; omega)) ?_
  refine y_same (i := .iload 6) (len := 2) (r := (0, 0, 0, 0)) (pc' := 32) (ls' := [some (.inl (some 52)), some (zi a1), some (zi a2), some (zi a3), some (zi a4), some (zi a5), some (zi xi), some (zi x7)]) (st' := [zi xi]) (by decide +kernel) (fun k q => by cases q) rfl ?_
  refine y_ic (c := 4) (len := 1) (r := (0, 0, 0, 0)) (by decide +kernel) (by decide) (fun y1812 hy1812 => ?_)
  refine y_cT (c := .ge) (off := 7) (pc' := 40) (len := 3) (r := (0, 0, 0, 0)) (by decide +kernel) (acmpT (c := .ge) (by show _ ≤ _; omega)) (by decide +kernel) ?_
  refine y_same (i := .iload 6) (len := 2) (r := (0, 0, 0, 0)) (pc' := 42) (ls' := [some (.inl (some 52)), some (zi a1), some (zi a2), some (zi a3), some (zi a4), some (zi a5), some (zi xi), some (zi x7)]) (st' := [zi xi]) (by decide +kernel) (fun k q => by cases q) rfl ?_
  refine y_bi (c := 8) (len := 2) (r := (0, 0, 0, 0)) (by decide +kernel) (by decide) (fun y1813 hy1813 => ?_)
  refine y_cT (c := .ge) (off := 7) (pc' := 51) (len := 3) (r := (0, 0, 0, 0)) (by decide +kernel) (acmpT (c := .ge) (by show _ ≤ _; omega)) (by decide +kernel) ?_
  refine y_same (i := .iload 6) (len := 2) (r := (0, 0, 0, 0)) (pc' := 53) (ls' := [some (.inl (some 52)), some (zi a1), some (zi a2), some (zi a3), some (zi a4), some (zi a5), some (zi xi), some (zi x7)]) (st' := [zi xi]) (by decide +kernel) (fun k q => by cases q) rfl ?_
  refine y_bi (c := 12) (len := 2) (r := (0, 0, 0, 0)) (by decide +kernel) (by decide) (fun y1814 hy1814 => ?_)
  refine y_cT (c := .ge) (off := 7) (pc' := 62) (len := 3) (r := (0, 0, 0, 0)) (by decide +kernel) (acmpT (c := .ge) (by show _ ≤ _; omega)) (by decide +kernel) ?_
  refine y_same (i := .iload 6) (len := 2) (r := (0, 0, 0, 0)) (pc' := 64) (ls' := [some (.inl (some 52)), some (zi a1), some (zi a2), some (zi a3), some (zi a4), some (zi a5), some (zi xi), some (zi x7)]) (st' := [zi xi]) (by decide +kernel) (fun k q => by cases q) rfl ?_
  refine y_bi (c := 16) (len := 2) (r := (0, 0, 0, 0)) (by decide +kernel) (by decide) (fun y1815 hy1815 => ?_)
  refine y_cT (c := .ge) (off := 8) (pc' := 74) (len := 3) (r := (0, 0, 0, 0)) (by decide +kernel) (acmpT (c := .ge) (by show _ ≤ _; omega)) (by decide +kernel) ?_
  refine y_same (i := .iload 5) (len := 2) (r := (0, 0, 0, 0)) (pc' := 76) (ls' := [some (.inl (some 52)), some (zi a1), some (zi a2), some (zi a3), some (zi a4), some (zi a5), some (zi xi), some (zi x7)]) (st' := [zi a5]) (by decide +kernel) (fun k q => by cases q) rfl ?_
  refine y_same (i := .istore 7) (len := 2) (r := (0, 0, 0, 0)) (pc' := 78) (ls' := [some (.inl (some 52)), some (zi a1), some (zi a2), some (zi a3), some (zi a4), some (zi a5), some (zi xi), some (zi a5)]) (st' := []) (by decide +kernel) (fun k q => by cases q) rfl ?_
  refine y_same (i := .aload_n 0) (len := 1) (r := (0, 0, 0, 0)) (pc' := 79) (ls' := [some (.inl (some 52)), some (zi a1), some (zi a2), some (zi a3), some (zi a4), some (zi a5), some (zi xi), some (zi a5)]) (st' := [.inl (some 52)]) (by decide +kernel) (fun k q => by cases q) rfl ?_
  refine y_get (j := 17) (len := 3) (r := (12, 8, 2, 1336)) (by decide +kernel) hg (t52 hg) at52 rfl rfl (g_r52 (f := 8) (T2 := 54) hg rfl (by decide)).1 ?_
  refine y_same (i := .aload_n 0) (len := 1) (r := (0, 0, 0, 0)) (pc' := 83) (ls' := [some (.inl (some 52)), some (zi a1), some (zi a2), some (zi a3), some (zi a4), some (zi a5), some (zi xi), some (zi a5)]) (st' := [.inl (some 52), .inl (some 54)]) (by decide +kernel) (fun k q => by cases q) rfl ?_
  refine y_get (j := 95) (len := 3) (r := (12, 2, 0, 1330)) (by decide +kernel) hg (t52 hg) at52 rfl rfl hT ?_
  refine y_same (i := .iload 7) (len := 2) (r := (0, 0, 0, 0)) (pc' := 88) (ls' := [some (.inl (some 52)), some (zi a1), some (zi a2), some (zi a3), some (zi a4), some (zi a5), some (zi xi), some (zi a5)]) (st' := [zi a5, zi xT, .inl (some 54)]) (by decide +kernel) (fun k q => by cases q) rfl ?_
  refine y_bi (c := 24) (len := 2) (r := (0, 0, 0, 0)) (by decide +kernel) (by decide) (fun y1816 hy1816 => ?_)
  refine y_bi (c := 8) (len := 2) (r := (0, 0, 0, 0)) (by decide +kernel) (by decide) (fun y1817 hy1817 => ?_)
  refine y_same (i := .iload 6) (len := 2) (r := (0, 0, 0, 0)) (pc' := 94) (ls' := [some (.inl (some 52)), some (zi a1), some (zi a2), some (zi a3), some (zi a4), some (zi a5), some (zi xi), some (zi a5)]) (st' := [zi xi, zi y1817, zi y1816, zi a5, zi xT, .inl (some 54)]) (by decide +kernel) (fun k q => by cases q) rfl ?_
  refine y_ic (c := 4) (len := 1) (r := (0, 0, 0, 0)) (by decide +kernel) (by decide) (fun y1818 hy1818 => ?_)
  refine y_rem (c := 16) (e := 4) (w := 0) (len := 1) (r := (0, 0, 0, 0)) (by decide +kernel) (ofI2 (c := 16) (by omega) (by decide)) (ofI2 (c := 4) (by omega) (by decide)) (by first | rfl | decide +kernel) ?_
  obtain ⟨w1819, hw1819⟩ : ∃ z : Int32, (0 : Int32) = z := ⟨_, rfl⟩
  rw [hw1819]
  have ew1819 : w1819.toInt = 0 := by rw [← hw1819]; decide
  refine y_mul (c := 8) (len := 1) (r := (0, 0, 0, 0)) (by decide +kernel) (by omega) (by omega) (by omega) (fun y1820 hy1820 => ?_)
  refine y_sub (len := 1) (r := (0, 0, 0, 0)) (by decide +kernel) (by omega) (by omega) (fun y1821 hy1821 => ?_)
  refine y_bp (i := .ishr) (f := fun x y => x >>> (y &&& 31)) (len := 1) (r := (0, 0, 0, 0)) (by decide +kernel) rfl rfl (fun y1822 hy1822 => ?_)
  have hy1822 : y1822 = a5 >>> (y1821 &&& 31) := hy1822
  refine y_si (c := 255) (len := 3) (r := (0, 0, 0, 0)) (by decide +kernel) (by decide) (fun y1823 hy1823 => ?_)
  refine y_bp (i := .iand) (f := fun x y => x &&& y) (len := 1) (r := (0, 0, 0, 0)) (by decide +kernel) rfl rfl (fun y1824 hy1824 => ?_)
  have hy1824 : y1824 = y1822 &&& y1823 := hy1824
  have by1824 := and255 (x := y1822) (by omega) hy1824
  refine y_ias (i := (N + 16)) (len := 1) (r := (0, 0, 0, 0)) (by decide +kernel) hg (tu54 hg) at54 rfl (by omega) (by omega) (sr1 (by omega)) (by omega) (by omega) (fun h1825 hg1825 hl1825 hs1825 ho1825 => ?_)
  refine y_same (i := .aload_n 0) (len := 1) (r := (0, 0, 0, 0)) (pc' := 105) (ls' := [some (.inl (some 52)), some (zi a1), some (zi a2), some (zi a3), some (zi a4), some (zi a5), some (zi xi), some (zi a5)]) (st' := [.inl (some 52)]) (by decide +kernel) (fun k q => by cases q) rfl ?_
  refine y_same (i := .dup) (len := 1) (r := (0, 0, 0, 0)) (pc' := 106) (ls' := [some (.inl (some 52)), some (zi a1), some (zi a2), some (zi a3), some (zi a4), some (zi a5), some (zi xi), some (zi a5)]) (st' := [.inl (some 52), .inl (some 52)]) (by decide +kernel) (fun k q => by cases q) rfl ?_
  have hv1826 := (ho1825 52 2 (Or.inl (by omega))).trans hT
  refine y_get (j := 95) (len := 3) (r := (12, 2, 0, 1330)) (by decide +kernel) hg1825 (t52 hg1825) at52 rfl rfl hv1826 ?_
  refine y_ic (c := 1) (len := 1) (r := (0, 0, 0, 0)) (by decide +kernel) (by decide) (fun y1827 hy1827 => ?_)
  refine y_add (len := 1) (r := (0, 0, 0, 0)) (by decide +kernel) (by omega) (by omega) (fun y1828 hy1828 => ?_)
  refine y_put (j := 95) (lo := 0) (hi := 200) (len := 3) (r := (12, 2, 0, 1330)) (by decide +kernel) hg1825 (t52 hg1825) at52 rfl rfl (by decide) rfl (by omega) (by omega) rfl (fun h1829 hg1829 hl1829 hs1829 ho1829 => ?_)
  have ho1829 : hO 52 2 h1825 h1829 := ho1829
  have hs1829 : hsl h1829 52 2 = some (zi y1828) := hs1829
  refine y_inc (j := 6) (a := xi) (c := 1) (ls' := fun v => [some (.inl (some 52)), some (zi a1), some (zi a2), some (zi a3), some (zi a4), some (zi a5), some v, some (zi a5)]) (len := 3) (r := (0, 0, 0, 0)) (by decide +kernel) rfl (fun _ => rfl) (by decide) (by omega) (by omega) (fun y1830 hy1830 => ?_)
  show qX 3 165 117 [some (.inl (some 52)), some (zi a1), some (zi a2), some (zi a3), some (zi a4), some (zi a5), some (zi y1830), some (zi a5)] [] h1829 t _
  refine y_goto (off := (-94)) (pc' := 23) (len := 3) (r := (0, 0, 0, 0)) (by decide +kernel) (by decide +kernel) ?_
  have hv1831 := (ho1829 54 (N + 16) (Or.inl (by omega))).trans hs1825
  exact kk _ _ _ _ ⟨(aup_refl _), hg1829, fun k T j hk (hC : (k ≠ 52 ∨ j ≠ 2) ∧ (k ≠ 54 ∨ j ≠ N + 16)) => ((ho1829 k j (by omega)).trans (ho1825 k j (by omega)))⟩ hs1829 (by omega) ((show y1824 = bf a5 0 by rw [hy1824, hy1822, ofI2 (y := y1821) (w := 24) (c := 24) (by omega) (by decide), ofI2 (y := y1823) (w := 255) (c := 255) (by omega) (by decide)]; rfl) ▸ hv1831) (by omega)
theorem mf_17 {t N : Nat} {P : zo × zh × Nat → Prop} {τ : List Nat} {h : zh} {xT a1 a2 a3 a4 a5 xi x7 : Int32} (hg : hG τ h) (hT : hsl h 52 2 = some (zi xT)) (eT : xT.toInt = ((N + 17 : Nat) : Int)) (hT2 : N + 20 ≤ 200) (hxi : xi.toInt = 17) (kk : ∀ (h1 : zh) (x1 xi1 x71 : Int32), oF (fun k j => (k ≠ 52 ∨ j ≠ 2) ∧ (k ≠ 54 ∨ j ≠ N + 17)) τ h τ h1 → hsl h1 52 2 = some (zi x1) → x1.toInt = ((N + 18 : Nat) : Int) → hsl h1 54 (N + 17) = some (zi (bf a5 1)) → xi1.toInt = 18 → qX 3 165 23 [some (.inl (some 52)), some (zi a1), some (zi a2), some (zi a3), some (zi a4), some (zi a5), some (zi xi1), some (zi x71)] [] h1 t P) : qX 3 165 23 [some (.inl (some 52)), some (zi a1), some (zi a2), some (zi a3), some (zi a4), some (zi a5), some (zi xi), some (zi x7)] [] h t P := by
  refine y_same (i := .iload 6) (len := 2) (r := (0, 0, 0, 0)) (pc' := 25) (ls' := [some (.inl (some 52)), some (zi a1), some (zi a2), some (zi a3), some (zi a4), some (zi a5), some (zi xi), some (zi x7)]) (st' := [zi xi]) (by decide +kernel) (fun k q => by cases q) rfl ?_
  refine y_bi (c := 20) (len := 2) (r := (0, 0, 0, 0)) (by decide +kernel) (by decide) (fun y1832 hy1832 => ?_)
  refine y_cF (c := .ge) (off := 93) (len := 3) (r := (0, 0, 0, 0)) (by decide +kernel) (acmpF (c := .ge) (by show _ < _; omega)) ?_
  refine y_same (i := .iload 6) (len := 2) (r := (0, 0, 0, 0)) (pc' := 32) (ls' := [some (.inl (some 52)), some (zi a1), some (zi a2), some (zi a3), some (zi a4), some (zi a5), some (zi xi), some (zi x7)]) (st' := [zi xi]) (by decide +kernel) (fun k q => by cases q) rfl ?_
  refine y_ic (c := 4) (len := 1) (r := (0, 0, 0, 0)) (by decide +kernel) (by decide) (fun y1833 hy1833 => ?_)
  refine y_cT (c := .ge) (off := 7) (pc' := 40) (len := 3) (r := (0, 0, 0, 0)) (by decide +kernel) (acmpT (c := .ge) (by show _ ≤ _; omega)) (by decide +kernel) ?_
  refine y_same (i := .iload 6) (len := 2) (r := (0, 0, 0, 0)) (pc' := 42) (ls' := [some (.inl (some 52)), some (zi a1), some (zi a2), some (zi a3), some (zi a4), some (zi a5), some (zi xi), some (zi x7)]) (st' := [zi xi]) (by decide +kernel) (fun k q => by cases q) rfl ?_
  refine y_bi (c := 8) (len := 2) (r := (0, 0, 0, 0)) (by decide +kernel) (by decide) (fun y1834 hy1834 => ?_)
  refine y_cT (c := .ge) (off := 7) (pc' := 51) (len := 3) (r := (0, 0, 0, 0)) (by decide +kernel) (acmpT (c := .ge) (by show _ ≤ _; omega)) (by decide +kernel) ?_
  refine y_same (i := .iload 6) (len := 2) (r := (0, 0, 0, 0)) (pc' := 53) (ls' := [some (.inl (some 52)), some (zi a1), some (zi a2), some (zi a3), some (zi a4), some (zi a5), some (zi xi), some (zi x7)]) (st' := [zi xi]) (by decide +kernel) (fun k q => by cases q) rfl ?_
  refine y_bi (c := 12) (len := 2) (r := (0, 0, 0, 0)) (by decide +kernel) (by decide) (fun y1835 hy1835 => ?_)
  refine y_cT (c := .ge) (off := 7) (pc' := 62) (len := 3) (r := (0, 0, 0, 0)) (by decide +kernel) (acmpT (c := .ge) (by show _ ≤ _; omega)) (by decide +kernel) ?_
  refine y_same (i := .iload 6) (len := 2) (r := (0, 0, 0, 0)) (pc' := 64) (ls' := [some (.inl (some 52)), some (zi a1), some (zi a2), some (zi a3), some (zi a4), some (zi a5), some (zi xi), some (zi x7)]) (st' := [zi xi]) (by decide +kernel) (fun k q => by cases q) rfl ?_
  refine y_bi (c := 16) (len := 2) (r := (0, 0, 0, 0)) (by decide +kernel) (by decide) (fun y1836 hy1836 => ?_)
  refine y_cT (c := .ge) (off := 8) (pc' := 74) (len := 3) (r := (0, 0, 0, 0)) (by decide +kernel) (acmpT (c := .ge) (by show _ ≤ _; omega)) (by decide +kernel) ?_
  refine y_same (i := .iload 5) (len := 2) (r := (0, 0, 0, 0)) (pc' := 76) (ls' := [some (.inl (some 52)), some (zi a1), some (zi a2), some (zi a3), some (zi a4), some (zi a5), some (zi xi), some (zi x7)]) (st' := [zi a5]) (by decide +kernel) (fun k q => by cases q) rfl ?_
  refine y_same (i := .istore 7) (len := 2) (r := (0, 0, 0, 0)) (pc' := 78) (ls' := [some (.inl (some 52)), some (zi a1), some (zi a2), some (zi a3), some (zi a4), some (zi a5), some (zi xi), some (zi a5)]) (st' := []) (by decide +kernel) (fun k q => by cases q) rfl ?_
  refine y_same (i := .aload_n 0) (len := 1) (r := (0, 0, 0, 0)) (pc' := 79) (ls' := [some (.inl (some 52)), some (zi a1), some (zi a2), some (zi a3), some (zi a4), some (zi a5), some (zi xi), some (zi a5)]) (st' := [.inl (some 52)]) (by decide +kernel) (fun k q => by cases q) rfl ?_
  refine y_get (j := 17) (len := 3) (r := (12, 8, 2, 1336)) (by decide +kernel) hg (t52 hg) at52 rfl rfl (g_r52 (f := 8) (T2 := 54) hg rfl (by decide)).1 ?_
  refine y_same (i := .aload_n 0) (len := 1) (r := (0, 0, 0, 0)) (pc' := 83) (ls' := [some (.inl (some 52)), some (zi a1), some (zi a2), some (zi a3), some (zi a4), some (zi a5), some (zi xi), some (zi a5)]) (st' := [.inl (some 52), .inl (some 54)]) (by decide +kernel) (fun k q => by cases q) rfl ?_
  refine y_get (j := 95) (len := 3) (r := (12, 2, 0, 1330)) (by decide +kernel) hg (t52 hg) at52 rfl rfl hT ?_
  refine y_same (i := .iload 7) (len := 2) (r := (0, 0, 0, 0)) (pc' := 88) (ls' := [some (.inl (some 52)), some (zi a1), some (zi a2), some (zi a3), some (zi a4), some (zi a5), some (zi xi), some (zi a5)]) (st' := [zi a5, zi xT, .inl (some 54)]) (by decide +kernel) (fun k q => by cases q) rfl ?_
  refine y_bi (c := 24) (len := 2) (r := (0, 0, 0, 0)) (by decide +kernel) (by decide) (fun y1837 hy1837 => ?_)
  refine y_bi (c := 8) (len := 2) (r := (0, 0, 0, 0)) (by decide +kernel) (by decide) (fun y1838 hy1838 => ?_)
  refine y_same (i := .iload 6) (len := 2) (r := (0, 0, 0, 0)) (pc' := 94) (ls' := [some (.inl (some 52)), some (zi a1), some (zi a2), some (zi a3), some (zi a4), some (zi a5), some (zi xi), some (zi a5)]) (st' := [zi xi, zi y1838, zi y1837, zi a5, zi xT, .inl (some 54)]) (by decide +kernel) (fun k q => by cases q) rfl ?_
  refine y_ic (c := 4) (len := 1) (r := (0, 0, 0, 0)) (by decide +kernel) (by decide) (fun y1839 hy1839 => ?_)
  refine y_rem (c := 17) (e := 4) (w := 1) (len := 1) (r := (0, 0, 0, 0)) (by decide +kernel) (ofI2 (c := 17) (by omega) (by decide)) (ofI2 (c := 4) (by omega) (by decide)) (by first | rfl | decide +kernel) ?_
  obtain ⟨w1840, hw1840⟩ : ∃ z : Int32, (1 : Int32) = z := ⟨_, rfl⟩
  rw [hw1840]
  have ew1840 : w1840.toInt = 1 := by rw [← hw1840]; decide
  refine y_mul (c := 8) (len := 1) (r := (0, 0, 0, 0)) (by decide +kernel) (by omega) (by omega) (by omega) (fun y1841 hy1841 => ?_)
  refine y_sub (len := 1) (r := (0, 0, 0, 0)) (by decide +kernel) (by omega) (by omega) (fun y1842 hy1842 => ?_)
  refine y_bp (i := .ishr) (f := fun x y => x >>> (y &&& 31)) (len := 1) (r := (0, 0, 0, 0)) (by decide +kernel) rfl rfl (fun y1843 hy1843 => ?_)
  have hy1843 : y1843 = a5 >>> (y1842 &&& 31) := hy1843
  refine y_si (c := 255) (len := 3) (r := (0, 0, 0, 0)) (by decide +kernel) (by decide) (fun y1844 hy1844 => ?_)
  refine y_bp (i := .iand) (f := fun x y => x &&& y) (len := 1) (r := (0, 0, 0, 0)) (by decide +kernel) rfl rfl (fun y1845 hy1845 => ?_)
  have hy1845 : y1845 = y1843 &&& y1844 := hy1845
  have by1845 := and255 (x := y1843) (by omega) hy1845
  refine y_ias (i := (N + 17)) (len := 1) (r := (0, 0, 0, 0)) (by decide +kernel) hg (tu54 hg) at54 rfl (by omega) (by omega) (sr1 (by omega)) (by omega) (by omega) (fun h1846 hg1846 hl1846 hs1846 ho1846 => ?_)
  refine y_same (i := .aload_n 0) (len := 1) (r := (0, 0, 0, 0)) (pc' := 105) (ls' := [some (.inl (some 52)), some (zi a1), some (zi a2), some (zi a3), some (zi a4), some (zi a5), some (zi xi), some (zi a5)]) (st' := [.inl (some 52)]) (by decide +kernel) (fun k q => by cases q) rfl ?_
  refine y_same (i := .dup) (len := 1) (r := (0, 0, 0, 0)) (pc' := 106) (ls' := [some (.inl (some 52)), some (zi a1), some (zi a2), some (zi a3), some (zi a4), some (zi a5), some (zi xi), some (zi a5)]) (st' := [.inl (some 52), .inl (some 52)]) (by decide +kernel) (fun k q => by cases q) rfl ?_
  have hv1847 := (ho1846 52 2 (Or.inl (by omega))).trans hT
  refine y_get (j := 95) (len := 3) (r := (12, 2, 0, 1330)) (by decide +kernel) hg1846 (t52 hg1846) at52 rfl rfl hv1847 ?_
  refine y_ic (c := 1) (len := 1) (r := (0, 0, 0, 0)) (by decide +kernel) (by decide) (fun y1848 hy1848 => ?_)
  refine y_add (len := 1) (r := (0, 0, 0, 0)) (by decide +kernel) (by omega) (by omega) (fun y1849 hy1849 => ?_)
  refine y_put (j := 95) (lo := 0) (hi := 200) (len := 3) (r := (12, 2, 0, 1330)) (by decide +kernel) hg1846 (t52 hg1846) at52 rfl rfl (by decide) rfl (by omega) (by omega) rfl (fun h1850 hg1850 hl1850 hs1850 ho1850 => ?_)
  have ho1850 : hO 52 2 h1846 h1850 := ho1850
  have hs1850 : hsl h1850 52 2 = some (zi y1849) := hs1850
  refine y_inc (j := 6) (a := xi) (c := 1) (ls' := fun v => [some (.inl (some 52)), some (zi a1), some (zi a2), some (zi a3), some (zi a4), some (zi a5), some v, some (zi a5)]) (len := 3) (r := (0, 0, 0, 0)) (by decide +kernel) rfl (fun _ => rfl) (by decide) (by omega) (by omega) (fun y1851 hy1851 => ?_)
  show qX 3 165 117 [some (.inl (some 52)), some (zi a1), some (zi a2), some (zi a3), some (zi a4), some (zi a5), some (zi y1851), some (zi a5)] [] h1850 t _
  refine y_goto (off := (-94)) (pc' := 23) (len := 3) (r := (0, 0, 0, 0)) (by decide +kernel) (by decide +kernel) ?_
  have hv1852 := (ho1850 54 (N + 17) (Or.inl (by omega))).trans hs1846
  exact kk _ _ _ _ ⟨(aup_refl _), hg1850, fun k T j hk (hC : (k ≠ 52 ∨ j ≠ 2) ∧ (k ≠ 54 ∨ j ≠ N + 17)) => ((ho1850 k j (by omega)).trans (ho1846 k j (by omega)))⟩ hs1850 (by omega) ((show y1845 = bf a5 1 by rw [hy1845, hy1843, ofI2 (y := y1842) (w := 16) (c := 16) (by omega) (by decide), ofI2 (y := y1844) (w := 255) (c := 255) (by omega) (by decide)]; rfl) ▸ hv1852) (by omega)
theorem mf_18 {t N : Nat} {P : zo × zh × Nat → Prop} {τ : List Nat} {h : zh} {xT a1 a2 a3 a4 a5 xi x7 : Int32} (hg : hG τ h) (hT : hsl h 52 2 = some (zi xT)) (eT : xT.toInt = ((N + 18 : Nat) : Int)) (hT2 : N + 20 ≤ 200) (hxi : xi.toInt = 18) (kk : ∀ (h1 : zh) (x1 xi1 x71 : Int32), oF (fun k j => (k ≠ 52 ∨ j ≠ 2) ∧ (k ≠ 54 ∨ j ≠ N + 18)) τ h τ h1 → hsl h1 52 2 = some (zi x1) → x1.toInt = ((N + 19 : Nat) : Int) → hsl h1 54 (N + 18) = some (zi (bf a5 2)) → xi1.toInt = 19 → qX 3 165 23 [some (.inl (some 52)), some (zi a1), some (zi a2), some (zi a3), some (zi a4), some (zi a5), some (zi xi1), some (zi x71)] [] h1 t P) : qX 3 165 23 [some (.inl (some 52)), some (zi a1), some (zi a2), some (zi a3), some (zi a4), some (zi a5), some (zi xi), some (zi x7)] [] h t P := by
  refine y_same (i := .iload 6) (len := 2) (r := (0, 0, 0, 0)) (pc' := 25) (ls' := [some (.inl (some 52)), some (zi a1), some (zi a2), some (zi a3), some (zi a4), some (zi a5), some (zi xi), some (zi x7)]) (st' := [zi xi]) (by decide +kernel) (fun k q => by cases q) rfl ?_
  refine y_bi (c := 20) (len := 2) (r := (0, 0, 0, 0)) (by decide +kernel) (by decide) (fun y1853 hy1853 => ?_)
  refine y_cF (c := .ge) (off := 93) (len := 3) (r := (0, 0, 0, 0)) (by decide +kernel) (acmpF (c := .ge) (by show _ < _; omega)) ?_
  refine y_same (i := .iload 6) (len := 2) (r := (0, 0, 0, 0)) (pc' := 32) (ls' := [some (.inl (some 52)), some (zi a1), some (zi a2), some (zi a3), some (zi a4), some (zi a5), some (zi xi), some (zi x7)]) (st' := [zi xi]) (by decide +kernel) (fun k q => by cases q) rfl ?_
  refine y_ic (c := 4) (len := 1) (r := (0, 0, 0, 0)) (by decide +kernel) (by decide) (fun y1854 hy1854 => ?_)
  refine y_cT (c := .ge) (off := 7) (pc' := 40) (len := 3) (r := (0, 0, 0, 0)) (by decide +kernel) (acmpT (c := .ge) (by show _ ≤ _; omega)) (by decide +kernel) ?_
  refine y_same (i := .iload 6) (len := 2) (r := (0, 0, 0, 0)) (pc' := 42) (ls' := [some (.inl (some 52)), some (zi a1), some (zi a2), some (zi a3), some (zi a4), some (zi a5), some (zi xi), some (zi x7)]) (st' := [zi xi]) (by decide +kernel) (fun k q => by cases q) rfl ?_
  refine y_bi (c := 8) (len := 2) (r := (0, 0, 0, 0)) (by decide +kernel) (by decide) (fun y1855 hy1855 => ?_)
  refine y_cT (c := .ge) (off := 7) (pc' := 51) (len := 3) (r := (0, 0, 0, 0)) (by decide +kernel) (acmpT (c := .ge) (by show _ ≤ _; omega)) (by decide +kernel) ?_
  refine y_same (i := .iload 6) (len := 2) (r := (0, 0, 0, 0)) (pc' := 53) (ls' := [some (.inl (some 52)), some (zi a1), some (zi a2), some (zi a3), some (zi a4), some (zi a5), some (zi xi), some (zi x7)]) (st' := [zi xi]) (by decide +kernel) (fun k q => by cases q) rfl ?_
  refine y_bi (c := 12) (len := 2) (r := (0, 0, 0, 0)) (by decide +kernel) (by decide) (fun y1856 hy1856 => ?_)
  refine y_cT (c := .ge) (off := 7) (pc' := 62) (len := 3) (r := (0, 0, 0, 0)) (by decide +kernel) (acmpT (c := .ge) (by show _ ≤ _; omega)) (by decide +kernel) ?_
  refine y_same (i := .iload 6) (len := 2) (r := (0, 0, 0, 0)) (pc' := 64) (ls' := [some (.inl (some 52)), some (zi a1), some (zi a2), some (zi a3), some (zi a4), some (zi a5), some (zi xi), some (zi x7)]) (st' := [zi xi]) (by decide +kernel) (fun k q => by cases q) rfl ?_
  refine y_bi (c := 16) (len := 2) (r := (0, 0, 0, 0)) (by decide +kernel) (by decide) (fun y1857 hy1857 => ?_)
  refine y_cT (c := .ge) (off := 8) (pc' := 74) (len := 3) (r := (0, 0, 0, 0)) (by decide +kernel) (acmpT (c := .ge) (by show _ ≤ _; omega)) (by decide +kernel) ?_
  refine y_same (i := .iload 5) (len := 2) (r := (0, 0, 0, 0)) (pc' := 76) (ls' := [some (.inl (some 52)), some (zi a1), some (zi a2), some (zi a3), some (zi a4), some (zi a5), some (zi xi), some (zi x7)]) (st' := [zi a5]) (by decide +kernel) (fun k q => by cases q) rfl ?_
  refine y_same (i := .istore 7) (len := 2) (r := (0, 0, 0, 0)) (pc' := 78) (ls' := [some (.inl (some 52)), some (zi a1), some (zi a2), some (zi a3), some (zi a4), some (zi a5), some (zi xi), some (zi a5)]) (st' := []) (by decide +kernel) (fun k q => by cases q) rfl ?_
  refine y_same (i := .aload_n 0) (len := 1) (r := (0, 0, 0, 0)) (pc' := 79) (ls' := [some (.inl (some 52)), some (zi a1), some (zi a2), some (zi a3), some (zi a4), some (zi a5), some (zi xi), some (zi a5)]) (st' := [.inl (some 52)]) (by decide +kernel) (fun k q => by cases q) rfl ?_
  refine y_get (j := 17) (len := 3) (r := (12, 8, 2, 1336)) (by decide +kernel) hg (t52 hg) at52 rfl rfl (g_r52 (f := 8) (T2 := 54) hg rfl (by decide)).1 ?_
  refine y_same (i := .aload_n 0) (len := 1) (r := (0, 0, 0, 0)) (pc' := 83) (ls' := [some (.inl (some 52)), some (zi a1), some (zi a2), some (zi a3), some (zi a4), some (zi a5), some (zi xi), some (zi a5)]) (st' := [.inl (some 52), .inl (some 54)]) (by decide +kernel) (fun k q => by cases q) rfl ?_
  refine y_get (j := 95) (len := 3) (r := (12, 2, 0, 1330)) (by decide +kernel) hg (t52 hg) at52 rfl rfl hT ?_
  refine y_same (i := .iload 7) (len := 2) (r := (0, 0, 0, 0)) (pc' := 88) (ls' := [some (.inl (some 52)), some (zi a1), some (zi a2), some (zi a3), some (zi a4), some (zi a5), some (zi xi), some (zi a5)]) (st' := [zi a5, zi xT, .inl (some 54)]) (by decide +kernel) (fun k q => by cases q) rfl ?_
  refine y_bi (c := 24) (len := 2) (r := (0, 0, 0, 0)) (by decide +kernel) (by decide) (fun y1858 hy1858 => ?_)
  refine y_bi (c := 8) (len := 2) (r := (0, 0, 0, 0)) (by decide +kernel) (by decide) (fun y1859 hy1859 => ?_)
  refine y_same (i := .iload 6) (len := 2) (r := (0, 0, 0, 0)) (pc' := 94) (ls' := [some (.inl (some 52)), some (zi a1), some (zi a2), some (zi a3), some (zi a4), some (zi a5), some (zi xi), some (zi a5)]) (st' := [zi xi, zi y1859, zi y1858, zi a5, zi xT, .inl (some 54)]) (by decide +kernel) (fun k q => by cases q) rfl ?_
  refine y_ic (c := 4) (len := 1) (r := (0, 0, 0, 0)) (by decide +kernel) (by decide) (fun y1860 hy1860 => ?_)
  refine y_rem (c := 18) (e := 4) (w := 2) (len := 1) (r := (0, 0, 0, 0)) (by decide +kernel) (ofI2 (c := 18) (by omega) (by decide)) (ofI2 (c := 4) (by omega) (by decide)) (by first | rfl | decide +kernel) ?_
  obtain ⟨w1861, hw1861⟩ : ∃ z : Int32, (2 : Int32) = z := ⟨_, rfl⟩
  rw [hw1861]
  have ew1861 : w1861.toInt = 2 := by rw [← hw1861]; decide
  refine y_mul (c := 8) (len := 1) (r := (0, 0, 0, 0)) (by decide +kernel) (by omega) (by omega) (by omega) (fun y1862 hy1862 => ?_)
  refine y_sub (len := 1) (r := (0, 0, 0, 0)) (by decide +kernel) (by omega) (by omega) (fun y1863 hy1863 => ?_)
  refine y_bp (i := .ishr) (f := fun x y => x >>> (y &&& 31)) (len := 1) (r := (0, 0, 0, 0)) (by decide +kernel) rfl rfl (fun y1864 hy1864 => ?_)
  have hy1864 : y1864 = a5 >>> (y1863 &&& 31) := hy1864
  refine y_si (c := 255) (len := 3) (r := (0, 0, 0, 0)) (by decide +kernel) (by decide) (fun y1865 hy1865 => ?_)
  refine y_bp (i := .iand) (f := fun x y => x &&& y) (len := 1) (r := (0, 0, 0, 0)) (by decide +kernel) rfl rfl (fun y1866 hy1866 => ?_)
  have hy1866 : y1866 = y1864 &&& y1865 := hy1866
  have by1866 := and255 (x := y1864) (by omega) hy1866
  refine y_ias (i := (N + 18)) (len := 1) (r := (0, 0, 0, 0)) (by decide +kernel) hg (tu54 hg) at54 rfl (by omega) (by omega) (sr1 (by omega)) (by omega) (by omega) (fun h1867 hg1867 hl1867 hs1867 ho1867 => ?_)
  refine y_same (i := .aload_n 0) (len := 1) (r := (0, 0, 0, 0)) (pc' := 105) (ls' := [some (.inl (some 52)), some (zi a1), some (zi a2), some (zi a3), some (zi a4), some (zi a5), some (zi xi), some (zi a5)]) (st' := [.inl (some 52)]) (by decide +kernel) (fun k q => by cases q) rfl ?_
  refine y_same (i := .dup) (len := 1) (r := (0, 0, 0, 0)) (pc' := 106) (ls' := [some (.inl (some 52)), some (zi a1), some (zi a2), some (zi a3), some (zi a4), some (zi a5), some (zi xi), some (zi a5)]) (st' := [.inl (some 52), .inl (some 52)]) (by decide +kernel) (fun k q => by cases q) rfl ?_
  have hv1868 := (ho1867 52 2 (Or.inl (by omega))).trans hT
  refine y_get (j := 95) (len := 3) (r := (12, 2, 0, 1330)) (by decide +kernel) hg1867 (t52 hg1867) at52 rfl rfl hv1868 ?_
  refine y_ic (c := 1) (len := 1) (r := (0, 0, 0, 0)) (by decide +kernel) (by decide) (fun y1869 hy1869 => ?_)
  refine y_add (len := 1) (r := (0, 0, 0, 0)) (by decide +kernel) (by omega) (by omega) (fun y1870 hy1870 => ?_)
  refine y_put (j := 95) (lo := 0) (hi := 200) (len := 3) (r := (12, 2, 0, 1330)) (by decide +kernel) hg1867 (t52 hg1867) at52 rfl rfl (by decide) rfl (by omega) (by omega) rfl (fun h1871 hg1871 hl1871 hs1871 ho1871 => ?_)
  have ho1871 : hO 52 2 h1867 h1871 := ho1871
  have hs1871 : hsl h1871 52 2 = some (zi y1870) := hs1871
  refine y_inc (j := 6) (a := xi) (c := 1) (ls' := fun v => [some (.inl (some 52)), some (zi a1), some (zi a2), some (zi a3), some (zi a4), some (zi a5), some v, some (zi a5)]) (len := 3) (r := (0, 0, 0, 0)) (by decide +kernel) rfl (fun _ => rfl) (by decide) (by omega) (by omega) (fun y1872 hy1872 => ?_)
  show qX 3 165 117 [some (.inl (some 52)), some (zi a1), some (zi a2), some (zi a3), some (zi a4), some (zi a5), some (zi y1872), some (zi a5)] [] h1871 t _
  refine y_goto (off := (-94)) (pc' := 23) (len := 3) (r := (0, 0, 0, 0)) (by decide +kernel) (by decide +kernel) ?_
  have hv1873 := (ho1871 54 (N + 18) (Or.inl (by omega))).trans hs1867
  exact kk _ _ _ _ ⟨(aup_refl _), hg1871, fun k T j hk (hC : (k ≠ 52 ∨ j ≠ 2) ∧ (k ≠ 54 ∨ j ≠ N + 18)) => ((ho1871 k j (by omega)).trans (ho1867 k j (by omega)))⟩ hs1871 (by omega) ((show y1866 = bf a5 2 by rw [hy1866, hy1864, ofI2 (y := y1863) (w := 8) (c := 8) (by omega) (by decide), ofI2 (y := y1865) (w := 255) (c := 255) (by omega) (by decide)]; rfl) ▸ hv1873) (by omega)
theorem mf_19 {t N : Nat} {P : zo × zh × Nat → Prop} {τ : List Nat} {h : zh} {xT a1 a2 a3 a4 a5 xi x7 : Int32} (hg : hG τ h) (hT : hsl h 52 2 = some (zi xT)) (eT : xT.toInt = ((N + 19 : Nat) : Int)) (hT2 : N + 20 ≤ 200) (hxi : xi.toInt = 19) (kk : ∀ (h1 : zh) (x1 xi1 x71 : Int32), oF (fun k j => (k ≠ 52 ∨ j ≠ 2) ∧ (k ≠ 54 ∨ j ≠ N + 19)) τ h τ h1 → hsl h1 52 2 = some (zi x1) → x1.toInt = ((N + 20 : Nat) : Int) → hsl h1 54 (N + 19) = some (zi (bf a5 3)) → xi1.toInt = 20 → qX 3 165 23 [some (.inl (some 52)), some (zi a1), some (zi a2), some (zi a3), some (zi a4), some (zi a5), some (zi xi1), some (zi x71)] [] h1 t P) : qX 3 165 23 [some (.inl (some 52)), some (zi a1), some (zi a2), some (zi a3), some (zi a4), some (zi a5), some (zi xi), some (zi x7)] [] h t P := by
  refine y_same (i := .iload 6) (len := 2) (r := (0, 0, 0, 0)) (pc' := 25) (ls' := [some (.inl (some 52)), some (zi a1), some (zi a2), some (zi a3), some (zi a4), some (zi a5), some (zi xi), some (zi x7)]) (st' := [zi xi]) (by decide +kernel) (fun k q => by cases q) rfl ?_
  refine y_bi (c := 20) (len := 2) (r := (0, 0, 0, 0)) (by decide +kernel) (by decide) (fun y1874 hy1874 => ?_)
  refine y_cF (c := .ge) (off := 93) (len := 3) (r := (0, 0, 0, 0)) (by decide +kernel) (acmpF (c := .ge) (by show _ < _; omega)) ?_
  refine y_same (i := .iload 6) (len := 2) (r := (0, 0, 0, 0)) (pc' := 32) (ls' := [some (.inl (some 52)), some (zi a1), some (zi a2), some (zi a3), some (zi a4), some (zi a5), some (zi xi), some (zi x7)]) (st' := [zi xi]) (by decide +kernel) (fun k q => by cases q) rfl ?_
  refine y_ic (c := 4) (len := 1) (r := (0, 0, 0, 0)) (by decide +kernel) (by decide) (fun y1875 hy1875 => ?_)
  refine y_cT (c := .ge) (off := 7) (pc' := 40) (len := 3) (r := (0, 0, 0, 0)) (by decide +kernel) (acmpT (c := .ge) (by show _ ≤ _; omega)) (by decide +kernel) ?_
  refine y_same (i := .iload 6) (len := 2) (r := (0, 0, 0, 0)) (pc' := 42) (ls' := [some (.inl (some 52)), some (zi a1), some (zi a2), some (zi a3), some (zi a4), some (zi a5), some (zi xi), some (zi x7)]) (st' := [zi xi]) (by decide +kernel) (fun k q => by cases q) rfl ?_
  refine y_bi (c := 8) (len := 2) (r := (0, 0, 0, 0)) (by decide +kernel) (by decide) (fun y1876 hy1876 => ?_)
  refine y_cT (c := .ge) (off := 7) (pc' := 51) (len := 3) (r := (0, 0, 0, 0)) (by decide +kernel) (acmpT (c := .ge) (by show _ ≤ _; omega)) (by decide +kernel) ?_
  refine y_same (i := .iload 6) (len := 2) (r := (0, 0, 0, 0)) (pc' := 53) (ls' := [some (.inl (some 52)), some (zi a1), some (zi a2), some (zi a3), some (zi a4), some (zi a5), some (zi xi), some (zi x7)]) (st' := [zi xi]) (by decide +kernel) (fun k q => by cases q) rfl ?_
  refine y_bi (c := 12) (len := 2) (r := (0, 0, 0, 0)) (by decide +kernel) (by decide) (fun y1877 hy1877 => ?_)
  refine y_cT (c := .ge) (off := 7) (pc' := 62) (len := 3) (r := (0, 0, 0, 0)) (by decide +kernel) (acmpT (c := .ge) (by show _ ≤ _; omega)) (by decide +kernel) ?_
  refine y_same (i := .iload 6) (len := 2) (r := (0, 0, 0, 0)) (pc' := 64) (ls' := [some (.inl (some 52)), some (zi a1), some (zi a2), some (zi a3), some (zi a4), some (zi a5), some (zi xi), some (zi x7)]) (st' := [zi xi]) (by decide +kernel) (fun k q => by cases q) rfl ?_
  refine y_bi (c := 16) (len := 2) (r := (0, 0, 0, 0)) (by decide +kernel) (by decide) (fun y1878 hy1878 => ?_)
  refine y_cT (c := .ge) (off := 8) (pc' := 74) (len := 3) (r := (0, 0, 0, 0)) (by decide +kernel) (acmpT (c := .ge) (by show _ ≤ _; omega)) (by decide +kernel) ?_
  refine y_same (i := .iload 5) (len := 2) (r := (0, 0, 0, 0)) (pc' := 76) (ls' := [some (.inl (some 52)), some (zi a1), some (zi a2), some (zi a3), some (zi a4), some (zi a5), some (zi xi), some (zi x7)]) (st' := [zi a5]) (by decide +kernel) (fun k q => by cases q) rfl ?_
  refine y_same (i := .istore 7) (len := 2) (r := (0, 0, 0, 0)) (pc' := 78) (ls' := [some (.inl (some 52)), some (zi a1), some (zi a2), some (zi a3), some (zi a4), some (zi a5), some (zi xi), some (zi a5)]) (st' := []) (by decide +kernel) (fun k q => by cases q) rfl ?_
  refine y_same (i := .aload_n 0) (len := 1) (r := (0, 0, 0, 0)) (pc' := 79) (ls' := [some (.inl (some 52)), some (zi a1), some (zi a2), some (zi a3), some (zi a4), some (zi a5), some (zi xi), some (zi a5)]) (st' := [.inl (some 52)]) (by decide +kernel) (fun k q => by cases q) rfl ?_
  refine y_get (j := 17) (len := 3) (r := (12, 8, 2, 1336)) (by decide +kernel) hg (t52 hg) at52 rfl rfl (g_r52 (f := 8) (T2 := 54) hg rfl (by decide)).1 ?_
  refine y_same (i := .aload_n 0) (len := 1) (r := (0, 0, 0, 0)) (pc' := 83) (ls' := [some (.inl (some 52)), some (zi a1), some (zi a2), some (zi a3), some (zi a4), some (zi a5), some (zi xi), some (zi a5)]) (st' := [.inl (some 52), .inl (some 54)]) (by decide +kernel) (fun k q => by cases q) rfl ?_
  refine y_get (j := 95) (len := 3) (r := (12, 2, 0, 1330)) (by decide +kernel) hg (t52 hg) at52 rfl rfl hT ?_
  refine y_same (i := .iload 7) (len := 2) (r := (0, 0, 0, 0)) (pc' := 88) (ls' := [some (.inl (some 52)), some (zi a1), some (zi a2), some (zi a3), some (zi a4), some (zi a5), some (zi xi), some (zi a5)]) (st' := [zi a5, zi xT, .inl (some 54)]) (by decide +kernel) (fun k q => by cases q) rfl ?_
  refine y_bi (c := 24) (len := 2) (r := (0, 0, 0, 0)) (by decide +kernel) (by decide) (fun y1879 hy1879 => ?_)
  refine y_bi (c := 8) (len := 2) (r := (0, 0, 0, 0)) (by decide +kernel) (by decide) (fun y1880 hy1880 => ?_)
  refine y_same (i := .iload 6) (len := 2) (r := (0, 0, 0, 0)) (pc' := 94) (ls' := [some (.inl (some 52)), some (zi a1), some (zi a2), some (zi a3), some (zi a4), some (zi a5), some (zi xi), some (zi a5)]) (st' := [zi xi, zi y1880, zi y1879, zi a5, zi xT, .inl (some 54)]) (by decide +kernel) (fun k q => by cases q) rfl ?_
  refine y_ic (c := 4) (len := 1) (r := (0, 0, 0, 0)) (by decide +kernel) (by decide) (fun y1881 hy1881 => ?_)
  refine y_rem (c := 19) (e := 4) (w := 3) (len := 1) (r := (0, 0, 0, 0)) (by decide +kernel) (ofI2 (c := 19) (by omega) (by decide)) (ofI2 (c := 4) (by omega) (by decide)) (by first | rfl | decide +kernel) ?_
  obtain ⟨w1882, hw1882⟩ : ∃ z : Int32, (3 : Int32) = z := ⟨_, rfl⟩
  rw [hw1882]
  have ew1882 : w1882.toInt = 3 := by rw [← hw1882]; decide
  refine y_mul (c := 8) (len := 1) (r := (0, 0, 0, 0)) (by decide +kernel) (by omega) (by omega) (by omega) (fun y1883 hy1883 => ?_)
  refine y_sub (len := 1) (r := (0, 0, 0, 0)) (by decide +kernel) (by omega) (by omega) (fun y1884 hy1884 => ?_)
  refine y_bp (i := .ishr) (f := fun x y => x >>> (y &&& 31)) (len := 1) (r := (0, 0, 0, 0)) (by decide +kernel) rfl rfl (fun y1885 hy1885 => ?_)
  have hy1885 : y1885 = a5 >>> (y1884 &&& 31) := hy1885
  refine y_si (c := 255) (len := 3) (r := (0, 0, 0, 0)) (by decide +kernel) (by decide) (fun y1886 hy1886 => ?_)
  refine y_bp (i := .iand) (f := fun x y => x &&& y) (len := 1) (r := (0, 0, 0, 0)) (by decide +kernel) rfl rfl (fun y1887 hy1887 => ?_)
  have hy1887 : y1887 = y1885 &&& y1886 := hy1887
  have by1887 := and255 (x := y1885) (by omega) hy1887
  refine y_ias (i := (N + 19)) (len := 1) (r := (0, 0, 0, 0)) (by decide +kernel) hg (tu54 hg) at54 rfl (by omega) (by omega) (sr1 (by omega)) (by omega) (by omega) (fun h1888 hg1888 hl1888 hs1888 ho1888 => ?_)
  refine y_same (i := .aload_n 0) (len := 1) (r := (0, 0, 0, 0)) (pc' := 105) (ls' := [some (.inl (some 52)), some (zi a1), some (zi a2), some (zi a3), some (zi a4), some (zi a5), some (zi xi), some (zi a5)]) (st' := [.inl (some 52)]) (by decide +kernel) (fun k q => by cases q) rfl ?_
  refine y_same (i := .dup) (len := 1) (r := (0, 0, 0, 0)) (pc' := 106) (ls' := [some (.inl (some 52)), some (zi a1), some (zi a2), some (zi a3), some (zi a4), some (zi a5), some (zi xi), some (zi a5)]) (st' := [.inl (some 52), .inl (some 52)]) (by decide +kernel) (fun k q => by cases q) rfl ?_
  have hv1889 := (ho1888 52 2 (Or.inl (by omega))).trans hT
  refine y_get (j := 95) (len := 3) (r := (12, 2, 0, 1330)) (by decide +kernel) hg1888 (t52 hg1888) at52 rfl rfl hv1889 ?_
  refine y_ic (c := 1) (len := 1) (r := (0, 0, 0, 0)) (by decide +kernel) (by decide) (fun y1890 hy1890 => ?_)
  refine y_add (len := 1) (r := (0, 0, 0, 0)) (by decide +kernel) (by omega) (by omega) (fun y1891 hy1891 => ?_)
  refine y_put (j := 95) (lo := 0) (hi := 200) (len := 3) (r := (12, 2, 0, 1330)) (by decide +kernel) hg1888 (t52 hg1888) at52 rfl rfl (by decide) rfl (by omega) (by omega) rfl (fun h1892 hg1892 hl1892 hs1892 ho1892 => ?_)
  have ho1892 : hO 52 2 h1888 h1892 := ho1892
  have hs1892 : hsl h1892 52 2 = some (zi y1891) := hs1892
  refine y_inc (j := 6) (a := xi) (c := 1) (ls' := fun v => [some (.inl (some 52)), some (zi a1), some (zi a2), some (zi a3), some (zi a4), some (zi a5), some v, some (zi a5)]) (len := 3) (r := (0, 0, 0, 0)) (by decide +kernel) rfl (fun _ => rfl) (by decide) (by omega) (by omega) (fun y1893 hy1893 => ?_)
  show qX 3 165 117 [some (.inl (some 52)), some (zi a1), some (zi a2), some (zi a3), some (zi a4), some (zi a5), some (zi y1893), some (zi a5)] [] h1892 t _
  refine y_goto (off := (-94)) (pc' := 23) (len := 3) (r := (0, 0, 0, 0)) (by decide +kernel) (by decide +kernel) ?_
  have hv1894 := (ho1892 54 (N + 19) (Or.inl (by omega))).trans hs1888
  exact kk _ _ _ _ ⟨(aup_refl _), hg1892, fun k T j hk (hC : (k ≠ 52 ∨ j ≠ 2) ∧ (k ≠ 54 ∨ j ≠ N + 19)) => ((ho1892 k j (by omega)).trans (ho1888 k j (by omega)))⟩ hs1892 (by omega) ((show y1887 = bf a5 3 by rw [hy1887, hy1885, ofI2 (y := y1884) (w := 0) (c := 0) (by omega) (by decide), ofI2 (y := y1886) (w := 255) (c := 255) (by omega) (by decide)]; rfl) ▸ hv1894) (by omega)
theorem mg_0 {t N : Nat} {P : zo × zh × Nat → Prop} {τ : List Nat} {h : zh} {xT a1 a2 a3 a4 a5 xi : Int32} (hg : hG τ h) (hT : hsl h 52 2 = some (zi xT)) (eT : xT.toInt = ((N + 0 : Nat) : Int)) (hT2 : N + 20 ≤ 200) (hxi : xi.toInt = 0) (kk : ∀ (h1 : zh) (x1 xi1 x71 : Int32), oF (fun k j => (k ≠ 52 ∨ j ≠ 2) ∧ (k ≠ 54 ∨ j < N + 0 ∨ N + 4 ≤ j)) τ h τ h1 → hsl h1 52 2 = some (zi x1) → x1.toInt = ((N + 4 : Nat) : Int) → (hsl h1 54 (N + 0) = some (zi (bf a1 0)) ∧ hsl h1 54 (N + 1) = some (zi (bf a1 1)) ∧ hsl h1 54 (N + 2) = some (zi (bf a1 2)) ∧ hsl h1 54 (N + 3) = some (zi (bf a1 3))) → xi1.toInt = 4 → qX 3 165 23 [some (.inl (some 52)), some (zi a1), some (zi a2), some (zi a3), some (zi a4), some (zi a5), some (zi xi1), some (zi x71)] [] h1 t P) : qX 3 165 23 [some (.inl (some 52)), some (zi a1), some (zi a2), some (zi a3), some (zi a4), some (zi a5), some (zi xi), none] [] h t P := by
  refine mf_0 (N := N) hg hT (by omega) hT2 (by omega) (fun h1895 x1895 xi1895 x71895 O1895 hs1895 es1895 b1895 ei1895 => ?_)
  refine mf_1 (N := N) O1895.2.1 hs1895 (by omega) hT2 (by omega) (fun h1896 x1896 xi1896 x71896 O1896 hs1896 es1896 b1896 ei1896 => ?_)
  refine mf_2 (N := N) O1896.2.1 hs1896 (by omega) hT2 (by omega) (fun h1897 x1897 xi1897 x71897 O1897 hs1897 es1897 b1897 ei1897 => ?_)
  refine mf_3 (N := N) O1897.2.1 hs1897 (by omega) hT2 (by omega) (fun h1898 x1898 xi1898 x71898 O1898 hs1898 es1898 b1898 ei1898 => ?_)
  exact kk _ _ _ _ ⟨(aup_trans (aup_trans (aup_trans O1895.1 O1896.1) O1897.1) O1898.1), O1898.2.1, fun k T j hk (hC : (k ≠ 52 ∨ j ≠ 2) ∧ (k ≠ 54 ∨ j < N + 0 ∨ N + 4 ≤ j)) => ((O1898.2.2 k T j (O1897.1 _ _ (O1896.1 _ _ (O1895.1 _ _ hk))) (show (k ≠ 52 ∨ j ≠ 2) ∧ (k ≠ 54 ∨ j ≠ N + 3) by omega)).trans ((O1897.2.2 k T j (O1896.1 _ _ (O1895.1 _ _ hk)) (show (k ≠ 52 ∨ j ≠ 2) ∧ (k ≠ 54 ∨ j ≠ N + 2) by omega)).trans ((O1896.2.2 k T j (O1895.1 _ _ hk) (show (k ≠ 52 ∨ j ≠ 2) ∧ (k ≠ 54 ∨ j ≠ N + 1) by omega)).trans (O1895.2.2 k T j hk (show (k ≠ 52 ∨ j ≠ 2) ∧ (k ≠ 54 ∨ j ≠ N + 0) by omega)))))⟩ hs1898 es1898 ⟨(((O1898.2.2 54 54 (N + 0) (tu54 O1897.2.1) (show (54 ≠ 52 ∨ (N + 0) ≠ 2) ∧ (54 ≠ 54 ∨ (N + 0) ≠ N + 3) by omega)).trans ((O1897.2.2 54 54 (N + 0) (tu54 O1896.2.1) (show (54 ≠ 52 ∨ (N + 0) ≠ 2) ∧ (54 ≠ 54 ∨ (N + 0) ≠ N + 2) by omega)).trans (O1896.2.2 54 54 (N + 0) (tu54 O1895.2.1) (show (54 ≠ 52 ∨ (N + 0) ≠ 2) ∧ (54 ≠ 54 ∨ (N + 0) ≠ N + 1) by omega)))).trans b1895), (((O1898.2.2 54 54 (N + 1) (tu54 O1897.2.1) (show (54 ≠ 52 ∨ (N + 1) ≠ 2) ∧ (54 ≠ 54 ∨ (N + 1) ≠ N + 3) by omega)).trans (O1897.2.2 54 54 (N + 1) (tu54 O1896.2.1) (show (54 ≠ 52 ∨ (N + 1) ≠ 2) ∧ (54 ≠ 54 ∨ (N + 1) ≠ N + 2) by omega))).trans b1896), ((O1898.2.2 54 54 (N + 2) (tu54 O1897.2.1) (show (54 ≠ 52 ∨ (N + 2) ≠ 2) ∧ (54 ≠ 54 ∨ (N + 2) ≠ N + 3) by omega)).trans b1897), b1898⟩ ei1898
theorem mg_1 {t N : Nat} {P : zo × zh × Nat → Prop} {τ : List Nat} {h : zh} {xT a1 a2 a3 a4 a5 xi x7 : Int32} (hg : hG τ h) (hT : hsl h 52 2 = some (zi xT)) (eT : xT.toInt = ((N + 4 : Nat) : Int)) (hT2 : N + 20 ≤ 200) (hxi : xi.toInt = 4) (kk : ∀ (h1 : zh) (x1 xi1 x71 : Int32), oF (fun k j => (k ≠ 52 ∨ j ≠ 2) ∧ (k ≠ 54 ∨ j < N + 4 ∨ N + 8 ≤ j)) τ h τ h1 → hsl h1 52 2 = some (zi x1) → x1.toInt = ((N + 8 : Nat) : Int) → (hsl h1 54 (N + 4) = some (zi (bf a2 0)) ∧ hsl h1 54 (N + 5) = some (zi (bf a2 1)) ∧ hsl h1 54 (N + 6) = some (zi (bf a2 2)) ∧ hsl h1 54 (N + 7) = some (zi (bf a2 3))) → xi1.toInt = 8 → qX 3 165 23 [some (.inl (some 52)), some (zi a1), some (zi a2), some (zi a3), some (zi a4), some (zi a5), some (zi xi1), some (zi x71)] [] h1 t P) : qX 3 165 23 [some (.inl (some 52)), some (zi a1), some (zi a2), some (zi a3), some (zi a4), some (zi a5), some (zi xi), some (zi x7)] [] h t P := by
  refine mf_4 (N := N) hg hT (by omega) hT2 (by omega) (fun h1899 x1899 xi1899 x71899 O1899 hs1899 es1899 b1899 ei1899 => ?_)
  refine mf_5 (N := N) O1899.2.1 hs1899 (by omega) hT2 (by omega) (fun h1900 x1900 xi1900 x71900 O1900 hs1900 es1900 b1900 ei1900 => ?_)
  refine mf_6 (N := N) O1900.2.1 hs1900 (by omega) hT2 (by omega) (fun h1901 x1901 xi1901 x71901 O1901 hs1901 es1901 b1901 ei1901 => ?_)
  refine mf_7 (N := N) O1901.2.1 hs1901 (by omega) hT2 (by omega) (fun h1902 x1902 xi1902 x71902 O1902 hs1902 es1902 b1902 ei1902 => ?_)
  exact kk _ _ _ _ ⟨(aup_trans (aup_trans (aup_trans O1899.1 O1900.1) O1901.1) O1902.1), O1902.2.1, fun k T j hk (hC : (k ≠ 52 ∨ j ≠ 2) ∧ (k ≠ 54 ∨ j < N + 4 ∨ N + 8 ≤ j)) => ((O1902.2.2 k T j (O1901.1 _ _ (O1900.1 _ _ (O1899.1 _ _ hk))) (show (k ≠ 52 ∨ j ≠ 2) ∧ (k ≠ 54 ∨ j ≠ N + 7) by omega)).trans ((O1901.2.2 k T j (O1900.1 _ _ (O1899.1 _ _ hk)) (show (k ≠ 52 ∨ j ≠ 2) ∧ (k ≠ 54 ∨ j ≠ N + 6) by omega)).trans ((O1900.2.2 k T j (O1899.1 _ _ hk) (show (k ≠ 52 ∨ j ≠ 2) ∧ (k ≠ 54 ∨ j ≠ N + 5) by omega)).trans (O1899.2.2 k T j hk (show (k ≠ 52 ∨ j ≠ 2) ∧ (k ≠ 54 ∨ j ≠ N + 4) by omega)))))⟩ hs1902 es1902 ⟨(((O1902.2.2 54 54 (N + 4) (tu54 O1901.2.1) (show (54 ≠ 52 ∨ (N + 4) ≠ 2) ∧ (54 ≠ 54 ∨ (N + 4) ≠ N + 7) by omega)).trans ((O1901.2.2 54 54 (N + 4) (tu54 O1900.2.1) (show (54 ≠ 52 ∨ (N + 4) ≠ 2) ∧ (54 ≠ 54 ∨ (N + 4) ≠ N + 6) by omega)).trans (O1900.2.2 54 54 (N + 4) (tu54 O1899.2.1) (show (54 ≠ 52 ∨ (N + 4) ≠ 2) ∧ (54 ≠ 54 ∨ (N + 4) ≠ N + 5) by omega)))).trans b1899), (((O1902.2.2 54 54 (N + 5) (tu54 O1901.2.1) (show (54 ≠ 52 ∨ (N + 5) ≠ 2) ∧ (54 ≠ 54 ∨ (N + 5) ≠ N + 7) by omega)).trans (O1901.2.2 54 54 (N + 5) (tu54 O1900.2.1) (show (54 ≠ 52 ∨ (N + 5) ≠ 2) ∧ (54 ≠ 54 ∨ (N + 5) ≠ N + 6) by omega))).trans b1900), ((O1902.2.2 54 54 (N + 6) (tu54 O1901.2.1) (show (54 ≠ 52 ∨ (N + 6) ≠ 2) ∧ (54 ≠ 54 ∨ (N + 6) ≠ N + 7) by omega)).trans b1901), b1902⟩ ei1902
theorem mg_2 {t N : Nat} {P : zo × zh × Nat → Prop} {τ : List Nat} {h : zh} {xT a1 a2 a3 a4 a5 xi x7 : Int32} (hg : hG τ h) (hT : hsl h 52 2 = some (zi xT)) (eT : xT.toInt = ((N + 8 : Nat) : Int)) (hT2 : N + 20 ≤ 200) (hxi : xi.toInt = 8) (kk : ∀ (h1 : zh) (x1 xi1 x71 : Int32), oF (fun k j => (k ≠ 52 ∨ j ≠ 2) ∧ (k ≠ 54 ∨ j < N + 8 ∨ N + 12 ≤ j)) τ h τ h1 → hsl h1 52 2 = some (zi x1) → x1.toInt = ((N + 12 : Nat) : Int) → (hsl h1 54 (N + 8) = some (zi (bf a3 0)) ∧ hsl h1 54 (N + 9) = some (zi (bf a3 1)) ∧ hsl h1 54 (N + 10) = some (zi (bf a3 2)) ∧ hsl h1 54 (N + 11) = some (zi (bf a3 3))) → xi1.toInt = 12 → qX 3 165 23 [some (.inl (some 52)), some (zi a1), some (zi a2), some (zi a3), some (zi a4), some (zi a5), some (zi xi1), some (zi x71)] [] h1 t P) : qX 3 165 23 [some (.inl (some 52)), some (zi a1), some (zi a2), some (zi a3), some (zi a4), some (zi a5), some (zi xi), some (zi x7)] [] h t P := by
  refine mf_8 (N := N) hg hT (by omega) hT2 (by omega) (fun h1903 x1903 xi1903 x71903 O1903 hs1903 es1903 b1903 ei1903 => ?_)
  refine mf_9 (N := N) O1903.2.1 hs1903 (by omega) hT2 (by omega) (fun h1904 x1904 xi1904 x71904 O1904 hs1904 es1904 b1904 ei1904 => ?_)
  refine mf_10 (N := N) O1904.2.1 hs1904 (by omega) hT2 (by omega) (fun h1905 x1905 xi1905 x71905 O1905 hs1905 es1905 b1905 ei1905 => ?_)
  refine mf_11 (N := N) O1905.2.1 hs1905 (by omega) hT2 (by omega) (fun h1906 x1906 xi1906 x71906 O1906 hs1906 es1906 b1906 ei1906 => ?_)
  exact kk _ _ _ _ ⟨(aup_trans (aup_trans (aup_trans O1903.1 O1904.1) O1905.1) O1906.1), O1906.2.1, fun k T j hk (hC : (k ≠ 52 ∨ j ≠ 2) ∧ (k ≠ 54 ∨ j < N + 8 ∨ N + 12 ≤ j)) => ((O1906.2.2 k T j (O1905.1 _ _ (O1904.1 _ _ (O1903.1 _ _ hk))) (show (k ≠ 52 ∨ j ≠ 2) ∧ (k ≠ 54 ∨ j ≠ N + 11) by omega)).trans ((O1905.2.2 k T j (O1904.1 _ _ (O1903.1 _ _ hk)) (show (k ≠ 52 ∨ j ≠ 2) ∧ (k ≠ 54 ∨ j ≠ N + 10) by omega)).trans ((O1904.2.2 k T j (O1903.1 _ _ hk) (show (k ≠ 52 ∨ j ≠ 2) ∧ (k ≠ 54 ∨ j ≠ N + 9) by omega)).trans (O1903.2.2 k T j hk (show (k ≠ 52 ∨ j ≠ 2) ∧ (k ≠ 54 ∨ j ≠ N + 8) by omega)))))⟩ hs1906 es1906 ⟨(((O1906.2.2 54 54 (N + 8) (tu54 O1905.2.1) (show (54 ≠ 52 ∨ (N + 8) ≠ 2) ∧ (54 ≠ 54 ∨ (N + 8) ≠ N + 11) by omega)).trans ((O1905.2.2 54 54 (N + 8) (tu54 O1904.2.1) (show (54 ≠ 52 ∨ (N + 8) ≠ 2) ∧ (54 ≠ 54 ∨ (N + 8) ≠ N + 10) by omega)).trans (O1904.2.2 54 54 (N + 8) (tu54 O1903.2.1) (show (54 ≠ 52 ∨ (N + 8) ≠ 2) ∧ (54 ≠ 54 ∨ (N + 8) ≠ N + 9) by omega)))).trans b1903), (((O1906.2.2 54 54 (N + 9) (tu54 O1905.2.1) (show (54 ≠ 52 ∨ (N + 9) ≠ 2) ∧ (54 ≠ 54 ∨ (N + 9) ≠ N + 11) by omega)).trans (O1905.2.2 54 54 (N + 9) (tu54 O1904.2.1) (show (54 ≠ 52 ∨ (N + 9) ≠ 2) ∧ (54 ≠ 54 ∨ (N + 9) ≠ N + 10) by omega))).trans b1904), ((O1906.2.2 54 54 (N + 10) (tu54 O1905.2.1) (show (54 ≠ 52 ∨ (N + 10) ≠ 2) ∧ (54 ≠ 54 ∨ (N + 10) ≠ N + 11) by omega)).trans b1905), b1906⟩ ei1906
theorem mg_3 {t N : Nat} {P : zo × zh × Nat → Prop} {τ : List Nat} {h : zh} {xT a1 a2 a3 a4 a5 xi x7 : Int32} (hg : hG τ h) (hT : hsl h 52 2 = some (zi xT)) (eT : xT.toInt = ((N + 12 : Nat) : Int)) (hT2 : N + 20 ≤ 200) (hxi : xi.toInt = 12) (kk : ∀ (h1 : zh) (x1 xi1 x71 : Int32), oF (fun k j => (k ≠ 52 ∨ j ≠ 2) ∧ (k ≠ 54 ∨ j < N + 12 ∨ N + 16 ≤ j)) τ h τ h1 → hsl h1 52 2 = some (zi x1) → x1.toInt = ((N + 16 : Nat) : Int) → (hsl h1 54 (N + 12) = some (zi (bf a4 0)) ∧ hsl h1 54 (N + 13) = some (zi (bf a4 1)) ∧ hsl h1 54 (N + 14) = some (zi (bf a4 2)) ∧ hsl h1 54 (N + 15) = some (zi (bf a4 3))) → xi1.toInt = 16 → qX 3 165 23 [some (.inl (some 52)), some (zi a1), some (zi a2), some (zi a3), some (zi a4), some (zi a5), some (zi xi1), some (zi x71)] [] h1 t P) : qX 3 165 23 [some (.inl (some 52)), some (zi a1), some (zi a2), some (zi a3), some (zi a4), some (zi a5), some (zi xi), some (zi x7)] [] h t P := by
  refine mf_12 (N := N) hg hT (by omega) hT2 (by omega) (fun h1907 x1907 xi1907 x71907 O1907 hs1907 es1907 b1907 ei1907 => ?_)
  refine mf_13 (N := N) O1907.2.1 hs1907 (by omega) hT2 (by omega) (fun h1908 x1908 xi1908 x71908 O1908 hs1908 es1908 b1908 ei1908 => ?_)
  refine mf_14 (N := N) O1908.2.1 hs1908 (by omega) hT2 (by omega) (fun h1909 x1909 xi1909 x71909 O1909 hs1909 es1909 b1909 ei1909 => ?_)
  refine mf_15 (N := N) O1909.2.1 hs1909 (by omega) hT2 (by omega) (fun h1910 x1910 xi1910 x71910 O1910 hs1910 es1910 b1910 ei1910 => ?_)
  exact kk _ _ _ _ ⟨(aup_trans (aup_trans (aup_trans O1907.1 O1908.1) O1909.1) O1910.1), O1910.2.1, fun k T j hk (hC : (k ≠ 52 ∨ j ≠ 2) ∧ (k ≠ 54 ∨ j < N + 12 ∨ N + 16 ≤ j)) => ((O1910.2.2 k T j (O1909.1 _ _ (O1908.1 _ _ (O1907.1 _ _ hk))) (show (k ≠ 52 ∨ j ≠ 2) ∧ (k ≠ 54 ∨ j ≠ N + 15) by omega)).trans ((O1909.2.2 k T j (O1908.1 _ _ (O1907.1 _ _ hk)) (show (k ≠ 52 ∨ j ≠ 2) ∧ (k ≠ 54 ∨ j ≠ N + 14) by omega)).trans ((O1908.2.2 k T j (O1907.1 _ _ hk) (show (k ≠ 52 ∨ j ≠ 2) ∧ (k ≠ 54 ∨ j ≠ N + 13) by omega)).trans (O1907.2.2 k T j hk (show (k ≠ 52 ∨ j ≠ 2) ∧ (k ≠ 54 ∨ j ≠ N + 12) by omega)))))⟩ hs1910 es1910 ⟨(((O1910.2.2 54 54 (N + 12) (tu54 O1909.2.1) (show (54 ≠ 52 ∨ (N + 12) ≠ 2) ∧ (54 ≠ 54 ∨ (N + 12) ≠ N + 15) by omega)).trans ((O1909.2.2 54 54 (N + 12) (tu54 O1908.2.1) (show (54 ≠ 52 ∨ (N + 12) ≠ 2) ∧ (54 ≠ 54 ∨ (N + 12) ≠ N + 14) by omega)).trans (O1908.2.2 54 54 (N + 12) (tu54 O1907.2.1) (show (54 ≠ 52 ∨ (N + 12) ≠ 2) ∧ (54 ≠ 54 ∨ (N + 12) ≠ N + 13) by omega)))).trans b1907), (((O1910.2.2 54 54 (N + 13) (tu54 O1909.2.1) (show (54 ≠ 52 ∨ (N + 13) ≠ 2) ∧ (54 ≠ 54 ∨ (N + 13) ≠ N + 15) by omega)).trans (O1909.2.2 54 54 (N + 13) (tu54 O1908.2.1) (show (54 ≠ 52 ∨ (N + 13) ≠ 2) ∧ (54 ≠ 54 ∨ (N + 13) ≠ N + 14) by omega))).trans b1908), ((O1910.2.2 54 54 (N + 14) (tu54 O1909.2.1) (show (54 ≠ 52 ∨ (N + 14) ≠ 2) ∧ (54 ≠ 54 ∨ (N + 14) ≠ N + 15) by omega)).trans b1909), b1910⟩ ei1910
theorem mg_4 {t N : Nat} {P : zo × zh × Nat → Prop} {τ : List Nat} {h : zh} {xT a1 a2 a3 a4 a5 xi x7 : Int32} (hg : hG τ h) (hT : hsl h 52 2 = some (zi xT)) (eT : xT.toInt = ((N + 16 : Nat) : Int)) (hT2 : N + 20 ≤ 200) (hxi : xi.toInt = 16) (kk : ∀ (h1 : zh) (x1 xi1 x71 : Int32), oF (fun k j => (k ≠ 52 ∨ j ≠ 2) ∧ (k ≠ 54 ∨ j < N + 16 ∨ N + 20 ≤ j)) τ h τ h1 → hsl h1 52 2 = some (zi x1) → x1.toInt = ((N + 20 : Nat) : Int) → (hsl h1 54 (N + 16) = some (zi (bf a5 0)) ∧ hsl h1 54 (N + 17) = some (zi (bf a5 1)) ∧ hsl h1 54 (N + 18) = some (zi (bf a5 2)) ∧ hsl h1 54 (N + 19) = some (zi (bf a5 3))) → xi1.toInt = 20 → qX 3 165 23 [some (.inl (some 52)), some (zi a1), some (zi a2), some (zi a3), some (zi a4), some (zi a5), some (zi xi1), some (zi x71)] [] h1 t P) : qX 3 165 23 [some (.inl (some 52)), some (zi a1), some (zi a2), some (zi a3), some (zi a4), some (zi a5), some (zi xi), some (zi x7)] [] h t P := by
  refine mf_16 (N := N) hg hT (by omega) hT2 (by omega) (fun h1911 x1911 xi1911 x71911 O1911 hs1911 es1911 b1911 ei1911 => ?_)
  refine mf_17 (N := N) O1911.2.1 hs1911 (by omega) hT2 (by omega) (fun h1912 x1912 xi1912 x71912 O1912 hs1912 es1912 b1912 ei1912 => ?_)
  refine mf_18 (N := N) O1912.2.1 hs1912 (by omega) hT2 (by omega) (fun h1913 x1913 xi1913 x71913 O1913 hs1913 es1913 b1913 ei1913 => ?_)
  refine mf_19 (N := N) O1913.2.1 hs1913 (by omega) hT2 (by omega) (fun h1914 x1914 xi1914 x71914 O1914 hs1914 es1914 b1914 ei1914 => ?_)
  exact kk _ _ _ _ ⟨(aup_trans (aup_trans (aup_trans O1911.1 O1912.1) O1913.1) O1914.1), O1914.2.1, fun k T j hk (hC : (k ≠ 52 ∨ j ≠ 2) ∧ (k ≠ 54 ∨ j < N + 16 ∨ N + 20 ≤ j)) => ((O1914.2.2 k T j (O1913.1 _ _ (O1912.1 _ _ (O1911.1 _ _ hk))) (show (k ≠ 52 ∨ j ≠ 2) ∧ (k ≠ 54 ∨ j ≠ N + 19) by omega)).trans ((O1913.2.2 k T j (O1912.1 _ _ (O1911.1 _ _ hk)) (show (k ≠ 52 ∨ j ≠ 2) ∧ (k ≠ 54 ∨ j ≠ N + 18) by omega)).trans ((O1912.2.2 k T j (O1911.1 _ _ hk) (show (k ≠ 52 ∨ j ≠ 2) ∧ (k ≠ 54 ∨ j ≠ N + 17) by omega)).trans (O1911.2.2 k T j hk (show (k ≠ 52 ∨ j ≠ 2) ∧ (k ≠ 54 ∨ j ≠ N + 16) by omega)))))⟩ hs1914 es1914 ⟨(((O1914.2.2 54 54 (N + 16) (tu54 O1913.2.1) (show (54 ≠ 52 ∨ (N + 16) ≠ 2) ∧ (54 ≠ 54 ∨ (N + 16) ≠ N + 19) by omega)).trans ((O1913.2.2 54 54 (N + 16) (tu54 O1912.2.1) (show (54 ≠ 52 ∨ (N + 16) ≠ 2) ∧ (54 ≠ 54 ∨ (N + 16) ≠ N + 18) by omega)).trans (O1912.2.2 54 54 (N + 16) (tu54 O1911.2.1) (show (54 ≠ 52 ∨ (N + 16) ≠ 2) ∧ (54 ≠ 54 ∨ (N + 16) ≠ N + 17) by omega)))).trans b1911), (((O1914.2.2 54 54 (N + 17) (tu54 O1913.2.1) (show (54 ≠ 52 ∨ (N + 17) ≠ 2) ∧ (54 ≠ 54 ∨ (N + 17) ≠ N + 19) by omega)).trans (O1913.2.2 54 54 (N + 17) (tu54 O1912.2.1) (show (54 ≠ 52 ∨ (N + 17) ≠ 2) ∧ (54 ≠ 54 ∨ (N + 17) ≠ N + 18) by omega))).trans b1912), ((O1914.2.2 54 54 (N + 18) (tu54 O1913.2.1) (show (54 ≠ 52 ∨ (N + 18) ≠ 2) ∧ (54 ≠ 54 ∨ (N + 18) ≠ N + 19) by omega)).trans b1913), b1914⟩ ei1914
theorem m_feed {t N : Nat} {τ : List Nat} {h : zh} {xT a1 a2 a3 a4 a5 : Int32} (hg : hG τ h) (hT : hsl h 52 2 = some (zi xT)) (eT : xT.toInt = (N : Int)) (hT2 : N + 20 ≤ 200) : qI 60 165 [some (.inl (some 52)), some (zi a1), some (zi a2), some (zi a3), some (zi a4), some (zi a5), none, none] h t (fun _ h1 => ∃ τ1, oF (fun k j => (k ≠ 52 ∨ (j ≠ 0 ∧ j ≠ 2)) ∧ (k ≠ 54 ∨ j < N ∨ N + 20 ≤ j)) τ h τ1 h1 ∧ (∃ x : Int32, hsl h1 52 2 = some (zi x) ∧ x.toInt = ((N + 20 : Nat) : Int)) ∧ fdM h1 N a1 a2 a3 a4 a5) := by
  refine qI_le (d := 4) (by decide) (qI_of ?_)
  refine y_same (i := .aload_n 0) (len := 1) (r := (0, 0, 0, 0)) (pc' := 1) (ls' := [some (.inl (some 52)), some (zi a1), some (zi a2), some (zi a3), some (zi a4), some (zi a5), none, none]) (st' := [.inl (some 52)]) (by decide +kernel) (fun k q => by cases q) rfl ?_
  refine y_ic (c := 0) (len := 1) (r := (0, 0, 0, 0)) (by decide +kernel) (by decide) (fun y1915 hy1915 => ?_)
  refine y_put (j := 92) (lo := (-2147483648)) (hi := 2147483647) (len := 3) (r := (12, 0, 0, 1328)) (by decide +kernel) hg (t52 hg) at52 rfl rfl (by decide) rfl (qin_full _).1 (qin_full _).2 rfl (fun h1916 hg1916 hl1916 hs1916 ho1916 => ?_)
  have ho1916 : hO 52 0 h h1916 := ho1916
  have hs1916 : hsl h1916 52 0 = some (zi y1915) := hs1916
  refine y_same (i := .aload_n 0) (len := 1) (r := (0, 0, 0, 0)) (pc' := 6) (ls' := [some (.inl (some 52)), some (zi a1), some (zi a2), some (zi a3), some (zi a4), some (zi a5), none, none]) (st' := [.inl (some 52)]) (by decide +kernel) (fun k q => by cases q) rfl ?_
  have hv1917 := (ho1916 52 2 (Or.inr (by omega))).trans hT
  refine y_get (j := 95) (len := 3) (r := (12, 2, 0, 1330)) (by decide +kernel) hg1916 (t52 hg1916) at52 rfl rfl hv1917 ?_
  refine y_bi (c := 20) (len := 2) (r := (0, 0, 0, 0)) (by decide +kernel) (by decide) (fun y1918 hy1918 => ?_)
  refine y_add (len := 1) (r := (0, 0, 0, 0)) (by decide +kernel) (by omega) (by omega) (fun y1919 hy1919 => ?_)
  refine y_si (c := 200) (len := 3) (r := (0, 0, 0, 0)) (by decide +kernel) (by decide) (fun y1920 hy1920 => ?_)
  refine y_cT (c := .le) (off := 5) (pc' := 20) (len := 3) (r := (0, 0, 0, 0)) (by decide +kernel) (acmpT (c := .le) (by show _ ≤ _; omega)) (by decide +kernel) ?_
  refine y_ic (c := 0) (len := 1) (r := (0, 0, 0, 0)) (by decide +kernel) (by decide) (fun y1921 hy1921 => ?_)
  refine y_same (i := .istore 6) (len := 2) (r := (0, 0, 0, 0)) (pc' := 23) (ls' := [some (.inl (some 52)), some (zi a1), some (zi a2), some (zi a3), some (zi a4), some (zi a5), some (zi y1921), none]) (st' := []) (by decide +kernel) (fun k q => by cases q) rfl ?_
  refine mg_0 (N := N) hg1916 hv1917 (by omega) hT2 (by omega) (fun h1922 x1922 xi1922 x71922 O1922 hs1922 es1922 b1922 ei1922 => ?_)
  refine mg_1 (N := N) O1922.2.1 hs1922 (by omega) hT2 (by omega) (fun h1923 x1923 xi1923 x71923 O1923 hs1923 es1923 b1923 ei1923 => ?_)
  refine mg_2 (N := N) O1923.2.1 hs1923 (by omega) hT2 (by omega) (fun h1924 x1924 xi1924 x71924 O1924 hs1924 es1924 b1924 ei1924 => ?_)
  refine mg_3 (N := N) O1924.2.1 hs1924 (by omega) hT2 (by omega) (fun h1925 x1925 xi1925 x71925 O1925 hs1925 es1925 b1925 ei1925 => ?_)
  refine mg_4 (N := N) O1925.2.1 hs1925 (by omega) hT2 (by omega) (fun h1926 x1926 xi1926 x71926 O1926 hs1926 es1926 b1926 ei1926 => ?_)
  refine y_same (i := .iload 6) (len := 2) (r := (0, 0, 0, 0)) (pc' := 25) (ls' := [some (.inl (some 52)), some (zi a1), some (zi a2), some (zi a3), some (zi a4), some (zi a5), some (zi xi1926), some (zi x71926)]) (st' := [zi xi1926]) (by decide +kernel) (fun k q => by cases q) rfl ?_
  refine y_bi (c := 20) (len := 2) (r := (0, 0, 0, 0)) (by decide +kernel) (by decide) (fun y1927 hy1927 => ?_)
  refine y_cT (c := .ge) (off := 93) (pc' := 120) (len := 3) (r := (0, 0, 0, 0)) (by decide +kernel) (acmpT (c := .ge) (by show _ ≤ _; omega)) (by decide +kernel) ?_
  refine y_same (i := .aload_n 0) (len := 1) (r := (0, 0, 0, 0)) (pc' := 121) (ls' := [some (.inl (some 52)), some (zi a1), some (zi a2), some (zi a3), some (zi a4), some (zi a5), some (zi xi1926), some (zi x71926)]) (st' := [.inl (some 52)]) (by decide +kernel) (fun k q => by cases q) rfl ?_
  refine y_get (j := 95) (len := 3) (r := (12, 2, 0, 1330)) (by decide +kernel) O1926.2.1 (t52 O1926.2.1) at52 rfl rfl hs1926 ?_
  refine y_rI (len := 1) (r := (0, 0, 0, 0)) (nL := 8) (k := 1) (n9 := 6) (hs := []) (by decide +kernel) rfl rfl ?_
  exact ⟨_, ⟨(aup_trans (aup_trans (aup_trans (aup_trans O1922.1 O1923.1) O1924.1) O1925.1) O1926.1), O1926.2.1, fun k T j hk (hC : (k ≠ 52 ∨ (j ≠ 0 ∧ j ≠ 2)) ∧ (k ≠ 54 ∨ j < N ∨ N + 20 ≤ j)) => ((O1926.2.2 k T j (O1925.1 _ _ (O1924.1 _ _ (O1923.1 _ _ (O1922.1 _ _ hk)))) (show (k ≠ 52 ∨ j ≠ 2) ∧ (k ≠ 54 ∨ j < N + 16 ∨ N + 20 ≤ j) by omega)).trans ((O1925.2.2 k T j (O1924.1 _ _ (O1923.1 _ _ (O1922.1 _ _ hk))) (show (k ≠ 52 ∨ j ≠ 2) ∧ (k ≠ 54 ∨ j < N + 12 ∨ N + 16 ≤ j) by omega)).trans ((O1924.2.2 k T j (O1923.1 _ _ (O1922.1 _ _ hk)) (show (k ≠ 52 ∨ j ≠ 2) ∧ (k ≠ 54 ∨ j < N + 8 ∨ N + 12 ≤ j) by omega)).trans ((O1923.2.2 k T j (O1922.1 _ _ hk) (show (k ≠ 52 ∨ j ≠ 2) ∧ (k ≠ 54 ∨ j < N + 4 ∨ N + 8 ≤ j) by omega)).trans ((O1922.2.2 k T j hk (show (k ≠ 52 ∨ j ≠ 2) ∧ (k ≠ 54 ∨ j < N + 0 ∨ N + 4 ≤ j) by omega)).trans (ho1916 k j (by omega)))))))⟩, ⟨_, hs1926, by omega⟩, (((O1926.2.2 54 54 (N + 0) (tu54 O1925.2.1) (show (54 ≠ 52 ∨ (N + 0) ≠ 2) ∧ (54 ≠ 54 ∨ (N + 0) < N + 16 ∨ N + 20 ≤ (N + 0)) by omega)).trans ((O1925.2.2 54 54 (N + 0) (tu54 O1924.2.1) (show (54 ≠ 52 ∨ (N + 0) ≠ 2) ∧ (54 ≠ 54 ∨ (N + 0) < N + 12 ∨ N + 16 ≤ (N + 0)) by omega)).trans ((O1924.2.2 54 54 (N + 0) (tu54 O1923.2.1) (show (54 ≠ 52 ∨ (N + 0) ≠ 2) ∧ (54 ≠ 54 ∨ (N + 0) < N + 8 ∨ N + 12 ≤ (N + 0)) by omega)).trans (O1923.2.2 54 54 (N + 0) (tu54 O1922.2.1) (show (54 ≠ 52 ∨ (N + 0) ≠ 2) ∧ (54 ≠ 54 ∨ (N + 0) < N + 4 ∨ N + 8 ≤ (N + 0)) by omega))))).trans b1922.1), (((O1926.2.2 54 54 (N + 1) (tu54 O1925.2.1) (show (54 ≠ 52 ∨ (N + 1) ≠ 2) ∧ (54 ≠ 54 ∨ (N + 1) < N + 16 ∨ N + 20 ≤ (N + 1)) by omega)).trans ((O1925.2.2 54 54 (N + 1) (tu54 O1924.2.1) (show (54 ≠ 52 ∨ (N + 1) ≠ 2) ∧ (54 ≠ 54 ∨ (N + 1) < N + 12 ∨ N + 16 ≤ (N + 1)) by omega)).trans ((O1924.2.2 54 54 (N + 1) (tu54 O1923.2.1) (show (54 ≠ 52 ∨ (N + 1) ≠ 2) ∧ (54 ≠ 54 ∨ (N + 1) < N + 8 ∨ N + 12 ≤ (N + 1)) by omega)).trans (O1923.2.2 54 54 (N + 1) (tu54 O1922.2.1) (show (54 ≠ 52 ∨ (N + 1) ≠ 2) ∧ (54 ≠ 54 ∨ (N + 1) < N + 4 ∨ N + 8 ≤ (N + 1)) by omega))))).trans b1922.2.1), (((O1926.2.2 54 54 (N + 2) (tu54 O1925.2.1) (show (54 ≠ 52 ∨ (N + 2) ≠ 2) ∧ (54 ≠ 54 ∨ (N + 2) < N + 16 ∨ N + 20 ≤ (N + 2)) by omega)).trans ((O1925.2.2 54 54 (N + 2) (tu54 O1924.2.1) (show (54 ≠ 52 ∨ (N + 2) ≠ 2) ∧ (54 ≠ 54 ∨ (N + 2) < N + 12 ∨ N + 16 ≤ (N + 2)) by omega)).trans ((O1924.2.2 54 54 (N + 2) (tu54 O1923.2.1) (show (54 ≠ 52 ∨ (N + 2) ≠ 2) ∧ (54 ≠ 54 ∨ (N + 2) < N + 8 ∨ N + 12 ≤ (N + 2)) by omega)).trans (O1923.2.2 54 54 (N + 2) (tu54 O1922.2.1) (show (54 ≠ 52 ∨ (N + 2) ≠ 2) ∧ (54 ≠ 54 ∨ (N + 2) < N + 4 ∨ N + 8 ≤ (N + 2)) by omega))))).trans b1922.2.2.1), (((O1926.2.2 54 54 (N + 3) (tu54 O1925.2.1) (show (54 ≠ 52 ∨ (N + 3) ≠ 2) ∧ (54 ≠ 54 ∨ (N + 3) < N + 16 ∨ N + 20 ≤ (N + 3)) by omega)).trans ((O1925.2.2 54 54 (N + 3) (tu54 O1924.2.1) (show (54 ≠ 52 ∨ (N + 3) ≠ 2) ∧ (54 ≠ 54 ∨ (N + 3) < N + 12 ∨ N + 16 ≤ (N + 3)) by omega)).trans ((O1924.2.2 54 54 (N + 3) (tu54 O1923.2.1) (show (54 ≠ 52 ∨ (N + 3) ≠ 2) ∧ (54 ≠ 54 ∨ (N + 3) < N + 8 ∨ N + 12 ≤ (N + 3)) by omega)).trans (O1923.2.2 54 54 (N + 3) (tu54 O1922.2.1) (show (54 ≠ 52 ∨ (N + 3) ≠ 2) ∧ (54 ≠ 54 ∨ (N + 3) < N + 4 ∨ N + 8 ≤ (N + 3)) by omega))))).trans b1922.2.2.2), (((O1926.2.2 54 54 (N + 4) (tu54 O1925.2.1) (show (54 ≠ 52 ∨ (N + 4) ≠ 2) ∧ (54 ≠ 54 ∨ (N + 4) < N + 16 ∨ N + 20 ≤ (N + 4)) by omega)).trans ((O1925.2.2 54 54 (N + 4) (tu54 O1924.2.1) (show (54 ≠ 52 ∨ (N + 4) ≠ 2) ∧ (54 ≠ 54 ∨ (N + 4) < N + 12 ∨ N + 16 ≤ (N + 4)) by omega)).trans (O1924.2.2 54 54 (N + 4) (tu54 O1923.2.1) (show (54 ≠ 52 ∨ (N + 4) ≠ 2) ∧ (54 ≠ 54 ∨ (N + 4) < N + 8 ∨ N + 12 ≤ (N + 4)) by omega)))).trans b1923.1), (((O1926.2.2 54 54 (N + 5) (tu54 O1925.2.1) (show (54 ≠ 52 ∨ (N + 5) ≠ 2) ∧ (54 ≠ 54 ∨ (N + 5) < N + 16 ∨ N + 20 ≤ (N + 5)) by omega)).trans ((O1925.2.2 54 54 (N + 5) (tu54 O1924.2.1) (show (54 ≠ 52 ∨ (N + 5) ≠ 2) ∧ (54 ≠ 54 ∨ (N + 5) < N + 12 ∨ N + 16 ≤ (N + 5)) by omega)).trans (O1924.2.2 54 54 (N + 5) (tu54 O1923.2.1) (show (54 ≠ 52 ∨ (N + 5) ≠ 2) ∧ (54 ≠ 54 ∨ (N + 5) < N + 8 ∨ N + 12 ≤ (N + 5)) by omega)))).trans b1923.2.1), (((O1926.2.2 54 54 (N + 6) (tu54 O1925.2.1) (show (54 ≠ 52 ∨ (N + 6) ≠ 2) ∧ (54 ≠ 54 ∨ (N + 6) < N + 16 ∨ N + 20 ≤ (N + 6)) by omega)).trans ((O1925.2.2 54 54 (N + 6) (tu54 O1924.2.1) (show (54 ≠ 52 ∨ (N + 6) ≠ 2) ∧ (54 ≠ 54 ∨ (N + 6) < N + 12 ∨ N + 16 ≤ (N + 6)) by omega)).trans (O1924.2.2 54 54 (N + 6) (tu54 O1923.2.1) (show (54 ≠ 52 ∨ (N + 6) ≠ 2) ∧ (54 ≠ 54 ∨ (N + 6) < N + 8 ∨ N + 12 ≤ (N + 6)) by omega)))).trans b1923.2.2.1), (((O1926.2.2 54 54 (N + 7) (tu54 O1925.2.1) (show (54 ≠ 52 ∨ (N + 7) ≠ 2) ∧ (54 ≠ 54 ∨ (N + 7) < N + 16 ∨ N + 20 ≤ (N + 7)) by omega)).trans ((O1925.2.2 54 54 (N + 7) (tu54 O1924.2.1) (show (54 ≠ 52 ∨ (N + 7) ≠ 2) ∧ (54 ≠ 54 ∨ (N + 7) < N + 12 ∨ N + 16 ≤ (N + 7)) by omega)).trans (O1924.2.2 54 54 (N + 7) (tu54 O1923.2.1) (show (54 ≠ 52 ∨ (N + 7) ≠ 2) ∧ (54 ≠ 54 ∨ (N + 7) < N + 8 ∨ N + 12 ≤ (N + 7)) by omega)))).trans b1923.2.2.2), (((O1926.2.2 54 54 (N + 8) (tu54 O1925.2.1) (show (54 ≠ 52 ∨ (N + 8) ≠ 2) ∧ (54 ≠ 54 ∨ (N + 8) < N + 16 ∨ N + 20 ≤ (N + 8)) by omega)).trans (O1925.2.2 54 54 (N + 8) (tu54 O1924.2.1) (show (54 ≠ 52 ∨ (N + 8) ≠ 2) ∧ (54 ≠ 54 ∨ (N + 8) < N + 12 ∨ N + 16 ≤ (N + 8)) by omega))).trans b1924.1), (((O1926.2.2 54 54 (N + 9) (tu54 O1925.2.1) (show (54 ≠ 52 ∨ (N + 9) ≠ 2) ∧ (54 ≠ 54 ∨ (N + 9) < N + 16 ∨ N + 20 ≤ (N + 9)) by omega)).trans (O1925.2.2 54 54 (N + 9) (tu54 O1924.2.1) (show (54 ≠ 52 ∨ (N + 9) ≠ 2) ∧ (54 ≠ 54 ∨ (N + 9) < N + 12 ∨ N + 16 ≤ (N + 9)) by omega))).trans b1924.2.1), (((O1926.2.2 54 54 (N + 10) (tu54 O1925.2.1) (show (54 ≠ 52 ∨ (N + 10) ≠ 2) ∧ (54 ≠ 54 ∨ (N + 10) < N + 16 ∨ N + 20 ≤ (N + 10)) by omega)).trans (O1925.2.2 54 54 (N + 10) (tu54 O1924.2.1) (show (54 ≠ 52 ∨ (N + 10) ≠ 2) ∧ (54 ≠ 54 ∨ (N + 10) < N + 12 ∨ N + 16 ≤ (N + 10)) by omega))).trans b1924.2.2.1), (((O1926.2.2 54 54 (N + 11) (tu54 O1925.2.1) (show (54 ≠ 52 ∨ (N + 11) ≠ 2) ∧ (54 ≠ 54 ∨ (N + 11) < N + 16 ∨ N + 20 ≤ (N + 11)) by omega)).trans (O1925.2.2 54 54 (N + 11) (tu54 O1924.2.1) (show (54 ≠ 52 ∨ (N + 11) ≠ 2) ∧ (54 ≠ 54 ∨ (N + 11) < N + 12 ∨ N + 16 ≤ (N + 11)) by omega))).trans b1924.2.2.2), ((O1926.2.2 54 54 (N + 12) (tu54 O1925.2.1) (show (54 ≠ 52 ∨ (N + 12) ≠ 2) ∧ (54 ≠ 54 ∨ (N + 12) < N + 16 ∨ N + 20 ≤ (N + 12)) by omega)).trans b1925.1), ((O1926.2.2 54 54 (N + 13) (tu54 O1925.2.1) (show (54 ≠ 52 ∨ (N + 13) ≠ 2) ∧ (54 ≠ 54 ∨ (N + 13) < N + 16 ∨ N + 20 ≤ (N + 13)) by omega)).trans b1925.2.1), ((O1926.2.2 54 54 (N + 14) (tu54 O1925.2.1) (show (54 ≠ 52 ∨ (N + 14) ≠ 2) ∧ (54 ≠ 54 ∨ (N + 14) < N + 16 ∨ N + 20 ≤ (N + 14)) by omega)).trans b1925.2.2.1), ((O1926.2.2 54 54 (N + 15) (tu54 O1925.2.1) (show (54 ≠ 52 ∨ (N + 15) ≠ 2) ∧ (54 ≠ 54 ∨ (N + 15) < N + 16 ∨ N + 20 ≤ (N + 15)) by omega)).trans b1925.2.2.2), b1926.1, b1926.2.1, b1926.2.2.1, b1926.2.2.2⟩
