/-! THE CLASS'S READER, told exactly -/
def sw0 : List qs := [.inr (.inl (1, false)), .inl (0, 200), .inl ((-2147483648), 2147483647), .inl ((-2147483648), 2147483647), .inl ((-2147483648), 2147483647), .inr (.inl (1000, false)), .inr (.inl (13, false)), .inr (.inl (15, false)), .inr (.inl (28, false)), .inr (.inl (35, false)), .inr (.inl (42, false))]
theorem aw0 : atyp 0 = some (.inr (11, sw0)) := rfl
theorem atav0 : atau[0]? = some 0 := by decide +kernel
theorem tv0 {τ : List Nat} {h : zh} (hg : hG τ h) : τ[0]? = some 0 := hg.1.2.2.1 _ _ atav0
theorem aw1 : atyp 1 = some (.inl (0, 200, [(200, .inl ((-2147483648), 2147483647))])) := rfl
theorem atav1 : atau[1]? = some 1 := by decide +kernel
theorem tv1 {τ : List Nat} {h : zh} (hg : hG τ h) : τ[1]? = some 1 := hg.1.2.2.1 _ _ atav1
def sw15 : List qs := [.inr (.inl (1000, false)), .inr (.inl (27, false)), .inl (0, 200), .inl ((-2147483648), 2147483647), .inl ((-2147483648), 2147483647), .inl ((-2147483648), 2147483647)]
theorem aw15 : atyp 15 = some (.inr (5, sw15)) := rfl
theorem atav15 : atau[15]? = some 15 := by decide +kernel
theorem tv15 {τ : List Nat} {h : zh} (hg : hG τ h) : τ[15]? = some 15 := hg.1.2.2.1 _ _ atav15
def sw1000 : List qs := [.inr (.inl (1001, false)), .inr (.inl (1001, false))]
theorem aw1000 : atyp 1000 = some (.inr (9, sw1000)) := rfl
theorem atav16 : atau[16]? = some 1000 := by decide +kernel
theorem tv16 {τ : List Nat} {h : zh} (hg : hG τ h) : τ[16]? = some 1000 := hg.1.2.2.1 _ _ atav16
def sw1001 : List qs := [.inr (.inl (1002, false)), .inr (.inl (1003, false))]
theorem aw1001 : atyp 1001 = some (.inr (8, sw1001)) := rfl
theorem atav17 : atau[17]? = some 1001 := by decide +kernel
theorem tv17 {τ : List Nat} {h : zh} (hg : hG τ h) : τ[17]? = some 1001 := hg.1.2.2.1 _ _ atav17
def sw1002 : List qs := [.inr (.inl (1005, false)), .inl (0, 5)]
theorem aw1002 : atyp 1002 = some (.inr (6, sw1002)) := rfl
theorem atav18 : atau[18]? = some 1002 := by decide +kernel
theorem tv18 {τ : List Nat} {h : zh} (hg : hG τ h) : τ[18]? = some 1002 := hg.1.2.2.1 _ _ atav18
theorem aw1005 : atyp 1005 = some (.inl (0, 5, [(5, .inl ((-2147483648), 2147483647))])) := rfl
theorem atav19 : atau[19]? = some 1005 := by decide +kernel
theorem tv19 {τ : List Nat} {h : zh} (hg : hG τ h) : τ[19]? = some 1005 := hg.1.2.2.1 _ _ atav19
def sw1003 : List qs := [.inr (.inl (1006, false)), .inl (0, 6)]
theorem aw1003 : atyp 1003 = some (.inr (6, sw1003)) := rfl
theorem atav20 : atau[20]? = some 1003 := by decide +kernel
theorem tv20 {τ : List Nat} {h : zh} (hg : hG τ h) : τ[20]? = some 1003 := hg.1.2.2.1 _ _ atav20
theorem aw1006 : atyp 1006 = some (.inl (0, 6, [(6, .inl ((-2147483648), 2147483647))])) := rfl
theorem atav21 : atau[21]? = some 1006 := by decide +kernel
theorem tv21 {τ : List Nat} {h : zh} (hg : hG τ h) : τ[21]? = some 1006 := hg.1.2.2.1 _ _ atav21
theorem atav22 : atau[22]? = some 1001 := by decide +kernel
theorem tv22 {τ : List Nat} {h : zh} (hg : hG τ h) : τ[22]? = some 1001 := hg.1.2.2.1 _ _ atav22
theorem atav23 : atau[23]? = some 1002 := by decide +kernel
theorem tv23 {τ : List Nat} {h : zh} (hg : hG τ h) : τ[23]? = some 1002 := hg.1.2.2.1 _ _ atav23
theorem atav24 : atau[24]? = some 1005 := by decide +kernel
theorem tv24 {τ : List Nat} {h : zh} (hg : hG τ h) : τ[24]? = some 1005 := hg.1.2.2.1 _ _ atav24
theorem atav25 : atau[25]? = some 1003 := by decide +kernel
theorem tv25 {τ : List Nat} {h : zh} (hg : hG τ h) : τ[25]? = some 1003 := hg.1.2.2.1 _ _ atav25
theorem atav26 : atau[26]? = some 1006 := by decide +kernel
theorem tv26 {τ : List Nat} {h : zh} (hg : hG τ h) : τ[26]? = some 1006 := hg.1.2.2.1 _ _ atav26
theorem aw27 : atyp 27 = some (.inl (0, 200, [(200, .inl ((-2147483648), 2147483647))])) := rfl
theorem atav27 : atau[27]? = some 27 := by decide +kernel
theorem tv27 {τ : List Nat} {h : zh} (hg : hG τ h) : τ[27]? = some 27 := hg.1.2.2.1 _ _ atav27
theorem zO {τ : List Nat} {h : zh} {mj k9 A T ci : Nat} {ss : List qs} {args : List zv} (hg : hG τ h) (hA : τ[A]? = some T) (hT : atyp T = some (.inr (ci, ss))) (hc : Nat.beq ci 50 = false) : zargs (0, mj, ci, k9) (.inl (some A) :: args) h = true := by
  obtain ⟨fs, he, -⟩ := g_obj hg hA hT
  show (bif Nat.beq ci 50 then _ else (match nth h A with
    | some (.inr (c, _)) => Nat.beq c ci
    | _ => false)) = true
  rw [hc, nth_eq, he]
  exact Nat.beq_refl ci
theorem g_rU {τ : List Nat} {h : zh} {A T ci f T2 : Nat} {ss : List qs} (hg : hG τ h) (hA : τ[A]? = some T) (hT : atyp T = some (.inr (ci, ss))) (hq : ss[f]? = some (.inr (.inl (T2, false)))) (h2 : T2 < 1000) : hsl h A f = some (.inl (some T2)) := by
  obtain ⟨a, e1, e2, e3⟩ := g_ref (i := f) hg hA hT (List.getElem?_eq_some_iff.mp hq).1 hq
  have := e3 h2
  subst this
  exact e1
/-- the reader is at a place -/
def rdC (h : zh) (n a : Nat) (b : Nat → Int) : Prop := (∃ x : Int32, hsl h 15 2 = some (zi x) ∧ x.toInt = (n : Int)) ∧ (∃ x : Int32, hsl h 15 3 = some (zi x) ∧ x.toInt = (a : Int)) ∧ (∀ j, j < n → ∃ x : Int32, hsl h 27 j = some (zi x) ∧ x.toInt = b j) ∧ (n ≤ 200 ∧ ∃ x : Int32, hsl h 15 5 = some (zi x) ∧ x.toInt = -1)
theorem rdc_up {τ τ1 : List Nat} {h h1 : zh} {n a a' : Nat} {b : Nat → Int} (hg : hG τ h) (rd : rdC h n a b) (F : oF (fun k j => k ≠ 15 ∨ j ≠ 3) τ h τ1 h1) (e : ∃ x : Int32, hsl h1 15 3 = some (zi x) ∧ x.toInt = (a' : Int)) : rdC h1 n a' b := by
  obtain ⟨⟨xn, hn, en⟩, -, hb, hn2, w9, v9, u9⟩ := rd
  refine ⟨⟨xn, (F.2.2 15 15 2 (tv15 hg) (show 15 ≠ 15 ∨ 2 ≠ 3 by omega)).trans hn, en⟩, e, fun j hj => ?_, hn2, ⟨w9, (F.2.2 15 15 5 (tv15 hg) (show 15 ≠ 15 ∨ 5 ≠ 3 by omega)).trans v9, u9⟩⟩
  obtain ⟨x, e1, e2⟩ := hb j hj
  exact ⟨x, (F.2.2 27 27 j (tv27 hg) (show 27 ≠ 15 ∨ j ≠ 3 by omega)).trans e1, e2⟩
/-- what is wrong, and where -/
def flt (h : zh) (r : Int) (p : Nat) : Prop := (∃ x : Int32, hsl h 15 4 = some (zi x) ∧ x.toInt = r) ∧ ∃ x : Int32, hsl h 15 5 = some (zi x) ∧ x.toInt = (p : Int)
theorem bt_lt {b : Nat → Int} {n k : Nat} (h : k < n) : bt b n k = b k := by
  unfold bt
  rw [if_pos h]
theorem bt_ge {b : Nat → Int} {n k : Nat} (h : n ≤ k) : bt b n k = -1 := by
  unfold bt
  rw [if_neg (by omega)]
theorem mt_c {b : Nat → Int} {n a a' : Nat} {c : Int} {w : List Int} (h : bt b n a = c) (e : a' = a + 1) (m : mt b n w a' = true) : mt b n (c :: w) a = true := by
  subst e
  unfold mt
  rw [decide_eq_true h, m]
  rfl
theorem mt_n {b : Nat → Int} {n a : Nat} {c : Int} {w : List Int} (h : bt b n a ≠ c) : mt b n (c :: w) a = false := by
  unfold mt
  rw [decide_eq_false h]
  rfl
theorem mt_s {b : Nat → Int} {n a a' : Nat} {c : Int} {w : List Int} (e : a' = a + 1) (m : mt b n w a' = false) : mt b n (c :: w) a = false := by
  subst e
  unfold mt
  rw [m, Bool.and_false]
theorem sgn_y {b : Nat → Int} {n a : Nat} {w : List Int} (m : mt b n w (sk b n a) = true) : sgn b n w a = some (sk b n a + w.length) := by
  unfold sgn
  rw [if_pos m]
theorem sgn_n {b : Nat → Int} {n a : Nat} {w : List Int} (m : mt b n w (sk b n a) = false) : sgn b n w a = none := by
  unfold sgn
  rw [if_neg (by rw [m]; decide)]
theorem wrd_y {b : Nat → Int} {n a : Nat} {w : List Int} (m : mt b n w (sk b n a) = true) (h : ¬ sml (bt b n (sk b n a + w.length))) : wrd b n w a = some (sk b n a + w.length) := by
  unfold wrd
  rw [if_pos ⟨m, h⟩]
theorem wrd_n1 {b : Nat → Int} {n a : Nat} {w : List Int} (m : mt b n w (sk b n a) = false) : wrd b n w a = none := by
  unfold wrd
  rw [if_neg (by rw [m]; rintro ⟨h, -⟩; cases h)]
theorem wrd_n2 {b : Nat → Int} {n a : Nat} {w : List Int} (h : sml (bt b n (sk b n a + w.length))) : wrd b n w a = none := by
  unfold wrd
  rw [if_neg (fun q => q.2 h)]
theorem e_jmax {d t : Nat} {h : zh} {x z : Int32} : qI (d + 1) 266 [some (zi x), some (zi z)] h t (fun y h1 => h = h1 ∧ (x.toInt ≥ z.toInt → y.toInt = x.toInt) ∧ (z.toInt ≥ x.toInt → y.toInt = z.toInt)) := by
  refine qI_of ?_
  refine y_same (i := .iload_n 0) (len := 1) (r := (0, 0, 0, 0)) (pc' := 1) (ls' := [some (zi x), some (zi z)]) (st' := [zi x]) (by decide +kernel) (fun k q => by cases q) rfl ?_
  refine y_same (i := .iload_n 1) (len := 1) (r := (0, 0, 0, 0)) (pc' := 2) (ls' := [some (zi x), some (zi z)]) (st' := [zi z, zi x]) (by decide +kernel) (fun k q => by cases q) rfl ?_
  rcases Decidable.em (x.toInt < z.toInt) with q1 | q1
  ·
    refine y_cT (c := .lt) (off := 7) (pc' := 9) (len := 3) (r := (0, 0, 0, 0)) (by decide +kernel) (acmpT (c := .lt) (by show _ < _; omega)) (by decide +kernel) ?_
    refine y_same (i := .iload_n 1) (len := 1) (r := (0, 0, 0, 0)) (pc' := 10) (ls' := [some (zi x), some (zi z)]) (st' := [zi z]) (by decide +kernel) (fun k q => by cases q) rfl ?_
    refine y_rI (len := 1) (r := (0, 0, 0, 0)) (nL := 2) (k := 1) (n9 := 2) (hs := []) (by decide +kernel) rfl rfl ?_
    exact ⟨rfl, by omega, by omega⟩
  ·
    refine y_cF (c := .lt) (off := 7) (len := 3) (r := (0, 0, 0, 0)) (by decide +kernel) (acmpF (c := .lt) (by show _ ≤ _; omega)) ?_
    refine y_same (i := .iload_n 0) (len := 1) (r := (0, 0, 0, 0)) (pc' := 6) (ls' := [some (zi x), some (zi z)]) (st' := [zi x]) (by decide +kernel) (fun k q => by cases q) rfl ?_
    refine y_goto (off := 4) (pc' := 10) (len := 3) (r := (0, 0, 0, 0)) (by decide +kernel) (by decide +kernel) ?_
    refine y_rI (len := 1) (r := (0, 0, 0, 0)) (nL := 2) (k := 1) (n9 := 2) (hs := []) (by decide +kernel) rfl rfl ?_
    exact ⟨rfl, by omega, by omega⟩
theorem e_jmin {d t : Nat} {h : zh} {x z : Int32} : qI (d + 1) 267 [some (zi x), some (zi z)] h t (fun y h1 => h = h1 ∧ (x.toInt ≤ z.toInt → y.toInt = x.toInt) ∧ (z.toInt ≤ x.toInt → y.toInt = z.toInt)) := by
  refine qI_of ?_
  refine y_same (i := .iload_n 0) (len := 1) (r := (0, 0, 0, 0)) (pc' := 1) (ls' := [some (zi x), some (zi z)]) (st' := [zi x]) (by decide +kernel) (fun k q => by cases q) rfl ?_
  refine y_same (i := .iload_n 1) (len := 1) (r := (0, 0, 0, 0)) (pc' := 2) (ls' := [some (zi x), some (zi z)]) (st' := [zi z, zi x]) (by decide +kernel) (fun k q => by cases q) rfl ?_
  rcases Decidable.em (x.toInt > z.toInt) with q2 | q2
  ·
    refine y_cT (c := .gt) (off := 7) (pc' := 9) (len := 3) (r := (0, 0, 0, 0)) (by decide +kernel) (acmpT (c := .gt) (by show _ < _; omega)) (by decide +kernel) ?_
    refine y_same (i := .iload_n 1) (len := 1) (r := (0, 0, 0, 0)) (pc' := 10) (ls' := [some (zi x), some (zi z)]) (st' := [zi z]) (by decide +kernel) (fun k q => by cases q) rfl ?_
    refine y_rI (len := 1) (r := (0, 0, 0, 0)) (nL := 2) (k := 1) (n9 := 2) (hs := []) (by decide +kernel) rfl rfl ?_
    exact ⟨rfl, by omega, by omega⟩
  ·
    refine y_cF (c := .gt) (off := 7) (len := 3) (r := (0, 0, 0, 0)) (by decide +kernel) (acmpF (c := .gt) (by show _ ≤ _; omega)) ?_
    refine y_same (i := .iload_n 0) (len := 1) (r := (0, 0, 0, 0)) (pc' := 6) (ls' := [some (zi x), some (zi z)]) (st' := [zi x]) (by decide +kernel) (fun k q => by cases q) rfl ?_
    refine y_goto (off := 4) (pc' := 10) (len := 3) (r := (0, 0, 0, 0)) (by decide +kernel) (by decide +kernel) ?_
    refine y_rI (len := 1) (r := (0, 0, 0, 0)) (nL := 2) (k := 1) (n9 := 2) (hs := []) (by decide +kernel) rfl rfl ?_
    exact ⟨rfl, by omega, by omega⟩
theorem sb_l {t n : Nat} {b : Nat → Int} : ∀ (f : Nat) (τ : List Nat) (h : zh), hG τ h → ∀ a : Nat, rdC h n a b → a ≤ n → n ≤ a + f → qX 2 60 0 [some (.inl (some 15))] [] h t (rV (fun h1 => ∃ τ1, oF (fun k j => k ≠ 15 ∨ j ≠ 3) τ h τ1 h1 ∧ rdC h1 n (sk b n a) b) t) := by
  intro f
  induction f with
  | zero =>
    intro τ h hg a rd han hf
    obtain ⟨⟨xn, hn, en⟩, ⟨xa, ha, ea⟩, hb, hn2⟩ := id rd
    refine y_same (i := .aload_n 0) (len := 1) (r := (0, 0, 0, 0)) (pc' := 1) (ls' := [some (.inl (some 15))]) (st' := [.inl (some 15)]) (by decide +kernel) (fun k q => by cases q) rfl ?_
    refine y_get (j := 26) (len := 3) (r := (5, 3, 0, 243)) (by decide +kernel) hg (tv15 hg) aw15 rfl rfl ha ?_
    refine y_iF (c := .lt) (off := 41) (len := 3) (r := (0, 0, 0, 0)) (by decide +kernel) (acmpF (c := .lt) (by show _ ≤ _; omega)) ?_
    refine y_same (i := .aload_n 0) (len := 1) (r := (0, 0, 0, 0)) (pc' := 8) (ls' := [some (.inl (some 15))]) (st' := [.inl (some 15)]) (by decide +kernel) (fun k q => by cases q) rfl ?_
    refine y_get (j := 26) (len := 3) (r := (5, 3, 0, 243)) (by decide +kernel) hg (tv15 hg) aw15 rfl rfl ha ?_
    refine y_same (i := .aload_n 0) (len := 1) (r := (0, 0, 0, 0)) (pc' := 12) (ls' := [some (.inl (some 15))]) (st' := [.inl (some 15), zi xa]) (by decide +kernel) (fun k q => by cases q) rfl ?_
    refine y_get (j := 22) (len := 3) (r := (5, 2, 0, 242)) (by decide +kernel) hg (tv15 hg) aw15 rfl rfl hn ?_
    refine y_cT (c := .ge) (off := 30) (pc' := 45) (len := 3) (r := (0, 0, 0, 0)) (by decide +kernel) (acmpT (c := .ge) (by show _ ≤ _; omega)) (by decide +kernel) ?_
    refine y_rV (len := 1) (r := (0, 0, 0, 0)) (nL := 1) (n9 := 1) (hs := []) (by decide +kernel) rfl ?_
    refine ⟨τ, oF_refl hg, ?_⟩
    rw [sk_stop (by omega)]
    exact rd
  | succ f ih =>
    intro τ h hg a rd han hf
    obtain ⟨⟨xn, hn, en⟩, ⟨xa, ha, ea⟩, hb, hn2⟩ := id rd
    refine y_same (i := .aload_n 0) (len := 1) (r := (0, 0, 0, 0)) (pc' := 1) (ls' := [some (.inl (some 15))]) (st' := [.inl (some 15)]) (by decide +kernel) (fun k q => by cases q) rfl ?_
    refine y_get (j := 26) (len := 3) (r := (5, 3, 0, 243)) (by decide +kernel) hg (tv15 hg) aw15 rfl rfl ha ?_
    refine y_iF (c := .lt) (off := 41) (len := 3) (r := (0, 0, 0, 0)) (by decide +kernel) (acmpF (c := .lt) (by show _ ≤ _; omega)) ?_
    refine y_same (i := .aload_n 0) (len := 1) (r := (0, 0, 0, 0)) (pc' := 8) (ls' := [some (.inl (some 15))]) (st' := [.inl (some 15)]) (by decide +kernel) (fun k q => by cases q) rfl ?_
    refine y_get (j := 26) (len := 3) (r := (5, 3, 0, 243)) (by decide +kernel) hg (tv15 hg) aw15 rfl rfl ha ?_
    refine y_same (i := .aload_n 0) (len := 1) (r := (0, 0, 0, 0)) (pc' := 12) (ls' := [some (.inl (some 15))]) (st' := [.inl (some 15), zi xa]) (by decide +kernel) (fun k q => by cases q) rfl ?_
    refine y_get (j := 22) (len := 3) (r := (5, 2, 0, 242)) (by decide +kernel) hg (tv15 hg) aw15 rfl rfl hn ?_
    rcases Decidable.em (xa.toInt ≥ xn.toInt) with q3 | q3
    ·
      refine y_cT (c := .ge) (off := 30) (pc' := 45) (len := 3) (r := (0, 0, 0, 0)) (by decide +kernel) (acmpT (c := .ge) (by show _ ≤ _; omega)) (by decide +kernel) ?_
      refine y_rV (len := 1) (r := (0, 0, 0, 0)) (nL := 1) (n9 := 1) (hs := []) (by decide +kernel) rfl ?_
      refine ⟨τ, oF_refl hg, ?_⟩
      rw [sk_stop (by omega)]
      exact rd
    ·
      refine y_cF (c := .ge) (off := 30) (len := 3) (r := (0, 0, 0, 0)) (by decide +kernel) (acmpF (c := .ge) (by show _ < _; omega)) ?_
      refine y_same (i := .aload_n 0) (len := 1) (r := (0, 0, 0, 0)) (pc' := 19) (ls' := [some (.inl (some 15))]) (st' := [.inl (some 15)]) (by decide +kernel) (fun k q => by cases q) rfl ?_
      refine y_get (j := 18) (len := 3) (r := (5, 1, 2, 241)) (by decide +kernel) hg (tv15 hg) aw15 rfl rfl (g_rU (f := 1) (T2 := 27) hg (tv15 hg) aw15 rfl (by decide)) ?_
      refine y_same (i := .aload_n 0) (len := 1) (r := (0, 0, 0, 0)) (pc' := 23) (ls' := [some (.inl (some 15))]) (st' := [.inl (some 15), .inl (some 27)]) (by decide +kernel) (fun k q => by cases q) rfl ?_
      refine y_get (j := 26) (len := 3) (r := (5, 3, 0, 243)) (by decide +kernel) hg (tv15 hg) aw15 rfl rfl ha ?_
      obtain ⟨v4, hv5, ev4⟩ := hb a (by omega)
      refine y_ial (i := a) (len := 1) (r := (0, 0, 0, 0)) (by decide +kernel) hg (tv27 hg) aw27 (by omega) hv5 ?_
      refine y_bi (c := 32) (len := 2) (r := (0, 0, 0, 0)) (by decide +kernel) (by decide) (fun y6 hy6 => ?_)
      rcases Decidable.em (v4.toInt ≠ y6.toInt) with q7 | q7
      ·
        refine y_cT (c := .ne) (off := 16) (pc' := 45) (len := 3) (r := (0, 0, 0, 0)) (by decide +kernel) (acmpT (c := .ne) (by show ¬ (_ = _); omega)) (by decide +kernel) ?_
        refine y_rV (len := 1) (r := (0, 0, 0, 0)) (nL := 1) (n9 := 1) (hs := []) (by decide +kernel) rfl ?_
        refine ⟨τ, oF_refl hg, ?_⟩
        rw [sk_stop (by omega)]
        exact rd
      ·
        refine y_cF (c := .ne) (off := 16) (len := 3) (r := (0, 0, 0, 0)) (by decide +kernel) (acmpF (c := .ne) (by show _ = _; omega)) ?_
        refine y_same (i := .aload_n 0) (len := 1) (r := (0, 0, 0, 0)) (pc' := 33) (ls' := [some (.inl (some 15))]) (st' := [.inl (some 15)]) (by decide +kernel) (fun k q => by cases q) rfl ?_
        refine y_same (i := .dup) (len := 1) (r := (0, 0, 0, 0)) (pc' := 34) (ls' := [some (.inl (some 15))]) (st' := [.inl (some 15), .inl (some 15)]) (by decide +kernel) (fun k q => by cases q) rfl ?_
        refine y_get (j := 26) (len := 3) (r := (5, 3, 0, 243)) (by decide +kernel) hg (tv15 hg) aw15 rfl rfl ha ?_
        refine y_ic (c := 1) (len := 1) (r := (0, 0, 0, 0)) (by decide +kernel) (by decide) (fun y8 hy8 => ?_)
        refine y_add (len := 1) (r := (0, 0, 0, 0)) (by decide +kernel) (by omega) (by omega) (fun y9 hy9 => ?_)
        refine y_put (j := 26) (lo := (-2147483648)) (hi := 2147483647) (len := 3) (r := (5, 3, 0, 243)) (by decide +kernel) hg (tv15 hg) aw15 rfl rfl (by decide) rfl (qin_full _).1 (qin_full _).2 rfl (fun h10 hg10 hl10 hs10 ho10 => ?_)
        have ho10 : hO 15 3 h h10 := ho10
        have hs10 : hsl h10 15 3 = some (zi y9) := hs10
        refine y_goto (off := (-42)) (pc' := 0) (len := 3) (r := (0, 0, 0, 0)) (by decide +kernel) (by decide +kernel) ?_
        have F : oF (fun k j => k ≠ 15 ∨ j ≠ 3) τ h τ h10 := ⟨(aup_refl _), hg10, fun k T j hk (hC : k ≠ 15 ∨ j ≠ 3) => (ho10 k j (by omega))⟩
        refine qX_V (ih τ h10 hg10 (a + 1) (rdc_up hg rd F ⟨_, hs10, by omega⟩) (by omega) (by omega)) (fun h1 hR1 => ?_)
        obtain ⟨τ1, O1, r1⟩ := hR1
        refine ⟨τ1, oF_trans F O1, ?_⟩
        rw [sk_hit (by omega) (by omega)]
        exact r1
theorem e_skip {t n a : Nat} {b : Nat → Int} {τ : List Nat} {h : zh} (hg : hG τ h) (rd : rdC h n a b) (ha : a ≤ n) : qV 3 60 [some (.inl (some 15))] h t (fun h1 => ∃ τ1, oF (fun k j => k ≠ 15 ∨ j ≠ 3) τ h τ1 h1 ∧ rdC h1 n (sk b n a) b) := qV_of (sb_l n τ h hg a rd ha (by omega))
theorem cs_l {t n a : Nat} {b : Nat → Int} {τ : List Nat} {h : zh} (hg : hG τ h) (rd : rdC h n a b) (ha : a ≤ n) : ∀ (f e : Nat) (xe : Int32), xe.toInt = (e : Int) → a ≤ e → e ≤ n → n ≤ e + f → qX 2 59 9 [some (.inl (some 15)), some (zi xe)] [] h t (rI (fun y h1 => h = h1 ∧ y.toInt = ((e - a : Nat) : Int) + (cl b n e : Int)) t) := by
  intro f
  obtain ⟨⟨xn, hn, en⟩, ⟨xa, ha', ea⟩, hb, hn2⟩ := id rd
  have ha0 := ha
  have ha := ha'
  induction f with
  | zero =>
    intro e xe hxe hae hen hf
    refine y_same (i := .iload_n 1) (len := 1) (r := (0, 0, 0, 0)) (pc' := 10) (ls' := [some (.inl (some 15)), some (zi xe)]) (st' := [zi xe]) (by decide +kernel) (fun k q => by cases q) rfl ?_
    refine y_same (i := .aload_n 0) (len := 1) (r := (0, 0, 0, 0)) (pc' := 11) (ls' := [some (.inl (some 15)), some (zi xe)]) (st' := [.inl (some 15), zi xe]) (by decide +kernel) (fun k q => by cases q) rfl ?_
    refine y_get (j := 22) (len := 3) (r := (5, 2, 0, 242)) (by decide +kernel) hg (tv15 hg) aw15 rfl rfl hn ?_
    refine y_cT (c := .ge) (off := 31) (pc' := 45) (len := 3) (r := (0, 0, 0, 0)) (by decide +kernel) (acmpT (c := .ge) (by show _ ≤ _; omega)) (by decide +kernel) ?_
    refine y_same (i := .iload_n 1) (len := 1) (r := (0, 0, 0, 0)) (pc' := 46) (ls' := [some (.inl (some 15)), some (zi xe)]) (st' := [zi xe]) (by decide +kernel) (fun k q => by cases q) rfl ?_
    refine y_same (i := .aload_n 0) (len := 1) (r := (0, 0, 0, 0)) (pc' := 47) (ls' := [some (.inl (some 15)), some (zi xe)]) (st' := [.inl (some 15), zi xe]) (by decide +kernel) (fun k q => by cases q) rfl ?_
    refine y_get (j := 26) (len := 3) (r := (5, 3, 0, 243)) (by decide +kernel) hg (tv15 hg) aw15 rfl rfl ha ?_
    refine y_sub (len := 1) (r := (0, 0, 0, 0)) (by decide +kernel) (by omega) (by omega) (fun y13 hy13 => ?_)
    refine y_rI (len := 1) (r := (0, 0, 0, 0)) (nL := 2) (k := 1) (n9 := 1) (hs := []) (by decide +kernel) rfl rfl ?_
    have c1 : cl b n e = 0 := cl_no (by
      rcases Nat.lt_or_ge e n with q9 | q9
      · rw [bt_lt q9]
        unfold sml
        omega
      · rw [bt_ge q9]
        unfold sml
        omega)
    exact ⟨rfl, by omega⟩
  | succ f ih =>
    intro e xe hxe hae hen hf
    refine y_same (i := .iload_n 1) (len := 1) (r := (0, 0, 0, 0)) (pc' := 10) (ls' := [some (.inl (some 15)), some (zi xe)]) (st' := [zi xe]) (by decide +kernel) (fun k q => by cases q) rfl ?_
    refine y_same (i := .aload_n 0) (len := 1) (r := (0, 0, 0, 0)) (pc' := 11) (ls' := [some (.inl (some 15)), some (zi xe)]) (st' := [.inl (some 15), zi xe]) (by decide +kernel) (fun k q => by cases q) rfl ?_
    refine y_get (j := 22) (len := 3) (r := (5, 2, 0, 242)) (by decide +kernel) hg (tv15 hg) aw15 rfl rfl hn ?_
    rcases Decidable.em (xe.toInt ≥ xn.toInt) with q14 | q14
    ·
      refine y_cT (c := .ge) (off := 31) (pc' := 45) (len := 3) (r := (0, 0, 0, 0)) (by decide +kernel) (acmpT (c := .ge) (by show _ ≤ _; omega)) (by decide +kernel) ?_
      refine y_same (i := .iload_n 1) (len := 1) (r := (0, 0, 0, 0)) (pc' := 46) (ls' := [some (.inl (some 15)), some (zi xe)]) (st' := [zi xe]) (by decide +kernel) (fun k q => by cases q) rfl ?_
      refine y_same (i := .aload_n 0) (len := 1) (r := (0, 0, 0, 0)) (pc' := 47) (ls' := [some (.inl (some 15)), some (zi xe)]) (st' := [.inl (some 15), zi xe]) (by decide +kernel) (fun k q => by cases q) rfl ?_
      refine y_get (j := 26) (len := 3) (r := (5, 3, 0, 243)) (by decide +kernel) hg (tv15 hg) aw15 rfl rfl ha ?_
      refine y_sub (len := 1) (r := (0, 0, 0, 0)) (by decide +kernel) (by omega) (by omega) (fun y15 hy15 => ?_)
      refine y_rI (len := 1) (r := (0, 0, 0, 0)) (nL := 2) (k := 1) (n9 := 1) (hs := []) (by decide +kernel) rfl rfl ?_
      have c1 : cl b n e = 0 := cl_no (by
        rcases Nat.lt_or_ge e n with q9 | q9
        · rw [bt_lt q9]
          unfold sml
          omega
        · rw [bt_ge q9]
          unfold sml
          omega)
      exact ⟨rfl, by omega⟩
    ·
      refine y_cF (c := .ge) (off := 31) (len := 3) (r := (0, 0, 0, 0)) (by decide +kernel) (acmpF (c := .ge) (by show _ < _; omega)) ?_
      refine y_same (i := .aload_n 0) (len := 1) (r := (0, 0, 0, 0)) (pc' := 18) (ls' := [some (.inl (some 15)), some (zi xe)]) (st' := [.inl (some 15)]) (by decide +kernel) (fun k q => by cases q) rfl ?_
      refine y_get (j := 18) (len := 3) (r := (5, 1, 2, 241)) (by decide +kernel) hg (tv15 hg) aw15 rfl rfl (g_rU (f := 1) (T2 := 27) hg (tv15 hg) aw15 rfl (by decide)) ?_
      refine y_same (i := .iload_n 1) (len := 1) (r := (0, 0, 0, 0)) (pc' := 22) (ls' := [some (.inl (some 15)), some (zi xe)]) (st' := [zi xe, .inl (some 27)]) (by decide +kernel) (fun k q => by cases q) rfl ?_
      obtain ⟨v16, hv17, ev16⟩ := hb e (by omega)
      refine y_ial (i := e) (len := 1) (r := (0, 0, 0, 0)) (by decide +kernel) hg (tv27 hg) aw27 (by omega) hv17 ?_
      refine y_bi (c := 97) (len := 2) (r := (0, 0, 0, 0)) (by decide +kernel) (by decide) (fun y18 hy18 => ?_)
      rcases Decidable.em (v16.toInt < y18.toInt) with q19 | q19
      ·
        refine y_cT (c := .lt) (off := 20) (pc' := 45) (len := 3) (r := (0, 0, 0, 0)) (by decide +kernel) (acmpT (c := .lt) (by show _ < _; omega)) (by decide +kernel) ?_
        refine y_same (i := .iload_n 1) (len := 1) (r := (0, 0, 0, 0)) (pc' := 46) (ls' := [some (.inl (some 15)), some (zi xe)]) (st' := [zi xe]) (by decide +kernel) (fun k q => by cases q) rfl ?_
        refine y_same (i := .aload_n 0) (len := 1) (r := (0, 0, 0, 0)) (pc' := 47) (ls' := [some (.inl (some 15)), some (zi xe)]) (st' := [.inl (some 15), zi xe]) (by decide +kernel) (fun k q => by cases q) rfl ?_
        refine y_get (j := 26) (len := 3) (r := (5, 3, 0, 243)) (by decide +kernel) hg (tv15 hg) aw15 rfl rfl ha ?_
        refine y_sub (len := 1) (r := (0, 0, 0, 0)) (by decide +kernel) (by omega) (by omega) (fun y20 hy20 => ?_)
        refine y_rI (len := 1) (r := (0, 0, 0, 0)) (nL := 2) (k := 1) (n9 := 1) (hs := []) (by decide +kernel) rfl rfl ?_
        have c1 : cl b n e = 0 := cl_no (by
          rcases Nat.lt_or_ge e n with q9 | q9
          · rw [bt_lt q9]
            unfold sml
            omega
          · rw [bt_ge q9]
            unfold sml
            omega)
        exact ⟨rfl, by omega⟩
      ·
        refine y_cF (c := .lt) (off := 20) (len := 3) (r := (0, 0, 0, 0)) (by decide +kernel) (acmpF (c := .lt) (by show _ ≤ _; omega)) ?_
        refine y_same (i := .aload_n 0) (len := 1) (r := (0, 0, 0, 0)) (pc' := 29) (ls' := [some (.inl (some 15)), some (zi xe)]) (st' := [.inl (some 15)]) (by decide +kernel) (fun k q => by cases q) rfl ?_
        refine y_get (j := 18) (len := 3) (r := (5, 1, 2, 241)) (by decide +kernel) hg (tv15 hg) aw15 rfl rfl (g_rU (f := 1) (T2 := 27) hg (tv15 hg) aw15 rfl (by decide)) ?_
        refine y_same (i := .iload_n 1) (len := 1) (r := (0, 0, 0, 0)) (pc' := 33) (ls' := [some (.inl (some 15)), some (zi xe)]) (st' := [zi xe, .inl (some 27)]) (by decide +kernel) (fun k q => by cases q) rfl ?_
        refine y_ial (i := e) (len := 1) (r := (0, 0, 0, 0)) (by decide +kernel) hg (tv27 hg) aw27 (by omega) hv17 ?_
        refine y_bi (c := 122) (len := 2) (r := (0, 0, 0, 0)) (by decide +kernel) (by decide) (fun y21 hy21 => ?_)
        rcases Decidable.em (v16.toInt > y21.toInt) with q22 | q22
        ·
          refine y_cT (c := .gt) (off := 9) (pc' := 45) (len := 3) (r := (0, 0, 0, 0)) (by decide +kernel) (acmpT (c := .gt) (by show _ < _; omega)) (by decide +kernel) ?_
          refine y_same (i := .iload_n 1) (len := 1) (r := (0, 0, 0, 0)) (pc' := 46) (ls' := [some (.inl (some 15)), some (zi xe)]) (st' := [zi xe]) (by decide +kernel) (fun k q => by cases q) rfl ?_
          refine y_same (i := .aload_n 0) (len := 1) (r := (0, 0, 0, 0)) (pc' := 47) (ls' := [some (.inl (some 15)), some (zi xe)]) (st' := [.inl (some 15), zi xe]) (by decide +kernel) (fun k q => by cases q) rfl ?_
          refine y_get (j := 26) (len := 3) (r := (5, 3, 0, 243)) (by decide +kernel) hg (tv15 hg) aw15 rfl rfl ha ?_
          refine y_sub (len := 1) (r := (0, 0, 0, 0)) (by decide +kernel) (by omega) (by omega) (fun y23 hy23 => ?_)
          refine y_rI (len := 1) (r := (0, 0, 0, 0)) (nL := 2) (k := 1) (n9 := 1) (hs := []) (by decide +kernel) rfl rfl ?_
          have c1 : cl b n e = 0 := cl_no (by
            rcases Nat.lt_or_ge e n with q9 | q9
            · rw [bt_lt q9]
              unfold sml
              omega
            · rw [bt_ge q9]
              unfold sml
              omega)
          exact ⟨rfl, by omega⟩
        ·
          refine y_cF (c := .gt) (off := 9) (len := 3) (r := (0, 0, 0, 0)) (by decide +kernel) (acmpF (c := .gt) (by show _ ≤ _; omega)) ?_
          refine y_inc (j := 1) (a := xe) (c := 1) (ls' := fun v => [some (.inl (some 15)), some v]) (len := 3) (r := (0, 0, 0, 0)) (by decide +kernel) rfl (fun _ => rfl) (by decide) (by omega) (by omega) (fun y24 hy24 => ?_)
          show qX 2 59 42 [some (.inl (some 15)), some (zi y24)] [] h t _
          refine y_goto (off := (-33)) (pc' := 9) (len := 3) (r := (0, 0, 0, 0)) (by decide +kernel) (by decide +kernel) ?_
          refine qX_I (ih (e + 1) y24 (by omega) (by omega) (by omega) (by omega)) (fun y h1 hR1 => ⟨hR1.1, ?_⟩)
          have c1 := (cl_hit (b := b) (n := n) (a := e) (by rw [bt_lt (by omega)]; exact ⟨by omega, by omega⟩)).2
          have c2 := hR1.2
          omega
theorem e_count {t n a : Nat} {b : Nat → Int} {τ : List Nat} {h : zh} (hg : hG τ h) (rd : rdC h n a b) (han : a ≤ n) : qI 3 59 [some (.inl (some 15)), none] h t (fun y h1 => h = h1 ∧ y.toInt = (cl b n a : Int)) := by
  obtain ⟨⟨xn, hn, en⟩, ⟨xa, ha, ea⟩, hb, hn2⟩ := id rd
  refine qI_of ?_
  refine y_ic (c := 0) (len := 1) (r := (0, 0, 0, 0)) (by decide +kernel) (by decide) (fun y11 hy11 => ?_)
  refine y_same (i := .aload_n 0) (len := 1) (r := (0, 0, 0, 0)) (pc' := 2) (ls' := [some (.inl (some 15)), none]) (st' := [.inl (some 15), zi y11]) (by decide +kernel) (fun k q => by cases q) rfl ?_
  refine y_get (j := 26) (len := 3) (r := (5, 3, 0, 243)) (by decide +kernel) hg (tv15 hg) aw15 rfl rfl ha ?_
  refine y_cI (i := .invokestatic 41) (len := 3) (r := (1, 266, 60, 928)) (nL := 2) (k := 1) (n := 2) (hs := []) (args := [zi y11, zi xa]) (rest := []) (l0 := [some (zi y11), some (zi xa)]) (by decide +kernel) (Or.inl ⟨_, rfl⟩) rfl rfl rfl rfl (Nat.le_of_ble_eq_true rfl) rfl rfl (e_jmax) (fun y12 qy12 hRy12 => ?_)
  obtain ⟨rfl, hy12⟩ := hRy12
  refine y_same (i := .istore_n 1) (len := 1) (r := (0, 0, 0, 0)) (pc' := 9) (ls' := [some (.inl (some 15)), some (zi y12)]) (st' := []) (by decide +kernel) (fun k q => by cases q) rfl ?_
  refine qX_I (cs_l hg rd han n a y12 (by omega) (by omega) (by omega) (by omega)) (fun y h1 hR1 => ⟨hR1.1, ?_⟩)
  have := hR1.2
  omega
theorem e_sign0 {t n a : Nat} {b : Nat → Int} {τ : List Nat} {h : zh} (hg : hG τ h) (rd : rdC h n a b) (han : a ≤ n) : qI 8 57 [some (.inl (some 15)), some (.inl (some 2000000)), none, none] h t (fun y h1 => ∃ τ1, oF (fun k j => k ≠ 15 ∨ j ≠ 3) τ h τ1 h1 ∧ ((∃ a', sgn b n [101, 109, 112] a = some a' ∧ a' ≤ n ∧ y.toInt = 1 ∧ rdC h1 n a' b) ∨ (sgn b n [101, 109, 112] a = none ∧ y.toInt = 0 ∧ rdC h1 n (sk b n a) b))) := by
  obtain ⟨⟨xn, hn, en⟩, ⟨xa, ha, ea⟩, hb, hn2⟩ := id rd
  refine qI_of ?_
  refine y_same (i := .aload_n 0) (len := 1) (r := (0, 0, 0, 0)) (pc' := 1) (ls' := [some (.inl (some 15)), some (.inl (some 2000000)), none, none]) (st' := [.inl (some 15)]) (by decide +kernel) (fun k q => by cases q) rfl ?_
  refine y_cV (i := .invokevirtual 89) (len := 3) (r := (0, 60, 5, 947)) (nL := 1) (k := 0) (n := 1) (hs := []) (args := [.inl (some 15)]) (rest := []) (l0 := [some (.inl (some 15))]) (by decide +kernel) (Or.inr (Or.inl ⟨_, rfl⟩)) rfl rfl rfl rfl (Nat.le_of_ble_eq_true rfl) (zO hg (tv15 hg) aw15 rfl) rfl (qV_le (by decide) (e_skip hg rd (by omega))) (fun h25 hR25 => ?_)
  obtain ⟨τ25, O25, rd25⟩ := hR25
  obtain ⟨⟨xn25, hn25, en25⟩, ⟨xa25, ha25, ea25⟩, hb25, -⟩ := id rd25
  have sl25 := sk_le (b := b) (n := n) (a := a) (by omega)
  refine y_ic (c := 0) (len := 1) (r := (0, 0, 0, 0)) (by decide +kernel) (by decide) (fun y26 hy26 => ?_)
  refine y_same (i := .istore_n 2) (len := 1) (r := (0, 0, 0, 0)) (pc' := 6) (ls' := [some (.inl (some 15)), some (.inl (some 2000000)), some (zi y26), none]) (st' := []) (by decide +kernel) (fun k q => by cases q) rfl ?_
  refine y_same (i := .iload_n 2) (len := 1) (r := (0, 0, 0, 0)) (pc' := 7) (ls' := [some (.inl (some 15)), some (.inl (some 2000000)), some (zi y26), none]) (st' := [zi y26]) (by decide +kernel) (fun k q => by cases q) rfl ?_
  refine y_same (i := .aload_n 1) (len := 1) (r := (0, 0, 0, 0)) (pc' := 8) (ls' := [some (.inl (some 15)), some (.inl (some 2000000)), some (zi y26), none]) (st' := [.inl (some 2000000), zi y26]) (by decide +kernel) (fun k q => by cases q) rfl ?_
  refine y_cI (i := .invokevirtual 158) (len := 3) (r := (0, 268, 50, 955)) (nL := 1) (k := 1) (n := 1) (hs := []) (args := [.inl (some 2000000)]) (rest := [zi y26]) (l0 := [some (.inl (some 2000000))]) (by decide +kernel) (Or.inr (Or.inl ⟨_, rfl⟩)) rfl rfl rfl rfl (Nat.le_of_ble_eq_true rfl) rfl rfl (qI_le (by decide) tln0) (fun y27 qy27 hRy27 => ?_)
  obtain ⟨rfl, hy27⟩ := hRy27
  refine y_cF (c := .ge) (off := 44) (len := 3) (r := (0, 0, 0, 0)) (by decide +kernel) (acmpF (c := .ge) (by show _ < _; omega)) ?_
  refine y_same (i := .aload_n 0) (len := 1) (r := (0, 0, 0, 0)) (pc' := 15) (ls' := [some (.inl (some 15)), some (.inl (some 2000000)), some (zi y26), none]) (st' := [.inl (some 15)]) (by decide +kernel) (fun k q => by cases q) rfl ?_
  refine y_get (j := 26) (len := 3) (r := (5, 3, 0, 243)) (by decide +kernel) O25.2.1 (tv15 O25.2.1) aw15 rfl rfl ha25 ?_
  refine y_same (i := .iload_n 2) (len := 1) (r := (0, 0, 0, 0)) (pc' := 19) (ls' := [some (.inl (some 15)), some (.inl (some 2000000)), some (zi y26), none]) (st' := [zi y26, zi xa25]) (by decide +kernel) (fun k q => by cases q) rfl ?_
  refine y_add (len := 1) (r := (0, 0, 0, 0)) (by decide +kernel) (by omega) (by omega) (fun y28 hy28 => ?_)
  refine y_same (i := .istore_n 3) (len := 1) (r := (0, 0, 0, 0)) (pc' := 21) (ls' := [some (.inl (some 15)), some (.inl (some 2000000)), some (zi y26), some (zi y28)]) (st' := []) (by decide +kernel) (fun k q => by cases q) rfl ?_
  refine y_same (i := .iload_n 3) (len := 1) (r := (0, 0, 0, 0)) (pc' := 22) (ls' := [some (.inl (some 15)), some (.inl (some 2000000)), some (zi y26), some (zi y28)]) (st' := [zi y28]) (by decide +kernel) (fun k q => by cases q) rfl ?_
  refine y_iF (c := .lt) (off := 25) (len := 3) (r := (0, 0, 0, 0)) (by decide +kernel) (acmpF (c := .lt) (by show _ ≤ _; omega)) ?_
  refine y_same (i := .iload_n 3) (len := 1) (r := (0, 0, 0, 0)) (pc' := 26) (ls' := [some (.inl (some 15)), some (.inl (some 2000000)), some (zi y26), some (zi y28)]) (st' := [zi y28]) (by decide +kernel) (fun k q => by cases q) rfl ?_
  refine y_same (i := .aload_n 0) (len := 1) (r := (0, 0, 0, 0)) (pc' := 27) (ls' := [some (.inl (some 15)), some (.inl (some 2000000)), some (zi y26), some (zi y28)]) (st' := [.inl (some 15), zi y28]) (by decide +kernel) (fun k q => by cases q) rfl ?_
  refine y_get (j := 22) (len := 3) (r := (5, 2, 0, 242)) (by decide +kernel) O25.2.1 (tv15 O25.2.1) aw15 rfl rfl hn25 ?_
  rcases Decidable.em (y28.toInt ≥ xn25.toInt) with q29 | q29
  ·
    refine y_cT (c := .ge) (off := 17) (pc' := 47) (len := 3) (r := (0, 0, 0, 0)) (by decide +kernel) (acmpT (c := .ge) (by show _ ≤ _; omega)) (by decide +kernel) ?_
    refine y_ic (c := 0) (len := 1) (r := (0, 0, 0, 0)) (by decide +kernel) (by decide) (fun y30 hy30 => ?_)
    refine y_rI (len := 1) (r := (0, 0, 0, 0)) (nL := 4) (k := 2) (n9 := 2) (hs := []) (by decide +kernel) rfl (zfit_b (by omega) (by omega)).2 ?_
    exact ⟨_, ⟨O25.1, O25.2.1, fun k T j hk (hC : k ≠ 15 ∨ j ≠ 3) => (O25.2.2 k T j hk (show k ≠ 15 ∨ j ≠ 3 by omega))⟩, Or.inr ⟨sgn_n (mt_n (by rw [bt_ge (by omega)]; decide)), by omega, rd25⟩⟩
  ·
    refine y_cF (c := .ge) (off := 17) (len := 3) (r := (0, 0, 0, 0)) (by decide +kernel) (acmpF (c := .ge) (by show _ < _; omega)) ?_
    refine y_same (i := .aload_n 0) (len := 1) (r := (0, 0, 0, 0)) (pc' := 34) (ls' := [some (.inl (some 15)), some (.inl (some 2000000)), some (zi y26), some (zi y28)]) (st' := [.inl (some 15)]) (by decide +kernel) (fun k q => by cases q) rfl ?_
    refine y_get (j := 18) (len := 3) (r := (5, 1, 2, 241)) (by decide +kernel) O25.2.1 (tv15 O25.2.1) aw15 rfl rfl (g_rU (f := 1) (T2 := 27) O25.2.1 (tv15 O25.2.1) aw15 rfl (by decide)) ?_
    refine y_same (i := .iload_n 3) (len := 1) (r := (0, 0, 0, 0)) (pc' := 38) (ls' := [some (.inl (some 15)), some (.inl (some 2000000)), some (zi y26), some (zi y28)]) (st' := [zi y28, .inl (some 27)]) (by decide +kernel) (fun k q => by cases q) rfl ?_
    obtain ⟨v31, hv32, ev31⟩ := hb25 (sk b n a) (by omega)
    refine y_ial (i := (sk b n a)) (len := 1) (r := (0, 0, 0, 0)) (by decide +kernel) O25.2.1 (tv27 O25.2.1) aw27 (by omega) hv32 ?_
    refine y_same (i := .aload_n 1) (len := 1) (r := (0, 0, 0, 0)) (pc' := 40) (ls' := [some (.inl (some 15)), some (.inl (some 2000000)), some (zi y26), some (zi y28)]) (st' := [.inl (some 2000000), zi v31]) (by decide +kernel) (fun k q => by cases q) rfl ?_
    refine y_same (i := .iload_n 2) (len := 1) (r := (0, 0, 0, 0)) (pc' := 41) (ls' := [some (.inl (some 15)), some (.inl (some 2000000)), some (zi y26), some (zi y28)]) (st' := [zi y26, .inl (some 2000000), zi v31]) (by decide +kernel) (fun k q => by cases q) rfl ?_
    refine y_cI (i := .invokevirtual 162) (len := 3) (r := (0, 269, 50, 969)) (nL := 2) (k := 5) (n := 2) (hs := []) (args := [.inl (some 2000000), zi y26]) (rest := [zi v31]) (l0 := [some (.inl (some 2000000)), some (zi y26)]) (by decide +kernel) (Or.inr (Or.inl ⟨_, rfl⟩)) rfl rfl rfl rfl (Nat.le_of_ble_eq_true rfl) rfl rfl (qI_le (by decide) (tch0_0 (by omega))) (fun y33 qy33 hRy33 => ?_)
    obtain ⟨rfl, hy33⟩ := hRy33
    rcases Decidable.em (v31.toInt = y33.toInt) with q34 | q34
    ·
      have m0 : bt b n (sk b n a) = 101 := by rw [bt_lt (by omega)]; omega
      refine y_cT (c := .eq) (off := 5) (pc' := 49) (len := 3) (r := (0, 0, 0, 0)) (by decide +kernel) (acmpT (c := .eq) (by show _ = _; omega)) (by decide +kernel) ?_
      refine y_inc (j := 2) (a := y26) (c := 1) (ls' := fun v => [some (.inl (some 15)), some (.inl (some 2000000)), some v, some (zi y28)]) (len := 3) (r := (0, 0, 0, 0)) (by decide +kernel) rfl (fun _ => rfl) (by decide) (by omega) (by omega) (fun y36 hy36 => ?_)
      show qX 7 57 52 [some (.inl (some 15)), some (.inl (some 2000000)), some (zi y36), some (zi y28)] [] h25 t _
      refine y_goto (off := (-46)) (pc' := 6) (len := 3) (r := (0, 0, 0, 0)) (by decide +kernel) (by decide +kernel) ?_
      refine y_same (i := .iload_n 2) (len := 1) (r := (0, 0, 0, 0)) (pc' := 7) (ls' := [some (.inl (some 15)), some (.inl (some 2000000)), some (zi y36), some (zi y28)]) (st' := [zi y36]) (by decide +kernel) (fun k q => by cases q) rfl ?_
      refine y_same (i := .aload_n 1) (len := 1) (r := (0, 0, 0, 0)) (pc' := 8) (ls' := [some (.inl (some 15)), some (.inl (some 2000000)), some (zi y36), some (zi y28)]) (st' := [.inl (some 2000000), zi y36]) (by decide +kernel) (fun k q => by cases q) rfl ?_
      refine y_cI (i := .invokevirtual 158) (len := 3) (r := (0, 268, 50, 955)) (nL := 1) (k := 1) (n := 1) (hs := []) (args := [.inl (some 2000000)]) (rest := [zi y36]) (l0 := [some (.inl (some 2000000))]) (by decide +kernel) (Or.inr (Or.inl ⟨_, rfl⟩)) rfl rfl rfl rfl (Nat.le_of_ble_eq_true rfl) rfl rfl (qI_le (by decide) tln0) (fun y37 qy37 hRy37 => ?_)
      obtain ⟨rfl, hy37⟩ := hRy37
      refine y_cF (c := .ge) (off := 44) (len := 3) (r := (0, 0, 0, 0)) (by decide +kernel) (acmpF (c := .ge) (by show _ < _; omega)) ?_
      refine y_same (i := .aload_n 0) (len := 1) (r := (0, 0, 0, 0)) (pc' := 15) (ls' := [some (.inl (some 15)), some (.inl (some 2000000)), some (zi y36), some (zi y28)]) (st' := [.inl (some 15)]) (by decide +kernel) (fun k q => by cases q) rfl ?_
      refine y_get (j := 26) (len := 3) (r := (5, 3, 0, 243)) (by decide +kernel) O25.2.1 (tv15 O25.2.1) aw15 rfl rfl ha25 ?_
      refine y_same (i := .iload_n 2) (len := 1) (r := (0, 0, 0, 0)) (pc' := 19) (ls' := [some (.inl (some 15)), some (.inl (some 2000000)), some (zi y36), some (zi y28)]) (st' := [zi y36, zi xa25]) (by decide +kernel) (fun k q => by cases q) rfl ?_
      refine y_add (len := 1) (r := (0, 0, 0, 0)) (by decide +kernel) (by omega) (by omega) (fun y38 hy38 => ?_)
      refine y_same (i := .istore_n 3) (len := 1) (r := (0, 0, 0, 0)) (pc' := 21) (ls' := [some (.inl (some 15)), some (.inl (some 2000000)), some (zi y36), some (zi y38)]) (st' := []) (by decide +kernel) (fun k q => by cases q) rfl ?_
      refine y_same (i := .iload_n 3) (len := 1) (r := (0, 0, 0, 0)) (pc' := 22) (ls' := [some (.inl (some 15)), some (.inl (some 2000000)), some (zi y36), some (zi y38)]) (st' := [zi y38]) (by decide +kernel) (fun k q => by cases q) rfl ?_
      refine y_iF (c := .lt) (off := 25) (len := 3) (r := (0, 0, 0, 0)) (by decide +kernel) (acmpF (c := .lt) (by show _ ≤ _; omega)) ?_
      refine y_same (i := .iload_n 3) (len := 1) (r := (0, 0, 0, 0)) (pc' := 26) (ls' := [some (.inl (some 15)), some (.inl (some 2000000)), some (zi y36), some (zi y38)]) (st' := [zi y38]) (by decide +kernel) (fun k q => by cases q) rfl ?_
      refine y_same (i := .aload_n 0) (len := 1) (r := (0, 0, 0, 0)) (pc' := 27) (ls' := [some (.inl (some 15)), some (.inl (some 2000000)), some (zi y36), some (zi y38)]) (st' := [.inl (some 15), zi y38]) (by decide +kernel) (fun k q => by cases q) rfl ?_
      refine y_get (j := 22) (len := 3) (r := (5, 2, 0, 242)) (by decide +kernel) O25.2.1 (tv15 O25.2.1) aw15 rfl rfl hn25 ?_
      rcases Decidable.em (y38.toInt ≥ xn25.toInt) with q39 | q39
      ·
        refine y_cT (c := .ge) (off := 17) (pc' := 47) (len := 3) (r := (0, 0, 0, 0)) (by decide +kernel) (acmpT (c := .ge) (by show _ ≤ _; omega)) (by decide +kernel) ?_
        refine y_ic (c := 0) (len := 1) (r := (0, 0, 0, 0)) (by decide +kernel) (by decide) (fun y40 hy40 => ?_)
        refine y_rI (len := 1) (r := (0, 0, 0, 0)) (nL := 4) (k := 2) (n9 := 2) (hs := []) (by decide +kernel) rfl (zfit_b (by omega) (by omega)).2 ?_
        exact ⟨_, ⟨O25.1, O25.2.1, fun k T j hk (hC : k ≠ 15 ∨ j ≠ 3) => (O25.2.2 k T j hk (show k ≠ 15 ∨ j ≠ 3 by omega))⟩, Or.inr ⟨sgn_n (mt_s (a' := sk b n a + 1) (by omega) (mt_n (by rw [bt_ge (by omega)]; decide))), by omega, rd25⟩⟩
      ·
        refine y_cF (c := .ge) (off := 17) (len := 3) (r := (0, 0, 0, 0)) (by decide +kernel) (acmpF (c := .ge) (by show _ < _; omega)) ?_
        refine y_same (i := .aload_n 0) (len := 1) (r := (0, 0, 0, 0)) (pc' := 34) (ls' := [some (.inl (some 15)), some (.inl (some 2000000)), some (zi y36), some (zi y38)]) (st' := [.inl (some 15)]) (by decide +kernel) (fun k q => by cases q) rfl ?_
        refine y_get (j := 18) (len := 3) (r := (5, 1, 2, 241)) (by decide +kernel) O25.2.1 (tv15 O25.2.1) aw15 rfl rfl (g_rU (f := 1) (T2 := 27) O25.2.1 (tv15 O25.2.1) aw15 rfl (by decide)) ?_
        refine y_same (i := .iload_n 3) (len := 1) (r := (0, 0, 0, 0)) (pc' := 38) (ls' := [some (.inl (some 15)), some (.inl (some 2000000)), some (zi y36), some (zi y38)]) (st' := [zi y38, .inl (some 27)]) (by decide +kernel) (fun k q => by cases q) rfl ?_
        obtain ⟨v41, hv42, ev41⟩ := hb25 (sk b n a + 1) (by omega)
        refine y_ial (i := (sk b n a + 1)) (len := 1) (r := (0, 0, 0, 0)) (by decide +kernel) O25.2.1 (tv27 O25.2.1) aw27 (by omega) hv42 ?_
        refine y_same (i := .aload_n 1) (len := 1) (r := (0, 0, 0, 0)) (pc' := 40) (ls' := [some (.inl (some 15)), some (.inl (some 2000000)), some (zi y36), some (zi y38)]) (st' := [.inl (some 2000000), zi v41]) (by decide +kernel) (fun k q => by cases q) rfl ?_
        refine y_same (i := .iload_n 2) (len := 1) (r := (0, 0, 0, 0)) (pc' := 41) (ls' := [some (.inl (some 15)), some (.inl (some 2000000)), some (zi y36), some (zi y38)]) (st' := [zi y36, .inl (some 2000000), zi v41]) (by decide +kernel) (fun k q => by cases q) rfl ?_
        refine y_cI (i := .invokevirtual 162) (len := 3) (r := (0, 269, 50, 969)) (nL := 2) (k := 5) (n := 2) (hs := []) (args := [.inl (some 2000000), zi y36]) (rest := [zi v41]) (l0 := [some (.inl (some 2000000)), some (zi y36)]) (by decide +kernel) (Or.inr (Or.inl ⟨_, rfl⟩)) rfl rfl rfl rfl (Nat.le_of_ble_eq_true rfl) rfl rfl (qI_le (by decide) (tch0_1 (by omega))) (fun y43 qy43 hRy43 => ?_)
        obtain ⟨rfl, hy43⟩ := hRy43
        rcases Decidable.em (v41.toInt = y43.toInt) with q44 | q44
        ·
          have m1 : bt b n (sk b n a + 1) = 109 := by rw [bt_lt (by omega)]; omega
          refine y_cT (c := .eq) (off := 5) (pc' := 49) (len := 3) (r := (0, 0, 0, 0)) (by decide +kernel) (acmpT (c := .eq) (by show _ = _; omega)) (by decide +kernel) ?_
          refine y_inc (j := 2) (a := y36) (c := 1) (ls' := fun v => [some (.inl (some 15)), some (.inl (some 2000000)), some v, some (zi y38)]) (len := 3) (r := (0, 0, 0, 0)) (by decide +kernel) rfl (fun _ => rfl) (by decide) (by omega) (by omega) (fun y46 hy46 => ?_)
          show qX 7 57 52 [some (.inl (some 15)), some (.inl (some 2000000)), some (zi y46), some (zi y38)] [] h25 t _
          refine y_goto (off := (-46)) (pc' := 6) (len := 3) (r := (0, 0, 0, 0)) (by decide +kernel) (by decide +kernel) ?_
          refine y_same (i := .iload_n 2) (len := 1) (r := (0, 0, 0, 0)) (pc' := 7) (ls' := [some (.inl (some 15)), some (.inl (some 2000000)), some (zi y46), some (zi y38)]) (st' := [zi y46]) (by decide +kernel) (fun k q => by cases q) rfl ?_
          refine y_same (i := .aload_n 1) (len := 1) (r := (0, 0, 0, 0)) (pc' := 8) (ls' := [some (.inl (some 15)), some (.inl (some 2000000)), some (zi y46), some (zi y38)]) (st' := [.inl (some 2000000), zi y46]) (by decide +kernel) (fun k q => by cases q) rfl ?_
          refine y_cI (i := .invokevirtual 158) (len := 3) (r := (0, 268, 50, 955)) (nL := 1) (k := 1) (n := 1) (hs := []) (args := [.inl (some 2000000)]) (rest := [zi y46]) (l0 := [some (.inl (some 2000000))]) (by decide +kernel) (Or.inr (Or.inl ⟨_, rfl⟩)) rfl rfl rfl rfl (Nat.le_of_ble_eq_true rfl) rfl rfl (qI_le (by decide) tln0) (fun y47 qy47 hRy47 => ?_)
          obtain ⟨rfl, hy47⟩ := hRy47
          refine y_cF (c := .ge) (off := 44) (len := 3) (r := (0, 0, 0, 0)) (by decide +kernel) (acmpF (c := .ge) (by show _ < _; omega)) ?_
          refine y_same (i := .aload_n 0) (len := 1) (r := (0, 0, 0, 0)) (pc' := 15) (ls' := [some (.inl (some 15)), some (.inl (some 2000000)), some (zi y46), some (zi y38)]) (st' := [.inl (some 15)]) (by decide +kernel) (fun k q => by cases q) rfl ?_
          refine y_get (j := 26) (len := 3) (r := (5, 3, 0, 243)) (by decide +kernel) O25.2.1 (tv15 O25.2.1) aw15 rfl rfl ha25 ?_
          refine y_same (i := .iload_n 2) (len := 1) (r := (0, 0, 0, 0)) (pc' := 19) (ls' := [some (.inl (some 15)), some (.inl (some 2000000)), some (zi y46), some (zi y38)]) (st' := [zi y46, zi xa25]) (by decide +kernel) (fun k q => by cases q) rfl ?_
          refine y_add (len := 1) (r := (0, 0, 0, 0)) (by decide +kernel) (by omega) (by omega) (fun y48 hy48 => ?_)
          refine y_same (i := .istore_n 3) (len := 1) (r := (0, 0, 0, 0)) (pc' := 21) (ls' := [some (.inl (some 15)), some (.inl (some 2000000)), some (zi y46), some (zi y48)]) (st' := []) (by decide +kernel) (fun k q => by cases q) rfl ?_
          refine y_same (i := .iload_n 3) (len := 1) (r := (0, 0, 0, 0)) (pc' := 22) (ls' := [some (.inl (some 15)), some (.inl (some 2000000)), some (zi y46), some (zi y48)]) (st' := [zi y48]) (by decide +kernel) (fun k q => by cases q) rfl ?_
          refine y_iF (c := .lt) (off := 25) (len := 3) (r := (0, 0, 0, 0)) (by decide +kernel) (acmpF (c := .lt) (by show _ ≤ _; omega)) ?_
          refine y_same (i := .iload_n 3) (len := 1) (r := (0, 0, 0, 0)) (pc' := 26) (ls' := [some (.inl (some 15)), some (.inl (some 2000000)), some (zi y46), some (zi y48)]) (st' := [zi y48]) (by decide +kernel) (fun k q => by cases q) rfl ?_
          refine y_same (i := .aload_n 0) (len := 1) (r := (0, 0, 0, 0)) (pc' := 27) (ls' := [some (.inl (some 15)), some (.inl (some 2000000)), some (zi y46), some (zi y48)]) (st' := [.inl (some 15), zi y48]) (by decide +kernel) (fun k q => by cases q) rfl ?_
          refine y_get (j := 22) (len := 3) (r := (5, 2, 0, 242)) (by decide +kernel) O25.2.1 (tv15 O25.2.1) aw15 rfl rfl hn25 ?_
          rcases Decidable.em (y48.toInt ≥ xn25.toInt) with q49 | q49
          ·
            refine y_cT (c := .ge) (off := 17) (pc' := 47) (len := 3) (r := (0, 0, 0, 0)) (by decide +kernel) (acmpT (c := .ge) (by show _ ≤ _; omega)) (by decide +kernel) ?_
            refine y_ic (c := 0) (len := 1) (r := (0, 0, 0, 0)) (by decide +kernel) (by decide) (fun y50 hy50 => ?_)
            refine y_rI (len := 1) (r := (0, 0, 0, 0)) (nL := 4) (k := 2) (n9 := 2) (hs := []) (by decide +kernel) rfl (zfit_b (by omega) (by omega)).2 ?_
            exact ⟨_, ⟨O25.1, O25.2.1, fun k T j hk (hC : k ≠ 15 ∨ j ≠ 3) => (O25.2.2 k T j hk (show k ≠ 15 ∨ j ≠ 3 by omega))⟩, Or.inr ⟨sgn_n (mt_s (a' := sk b n a + 1) (by omega) (mt_s (a' := sk b n a + 2) (by omega) (mt_n (by rw [bt_ge (by omega)]; decide)))), by omega, rd25⟩⟩
          ·
            refine y_cF (c := .ge) (off := 17) (len := 3) (r := (0, 0, 0, 0)) (by decide +kernel) (acmpF (c := .ge) (by show _ < _; omega)) ?_
            refine y_same (i := .aload_n 0) (len := 1) (r := (0, 0, 0, 0)) (pc' := 34) (ls' := [some (.inl (some 15)), some (.inl (some 2000000)), some (zi y46), some (zi y48)]) (st' := [.inl (some 15)]) (by decide +kernel) (fun k q => by cases q) rfl ?_
            refine y_get (j := 18) (len := 3) (r := (5, 1, 2, 241)) (by decide +kernel) O25.2.1 (tv15 O25.2.1) aw15 rfl rfl (g_rU (f := 1) (T2 := 27) O25.2.1 (tv15 O25.2.1) aw15 rfl (by decide)) ?_
            refine y_same (i := .iload_n 3) (len := 1) (r := (0, 0, 0, 0)) (pc' := 38) (ls' := [some (.inl (some 15)), some (.inl (some 2000000)), some (zi y46), some (zi y48)]) (st' := [zi y48, .inl (some 27)]) (by decide +kernel) (fun k q => by cases q) rfl ?_
            obtain ⟨v51, hv52, ev51⟩ := hb25 (sk b n a + 2) (by omega)
            refine y_ial (i := (sk b n a + 2)) (len := 1) (r := (0, 0, 0, 0)) (by decide +kernel) O25.2.1 (tv27 O25.2.1) aw27 (by omega) hv52 ?_
            refine y_same (i := .aload_n 1) (len := 1) (r := (0, 0, 0, 0)) (pc' := 40) (ls' := [some (.inl (some 15)), some (.inl (some 2000000)), some (zi y46), some (zi y48)]) (st' := [.inl (some 2000000), zi v51]) (by decide +kernel) (fun k q => by cases q) rfl ?_
            refine y_same (i := .iload_n 2) (len := 1) (r := (0, 0, 0, 0)) (pc' := 41) (ls' := [some (.inl (some 15)), some (.inl (some 2000000)), some (zi y46), some (zi y48)]) (st' := [zi y46, .inl (some 2000000), zi v51]) (by decide +kernel) (fun k q => by cases q) rfl ?_
            refine y_cI (i := .invokevirtual 162) (len := 3) (r := (0, 269, 50, 969)) (nL := 2) (k := 5) (n := 2) (hs := []) (args := [.inl (some 2000000), zi y46]) (rest := [zi v51]) (l0 := [some (.inl (some 2000000)), some (zi y46)]) (by decide +kernel) (Or.inr (Or.inl ⟨_, rfl⟩)) rfl rfl rfl rfl (Nat.le_of_ble_eq_true rfl) rfl rfl (qI_le (by decide) (tch0_2 (by omega))) (fun y53 qy53 hRy53 => ?_)
            obtain ⟨rfl, hy53⟩ := hRy53
            rcases Decidable.em (v51.toInt = y53.toInt) with q54 | q54
            ·
              have m2 : bt b n (sk b n a + 2) = 112 := by rw [bt_lt (by omega)]; omega
              refine y_cT (c := .eq) (off := 5) (pc' := 49) (len := 3) (r := (0, 0, 0, 0)) (by decide +kernel) (acmpT (c := .eq) (by show _ = _; omega)) (by decide +kernel) ?_
              refine y_inc (j := 2) (a := y46) (c := 1) (ls' := fun v => [some (.inl (some 15)), some (.inl (some 2000000)), some v, some (zi y48)]) (len := 3) (r := (0, 0, 0, 0)) (by decide +kernel) rfl (fun _ => rfl) (by decide) (by omega) (by omega) (fun y56 hy56 => ?_)
              show qX 7 57 52 [some (.inl (some 15)), some (.inl (some 2000000)), some (zi y56), some (zi y48)] [] h25 t _
              refine y_goto (off := (-46)) (pc' := 6) (len := 3) (r := (0, 0, 0, 0)) (by decide +kernel) (by decide +kernel) ?_
              refine y_same (i := .iload_n 2) (len := 1) (r := (0, 0, 0, 0)) (pc' := 7) (ls' := [some (.inl (some 15)), some (.inl (some 2000000)), some (zi y56), some (zi y48)]) (st' := [zi y56]) (by decide +kernel) (fun k q => by cases q) rfl ?_
              refine y_same (i := .aload_n 1) (len := 1) (r := (0, 0, 0, 0)) (pc' := 8) (ls' := [some (.inl (some 15)), some (.inl (some 2000000)), some (zi y56), some (zi y48)]) (st' := [.inl (some 2000000), zi y56]) (by decide +kernel) (fun k q => by cases q) rfl ?_
              refine y_cI (i := .invokevirtual 158) (len := 3) (r := (0, 268, 50, 955)) (nL := 1) (k := 1) (n := 1) (hs := []) (args := [.inl (some 2000000)]) (rest := [zi y56]) (l0 := [some (.inl (some 2000000))]) (by decide +kernel) (Or.inr (Or.inl ⟨_, rfl⟩)) rfl rfl rfl rfl (Nat.le_of_ble_eq_true rfl) rfl rfl (qI_le (by decide) tln0) (fun y57 qy57 hRy57 => ?_)
              obtain ⟨rfl, hy57⟩ := hRy57
              refine y_cT (c := .ge) (off := 44) (pc' := 55) (len := 3) (r := (0, 0, 0, 0)) (by decide +kernel) (acmpT (c := .ge) (by show _ ≤ _; omega)) (by decide +kernel) ?_
              refine y_same (i := .aload_n 0) (len := 1) (r := (0, 0, 0, 0)) (pc' := 56) (ls' := [some (.inl (some 15)), some (.inl (some 2000000)), some (zi y56), some (zi y48)]) (st' := [.inl (some 15)]) (by decide +kernel) (fun k q => by cases q) rfl ?_
              refine y_same (i := .dup) (len := 1) (r := (0, 0, 0, 0)) (pc' := 57) (ls' := [some (.inl (some 15)), some (.inl (some 2000000)), some (zi y56), some (zi y48)]) (st' := [.inl (some 15), .inl (some 15)]) (by decide +kernel) (fun k q => by cases q) rfl ?_
              refine y_get (j := 26) (len := 3) (r := (5, 3, 0, 243)) (by decide +kernel) O25.2.1 (tv15 O25.2.1) aw15 rfl rfl ha25 ?_
              refine y_same (i := .aload_n 1) (len := 1) (r := (0, 0, 0, 0)) (pc' := 61) (ls' := [some (.inl (some 15)), some (.inl (some 2000000)), some (zi y56), some (zi y48)]) (st' := [.inl (some 2000000), zi xa25, .inl (some 15)]) (by decide +kernel) (fun k q => by cases q) rfl ?_
              refine y_cI (i := .invokevirtual 158) (len := 3) (r := (0, 268, 50, 955)) (nL := 1) (k := 1) (n := 1) (hs := []) (args := [.inl (some 2000000)]) (rest := [zi xa25, .inl (some 15)]) (l0 := [some (.inl (some 2000000))]) (by decide +kernel) (Or.inr (Or.inl ⟨_, rfl⟩)) rfl rfl rfl rfl (Nat.le_of_ble_eq_true rfl) rfl rfl (qI_le (by decide) tln0) (fun y58 qy58 hRy58 => ?_)
              obtain ⟨rfl, hy58⟩ := hRy58
              refine y_add (len := 1) (r := (0, 0, 0, 0)) (by decide +kernel) (by omega) (by omega) (fun y59 hy59 => ?_)
              refine y_put (j := 26) (lo := (-2147483648)) (hi := 2147483647) (len := 3) (r := (5, 3, 0, 243)) (by decide +kernel) O25.2.1 (tv15 O25.2.1) aw15 rfl rfl (by decide) rfl (qin_full _).1 (qin_full _).2 rfl (fun h60 hg60 hl60 hs60 ho60 => ?_)
              have ho60 : hO 15 3 h25 h60 := ho60
              have hs60 : hsl h60 15 3 = some (zi y59) := hs60
              refine y_ic (c := 1) (len := 1) (r := (0, 0, 0, 0)) (by decide +kernel) (by decide) (fun y61 hy61 => ?_)
              refine y_rI (len := 1) (r := (0, 0, 0, 0)) (nL := 4) (k := 2) (n9 := 2) (hs := []) (by decide +kernel) rfl (zfit_b (by omega) (by omega)).2 ?_
              refine ⟨_, ⟨O25.1, hg60, fun k T j hk (hC : k ≠ 15 ∨ j ≠ 3) => ((ho60 k j (by omega)).trans (O25.2.2 k T j hk (show k ≠ 15 ∨ j ≠ 3 by omega)))⟩, Or.inl ⟨sk b n a + 3, sgn_y (w := [101, 109, 112]) (mt_c (a' := sk b n a + 1) m0 (by omega) (mt_c (a' := sk b n a + 2) m1 (by omega) (mt_c (a' := sk b n a + 3) m2 (by omega) rfl))), by omega, by omega, ?_⟩⟩
              exact rdc_up O25.2.1 rd25 ⟨(aup_refl _), hg60, fun k T j hk (hC : k ≠ 15 ∨ j ≠ 3) => (ho60 k j (by omega))⟩ ⟨_, hs60, by omega⟩
            ·
              refine y_cF (c := .eq) (off := 5) (len := 3) (r := (0, 0, 0, 0)) (by decide +kernel) (acmpF (c := .eq) (by show ¬ (_ = _); omega)) ?_
              refine y_ic (c := 0) (len := 1) (r := (0, 0, 0, 0)) (by decide +kernel) (by decide) (fun y55 hy55 => ?_)
              refine y_rI (len := 1) (r := (0, 0, 0, 0)) (nL := 4) (k := 2) (n9 := 2) (hs := []) (by decide +kernel) rfl (zfit_b (by omega) (by omega)).2 ?_
              exact ⟨_, ⟨O25.1, O25.2.1, fun k T j hk (hC : k ≠ 15 ∨ j ≠ 3) => (O25.2.2 k T j hk (show k ≠ 15 ∨ j ≠ 3 by omega))⟩, Or.inr ⟨sgn_n (mt_s (a' := sk b n a + 1) (by omega) (mt_s (a' := sk b n a + 2) (by omega) (mt_n (by rw [bt_lt (by omega)]; omega)))), by omega, rd25⟩⟩
        ·
          refine y_cF (c := .eq) (off := 5) (len := 3) (r := (0, 0, 0, 0)) (by decide +kernel) (acmpF (c := .eq) (by show ¬ (_ = _); omega)) ?_
          refine y_ic (c := 0) (len := 1) (r := (0, 0, 0, 0)) (by decide +kernel) (by decide) (fun y45 hy45 => ?_)
          refine y_rI (len := 1) (r := (0, 0, 0, 0)) (nL := 4) (k := 2) (n9 := 2) (hs := []) (by decide +kernel) rfl (zfit_b (by omega) (by omega)).2 ?_
          exact ⟨_, ⟨O25.1, O25.2.1, fun k T j hk (hC : k ≠ 15 ∨ j ≠ 3) => (O25.2.2 k T j hk (show k ≠ 15 ∨ j ≠ 3 by omega))⟩, Or.inr ⟨sgn_n (mt_s (a' := sk b n a + 1) (by omega) (mt_n (by rw [bt_lt (by omega)]; omega))), by omega, rd25⟩⟩
    ·
      refine y_cF (c := .eq) (off := 5) (len := 3) (r := (0, 0, 0, 0)) (by decide +kernel) (acmpF (c := .eq) (by show ¬ (_ = _); omega)) ?_
      refine y_ic (c := 0) (len := 1) (r := (0, 0, 0, 0)) (by decide +kernel) (by decide) (fun y35 hy35 => ?_)
      refine y_rI (len := 1) (r := (0, 0, 0, 0)) (nL := 4) (k := 2) (n9 := 2) (hs := []) (by decide +kernel) rfl (zfit_b (by omega) (by omega)).2 ?_
      exact ⟨_, ⟨O25.1, O25.2.1, fun k T j hk (hC : k ≠ 15 ∨ j ≠ 3) => (O25.2.2 k T j hk (show k ≠ 15 ∨ j ≠ 3 by omega))⟩, Or.inr ⟨sgn_n (mt_n (by rw [bt_lt (by omega)]; omega)), by omega, rd25⟩⟩
theorem e_sign1 {t n a : Nat} {b : Nat → Int} {τ : List Nat} {h : zh} (hg : hG τ h) (rd : rdC h n a b) (han : a ≤ n) : qI 8 57 [some (.inl (some 15)), some (.inl (some 2000001)), none, none] h t (fun y h1 => ∃ τ1, oF (fun k j => k ≠ 15 ∨ j ≠ 3) τ h τ1 h1 ∧ ((∃ a', sgn b n [108, 115] a = some a' ∧ a' ≤ n ∧ y.toInt = 1 ∧ rdC h1 n a' b) ∨ (sgn b n [108, 115] a = none ∧ y.toInt = 0 ∧ rdC h1 n (sk b n a) b))) := by
  obtain ⟨⟨xn, hn, en⟩, ⟨xa, ha, ea⟩, hb, hn2⟩ := id rd
  refine qI_of ?_
  refine y_same (i := .aload_n 0) (len := 1) (r := (0, 0, 0, 0)) (pc' := 1) (ls' := [some (.inl (some 15)), some (.inl (some 2000001)), none, none]) (st' := [.inl (some 15)]) (by decide +kernel) (fun k q => by cases q) rfl ?_
  refine y_cV (i := .invokevirtual 89) (len := 3) (r := (0, 60, 5, 947)) (nL := 1) (k := 0) (n := 1) (hs := []) (args := [.inl (some 15)]) (rest := []) (l0 := [some (.inl (some 15))]) (by decide +kernel) (Or.inr (Or.inl ⟨_, rfl⟩)) rfl rfl rfl rfl (Nat.le_of_ble_eq_true rfl) (zO hg (tv15 hg) aw15 rfl) rfl (qV_le (by decide) (e_skip hg rd (by omega))) (fun h62 hR62 => ?_)
  obtain ⟨τ62, O62, rd62⟩ := hR62
  obtain ⟨⟨xn62, hn62, en62⟩, ⟨xa62, ha62, ea62⟩, hb62, -⟩ := id rd62
  have sl62 := sk_le (b := b) (n := n) (a := a) (by omega)
  refine y_ic (c := 0) (len := 1) (r := (0, 0, 0, 0)) (by decide +kernel) (by decide) (fun y63 hy63 => ?_)
  refine y_same (i := .istore_n 2) (len := 1) (r := (0, 0, 0, 0)) (pc' := 6) (ls' := [some (.inl (some 15)), some (.inl (some 2000001)), some (zi y63), none]) (st' := []) (by decide +kernel) (fun k q => by cases q) rfl ?_
  refine y_same (i := .iload_n 2) (len := 1) (r := (0, 0, 0, 0)) (pc' := 7) (ls' := [some (.inl (some 15)), some (.inl (some 2000001)), some (zi y63), none]) (st' := [zi y63]) (by decide +kernel) (fun k q => by cases q) rfl ?_
  refine y_same (i := .aload_n 1) (len := 1) (r := (0, 0, 0, 0)) (pc' := 8) (ls' := [some (.inl (some 15)), some (.inl (some 2000001)), some (zi y63), none]) (st' := [.inl (some 2000001), zi y63]) (by decide +kernel) (fun k q => by cases q) rfl ?_
  refine y_cI (i := .invokevirtual 158) (len := 3) (r := (0, 268, 50, 955)) (nL := 1) (k := 1) (n := 1) (hs := []) (args := [.inl (some 2000001)]) (rest := [zi y63]) (l0 := [some (.inl (some 2000001))]) (by decide +kernel) (Or.inr (Or.inl ⟨_, rfl⟩)) rfl rfl rfl rfl (Nat.le_of_ble_eq_true rfl) rfl rfl (qI_le (by decide) tln1) (fun y64 qy64 hRy64 => ?_)
  obtain ⟨rfl, hy64⟩ := hRy64
  refine y_cF (c := .ge) (off := 44) (len := 3) (r := (0, 0, 0, 0)) (by decide +kernel) (acmpF (c := .ge) (by show _ < _; omega)) ?_
  refine y_same (i := .aload_n 0) (len := 1) (r := (0, 0, 0, 0)) (pc' := 15) (ls' := [some (.inl (some 15)), some (.inl (some 2000001)), some (zi y63), none]) (st' := [.inl (some 15)]) (by decide +kernel) (fun k q => by cases q) rfl ?_
  refine y_get (j := 26) (len := 3) (r := (5, 3, 0, 243)) (by decide +kernel) O62.2.1 (tv15 O62.2.1) aw15 rfl rfl ha62 ?_
  refine y_same (i := .iload_n 2) (len := 1) (r := (0, 0, 0, 0)) (pc' := 19) (ls' := [some (.inl (some 15)), some (.inl (some 2000001)), some (zi y63), none]) (st' := [zi y63, zi xa62]) (by decide +kernel) (fun k q => by cases q) rfl ?_
  refine y_add (len := 1) (r := (0, 0, 0, 0)) (by decide +kernel) (by omega) (by omega) (fun y65 hy65 => ?_)
  refine y_same (i := .istore_n 3) (len := 1) (r := (0, 0, 0, 0)) (pc' := 21) (ls' := [some (.inl (some 15)), some (.inl (some 2000001)), some (zi y63), some (zi y65)]) (st' := []) (by decide +kernel) (fun k q => by cases q) rfl ?_
  refine y_same (i := .iload_n 3) (len := 1) (r := (0, 0, 0, 0)) (pc' := 22) (ls' := [some (.inl (some 15)), some (.inl (some 2000001)), some (zi y63), some (zi y65)]) (st' := [zi y65]) (by decide +kernel) (fun k q => by cases q) rfl ?_
  refine y_iF (c := .lt) (off := 25) (len := 3) (r := (0, 0, 0, 0)) (by decide +kernel) (acmpF (c := .lt) (by show _ ≤ _; omega)) ?_
  refine y_same (i := .iload_n 3) (len := 1) (r := (0, 0, 0, 0)) (pc' := 26) (ls' := [some (.inl (some 15)), some (.inl (some 2000001)), some (zi y63), some (zi y65)]) (st' := [zi y65]) (by decide +kernel) (fun k q => by cases q) rfl ?_
  refine y_same (i := .aload_n 0) (len := 1) (r := (0, 0, 0, 0)) (pc' := 27) (ls' := [some (.inl (some 15)), some (.inl (some 2000001)), some (zi y63), some (zi y65)]) (st' := [.inl (some 15), zi y65]) (by decide +kernel) (fun k q => by cases q) rfl ?_
  refine y_get (j := 22) (len := 3) (r := (5, 2, 0, 242)) (by decide +kernel) O62.2.1 (tv15 O62.2.1) aw15 rfl rfl hn62 ?_
  rcases Decidable.em (y65.toInt ≥ xn62.toInt) with q66 | q66
  ·
    refine y_cT (c := .ge) (off := 17) (pc' := 47) (len := 3) (r := (0, 0, 0, 0)) (by decide +kernel) (acmpT (c := .ge) (by show _ ≤ _; omega)) (by decide +kernel) ?_
    refine y_ic (c := 0) (len := 1) (r := (0, 0, 0, 0)) (by decide +kernel) (by decide) (fun y67 hy67 => ?_)
    refine y_rI (len := 1) (r := (0, 0, 0, 0)) (nL := 4) (k := 2) (n9 := 2) (hs := []) (by decide +kernel) rfl (zfit_b (by omega) (by omega)).2 ?_
    exact ⟨_, ⟨O62.1, O62.2.1, fun k T j hk (hC : k ≠ 15 ∨ j ≠ 3) => (O62.2.2 k T j hk (show k ≠ 15 ∨ j ≠ 3 by omega))⟩, Or.inr ⟨sgn_n (mt_n (by rw [bt_ge (by omega)]; decide)), by omega, rd62⟩⟩
  ·
    refine y_cF (c := .ge) (off := 17) (len := 3) (r := (0, 0, 0, 0)) (by decide +kernel) (acmpF (c := .ge) (by show _ < _; omega)) ?_
    refine y_same (i := .aload_n 0) (len := 1) (r := (0, 0, 0, 0)) (pc' := 34) (ls' := [some (.inl (some 15)), some (.inl (some 2000001)), some (zi y63), some (zi y65)]) (st' := [.inl (some 15)]) (by decide +kernel) (fun k q => by cases q) rfl ?_
    refine y_get (j := 18) (len := 3) (r := (5, 1, 2, 241)) (by decide +kernel) O62.2.1 (tv15 O62.2.1) aw15 rfl rfl (g_rU (f := 1) (T2 := 27) O62.2.1 (tv15 O62.2.1) aw15 rfl (by decide)) ?_
    refine y_same (i := .iload_n 3) (len := 1) (r := (0, 0, 0, 0)) (pc' := 38) (ls' := [some (.inl (some 15)), some (.inl (some 2000001)), some (zi y63), some (zi y65)]) (st' := [zi y65, .inl (some 27)]) (by decide +kernel) (fun k q => by cases q) rfl ?_
    obtain ⟨v68, hv69, ev68⟩ := hb62 (sk b n a) (by omega)
    refine y_ial (i := (sk b n a)) (len := 1) (r := (0, 0, 0, 0)) (by decide +kernel) O62.2.1 (tv27 O62.2.1) aw27 (by omega) hv69 ?_
    refine y_same (i := .aload_n 1) (len := 1) (r := (0, 0, 0, 0)) (pc' := 40) (ls' := [some (.inl (some 15)), some (.inl (some 2000001)), some (zi y63), some (zi y65)]) (st' := [.inl (some 2000001), zi v68]) (by decide +kernel) (fun k q => by cases q) rfl ?_
    refine y_same (i := .iload_n 2) (len := 1) (r := (0, 0, 0, 0)) (pc' := 41) (ls' := [some (.inl (some 15)), some (.inl (some 2000001)), some (zi y63), some (zi y65)]) (st' := [zi y63, .inl (some 2000001), zi v68]) (by decide +kernel) (fun k q => by cases q) rfl ?_
    refine y_cI (i := .invokevirtual 162) (len := 3) (r := (0, 269, 50, 969)) (nL := 2) (k := 5) (n := 2) (hs := []) (args := [.inl (some 2000001), zi y63]) (rest := [zi v68]) (l0 := [some (.inl (some 2000001)), some (zi y63)]) (by decide +kernel) (Or.inr (Or.inl ⟨_, rfl⟩)) rfl rfl rfl rfl (Nat.le_of_ble_eq_true rfl) rfl rfl (qI_le (by decide) (tch1_0 (by omega))) (fun y70 qy70 hRy70 => ?_)
    obtain ⟨rfl, hy70⟩ := hRy70
    rcases Decidable.em (v68.toInt = y70.toInt) with q71 | q71
    ·
      have m0 : bt b n (sk b n a) = 108 := by rw [bt_lt (by omega)]; omega
      refine y_cT (c := .eq) (off := 5) (pc' := 49) (len := 3) (r := (0, 0, 0, 0)) (by decide +kernel) (acmpT (c := .eq) (by show _ = _; omega)) (by decide +kernel) ?_
      refine y_inc (j := 2) (a := y63) (c := 1) (ls' := fun v => [some (.inl (some 15)), some (.inl (some 2000001)), some v, some (zi y65)]) (len := 3) (r := (0, 0, 0, 0)) (by decide +kernel) rfl (fun _ => rfl) (by decide) (by omega) (by omega) (fun y73 hy73 => ?_)
      show qX 7 57 52 [some (.inl (some 15)), some (.inl (some 2000001)), some (zi y73), some (zi y65)] [] h62 t _
      refine y_goto (off := (-46)) (pc' := 6) (len := 3) (r := (0, 0, 0, 0)) (by decide +kernel) (by decide +kernel) ?_
      refine y_same (i := .iload_n 2) (len := 1) (r := (0, 0, 0, 0)) (pc' := 7) (ls' := [some (.inl (some 15)), some (.inl (some 2000001)), some (zi y73), some (zi y65)]) (st' := [zi y73]) (by decide +kernel) (fun k q => by cases q) rfl ?_
      refine y_same (i := .aload_n 1) (len := 1) (r := (0, 0, 0, 0)) (pc' := 8) (ls' := [some (.inl (some 15)), some (.inl (some 2000001)), some (zi y73), some (zi y65)]) (st' := [.inl (some 2000001), zi y73]) (by decide +kernel) (fun k q => by cases q) rfl ?_
      refine y_cI (i := .invokevirtual 158) (len := 3) (r := (0, 268, 50, 955)) (nL := 1) (k := 1) (n := 1) (hs := []) (args := [.inl (some 2000001)]) (rest := [zi y73]) (l0 := [some (.inl (some 2000001))]) (by decide +kernel) (Or.inr (Or.inl ⟨_, rfl⟩)) rfl rfl rfl rfl (Nat.le_of_ble_eq_true rfl) rfl rfl (qI_le (by decide) tln1) (fun y74 qy74 hRy74 => ?_)
      obtain ⟨rfl, hy74⟩ := hRy74
      refine y_cF (c := .ge) (off := 44) (len := 3) (r := (0, 0, 0, 0)) (by decide +kernel) (acmpF (c := .ge) (by show _ < _; omega)) ?_
      refine y_same (i := .aload_n 0) (len := 1) (r := (0, 0, 0, 0)) (pc' := 15) (ls' := [some (.inl (some 15)), some (.inl (some 2000001)), some (zi y73), some (zi y65)]) (st' := [.inl (some 15)]) (by decide +kernel) (fun k q => by cases q) rfl ?_
      refine y_get (j := 26) (len := 3) (r := (5, 3, 0, 243)) (by decide +kernel) O62.2.1 (tv15 O62.2.1) aw15 rfl rfl ha62 ?_
      refine y_same (i := .iload_n 2) (len := 1) (r := (0, 0, 0, 0)) (pc' := 19) (ls' := [some (.inl (some 15)), some (.inl (some 2000001)), some (zi y73), some (zi y65)]) (st' := [zi y73, zi xa62]) (by decide +kernel) (fun k q => by cases q) rfl ?_
      refine y_add (len := 1) (r := (0, 0, 0, 0)) (by decide +kernel) (by omega) (by omega) (fun y75 hy75 => ?_)
      refine y_same (i := .istore_n 3) (len := 1) (r := (0, 0, 0, 0)) (pc' := 21) (ls' := [some (.inl (some 15)), some (.inl (some 2000001)), some (zi y73), some (zi y75)]) (st' := []) (by decide +kernel) (fun k q => by cases q) rfl ?_
      refine y_same (i := .iload_n 3) (len := 1) (r := (0, 0, 0, 0)) (pc' := 22) (ls' := [some (.inl (some 15)), some (.inl (some 2000001)), some (zi y73), some (zi y75)]) (st' := [zi y75]) (by decide +kernel) (fun k q => by cases q) rfl ?_
      refine y_iF (c := .lt) (off := 25) (len := 3) (r := (0, 0, 0, 0)) (by decide +kernel) (acmpF (c := .lt) (by show _ ≤ _; omega)) ?_
      refine y_same (i := .iload_n 3) (len := 1) (r := (0, 0, 0, 0)) (pc' := 26) (ls' := [some (.inl (some 15)), some (.inl (some 2000001)), some (zi y73), some (zi y75)]) (st' := [zi y75]) (by decide +kernel) (fun k q => by cases q) rfl ?_
      refine y_same (i := .aload_n 0) (len := 1) (r := (0, 0, 0, 0)) (pc' := 27) (ls' := [some (.inl (some 15)), some (.inl (some 2000001)), some (zi y73), some (zi y75)]) (st' := [.inl (some 15), zi y75]) (by decide +kernel) (fun k q => by cases q) rfl ?_
      refine y_get (j := 22) (len := 3) (r := (5, 2, 0, 242)) (by decide +kernel) O62.2.1 (tv15 O62.2.1) aw15 rfl rfl hn62 ?_
      rcases Decidable.em (y75.toInt ≥ xn62.toInt) with q76 | q76
      ·
        refine y_cT (c := .ge) (off := 17) (pc' := 47) (len := 3) (r := (0, 0, 0, 0)) (by decide +kernel) (acmpT (c := .ge) (by show _ ≤ _; omega)) (by decide +kernel) ?_
        refine y_ic (c := 0) (len := 1) (r := (0, 0, 0, 0)) (by decide +kernel) (by decide) (fun y77 hy77 => ?_)
        refine y_rI (len := 1) (r := (0, 0, 0, 0)) (nL := 4) (k := 2) (n9 := 2) (hs := []) (by decide +kernel) rfl (zfit_b (by omega) (by omega)).2 ?_
        exact ⟨_, ⟨O62.1, O62.2.1, fun k T j hk (hC : k ≠ 15 ∨ j ≠ 3) => (O62.2.2 k T j hk (show k ≠ 15 ∨ j ≠ 3 by omega))⟩, Or.inr ⟨sgn_n (mt_s (a' := sk b n a + 1) (by omega) (mt_n (by rw [bt_ge (by omega)]; decide))), by omega, rd62⟩⟩
      ·
        refine y_cF (c := .ge) (off := 17) (len := 3) (r := (0, 0, 0, 0)) (by decide +kernel) (acmpF (c := .ge) (by show _ < _; omega)) ?_
        refine y_same (i := .aload_n 0) (len := 1) (r := (0, 0, 0, 0)) (pc' := 34) (ls' := [some (.inl (some 15)), some (.inl (some 2000001)), some (zi y73), some (zi y75)]) (st' := [.inl (some 15)]) (by decide +kernel) (fun k q => by cases q) rfl ?_
        refine y_get (j := 18) (len := 3) (r := (5, 1, 2, 241)) (by decide +kernel) O62.2.1 (tv15 O62.2.1) aw15 rfl rfl (g_rU (f := 1) (T2 := 27) O62.2.1 (tv15 O62.2.1) aw15 rfl (by decide)) ?_
        refine y_same (i := .iload_n 3) (len := 1) (r := (0, 0, 0, 0)) (pc' := 38) (ls' := [some (.inl (some 15)), some (.inl (some 2000001)), some (zi y73), some (zi y75)]) (st' := [zi y75, .inl (some 27)]) (by decide +kernel) (fun k q => by cases q) rfl ?_
        obtain ⟨v78, hv79, ev78⟩ := hb62 (sk b n a + 1) (by omega)
        refine y_ial (i := (sk b n a + 1)) (len := 1) (r := (0, 0, 0, 0)) (by decide +kernel) O62.2.1 (tv27 O62.2.1) aw27 (by omega) hv79 ?_
        refine y_same (i := .aload_n 1) (len := 1) (r := (0, 0, 0, 0)) (pc' := 40) (ls' := [some (.inl (some 15)), some (.inl (some 2000001)), some (zi y73), some (zi y75)]) (st' := [.inl (some 2000001), zi v78]) (by decide +kernel) (fun k q => by cases q) rfl ?_
        refine y_same (i := .iload_n 2) (len := 1) (r := (0, 0, 0, 0)) (pc' := 41) (ls' := [some (.inl (some 15)), some (.inl (some 2000001)), some (zi y73), some (zi y75)]) (st' := [zi y73, .inl (some 2000001), zi v78]) (by decide +kernel) (fun k q => by cases q) rfl ?_
        refine y_cI (i := .invokevirtual 162) (len := 3) (r := (0, 269, 50, 969)) (nL := 2) (k := 5) (n := 2) (hs := []) (args := [.inl (some 2000001), zi y73]) (rest := [zi v78]) (l0 := [some (.inl (some 2000001)), some (zi y73)]) (by decide +kernel) (Or.inr (Or.inl ⟨_, rfl⟩)) rfl rfl rfl rfl (Nat.le_of_ble_eq_true rfl) rfl rfl (qI_le (by decide) (tch1_1 (by omega))) (fun y80 qy80 hRy80 => ?_)
        obtain ⟨rfl, hy80⟩ := hRy80
        rcases Decidable.em (v78.toInt = y80.toInt) with q81 | q81
        ·
          have m1 : bt b n (sk b n a + 1) = 115 := by rw [bt_lt (by omega)]; omega
          refine y_cT (c := .eq) (off := 5) (pc' := 49) (len := 3) (r := (0, 0, 0, 0)) (by decide +kernel) (acmpT (c := .eq) (by show _ = _; omega)) (by decide +kernel) ?_
          refine y_inc (j := 2) (a := y73) (c := 1) (ls' := fun v => [some (.inl (some 15)), some (.inl (some 2000001)), some v, some (zi y75)]) (len := 3) (r := (0, 0, 0, 0)) (by decide +kernel) rfl (fun _ => rfl) (by decide) (by omega) (by omega) (fun y83 hy83 => ?_)
          show qX 7 57 52 [some (.inl (some 15)), some (.inl (some 2000001)), some (zi y83), some (zi y75)] [] h62 t _
          refine y_goto (off := (-46)) (pc' := 6) (len := 3) (r := (0, 0, 0, 0)) (by decide +kernel) (by decide +kernel) ?_
          refine y_same (i := .iload_n 2) (len := 1) (r := (0, 0, 0, 0)) (pc' := 7) (ls' := [some (.inl (some 15)), some (.inl (some 2000001)), some (zi y83), some (zi y75)]) (st' := [zi y83]) (by decide +kernel) (fun k q => by cases q) rfl ?_
          refine y_same (i := .aload_n 1) (len := 1) (r := (0, 0, 0, 0)) (pc' := 8) (ls' := [some (.inl (some 15)), some (.inl (some 2000001)), some (zi y83), some (zi y75)]) (st' := [.inl (some 2000001), zi y83]) (by decide +kernel) (fun k q => by cases q) rfl ?_
          refine y_cI (i := .invokevirtual 158) (len := 3) (r := (0, 268, 50, 955)) (nL := 1) (k := 1) (n := 1) (hs := []) (args := [.inl (some 2000001)]) (rest := [zi y83]) (l0 := [some (.inl (some 2000001))]) (by decide +kernel) (Or.inr (Or.inl ⟨_, rfl⟩)) rfl rfl rfl rfl (Nat.le_of_ble_eq_true rfl) rfl rfl (qI_le (by decide) tln1) (fun y84 qy84 hRy84 => ?_)
          obtain ⟨rfl, hy84⟩ := hRy84
          refine y_cT (c := .ge) (off := 44) (pc' := 55) (len := 3) (r := (0, 0, 0, 0)) (by decide +kernel) (acmpT (c := .ge) (by show _ ≤ _; omega)) (by decide +kernel) ?_
          refine y_same (i := .aload_n 0) (len := 1) (r := (0, 0, 0, 0)) (pc' := 56) (ls' := [some (.inl (some 15)), some (.inl (some 2000001)), some (zi y83), some (zi y75)]) (st' := [.inl (some 15)]) (by decide +kernel) (fun k q => by cases q) rfl ?_
          refine y_same (i := .dup) (len := 1) (r := (0, 0, 0, 0)) (pc' := 57) (ls' := [some (.inl (some 15)), some (.inl (some 2000001)), some (zi y83), some (zi y75)]) (st' := [.inl (some 15), .inl (some 15)]) (by decide +kernel) (fun k q => by cases q) rfl ?_
          refine y_get (j := 26) (len := 3) (r := (5, 3, 0, 243)) (by decide +kernel) O62.2.1 (tv15 O62.2.1) aw15 rfl rfl ha62 ?_
          refine y_same (i := .aload_n 1) (len := 1) (r := (0, 0, 0, 0)) (pc' := 61) (ls' := [some (.inl (some 15)), some (.inl (some 2000001)), some (zi y83), some (zi y75)]) (st' := [.inl (some 2000001), zi xa62, .inl (some 15)]) (by decide +kernel) (fun k q => by cases q) rfl ?_
          refine y_cI (i := .invokevirtual 158) (len := 3) (r := (0, 268, 50, 955)) (nL := 1) (k := 1) (n := 1) (hs := []) (args := [.inl (some 2000001)]) (rest := [zi xa62, .inl (some 15)]) (l0 := [some (.inl (some 2000001))]) (by decide +kernel) (Or.inr (Or.inl ⟨_, rfl⟩)) rfl rfl rfl rfl (Nat.le_of_ble_eq_true rfl) rfl rfl (qI_le (by decide) tln1) (fun y85 qy85 hRy85 => ?_)
          obtain ⟨rfl, hy85⟩ := hRy85
          refine y_add (len := 1) (r := (0, 0, 0, 0)) (by decide +kernel) (by omega) (by omega) (fun y86 hy86 => ?_)
          refine y_put (j := 26) (lo := (-2147483648)) (hi := 2147483647) (len := 3) (r := (5, 3, 0, 243)) (by decide +kernel) O62.2.1 (tv15 O62.2.1) aw15 rfl rfl (by decide) rfl (qin_full _).1 (qin_full _).2 rfl (fun h87 hg87 hl87 hs87 ho87 => ?_)
          have ho87 : hO 15 3 h62 h87 := ho87
          have hs87 : hsl h87 15 3 = some (zi y86) := hs87
          refine y_ic (c := 1) (len := 1) (r := (0, 0, 0, 0)) (by decide +kernel) (by decide) (fun y88 hy88 => ?_)
          refine y_rI (len := 1) (r := (0, 0, 0, 0)) (nL := 4) (k := 2) (n9 := 2) (hs := []) (by decide +kernel) rfl (zfit_b (by omega) (by omega)).2 ?_
          refine ⟨_, ⟨O62.1, hg87, fun k T j hk (hC : k ≠ 15 ∨ j ≠ 3) => ((ho87 k j (by omega)).trans (O62.2.2 k T j hk (show k ≠ 15 ∨ j ≠ 3 by omega)))⟩, Or.inl ⟨sk b n a + 2, sgn_y (w := [108, 115]) (mt_c (a' := sk b n a + 1) m0 (by omega) (mt_c (a' := sk b n a + 2) m1 (by omega) rfl)), by omega, by omega, ?_⟩⟩
          exact rdc_up O62.2.1 rd62 ⟨(aup_refl _), hg87, fun k T j hk (hC : k ≠ 15 ∨ j ≠ 3) => (ho87 k j (by omega))⟩ ⟨_, hs87, by omega⟩
        ·
          refine y_cF (c := .eq) (off := 5) (len := 3) (r := (0, 0, 0, 0)) (by decide +kernel) (acmpF (c := .eq) (by show ¬ (_ = _); omega)) ?_
          refine y_ic (c := 0) (len := 1) (r := (0, 0, 0, 0)) (by decide +kernel) (by decide) (fun y82 hy82 => ?_)
          refine y_rI (len := 1) (r := (0, 0, 0, 0)) (nL := 4) (k := 2) (n9 := 2) (hs := []) (by decide +kernel) rfl (zfit_b (by omega) (by omega)).2 ?_
          exact ⟨_, ⟨O62.1, O62.2.1, fun k T j hk (hC : k ≠ 15 ∨ j ≠ 3) => (O62.2.2 k T j hk (show k ≠ 15 ∨ j ≠ 3 by omega))⟩, Or.inr ⟨sgn_n (mt_s (a' := sk b n a + 1) (by omega) (mt_n (by rw [bt_lt (by omega)]; omega))), by omega, rd62⟩⟩
    ·
      refine y_cF (c := .eq) (off := 5) (len := 3) (r := (0, 0, 0, 0)) (by decide +kernel) (acmpF (c := .eq) (by show ¬ (_ = _); omega)) ?_
      refine y_ic (c := 0) (len := 1) (r := (0, 0, 0, 0)) (by decide +kernel) (by decide) (fun y72 hy72 => ?_)
      refine y_rI (len := 1) (r := (0, 0, 0, 0)) (nL := 4) (k := 2) (n9 := 2) (hs := []) (by decide +kernel) rfl (zfit_b (by omega) (by omega)).2 ?_
      exact ⟨_, ⟨O62.1, O62.2.1, fun k T j hk (hC : k ≠ 15 ∨ j ≠ 3) => (O62.2.2 k T j hk (show k ≠ 15 ∨ j ≠ 3 by omega))⟩, Or.inr ⟨sgn_n (mt_n (by rw [bt_lt (by omega)]; omega)), by omega, rd62⟩⟩
theorem e_sign2 {t n a : Nat} {b : Nat → Int} {τ : List Nat} {h : zh} (hg : hG τ h) (rd : rdC h n a b) (han : a ≤ n) : qI 8 57 [some (.inl (some 15)), some (.inl (some 2000002)), none, none] h t (fun y h1 => ∃ τ1, oF (fun k j => k ≠ 15 ∨ j ≠ 3) τ h τ1 h1 ∧ ((∃ a', sgn b n [40] a = some a' ∧ a' ≤ n ∧ y.toInt = 1 ∧ rdC h1 n a' b) ∨ (sgn b n [40] a = none ∧ y.toInt = 0 ∧ rdC h1 n (sk b n a) b))) := by
  obtain ⟨⟨xn, hn, en⟩, ⟨xa, ha, ea⟩, hb, hn2⟩ := id rd
  refine qI_of ?_
  refine y_same (i := .aload_n 0) (len := 1) (r := (0, 0, 0, 0)) (pc' := 1) (ls' := [some (.inl (some 15)), some (.inl (some 2000002)), none, none]) (st' := [.inl (some 15)]) (by decide +kernel) (fun k q => by cases q) rfl ?_
  refine y_cV (i := .invokevirtual 89) (len := 3) (r := (0, 60, 5, 947)) (nL := 1) (k := 0) (n := 1) (hs := []) (args := [.inl (some 15)]) (rest := []) (l0 := [some (.inl (some 15))]) (by decide +kernel) (Or.inr (Or.inl ⟨_, rfl⟩)) rfl rfl rfl rfl (Nat.le_of_ble_eq_true rfl) (zO hg (tv15 hg) aw15 rfl) rfl (qV_le (by decide) (e_skip hg rd (by omega))) (fun h89 hR89 => ?_)
  obtain ⟨τ89, O89, rd89⟩ := hR89
  obtain ⟨⟨xn89, hn89, en89⟩, ⟨xa89, ha89, ea89⟩, hb89, -⟩ := id rd89
  have sl89 := sk_le (b := b) (n := n) (a := a) (by omega)
  refine y_ic (c := 0) (len := 1) (r := (0, 0, 0, 0)) (by decide +kernel) (by decide) (fun y90 hy90 => ?_)
  refine y_same (i := .istore_n 2) (len := 1) (r := (0, 0, 0, 0)) (pc' := 6) (ls' := [some (.inl (some 15)), some (.inl (some 2000002)), some (zi y90), none]) (st' := []) (by decide +kernel) (fun k q => by cases q) rfl ?_
  refine y_same (i := .iload_n 2) (len := 1) (r := (0, 0, 0, 0)) (pc' := 7) (ls' := [some (.inl (some 15)), some (.inl (some 2000002)), some (zi y90), none]) (st' := [zi y90]) (by decide +kernel) (fun k q => by cases q) rfl ?_
  refine y_same (i := .aload_n 1) (len := 1) (r := (0, 0, 0, 0)) (pc' := 8) (ls' := [some (.inl (some 15)), some (.inl (some 2000002)), some (zi y90), none]) (st' := [.inl (some 2000002), zi y90]) (by decide +kernel) (fun k q => by cases q) rfl ?_
  refine y_cI (i := .invokevirtual 158) (len := 3) (r := (0, 268, 50, 955)) (nL := 1) (k := 1) (n := 1) (hs := []) (args := [.inl (some 2000002)]) (rest := [zi y90]) (l0 := [some (.inl (some 2000002))]) (by decide +kernel) (Or.inr (Or.inl ⟨_, rfl⟩)) rfl rfl rfl rfl (Nat.le_of_ble_eq_true rfl) rfl rfl (qI_le (by decide) tln2) (fun y91 qy91 hRy91 => ?_)
  obtain ⟨rfl, hy91⟩ := hRy91
  refine y_cF (c := .ge) (off := 44) (len := 3) (r := (0, 0, 0, 0)) (by decide +kernel) (acmpF (c := .ge) (by show _ < _; omega)) ?_
  refine y_same (i := .aload_n 0) (len := 1) (r := (0, 0, 0, 0)) (pc' := 15) (ls' := [some (.inl (some 15)), some (.inl (some 2000002)), some (zi y90), none]) (st' := [.inl (some 15)]) (by decide +kernel) (fun k q => by cases q) rfl ?_
  refine y_get (j := 26) (len := 3) (r := (5, 3, 0, 243)) (by decide +kernel) O89.2.1 (tv15 O89.2.1) aw15 rfl rfl ha89 ?_
  refine y_same (i := .iload_n 2) (len := 1) (r := (0, 0, 0, 0)) (pc' := 19) (ls' := [some (.inl (some 15)), some (.inl (some 2000002)), some (zi y90), none]) (st' := [zi y90, zi xa89]) (by decide +kernel) (fun k q => by cases q) rfl ?_
  refine y_add (len := 1) (r := (0, 0, 0, 0)) (by decide +kernel) (by omega) (by omega) (fun y92 hy92 => ?_)
  refine y_same (i := .istore_n 3) (len := 1) (r := (0, 0, 0, 0)) (pc' := 21) (ls' := [some (.inl (some 15)), some (.inl (some 2000002)), some (zi y90), some (zi y92)]) (st' := []) (by decide +kernel) (fun k q => by cases q) rfl ?_
  refine y_same (i := .iload_n 3) (len := 1) (r := (0, 0, 0, 0)) (pc' := 22) (ls' := [some (.inl (some 15)), some (.inl (some 2000002)), some (zi y90), some (zi y92)]) (st' := [zi y92]) (by decide +kernel) (fun k q => by cases q) rfl ?_
  refine y_iF (c := .lt) (off := 25) (len := 3) (r := (0, 0, 0, 0)) (by decide +kernel) (acmpF (c := .lt) (by show _ ≤ _; omega)) ?_
  refine y_same (i := .iload_n 3) (len := 1) (r := (0, 0, 0, 0)) (pc' := 26) (ls' := [some (.inl (some 15)), some (.inl (some 2000002)), some (zi y90), some (zi y92)]) (st' := [zi y92]) (by decide +kernel) (fun k q => by cases q) rfl ?_
  refine y_same (i := .aload_n 0) (len := 1) (r := (0, 0, 0, 0)) (pc' := 27) (ls' := [some (.inl (some 15)), some (.inl (some 2000002)), some (zi y90), some (zi y92)]) (st' := [.inl (some 15), zi y92]) (by decide +kernel) (fun k q => by cases q) rfl ?_
  refine y_get (j := 22) (len := 3) (r := (5, 2, 0, 242)) (by decide +kernel) O89.2.1 (tv15 O89.2.1) aw15 rfl rfl hn89 ?_
  rcases Decidable.em (y92.toInt ≥ xn89.toInt) with q93 | q93
  ·
    refine y_cT (c := .ge) (off := 17) (pc' := 47) (len := 3) (r := (0, 0, 0, 0)) (by decide +kernel) (acmpT (c := .ge) (by show _ ≤ _; omega)) (by decide +kernel) ?_
    refine y_ic (c := 0) (len := 1) (r := (0, 0, 0, 0)) (by decide +kernel) (by decide) (fun y94 hy94 => ?_)
    refine y_rI (len := 1) (r := (0, 0, 0, 0)) (nL := 4) (k := 2) (n9 := 2) (hs := []) (by decide +kernel) rfl (zfit_b (by omega) (by omega)).2 ?_
    exact ⟨_, ⟨O89.1, O89.2.1, fun k T j hk (hC : k ≠ 15 ∨ j ≠ 3) => (O89.2.2 k T j hk (show k ≠ 15 ∨ j ≠ 3 by omega))⟩, Or.inr ⟨sgn_n (mt_n (by rw [bt_ge (by omega)]; decide)), by omega, rd89⟩⟩
  ·
    refine y_cF (c := .ge) (off := 17) (len := 3) (r := (0, 0, 0, 0)) (by decide +kernel) (acmpF (c := .ge) (by show _ < _; omega)) ?_
    refine y_same (i := .aload_n 0) (len := 1) (r := (0, 0, 0, 0)) (pc' := 34) (ls' := [some (.inl (some 15)), some (.inl (some 2000002)), some (zi y90), some (zi y92)]) (st' := [.inl (some 15)]) (by decide +kernel) (fun k q => by cases q) rfl ?_
    refine y_get (j := 18) (len := 3) (r := (5, 1, 2, 241)) (by decide +kernel) O89.2.1 (tv15 O89.2.1) aw15 rfl rfl (g_rU (f := 1) (T2 := 27) O89.2.1 (tv15 O89.2.1) aw15 rfl (by decide)) ?_
    refine y_same (i := .iload_n 3) (len := 1) (r := (0, 0, 0, 0)) (pc' := 38) (ls' := [some (.inl (some 15)), some (.inl (some 2000002)), some (zi y90), some (zi y92)]) (st' := [zi y92, .inl (some 27)]) (by decide +kernel) (fun k q => by cases q) rfl ?_
    obtain ⟨v95, hv96, ev95⟩ := hb89 (sk b n a) (by omega)
    refine y_ial (i := (sk b n a)) (len := 1) (r := (0, 0, 0, 0)) (by decide +kernel) O89.2.1 (tv27 O89.2.1) aw27 (by omega) hv96 ?_
    refine y_same (i := .aload_n 1) (len := 1) (r := (0, 0, 0, 0)) (pc' := 40) (ls' := [some (.inl (some 15)), some (.inl (some 2000002)), some (zi y90), some (zi y92)]) (st' := [.inl (some 2000002), zi v95]) (by decide +kernel) (fun k q => by cases q) rfl ?_
    refine y_same (i := .iload_n 2) (len := 1) (r := (0, 0, 0, 0)) (pc' := 41) (ls' := [some (.inl (some 15)), some (.inl (some 2000002)), some (zi y90), some (zi y92)]) (st' := [zi y90, .inl (some 2000002), zi v95]) (by decide +kernel) (fun k q => by cases q) rfl ?_
    refine y_cI (i := .invokevirtual 162) (len := 3) (r := (0, 269, 50, 969)) (nL := 2) (k := 5) (n := 2) (hs := []) (args := [.inl (some 2000002), zi y90]) (rest := [zi v95]) (l0 := [some (.inl (some 2000002)), some (zi y90)]) (by decide +kernel) (Or.inr (Or.inl ⟨_, rfl⟩)) rfl rfl rfl rfl (Nat.le_of_ble_eq_true rfl) rfl rfl (qI_le (by decide) (tch2_0 (by omega))) (fun y97 qy97 hRy97 => ?_)
    obtain ⟨rfl, hy97⟩ := hRy97
    rcases Decidable.em (v95.toInt = y97.toInt) with q98 | q98
    ·
      have m0 : bt b n (sk b n a) = 40 := by rw [bt_lt (by omega)]; omega
      refine y_cT (c := .eq) (off := 5) (pc' := 49) (len := 3) (r := (0, 0, 0, 0)) (by decide +kernel) (acmpT (c := .eq) (by show _ = _; omega)) (by decide +kernel) ?_
      refine y_inc (j := 2) (a := y90) (c := 1) (ls' := fun v => [some (.inl (some 15)), some (.inl (some 2000002)), some v, some (zi y92)]) (len := 3) (r := (0, 0, 0, 0)) (by decide +kernel) rfl (fun _ => rfl) (by decide) (by omega) (by omega) (fun y100 hy100 => ?_)
      show qX 7 57 52 [some (.inl (some 15)), some (.inl (some 2000002)), some (zi y100), some (zi y92)] [] h89 t _
      refine y_goto (off := (-46)) (pc' := 6) (len := 3) (r := (0, 0, 0, 0)) (by decide +kernel) (by decide +kernel) ?_
      refine y_same (i := .iload_n 2) (len := 1) (r := (0, 0, 0, 0)) (pc' := 7) (ls' := [some (.inl (some 15)), some (.inl (some 2000002)), some (zi y100), some (zi y92)]) (st' := [zi y100]) (by decide +kernel) (fun k q => by cases q) rfl ?_
      refine y_same (i := .aload_n 1) (len := 1) (r := (0, 0, 0, 0)) (pc' := 8) (ls' := [some (.inl (some 15)), some (.inl (some 2000002)), some (zi y100), some (zi y92)]) (st' := [.inl (some 2000002), zi y100]) (by decide +kernel) (fun k q => by cases q) rfl ?_
      refine y_cI (i := .invokevirtual 158) (len := 3) (r := (0, 268, 50, 955)) (nL := 1) (k := 1) (n := 1) (hs := []) (args := [.inl (some 2000002)]) (rest := [zi y100]) (l0 := [some (.inl (some 2000002))]) (by decide +kernel) (Or.inr (Or.inl ⟨_, rfl⟩)) rfl rfl rfl rfl (Nat.le_of_ble_eq_true rfl) rfl rfl (qI_le (by decide) tln2) (fun y101 qy101 hRy101 => ?_)
      obtain ⟨rfl, hy101⟩ := hRy101
      refine y_cT (c := .ge) (off := 44) (pc' := 55) (len := 3) (r := (0, 0, 0, 0)) (by decide +kernel) (acmpT (c := .ge) (by show _ ≤ _; omega)) (by decide +kernel) ?_
      refine y_same (i := .aload_n 0) (len := 1) (r := (0, 0, 0, 0)) (pc' := 56) (ls' := [some (.inl (some 15)), some (.inl (some 2000002)), some (zi y100), some (zi y92)]) (st' := [.inl (some 15)]) (by decide +kernel) (fun k q => by cases q) rfl ?_
      refine y_same (i := .dup) (len := 1) (r := (0, 0, 0, 0)) (pc' := 57) (ls' := [some (.inl (some 15)), some (.inl (some 2000002)), some (zi y100), some (zi y92)]) (st' := [.inl (some 15), .inl (some 15)]) (by decide +kernel) (fun k q => by cases q) rfl ?_
      refine y_get (j := 26) (len := 3) (r := (5, 3, 0, 243)) (by decide +kernel) O89.2.1 (tv15 O89.2.1) aw15 rfl rfl ha89 ?_
      refine y_same (i := .aload_n 1) (len := 1) (r := (0, 0, 0, 0)) (pc' := 61) (ls' := [some (.inl (some 15)), some (.inl (some 2000002)), some (zi y100), some (zi y92)]) (st' := [.inl (some 2000002), zi xa89, .inl (some 15)]) (by decide +kernel) (fun k q => by cases q) rfl ?_
      refine y_cI (i := .invokevirtual 158) (len := 3) (r := (0, 268, 50, 955)) (nL := 1) (k := 1) (n := 1) (hs := []) (args := [.inl (some 2000002)]) (rest := [zi xa89, .inl (some 15)]) (l0 := [some (.inl (some 2000002))]) (by decide +kernel) (Or.inr (Or.inl ⟨_, rfl⟩)) rfl rfl rfl rfl (Nat.le_of_ble_eq_true rfl) rfl rfl (qI_le (by decide) tln2) (fun y102 qy102 hRy102 => ?_)
      obtain ⟨rfl, hy102⟩ := hRy102
      refine y_add (len := 1) (r := (0, 0, 0, 0)) (by decide +kernel) (by omega) (by omega) (fun y103 hy103 => ?_)
      refine y_put (j := 26) (lo := (-2147483648)) (hi := 2147483647) (len := 3) (r := (5, 3, 0, 243)) (by decide +kernel) O89.2.1 (tv15 O89.2.1) aw15 rfl rfl (by decide) rfl (qin_full _).1 (qin_full _).2 rfl (fun h104 hg104 hl104 hs104 ho104 => ?_)
      have ho104 : hO 15 3 h89 h104 := ho104
      have hs104 : hsl h104 15 3 = some (zi y103) := hs104
      refine y_ic (c := 1) (len := 1) (r := (0, 0, 0, 0)) (by decide +kernel) (by decide) (fun y105 hy105 => ?_)
      refine y_rI (len := 1) (r := (0, 0, 0, 0)) (nL := 4) (k := 2) (n9 := 2) (hs := []) (by decide +kernel) rfl (zfit_b (by omega) (by omega)).2 ?_
      refine ⟨_, ⟨O89.1, hg104, fun k T j hk (hC : k ≠ 15 ∨ j ≠ 3) => ((ho104 k j (by omega)).trans (O89.2.2 k T j hk (show k ≠ 15 ∨ j ≠ 3 by omega)))⟩, Or.inl ⟨sk b n a + 1, sgn_y (w := [40]) (mt_c (a' := sk b n a + 1) m0 (by omega) rfl), by omega, by omega, ?_⟩⟩
      exact rdc_up O89.2.1 rd89 ⟨(aup_refl _), hg104, fun k T j hk (hC : k ≠ 15 ∨ j ≠ 3) => (ho104 k j (by omega))⟩ ⟨_, hs104, by omega⟩
    ·
      refine y_cF (c := .eq) (off := 5) (len := 3) (r := (0, 0, 0, 0)) (by decide +kernel) (acmpF (c := .eq) (by show ¬ (_ = _); omega)) ?_
      refine y_ic (c := 0) (len := 1) (r := (0, 0, 0, 0)) (by decide +kernel) (by decide) (fun y99 hy99 => ?_)
      refine y_rI (len := 1) (r := (0, 0, 0, 0)) (nL := 4) (k := 2) (n9 := 2) (hs := []) (by decide +kernel) rfl (zfit_b (by omega) (by omega)).2 ?_
      exact ⟨_, ⟨O89.1, O89.2.1, fun k T j hk (hC : k ≠ 15 ∨ j ≠ 3) => (O89.2.2 k T j hk (show k ≠ 15 ∨ j ≠ 3 by omega))⟩, Or.inr ⟨sgn_n (mt_n (by rw [bt_lt (by omega)]; omega)), by omega, rd89⟩⟩
theorem e_sign3 {t n a : Nat} {b : Nat → Int} {τ : List Nat} {h : zh} (hg : hG τ h) (rd : rdC h n a b) (han : a ≤ n) : qI 8 57 [some (.inl (some 15)), some (.inl (some 2000003)), none, none] h t (fun y h1 => ∃ τ1, oF (fun k j => k ≠ 15 ∨ j ≠ 3) τ h τ1 h1 ∧ ((∃ a', sgn b n [44] a = some a' ∧ a' ≤ n ∧ y.toInt = 1 ∧ rdC h1 n a' b) ∨ (sgn b n [44] a = none ∧ y.toInt = 0 ∧ rdC h1 n (sk b n a) b))) := by
  obtain ⟨⟨xn, hn, en⟩, ⟨xa, ha, ea⟩, hb, hn2⟩ := id rd
  refine qI_of ?_
  refine y_same (i := .aload_n 0) (len := 1) (r := (0, 0, 0, 0)) (pc' := 1) (ls' := [some (.inl (some 15)), some (.inl (some 2000003)), none, none]) (st' := [.inl (some 15)]) (by decide +kernel) (fun k q => by cases q) rfl ?_
  refine y_cV (i := .invokevirtual 89) (len := 3) (r := (0, 60, 5, 947)) (nL := 1) (k := 0) (n := 1) (hs := []) (args := [.inl (some 15)]) (rest := []) (l0 := [some (.inl (some 15))]) (by decide +kernel) (Or.inr (Or.inl ⟨_, rfl⟩)) rfl rfl rfl rfl (Nat.le_of_ble_eq_true rfl) (zO hg (tv15 hg) aw15 rfl) rfl (qV_le (by decide) (e_skip hg rd (by omega))) (fun h106 hR106 => ?_)
  obtain ⟨τ106, O106, rd106⟩ := hR106
  obtain ⟨⟨xn106, hn106, en106⟩, ⟨xa106, ha106, ea106⟩, hb106, -⟩ := id rd106
  have sl106 := sk_le (b := b) (n := n) (a := a) (by omega)
  refine y_ic (c := 0) (len := 1) (r := (0, 0, 0, 0)) (by decide +kernel) (by decide) (fun y107 hy107 => ?_)
  refine y_same (i := .istore_n 2) (len := 1) (r := (0, 0, 0, 0)) (pc' := 6) (ls' := [some (.inl (some 15)), some (.inl (some 2000003)), some (zi y107), none]) (st' := []) (by decide +kernel) (fun k q => by cases q) rfl ?_
  refine y_same (i := .iload_n 2) (len := 1) (r := (0, 0, 0, 0)) (pc' := 7) (ls' := [some (.inl (some 15)), some (.inl (some 2000003)), some (zi y107), none]) (st' := [zi y107]) (by decide +kernel) (fun k q => by cases q) rfl ?_
  refine y_same (i := .aload_n 1) (len := 1) (r := (0, 0, 0, 0)) (pc' := 8) (ls' := [some (.inl (some 15)), some (.inl (some 2000003)), some (zi y107), none]) (st' := [.inl (some 2000003), zi y107]) (by decide +kernel) (fun k q => by cases q) rfl ?_
  refine y_cI (i := .invokevirtual 158) (len := 3) (r := (0, 268, 50, 955)) (nL := 1) (k := 1) (n := 1) (hs := []) (args := [.inl (some 2000003)]) (rest := [zi y107]) (l0 := [some (.inl (some 2000003))]) (by decide +kernel) (Or.inr (Or.inl ⟨_, rfl⟩)) rfl rfl rfl rfl (Nat.le_of_ble_eq_true rfl) rfl rfl (qI_le (by decide) tln3) (fun y108 qy108 hRy108 => ?_)
  obtain ⟨rfl, hy108⟩ := hRy108
  refine y_cF (c := .ge) (off := 44) (len := 3) (r := (0, 0, 0, 0)) (by decide +kernel) (acmpF (c := .ge) (by show _ < _; omega)) ?_
  refine y_same (i := .aload_n 0) (len := 1) (r := (0, 0, 0, 0)) (pc' := 15) (ls' := [some (.inl (some 15)), some (.inl (some 2000003)), some (zi y107), none]) (st' := [.inl (some 15)]) (by decide +kernel) (fun k q => by cases q) rfl ?_
  refine y_get (j := 26) (len := 3) (r := (5, 3, 0, 243)) (by decide +kernel) O106.2.1 (tv15 O106.2.1) aw15 rfl rfl ha106 ?_
  refine y_same (i := .iload_n 2) (len := 1) (r := (0, 0, 0, 0)) (pc' := 19) (ls' := [some (.inl (some 15)), some (.inl (some 2000003)), some (zi y107), none]) (st' := [zi y107, zi xa106]) (by decide +kernel) (fun k q => by cases q) rfl ?_
  refine y_add (len := 1) (r := (0, 0, 0, 0)) (by decide +kernel) (by omega) (by omega) (fun y109 hy109 => ?_)
  refine y_same (i := .istore_n 3) (len := 1) (r := (0, 0, 0, 0)) (pc' := 21) (ls' := [some (.inl (some 15)), some (.inl (some 2000003)), some (zi y107), some (zi y109)]) (st' := []) (by decide +kernel) (fun k q => by cases q) rfl ?_
  refine y_same (i := .iload_n 3) (len := 1) (r := (0, 0, 0, 0)) (pc' := 22) (ls' := [some (.inl (some 15)), some (.inl (some 2000003)), some (zi y107), some (zi y109)]) (st' := [zi y109]) (by decide +kernel) (fun k q => by cases q) rfl ?_
  refine y_iF (c := .lt) (off := 25) (len := 3) (r := (0, 0, 0, 0)) (by decide +kernel) (acmpF (c := .lt) (by show _ ≤ _; omega)) ?_
  refine y_same (i := .iload_n 3) (len := 1) (r := (0, 0, 0, 0)) (pc' := 26) (ls' := [some (.inl (some 15)), some (.inl (some 2000003)), some (zi y107), some (zi y109)]) (st' := [zi y109]) (by decide +kernel) (fun k q => by cases q) rfl ?_
  refine y_same (i := .aload_n 0) (len := 1) (r := (0, 0, 0, 0)) (pc' := 27) (ls' := [some (.inl (some 15)), some (.inl (some 2000003)), some (zi y107), some (zi y109)]) (st' := [.inl (some 15), zi y109]) (by decide +kernel) (fun k q => by cases q) rfl ?_
  refine y_get (j := 22) (len := 3) (r := (5, 2, 0, 242)) (by decide +kernel) O106.2.1 (tv15 O106.2.1) aw15 rfl rfl hn106 ?_
  rcases Decidable.em (y109.toInt ≥ xn106.toInt) with q110 | q110
  ·
    refine y_cT (c := .ge) (off := 17) (pc' := 47) (len := 3) (r := (0, 0, 0, 0)) (by decide +kernel) (acmpT (c := .ge) (by show _ ≤ _; omega)) (by decide +kernel) ?_
    refine y_ic (c := 0) (len := 1) (r := (0, 0, 0, 0)) (by decide +kernel) (by decide) (fun y111 hy111 => ?_)
    refine y_rI (len := 1) (r := (0, 0, 0, 0)) (nL := 4) (k := 2) (n9 := 2) (hs := []) (by decide +kernel) rfl (zfit_b (by omega) (by omega)).2 ?_
    exact ⟨_, ⟨O106.1, O106.2.1, fun k T j hk (hC : k ≠ 15 ∨ j ≠ 3) => (O106.2.2 k T j hk (show k ≠ 15 ∨ j ≠ 3 by omega))⟩, Or.inr ⟨sgn_n (mt_n (by rw [bt_ge (by omega)]; decide)), by omega, rd106⟩⟩
  ·
    refine y_cF (c := .ge) (off := 17) (len := 3) (r := (0, 0, 0, 0)) (by decide +kernel) (acmpF (c := .ge) (by show _ < _; omega)) ?_
    refine y_same (i := .aload_n 0) (len := 1) (r := (0, 0, 0, 0)) (pc' := 34) (ls' := [some (.inl (some 15)), some (.inl (some 2000003)), some (zi y107), some (zi y109)]) (st' := [.inl (some 15)]) (by decide +kernel) (fun k q => by cases q) rfl ?_
    refine y_get (j := 18) (len := 3) (r := (5, 1, 2, 241)) (by decide +kernel) O106.2.1 (tv15 O106.2.1) aw15 rfl rfl (g_rU (f := 1) (T2 := 27) O106.2.1 (tv15 O106.2.1) aw15 rfl (by decide)) ?_
    refine y_same (i := .iload_n 3) (len := 1) (r := (0, 0, 0, 0)) (pc' := 38) (ls' := [some (.inl (some 15)), some (.inl (some 2000003)), some (zi y107), some (zi y109)]) (st' := [zi y109, .inl (some 27)]) (by decide +kernel) (fun k q => by cases q) rfl ?_
    obtain ⟨v112, hv113, ev112⟩ := hb106 (sk b n a) (by omega)
    refine y_ial (i := (sk b n a)) (len := 1) (r := (0, 0, 0, 0)) (by decide +kernel) O106.2.1 (tv27 O106.2.1) aw27 (by omega) hv113 ?_
    refine y_same (i := .aload_n 1) (len := 1) (r := (0, 0, 0, 0)) (pc' := 40) (ls' := [some (.inl (some 15)), some (.inl (some 2000003)), some (zi y107), some (zi y109)]) (st' := [.inl (some 2000003), zi v112]) (by decide +kernel) (fun k q => by cases q) rfl ?_
    refine y_same (i := .iload_n 2) (len := 1) (r := (0, 0, 0, 0)) (pc' := 41) (ls' := [some (.inl (some 15)), some (.inl (some 2000003)), some (zi y107), some (zi y109)]) (st' := [zi y107, .inl (some 2000003), zi v112]) (by decide +kernel) (fun k q => by cases q) rfl ?_
    refine y_cI (i := .invokevirtual 162) (len := 3) (r := (0, 269, 50, 969)) (nL := 2) (k := 5) (n := 2) (hs := []) (args := [.inl (some 2000003), zi y107]) (rest := [zi v112]) (l0 := [some (.inl (some 2000003)), some (zi y107)]) (by decide +kernel) (Or.inr (Or.inl ⟨_, rfl⟩)) rfl rfl rfl rfl (Nat.le_of_ble_eq_true rfl) rfl rfl (qI_le (by decide) (tch3_0 (by omega))) (fun y114 qy114 hRy114 => ?_)
    obtain ⟨rfl, hy114⟩ := hRy114
    rcases Decidable.em (v112.toInt = y114.toInt) with q115 | q115
    ·
      have m0 : bt b n (sk b n a) = 44 := by rw [bt_lt (by omega)]; omega
      refine y_cT (c := .eq) (off := 5) (pc' := 49) (len := 3) (r := (0, 0, 0, 0)) (by decide +kernel) (acmpT (c := .eq) (by show _ = _; omega)) (by decide +kernel) ?_
      refine y_inc (j := 2) (a := y107) (c := 1) (ls' := fun v => [some (.inl (some 15)), some (.inl (some 2000003)), some v, some (zi y109)]) (len := 3) (r := (0, 0, 0, 0)) (by decide +kernel) rfl (fun _ => rfl) (by decide) (by omega) (by omega) (fun y117 hy117 => ?_)
      show qX 7 57 52 [some (.inl (some 15)), some (.inl (some 2000003)), some (zi y117), some (zi y109)] [] h106 t _
      refine y_goto (off := (-46)) (pc' := 6) (len := 3) (r := (0, 0, 0, 0)) (by decide +kernel) (by decide +kernel) ?_
      refine y_same (i := .iload_n 2) (len := 1) (r := (0, 0, 0, 0)) (pc' := 7) (ls' := [some (.inl (some 15)), some (.inl (some 2000003)), some (zi y117), some (zi y109)]) (st' := [zi y117]) (by decide +kernel) (fun k q => by cases q) rfl ?_
      refine y_same (i := .aload_n 1) (len := 1) (r := (0, 0, 0, 0)) (pc' := 8) (ls' := [some (.inl (some 15)), some (.inl (some 2000003)), some (zi y117), some (zi y109)]) (st' := [.inl (some 2000003), zi y117]) (by decide +kernel) (fun k q => by cases q) rfl ?_
      refine y_cI (i := .invokevirtual 158) (len := 3) (r := (0, 268, 50, 955)) (nL := 1) (k := 1) (n := 1) (hs := []) (args := [.inl (some 2000003)]) (rest := [zi y117]) (l0 := [some (.inl (some 2000003))]) (by decide +kernel) (Or.inr (Or.inl ⟨_, rfl⟩)) rfl rfl rfl rfl (Nat.le_of_ble_eq_true rfl) rfl rfl (qI_le (by decide) tln3) (fun y118 qy118 hRy118 => ?_)
      obtain ⟨rfl, hy118⟩ := hRy118
      refine y_cT (c := .ge) (off := 44) (pc' := 55) (len := 3) (r := (0, 0, 0, 0)) (by decide +kernel) (acmpT (c := .ge) (by show _ ≤ _; omega)) (by decide +kernel) ?_
      refine y_same (i := .aload_n 0) (len := 1) (r := (0, 0, 0, 0)) (pc' := 56) (ls' := [some (.inl (some 15)), some (.inl (some 2000003)), some (zi y117), some (zi y109)]) (st' := [.inl (some 15)]) (by decide +kernel) (fun k q => by cases q) rfl ?_
      refine y_same (i := .dup) (len := 1) (r := (0, 0, 0, 0)) (pc' := 57) (ls' := [some (.inl (some 15)), some (.inl (some 2000003)), some (zi y117), some (zi y109)]) (st' := [.inl (some 15), .inl (some 15)]) (by decide +kernel) (fun k q => by cases q) rfl ?_
      refine y_get (j := 26) (len := 3) (r := (5, 3, 0, 243)) (by decide +kernel) O106.2.1 (tv15 O106.2.1) aw15 rfl rfl ha106 ?_
      refine y_same (i := .aload_n 1) (len := 1) (r := (0, 0, 0, 0)) (pc' := 61) (ls' := [some (.inl (some 15)), some (.inl (some 2000003)), some (zi y117), some (zi y109)]) (st' := [.inl (some 2000003), zi xa106, .inl (some 15)]) (by decide +kernel) (fun k q => by cases q) rfl ?_
      refine y_cI (i := .invokevirtual 158) (len := 3) (r := (0, 268, 50, 955)) (nL := 1) (k := 1) (n := 1) (hs := []) (args := [.inl (some 2000003)]) (rest := [zi xa106, .inl (some 15)]) (l0 := [some (.inl (some 2000003))]) (by decide +kernel) (Or.inr (Or.inl ⟨_, rfl⟩)) rfl rfl rfl rfl (Nat.le_of_ble_eq_true rfl) rfl rfl (qI_le (by decide) tln3) (fun y119 qy119 hRy119 => ?_)
      obtain ⟨rfl, hy119⟩ := hRy119
      refine y_add (len := 1) (r := (0, 0, 0, 0)) (by decide +kernel) (by omega) (by omega) (fun y120 hy120 => ?_)
      refine y_put (j := 26) (lo := (-2147483648)) (hi := 2147483647) (len := 3) (r := (5, 3, 0, 243)) (by decide +kernel) O106.2.1 (tv15 O106.2.1) aw15 rfl rfl (by decide) rfl (qin_full _).1 (qin_full _).2 rfl (fun h121 hg121 hl121 hs121 ho121 => ?_)
      have ho121 : hO 15 3 h106 h121 := ho121
      have hs121 : hsl h121 15 3 = some (zi y120) := hs121
      refine y_ic (c := 1) (len := 1) (r := (0, 0, 0, 0)) (by decide +kernel) (by decide) (fun y122 hy122 => ?_)
      refine y_rI (len := 1) (r := (0, 0, 0, 0)) (nL := 4) (k := 2) (n9 := 2) (hs := []) (by decide +kernel) rfl (zfit_b (by omega) (by omega)).2 ?_
      refine ⟨_, ⟨O106.1, hg121, fun k T j hk (hC : k ≠ 15 ∨ j ≠ 3) => ((ho121 k j (by omega)).trans (O106.2.2 k T j hk (show k ≠ 15 ∨ j ≠ 3 by omega)))⟩, Or.inl ⟨sk b n a + 1, sgn_y (w := [44]) (mt_c (a' := sk b n a + 1) m0 (by omega) rfl), by omega, by omega, ?_⟩⟩
      exact rdc_up O106.2.1 rd106 ⟨(aup_refl _), hg121, fun k T j hk (hC : k ≠ 15 ∨ j ≠ 3) => (ho121 k j (by omega))⟩ ⟨_, hs121, by omega⟩
    ·
      refine y_cF (c := .eq) (off := 5) (len := 3) (r := (0, 0, 0, 0)) (by decide +kernel) (acmpF (c := .eq) (by show ¬ (_ = _); omega)) ?_
      refine y_ic (c := 0) (len := 1) (r := (0, 0, 0, 0)) (by decide +kernel) (by decide) (fun y116 hy116 => ?_)
      refine y_rI (len := 1) (r := (0, 0, 0, 0)) (nL := 4) (k := 2) (n9 := 2) (hs := []) (by decide +kernel) rfl (zfit_b (by omega) (by omega)).2 ?_
      exact ⟨_, ⟨O106.1, O106.2.1, fun k T j hk (hC : k ≠ 15 ∨ j ≠ 3) => (O106.2.2 k T j hk (show k ≠ 15 ∨ j ≠ 3 by omega))⟩, Or.inr ⟨sgn_n (mt_n (by rw [bt_lt (by omega)]; omega)), by omega, rd106⟩⟩
theorem e_sign4 {t n a : Nat} {b : Nat → Int} {τ : List Nat} {h : zh} (hg : hG τ h) (rd : rdC h n a b) (han : a ≤ n) : qI 8 57 [some (.inl (some 15)), some (.inl (some 2000004)), none, none] h t (fun y h1 => ∃ τ1, oF (fun k j => k ≠ 15 ∨ j ≠ 3) τ h τ1 h1 ∧ ((∃ a', sgn b n [41] a = some a' ∧ a' ≤ n ∧ y.toInt = 1 ∧ rdC h1 n a' b) ∨ (sgn b n [41] a = none ∧ y.toInt = 0 ∧ rdC h1 n (sk b n a) b))) := by
  obtain ⟨⟨xn, hn, en⟩, ⟨xa, ha, ea⟩, hb, hn2⟩ := id rd
  refine qI_of ?_
  refine y_same (i := .aload_n 0) (len := 1) (r := (0, 0, 0, 0)) (pc' := 1) (ls' := [some (.inl (some 15)), some (.inl (some 2000004)), none, none]) (st' := [.inl (some 15)]) (by decide +kernel) (fun k q => by cases q) rfl ?_
  refine y_cV (i := .invokevirtual 89) (len := 3) (r := (0, 60, 5, 947)) (nL := 1) (k := 0) (n := 1) (hs := []) (args := [.inl (some 15)]) (rest := []) (l0 := [some (.inl (some 15))]) (by decide +kernel) (Or.inr (Or.inl ⟨_, rfl⟩)) rfl rfl rfl rfl (Nat.le_of_ble_eq_true rfl) (zO hg (tv15 hg) aw15 rfl) rfl (qV_le (by decide) (e_skip hg rd (by omega))) (fun h123 hR123 => ?_)
  obtain ⟨τ123, O123, rd123⟩ := hR123
  obtain ⟨⟨xn123, hn123, en123⟩, ⟨xa123, ha123, ea123⟩, hb123, -⟩ := id rd123
  have sl123 := sk_le (b := b) (n := n) (a := a) (by omega)
  refine y_ic (c := 0) (len := 1) (r := (0, 0, 0, 0)) (by decide +kernel) (by decide) (fun y124 hy124 => ?_)
  refine y_same (i := .istore_n 2) (len := 1) (r := (0, 0, 0, 0)) (pc' := 6) (ls' := [some (.inl (some 15)), some (.inl (some 2000004)), some (zi y124), none]) (st' := []) (by decide +kernel) (fun k q => by cases q) rfl ?_
  refine y_same (i := .iload_n 2) (len := 1) (r := (0, 0, 0, 0)) (pc' := 7) (ls' := [some (.inl (some 15)), some (.inl (some 2000004)), some (zi y124), none]) (st' := [zi y124]) (by decide +kernel) (fun k q => by cases q) rfl ?_
  refine y_same (i := .aload_n 1) (len := 1) (r := (0, 0, 0, 0)) (pc' := 8) (ls' := [some (.inl (some 15)), some (.inl (some 2000004)), some (zi y124), none]) (st' := [.inl (some 2000004), zi y124]) (by decide +kernel) (fun k q => by cases q) rfl ?_
  refine y_cI (i := .invokevirtual 158) (len := 3) (r := (0, 268, 50, 955)) (nL := 1) (k := 1) (n := 1) (hs := []) (args := [.inl (some 2000004)]) (rest := [zi y124]) (l0 := [some (.inl (some 2000004))]) (by decide +kernel) (Or.inr (Or.inl ⟨_, rfl⟩)) rfl rfl rfl rfl (Nat.le_of_ble_eq_true rfl) rfl rfl (qI_le (by decide) tln4) (fun y125 qy125 hRy125 => ?_)
  obtain ⟨rfl, hy125⟩ := hRy125
  refine y_cF (c := .ge) (off := 44) (len := 3) (r := (0, 0, 0, 0)) (by decide +kernel) (acmpF (c := .ge) (by show _ < _; omega)) ?_
  refine y_same (i := .aload_n 0) (len := 1) (r := (0, 0, 0, 0)) (pc' := 15) (ls' := [some (.inl (some 15)), some (.inl (some 2000004)), some (zi y124), none]) (st' := [.inl (some 15)]) (by decide +kernel) (fun k q => by cases q) rfl ?_
  refine y_get (j := 26) (len := 3) (r := (5, 3, 0, 243)) (by decide +kernel) O123.2.1 (tv15 O123.2.1) aw15 rfl rfl ha123 ?_
  refine y_same (i := .iload_n 2) (len := 1) (r := (0, 0, 0, 0)) (pc' := 19) (ls' := [some (.inl (some 15)), some (.inl (some 2000004)), some (zi y124), none]) (st' := [zi y124, zi xa123]) (by decide +kernel) (fun k q => by cases q) rfl ?_
  refine y_add (len := 1) (r := (0, 0, 0, 0)) (by decide +kernel) (by omega) (by omega) (fun y126 hy126 => ?_)
  refine y_same (i := .istore_n 3) (len := 1) (r := (0, 0, 0, 0)) (pc' := 21) (ls' := [some (.inl (some 15)), some (.inl (some 2000004)), some (zi y124), some (zi y126)]) (st' := []) (by decide +kernel) (fun k q => by cases q) rfl ?_
  refine y_same (i := .iload_n 3) (len := 1) (r := (0, 0, 0, 0)) (pc' := 22) (ls' := [some (.inl (some 15)), some (.inl (some 2000004)), some (zi y124), some (zi y126)]) (st' := [zi y126]) (by decide +kernel) (fun k q => by cases q) rfl ?_
  refine y_iF (c := .lt) (off := 25) (len := 3) (r := (0, 0, 0, 0)) (by decide +kernel) (acmpF (c := .lt) (by show _ ≤ _; omega)) ?_
  refine y_same (i := .iload_n 3) (len := 1) (r := (0, 0, 0, 0)) (pc' := 26) (ls' := [some (.inl (some 15)), some (.inl (some 2000004)), some (zi y124), some (zi y126)]) (st' := [zi y126]) (by decide +kernel) (fun k q => by cases q) rfl ?_
  refine y_same (i := .aload_n 0) (len := 1) (r := (0, 0, 0, 0)) (pc' := 27) (ls' := [some (.inl (some 15)), some (.inl (some 2000004)), some (zi y124), some (zi y126)]) (st' := [.inl (some 15), zi y126]) (by decide +kernel) (fun k q => by cases q) rfl ?_
  refine y_get (j := 22) (len := 3) (r := (5, 2, 0, 242)) (by decide +kernel) O123.2.1 (tv15 O123.2.1) aw15 rfl rfl hn123 ?_
  rcases Decidable.em (y126.toInt ≥ xn123.toInt) with q127 | q127
  ·
    refine y_cT (c := .ge) (off := 17) (pc' := 47) (len := 3) (r := (0, 0, 0, 0)) (by decide +kernel) (acmpT (c := .ge) (by show _ ≤ _; omega)) (by decide +kernel) ?_
    refine y_ic (c := 0) (len := 1) (r := (0, 0, 0, 0)) (by decide +kernel) (by decide) (fun y128 hy128 => ?_)
    refine y_rI (len := 1) (r := (0, 0, 0, 0)) (nL := 4) (k := 2) (n9 := 2) (hs := []) (by decide +kernel) rfl (zfit_b (by omega) (by omega)).2 ?_
    exact ⟨_, ⟨O123.1, O123.2.1, fun k T j hk (hC : k ≠ 15 ∨ j ≠ 3) => (O123.2.2 k T j hk (show k ≠ 15 ∨ j ≠ 3 by omega))⟩, Or.inr ⟨sgn_n (mt_n (by rw [bt_ge (by omega)]; decide)), by omega, rd123⟩⟩
  ·
    refine y_cF (c := .ge) (off := 17) (len := 3) (r := (0, 0, 0, 0)) (by decide +kernel) (acmpF (c := .ge) (by show _ < _; omega)) ?_
    refine y_same (i := .aload_n 0) (len := 1) (r := (0, 0, 0, 0)) (pc' := 34) (ls' := [some (.inl (some 15)), some (.inl (some 2000004)), some (zi y124), some (zi y126)]) (st' := [.inl (some 15)]) (by decide +kernel) (fun k q => by cases q) rfl ?_
    refine y_get (j := 18) (len := 3) (r := (5, 1, 2, 241)) (by decide +kernel) O123.2.1 (tv15 O123.2.1) aw15 rfl rfl (g_rU (f := 1) (T2 := 27) O123.2.1 (tv15 O123.2.1) aw15 rfl (by decide)) ?_
    refine y_same (i := .iload_n 3) (len := 1) (r := (0, 0, 0, 0)) (pc' := 38) (ls' := [some (.inl (some 15)), some (.inl (some 2000004)), some (zi y124), some (zi y126)]) (st' := [zi y126, .inl (some 27)]) (by decide +kernel) (fun k q => by cases q) rfl ?_
    obtain ⟨v129, hv130, ev129⟩ := hb123 (sk b n a) (by omega)
    refine y_ial (i := (sk b n a)) (len := 1) (r := (0, 0, 0, 0)) (by decide +kernel) O123.2.1 (tv27 O123.2.1) aw27 (by omega) hv130 ?_
    refine y_same (i := .aload_n 1) (len := 1) (r := (0, 0, 0, 0)) (pc' := 40) (ls' := [some (.inl (some 15)), some (.inl (some 2000004)), some (zi y124), some (zi y126)]) (st' := [.inl (some 2000004), zi v129]) (by decide +kernel) (fun k q => by cases q) rfl ?_
    refine y_same (i := .iload_n 2) (len := 1) (r := (0, 0, 0, 0)) (pc' := 41) (ls' := [some (.inl (some 15)), some (.inl (some 2000004)), some (zi y124), some (zi y126)]) (st' := [zi y124, .inl (some 2000004), zi v129]) (by decide +kernel) (fun k q => by cases q) rfl ?_
    refine y_cI (i := .invokevirtual 162) (len := 3) (r := (0, 269, 50, 969)) (nL := 2) (k := 5) (n := 2) (hs := []) (args := [.inl (some 2000004), zi y124]) (rest := [zi v129]) (l0 := [some (.inl (some 2000004)), some (zi y124)]) (by decide +kernel) (Or.inr (Or.inl ⟨_, rfl⟩)) rfl rfl rfl rfl (Nat.le_of_ble_eq_true rfl) rfl rfl (qI_le (by decide) (tch4_0 (by omega))) (fun y131 qy131 hRy131 => ?_)
    obtain ⟨rfl, hy131⟩ := hRy131
    rcases Decidable.em (v129.toInt = y131.toInt) with q132 | q132
    ·
      have m0 : bt b n (sk b n a) = 41 := by rw [bt_lt (by omega)]; omega
      refine y_cT (c := .eq) (off := 5) (pc' := 49) (len := 3) (r := (0, 0, 0, 0)) (by decide +kernel) (acmpT (c := .eq) (by show _ = _; omega)) (by decide +kernel) ?_
      refine y_inc (j := 2) (a := y124) (c := 1) (ls' := fun v => [some (.inl (some 15)), some (.inl (some 2000004)), some v, some (zi y126)]) (len := 3) (r := (0, 0, 0, 0)) (by decide +kernel) rfl (fun _ => rfl) (by decide) (by omega) (by omega) (fun y134 hy134 => ?_)
      show qX 7 57 52 [some (.inl (some 15)), some (.inl (some 2000004)), some (zi y134), some (zi y126)] [] h123 t _
      refine y_goto (off := (-46)) (pc' := 6) (len := 3) (r := (0, 0, 0, 0)) (by decide +kernel) (by decide +kernel) ?_
      refine y_same (i := .iload_n 2) (len := 1) (r := (0, 0, 0, 0)) (pc' := 7) (ls' := [some (.inl (some 15)), some (.inl (some 2000004)), some (zi y134), some (zi y126)]) (st' := [zi y134]) (by decide +kernel) (fun k q => by cases q) rfl ?_
      refine y_same (i := .aload_n 1) (len := 1) (r := (0, 0, 0, 0)) (pc' := 8) (ls' := [some (.inl (some 15)), some (.inl (some 2000004)), some (zi y134), some (zi y126)]) (st' := [.inl (some 2000004), zi y134]) (by decide +kernel) (fun k q => by cases q) rfl ?_
      refine y_cI (i := .invokevirtual 158) (len := 3) (r := (0, 268, 50, 955)) (nL := 1) (k := 1) (n := 1) (hs := []) (args := [.inl (some 2000004)]) (rest := [zi y134]) (l0 := [some (.inl (some 2000004))]) (by decide +kernel) (Or.inr (Or.inl ⟨_, rfl⟩)) rfl rfl rfl rfl (Nat.le_of_ble_eq_true rfl) rfl rfl (qI_le (by decide) tln4) (fun y135 qy135 hRy135 => ?_)
      obtain ⟨rfl, hy135⟩ := hRy135
      refine y_cT (c := .ge) (off := 44) (pc' := 55) (len := 3) (r := (0, 0, 0, 0)) (by decide +kernel) (acmpT (c := .ge) (by show _ ≤ _; omega)) (by decide +kernel) ?_
      refine y_same (i := .aload_n 0) (len := 1) (r := (0, 0, 0, 0)) (pc' := 56) (ls' := [some (.inl (some 15)), some (.inl (some 2000004)), some (zi y134), some (zi y126)]) (st' := [.inl (some 15)]) (by decide +kernel) (fun k q => by cases q) rfl ?_
      refine y_same (i := .dup) (len := 1) (r := (0, 0, 0, 0)) (pc' := 57) (ls' := [some (.inl (some 15)), some (.inl (some 2000004)), some (zi y134), some (zi y126)]) (st' := [.inl (some 15), .inl (some 15)]) (by decide +kernel) (fun k q => by cases q) rfl ?_
      refine y_get (j := 26) (len := 3) (r := (5, 3, 0, 243)) (by decide +kernel) O123.2.1 (tv15 O123.2.1) aw15 rfl rfl ha123 ?_
      refine y_same (i := .aload_n 1) (len := 1) (r := (0, 0, 0, 0)) (pc' := 61) (ls' := [some (.inl (some 15)), some (.inl (some 2000004)), some (zi y134), some (zi y126)]) (st' := [.inl (some 2000004), zi xa123, .inl (some 15)]) (by decide +kernel) (fun k q => by cases q) rfl ?_
      refine y_cI (i := .invokevirtual 158) (len := 3) (r := (0, 268, 50, 955)) (nL := 1) (k := 1) (n := 1) (hs := []) (args := [.inl (some 2000004)]) (rest := [zi xa123, .inl (some 15)]) (l0 := [some (.inl (some 2000004))]) (by decide +kernel) (Or.inr (Or.inl ⟨_, rfl⟩)) rfl rfl rfl rfl (Nat.le_of_ble_eq_true rfl) rfl rfl (qI_le (by decide) tln4) (fun y136 qy136 hRy136 => ?_)
      obtain ⟨rfl, hy136⟩ := hRy136
      refine y_add (len := 1) (r := (0, 0, 0, 0)) (by decide +kernel) (by omega) (by omega) (fun y137 hy137 => ?_)
      refine y_put (j := 26) (lo := (-2147483648)) (hi := 2147483647) (len := 3) (r := (5, 3, 0, 243)) (by decide +kernel) O123.2.1 (tv15 O123.2.1) aw15 rfl rfl (by decide) rfl (qin_full _).1 (qin_full _).2 rfl (fun h138 hg138 hl138 hs138 ho138 => ?_)
      have ho138 : hO 15 3 h123 h138 := ho138
      have hs138 : hsl h138 15 3 = some (zi y137) := hs138
      refine y_ic (c := 1) (len := 1) (r := (0, 0, 0, 0)) (by decide +kernel) (by decide) (fun y139 hy139 => ?_)
      refine y_rI (len := 1) (r := (0, 0, 0, 0)) (nL := 4) (k := 2) (n9 := 2) (hs := []) (by decide +kernel) rfl (zfit_b (by omega) (by omega)).2 ?_
      refine ⟨_, ⟨O123.1, hg138, fun k T j hk (hC : k ≠ 15 ∨ j ≠ 3) => ((ho138 k j (by omega)).trans (O123.2.2 k T j hk (show k ≠ 15 ∨ j ≠ 3 by omega)))⟩, Or.inl ⟨sk b n a + 1, sgn_y (w := [41]) (mt_c (a' := sk b n a + 1) m0 (by omega) rfl), by omega, by omega, ?_⟩⟩
      exact rdc_up O123.2.1 rd123 ⟨(aup_refl _), hg138, fun k T j hk (hC : k ≠ 15 ∨ j ≠ 3) => (ho138 k j (by omega))⟩ ⟨_, hs138, by omega⟩
    ·
      refine y_cF (c := .eq) (off := 5) (len := 3) (r := (0, 0, 0, 0)) (by decide +kernel) (acmpF (c := .eq) (by show ¬ (_ = _); omega)) ?_
      refine y_ic (c := 0) (len := 1) (r := (0, 0, 0, 0)) (by decide +kernel) (by decide) (fun y133 hy133 => ?_)
      refine y_rI (len := 1) (r := (0, 0, 0, 0)) (nL := 4) (k := 2) (n9 := 2) (hs := []) (by decide +kernel) rfl (zfit_b (by omega) (by omega)).2 ?_
      exact ⟨_, ⟨O123.1, O123.2.1, fun k T j hk (hC : k ≠ 15 ∨ j ≠ 3) => (O123.2.2 k T j hk (show k ≠ 15 ∨ j ≠ 3 by omega))⟩, Or.inr ⟨sgn_n (mt_n (by rw [bt_lt (by omega)]; omega)), by omega, rd123⟩⟩
theorem e_sign5 {t n a : Nat} {b : Nat → Int} {τ : List Nat} {h : zh} (hg : hG τ h) (rd : rdC h n a b) (han : a ≤ n) : qI 8 57 [some (.inl (some 15)), some (.inl (some 2000005)), none, none] h t (fun y h1 => ∃ τ1, oF (fun k j => k ≠ 15 ∨ j ≠ 3) τ h τ1 h1 ∧ ((∃ a', sgn b n [116, 114, 101, 101] a = some a' ∧ a' ≤ n ∧ y.toInt = 1 ∧ rdC h1 n a' b) ∨ (sgn b n [116, 114, 101, 101] a = none ∧ y.toInt = 0 ∧ rdC h1 n (sk b n a) b))) := by
  obtain ⟨⟨xn, hn, en⟩, ⟨xa, ha, ea⟩, hb, hn2⟩ := id rd
  refine qI_of ?_
  refine y_same (i := .aload_n 0) (len := 1) (r := (0, 0, 0, 0)) (pc' := 1) (ls' := [some (.inl (some 15)), some (.inl (some 2000005)), none, none]) (st' := [.inl (some 15)]) (by decide +kernel) (fun k q => by cases q) rfl ?_
  refine y_cV (i := .invokevirtual 89) (len := 3) (r := (0, 60, 5, 947)) (nL := 1) (k := 0) (n := 1) (hs := []) (args := [.inl (some 15)]) (rest := []) (l0 := [some (.inl (some 15))]) (by decide +kernel) (Or.inr (Or.inl ⟨_, rfl⟩)) rfl rfl rfl rfl (Nat.le_of_ble_eq_true rfl) (zO hg (tv15 hg) aw15 rfl) rfl (qV_le (by decide) (e_skip hg rd (by omega))) (fun h140 hR140 => ?_)
  obtain ⟨τ140, O140, rd140⟩ := hR140
  obtain ⟨⟨xn140, hn140, en140⟩, ⟨xa140, ha140, ea140⟩, hb140, -⟩ := id rd140
  have sl140 := sk_le (b := b) (n := n) (a := a) (by omega)
  refine y_ic (c := 0) (len := 1) (r := (0, 0, 0, 0)) (by decide +kernel) (by decide) (fun y141 hy141 => ?_)
  refine y_same (i := .istore_n 2) (len := 1) (r := (0, 0, 0, 0)) (pc' := 6) (ls' := [some (.inl (some 15)), some (.inl (some 2000005)), some (zi y141), none]) (st' := []) (by decide +kernel) (fun k q => by cases q) rfl ?_
  refine y_same (i := .iload_n 2) (len := 1) (r := (0, 0, 0, 0)) (pc' := 7) (ls' := [some (.inl (some 15)), some (.inl (some 2000005)), some (zi y141), none]) (st' := [zi y141]) (by decide +kernel) (fun k q => by cases q) rfl ?_
  refine y_same (i := .aload_n 1) (len := 1) (r := (0, 0, 0, 0)) (pc' := 8) (ls' := [some (.inl (some 15)), some (.inl (some 2000005)), some (zi y141), none]) (st' := [.inl (some 2000005), zi y141]) (by decide +kernel) (fun k q => by cases q) rfl ?_
  refine y_cI (i := .invokevirtual 158) (len := 3) (r := (0, 268, 50, 955)) (nL := 1) (k := 1) (n := 1) (hs := []) (args := [.inl (some 2000005)]) (rest := [zi y141]) (l0 := [some (.inl (some 2000005))]) (by decide +kernel) (Or.inr (Or.inl ⟨_, rfl⟩)) rfl rfl rfl rfl (Nat.le_of_ble_eq_true rfl) rfl rfl (qI_le (by decide) tln5) (fun y142 qy142 hRy142 => ?_)
  obtain ⟨rfl, hy142⟩ := hRy142
  refine y_cF (c := .ge) (off := 44) (len := 3) (r := (0, 0, 0, 0)) (by decide +kernel) (acmpF (c := .ge) (by show _ < _; omega)) ?_
  refine y_same (i := .aload_n 0) (len := 1) (r := (0, 0, 0, 0)) (pc' := 15) (ls' := [some (.inl (some 15)), some (.inl (some 2000005)), some (zi y141), none]) (st' := [.inl (some 15)]) (by decide +kernel) (fun k q => by cases q) rfl ?_
  refine y_get (j := 26) (len := 3) (r := (5, 3, 0, 243)) (by decide +kernel) O140.2.1 (tv15 O140.2.1) aw15 rfl rfl ha140 ?_
  refine y_same (i := .iload_n 2) (len := 1) (r := (0, 0, 0, 0)) (pc' := 19) (ls' := [some (.inl (some 15)), some (.inl (some 2000005)), some (zi y141), none]) (st' := [zi y141, zi xa140]) (by decide +kernel) (fun k q => by cases q) rfl ?_
  refine y_add (len := 1) (r := (0, 0, 0, 0)) (by decide +kernel) (by omega) (by omega) (fun y143 hy143 => ?_)
  refine y_same (i := .istore_n 3) (len := 1) (r := (0, 0, 0, 0)) (pc' := 21) (ls' := [some (.inl (some 15)), some (.inl (some 2000005)), some (zi y141), some (zi y143)]) (st' := []) (by decide +kernel) (fun k q => by cases q) rfl ?_
  refine y_same (i := .iload_n 3) (len := 1) (r := (0, 0, 0, 0)) (pc' := 22) (ls' := [some (.inl (some 15)), some (.inl (some 2000005)), some (zi y141), some (zi y143)]) (st' := [zi y143]) (by decide +kernel) (fun k q => by cases q) rfl ?_
  refine y_iF (c := .lt) (off := 25) (len := 3) (r := (0, 0, 0, 0)) (by decide +kernel) (acmpF (c := .lt) (by show _ ≤ _; omega)) ?_
  refine y_same (i := .iload_n 3) (len := 1) (r := (0, 0, 0, 0)) (pc' := 26) (ls' := [some (.inl (some 15)), some (.inl (some 2000005)), some (zi y141), some (zi y143)]) (st' := [zi y143]) (by decide +kernel) (fun k q => by cases q) rfl ?_
  refine y_same (i := .aload_n 0) (len := 1) (r := (0, 0, 0, 0)) (pc' := 27) (ls' := [some (.inl (some 15)), some (.inl (some 2000005)), some (zi y141), some (zi y143)]) (st' := [.inl (some 15), zi y143]) (by decide +kernel) (fun k q => by cases q) rfl ?_
  refine y_get (j := 22) (len := 3) (r := (5, 2, 0, 242)) (by decide +kernel) O140.2.1 (tv15 O140.2.1) aw15 rfl rfl hn140 ?_
  rcases Decidable.em (y143.toInt ≥ xn140.toInt) with q144 | q144
  ·
    refine y_cT (c := .ge) (off := 17) (pc' := 47) (len := 3) (r := (0, 0, 0, 0)) (by decide +kernel) (acmpT (c := .ge) (by show _ ≤ _; omega)) (by decide +kernel) ?_
    refine y_ic (c := 0) (len := 1) (r := (0, 0, 0, 0)) (by decide +kernel) (by decide) (fun y145 hy145 => ?_)
    refine y_rI (len := 1) (r := (0, 0, 0, 0)) (nL := 4) (k := 2) (n9 := 2) (hs := []) (by decide +kernel) rfl (zfit_b (by omega) (by omega)).2 ?_
    exact ⟨_, ⟨O140.1, O140.2.1, fun k T j hk (hC : k ≠ 15 ∨ j ≠ 3) => (O140.2.2 k T j hk (show k ≠ 15 ∨ j ≠ 3 by omega))⟩, Or.inr ⟨sgn_n (mt_n (by rw [bt_ge (by omega)]; decide)), by omega, rd140⟩⟩
  ·
    refine y_cF (c := .ge) (off := 17) (len := 3) (r := (0, 0, 0, 0)) (by decide +kernel) (acmpF (c := .ge) (by show _ < _; omega)) ?_
    refine y_same (i := .aload_n 0) (len := 1) (r := (0, 0, 0, 0)) (pc' := 34) (ls' := [some (.inl (some 15)), some (.inl (some 2000005)), some (zi y141), some (zi y143)]) (st' := [.inl (some 15)]) (by decide +kernel) (fun k q => by cases q) rfl ?_
    refine y_get (j := 18) (len := 3) (r := (5, 1, 2, 241)) (by decide +kernel) O140.2.1 (tv15 O140.2.1) aw15 rfl rfl (g_rU (f := 1) (T2 := 27) O140.2.1 (tv15 O140.2.1) aw15 rfl (by decide)) ?_
    refine y_same (i := .iload_n 3) (len := 1) (r := (0, 0, 0, 0)) (pc' := 38) (ls' := [some (.inl (some 15)), some (.inl (some 2000005)), some (zi y141), some (zi y143)]) (st' := [zi y143, .inl (some 27)]) (by decide +kernel) (fun k q => by cases q) rfl ?_
    obtain ⟨v146, hv147, ev146⟩ := hb140 (sk b n a) (by omega)
    refine y_ial (i := (sk b n a)) (len := 1) (r := (0, 0, 0, 0)) (by decide +kernel) O140.2.1 (tv27 O140.2.1) aw27 (by omega) hv147 ?_
    refine y_same (i := .aload_n 1) (len := 1) (r := (0, 0, 0, 0)) (pc' := 40) (ls' := [some (.inl (some 15)), some (.inl (some 2000005)), some (zi y141), some (zi y143)]) (st' := [.inl (some 2000005), zi v146]) (by decide +kernel) (fun k q => by cases q) rfl ?_
    refine y_same (i := .iload_n 2) (len := 1) (r := (0, 0, 0, 0)) (pc' := 41) (ls' := [some (.inl (some 15)), some (.inl (some 2000005)), some (zi y141), some (zi y143)]) (st' := [zi y141, .inl (some 2000005), zi v146]) (by decide +kernel) (fun k q => by cases q) rfl ?_
    refine y_cI (i := .invokevirtual 162) (len := 3) (r := (0, 269, 50, 969)) (nL := 2) (k := 5) (n := 2) (hs := []) (args := [.inl (some 2000005), zi y141]) (rest := [zi v146]) (l0 := [some (.inl (some 2000005)), some (zi y141)]) (by decide +kernel) (Or.inr (Or.inl ⟨_, rfl⟩)) rfl rfl rfl rfl (Nat.le_of_ble_eq_true rfl) rfl rfl (qI_le (by decide) (tch5_0 (by omega))) (fun y148 qy148 hRy148 => ?_)
    obtain ⟨rfl, hy148⟩ := hRy148
    rcases Decidable.em (v146.toInt = y148.toInt) with q149 | q149
    ·
      have m0 : bt b n (sk b n a) = 116 := by rw [bt_lt (by omega)]; omega
      refine y_cT (c := .eq) (off := 5) (pc' := 49) (len := 3) (r := (0, 0, 0, 0)) (by decide +kernel) (acmpT (c := .eq) (by show _ = _; omega)) (by decide +kernel) ?_
      refine y_inc (j := 2) (a := y141) (c := 1) (ls' := fun v => [some (.inl (some 15)), some (.inl (some 2000005)), some v, some (zi y143)]) (len := 3) (r := (0, 0, 0, 0)) (by decide +kernel) rfl (fun _ => rfl) (by decide) (by omega) (by omega) (fun y151 hy151 => ?_)
      show qX 7 57 52 [some (.inl (some 15)), some (.inl (some 2000005)), some (zi y151), some (zi y143)] [] h140 t _
      refine y_goto (off := (-46)) (pc' := 6) (len := 3) (r := (0, 0, 0, 0)) (by decide +kernel) (by decide +kernel) ?_
      refine y_same (i := .iload_n 2) (len := 1) (r := (0, 0, 0, 0)) (pc' := 7) (ls' := [some (.inl (some 15)), some (.inl (some 2000005)), some (zi y151), some (zi y143)]) (st' := [zi y151]) (by decide +kernel) (fun k q => by cases q) rfl ?_
      refine y_same (i := .aload_n 1) (len := 1) (r := (0, 0, 0, 0)) (pc' := 8) (ls' := [some (.inl (some 15)), some (.inl (some 2000005)), some (zi y151), some (zi y143)]) (st' := [.inl (some 2000005), zi y151]) (by decide +kernel) (fun k q => by cases q) rfl ?_
      refine y_cI (i := .invokevirtual 158) (len := 3) (r := (0, 268, 50, 955)) (nL := 1) (k := 1) (n := 1) (hs := []) (args := [.inl (some 2000005)]) (rest := [zi y151]) (l0 := [some (.inl (some 2000005))]) (by decide +kernel) (Or.inr (Or.inl ⟨_, rfl⟩)) rfl rfl rfl rfl (Nat.le_of_ble_eq_true rfl) rfl rfl (qI_le (by decide) tln5) (fun y152 qy152 hRy152 => ?_)
      obtain ⟨rfl, hy152⟩ := hRy152
      refine y_cF (c := .ge) (off := 44) (len := 3) (r := (0, 0, 0, 0)) (by decide +kernel) (acmpF (c := .ge) (by show _ < _; omega)) ?_
      refine y_same (i := .aload_n 0) (len := 1) (r := (0, 0, 0, 0)) (pc' := 15) (ls' := [some (.inl (some 15)), some (.inl (some 2000005)), some (zi y151), some (zi y143)]) (st' := [.inl (some 15)]) (by decide +kernel) (fun k q => by cases q) rfl ?_
      refine y_get (j := 26) (len := 3) (r := (5, 3, 0, 243)) (by decide +kernel) O140.2.1 (tv15 O140.2.1) aw15 rfl rfl ha140 ?_
      refine y_same (i := .iload_n 2) (len := 1) (r := (0, 0, 0, 0)) (pc' := 19) (ls' := [some (.inl (some 15)), some (.inl (some 2000005)), some (zi y151), some (zi y143)]) (st' := [zi y151, zi xa140]) (by decide +kernel) (fun k q => by cases q) rfl ?_
      refine y_add (len := 1) (r := (0, 0, 0, 0)) (by decide +kernel) (by omega) (by omega) (fun y153 hy153 => ?_)
      refine y_same (i := .istore_n 3) (len := 1) (r := (0, 0, 0, 0)) (pc' := 21) (ls' := [some (.inl (some 15)), some (.inl (some 2000005)), some (zi y151), some (zi y153)]) (st' := []) (by decide +kernel) (fun k q => by cases q) rfl ?_
      refine y_same (i := .iload_n 3) (len := 1) (r := (0, 0, 0, 0)) (pc' := 22) (ls' := [some (.inl (some 15)), some (.inl (some 2000005)), some (zi y151), some (zi y153)]) (st' := [zi y153]) (by decide +kernel) (fun k q => by cases q) rfl ?_
      refine y_iF (c := .lt) (off := 25) (len := 3) (r := (0, 0, 0, 0)) (by decide +kernel) (acmpF (c := .lt) (by show _ ≤ _; omega)) ?_
      refine y_same (i := .iload_n 3) (len := 1) (r := (0, 0, 0, 0)) (pc' := 26) (ls' := [some (.inl (some 15)), some (.inl (some 2000005)), some (zi y151), some (zi y153)]) (st' := [zi y153]) (by decide +kernel) (fun k q => by cases q) rfl ?_
      refine y_same (i := .aload_n 0) (len := 1) (r := (0, 0, 0, 0)) (pc' := 27) (ls' := [some (.inl (some 15)), some (.inl (some 2000005)), some (zi y151), some (zi y153)]) (st' := [.inl (some 15), zi y153]) (by decide +kernel) (fun k q => by cases q) rfl ?_
      refine y_get (j := 22) (len := 3) (r := (5, 2, 0, 242)) (by decide +kernel) O140.2.1 (tv15 O140.2.1) aw15 rfl rfl hn140 ?_
      rcases Decidable.em (y153.toInt ≥ xn140.toInt) with q154 | q154
      ·
        refine y_cT (c := .ge) (off := 17) (pc' := 47) (len := 3) (r := (0, 0, 0, 0)) (by decide +kernel) (acmpT (c := .ge) (by show _ ≤ _; omega)) (by decide +kernel) ?_
        refine y_ic (c := 0) (len := 1) (r := (0, 0, 0, 0)) (by decide +kernel) (by decide) (fun y155 hy155 => ?_)
        refine y_rI (len := 1) (r := (0, 0, 0, 0)) (nL := 4) (k := 2) (n9 := 2) (hs := []) (by decide +kernel) rfl (zfit_b (by omega) (by omega)).2 ?_
        exact ⟨_, ⟨O140.1, O140.2.1, fun k T j hk (hC : k ≠ 15 ∨ j ≠ 3) => (O140.2.2 k T j hk (show k ≠ 15 ∨ j ≠ 3 by omega))⟩, Or.inr ⟨sgn_n (mt_s (a' := sk b n a + 1) (by omega) (mt_n (by rw [bt_ge (by omega)]; decide))), by omega, rd140⟩⟩
      ·
        refine y_cF (c := .ge) (off := 17) (len := 3) (r := (0, 0, 0, 0)) (by decide +kernel) (acmpF (c := .ge) (by show _ < _; omega)) ?_
        refine y_same (i := .aload_n 0) (len := 1) (r := (0, 0, 0, 0)) (pc' := 34) (ls' := [some (.inl (some 15)), some (.inl (some 2000005)), some (zi y151), some (zi y153)]) (st' := [.inl (some 15)]) (by decide +kernel) (fun k q => by cases q) rfl ?_
        refine y_get (j := 18) (len := 3) (r := (5, 1, 2, 241)) (by decide +kernel) O140.2.1 (tv15 O140.2.1) aw15 rfl rfl (g_rU (f := 1) (T2 := 27) O140.2.1 (tv15 O140.2.1) aw15 rfl (by decide)) ?_
        refine y_same (i := .iload_n 3) (len := 1) (r := (0, 0, 0, 0)) (pc' := 38) (ls' := [some (.inl (some 15)), some (.inl (some 2000005)), some (zi y151), some (zi y153)]) (st' := [zi y153, .inl (some 27)]) (by decide +kernel) (fun k q => by cases q) rfl ?_
        obtain ⟨v156, hv157, ev156⟩ := hb140 (sk b n a + 1) (by omega)
        refine y_ial (i := (sk b n a + 1)) (len := 1) (r := (0, 0, 0, 0)) (by decide +kernel) O140.2.1 (tv27 O140.2.1) aw27 (by omega) hv157 ?_
        refine y_same (i := .aload_n 1) (len := 1) (r := (0, 0, 0, 0)) (pc' := 40) (ls' := [some (.inl (some 15)), some (.inl (some 2000005)), some (zi y151), some (zi y153)]) (st' := [.inl (some 2000005), zi v156]) (by decide +kernel) (fun k q => by cases q) rfl ?_
        refine y_same (i := .iload_n 2) (len := 1) (r := (0, 0, 0, 0)) (pc' := 41) (ls' := [some (.inl (some 15)), some (.inl (some 2000005)), some (zi y151), some (zi y153)]) (st' := [zi y151, .inl (some 2000005), zi v156]) (by decide +kernel) (fun k q => by cases q) rfl ?_
        refine y_cI (i := .invokevirtual 162) (len := 3) (r := (0, 269, 50, 969)) (nL := 2) (k := 5) (n := 2) (hs := []) (args := [.inl (some 2000005), zi y151]) (rest := [zi v156]) (l0 := [some (.inl (some 2000005)), some (zi y151)]) (by decide +kernel) (Or.inr (Or.inl ⟨_, rfl⟩)) rfl rfl rfl rfl (Nat.le_of_ble_eq_true rfl) rfl rfl (qI_le (by decide) (tch5_1 (by omega))) (fun y158 qy158 hRy158 => ?_)
        obtain ⟨rfl, hy158⟩ := hRy158
        rcases Decidable.em (v156.toInt = y158.toInt) with q159 | q159
        ·
          have m1 : bt b n (sk b n a + 1) = 114 := by rw [bt_lt (by omega)]; omega
          refine y_cT (c := .eq) (off := 5) (pc' := 49) (len := 3) (r := (0, 0, 0, 0)) (by decide +kernel) (acmpT (c := .eq) (by show _ = _; omega)) (by decide +kernel) ?_
          refine y_inc (j := 2) (a := y151) (c := 1) (ls' := fun v => [some (.inl (some 15)), some (.inl (some 2000005)), some v, some (zi y153)]) (len := 3) (r := (0, 0, 0, 0)) (by decide +kernel) rfl (fun _ => rfl) (by decide) (by omega) (by omega) (fun y161 hy161 => ?_)
          show qX 7 57 52 [some (.inl (some 15)), some (.inl (some 2000005)), some (zi y161), some (zi y153)] [] h140 t _
          refine y_goto (off := (-46)) (pc' := 6) (len := 3) (r := (0, 0, 0, 0)) (by decide +kernel) (by decide +kernel) ?_
          refine y_same (i := .iload_n 2) (len := 1) (r := (0, 0, 0, 0)) (pc' := 7) (ls' := [some (.inl (some 15)), some (.inl (some 2000005)), some (zi y161), some (zi y153)]) (st' := [zi y161]) (by decide +kernel) (fun k q => by cases q) rfl ?_
          refine y_same (i := .aload_n 1) (len := 1) (r := (0, 0, 0, 0)) (pc' := 8) (ls' := [some (.inl (some 15)), some (.inl (some 2000005)), some (zi y161), some (zi y153)]) (st' := [.inl (some 2000005), zi y161]) (by decide +kernel) (fun k q => by cases q) rfl ?_
          refine y_cI (i := .invokevirtual 158) (len := 3) (r := (0, 268, 50, 955)) (nL := 1) (k := 1) (n := 1) (hs := []) (args := [.inl (some 2000005)]) (rest := [zi y161]) (l0 := [some (.inl (some 2000005))]) (by decide +kernel) (Or.inr (Or.inl ⟨_, rfl⟩)) rfl rfl rfl rfl (Nat.le_of_ble_eq_true rfl) rfl rfl (qI_le (by decide) tln5) (fun y162 qy162 hRy162 => ?_)
          obtain ⟨rfl, hy162⟩ := hRy162
          refine y_cF (c := .ge) (off := 44) (len := 3) (r := (0, 0, 0, 0)) (by decide +kernel) (acmpF (c := .ge) (by show _ < _; omega)) ?_
          refine y_same (i := .aload_n 0) (len := 1) (r := (0, 0, 0, 0)) (pc' := 15) (ls' := [some (.inl (some 15)), some (.inl (some 2000005)), some (zi y161), some (zi y153)]) (st' := [.inl (some 15)]) (by decide +kernel) (fun k q => by cases q) rfl ?_
          refine y_get (j := 26) (len := 3) (r := (5, 3, 0, 243)) (by decide +kernel) O140.2.1 (tv15 O140.2.1) aw15 rfl rfl ha140 ?_
          refine y_same (i := .iload_n 2) (len := 1) (r := (0, 0, 0, 0)) (pc' := 19) (ls' := [some (.inl (some 15)), some (.inl (some 2000005)), some (zi y161), some (zi y153)]) (st' := [zi y161, zi xa140]) (by decide +kernel) (fun k q => by cases q) rfl ?_
          refine y_add (len := 1) (r := (0, 0, 0, 0)) (by decide +kernel) (by omega) (by omega) (fun y163 hy163 => ?_)
          refine y_same (i := .istore_n 3) (len := 1) (r := (0, 0, 0, 0)) (pc' := 21) (ls' := [some (.inl (some 15)), some (.inl (some 2000005)), some (zi y161), some (zi y163)]) (st' := []) (by decide +kernel) (fun k q => by cases q) rfl ?_
          refine y_same (i := .iload_n 3) (len := 1) (r := (0, 0, 0, 0)) (pc' := 22) (ls' := [some (.inl (some 15)), some (.inl (some 2000005)), some (zi y161), some (zi y163)]) (st' := [zi y163]) (by decide +kernel) (fun k q => by cases q) rfl ?_
          refine y_iF (c := .lt) (off := 25) (len := 3) (r := (0, 0, 0, 0)) (by decide +kernel) (acmpF (c := .lt) (by show _ ≤ _; omega)) ?_
          refine y_same (i := .iload_n 3) (len := 1) (r := (0, 0, 0, 0)) (pc' := 26) (ls' := [some (.inl (some 15)), some (.inl (some 2000005)), some (zi y161), some (zi y163)]) (st' := [zi y163]) (by decide +kernel) (fun k q => by cases q) rfl ?_
          refine y_same (i := .aload_n 0) (len := 1) (r := (0, 0, 0, 0)) (pc' := 27) (ls' := [some (.inl (some 15)), some (.inl (some 2000005)), some (zi y161), some (zi y163)]) (st' := [.inl (some 15), zi y163]) (by decide +kernel) (fun k q => by cases q) rfl ?_
          refine y_get (j := 22) (len := 3) (r := (5, 2, 0, 242)) (by decide +kernel) O140.2.1 (tv15 O140.2.1) aw15 rfl rfl hn140 ?_
          rcases Decidable.em (y163.toInt ≥ xn140.toInt) with q164 | q164
          ·
            refine y_cT (c := .ge) (off := 17) (pc' := 47) (len := 3) (r := (0, 0, 0, 0)) (by decide +kernel) (acmpT (c := .ge) (by show _ ≤ _; omega)) (by decide +kernel) ?_
            refine y_ic (c := 0) (len := 1) (r := (0, 0, 0, 0)) (by decide +kernel) (by decide) (fun y165 hy165 => ?_)
            refine y_rI (len := 1) (r := (0, 0, 0, 0)) (nL := 4) (k := 2) (n9 := 2) (hs := []) (by decide +kernel) rfl (zfit_b (by omega) (by omega)).2 ?_
            exact ⟨_, ⟨O140.1, O140.2.1, fun k T j hk (hC : k ≠ 15 ∨ j ≠ 3) => (O140.2.2 k T j hk (show k ≠ 15 ∨ j ≠ 3 by omega))⟩, Or.inr ⟨sgn_n (mt_s (a' := sk b n a + 1) (by omega) (mt_s (a' := sk b n a + 2) (by omega) (mt_n (by rw [bt_ge (by omega)]; decide)))), by omega, rd140⟩⟩
          ·
            refine y_cF (c := .ge) (off := 17) (len := 3) (r := (0, 0, 0, 0)) (by decide +kernel) (acmpF (c := .ge) (by show _ < _; omega)) ?_
            refine y_same (i := .aload_n 0) (len := 1) (r := (0, 0, 0, 0)) (pc' := 34) (ls' := [some (.inl (some 15)), some (.inl (some 2000005)), some (zi y161), some (zi y163)]) (st' := [.inl (some 15)]) (by decide +kernel) (fun k q => by cases q) rfl ?_
            refine y_get (j := 18) (len := 3) (r := (5, 1, 2, 241)) (by decide +kernel) O140.2.1 (tv15 O140.2.1) aw15 rfl rfl (g_rU (f := 1) (T2 := 27) O140.2.1 (tv15 O140.2.1) aw15 rfl (by decide)) ?_
            refine y_same (i := .iload_n 3) (len := 1) (r := (0, 0, 0, 0)) (pc' := 38) (ls' := [some (.inl (some 15)), some (.inl (some 2000005)), some (zi y161), some (zi y163)]) (st' := [zi y163, .inl (some 27)]) (by decide +kernel) (fun k q => by cases q) rfl ?_
            obtain ⟨v166, hv167, ev166⟩ := hb140 (sk b n a + 2) (by omega)
            refine y_ial (i := (sk b n a + 2)) (len := 1) (r := (0, 0, 0, 0)) (by decide +kernel) O140.2.1 (tv27 O140.2.1) aw27 (by omega) hv167 ?_
            refine y_same (i := .aload_n 1) (len := 1) (r := (0, 0, 0, 0)) (pc' := 40) (ls' := [some (.inl (some 15)), some (.inl (some 2000005)), some (zi y161), some (zi y163)]) (st' := [.inl (some 2000005), zi v166]) (by decide +kernel) (fun k q => by cases q) rfl ?_
            refine y_same (i := .iload_n 2) (len := 1) (r := (0, 0, 0, 0)) (pc' := 41) (ls' := [some (.inl (some 15)), some (.inl (some 2000005)), some (zi y161), some (zi y163)]) (st' := [zi y161, .inl (some 2000005), zi v166]) (by decide +kernel) (fun k q => by cases q) rfl ?_
            refine y_cI (i := .invokevirtual 162) (len := 3) (r := (0, 269, 50, 969)) (nL := 2) (k := 5) (n := 2) (hs := []) (args := [.inl (some 2000005), zi y161]) (rest := [zi v166]) (l0 := [some (.inl (some 2000005)), some (zi y161)]) (by decide +kernel) (Or.inr (Or.inl ⟨_, rfl⟩)) rfl rfl rfl rfl (Nat.le_of_ble_eq_true rfl) rfl rfl (qI_le (by decide) (tch5_2 (by omega))) (fun y168 qy168 hRy168 => ?_)
            obtain ⟨rfl, hy168⟩ := hRy168
            rcases Decidable.em (v166.toInt = y168.toInt) with q169 | q169
            ·
              have m2 : bt b n (sk b n a + 2) = 101 := by rw [bt_lt (by omega)]; omega
              refine y_cT (c := .eq) (off := 5) (pc' := 49) (len := 3) (r := (0, 0, 0, 0)) (by decide +kernel) (acmpT (c := .eq) (by show _ = _; omega)) (by decide +kernel) ?_
              refine y_inc (j := 2) (a := y161) (c := 1) (ls' := fun v => [some (.inl (some 15)), some (.inl (some 2000005)), some v, some (zi y163)]) (len := 3) (r := (0, 0, 0, 0)) (by decide +kernel) rfl (fun _ => rfl) (by decide) (by omega) (by omega) (fun y171 hy171 => ?_)
              show qX 7 57 52 [some (.inl (some 15)), some (.inl (some 2000005)), some (zi y171), some (zi y163)] [] h140 t _
              refine y_goto (off := (-46)) (pc' := 6) (len := 3) (r := (0, 0, 0, 0)) (by decide +kernel) (by decide +kernel) ?_
              refine y_same (i := .iload_n 2) (len := 1) (r := (0, 0, 0, 0)) (pc' := 7) (ls' := [some (.inl (some 15)), some (.inl (some 2000005)), some (zi y171), some (zi y163)]) (st' := [zi y171]) (by decide +kernel) (fun k q => by cases q) rfl ?_
              refine y_same (i := .aload_n 1) (len := 1) (r := (0, 0, 0, 0)) (pc' := 8) (ls' := [some (.inl (some 15)), some (.inl (some 2000005)), some (zi y171), some (zi y163)]) (st' := [.inl (some 2000005), zi y171]) (by decide +kernel) (fun k q => by cases q) rfl ?_
              refine y_cI (i := .invokevirtual 158) (len := 3) (r := (0, 268, 50, 955)) (nL := 1) (k := 1) (n := 1) (hs := []) (args := [.inl (some 2000005)]) (rest := [zi y171]) (l0 := [some (.inl (some 2000005))]) (by decide +kernel) (Or.inr (Or.inl ⟨_, rfl⟩)) rfl rfl rfl rfl (Nat.le_of_ble_eq_true rfl) rfl rfl (qI_le (by decide) tln5) (fun y172 qy172 hRy172 => ?_)
              obtain ⟨rfl, hy172⟩ := hRy172
              refine y_cF (c := .ge) (off := 44) (len := 3) (r := (0, 0, 0, 0)) (by decide +kernel) (acmpF (c := .ge) (by show _ < _; omega)) ?_
              refine y_same (i := .aload_n 0) (len := 1) (r := (0, 0, 0, 0)) (pc' := 15) (ls' := [some (.inl (some 15)), some (.inl (some 2000005)), some (zi y171), some (zi y163)]) (st' := [.inl (some 15)]) (by decide +kernel) (fun k q => by cases q) rfl ?_
              refine y_get (j := 26) (len := 3) (r := (5, 3, 0, 243)) (by decide +kernel) O140.2.1 (tv15 O140.2.1) aw15 rfl rfl ha140 ?_
              refine y_same (i := .iload_n 2) (len := 1) (r := (0, 0, 0, 0)) (pc' := 19) (ls' := [some (.inl (some 15)), some (.inl (some 2000005)), some (zi y171), some (zi y163)]) (st' := [zi y171, zi xa140]) (by decide +kernel) (fun k q => by cases q) rfl ?_
              refine y_add (len := 1) (r := (0, 0, 0, 0)) (by decide +kernel) (by omega) (by omega) (fun y173 hy173 => ?_)
              refine y_same (i := .istore_n 3) (len := 1) (r := (0, 0, 0, 0)) (pc' := 21) (ls' := [some (.inl (some 15)), some (.inl (some 2000005)), some (zi y171), some (zi y173)]) (st' := []) (by decide +kernel) (fun k q => by cases q) rfl ?_
              refine y_same (i := .iload_n 3) (len := 1) (r := (0, 0, 0, 0)) (pc' := 22) (ls' := [some (.inl (some 15)), some (.inl (some 2000005)), some (zi y171), some (zi y173)]) (st' := [zi y173]) (by decide +kernel) (fun k q => by cases q) rfl ?_
              refine y_iF (c := .lt) (off := 25) (len := 3) (r := (0, 0, 0, 0)) (by decide +kernel) (acmpF (c := .lt) (by show _ ≤ _; omega)) ?_
              refine y_same (i := .iload_n 3) (len := 1) (r := (0, 0, 0, 0)) (pc' := 26) (ls' := [some (.inl (some 15)), some (.inl (some 2000005)), some (zi y171), some (zi y173)]) (st' := [zi y173]) (by decide +kernel) (fun k q => by cases q) rfl ?_
              refine y_same (i := .aload_n 0) (len := 1) (r := (0, 0, 0, 0)) (pc' := 27) (ls' := [some (.inl (some 15)), some (.inl (some 2000005)), some (zi y171), some (zi y173)]) (st' := [.inl (some 15), zi y173]) (by decide +kernel) (fun k q => by cases q) rfl ?_
              refine y_get (j := 22) (len := 3) (r := (5, 2, 0, 242)) (by decide +kernel) O140.2.1 (tv15 O140.2.1) aw15 rfl rfl hn140 ?_
              rcases Decidable.em (y173.toInt ≥ xn140.toInt) with q174 | q174
              ·
                refine y_cT (c := .ge) (off := 17) (pc' := 47) (len := 3) (r := (0, 0, 0, 0)) (by decide +kernel) (acmpT (c := .ge) (by show _ ≤ _; omega)) (by decide +kernel) ?_
                refine y_ic (c := 0) (len := 1) (r := (0, 0, 0, 0)) (by decide +kernel) (by decide) (fun y175 hy175 => ?_)
                refine y_rI (len := 1) (r := (0, 0, 0, 0)) (nL := 4) (k := 2) (n9 := 2) (hs := []) (by decide +kernel) rfl (zfit_b (by omega) (by omega)).2 ?_
                exact ⟨_, ⟨O140.1, O140.2.1, fun k T j hk (hC : k ≠ 15 ∨ j ≠ 3) => (O140.2.2 k T j hk (show k ≠ 15 ∨ j ≠ 3 by omega))⟩, Or.inr ⟨sgn_n (mt_s (a' := sk b n a + 1) (by omega) (mt_s (a' := sk b n a + 2) (by omega) (mt_s (a' := sk b n a + 3) (by omega) (mt_n (by rw [bt_ge (by omega)]; decide))))), by omega, rd140⟩⟩
              ·
                refine y_cF (c := .ge) (off := 17) (len := 3) (r := (0, 0, 0, 0)) (by decide +kernel) (acmpF (c := .ge) (by show _ < _; omega)) ?_
                refine y_same (i := .aload_n 0) (len := 1) (r := (0, 0, 0, 0)) (pc' := 34) (ls' := [some (.inl (some 15)), some (.inl (some 2000005)), some (zi y171), some (zi y173)]) (st' := [.inl (some 15)]) (by decide +kernel) (fun k q => by cases q) rfl ?_
                refine y_get (j := 18) (len := 3) (r := (5, 1, 2, 241)) (by decide +kernel) O140.2.1 (tv15 O140.2.1) aw15 rfl rfl (g_rU (f := 1) (T2 := 27) O140.2.1 (tv15 O140.2.1) aw15 rfl (by decide)) ?_
                refine y_same (i := .iload_n 3) (len := 1) (r := (0, 0, 0, 0)) (pc' := 38) (ls' := [some (.inl (some 15)), some (.inl (some 2000005)), some (zi y171), some (zi y173)]) (st' := [zi y173, .inl (some 27)]) (by decide +kernel) (fun k q => by cases q) rfl ?_
                obtain ⟨v176, hv177, ev176⟩ := hb140 (sk b n a + 3) (by omega)
                refine y_ial (i := (sk b n a + 3)) (len := 1) (r := (0, 0, 0, 0)) (by decide +kernel) O140.2.1 (tv27 O140.2.1) aw27 (by omega) hv177 ?_
                refine y_same (i := .aload_n 1) (len := 1) (r := (0, 0, 0, 0)) (pc' := 40) (ls' := [some (.inl (some 15)), some (.inl (some 2000005)), some (zi y171), some (zi y173)]) (st' := [.inl (some 2000005), zi v176]) (by decide +kernel) (fun k q => by cases q) rfl ?_
                refine y_same (i := .iload_n 2) (len := 1) (r := (0, 0, 0, 0)) (pc' := 41) (ls' := [some (.inl (some 15)), some (.inl (some 2000005)), some (zi y171), some (zi y173)]) (st' := [zi y171, .inl (some 2000005), zi v176]) (by decide +kernel) (fun k q => by cases q) rfl ?_
                refine y_cI (i := .invokevirtual 162) (len := 3) (r := (0, 269, 50, 969)) (nL := 2) (k := 5) (n := 2) (hs := []) (args := [.inl (some 2000005), zi y171]) (rest := [zi v176]) (l0 := [some (.inl (some 2000005)), some (zi y171)]) (by decide +kernel) (Or.inr (Or.inl ⟨_, rfl⟩)) rfl rfl rfl rfl (Nat.le_of_ble_eq_true rfl) rfl rfl (qI_le (by decide) (tch5_3 (by omega))) (fun y178 qy178 hRy178 => ?_)
                obtain ⟨rfl, hy178⟩ := hRy178
                rcases Decidable.em (v176.toInt = y178.toInt) with q179 | q179
                ·
                  have m3 : bt b n (sk b n a + 3) = 101 := by rw [bt_lt (by omega)]; omega
                  refine y_cT (c := .eq) (off := 5) (pc' := 49) (len := 3) (r := (0, 0, 0, 0)) (by decide +kernel) (acmpT (c := .eq) (by show _ = _; omega)) (by decide +kernel) ?_
                  refine y_inc (j := 2) (a := y171) (c := 1) (ls' := fun v => [some (.inl (some 15)), some (.inl (some 2000005)), some v, some (zi y173)]) (len := 3) (r := (0, 0, 0, 0)) (by decide +kernel) rfl (fun _ => rfl) (by decide) (by omega) (by omega) (fun y181 hy181 => ?_)
                  show qX 7 57 52 [some (.inl (some 15)), some (.inl (some 2000005)), some (zi y181), some (zi y173)] [] h140 t _
                  refine y_goto (off := (-46)) (pc' := 6) (len := 3) (r := (0, 0, 0, 0)) (by decide +kernel) (by decide +kernel) ?_
                  refine y_same (i := .iload_n 2) (len := 1) (r := (0, 0, 0, 0)) (pc' := 7) (ls' := [some (.inl (some 15)), some (.inl (some 2000005)), some (zi y181), some (zi y173)]) (st' := [zi y181]) (by decide +kernel) (fun k q => by cases q) rfl ?_
                  refine y_same (i := .aload_n 1) (len := 1) (r := (0, 0, 0, 0)) (pc' := 8) (ls' := [some (.inl (some 15)), some (.inl (some 2000005)), some (zi y181), some (zi y173)]) (st' := [.inl (some 2000005), zi y181]) (by decide +kernel) (fun k q => by cases q) rfl ?_
                  refine y_cI (i := .invokevirtual 158) (len := 3) (r := (0, 268, 50, 955)) (nL := 1) (k := 1) (n := 1) (hs := []) (args := [.inl (some 2000005)]) (rest := [zi y181]) (l0 := [some (.inl (some 2000005))]) (by decide +kernel) (Or.inr (Or.inl ⟨_, rfl⟩)) rfl rfl rfl rfl (Nat.le_of_ble_eq_true rfl) rfl rfl (qI_le (by decide) tln5) (fun y182 qy182 hRy182 => ?_)
                  obtain ⟨rfl, hy182⟩ := hRy182
                  refine y_cT (c := .ge) (off := 44) (pc' := 55) (len := 3) (r := (0, 0, 0, 0)) (by decide +kernel) (acmpT (c := .ge) (by show _ ≤ _; omega)) (by decide +kernel) ?_
                  refine y_same (i := .aload_n 0) (len := 1) (r := (0, 0, 0, 0)) (pc' := 56) (ls' := [some (.inl (some 15)), some (.inl (some 2000005)), some (zi y181), some (zi y173)]) (st' := [.inl (some 15)]) (by decide +kernel) (fun k q => by cases q) rfl ?_
                  refine y_same (i := .dup) (len := 1) (r := (0, 0, 0, 0)) (pc' := 57) (ls' := [some (.inl (some 15)), some (.inl (some 2000005)), some (zi y181), some (zi y173)]) (st' := [.inl (some 15), .inl (some 15)]) (by decide +kernel) (fun k q => by cases q) rfl ?_
                  refine y_get (j := 26) (len := 3) (r := (5, 3, 0, 243)) (by decide +kernel) O140.2.1 (tv15 O140.2.1) aw15 rfl rfl ha140 ?_
                  refine y_same (i := .aload_n 1) (len := 1) (r := (0, 0, 0, 0)) (pc' := 61) (ls' := [some (.inl (some 15)), some (.inl (some 2000005)), some (zi y181), some (zi y173)]) (st' := [.inl (some 2000005), zi xa140, .inl (some 15)]) (by decide +kernel) (fun k q => by cases q) rfl ?_
                  refine y_cI (i := .invokevirtual 158) (len := 3) (r := (0, 268, 50, 955)) (nL := 1) (k := 1) (n := 1) (hs := []) (args := [.inl (some 2000005)]) (rest := [zi xa140, .inl (some 15)]) (l0 := [some (.inl (some 2000005))]) (by decide +kernel) (Or.inr (Or.inl ⟨_, rfl⟩)) rfl rfl rfl rfl (Nat.le_of_ble_eq_true rfl) rfl rfl (qI_le (by decide) tln5) (fun y183 qy183 hRy183 => ?_)
                  obtain ⟨rfl, hy183⟩ := hRy183
                  refine y_add (len := 1) (r := (0, 0, 0, 0)) (by decide +kernel) (by omega) (by omega) (fun y184 hy184 => ?_)
                  refine y_put (j := 26) (lo := (-2147483648)) (hi := 2147483647) (len := 3) (r := (5, 3, 0, 243)) (by decide +kernel) O140.2.1 (tv15 O140.2.1) aw15 rfl rfl (by decide) rfl (qin_full _).1 (qin_full _).2 rfl (fun h185 hg185 hl185 hs185 ho185 => ?_)
                  have ho185 : hO 15 3 h140 h185 := ho185
                  have hs185 : hsl h185 15 3 = some (zi y184) := hs185
                  refine y_ic (c := 1) (len := 1) (r := (0, 0, 0, 0)) (by decide +kernel) (by decide) (fun y186 hy186 => ?_)
                  refine y_rI (len := 1) (r := (0, 0, 0, 0)) (nL := 4) (k := 2) (n9 := 2) (hs := []) (by decide +kernel) rfl (zfit_b (by omega) (by omega)).2 ?_
                  refine ⟨_, ⟨O140.1, hg185, fun k T j hk (hC : k ≠ 15 ∨ j ≠ 3) => ((ho185 k j (by omega)).trans (O140.2.2 k T j hk (show k ≠ 15 ∨ j ≠ 3 by omega)))⟩, Or.inl ⟨sk b n a + 4, sgn_y (w := [116, 114, 101, 101]) (mt_c (a' := sk b n a + 1) m0 (by omega) (mt_c (a' := sk b n a + 2) m1 (by omega) (mt_c (a' := sk b n a + 3) m2 (by omega) (mt_c (a' := sk b n a + 4) m3 (by omega) rfl)))), by omega, by omega, ?_⟩⟩
                  exact rdc_up O140.2.1 rd140 ⟨(aup_refl _), hg185, fun k T j hk (hC : k ≠ 15 ∨ j ≠ 3) => (ho185 k j (by omega))⟩ ⟨_, hs185, by omega⟩
                ·
                  refine y_cF (c := .eq) (off := 5) (len := 3) (r := (0, 0, 0, 0)) (by decide +kernel) (acmpF (c := .eq) (by show ¬ (_ = _); omega)) ?_
                  refine y_ic (c := 0) (len := 1) (r := (0, 0, 0, 0)) (by decide +kernel) (by decide) (fun y180 hy180 => ?_)
                  refine y_rI (len := 1) (r := (0, 0, 0, 0)) (nL := 4) (k := 2) (n9 := 2) (hs := []) (by decide +kernel) rfl (zfit_b (by omega) (by omega)).2 ?_
                  exact ⟨_, ⟨O140.1, O140.2.1, fun k T j hk (hC : k ≠ 15 ∨ j ≠ 3) => (O140.2.2 k T j hk (show k ≠ 15 ∨ j ≠ 3 by omega))⟩, Or.inr ⟨sgn_n (mt_s (a' := sk b n a + 1) (by omega) (mt_s (a' := sk b n a + 2) (by omega) (mt_s (a' := sk b n a + 3) (by omega) (mt_n (by rw [bt_lt (by omega)]; omega))))), by omega, rd140⟩⟩
            ·
              refine y_cF (c := .eq) (off := 5) (len := 3) (r := (0, 0, 0, 0)) (by decide +kernel) (acmpF (c := .eq) (by show ¬ (_ = _); omega)) ?_
              refine y_ic (c := 0) (len := 1) (r := (0, 0, 0, 0)) (by decide +kernel) (by decide) (fun y170 hy170 => ?_)
              refine y_rI (len := 1) (r := (0, 0, 0, 0)) (nL := 4) (k := 2) (n9 := 2) (hs := []) (by decide +kernel) rfl (zfit_b (by omega) (by omega)).2 ?_
              exact ⟨_, ⟨O140.1, O140.2.1, fun k T j hk (hC : k ≠ 15 ∨ j ≠ 3) => (O140.2.2 k T j hk (show k ≠ 15 ∨ j ≠ 3 by omega))⟩, Or.inr ⟨sgn_n (mt_s (a' := sk b n a + 1) (by omega) (mt_s (a' := sk b n a + 2) (by omega) (mt_n (by rw [bt_lt (by omega)]; omega)))), by omega, rd140⟩⟩
        ·
          refine y_cF (c := .eq) (off := 5) (len := 3) (r := (0, 0, 0, 0)) (by decide +kernel) (acmpF (c := .eq) (by show ¬ (_ = _); omega)) ?_
          refine y_ic (c := 0) (len := 1) (r := (0, 0, 0, 0)) (by decide +kernel) (by decide) (fun y160 hy160 => ?_)
          refine y_rI (len := 1) (r := (0, 0, 0, 0)) (nL := 4) (k := 2) (n9 := 2) (hs := []) (by decide +kernel) rfl (zfit_b (by omega) (by omega)).2 ?_
          exact ⟨_, ⟨O140.1, O140.2.1, fun k T j hk (hC : k ≠ 15 ∨ j ≠ 3) => (O140.2.2 k T j hk (show k ≠ 15 ∨ j ≠ 3 by omega))⟩, Or.inr ⟨sgn_n (mt_s (a' := sk b n a + 1) (by omega) (mt_n (by rw [bt_lt (by omega)]; omega))), by omega, rd140⟩⟩
    ·
      refine y_cF (c := .eq) (off := 5) (len := 3) (r := (0, 0, 0, 0)) (by decide +kernel) (acmpF (c := .eq) (by show ¬ (_ = _); omega)) ?_
      refine y_ic (c := 0) (len := 1) (r := (0, 0, 0, 0)) (by decide +kernel) (by decide) (fun y150 hy150 => ?_)
      refine y_rI (len := 1) (r := (0, 0, 0, 0)) (nL := 4) (k := 2) (n9 := 2) (hs := []) (by decide +kernel) rfl (zfit_b (by omega) (by omega)).2 ?_
      exact ⟨_, ⟨O140.1, O140.2.1, fun k T j hk (hC : k ≠ 15 ∨ j ≠ 3) => (O140.2.2 k T j hk (show k ≠ 15 ∨ j ≠ 3 by omega))⟩, Or.inr ⟨sgn_n (mt_n (by rw [bt_lt (by omega)]; omega)), by omega, rd140⟩⟩
theorem e_sign6 {t n a : Nat} {b : Nat → Int} {τ : List Nat} {h : zh} (hg : hG τ h) (rd : rdC h n a b) (han : a ≤ n) : qI 8 57 [some (.inl (some 15)), some (.inl (some 2000006)), none, none] h t (fun y h1 => ∃ τ1, oF (fun k j => k ≠ 15 ∨ j ≠ 3) τ h τ1 h1 ∧ ((∃ a', sgn b n [45, 62] a = some a' ∧ a' ≤ n ∧ y.toInt = 1 ∧ rdC h1 n a' b) ∨ (sgn b n [45, 62] a = none ∧ y.toInt = 0 ∧ rdC h1 n (sk b n a) b))) := by
  obtain ⟨⟨xn, hn, en⟩, ⟨xa, ha, ea⟩, hb, hn2⟩ := id rd
  refine qI_of ?_
  refine y_same (i := .aload_n 0) (len := 1) (r := (0, 0, 0, 0)) (pc' := 1) (ls' := [some (.inl (some 15)), some (.inl (some 2000006)), none, none]) (st' := [.inl (some 15)]) (by decide +kernel) (fun k q => by cases q) rfl ?_
  refine y_cV (i := .invokevirtual 89) (len := 3) (r := (0, 60, 5, 947)) (nL := 1) (k := 0) (n := 1) (hs := []) (args := [.inl (some 15)]) (rest := []) (l0 := [some (.inl (some 15))]) (by decide +kernel) (Or.inr (Or.inl ⟨_, rfl⟩)) rfl rfl rfl rfl (Nat.le_of_ble_eq_true rfl) (zO hg (tv15 hg) aw15 rfl) rfl (qV_le (by decide) (e_skip hg rd (by omega))) (fun h187 hR187 => ?_)
  obtain ⟨τ187, O187, rd187⟩ := hR187
  obtain ⟨⟨xn187, hn187, en187⟩, ⟨xa187, ha187, ea187⟩, hb187, -⟩ := id rd187
  have sl187 := sk_le (b := b) (n := n) (a := a) (by omega)
  refine y_ic (c := 0) (len := 1) (r := (0, 0, 0, 0)) (by decide +kernel) (by decide) (fun y188 hy188 => ?_)
  refine y_same (i := .istore_n 2) (len := 1) (r := (0, 0, 0, 0)) (pc' := 6) (ls' := [some (.inl (some 15)), some (.inl (some 2000006)), some (zi y188), none]) (st' := []) (by decide +kernel) (fun k q => by cases q) rfl ?_
  refine y_same (i := .iload_n 2) (len := 1) (r := (0, 0, 0, 0)) (pc' := 7) (ls' := [some (.inl (some 15)), some (.inl (some 2000006)), some (zi y188), none]) (st' := [zi y188]) (by decide +kernel) (fun k q => by cases q) rfl ?_
  refine y_same (i := .aload_n 1) (len := 1) (r := (0, 0, 0, 0)) (pc' := 8) (ls' := [some (.inl (some 15)), some (.inl (some 2000006)), some (zi y188), none]) (st' := [.inl (some 2000006), zi y188]) (by decide +kernel) (fun k q => by cases q) rfl ?_
  refine y_cI (i := .invokevirtual 158) (len := 3) (r := (0, 268, 50, 955)) (nL := 1) (k := 1) (n := 1) (hs := []) (args := [.inl (some 2000006)]) (rest := [zi y188]) (l0 := [some (.inl (some 2000006))]) (by decide +kernel) (Or.inr (Or.inl ⟨_, rfl⟩)) rfl rfl rfl rfl (Nat.le_of_ble_eq_true rfl) rfl rfl (qI_le (by decide) tln6) (fun y189 qy189 hRy189 => ?_)
  obtain ⟨rfl, hy189⟩ := hRy189
  refine y_cF (c := .ge) (off := 44) (len := 3) (r := (0, 0, 0, 0)) (by decide +kernel) (acmpF (c := .ge) (by show _ < _; omega)) ?_
  refine y_same (i := .aload_n 0) (len := 1) (r := (0, 0, 0, 0)) (pc' := 15) (ls' := [some (.inl (some 15)), some (.inl (some 2000006)), some (zi y188), none]) (st' := [.inl (some 15)]) (by decide +kernel) (fun k q => by cases q) rfl ?_
  refine y_get (j := 26) (len := 3) (r := (5, 3, 0, 243)) (by decide +kernel) O187.2.1 (tv15 O187.2.1) aw15 rfl rfl ha187 ?_
  refine y_same (i := .iload_n 2) (len := 1) (r := (0, 0, 0, 0)) (pc' := 19) (ls' := [some (.inl (some 15)), some (.inl (some 2000006)), some (zi y188), none]) (st' := [zi y188, zi xa187]) (by decide +kernel) (fun k q => by cases q) rfl ?_
  refine y_add (len := 1) (r := (0, 0, 0, 0)) (by decide +kernel) (by omega) (by omega) (fun y190 hy190 => ?_)
  refine y_same (i := .istore_n 3) (len := 1) (r := (0, 0, 0, 0)) (pc' := 21) (ls' := [some (.inl (some 15)), some (.inl (some 2000006)), some (zi y188), some (zi y190)]) (st' := []) (by decide +kernel) (fun k q => by cases q) rfl ?_
  refine y_same (i := .iload_n 3) (len := 1) (r := (0, 0, 0, 0)) (pc' := 22) (ls' := [some (.inl (some 15)), some (.inl (some 2000006)), some (zi y188), some (zi y190)]) (st' := [zi y190]) (by decide +kernel) (fun k q => by cases q) rfl ?_
  refine y_iF (c := .lt) (off := 25) (len := 3) (r := (0, 0, 0, 0)) (by decide +kernel) (acmpF (c := .lt) (by show _ ≤ _; omega)) ?_
  refine y_same (i := .iload_n 3) (len := 1) (r := (0, 0, 0, 0)) (pc' := 26) (ls' := [some (.inl (some 15)), some (.inl (some 2000006)), some (zi y188), some (zi y190)]) (st' := [zi y190]) (by decide +kernel) (fun k q => by cases q) rfl ?_
  refine y_same (i := .aload_n 0) (len := 1) (r := (0, 0, 0, 0)) (pc' := 27) (ls' := [some (.inl (some 15)), some (.inl (some 2000006)), some (zi y188), some (zi y190)]) (st' := [.inl (some 15), zi y190]) (by decide +kernel) (fun k q => by cases q) rfl ?_
  refine y_get (j := 22) (len := 3) (r := (5, 2, 0, 242)) (by decide +kernel) O187.2.1 (tv15 O187.2.1) aw15 rfl rfl hn187 ?_
  rcases Decidable.em (y190.toInt ≥ xn187.toInt) with q191 | q191
  ·
    refine y_cT (c := .ge) (off := 17) (pc' := 47) (len := 3) (r := (0, 0, 0, 0)) (by decide +kernel) (acmpT (c := .ge) (by show _ ≤ _; omega)) (by decide +kernel) ?_
    refine y_ic (c := 0) (len := 1) (r := (0, 0, 0, 0)) (by decide +kernel) (by decide) (fun y192 hy192 => ?_)
    refine y_rI (len := 1) (r := (0, 0, 0, 0)) (nL := 4) (k := 2) (n9 := 2) (hs := []) (by decide +kernel) rfl (zfit_b (by omega) (by omega)).2 ?_
    exact ⟨_, ⟨O187.1, O187.2.1, fun k T j hk (hC : k ≠ 15 ∨ j ≠ 3) => (O187.2.2 k T j hk (show k ≠ 15 ∨ j ≠ 3 by omega))⟩, Or.inr ⟨sgn_n (mt_n (by rw [bt_ge (by omega)]; decide)), by omega, rd187⟩⟩
  ·
    refine y_cF (c := .ge) (off := 17) (len := 3) (r := (0, 0, 0, 0)) (by decide +kernel) (acmpF (c := .ge) (by show _ < _; omega)) ?_
    refine y_same (i := .aload_n 0) (len := 1) (r := (0, 0, 0, 0)) (pc' := 34) (ls' := [some (.inl (some 15)), some (.inl (some 2000006)), some (zi y188), some (zi y190)]) (st' := [.inl (some 15)]) (by decide +kernel) (fun k q => by cases q) rfl ?_
    refine y_get (j := 18) (len := 3) (r := (5, 1, 2, 241)) (by decide +kernel) O187.2.1 (tv15 O187.2.1) aw15 rfl rfl (g_rU (f := 1) (T2 := 27) O187.2.1 (tv15 O187.2.1) aw15 rfl (by decide)) ?_
    refine y_same (i := .iload_n 3) (len := 1) (r := (0, 0, 0, 0)) (pc' := 38) (ls' := [some (.inl (some 15)), some (.inl (some 2000006)), some (zi y188), some (zi y190)]) (st' := [zi y190, .inl (some 27)]) (by decide +kernel) (fun k q => by cases q) rfl ?_
    obtain ⟨v193, hv194, ev193⟩ := hb187 (sk b n a) (by omega)
    refine y_ial (i := (sk b n a)) (len := 1) (r := (0, 0, 0, 0)) (by decide +kernel) O187.2.1 (tv27 O187.2.1) aw27 (by omega) hv194 ?_
    refine y_same (i := .aload_n 1) (len := 1) (r := (0, 0, 0, 0)) (pc' := 40) (ls' := [some (.inl (some 15)), some (.inl (some 2000006)), some (zi y188), some (zi y190)]) (st' := [.inl (some 2000006), zi v193]) (by decide +kernel) (fun k q => by cases q) rfl ?_
    refine y_same (i := .iload_n 2) (len := 1) (r := (0, 0, 0, 0)) (pc' := 41) (ls' := [some (.inl (some 15)), some (.inl (some 2000006)), some (zi y188), some (zi y190)]) (st' := [zi y188, .inl (some 2000006), zi v193]) (by decide +kernel) (fun k q => by cases q) rfl ?_
    refine y_cI (i := .invokevirtual 162) (len := 3) (r := (0, 269, 50, 969)) (nL := 2) (k := 5) (n := 2) (hs := []) (args := [.inl (some 2000006), zi y188]) (rest := [zi v193]) (l0 := [some (.inl (some 2000006)), some (zi y188)]) (by decide +kernel) (Or.inr (Or.inl ⟨_, rfl⟩)) rfl rfl rfl rfl (Nat.le_of_ble_eq_true rfl) rfl rfl (qI_le (by decide) (tch6_0 (by omega))) (fun y195 qy195 hRy195 => ?_)
    obtain ⟨rfl, hy195⟩ := hRy195
    rcases Decidable.em (v193.toInt = y195.toInt) with q196 | q196
    ·
      have m0 : bt b n (sk b n a) = 45 := by rw [bt_lt (by omega)]; omega
      refine y_cT (c := .eq) (off := 5) (pc' := 49) (len := 3) (r := (0, 0, 0, 0)) (by decide +kernel) (acmpT (c := .eq) (by show _ = _; omega)) (by decide +kernel) ?_
      refine y_inc (j := 2) (a := y188) (c := 1) (ls' := fun v => [some (.inl (some 15)), some (.inl (some 2000006)), some v, some (zi y190)]) (len := 3) (r := (0, 0, 0, 0)) (by decide +kernel) rfl (fun _ => rfl) (by decide) (by omega) (by omega) (fun y198 hy198 => ?_)
      show qX 7 57 52 [some (.inl (some 15)), some (.inl (some 2000006)), some (zi y198), some (zi y190)] [] h187 t _
      refine y_goto (off := (-46)) (pc' := 6) (len := 3) (r := (0, 0, 0, 0)) (by decide +kernel) (by decide +kernel) ?_
      refine y_same (i := .iload_n 2) (len := 1) (r := (0, 0, 0, 0)) (pc' := 7) (ls' := [some (.inl (some 15)), some (.inl (some 2000006)), some (zi y198), some (zi y190)]) (st' := [zi y198]) (by decide +kernel) (fun k q => by cases q) rfl ?_
      refine y_same (i := .aload_n 1) (len := 1) (r := (0, 0, 0, 0)) (pc' := 8) (ls' := [some (.inl (some 15)), some (.inl (some 2000006)), some (zi y198), some (zi y190)]) (st' := [.inl (some 2000006), zi y198]) (by decide +kernel) (fun k q => by cases q) rfl ?_
      refine y_cI (i := .invokevirtual 158) (len := 3) (r := (0, 268, 50, 955)) (nL := 1) (k := 1) (n := 1) (hs := []) (args := [.inl (some 2000006)]) (rest := [zi y198]) (l0 := [some (.inl (some 2000006))]) (by decide +kernel) (Or.inr (Or.inl ⟨_, rfl⟩)) rfl rfl rfl rfl (Nat.le_of_ble_eq_true rfl) rfl rfl (qI_le (by decide) tln6) (fun y199 qy199 hRy199 => ?_)
      obtain ⟨rfl, hy199⟩ := hRy199
      refine y_cF (c := .ge) (off := 44) (len := 3) (r := (0, 0, 0, 0)) (by decide +kernel) (acmpF (c := .ge) (by show _ < _; omega)) ?_
      refine y_same (i := .aload_n 0) (len := 1) (r := (0, 0, 0, 0)) (pc' := 15) (ls' := [some (.inl (some 15)), some (.inl (some 2000006)), some (zi y198), some (zi y190)]) (st' := [.inl (some 15)]) (by decide +kernel) (fun k q => by cases q) rfl ?_
      refine y_get (j := 26) (len := 3) (r := (5, 3, 0, 243)) (by decide +kernel) O187.2.1 (tv15 O187.2.1) aw15 rfl rfl ha187 ?_
      refine y_same (i := .iload_n 2) (len := 1) (r := (0, 0, 0, 0)) (pc' := 19) (ls' := [some (.inl (some 15)), some (.inl (some 2000006)), some (zi y198), some (zi y190)]) (st' := [zi y198, zi xa187]) (by decide +kernel) (fun k q => by cases q) rfl ?_
      refine y_add (len := 1) (r := (0, 0, 0, 0)) (by decide +kernel) (by omega) (by omega) (fun y200 hy200 => ?_)
      refine y_same (i := .istore_n 3) (len := 1) (r := (0, 0, 0, 0)) (pc' := 21) (ls' := [some (.inl (some 15)), some (.inl (some 2000006)), some (zi y198), some (zi y200)]) (st' := []) (by decide +kernel) (fun k q => by cases q) rfl ?_
      refine y_same (i := .iload_n 3) (len := 1) (r := (0, 0, 0, 0)) (pc' := 22) (ls' := [some (.inl (some 15)), some (.inl (some 2000006)), some (zi y198), some (zi y200)]) (st' := [zi y200]) (by decide +kernel) (fun k q => by cases q) rfl ?_
      refine y_iF (c := .lt) (off := 25) (len := 3) (r := (0, 0, 0, 0)) (by decide +kernel) (acmpF (c := .lt) (by show _ ≤ _; omega)) ?_
      refine y_same (i := .iload_n 3) (len := 1) (r := (0, 0, 0, 0)) (pc' := 26) (ls' := [some (.inl (some 15)), some (.inl (some 2000006)), some (zi y198), some (zi y200)]) (st' := [zi y200]) (by decide +kernel) (fun k q => by cases q) rfl ?_
      refine y_same (i := .aload_n 0) (len := 1) (r := (0, 0, 0, 0)) (pc' := 27) (ls' := [some (.inl (some 15)), some (.inl (some 2000006)), some (zi y198), some (zi y200)]) (st' := [.inl (some 15), zi y200]) (by decide +kernel) (fun k q => by cases q) rfl ?_
      refine y_get (j := 22) (len := 3) (r := (5, 2, 0, 242)) (by decide +kernel) O187.2.1 (tv15 O187.2.1) aw15 rfl rfl hn187 ?_
      rcases Decidable.em (y200.toInt ≥ xn187.toInt) with q201 | q201
      ·
        refine y_cT (c := .ge) (off := 17) (pc' := 47) (len := 3) (r := (0, 0, 0, 0)) (by decide +kernel) (acmpT (c := .ge) (by show _ ≤ _; omega)) (by decide +kernel) ?_
        refine y_ic (c := 0) (len := 1) (r := (0, 0, 0, 0)) (by decide +kernel) (by decide) (fun y202 hy202 => ?_)
        refine y_rI (len := 1) (r := (0, 0, 0, 0)) (nL := 4) (k := 2) (n9 := 2) (hs := []) (by decide +kernel) rfl (zfit_b (by omega) (by omega)).2 ?_
        exact ⟨_, ⟨O187.1, O187.2.1, fun k T j hk (hC : k ≠ 15 ∨ j ≠ 3) => (O187.2.2 k T j hk (show k ≠ 15 ∨ j ≠ 3 by omega))⟩, Or.inr ⟨sgn_n (mt_s (a' := sk b n a + 1) (by omega) (mt_n (by rw [bt_ge (by omega)]; decide))), by omega, rd187⟩⟩
      ·
        refine y_cF (c := .ge) (off := 17) (len := 3) (r := (0, 0, 0, 0)) (by decide +kernel) (acmpF (c := .ge) (by show _ < _; omega)) ?_
        refine y_same (i := .aload_n 0) (len := 1) (r := (0, 0, 0, 0)) (pc' := 34) (ls' := [some (.inl (some 15)), some (.inl (some 2000006)), some (zi y198), some (zi y200)]) (st' := [.inl (some 15)]) (by decide +kernel) (fun k q => by cases q) rfl ?_
        refine y_get (j := 18) (len := 3) (r := (5, 1, 2, 241)) (by decide +kernel) O187.2.1 (tv15 O187.2.1) aw15 rfl rfl (g_rU (f := 1) (T2 := 27) O187.2.1 (tv15 O187.2.1) aw15 rfl (by decide)) ?_
        refine y_same (i := .iload_n 3) (len := 1) (r := (0, 0, 0, 0)) (pc' := 38) (ls' := [some (.inl (some 15)), some (.inl (some 2000006)), some (zi y198), some (zi y200)]) (st' := [zi y200, .inl (some 27)]) (by decide +kernel) (fun k q => by cases q) rfl ?_
        obtain ⟨v203, hv204, ev203⟩ := hb187 (sk b n a + 1) (by omega)
        refine y_ial (i := (sk b n a + 1)) (len := 1) (r := (0, 0, 0, 0)) (by decide +kernel) O187.2.1 (tv27 O187.2.1) aw27 (by omega) hv204 ?_
        refine y_same (i := .aload_n 1) (len := 1) (r := (0, 0, 0, 0)) (pc' := 40) (ls' := [some (.inl (some 15)), some (.inl (some 2000006)), some (zi y198), some (zi y200)]) (st' := [.inl (some 2000006), zi v203]) (by decide +kernel) (fun k q => by cases q) rfl ?_
        refine y_same (i := .iload_n 2) (len := 1) (r := (0, 0, 0, 0)) (pc' := 41) (ls' := [some (.inl (some 15)), some (.inl (some 2000006)), some (zi y198), some (zi y200)]) (st' := [zi y198, .inl (some 2000006), zi v203]) (by decide +kernel) (fun k q => by cases q) rfl ?_
        refine y_cI (i := .invokevirtual 162) (len := 3) (r := (0, 269, 50, 969)) (nL := 2) (k := 5) (n := 2) (hs := []) (args := [.inl (some 2000006), zi y198]) (rest := [zi v203]) (l0 := [some (.inl (some 2000006)), some (zi y198)]) (by decide +kernel) (Or.inr (Or.inl ⟨_, rfl⟩)) rfl rfl rfl rfl (Nat.le_of_ble_eq_true rfl) rfl rfl (qI_le (by decide) (tch6_1 (by omega))) (fun y205 qy205 hRy205 => ?_)
        obtain ⟨rfl, hy205⟩ := hRy205
        rcases Decidable.em (v203.toInt = y205.toInt) with q206 | q206
        ·
          have m1 : bt b n (sk b n a + 1) = 62 := by rw [bt_lt (by omega)]; omega
          refine y_cT (c := .eq) (off := 5) (pc' := 49) (len := 3) (r := (0, 0, 0, 0)) (by decide +kernel) (acmpT (c := .eq) (by show _ = _; omega)) (by decide +kernel) ?_
          refine y_inc (j := 2) (a := y198) (c := 1) (ls' := fun v => [some (.inl (some 15)), some (.inl (some 2000006)), some v, some (zi y200)]) (len := 3) (r := (0, 0, 0, 0)) (by decide +kernel) rfl (fun _ => rfl) (by decide) (by omega) (by omega) (fun y208 hy208 => ?_)
          show qX 7 57 52 [some (.inl (some 15)), some (.inl (some 2000006)), some (zi y208), some (zi y200)] [] h187 t _
          refine y_goto (off := (-46)) (pc' := 6) (len := 3) (r := (0, 0, 0, 0)) (by decide +kernel) (by decide +kernel) ?_
          refine y_same (i := .iload_n 2) (len := 1) (r := (0, 0, 0, 0)) (pc' := 7) (ls' := [some (.inl (some 15)), some (.inl (some 2000006)), some (zi y208), some (zi y200)]) (st' := [zi y208]) (by decide +kernel) (fun k q => by cases q) rfl ?_
          refine y_same (i := .aload_n 1) (len := 1) (r := (0, 0, 0, 0)) (pc' := 8) (ls' := [some (.inl (some 15)), some (.inl (some 2000006)), some (zi y208), some (zi y200)]) (st' := [.inl (some 2000006), zi y208]) (by decide +kernel) (fun k q => by cases q) rfl ?_
          refine y_cI (i := .invokevirtual 158) (len := 3) (r := (0, 268, 50, 955)) (nL := 1) (k := 1) (n := 1) (hs := []) (args := [.inl (some 2000006)]) (rest := [zi y208]) (l0 := [some (.inl (some 2000006))]) (by decide +kernel) (Or.inr (Or.inl ⟨_, rfl⟩)) rfl rfl rfl rfl (Nat.le_of_ble_eq_true rfl) rfl rfl (qI_le (by decide) tln6) (fun y209 qy209 hRy209 => ?_)
          obtain ⟨rfl, hy209⟩ := hRy209
          refine y_cT (c := .ge) (off := 44) (pc' := 55) (len := 3) (r := (0, 0, 0, 0)) (by decide +kernel) (acmpT (c := .ge) (by show _ ≤ _; omega)) (by decide +kernel) ?_
          refine y_same (i := .aload_n 0) (len := 1) (r := (0, 0, 0, 0)) (pc' := 56) (ls' := [some (.inl (some 15)), some (.inl (some 2000006)), some (zi y208), some (zi y200)]) (st' := [.inl (some 15)]) (by decide +kernel) (fun k q => by cases q) rfl ?_
          refine y_same (i := .dup) (len := 1) (r := (0, 0, 0, 0)) (pc' := 57) (ls' := [some (.inl (some 15)), some (.inl (some 2000006)), some (zi y208), some (zi y200)]) (st' := [.inl (some 15), .inl (some 15)]) (by decide +kernel) (fun k q => by cases q) rfl ?_
          refine y_get (j := 26) (len := 3) (r := (5, 3, 0, 243)) (by decide +kernel) O187.2.1 (tv15 O187.2.1) aw15 rfl rfl ha187 ?_
          refine y_same (i := .aload_n 1) (len := 1) (r := (0, 0, 0, 0)) (pc' := 61) (ls' := [some (.inl (some 15)), some (.inl (some 2000006)), some (zi y208), some (zi y200)]) (st' := [.inl (some 2000006), zi xa187, .inl (some 15)]) (by decide +kernel) (fun k q => by cases q) rfl ?_
          refine y_cI (i := .invokevirtual 158) (len := 3) (r := (0, 268, 50, 955)) (nL := 1) (k := 1) (n := 1) (hs := []) (args := [.inl (some 2000006)]) (rest := [zi xa187, .inl (some 15)]) (l0 := [some (.inl (some 2000006))]) (by decide +kernel) (Or.inr (Or.inl ⟨_, rfl⟩)) rfl rfl rfl rfl (Nat.le_of_ble_eq_true rfl) rfl rfl (qI_le (by decide) tln6) (fun y210 qy210 hRy210 => ?_)
          obtain ⟨rfl, hy210⟩ := hRy210
          refine y_add (len := 1) (r := (0, 0, 0, 0)) (by decide +kernel) (by omega) (by omega) (fun y211 hy211 => ?_)
          refine y_put (j := 26) (lo := (-2147483648)) (hi := 2147483647) (len := 3) (r := (5, 3, 0, 243)) (by decide +kernel) O187.2.1 (tv15 O187.2.1) aw15 rfl rfl (by decide) rfl (qin_full _).1 (qin_full _).2 rfl (fun h212 hg212 hl212 hs212 ho212 => ?_)
          have ho212 : hO 15 3 h187 h212 := ho212
          have hs212 : hsl h212 15 3 = some (zi y211) := hs212
          refine y_ic (c := 1) (len := 1) (r := (0, 0, 0, 0)) (by decide +kernel) (by decide) (fun y213 hy213 => ?_)
          refine y_rI (len := 1) (r := (0, 0, 0, 0)) (nL := 4) (k := 2) (n9 := 2) (hs := []) (by decide +kernel) rfl (zfit_b (by omega) (by omega)).2 ?_
          refine ⟨_, ⟨O187.1, hg212, fun k T j hk (hC : k ≠ 15 ∨ j ≠ 3) => ((ho212 k j (by omega)).trans (O187.2.2 k T j hk (show k ≠ 15 ∨ j ≠ 3 by omega)))⟩, Or.inl ⟨sk b n a + 2, sgn_y (w := [45, 62]) (mt_c (a' := sk b n a + 1) m0 (by omega) (mt_c (a' := sk b n a + 2) m1 (by omega) rfl)), by omega, by omega, ?_⟩⟩
          exact rdc_up O187.2.1 rd187 ⟨(aup_refl _), hg212, fun k T j hk (hC : k ≠ 15 ∨ j ≠ 3) => (ho212 k j (by omega))⟩ ⟨_, hs212, by omega⟩
        ·
          refine y_cF (c := .eq) (off := 5) (len := 3) (r := (0, 0, 0, 0)) (by decide +kernel) (acmpF (c := .eq) (by show ¬ (_ = _); omega)) ?_
          refine y_ic (c := 0) (len := 1) (r := (0, 0, 0, 0)) (by decide +kernel) (by decide) (fun y207 hy207 => ?_)
          refine y_rI (len := 1) (r := (0, 0, 0, 0)) (nL := 4) (k := 2) (n9 := 2) (hs := []) (by decide +kernel) rfl (zfit_b (by omega) (by omega)).2 ?_
          exact ⟨_, ⟨O187.1, O187.2.1, fun k T j hk (hC : k ≠ 15 ∨ j ≠ 3) => (O187.2.2 k T j hk (show k ≠ 15 ∨ j ≠ 3 by omega))⟩, Or.inr ⟨sgn_n (mt_s (a' := sk b n a + 1) (by omega) (mt_n (by rw [bt_lt (by omega)]; omega))), by omega, rd187⟩⟩
    ·
      refine y_cF (c := .eq) (off := 5) (len := 3) (r := (0, 0, 0, 0)) (by decide +kernel) (acmpF (c := .eq) (by show ¬ (_ = _); omega)) ?_
      refine y_ic (c := 0) (len := 1) (r := (0, 0, 0, 0)) (by decide +kernel) (by decide) (fun y197 hy197 => ?_)
      refine y_rI (len := 1) (r := (0, 0, 0, 0)) (nL := 4) (k := 2) (n9 := 2) (hs := []) (by decide +kernel) rfl (zfit_b (by omega) (by omega)).2 ?_
      exact ⟨_, ⟨O187.1, O187.2.1, fun k T j hk (hC : k ≠ 15 ∨ j ≠ 3) => (O187.2.2 k T j hk (show k ≠ 15 ∨ j ≠ 3 by omega))⟩, Or.inr ⟨sgn_n (mt_n (by rw [bt_lt (by omega)]; omega)), by omega, rd187⟩⟩
theorem e_sign7 {t n a : Nat} {b : Nat → Int} {τ : List Nat} {h : zh} (hg : hG τ h) (rd : rdC h n a b) (han : a ≤ n) : qI 8 57 [some (.inl (some 15)), some (.inl (some 2000007)), none, none] h t (fun y h1 => ∃ τ1, oF (fun k j => k ≠ 15 ∨ j ≠ 3) τ h τ1 h1 ∧ ((∃ a', sgn b n [61] a = some a' ∧ a' ≤ n ∧ y.toInt = 1 ∧ rdC h1 n a' b) ∨ (sgn b n [61] a = none ∧ y.toInt = 0 ∧ rdC h1 n (sk b n a) b))) := by
  obtain ⟨⟨xn, hn, en⟩, ⟨xa, ha, ea⟩, hb, hn2⟩ := id rd
  refine qI_of ?_
  refine y_same (i := .aload_n 0) (len := 1) (r := (0, 0, 0, 0)) (pc' := 1) (ls' := [some (.inl (some 15)), some (.inl (some 2000007)), none, none]) (st' := [.inl (some 15)]) (by decide +kernel) (fun k q => by cases q) rfl ?_
  refine y_cV (i := .invokevirtual 89) (len := 3) (r := (0, 60, 5, 947)) (nL := 1) (k := 0) (n := 1) (hs := []) (args := [.inl (some 15)]) (rest := []) (l0 := [some (.inl (some 15))]) (by decide +kernel) (Or.inr (Or.inl ⟨_, rfl⟩)) rfl rfl rfl rfl (Nat.le_of_ble_eq_true rfl) (zO hg (tv15 hg) aw15 rfl) rfl (qV_le (by decide) (e_skip hg rd (by omega))) (fun h214 hR214 => ?_)
  obtain ⟨τ214, O214, rd214⟩ := hR214
  obtain ⟨⟨xn214, hn214, en214⟩, ⟨xa214, ha214, ea214⟩, hb214, -⟩ := id rd214
  have sl214 := sk_le (b := b) (n := n) (a := a) (by omega)
  refine y_ic (c := 0) (len := 1) (r := (0, 0, 0, 0)) (by decide +kernel) (by decide) (fun y215 hy215 => ?_)
  refine y_same (i := .istore_n 2) (len := 1) (r := (0, 0, 0, 0)) (pc' := 6) (ls' := [some (.inl (some 15)), some (.inl (some 2000007)), some (zi y215), none]) (st' := []) (by decide +kernel) (fun k q => by cases q) rfl ?_
  refine y_same (i := .iload_n 2) (len := 1) (r := (0, 0, 0, 0)) (pc' := 7) (ls' := [some (.inl (some 15)), some (.inl (some 2000007)), some (zi y215), none]) (st' := [zi y215]) (by decide +kernel) (fun k q => by cases q) rfl ?_
  refine y_same (i := .aload_n 1) (len := 1) (r := (0, 0, 0, 0)) (pc' := 8) (ls' := [some (.inl (some 15)), some (.inl (some 2000007)), some (zi y215), none]) (st' := [.inl (some 2000007), zi y215]) (by decide +kernel) (fun k q => by cases q) rfl ?_
  refine y_cI (i := .invokevirtual 158) (len := 3) (r := (0, 268, 50, 955)) (nL := 1) (k := 1) (n := 1) (hs := []) (args := [.inl (some 2000007)]) (rest := [zi y215]) (l0 := [some (.inl (some 2000007))]) (by decide +kernel) (Or.inr (Or.inl ⟨_, rfl⟩)) rfl rfl rfl rfl (Nat.le_of_ble_eq_true rfl) rfl rfl (qI_le (by decide) tln7) (fun y216 qy216 hRy216 => ?_)
  obtain ⟨rfl, hy216⟩ := hRy216
  refine y_cF (c := .ge) (off := 44) (len := 3) (r := (0, 0, 0, 0)) (by decide +kernel) (acmpF (c := .ge) (by show _ < _; omega)) ?_
  refine y_same (i := .aload_n 0) (len := 1) (r := (0, 0, 0, 0)) (pc' := 15) (ls' := [some (.inl (some 15)), some (.inl (some 2000007)), some (zi y215), none]) (st' := [.inl (some 15)]) (by decide +kernel) (fun k q => by cases q) rfl ?_
  refine y_get (j := 26) (len := 3) (r := (5, 3, 0, 243)) (by decide +kernel) O214.2.1 (tv15 O214.2.1) aw15 rfl rfl ha214 ?_
  refine y_same (i := .iload_n 2) (len := 1) (r := (0, 0, 0, 0)) (pc' := 19) (ls' := [some (.inl (some 15)), some (.inl (some 2000007)), some (zi y215), none]) (st' := [zi y215, zi xa214]) (by decide +kernel) (fun k q => by cases q) rfl ?_
  refine y_add (len := 1) (r := (0, 0, 0, 0)) (by decide +kernel) (by omega) (by omega) (fun y217 hy217 => ?_)
  refine y_same (i := .istore_n 3) (len := 1) (r := (0, 0, 0, 0)) (pc' := 21) (ls' := [some (.inl (some 15)), some (.inl (some 2000007)), some (zi y215), some (zi y217)]) (st' := []) (by decide +kernel) (fun k q => by cases q) rfl ?_
  refine y_same (i := .iload_n 3) (len := 1) (r := (0, 0, 0, 0)) (pc' := 22) (ls' := [some (.inl (some 15)), some (.inl (some 2000007)), some (zi y215), some (zi y217)]) (st' := [zi y217]) (by decide +kernel) (fun k q => by cases q) rfl ?_
  refine y_iF (c := .lt) (off := 25) (len := 3) (r := (0, 0, 0, 0)) (by decide +kernel) (acmpF (c := .lt) (by show _ ≤ _; omega)) ?_
  refine y_same (i := .iload_n 3) (len := 1) (r := (0, 0, 0, 0)) (pc' := 26) (ls' := [some (.inl (some 15)), some (.inl (some 2000007)), some (zi y215), some (zi y217)]) (st' := [zi y217]) (by decide +kernel) (fun k q => by cases q) rfl ?_
  refine y_same (i := .aload_n 0) (len := 1) (r := (0, 0, 0, 0)) (pc' := 27) (ls' := [some (.inl (some 15)), some (.inl (some 2000007)), some (zi y215), some (zi y217)]) (st' := [.inl (some 15), zi y217]) (by decide +kernel) (fun k q => by cases q) rfl ?_
  refine y_get (j := 22) (len := 3) (r := (5, 2, 0, 242)) (by decide +kernel) O214.2.1 (tv15 O214.2.1) aw15 rfl rfl hn214 ?_
  rcases Decidable.em (y217.toInt ≥ xn214.toInt) with q218 | q218
  ·
    refine y_cT (c := .ge) (off := 17) (pc' := 47) (len := 3) (r := (0, 0, 0, 0)) (by decide +kernel) (acmpT (c := .ge) (by show _ ≤ _; omega)) (by decide +kernel) ?_
    refine y_ic (c := 0) (len := 1) (r := (0, 0, 0, 0)) (by decide +kernel) (by decide) (fun y219 hy219 => ?_)
    refine y_rI (len := 1) (r := (0, 0, 0, 0)) (nL := 4) (k := 2) (n9 := 2) (hs := []) (by decide +kernel) rfl (zfit_b (by omega) (by omega)).2 ?_
    exact ⟨_, ⟨O214.1, O214.2.1, fun k T j hk (hC : k ≠ 15 ∨ j ≠ 3) => (O214.2.2 k T j hk (show k ≠ 15 ∨ j ≠ 3 by omega))⟩, Or.inr ⟨sgn_n (mt_n (by rw [bt_ge (by omega)]; decide)), by omega, rd214⟩⟩
  ·
    refine y_cF (c := .ge) (off := 17) (len := 3) (r := (0, 0, 0, 0)) (by decide +kernel) (acmpF (c := .ge) (by show _ < _; omega)) ?_
    refine y_same (i := .aload_n 0) (len := 1) (r := (0, 0, 0, 0)) (pc' := 34) (ls' := [some (.inl (some 15)), some (.inl (some 2000007)), some (zi y215), some (zi y217)]) (st' := [.inl (some 15)]) (by decide +kernel) (fun k q => by cases q) rfl ?_
    refine y_get (j := 18) (len := 3) (r := (5, 1, 2, 241)) (by decide +kernel) O214.2.1 (tv15 O214.2.1) aw15 rfl rfl (g_rU (f := 1) (T2 := 27) O214.2.1 (tv15 O214.2.1) aw15 rfl (by decide)) ?_
    refine y_same (i := .iload_n 3) (len := 1) (r := (0, 0, 0, 0)) (pc' := 38) (ls' := [some (.inl (some 15)), some (.inl (some 2000007)), some (zi y215), some (zi y217)]) (st' := [zi y217, .inl (some 27)]) (by decide +kernel) (fun k q => by cases q) rfl ?_
    obtain ⟨v220, hv221, ev220⟩ := hb214 (sk b n a) (by omega)
    refine y_ial (i := (sk b n a)) (len := 1) (r := (0, 0, 0, 0)) (by decide +kernel) O214.2.1 (tv27 O214.2.1) aw27 (by omega) hv221 ?_
    refine y_same (i := .aload_n 1) (len := 1) (r := (0, 0, 0, 0)) (pc' := 40) (ls' := [some (.inl (some 15)), some (.inl (some 2000007)), some (zi y215), some (zi y217)]) (st' := [.inl (some 2000007), zi v220]) (by decide +kernel) (fun k q => by cases q) rfl ?_
    refine y_same (i := .iload_n 2) (len := 1) (r := (0, 0, 0, 0)) (pc' := 41) (ls' := [some (.inl (some 15)), some (.inl (some 2000007)), some (zi y215), some (zi y217)]) (st' := [zi y215, .inl (some 2000007), zi v220]) (by decide +kernel) (fun k q => by cases q) rfl ?_
    refine y_cI (i := .invokevirtual 162) (len := 3) (r := (0, 269, 50, 969)) (nL := 2) (k := 5) (n := 2) (hs := []) (args := [.inl (some 2000007), zi y215]) (rest := [zi v220]) (l0 := [some (.inl (some 2000007)), some (zi y215)]) (by decide +kernel) (Or.inr (Or.inl ⟨_, rfl⟩)) rfl rfl rfl rfl (Nat.le_of_ble_eq_true rfl) rfl rfl (qI_le (by decide) (tch7_0 (by omega))) (fun y222 qy222 hRy222 => ?_)
    obtain ⟨rfl, hy222⟩ := hRy222
    rcases Decidable.em (v220.toInt = y222.toInt) with q223 | q223
    ·
      have m0 : bt b n (sk b n a) = 61 := by rw [bt_lt (by omega)]; omega
      refine y_cT (c := .eq) (off := 5) (pc' := 49) (len := 3) (r := (0, 0, 0, 0)) (by decide +kernel) (acmpT (c := .eq) (by show _ = _; omega)) (by decide +kernel) ?_
      refine y_inc (j := 2) (a := y215) (c := 1) (ls' := fun v => [some (.inl (some 15)), some (.inl (some 2000007)), some v, some (zi y217)]) (len := 3) (r := (0, 0, 0, 0)) (by decide +kernel) rfl (fun _ => rfl) (by decide) (by omega) (by omega) (fun y225 hy225 => ?_)
      show qX 7 57 52 [some (.inl (some 15)), some (.inl (some 2000007)), some (zi y225), some (zi y217)] [] h214 t _
      refine y_goto (off := (-46)) (pc' := 6) (len := 3) (r := (0, 0, 0, 0)) (by decide +kernel) (by decide +kernel) ?_
      refine y_same (i := .iload_n 2) (len := 1) (r := (0, 0, 0, 0)) (pc' := 7) (ls' := [some (.inl (some 15)), some (.inl (some 2000007)), some (zi y225), some (zi y217)]) (st' := [zi y225]) (by decide +kernel) (fun k q => by cases q) rfl ?_
      refine y_same (i := .aload_n 1) (len := 1) (r := (0, 0, 0, 0)) (pc' := 8) (ls' := [some (.inl (some 15)), some (.inl (some 2000007)), some (zi y225), some (zi y217)]) (st' := [.inl (some 2000007), zi y225]) (by decide +kernel) (fun k q => by cases q) rfl ?_
      refine y_cI (i := .invokevirtual 158) (len := 3) (r := (0, 268, 50, 955)) (nL := 1) (k := 1) (n := 1) (hs := []) (args := [.inl (some 2000007)]) (rest := [zi y225]) (l0 := [some (.inl (some 2000007))]) (by decide +kernel) (Or.inr (Or.inl ⟨_, rfl⟩)) rfl rfl rfl rfl (Nat.le_of_ble_eq_true rfl) rfl rfl (qI_le (by decide) tln7) (fun y226 qy226 hRy226 => ?_)
      obtain ⟨rfl, hy226⟩ := hRy226
      refine y_cT (c := .ge) (off := 44) (pc' := 55) (len := 3) (r := (0, 0, 0, 0)) (by decide +kernel) (acmpT (c := .ge) (by show _ ≤ _; omega)) (by decide +kernel) ?_
      refine y_same (i := .aload_n 0) (len := 1) (r := (0, 0, 0, 0)) (pc' := 56) (ls' := [some (.inl (some 15)), some (.inl (some 2000007)), some (zi y225), some (zi y217)]) (st' := [.inl (some 15)]) (by decide +kernel) (fun k q => by cases q) rfl ?_
      refine y_same (i := .dup) (len := 1) (r := (0, 0, 0, 0)) (pc' := 57) (ls' := [some (.inl (some 15)), some (.inl (some 2000007)), some (zi y225), some (zi y217)]) (st' := [.inl (some 15), .inl (some 15)]) (by decide +kernel) (fun k q => by cases q) rfl ?_
      refine y_get (j := 26) (len := 3) (r := (5, 3, 0, 243)) (by decide +kernel) O214.2.1 (tv15 O214.2.1) aw15 rfl rfl ha214 ?_
      refine y_same (i := .aload_n 1) (len := 1) (r := (0, 0, 0, 0)) (pc' := 61) (ls' := [some (.inl (some 15)), some (.inl (some 2000007)), some (zi y225), some (zi y217)]) (st' := [.inl (some 2000007), zi xa214, .inl (some 15)]) (by decide +kernel) (fun k q => by cases q) rfl ?_
      refine y_cI (i := .invokevirtual 158) (len := 3) (r := (0, 268, 50, 955)) (nL := 1) (k := 1) (n := 1) (hs := []) (args := [.inl (some 2000007)]) (rest := [zi xa214, .inl (some 15)]) (l0 := [some (.inl (some 2000007))]) (by decide +kernel) (Or.inr (Or.inl ⟨_, rfl⟩)) rfl rfl rfl rfl (Nat.le_of_ble_eq_true rfl) rfl rfl (qI_le (by decide) tln7) (fun y227 qy227 hRy227 => ?_)
      obtain ⟨rfl, hy227⟩ := hRy227
      refine y_add (len := 1) (r := (0, 0, 0, 0)) (by decide +kernel) (by omega) (by omega) (fun y228 hy228 => ?_)
      refine y_put (j := 26) (lo := (-2147483648)) (hi := 2147483647) (len := 3) (r := (5, 3, 0, 243)) (by decide +kernel) O214.2.1 (tv15 O214.2.1) aw15 rfl rfl (by decide) rfl (qin_full _).1 (qin_full _).2 rfl (fun h229 hg229 hl229 hs229 ho229 => ?_)
      have ho229 : hO 15 3 h214 h229 := ho229
      have hs229 : hsl h229 15 3 = some (zi y228) := hs229
      refine y_ic (c := 1) (len := 1) (r := (0, 0, 0, 0)) (by decide +kernel) (by decide) (fun y230 hy230 => ?_)
      refine y_rI (len := 1) (r := (0, 0, 0, 0)) (nL := 4) (k := 2) (n9 := 2) (hs := []) (by decide +kernel) rfl (zfit_b (by omega) (by omega)).2 ?_
      refine ⟨_, ⟨O214.1, hg229, fun k T j hk (hC : k ≠ 15 ∨ j ≠ 3) => ((ho229 k j (by omega)).trans (O214.2.2 k T j hk (show k ≠ 15 ∨ j ≠ 3 by omega)))⟩, Or.inl ⟨sk b n a + 1, sgn_y (w := [61]) (mt_c (a' := sk b n a + 1) m0 (by omega) rfl), by omega, by omega, ?_⟩⟩
      exact rdc_up O214.2.1 rd214 ⟨(aup_refl _), hg229, fun k T j hk (hC : k ≠ 15 ∨ j ≠ 3) => (ho229 k j (by omega))⟩ ⟨_, hs229, by omega⟩
    ·
      refine y_cF (c := .eq) (off := 5) (len := 3) (r := (0, 0, 0, 0)) (by decide +kernel) (acmpF (c := .eq) (by show ¬ (_ = _); omega)) ?_
      refine y_ic (c := 0) (len := 1) (r := (0, 0, 0, 0)) (by decide +kernel) (by decide) (fun y224 hy224 => ?_)
      refine y_rI (len := 1) (r := (0, 0, 0, 0)) (nL := 4) (k := 2) (n9 := 2) (hs := []) (by decide +kernel) rfl (zfit_b (by omega) (by omega)).2 ?_
      exact ⟨_, ⟨O214.1, O214.2.1, fun k T j hk (hC : k ≠ 15 ∨ j ≠ 3) => (O214.2.2 k T j hk (show k ≠ 15 ∨ j ≠ 3 by omega))⟩, Or.inr ⟨sgn_n (mt_n (by rw [bt_lt (by omega)]; omega)), by omega, rd214⟩⟩
theorem e_sign8 {t n a : Nat} {b : Nat → Int} {τ : List Nat} {h : zh} (hg : hG τ h) (rd : rdC h n a b) (han : a ≤ n) : qI 8 57 [some (.inl (some 15)), some (.inl (some 2000008)), none, none] h t (fun y h1 => ∃ τ1, oF (fun k j => k ≠ 15 ∨ j ≠ 3) τ h τ1 h1 ∧ ((∃ a', sgn b n [33, 61] a = some a' ∧ a' ≤ n ∧ y.toInt = 1 ∧ rdC h1 n a' b) ∨ (sgn b n [33, 61] a = none ∧ y.toInt = 0 ∧ rdC h1 n (sk b n a) b))) := by
  obtain ⟨⟨xn, hn, en⟩, ⟨xa, ha, ea⟩, hb, hn2⟩ := id rd
  refine qI_of ?_
  refine y_same (i := .aload_n 0) (len := 1) (r := (0, 0, 0, 0)) (pc' := 1) (ls' := [some (.inl (some 15)), some (.inl (some 2000008)), none, none]) (st' := [.inl (some 15)]) (by decide +kernel) (fun k q => by cases q) rfl ?_
  refine y_cV (i := .invokevirtual 89) (len := 3) (r := (0, 60, 5, 947)) (nL := 1) (k := 0) (n := 1) (hs := []) (args := [.inl (some 15)]) (rest := []) (l0 := [some (.inl (some 15))]) (by decide +kernel) (Or.inr (Or.inl ⟨_, rfl⟩)) rfl rfl rfl rfl (Nat.le_of_ble_eq_true rfl) (zO hg (tv15 hg) aw15 rfl) rfl (qV_le (by decide) (e_skip hg rd (by omega))) (fun h231 hR231 => ?_)
  obtain ⟨τ231, O231, rd231⟩ := hR231
  obtain ⟨⟨xn231, hn231, en231⟩, ⟨xa231, ha231, ea231⟩, hb231, -⟩ := id rd231
  have sl231 := sk_le (b := b) (n := n) (a := a) (by omega)
  refine y_ic (c := 0) (len := 1) (r := (0, 0, 0, 0)) (by decide +kernel) (by decide) (fun y232 hy232 => ?_)
  refine y_same (i := .istore_n 2) (len := 1) (r := (0, 0, 0, 0)) (pc' := 6) (ls' := [some (.inl (some 15)), some (.inl (some 2000008)), some (zi y232), none]) (st' := []) (by decide +kernel) (fun k q => by cases q) rfl ?_
  refine y_same (i := .iload_n 2) (len := 1) (r := (0, 0, 0, 0)) (pc' := 7) (ls' := [some (.inl (some 15)), some (.inl (some 2000008)), some (zi y232), none]) (st' := [zi y232]) (by decide +kernel) (fun k q => by cases q) rfl ?_
  refine y_same (i := .aload_n 1) (len := 1) (r := (0, 0, 0, 0)) (pc' := 8) (ls' := [some (.inl (some 15)), some (.inl (some 2000008)), some (zi y232), none]) (st' := [.inl (some 2000008), zi y232]) (by decide +kernel) (fun k q => by cases q) rfl ?_
  refine y_cI (i := .invokevirtual 158) (len := 3) (r := (0, 268, 50, 955)) (nL := 1) (k := 1) (n := 1) (hs := []) (args := [.inl (some 2000008)]) (rest := [zi y232]) (l0 := [some (.inl (some 2000008))]) (by decide +kernel) (Or.inr (Or.inl ⟨_, rfl⟩)) rfl rfl rfl rfl (Nat.le_of_ble_eq_true rfl) rfl rfl (qI_le (by decide) tln8) (fun y233 qy233 hRy233 => ?_)
  obtain ⟨rfl, hy233⟩ := hRy233
  refine y_cF (c := .ge) (off := 44) (len := 3) (r := (0, 0, 0, 0)) (by decide +kernel) (acmpF (c := .ge) (by show _ < _; omega)) ?_
  refine y_same (i := .aload_n 0) (len := 1) (r := (0, 0, 0, 0)) (pc' := 15) (ls' := [some (.inl (some 15)), some (.inl (some 2000008)), some (zi y232), none]) (st' := [.inl (some 15)]) (by decide +kernel) (fun k q => by cases q) rfl ?_
  refine y_get (j := 26) (len := 3) (r := (5, 3, 0, 243)) (by decide +kernel) O231.2.1 (tv15 O231.2.1) aw15 rfl rfl ha231 ?_
  refine y_same (i := .iload_n 2) (len := 1) (r := (0, 0, 0, 0)) (pc' := 19) (ls' := [some (.inl (some 15)), some (.inl (some 2000008)), some (zi y232), none]) (st' := [zi y232, zi xa231]) (by decide +kernel) (fun k q => by cases q) rfl ?_
  refine y_add (len := 1) (r := (0, 0, 0, 0)) (by decide +kernel) (by omega) (by omega) (fun y234 hy234 => ?_)
  refine y_same (i := .istore_n 3) (len := 1) (r := (0, 0, 0, 0)) (pc' := 21) (ls' := [some (.inl (some 15)), some (.inl (some 2000008)), some (zi y232), some (zi y234)]) (st' := []) (by decide +kernel) (fun k q => by cases q) rfl ?_
  refine y_same (i := .iload_n 3) (len := 1) (r := (0, 0, 0, 0)) (pc' := 22) (ls' := [some (.inl (some 15)), some (.inl (some 2000008)), some (zi y232), some (zi y234)]) (st' := [zi y234]) (by decide +kernel) (fun k q => by cases q) rfl ?_
  refine y_iF (c := .lt) (off := 25) (len := 3) (r := (0, 0, 0, 0)) (by decide +kernel) (acmpF (c := .lt) (by show _ ≤ _; omega)) ?_
  refine y_same (i := .iload_n 3) (len := 1) (r := (0, 0, 0, 0)) (pc' := 26) (ls' := [some (.inl (some 15)), some (.inl (some 2000008)), some (zi y232), some (zi y234)]) (st' := [zi y234]) (by decide +kernel) (fun k q => by cases q) rfl ?_
  refine y_same (i := .aload_n 0) (len := 1) (r := (0, 0, 0, 0)) (pc' := 27) (ls' := [some (.inl (some 15)), some (.inl (some 2000008)), some (zi y232), some (zi y234)]) (st' := [.inl (some 15), zi y234]) (by decide +kernel) (fun k q => by cases q) rfl ?_
  refine y_get (j := 22) (len := 3) (r := (5, 2, 0, 242)) (by decide +kernel) O231.2.1 (tv15 O231.2.1) aw15 rfl rfl hn231 ?_
  rcases Decidable.em (y234.toInt ≥ xn231.toInt) with q235 | q235
  ·
    refine y_cT (c := .ge) (off := 17) (pc' := 47) (len := 3) (r := (0, 0, 0, 0)) (by decide +kernel) (acmpT (c := .ge) (by show _ ≤ _; omega)) (by decide +kernel) ?_
    refine y_ic (c := 0) (len := 1) (r := (0, 0, 0, 0)) (by decide +kernel) (by decide) (fun y236 hy236 => ?_)
    refine y_rI (len := 1) (r := (0, 0, 0, 0)) (nL := 4) (k := 2) (n9 := 2) (hs := []) (by decide +kernel) rfl (zfit_b (by omega) (by omega)).2 ?_
    exact ⟨_, ⟨O231.1, O231.2.1, fun k T j hk (hC : k ≠ 15 ∨ j ≠ 3) => (O231.2.2 k T j hk (show k ≠ 15 ∨ j ≠ 3 by omega))⟩, Or.inr ⟨sgn_n (mt_n (by rw [bt_ge (by omega)]; decide)), by omega, rd231⟩⟩
  ·
    refine y_cF (c := .ge) (off := 17) (len := 3) (r := (0, 0, 0, 0)) (by decide +kernel) (acmpF (c := .ge) (by show _ < _; omega)) ?_
    refine y_same (i := .aload_n 0) (len := 1) (r := (0, 0, 0, 0)) (pc' := 34) (ls' := [some (.inl (some 15)), some (.inl (some 2000008)), some (zi y232), some (zi y234)]) (st' := [.inl (some 15)]) (by decide +kernel) (fun k q => by cases q) rfl ?_
    refine y_get (j := 18) (len := 3) (r := (5, 1, 2, 241)) (by decide +kernel) O231.2.1 (tv15 O231.2.1) aw15 rfl rfl (g_rU (f := 1) (T2 := 27) O231.2.1 (tv15 O231.2.1) aw15 rfl (by decide)) ?_
    refine y_same (i := .iload_n 3) (len := 1) (r := (0, 0, 0, 0)) (pc' := 38) (ls' := [some (.inl (some 15)), some (.inl (some 2000008)), some (zi y232), some (zi y234)]) (st' := [zi y234, .inl (some 27)]) (by decide +kernel) (fun k q => by cases q) rfl ?_
    obtain ⟨v237, hv238, ev237⟩ := hb231 (sk b n a) (by omega)
    refine y_ial (i := (sk b n a)) (len := 1) (r := (0, 0, 0, 0)) (by decide +kernel) O231.2.1 (tv27 O231.2.1) aw27 (by omega) hv238 ?_
    refine y_same (i := .aload_n 1) (len := 1) (r := (0, 0, 0, 0)) (pc' := 40) (ls' := [some (.inl (some 15)), some (.inl (some 2000008)), some (zi y232), some (zi y234)]) (st' := [.inl (some 2000008), zi v237]) (by decide +kernel) (fun k q => by cases q) rfl ?_
    refine y_same (i := .iload_n 2) (len := 1) (r := (0, 0, 0, 0)) (pc' := 41) (ls' := [some (.inl (some 15)), some (.inl (some 2000008)), some (zi y232), some (zi y234)]) (st' := [zi y232, .inl (some 2000008), zi v237]) (by decide +kernel) (fun k q => by cases q) rfl ?_
    refine y_cI (i := .invokevirtual 162) (len := 3) (r := (0, 269, 50, 969)) (nL := 2) (k := 5) (n := 2) (hs := []) (args := [.inl (some 2000008), zi y232]) (rest := [zi v237]) (l0 := [some (.inl (some 2000008)), some (zi y232)]) (by decide +kernel) (Or.inr (Or.inl ⟨_, rfl⟩)) rfl rfl rfl rfl (Nat.le_of_ble_eq_true rfl) rfl rfl (qI_le (by decide) (tch8_0 (by omega))) (fun y239 qy239 hRy239 => ?_)
    obtain ⟨rfl, hy239⟩ := hRy239
    rcases Decidable.em (v237.toInt = y239.toInt) with q240 | q240
    ·
      have m0 : bt b n (sk b n a) = 33 := by rw [bt_lt (by omega)]; omega
      refine y_cT (c := .eq) (off := 5) (pc' := 49) (len := 3) (r := (0, 0, 0, 0)) (by decide +kernel) (acmpT (c := .eq) (by show _ = _; omega)) (by decide +kernel) ?_
      refine y_inc (j := 2) (a := y232) (c := 1) (ls' := fun v => [some (.inl (some 15)), some (.inl (some 2000008)), some v, some (zi y234)]) (len := 3) (r := (0, 0, 0, 0)) (by decide +kernel) rfl (fun _ => rfl) (by decide) (by omega) (by omega) (fun y242 hy242 => ?_)
      show qX 7 57 52 [some (.inl (some 15)), some (.inl (some 2000008)), some (zi y242), some (zi y234)] [] h231 t _
      refine y_goto (off := (-46)) (pc' := 6) (len := 3) (r := (0, 0, 0, 0)) (by decide +kernel) (by decide +kernel) ?_
      refine y_same (i := .iload_n 2) (len := 1) (r := (0, 0, 0, 0)) (pc' := 7) (ls' := [some (.inl (some 15)), some (.inl (some 2000008)), some (zi y242), some (zi y234)]) (st' := [zi y242]) (by decide +kernel) (fun k q => by cases q) rfl ?_
      refine y_same (i := .aload_n 1) (len := 1) (r := (0, 0, 0, 0)) (pc' := 8) (ls' := [some (.inl (some 15)), some (.inl (some 2000008)), some (zi y242), some (zi y234)]) (st' := [.inl (some 2000008), zi y242]) (by decide +kernel) (fun k q => by cases q) rfl ?_
      refine y_cI (i := .invokevirtual 158) (len := 3) (r := (0, 268, 50, 955)) (nL := 1) (k := 1) (n := 1) (hs := []) (args := [.inl (some 2000008)]) (rest := [zi y242]) (l0 := [some (.inl (some 2000008))]) (by decide +kernel) (Or.inr (Or.inl ⟨_, rfl⟩)) rfl rfl rfl rfl (Nat.le_of_ble_eq_true rfl) rfl rfl (qI_le (by decide) tln8) (fun y243 qy243 hRy243 => ?_)
      obtain ⟨rfl, hy243⟩ := hRy243
      refine y_cF (c := .ge) (off := 44) (len := 3) (r := (0, 0, 0, 0)) (by decide +kernel) (acmpF (c := .ge) (by show _ < _; omega)) ?_
      refine y_same (i := .aload_n 0) (len := 1) (r := (0, 0, 0, 0)) (pc' := 15) (ls' := [some (.inl (some 15)), some (.inl (some 2000008)), some (zi y242), some (zi y234)]) (st' := [.inl (some 15)]) (by decide +kernel) (fun k q => by cases q) rfl ?_
      refine y_get (j := 26) (len := 3) (r := (5, 3, 0, 243)) (by decide +kernel) O231.2.1 (tv15 O231.2.1) aw15 rfl rfl ha231 ?_
      refine y_same (i := .iload_n 2) (len := 1) (r := (0, 0, 0, 0)) (pc' := 19) (ls' := [some (.inl (some 15)), some (.inl (some 2000008)), some (zi y242), some (zi y234)]) (st' := [zi y242, zi xa231]) (by decide +kernel) (fun k q => by cases q) rfl ?_
      refine y_add (len := 1) (r := (0, 0, 0, 0)) (by decide +kernel) (by omega) (by omega) (fun y244 hy244 => ?_)
      refine y_same (i := .istore_n 3) (len := 1) (r := (0, 0, 0, 0)) (pc' := 21) (ls' := [some (.inl (some 15)), some (.inl (some 2000008)), some (zi y242), some (zi y244)]) (st' := []) (by decide +kernel) (fun k q => by cases q) rfl ?_
      refine y_same (i := .iload_n 3) (len := 1) (r := (0, 0, 0, 0)) (pc' := 22) (ls' := [some (.inl (some 15)), some (.inl (some 2000008)), some (zi y242), some (zi y244)]) (st' := [zi y244]) (by decide +kernel) (fun k q => by cases q) rfl ?_
      refine y_iF (c := .lt) (off := 25) (len := 3) (r := (0, 0, 0, 0)) (by decide +kernel) (acmpF (c := .lt) (by show _ ≤ _; omega)) ?_
      refine y_same (i := .iload_n 3) (len := 1) (r := (0, 0, 0, 0)) (pc' := 26) (ls' := [some (.inl (some 15)), some (.inl (some 2000008)), some (zi y242), some (zi y244)]) (st' := [zi y244]) (by decide +kernel) (fun k q => by cases q) rfl ?_
      refine y_same (i := .aload_n 0) (len := 1) (r := (0, 0, 0, 0)) (pc' := 27) (ls' := [some (.inl (some 15)), some (.inl (some 2000008)), some (zi y242), some (zi y244)]) (st' := [.inl (some 15), zi y244]) (by decide +kernel) (fun k q => by cases q) rfl ?_
      refine y_get (j := 22) (len := 3) (r := (5, 2, 0, 242)) (by decide +kernel) O231.2.1 (tv15 O231.2.1) aw15 rfl rfl hn231 ?_
      rcases Decidable.em (y244.toInt ≥ xn231.toInt) with q245 | q245
      ·
        refine y_cT (c := .ge) (off := 17) (pc' := 47) (len := 3) (r := (0, 0, 0, 0)) (by decide +kernel) (acmpT (c := .ge) (by show _ ≤ _; omega)) (by decide +kernel) ?_
        refine y_ic (c := 0) (len := 1) (r := (0, 0, 0, 0)) (by decide +kernel) (by decide) (fun y246 hy246 => ?_)
        refine y_rI (len := 1) (r := (0, 0, 0, 0)) (nL := 4) (k := 2) (n9 := 2) (hs := []) (by decide +kernel) rfl (zfit_b (by omega) (by omega)).2 ?_
        exact ⟨_, ⟨O231.1, O231.2.1, fun k T j hk (hC : k ≠ 15 ∨ j ≠ 3) => (O231.2.2 k T j hk (show k ≠ 15 ∨ j ≠ 3 by omega))⟩, Or.inr ⟨sgn_n (mt_s (a' := sk b n a + 1) (by omega) (mt_n (by rw [bt_ge (by omega)]; decide))), by omega, rd231⟩⟩
      ·
        refine y_cF (c := .ge) (off := 17) (len := 3) (r := (0, 0, 0, 0)) (by decide +kernel) (acmpF (c := .ge) (by show _ < _; omega)) ?_
        refine y_same (i := .aload_n 0) (len := 1) (r := (0, 0, 0, 0)) (pc' := 34) (ls' := [some (.inl (some 15)), some (.inl (some 2000008)), some (zi y242), some (zi y244)]) (st' := [.inl (some 15)]) (by decide +kernel) (fun k q => by cases q) rfl ?_
        refine y_get (j := 18) (len := 3) (r := (5, 1, 2, 241)) (by decide +kernel) O231.2.1 (tv15 O231.2.1) aw15 rfl rfl (g_rU (f := 1) (T2 := 27) O231.2.1 (tv15 O231.2.1) aw15 rfl (by decide)) ?_
        refine y_same (i := .iload_n 3) (len := 1) (r := (0, 0, 0, 0)) (pc' := 38) (ls' := [some (.inl (some 15)), some (.inl (some 2000008)), some (zi y242), some (zi y244)]) (st' := [zi y244, .inl (some 27)]) (by decide +kernel) (fun k q => by cases q) rfl ?_
        obtain ⟨v247, hv248, ev247⟩ := hb231 (sk b n a + 1) (by omega)
        refine y_ial (i := (sk b n a + 1)) (len := 1) (r := (0, 0, 0, 0)) (by decide +kernel) O231.2.1 (tv27 O231.2.1) aw27 (by omega) hv248 ?_
        refine y_same (i := .aload_n 1) (len := 1) (r := (0, 0, 0, 0)) (pc' := 40) (ls' := [some (.inl (some 15)), some (.inl (some 2000008)), some (zi y242), some (zi y244)]) (st' := [.inl (some 2000008), zi v247]) (by decide +kernel) (fun k q => by cases q) rfl ?_
        refine y_same (i := .iload_n 2) (len := 1) (r := (0, 0, 0, 0)) (pc' := 41) (ls' := [some (.inl (some 15)), some (.inl (some 2000008)), some (zi y242), some (zi y244)]) (st' := [zi y242, .inl (some 2000008), zi v247]) (by decide +kernel) (fun k q => by cases q) rfl ?_
        refine y_cI (i := .invokevirtual 162) (len := 3) (r := (0, 269, 50, 969)) (nL := 2) (k := 5) (n := 2) (hs := []) (args := [.inl (some 2000008), zi y242]) (rest := [zi v247]) (l0 := [some (.inl (some 2000008)), some (zi y242)]) (by decide +kernel) (Or.inr (Or.inl ⟨_, rfl⟩)) rfl rfl rfl rfl (Nat.le_of_ble_eq_true rfl) rfl rfl (qI_le (by decide) (tch8_1 (by omega))) (fun y249 qy249 hRy249 => ?_)
        obtain ⟨rfl, hy249⟩ := hRy249
        rcases Decidable.em (v247.toInt = y249.toInt) with q250 | q250
        ·
          have m1 : bt b n (sk b n a + 1) = 61 := by rw [bt_lt (by omega)]; omega
          refine y_cT (c := .eq) (off := 5) (pc' := 49) (len := 3) (r := (0, 0, 0, 0)) (by decide +kernel) (acmpT (c := .eq) (by show _ = _; omega)) (by decide +kernel) ?_
          refine y_inc (j := 2) (a := y242) (c := 1) (ls' := fun v => [some (.inl (some 15)), some (.inl (some 2000008)), some v, some (zi y244)]) (len := 3) (r := (0, 0, 0, 0)) (by decide +kernel) rfl (fun _ => rfl) (by decide) (by omega) (by omega) (fun y252 hy252 => ?_)
          show qX 7 57 52 [some (.inl (some 15)), some (.inl (some 2000008)), some (zi y252), some (zi y244)] [] h231 t _
          refine y_goto (off := (-46)) (pc' := 6) (len := 3) (r := (0, 0, 0, 0)) (by decide +kernel) (by decide +kernel) ?_
          refine y_same (i := .iload_n 2) (len := 1) (r := (0, 0, 0, 0)) (pc' := 7) (ls' := [some (.inl (some 15)), some (.inl (some 2000008)), some (zi y252), some (zi y244)]) (st' := [zi y252]) (by decide +kernel) (fun k q => by cases q) rfl ?_
          refine y_same (i := .aload_n 1) (len := 1) (r := (0, 0, 0, 0)) (pc' := 8) (ls' := [some (.inl (some 15)), some (.inl (some 2000008)), some (zi y252), some (zi y244)]) (st' := [.inl (some 2000008), zi y252]) (by decide +kernel) (fun k q => by cases q) rfl ?_
          refine y_cI (i := .invokevirtual 158) (len := 3) (r := (0, 268, 50, 955)) (nL := 1) (k := 1) (n := 1) (hs := []) (args := [.inl (some 2000008)]) (rest := [zi y252]) (l0 := [some (.inl (some 2000008))]) (by decide +kernel) (Or.inr (Or.inl ⟨_, rfl⟩)) rfl rfl rfl rfl (Nat.le_of_ble_eq_true rfl) rfl rfl (qI_le (by decide) tln8) (fun y253 qy253 hRy253 => ?_)
          obtain ⟨rfl, hy253⟩ := hRy253
          refine y_cT (c := .ge) (off := 44) (pc' := 55) (len := 3) (r := (0, 0, 0, 0)) (by decide +kernel) (acmpT (c := .ge) (by show _ ≤ _; omega)) (by decide +kernel) ?_
          refine y_same (i := .aload_n 0) (len := 1) (r := (0, 0, 0, 0)) (pc' := 56) (ls' := [some (.inl (some 15)), some (.inl (some 2000008)), some (zi y252), some (zi y244)]) (st' := [.inl (some 15)]) (by decide +kernel) (fun k q => by cases q) rfl ?_
          refine y_same (i := .dup) (len := 1) (r := (0, 0, 0, 0)) (pc' := 57) (ls' := [some (.inl (some 15)), some (.inl (some 2000008)), some (zi y252), some (zi y244)]) (st' := [.inl (some 15), .inl (some 15)]) (by decide +kernel) (fun k q => by cases q) rfl ?_
          refine y_get (j := 26) (len := 3) (r := (5, 3, 0, 243)) (by decide +kernel) O231.2.1 (tv15 O231.2.1) aw15 rfl rfl ha231 ?_
          refine y_same (i := .aload_n 1) (len := 1) (r := (0, 0, 0, 0)) (pc' := 61) (ls' := [some (.inl (some 15)), some (.inl (some 2000008)), some (zi y252), some (zi y244)]) (st' := [.inl (some 2000008), zi xa231, .inl (some 15)]) (by decide +kernel) (fun k q => by cases q) rfl ?_
          refine y_cI (i := .invokevirtual 158) (len := 3) (r := (0, 268, 50, 955)) (nL := 1) (k := 1) (n := 1) (hs := []) (args := [.inl (some 2000008)]) (rest := [zi xa231, .inl (some 15)]) (l0 := [some (.inl (some 2000008))]) (by decide +kernel) (Or.inr (Or.inl ⟨_, rfl⟩)) rfl rfl rfl rfl (Nat.le_of_ble_eq_true rfl) rfl rfl (qI_le (by decide) tln8) (fun y254 qy254 hRy254 => ?_)
          obtain ⟨rfl, hy254⟩ := hRy254
          refine y_add (len := 1) (r := (0, 0, 0, 0)) (by decide +kernel) (by omega) (by omega) (fun y255 hy255 => ?_)
          refine y_put (j := 26) (lo := (-2147483648)) (hi := 2147483647) (len := 3) (r := (5, 3, 0, 243)) (by decide +kernel) O231.2.1 (tv15 O231.2.1) aw15 rfl rfl (by decide) rfl (qin_full _).1 (qin_full _).2 rfl (fun h256 hg256 hl256 hs256 ho256 => ?_)
          have ho256 : hO 15 3 h231 h256 := ho256
          have hs256 : hsl h256 15 3 = some (zi y255) := hs256
          refine y_ic (c := 1) (len := 1) (r := (0, 0, 0, 0)) (by decide +kernel) (by decide) (fun y257 hy257 => ?_)
          refine y_rI (len := 1) (r := (0, 0, 0, 0)) (nL := 4) (k := 2) (n9 := 2) (hs := []) (by decide +kernel) rfl (zfit_b (by omega) (by omega)).2 ?_
          refine ⟨_, ⟨O231.1, hg256, fun k T j hk (hC : k ≠ 15 ∨ j ≠ 3) => ((ho256 k j (by omega)).trans (O231.2.2 k T j hk (show k ≠ 15 ∨ j ≠ 3 by omega)))⟩, Or.inl ⟨sk b n a + 2, sgn_y (w := [33, 61]) (mt_c (a' := sk b n a + 1) m0 (by omega) (mt_c (a' := sk b n a + 2) m1 (by omega) rfl)), by omega, by omega, ?_⟩⟩
          exact rdc_up O231.2.1 rd231 ⟨(aup_refl _), hg256, fun k T j hk (hC : k ≠ 15 ∨ j ≠ 3) => (ho256 k j (by omega))⟩ ⟨_, hs256, by omega⟩
        ·
          refine y_cF (c := .eq) (off := 5) (len := 3) (r := (0, 0, 0, 0)) (by decide +kernel) (acmpF (c := .eq) (by show ¬ (_ = _); omega)) ?_
          refine y_ic (c := 0) (len := 1) (r := (0, 0, 0, 0)) (by decide +kernel) (by decide) (fun y251 hy251 => ?_)
          refine y_rI (len := 1) (r := (0, 0, 0, 0)) (nL := 4) (k := 2) (n9 := 2) (hs := []) (by decide +kernel) rfl (zfit_b (by omega) (by omega)).2 ?_
          exact ⟨_, ⟨O231.1, O231.2.1, fun k T j hk (hC : k ≠ 15 ∨ j ≠ 3) => (O231.2.2 k T j hk (show k ≠ 15 ∨ j ≠ 3 by omega))⟩, Or.inr ⟨sgn_n (mt_s (a' := sk b n a + 1) (by omega) (mt_n (by rw [bt_lt (by omega)]; omega))), by omega, rd231⟩⟩
    ·
      refine y_cF (c := .eq) (off := 5) (len := 3) (r := (0, 0, 0, 0)) (by decide +kernel) (acmpF (c := .eq) (by show ¬ (_ = _); omega)) ?_
      refine y_ic (c := 0) (len := 1) (r := (0, 0, 0, 0)) (by decide +kernel) (by decide) (fun y241 hy241 => ?_)
      refine y_rI (len := 1) (r := (0, 0, 0, 0)) (nL := 4) (k := 2) (n9 := 2) (hs := []) (by decide +kernel) rfl (zfit_b (by omega) (by omega)).2 ?_
      exact ⟨_, ⟨O231.1, O231.2.1, fun k T j hk (hC : k ≠ 15 ∨ j ≠ 3) => (O231.2.2 k T j hk (show k ≠ 15 ∨ j ≠ 3 by omega))⟩, Or.inr ⟨sgn_n (mt_n (by rw [bt_lt (by omega)]; omega)), by omega, rd231⟩⟩
theorem e_sign9 {t n a : Nat} {b : Nat → Int} {τ : List Nat} {h : zh} (hg : hG τ h) (rd : rdC h n a b) (han : a ≤ n) : qI 8 57 [some (.inl (some 15)), some (.inl (some 2000009)), none, none] h t (fun y h1 => ∃ τ1, oF (fun k j => k ≠ 15 ∨ j ≠ 3) τ h τ1 h1 ∧ ((∃ a', sgn b n [42] a = some a' ∧ a' ≤ n ∧ y.toInt = 1 ∧ rdC h1 n a' b) ∨ (sgn b n [42] a = none ∧ y.toInt = 0 ∧ rdC h1 n (sk b n a) b))) := by
  obtain ⟨⟨xn, hn, en⟩, ⟨xa, ha, ea⟩, hb, hn2⟩ := id rd
  refine qI_of ?_
  refine y_same (i := .aload_n 0) (len := 1) (r := (0, 0, 0, 0)) (pc' := 1) (ls' := [some (.inl (some 15)), some (.inl (some 2000009)), none, none]) (st' := [.inl (some 15)]) (by decide +kernel) (fun k q => by cases q) rfl ?_
  refine y_cV (i := .invokevirtual 89) (len := 3) (r := (0, 60, 5, 947)) (nL := 1) (k := 0) (n := 1) (hs := []) (args := [.inl (some 15)]) (rest := []) (l0 := [some (.inl (some 15))]) (by decide +kernel) (Or.inr (Or.inl ⟨_, rfl⟩)) rfl rfl rfl rfl (Nat.le_of_ble_eq_true rfl) (zO hg (tv15 hg) aw15 rfl) rfl (qV_le (by decide) (e_skip hg rd (by omega))) (fun h258 hR258 => ?_)
  obtain ⟨τ258, O258, rd258⟩ := hR258
  obtain ⟨⟨xn258, hn258, en258⟩, ⟨xa258, ha258, ea258⟩, hb258, -⟩ := id rd258
  have sl258 := sk_le (b := b) (n := n) (a := a) (by omega)
  refine y_ic (c := 0) (len := 1) (r := (0, 0, 0, 0)) (by decide +kernel) (by decide) (fun y259 hy259 => ?_)
  refine y_same (i := .istore_n 2) (len := 1) (r := (0, 0, 0, 0)) (pc' := 6) (ls' := [some (.inl (some 15)), some (.inl (some 2000009)), some (zi y259), none]) (st' := []) (by decide +kernel) (fun k q => by cases q) rfl ?_
  refine y_same (i := .iload_n 2) (len := 1) (r := (0, 0, 0, 0)) (pc' := 7) (ls' := [some (.inl (some 15)), some (.inl (some 2000009)), some (zi y259), none]) (st' := [zi y259]) (by decide +kernel) (fun k q => by cases q) rfl ?_
  refine y_same (i := .aload_n 1) (len := 1) (r := (0, 0, 0, 0)) (pc' := 8) (ls' := [some (.inl (some 15)), some (.inl (some 2000009)), some (zi y259), none]) (st' := [.inl (some 2000009), zi y259]) (by decide +kernel) (fun k q => by cases q) rfl ?_
  refine y_cI (i := .invokevirtual 158) (len := 3) (r := (0, 268, 50, 955)) (nL := 1) (k := 1) (n := 1) (hs := []) (args := [.inl (some 2000009)]) (rest := [zi y259]) (l0 := [some (.inl (some 2000009))]) (by decide +kernel) (Or.inr (Or.inl ⟨_, rfl⟩)) rfl rfl rfl rfl (Nat.le_of_ble_eq_true rfl) rfl rfl (qI_le (by decide) tln9) (fun y260 qy260 hRy260 => ?_)
  obtain ⟨rfl, hy260⟩ := hRy260
  refine y_cF (c := .ge) (off := 44) (len := 3) (r := (0, 0, 0, 0)) (by decide +kernel) (acmpF (c := .ge) (by show _ < _; omega)) ?_
  refine y_same (i := .aload_n 0) (len := 1) (r := (0, 0, 0, 0)) (pc' := 15) (ls' := [some (.inl (some 15)), some (.inl (some 2000009)), some (zi y259), none]) (st' := [.inl (some 15)]) (by decide +kernel) (fun k q => by cases q) rfl ?_
  refine y_get (j := 26) (len := 3) (r := (5, 3, 0, 243)) (by decide +kernel) O258.2.1 (tv15 O258.2.1) aw15 rfl rfl ha258 ?_
  refine y_same (i := .iload_n 2) (len := 1) (r := (0, 0, 0, 0)) (pc' := 19) (ls' := [some (.inl (some 15)), some (.inl (some 2000009)), some (zi y259), none]) (st' := [zi y259, zi xa258]) (by decide +kernel) (fun k q => by cases q) rfl ?_
  refine y_add (len := 1) (r := (0, 0, 0, 0)) (by decide +kernel) (by omega) (by omega) (fun y261 hy261 => ?_)
  refine y_same (i := .istore_n 3) (len := 1) (r := (0, 0, 0, 0)) (pc' := 21) (ls' := [some (.inl (some 15)), some (.inl (some 2000009)), some (zi y259), some (zi y261)]) (st' := []) (by decide +kernel) (fun k q => by cases q) rfl ?_
  refine y_same (i := .iload_n 3) (len := 1) (r := (0, 0, 0, 0)) (pc' := 22) (ls' := [some (.inl (some 15)), some (.inl (some 2000009)), some (zi y259), some (zi y261)]) (st' := [zi y261]) (by decide +kernel) (fun k q => by cases q) rfl ?_
  refine y_iF (c := .lt) (off := 25) (len := 3) (r := (0, 0, 0, 0)) (by decide +kernel) (acmpF (c := .lt) (by show _ ≤ _; omega)) ?_
  refine y_same (i := .iload_n 3) (len := 1) (r := (0, 0, 0, 0)) (pc' := 26) (ls' := [some (.inl (some 15)), some (.inl (some 2000009)), some (zi y259), some (zi y261)]) (st' := [zi y261]) (by decide +kernel) (fun k q => by cases q) rfl ?_
  refine y_same (i := .aload_n 0) (len := 1) (r := (0, 0, 0, 0)) (pc' := 27) (ls' := [some (.inl (some 15)), some (.inl (some 2000009)), some (zi y259), some (zi y261)]) (st' := [.inl (some 15), zi y261]) (by decide +kernel) (fun k q => by cases q) rfl ?_
  refine y_get (j := 22) (len := 3) (r := (5, 2, 0, 242)) (by decide +kernel) O258.2.1 (tv15 O258.2.1) aw15 rfl rfl hn258 ?_
  rcases Decidable.em (y261.toInt ≥ xn258.toInt) with q262 | q262
  ·
    refine y_cT (c := .ge) (off := 17) (pc' := 47) (len := 3) (r := (0, 0, 0, 0)) (by decide +kernel) (acmpT (c := .ge) (by show _ ≤ _; omega)) (by decide +kernel) ?_
    refine y_ic (c := 0) (len := 1) (r := (0, 0, 0, 0)) (by decide +kernel) (by decide) (fun y263 hy263 => ?_)
    refine y_rI (len := 1) (r := (0, 0, 0, 0)) (nL := 4) (k := 2) (n9 := 2) (hs := []) (by decide +kernel) rfl (zfit_b (by omega) (by omega)).2 ?_
    exact ⟨_, ⟨O258.1, O258.2.1, fun k T j hk (hC : k ≠ 15 ∨ j ≠ 3) => (O258.2.2 k T j hk (show k ≠ 15 ∨ j ≠ 3 by omega))⟩, Or.inr ⟨sgn_n (mt_n (by rw [bt_ge (by omega)]; decide)), by omega, rd258⟩⟩
  ·
    refine y_cF (c := .ge) (off := 17) (len := 3) (r := (0, 0, 0, 0)) (by decide +kernel) (acmpF (c := .ge) (by show _ < _; omega)) ?_
    refine y_same (i := .aload_n 0) (len := 1) (r := (0, 0, 0, 0)) (pc' := 34) (ls' := [some (.inl (some 15)), some (.inl (some 2000009)), some (zi y259), some (zi y261)]) (st' := [.inl (some 15)]) (by decide +kernel) (fun k q => by cases q) rfl ?_
    refine y_get (j := 18) (len := 3) (r := (5, 1, 2, 241)) (by decide +kernel) O258.2.1 (tv15 O258.2.1) aw15 rfl rfl (g_rU (f := 1) (T2 := 27) O258.2.1 (tv15 O258.2.1) aw15 rfl (by decide)) ?_
    refine y_same (i := .iload_n 3) (len := 1) (r := (0, 0, 0, 0)) (pc' := 38) (ls' := [some (.inl (some 15)), some (.inl (some 2000009)), some (zi y259), some (zi y261)]) (st' := [zi y261, .inl (some 27)]) (by decide +kernel) (fun k q => by cases q) rfl ?_
    obtain ⟨v264, hv265, ev264⟩ := hb258 (sk b n a) (by omega)
    refine y_ial (i := (sk b n a)) (len := 1) (r := (0, 0, 0, 0)) (by decide +kernel) O258.2.1 (tv27 O258.2.1) aw27 (by omega) hv265 ?_
    refine y_same (i := .aload_n 1) (len := 1) (r := (0, 0, 0, 0)) (pc' := 40) (ls' := [some (.inl (some 15)), some (.inl (some 2000009)), some (zi y259), some (zi y261)]) (st' := [.inl (some 2000009), zi v264]) (by decide +kernel) (fun k q => by cases q) rfl ?_
    refine y_same (i := .iload_n 2) (len := 1) (r := (0, 0, 0, 0)) (pc' := 41) (ls' := [some (.inl (some 15)), some (.inl (some 2000009)), some (zi y259), some (zi y261)]) (st' := [zi y259, .inl (some 2000009), zi v264]) (by decide +kernel) (fun k q => by cases q) rfl ?_
    refine y_cI (i := .invokevirtual 162) (len := 3) (r := (0, 269, 50, 969)) (nL := 2) (k := 5) (n := 2) (hs := []) (args := [.inl (some 2000009), zi y259]) (rest := [zi v264]) (l0 := [some (.inl (some 2000009)), some (zi y259)]) (by decide +kernel) (Or.inr (Or.inl ⟨_, rfl⟩)) rfl rfl rfl rfl (Nat.le_of_ble_eq_true rfl) rfl rfl (qI_le (by decide) (tch9_0 (by omega))) (fun y266 qy266 hRy266 => ?_)
    obtain ⟨rfl, hy266⟩ := hRy266
    rcases Decidable.em (v264.toInt = y266.toInt) with q267 | q267
    ·
      have m0 : bt b n (sk b n a) = 42 := by rw [bt_lt (by omega)]; omega
      refine y_cT (c := .eq) (off := 5) (pc' := 49) (len := 3) (r := (0, 0, 0, 0)) (by decide +kernel) (acmpT (c := .eq) (by show _ = _; omega)) (by decide +kernel) ?_
      refine y_inc (j := 2) (a := y259) (c := 1) (ls' := fun v => [some (.inl (some 15)), some (.inl (some 2000009)), some v, some (zi y261)]) (len := 3) (r := (0, 0, 0, 0)) (by decide +kernel) rfl (fun _ => rfl) (by decide) (by omega) (by omega) (fun y269 hy269 => ?_)
      show qX 7 57 52 [some (.inl (some 15)), some (.inl (some 2000009)), some (zi y269), some (zi y261)] [] h258 t _
      refine y_goto (off := (-46)) (pc' := 6) (len := 3) (r := (0, 0, 0, 0)) (by decide +kernel) (by decide +kernel) ?_
      refine y_same (i := .iload_n 2) (len := 1) (r := (0, 0, 0, 0)) (pc' := 7) (ls' := [some (.inl (some 15)), some (.inl (some 2000009)), some (zi y269), some (zi y261)]) (st' := [zi y269]) (by decide +kernel) (fun k q => by cases q) rfl ?_
      refine y_same (i := .aload_n 1) (len := 1) (r := (0, 0, 0, 0)) (pc' := 8) (ls' := [some (.inl (some 15)), some (.inl (some 2000009)), some (zi y269), some (zi y261)]) (st' := [.inl (some 2000009), zi y269]) (by decide +kernel) (fun k q => by cases q) rfl ?_
      refine y_cI (i := .invokevirtual 158) (len := 3) (r := (0, 268, 50, 955)) (nL := 1) (k := 1) (n := 1) (hs := []) (args := [.inl (some 2000009)]) (rest := [zi y269]) (l0 := [some (.inl (some 2000009))]) (by decide +kernel) (Or.inr (Or.inl ⟨_, rfl⟩)) rfl rfl rfl rfl (Nat.le_of_ble_eq_true rfl) rfl rfl (qI_le (by decide) tln9) (fun y270 qy270 hRy270 => ?_)
      obtain ⟨rfl, hy270⟩ := hRy270
      refine y_cT (c := .ge) (off := 44) (pc' := 55) (len := 3) (r := (0, 0, 0, 0)) (by decide +kernel) (acmpT (c := .ge) (by show _ ≤ _; omega)) (by decide +kernel) ?_
      refine y_same (i := .aload_n 0) (len := 1) (r := (0, 0, 0, 0)) (pc' := 56) (ls' := [some (.inl (some 15)), some (.inl (some 2000009)), some (zi y269), some (zi y261)]) (st' := [.inl (some 15)]) (by decide +kernel) (fun k q => by cases q) rfl ?_
      refine y_same (i := .dup) (len := 1) (r := (0, 0, 0, 0)) (pc' := 57) (ls' := [some (.inl (some 15)), some (.inl (some 2000009)), some (zi y269), some (zi y261)]) (st' := [.inl (some 15), .inl (some 15)]) (by decide +kernel) (fun k q => by cases q) rfl ?_
      refine y_get (j := 26) (len := 3) (r := (5, 3, 0, 243)) (by decide +kernel) O258.2.1 (tv15 O258.2.1) aw15 rfl rfl ha258 ?_
      refine y_same (i := .aload_n 1) (len := 1) (r := (0, 0, 0, 0)) (pc' := 61) (ls' := [some (.inl (some 15)), some (.inl (some 2000009)), some (zi y269), some (zi y261)]) (st' := [.inl (some 2000009), zi xa258, .inl (some 15)]) (by decide +kernel) (fun k q => by cases q) rfl ?_
      refine y_cI (i := .invokevirtual 158) (len := 3) (r := (0, 268, 50, 955)) (nL := 1) (k := 1) (n := 1) (hs := []) (args := [.inl (some 2000009)]) (rest := [zi xa258, .inl (some 15)]) (l0 := [some (.inl (some 2000009))]) (by decide +kernel) (Or.inr (Or.inl ⟨_, rfl⟩)) rfl rfl rfl rfl (Nat.le_of_ble_eq_true rfl) rfl rfl (qI_le (by decide) tln9) (fun y271 qy271 hRy271 => ?_)
      obtain ⟨rfl, hy271⟩ := hRy271
      refine y_add (len := 1) (r := (0, 0, 0, 0)) (by decide +kernel) (by omega) (by omega) (fun y272 hy272 => ?_)
      refine y_put (j := 26) (lo := (-2147483648)) (hi := 2147483647) (len := 3) (r := (5, 3, 0, 243)) (by decide +kernel) O258.2.1 (tv15 O258.2.1) aw15 rfl rfl (by decide) rfl (qin_full _).1 (qin_full _).2 rfl (fun h273 hg273 hl273 hs273 ho273 => ?_)
      have ho273 : hO 15 3 h258 h273 := ho273
      have hs273 : hsl h273 15 3 = some (zi y272) := hs273
      refine y_ic (c := 1) (len := 1) (r := (0, 0, 0, 0)) (by decide +kernel) (by decide) (fun y274 hy274 => ?_)
      refine y_rI (len := 1) (r := (0, 0, 0, 0)) (nL := 4) (k := 2) (n9 := 2) (hs := []) (by decide +kernel) rfl (zfit_b (by omega) (by omega)).2 ?_
      refine ⟨_, ⟨O258.1, hg273, fun k T j hk (hC : k ≠ 15 ∨ j ≠ 3) => ((ho273 k j (by omega)).trans (O258.2.2 k T j hk (show k ≠ 15 ∨ j ≠ 3 by omega)))⟩, Or.inl ⟨sk b n a + 1, sgn_y (w := [42]) (mt_c (a' := sk b n a + 1) m0 (by omega) rfl), by omega, by omega, ?_⟩⟩
      exact rdc_up O258.2.1 rd258 ⟨(aup_refl _), hg273, fun k T j hk (hC : k ≠ 15 ∨ j ≠ 3) => (ho273 k j (by omega))⟩ ⟨_, hs273, by omega⟩
    ·
      refine y_cF (c := .eq) (off := 5) (len := 3) (r := (0, 0, 0, 0)) (by decide +kernel) (acmpF (c := .eq) (by show ¬ (_ = _); omega)) ?_
      refine y_ic (c := 0) (len := 1) (r := (0, 0, 0, 0)) (by decide +kernel) (by decide) (fun y268 hy268 => ?_)
      refine y_rI (len := 1) (r := (0, 0, 0, 0)) (nL := 4) (k := 2) (n9 := 2) (hs := []) (by decide +kernel) rfl (zfit_b (by omega) (by omega)).2 ?_
      exact ⟨_, ⟨O258.1, O258.2.1, fun k T j hk (hC : k ≠ 15 ∨ j ≠ 3) => (O258.2.2 k T j hk (show k ≠ 15 ∨ j ≠ 3 by omega))⟩, Or.inr ⟨sgn_n (mt_n (by rw [bt_lt (by omega)]; omega)), by omega, rd258⟩⟩
theorem e_sign10 {t n a : Nat} {b : Nat → Int} {τ : List Nat} {h : zh} (hg : hG τ h) (rd : rdC h n a b) (han : a ≤ n) : qI 8 57 [some (.inl (some 15)), some (.inl (some 2000010)), none, none] h t (fun y h1 => ∃ τ1, oF (fun k j => k ≠ 15 ∨ j ≠ 3) τ h τ1 h1 ∧ ((∃ a', sgn b n [124, 45] a = some a' ∧ a' ≤ n ∧ y.toInt = 1 ∧ rdC h1 n a' b) ∨ (sgn b n [124, 45] a = none ∧ y.toInt = 0 ∧ rdC h1 n (sk b n a) b))) := by
  obtain ⟨⟨xn, hn, en⟩, ⟨xa, ha, ea⟩, hb, hn2⟩ := id rd
  refine qI_of ?_
  refine y_same (i := .aload_n 0) (len := 1) (r := (0, 0, 0, 0)) (pc' := 1) (ls' := [some (.inl (some 15)), some (.inl (some 2000010)), none, none]) (st' := [.inl (some 15)]) (by decide +kernel) (fun k q => by cases q) rfl ?_
  refine y_cV (i := .invokevirtual 89) (len := 3) (r := (0, 60, 5, 947)) (nL := 1) (k := 0) (n := 1) (hs := []) (args := [.inl (some 15)]) (rest := []) (l0 := [some (.inl (some 15))]) (by decide +kernel) (Or.inr (Or.inl ⟨_, rfl⟩)) rfl rfl rfl rfl (Nat.le_of_ble_eq_true rfl) (zO hg (tv15 hg) aw15 rfl) rfl (qV_le (by decide) (e_skip hg rd (by omega))) (fun h275 hR275 => ?_)
  obtain ⟨τ275, O275, rd275⟩ := hR275
  obtain ⟨⟨xn275, hn275, en275⟩, ⟨xa275, ha275, ea275⟩, hb275, -⟩ := id rd275
  have sl275 := sk_le (b := b) (n := n) (a := a) (by omega)
  refine y_ic (c := 0) (len := 1) (r := (0, 0, 0, 0)) (by decide +kernel) (by decide) (fun y276 hy276 => ?_)
  refine y_same (i := .istore_n 2) (len := 1) (r := (0, 0, 0, 0)) (pc' := 6) (ls' := [some (.inl (some 15)), some (.inl (some 2000010)), some (zi y276), none]) (st' := []) (by decide +kernel) (fun k q => by cases q) rfl ?_
  refine y_same (i := .iload_n 2) (len := 1) (r := (0, 0, 0, 0)) (pc' := 7) (ls' := [some (.inl (some 15)), some (.inl (some 2000010)), some (zi y276), none]) (st' := [zi y276]) (by decide +kernel) (fun k q => by cases q) rfl ?_
  refine y_same (i := .aload_n 1) (len := 1) (r := (0, 0, 0, 0)) (pc' := 8) (ls' := [some (.inl (some 15)), some (.inl (some 2000010)), some (zi y276), none]) (st' := [.inl (some 2000010), zi y276]) (by decide +kernel) (fun k q => by cases q) rfl ?_
  refine y_cI (i := .invokevirtual 158) (len := 3) (r := (0, 268, 50, 955)) (nL := 1) (k := 1) (n := 1) (hs := []) (args := [.inl (some 2000010)]) (rest := [zi y276]) (l0 := [some (.inl (some 2000010))]) (by decide +kernel) (Or.inr (Or.inl ⟨_, rfl⟩)) rfl rfl rfl rfl (Nat.le_of_ble_eq_true rfl) rfl rfl (qI_le (by decide) tln10) (fun y277 qy277 hRy277 => ?_)
  obtain ⟨rfl, hy277⟩ := hRy277
  refine y_cF (c := .ge) (off := 44) (len := 3) (r := (0, 0, 0, 0)) (by decide +kernel) (acmpF (c := .ge) (by show _ < _; omega)) ?_
  refine y_same (i := .aload_n 0) (len := 1) (r := (0, 0, 0, 0)) (pc' := 15) (ls' := [some (.inl (some 15)), some (.inl (some 2000010)), some (zi y276), none]) (st' := [.inl (some 15)]) (by decide +kernel) (fun k q => by cases q) rfl ?_
  refine y_get (j := 26) (len := 3) (r := (5, 3, 0, 243)) (by decide +kernel) O275.2.1 (tv15 O275.2.1) aw15 rfl rfl ha275 ?_
  refine y_same (i := .iload_n 2) (len := 1) (r := (0, 0, 0, 0)) (pc' := 19) (ls' := [some (.inl (some 15)), some (.inl (some 2000010)), some (zi y276), none]) (st' := [zi y276, zi xa275]) (by decide +kernel) (fun k q => by cases q) rfl ?_
  refine y_add (len := 1) (r := (0, 0, 0, 0)) (by decide +kernel) (by omega) (by omega) (fun y278 hy278 => ?_)
  refine y_same (i := .istore_n 3) (len := 1) (r := (0, 0, 0, 0)) (pc' := 21) (ls' := [some (.inl (some 15)), some (.inl (some 2000010)), some (zi y276), some (zi y278)]) (st' := []) (by decide +kernel) (fun k q => by cases q) rfl ?_
  refine y_same (i := .iload_n 3) (len := 1) (r := (0, 0, 0, 0)) (pc' := 22) (ls' := [some (.inl (some 15)), some (.inl (some 2000010)), some (zi y276), some (zi y278)]) (st' := [zi y278]) (by decide +kernel) (fun k q => by cases q) rfl ?_
  refine y_iF (c := .lt) (off := 25) (len := 3) (r := (0, 0, 0, 0)) (by decide +kernel) (acmpF (c := .lt) (by show _ ≤ _; omega)) ?_
  refine y_same (i := .iload_n 3) (len := 1) (r := (0, 0, 0, 0)) (pc' := 26) (ls' := [some (.inl (some 15)), some (.inl (some 2000010)), some (zi y276), some (zi y278)]) (st' := [zi y278]) (by decide +kernel) (fun k q => by cases q) rfl ?_
  refine y_same (i := .aload_n 0) (len := 1) (r := (0, 0, 0, 0)) (pc' := 27) (ls' := [some (.inl (some 15)), some (.inl (some 2000010)), some (zi y276), some (zi y278)]) (st' := [.inl (some 15), zi y278]) (by decide +kernel) (fun k q => by cases q) rfl ?_
  refine y_get (j := 22) (len := 3) (r := (5, 2, 0, 242)) (by decide +kernel) O275.2.1 (tv15 O275.2.1) aw15 rfl rfl hn275 ?_
  rcases Decidable.em (y278.toInt ≥ xn275.toInt) with q279 | q279
  ·
    refine y_cT (c := .ge) (off := 17) (pc' := 47) (len := 3) (r := (0, 0, 0, 0)) (by decide +kernel) (acmpT (c := .ge) (by show _ ≤ _; omega)) (by decide +kernel) ?_
    refine y_ic (c := 0) (len := 1) (r := (0, 0, 0, 0)) (by decide +kernel) (by decide) (fun y280 hy280 => ?_)
    refine y_rI (len := 1) (r := (0, 0, 0, 0)) (nL := 4) (k := 2) (n9 := 2) (hs := []) (by decide +kernel) rfl (zfit_b (by omega) (by omega)).2 ?_
    exact ⟨_, ⟨O275.1, O275.2.1, fun k T j hk (hC : k ≠ 15 ∨ j ≠ 3) => (O275.2.2 k T j hk (show k ≠ 15 ∨ j ≠ 3 by omega))⟩, Or.inr ⟨sgn_n (mt_n (by rw [bt_ge (by omega)]; decide)), by omega, rd275⟩⟩
  ·
    refine y_cF (c := .ge) (off := 17) (len := 3) (r := (0, 0, 0, 0)) (by decide +kernel) (acmpF (c := .ge) (by show _ < _; omega)) ?_
    refine y_same (i := .aload_n 0) (len := 1) (r := (0, 0, 0, 0)) (pc' := 34) (ls' := [some (.inl (some 15)), some (.inl (some 2000010)), some (zi y276), some (zi y278)]) (st' := [.inl (some 15)]) (by decide +kernel) (fun k q => by cases q) rfl ?_
    refine y_get (j := 18) (len := 3) (r := (5, 1, 2, 241)) (by decide +kernel) O275.2.1 (tv15 O275.2.1) aw15 rfl rfl (g_rU (f := 1) (T2 := 27) O275.2.1 (tv15 O275.2.1) aw15 rfl (by decide)) ?_
    refine y_same (i := .iload_n 3) (len := 1) (r := (0, 0, 0, 0)) (pc' := 38) (ls' := [some (.inl (some 15)), some (.inl (some 2000010)), some (zi y276), some (zi y278)]) (st' := [zi y278, .inl (some 27)]) (by decide +kernel) (fun k q => by cases q) rfl ?_
    obtain ⟨v281, hv282, ev281⟩ := hb275 (sk b n a) (by omega)
    refine y_ial (i := (sk b n a)) (len := 1) (r := (0, 0, 0, 0)) (by decide +kernel) O275.2.1 (tv27 O275.2.1) aw27 (by omega) hv282 ?_
    refine y_same (i := .aload_n 1) (len := 1) (r := (0, 0, 0, 0)) (pc' := 40) (ls' := [some (.inl (some 15)), some (.inl (some 2000010)), some (zi y276), some (zi y278)]) (st' := [.inl (some 2000010), zi v281]) (by decide +kernel) (fun k q => by cases q) rfl ?_
    refine y_same (i := .iload_n 2) (len := 1) (r := (0, 0, 0, 0)) (pc' := 41) (ls' := [some (.inl (some 15)), some (.inl (some 2000010)), some (zi y276), some (zi y278)]) (st' := [zi y276, .inl (some 2000010), zi v281]) (by decide +kernel) (fun k q => by cases q) rfl ?_
    refine y_cI (i := .invokevirtual 162) (len := 3) (r := (0, 269, 50, 969)) (nL := 2) (k := 5) (n := 2) (hs := []) (args := [.inl (some 2000010), zi y276]) (rest := [zi v281]) (l0 := [some (.inl (some 2000010)), some (zi y276)]) (by decide +kernel) (Or.inr (Or.inl ⟨_, rfl⟩)) rfl rfl rfl rfl (Nat.le_of_ble_eq_true rfl) rfl rfl (qI_le (by decide) (tch10_0 (by omega))) (fun y283 qy283 hRy283 => ?_)
    obtain ⟨rfl, hy283⟩ := hRy283
    rcases Decidable.em (v281.toInt = y283.toInt) with q284 | q284
    ·
      have m0 : bt b n (sk b n a) = 124 := by rw [bt_lt (by omega)]; omega
      refine y_cT (c := .eq) (off := 5) (pc' := 49) (len := 3) (r := (0, 0, 0, 0)) (by decide +kernel) (acmpT (c := .eq) (by show _ = _; omega)) (by decide +kernel) ?_
      refine y_inc (j := 2) (a := y276) (c := 1) (ls' := fun v => [some (.inl (some 15)), some (.inl (some 2000010)), some v, some (zi y278)]) (len := 3) (r := (0, 0, 0, 0)) (by decide +kernel) rfl (fun _ => rfl) (by decide) (by omega) (by omega) (fun y286 hy286 => ?_)
      show qX 7 57 52 [some (.inl (some 15)), some (.inl (some 2000010)), some (zi y286), some (zi y278)] [] h275 t _
      refine y_goto (off := (-46)) (pc' := 6) (len := 3) (r := (0, 0, 0, 0)) (by decide +kernel) (by decide +kernel) ?_
      refine y_same (i := .iload_n 2) (len := 1) (r := (0, 0, 0, 0)) (pc' := 7) (ls' := [some (.inl (some 15)), some (.inl (some 2000010)), some (zi y286), some (zi y278)]) (st' := [zi y286]) (by decide +kernel) (fun k q => by cases q) rfl ?_
      refine y_same (i := .aload_n 1) (len := 1) (r := (0, 0, 0, 0)) (pc' := 8) (ls' := [some (.inl (some 15)), some (.inl (some 2000010)), some (zi y286), some (zi y278)]) (st' := [.inl (some 2000010), zi y286]) (by decide +kernel) (fun k q => by cases q) rfl ?_
      refine y_cI (i := .invokevirtual 158) (len := 3) (r := (0, 268, 50, 955)) (nL := 1) (k := 1) (n := 1) (hs := []) (args := [.inl (some 2000010)]) (rest := [zi y286]) (l0 := [some (.inl (some 2000010))]) (by decide +kernel) (Or.inr (Or.inl ⟨_, rfl⟩)) rfl rfl rfl rfl (Nat.le_of_ble_eq_true rfl) rfl rfl (qI_le (by decide) tln10) (fun y287 qy287 hRy287 => ?_)
      obtain ⟨rfl, hy287⟩ := hRy287
      refine y_cF (c := .ge) (off := 44) (len := 3) (r := (0, 0, 0, 0)) (by decide +kernel) (acmpF (c := .ge) (by show _ < _; omega)) ?_
      refine y_same (i := .aload_n 0) (len := 1) (r := (0, 0, 0, 0)) (pc' := 15) (ls' := [some (.inl (some 15)), some (.inl (some 2000010)), some (zi y286), some (zi y278)]) (st' := [.inl (some 15)]) (by decide +kernel) (fun k q => by cases q) rfl ?_
      refine y_get (j := 26) (len := 3) (r := (5, 3, 0, 243)) (by decide +kernel) O275.2.1 (tv15 O275.2.1) aw15 rfl rfl ha275 ?_
      refine y_same (i := .iload_n 2) (len := 1) (r := (0, 0, 0, 0)) (pc' := 19) (ls' := [some (.inl (some 15)), some (.inl (some 2000010)), some (zi y286), some (zi y278)]) (st' := [zi y286, zi xa275]) (by decide +kernel) (fun k q => by cases q) rfl ?_
      refine y_add (len := 1) (r := (0, 0, 0, 0)) (by decide +kernel) (by omega) (by omega) (fun y288 hy288 => ?_)
      refine y_same (i := .istore_n 3) (len := 1) (r := (0, 0, 0, 0)) (pc' := 21) (ls' := [some (.inl (some 15)), some (.inl (some 2000010)), some (zi y286), some (zi y288)]) (st' := []) (by decide +kernel) (fun k q => by cases q) rfl ?_
      refine y_same (i := .iload_n 3) (len := 1) (r := (0, 0, 0, 0)) (pc' := 22) (ls' := [some (.inl (some 15)), some (.inl (some 2000010)), some (zi y286), some (zi y288)]) (st' := [zi y288]) (by decide +kernel) (fun k q => by cases q) rfl ?_
      refine y_iF (c := .lt) (off := 25) (len := 3) (r := (0, 0, 0, 0)) (by decide +kernel) (acmpF (c := .lt) (by show _ ≤ _; omega)) ?_
      refine y_same (i := .iload_n 3) (len := 1) (r := (0, 0, 0, 0)) (pc' := 26) (ls' := [some (.inl (some 15)), some (.inl (some 2000010)), some (zi y286), some (zi y288)]) (st' := [zi y288]) (by decide +kernel) (fun k q => by cases q) rfl ?_
      refine y_same (i := .aload_n 0) (len := 1) (r := (0, 0, 0, 0)) (pc' := 27) (ls' := [some (.inl (some 15)), some (.inl (some 2000010)), some (zi y286), some (zi y288)]) (st' := [.inl (some 15), zi y288]) (by decide +kernel) (fun k q => by cases q) rfl ?_
      refine y_get (j := 22) (len := 3) (r := (5, 2, 0, 242)) (by decide +kernel) O275.2.1 (tv15 O275.2.1) aw15 rfl rfl hn275 ?_
      rcases Decidable.em (y288.toInt ≥ xn275.toInt) with q289 | q289
      ·
        refine y_cT (c := .ge) (off := 17) (pc' := 47) (len := 3) (r := (0, 0, 0, 0)) (by decide +kernel) (acmpT (c := .ge) (by show _ ≤ _; omega)) (by decide +kernel) ?_
        refine y_ic (c := 0) (len := 1) (r := (0, 0, 0, 0)) (by decide +kernel) (by decide) (fun y290 hy290 => ?_)
        refine y_rI (len := 1) (r := (0, 0, 0, 0)) (nL := 4) (k := 2) (n9 := 2) (hs := []) (by decide +kernel) rfl (zfit_b (by omega) (by omega)).2 ?_
        exact ⟨_, ⟨O275.1, O275.2.1, fun k T j hk (hC : k ≠ 15 ∨ j ≠ 3) => (O275.2.2 k T j hk (show k ≠ 15 ∨ j ≠ 3 by omega))⟩, Or.inr ⟨sgn_n (mt_s (a' := sk b n a + 1) (by omega) (mt_n (by rw [bt_ge (by omega)]; decide))), by omega, rd275⟩⟩
      ·
        refine y_cF (c := .ge) (off := 17) (len := 3) (r := (0, 0, 0, 0)) (by decide +kernel) (acmpF (c := .ge) (by show _ < _; omega)) ?_
        refine y_same (i := .aload_n 0) (len := 1) (r := (0, 0, 0, 0)) (pc' := 34) (ls' := [some (.inl (some 15)), some (.inl (some 2000010)), some (zi y286), some (zi y288)]) (st' := [.inl (some 15)]) (by decide +kernel) (fun k q => by cases q) rfl ?_
        refine y_get (j := 18) (len := 3) (r := (5, 1, 2, 241)) (by decide +kernel) O275.2.1 (tv15 O275.2.1) aw15 rfl rfl (g_rU (f := 1) (T2 := 27) O275.2.1 (tv15 O275.2.1) aw15 rfl (by decide)) ?_
        refine y_same (i := .iload_n 3) (len := 1) (r := (0, 0, 0, 0)) (pc' := 38) (ls' := [some (.inl (some 15)), some (.inl (some 2000010)), some (zi y286), some (zi y288)]) (st' := [zi y288, .inl (some 27)]) (by decide +kernel) (fun k q => by cases q) rfl ?_
        obtain ⟨v291, hv292, ev291⟩ := hb275 (sk b n a + 1) (by omega)
        refine y_ial (i := (sk b n a + 1)) (len := 1) (r := (0, 0, 0, 0)) (by decide +kernel) O275.2.1 (tv27 O275.2.1) aw27 (by omega) hv292 ?_
        refine y_same (i := .aload_n 1) (len := 1) (r := (0, 0, 0, 0)) (pc' := 40) (ls' := [some (.inl (some 15)), some (.inl (some 2000010)), some (zi y286), some (zi y288)]) (st' := [.inl (some 2000010), zi v291]) (by decide +kernel) (fun k q => by cases q) rfl ?_
        refine y_same (i := .iload_n 2) (len := 1) (r := (0, 0, 0, 0)) (pc' := 41) (ls' := [some (.inl (some 15)), some (.inl (some 2000010)), some (zi y286), some (zi y288)]) (st' := [zi y286, .inl (some 2000010), zi v291]) (by decide +kernel) (fun k q => by cases q) rfl ?_
        refine y_cI (i := .invokevirtual 162) (len := 3) (r := (0, 269, 50, 969)) (nL := 2) (k := 5) (n := 2) (hs := []) (args := [.inl (some 2000010), zi y286]) (rest := [zi v291]) (l0 := [some (.inl (some 2000010)), some (zi y286)]) (by decide +kernel) (Or.inr (Or.inl ⟨_, rfl⟩)) rfl rfl rfl rfl (Nat.le_of_ble_eq_true rfl) rfl rfl (qI_le (by decide) (tch10_1 (by omega))) (fun y293 qy293 hRy293 => ?_)
        obtain ⟨rfl, hy293⟩ := hRy293
        rcases Decidable.em (v291.toInt = y293.toInt) with q294 | q294
        ·
          have m1 : bt b n (sk b n a + 1) = 45 := by rw [bt_lt (by omega)]; omega
          refine y_cT (c := .eq) (off := 5) (pc' := 49) (len := 3) (r := (0, 0, 0, 0)) (by decide +kernel) (acmpT (c := .eq) (by show _ = _; omega)) (by decide +kernel) ?_
          refine y_inc (j := 2) (a := y286) (c := 1) (ls' := fun v => [some (.inl (some 15)), some (.inl (some 2000010)), some v, some (zi y288)]) (len := 3) (r := (0, 0, 0, 0)) (by decide +kernel) rfl (fun _ => rfl) (by decide) (by omega) (by omega) (fun y296 hy296 => ?_)
          show qX 7 57 52 [some (.inl (some 15)), some (.inl (some 2000010)), some (zi y296), some (zi y288)] [] h275 t _
          refine y_goto (off := (-46)) (pc' := 6) (len := 3) (r := (0, 0, 0, 0)) (by decide +kernel) (by decide +kernel) ?_
          refine y_same (i := .iload_n 2) (len := 1) (r := (0, 0, 0, 0)) (pc' := 7) (ls' := [some (.inl (some 15)), some (.inl (some 2000010)), some (zi y296), some (zi y288)]) (st' := [zi y296]) (by decide +kernel) (fun k q => by cases q) rfl ?_
          refine y_same (i := .aload_n 1) (len := 1) (r := (0, 0, 0, 0)) (pc' := 8) (ls' := [some (.inl (some 15)), some (.inl (some 2000010)), some (zi y296), some (zi y288)]) (st' := [.inl (some 2000010), zi y296]) (by decide +kernel) (fun k q => by cases q) rfl ?_
          refine y_cI (i := .invokevirtual 158) (len := 3) (r := (0, 268, 50, 955)) (nL := 1) (k := 1) (n := 1) (hs := []) (args := [.inl (some 2000010)]) (rest := [zi y296]) (l0 := [some (.inl (some 2000010))]) (by decide +kernel) (Or.inr (Or.inl ⟨_, rfl⟩)) rfl rfl rfl rfl (Nat.le_of_ble_eq_true rfl) rfl rfl (qI_le (by decide) tln10) (fun y297 qy297 hRy297 => ?_)
          obtain ⟨rfl, hy297⟩ := hRy297
          refine y_cT (c := .ge) (off := 44) (pc' := 55) (len := 3) (r := (0, 0, 0, 0)) (by decide +kernel) (acmpT (c := .ge) (by show _ ≤ _; omega)) (by decide +kernel) ?_
          refine y_same (i := .aload_n 0) (len := 1) (r := (0, 0, 0, 0)) (pc' := 56) (ls' := [some (.inl (some 15)), some (.inl (some 2000010)), some (zi y296), some (zi y288)]) (st' := [.inl (some 15)]) (by decide +kernel) (fun k q => by cases q) rfl ?_
          refine y_same (i := .dup) (len := 1) (r := (0, 0, 0, 0)) (pc' := 57) (ls' := [some (.inl (some 15)), some (.inl (some 2000010)), some (zi y296), some (zi y288)]) (st' := [.inl (some 15), .inl (some 15)]) (by decide +kernel) (fun k q => by cases q) rfl ?_
          refine y_get (j := 26) (len := 3) (r := (5, 3, 0, 243)) (by decide +kernel) O275.2.1 (tv15 O275.2.1) aw15 rfl rfl ha275 ?_
          refine y_same (i := .aload_n 1) (len := 1) (r := (0, 0, 0, 0)) (pc' := 61) (ls' := [some (.inl (some 15)), some (.inl (some 2000010)), some (zi y296), some (zi y288)]) (st' := [.inl (some 2000010), zi xa275, .inl (some 15)]) (by decide +kernel) (fun k q => by cases q) rfl ?_
          refine y_cI (i := .invokevirtual 158) (len := 3) (r := (0, 268, 50, 955)) (nL := 1) (k := 1) (n := 1) (hs := []) (args := [.inl (some 2000010)]) (rest := [zi xa275, .inl (some 15)]) (l0 := [some (.inl (some 2000010))]) (by decide +kernel) (Or.inr (Or.inl ⟨_, rfl⟩)) rfl rfl rfl rfl (Nat.le_of_ble_eq_true rfl) rfl rfl (qI_le (by decide) tln10) (fun y298 qy298 hRy298 => ?_)
          obtain ⟨rfl, hy298⟩ := hRy298
          refine y_add (len := 1) (r := (0, 0, 0, 0)) (by decide +kernel) (by omega) (by omega) (fun y299 hy299 => ?_)
          refine y_put (j := 26) (lo := (-2147483648)) (hi := 2147483647) (len := 3) (r := (5, 3, 0, 243)) (by decide +kernel) O275.2.1 (tv15 O275.2.1) aw15 rfl rfl (by decide) rfl (qin_full _).1 (qin_full _).2 rfl (fun h300 hg300 hl300 hs300 ho300 => ?_)
          have ho300 : hO 15 3 h275 h300 := ho300
          have hs300 : hsl h300 15 3 = some (zi y299) := hs300
          refine y_ic (c := 1) (len := 1) (r := (0, 0, 0, 0)) (by decide +kernel) (by decide) (fun y301 hy301 => ?_)
          refine y_rI (len := 1) (r := (0, 0, 0, 0)) (nL := 4) (k := 2) (n9 := 2) (hs := []) (by decide +kernel) rfl (zfit_b (by omega) (by omega)).2 ?_
          refine ⟨_, ⟨O275.1, hg300, fun k T j hk (hC : k ≠ 15 ∨ j ≠ 3) => ((ho300 k j (by omega)).trans (O275.2.2 k T j hk (show k ≠ 15 ∨ j ≠ 3 by omega)))⟩, Or.inl ⟨sk b n a + 2, sgn_y (w := [124, 45]) (mt_c (a' := sk b n a + 1) m0 (by omega) (mt_c (a' := sk b n a + 2) m1 (by omega) rfl)), by omega, by omega, ?_⟩⟩
          exact rdc_up O275.2.1 rd275 ⟨(aup_refl _), hg300, fun k T j hk (hC : k ≠ 15 ∨ j ≠ 3) => (ho300 k j (by omega))⟩ ⟨_, hs300, by omega⟩
        ·
          refine y_cF (c := .eq) (off := 5) (len := 3) (r := (0, 0, 0, 0)) (by decide +kernel) (acmpF (c := .eq) (by show ¬ (_ = _); omega)) ?_
          refine y_ic (c := 0) (len := 1) (r := (0, 0, 0, 0)) (by decide +kernel) (by decide) (fun y295 hy295 => ?_)
          refine y_rI (len := 1) (r := (0, 0, 0, 0)) (nL := 4) (k := 2) (n9 := 2) (hs := []) (by decide +kernel) rfl (zfit_b (by omega) (by omega)).2 ?_
          exact ⟨_, ⟨O275.1, O275.2.1, fun k T j hk (hC : k ≠ 15 ∨ j ≠ 3) => (O275.2.2 k T j hk (show k ≠ 15 ∨ j ≠ 3 by omega))⟩, Or.inr ⟨sgn_n (mt_s (a' := sk b n a + 1) (by omega) (mt_n (by rw [bt_lt (by omega)]; omega))), by omega, rd275⟩⟩
    ·
      refine y_cF (c := .eq) (off := 5) (len := 3) (r := (0, 0, 0, 0)) (by decide +kernel) (acmpF (c := .eq) (by show ¬ (_ = _); omega)) ?_
      refine y_ic (c := 0) (len := 1) (r := (0, 0, 0, 0)) (by decide +kernel) (by decide) (fun y285 hy285 => ?_)
      refine y_rI (len := 1) (r := (0, 0, 0, 0)) (nL := 4) (k := 2) (n9 := 2) (hs := []) (by decide +kernel) rfl (zfit_b (by omega) (by omega)).2 ?_
      exact ⟨_, ⟨O275.1, O275.2.1, fun k T j hk (hC : k ≠ 15 ∨ j ≠ 3) => (O275.2.2 k T j hk (show k ≠ 15 ∨ j ≠ 3 by omega))⟩, Or.inr ⟨sgn_n (mt_n (by rw [bt_lt (by omega)]; omega)), by omega, rd275⟩⟩
