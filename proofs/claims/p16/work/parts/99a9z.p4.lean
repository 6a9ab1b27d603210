/-! heaps that are built stay small; what is taken -/
def kx_ (h : zh) (a j : Nat) (n : Int) : Prop := ∃ x : Int32, hsl h a j = some (zi x) ∧ x.toInt = n
theorem kx_up {h h1 : zh} {a j : Nat} {n : Int} (r : kx_ h a j n) (e : hsl h1 a j = hsl h a j) : kx_ h1 a j n := by
  obtain ⟨x, a, b⟩ := r
  exact ⟨x, e.trans a, b⟩
def hpW (H : hpT) : Prop := H.2.2.2 ≤ 10 ∧ ∀ w, H.1 w ≠ -1 → 1 ≤ w ∧ w ≤ H.2.2.2 ∧ H.2.1 w ≤ H.2.2.2 ∧ H.2.2.1 w ≤ H.2.2.2
theorem hp0_W {f : tlT} (h : mxv f ≤ 10) : hpW (hp0 f) := ⟨h, fun _ q => absurd rfl q⟩
theorem put1_W {H : hpT} {w a b : Nat} {k : Int} (h : hpW H) (h1 : 1 ≤ w) (h2 : w ≤ H.2.2.2) (h3 : a ≤ H.2.2.2) (h4 : b ≤ H.2.2.2) : hpW (put1 H w k a b) := by
  refine ⟨h.1, fun v hv => ?_⟩
  show 1 ≤ v ∧ v ≤ H.2.2.2 ∧ (if v = w then a else H.2.1 v) ≤ H.2.2.2 ∧ (if v = w then b else H.2.2.1 v) ≤ H.2.2.2
  have hv : (if v = w then k else H.1 v) ≠ -1 := hv
  by_cases q : v = w
  · rw [if_pos q, if_pos q, q]
    exact ⟨h1, h2, h3, h4⟩
  · rw [if_neg q] at hv
    rw [if_neg q, if_neg q]
    exact h.2 v hv
theorem new1_W {H : hpT} (h : hpW H) (h1 : H.2.2.2 < 10) : hpW (new1 H) := by
  refine ⟨h1, fun v hv => ?_⟩
  have := h.2 v hv
  show 1 ≤ v ∧ v ≤ H.2.2.2 + 1 ∧ H.2.1 v ≤ H.2.2.2 + 1 ∧ H.2.2.1 v ≤ H.2.2.2 + 1
  omega
theorem ite_le {c : Prop} [Decidable c] {a b m : Nat} (h1 : a ≤ m) (h2 : b ≤ m) : (if c then a else b) ≤ m := by
  split
  · exact h1
  · exact h2
theorem bld1_W {f : tlT} {i : it4} {n : Nat} {H : hpT} (h : hpW H) (ht : H.2.2.2 < 10) (hx : (i.1 ≤ 1 ∨ n ≠ 0) → 1 ≤ vX_ f i) (x1 : vX_ f i ≤ H.2.2.2) (y1 : vY_ f i ≤ H.2.2.2) (z1 : vZ_ f i ≤ H.2.2.2) : hpW (bld1 f i n H) ∧ H.2.2.2 ≤ (bld1 f i n H).2.2.2 := by
  unfold bld1
  by_cases q1 : i.1 ≤ 1
  · rw [if_pos q1]
    exact ⟨put1_W h (hx (Or.inl q1)) x1 y1 z1, Nat.le_refl _⟩
  · rw [if_neg q1]
    have x2 : vX_ f i ≤ (new1 H).2.2.2 := Nat.le_succ_of_le x1
    have y2 : vY_ f i ≤ (new1 H).2.2.2 := Nat.le_succ_of_le y1
    by_cases q2 : i.1 = 2
    · rw [if_pos q2]
      by_cases q0 : n = 0
      · rw [if_pos q0]
        exact ⟨h, Nat.le_refl _⟩
      · rw [if_neg q0]
        by_cases q3 : n = 1
        · rw [if_pos q3]
          exact ⟨put1_W h (hx (Or.inr q0)) x1 y1 (Nat.zero_le _), Nat.le_refl _⟩
        · rw [if_neg q3]
          exact ⟨put1_W (put1_W (new1_W h ht) (hx (Or.inr q0)) x2 (Nat.le_refl _) (Nat.zero_le _)) (Nat.succ_pos _) (Nat.le_refl _) y2 (Nat.zero_le _), Nat.le_succ _⟩
    · rw [if_neg q2]
      by_cases q0 : n = 0
      · rw [if_pos q0]
        exact ⟨h, Nat.le_refl _⟩
      · rw [if_neg q0]
        by_cases q3 : n = 1
        · rw [if_pos q3]
          exact ⟨put1_W h (hx (Or.inr q0)) x1 (Nat.zero_le _) (Nat.zero_le _), Nat.le_refl _⟩
        · rw [if_neg q3]
          exact ⟨put1_W (put1_W (new1_W h ht) (hx (Or.inr q0)) x2 (ite_le (Nat.le_refl _) (Nat.zero_le _)) (ite_le (Nat.zero_le _) (Nat.le_refl _))) (Nat.succ_pos _) (Nat.le_refl _) (Nat.zero_le _) (Nat.zero_le _), Nat.le_succ _⟩
theorem ok_v {i : it4} (ok : okI i) : i.2.1.toNat ≤ 5 ∧ i.2.2.1.toNat ≤ 5 ∧ i.2.2.2.toNat ≤ 5 := by
  unfold okI at ok
  omega
theorem bld_W {f sh : tlT} {m : Nat} (hfb : ∀ v, v ≤ 5 → f v ≤ m) : ∀ (l : List it4) (k : Nat) (H : hpT), hpW H → m ≤ H.2.2.2 → H.2.2.2 + l.length ≤ 10 → (∀ (j : Nat) (i : it4), l[j]? = some i → okI i) → (∀ (j : Nat) (i : it4), l[j]? = some i → (i.1 ≤ 1 ∨ sh (k + j) ≠ 0) → 1 ≤ vX_ f i) → hpW (bld_ f sh l k H) ∧ H.2.2.2 ≤ (bld_ f sh l k H).2.2.2
  | [], _, _, h, _, _, _, _ => ⟨h, Nat.le_refl _⟩
  | i :: l, k, H, h, hm, hl, ok, hx => by
    rw [List.length_cons] at hl
    obtain ⟨o1, o2, o3⟩ := ok_v (ok 0 i rfl)
    obtain ⟨a, b⟩ := bld1_W (f := f) (i := i) (n := sh k) h (by omega) (hx 0 i rfl) (Nat.le_trans (hfb _ o1) hm) (Nat.le_trans (hfb _ o2) hm) (Nat.le_trans (hfb _ o3) hm)
    have c := bld1_top (f := f) (i := i) (n := sh k) (H := H)
    obtain ⟨d, e⟩ := bld_W (f := f) (sh := sh) hfb l (k + 1) (bld1 f i (sh k) H) a (by omega) (by omega) (fun j i hj => ok (j + 1) i hj) (fun j i hj hq => hx (j + 1) i hj (by rw [show k + (j + 1) = k + 1 + j by omega]; exact hq))
    exact ⟨d, Nat.le_trans b e⟩
/-- how many places are taken -/
def cu_ (u : usT) : Nat := (u 1).toNat + (u 2).toNat + (u 3).toNat + (u 4).toNat + (u 5).toNat + (u 6).toNat + (u 7).toNat + (u 8).toNat + (u 9).toNat + (u 10).toNat
theorem cu_le {u : usT} : cu_ u ≤ 10 := by
  have b : ∀ v, (u v).toNat ≤ 1 := fun v => Bool.toNat_le (u v)
  have b1 := b 1
  have b2 := b 2
  have b3 := b 3
  have b4 := b 4
  have b5 := b 5
  have b6 := b 6
  have b7 := b 7
  have b8 := b 8
  have b9 := b 9
  have b10 := b 10
  unfold cu_
  omega
def st1 (u : usT) (w : Nat) : usT := fun v => if v = w then true else u v
theorem st1_at {u : usT} {w v : Nat} (h : v = w) : st1 u w v = true := if_pos h
theorem st1_ne {u : usT} {w v : Nat} (h : v ≠ w) : st1 u w v = u v := if_neg h
theorem cu_st {u : usT} {w : Nat} (h1 : 1 ≤ w) (h2 : w ≤ 10) (hu : u w = false) : cu_ (st1 u w) = cu_ u + 1 := by
  unfold cu_
  rcases (show w = 1 ∨ w = 2 ∨ w = 3 ∨ w = 4 ∨ w = 5 ∨ w = 6 ∨ w = 7 ∨ w = 8 ∨ w = 9 ∨ w = 10 by omega) with e | e | e | e | e | e | e | e | e | e <;> subst e <;> simp only [st1, hu, if_true, Nat.reduceEqDiff, if_false, Bool.toNat_true, Bool.toNat_false] <;> omega
theorem tkA_some {H : hpT} {u u' : usT} {w : Nat} {k : Int} (h : tkA H u w k = some u') : 1 ≤ w ∧ H.1 w = k ∧ u w = false ∧ u' = st1 u w := by
  unfold tkA at h
  split at h
  · cases h
  · rename_i q
    refine ⟨by omega, Decidable.byContradiction (fun q9 => q (Or.inr (Or.inl q9))), ?_, (Option.some.inj h).symm⟩
    cases q9 : u w with
    | false => rfl
    | true => exact absurd (Or.inr (Or.inr q9)) q
theorem cu_tk {H : hpT} {u u' : usT} {w : Nat} {k : Int} (hw : w ≤ 10) (h : tkA H u w k = some u') : cu_ u' = cu_ u + 1 := by
  obtain ⟨a, b, c, d⟩ := tkA_some h
  subst d
  exact cu_st a hw c
theorem tkA_none {H : hpT} {u : usT} {w : Nat} {k : Int} (h : w = 0 ∨ H.1 w ≠ k ∨ u w = true) : tkA H u w k = none := by
  unfold tkA
  rw [if_pos h]
theorem tkA_yes {H : hpT} {u : usT} {w : Nat} {k : Int} (h1 : w ≠ 0) (h2 : H.1 w = k) (h3 : u w = false) : tkA H u w k = some (st1 u w) := by
  unfold tkA
  rw [if_neg (by rintro (q | q | q); exact h1 q; exact q h2; rw [h3] at q; cases q)]
  rfl
theorem tkT_0 {H : hpT} {u : usT} {n : Nat} {st : List Nat} : tkT H (n + 1) u (0 :: st) = tkT H n u st := by
  show (if (0 : Nat) = 0 then tkT H n u st else _) = _
  rw [if_pos rfl]
theorem tkT_n {H : hpT} {u : usT} {n w : Nat} {st : List Nat} (hw : w ≠ 0) (h : tkA H u w 1 = none) : tkT H (n + 1) u (w :: st) = none := by
  show (if w = 0 then tkT H n u st else match tkA H u w 1 with
    | none => none
    | some u' => tkT H n u' (H.2.1 w :: H.2.2.1 w :: st)) = _
  rw [if_neg hw, h]
theorem tkT_s {H : hpT} {u u' : usT} {n w : Nat} {st : List Nat} (hw : w ≠ 0) (h : tkA H u w 1 = some u') : tkT H (n + 1) u (w :: st) = tkT H n u' (H.2.1 w :: H.2.2.1 w :: st) := by
  show (if w = 0 then tkT H n u st else match tkA H u w 1 with
    | none => none
    | some u' => tkT H n u' (H.2.1 w :: H.2.2.1 w :: st)) = _
  rw [if_neg hw, h]
theorem tkT_e {H : hpT} {u : usT} : ∀ {n : Nat}, tkT H n u [] = some u
  | 0 => rfl
  | _ + 1 => rfl
theorem tkL_e {H : hpT} {u : usT} {x y : Nat} (h : x = y) : ∀ {n : Nat}, tkL H n u x y = some u
  | 0 => by
    show (if x = y then some u else none) = _
    rw [if_pos h]
  | n + 1 => by
    show (if x = y then some u else _) = _
    rw [if_pos h]
theorem tkL_n {H : hpT} {u : usT} {n x y : Nat} (h : x ≠ y) (h1 : tkA H u x 0 = none) : tkL H (n + 1) u x y = none := by
  show (if x = y then some u else match tkA H u x 0 with
    | none => none
    | some u' => tkL H n u' (H.2.1 x) y) = _
  rw [if_neg h, h1]
theorem tkL_s {H : hpT} {u u' : usT} {n x y : Nat} (h : x ≠ y) (h1 : tkA H u x 0 = some u') : tkL H (n + 1) u x y = tkL H n u' (H.2.1 x) y := by
  show (if x = y then some u else match tkA H u x 0 with
    | none => none
    | some u' => tkL H n u' (H.2.1 x) y) = _
  rw [if_neg h, h1]
theorem tkPs_n {H : hpT} {f : tlT} {u : usT} {i : it4} {l : List it4} (h : tkP H f u i = none) : tkPs H f u (i :: l) = none := by
  show (match tkP H f u i with
    | none => none
    | some u' => tkPs H f u' l) = _
  rw [h]
theorem tkPs_s {H : hpT} {f : tlT} {u u' : usT} {i : it4} {l : List it4} (h : tkP H f u i = some u') : tkPs H f u (i :: l) = tkPs H f u' l := by
  show (match tkP H f u i with
    | none => none
    | some u' => tkPs H f u' l) = _
  rw [h]
theorem drop_c {l : List it4} {i : Nat} {ik : it4} (hk : l[i]? = some ik) : l.drop i = ik :: l.drop (i + 1) := by
  have hi := (List.getElem?_eq_some_iff.mp hk).1
  rw [List.drop_eq_getElem_cons hi]
  congr 1
  exact Option.some.inj ((List.getElem?_eq_getElem hi).symm.trans hk)
/-- what is told of all of them -/
def rN (s : rcT) : Int := match s.2.2 with
  | none => -1
  | some r => (r.1 : Int)
def rCe (s : rcT) : Int := match s.2.2 with
  | none => -1
  | some r => (r.2.1 : Int)
def rPa (s : rcT) : Int := match s.2.2 with
  | none => -1
  | some r => (r.2.2.1 : Int)
def rPl (ls : List Nat) (s : rcT) (v : Nat) : Int := match s.2.2 with
  | none => -1
  | some r => if v ∈ ls then (r.2.2.2 v : Int) else -1
theorem lok_1 {b : bsT} {f sh : tlT} {s : rcT} : (lok b f sh s).1 = s.1 + 1 := rfl
theorem lok_y {b : bsT} {f sh : tlT} {s : rcT} (h : fit_ (bld_ f sh b.1.1 0 (hp0 f)) f b.2) : lok b f sh s = (s.1 + 1, s.2.1 + 1, s.2.2) := by
  unfold lok
  rw [if_pos h]
theorem lok_n {b : bsT} {f sh : tlT} {s : rcT} (h : ¬ fit_ (bld_ f sh b.1.1 0 (hp0 f)) f b.2) : lok b f sh s = (s.1 + 1, s.2.1, match s.2.2 with
    | some r => some r
    | none => some (s.1, cntK (bld_ f sh b.1.1 0 (hp0 f)) 0, cntK (bld_ f sh b.1.1 0 (hp0 f)) 1, f)) := by
  unfold lok
  rw [if_neg h]
  rcases s with ⟨a, c, _ | r⟩ <;> rfl
theorem lok_b {b : bsT} {f sh : tlT} {s : rcT} (h : s.2.1 ≤ s.1) : (lok b f sh s).2.1 ≤ (lok b f sh s).1 := by
  by_cases q : fit_ (bld_ f sh b.1.1 0 (hp0 f)) f b.2
  · rw [lok_y q]
    show s.2.1 + 1 ≤ s.1 + 1
    omega
  · rw [lok_n q]
    show s.2.1 ≤ s.1 + 1
    omega
theorem fold_1 {b : bsT} {f : tlT} : ∀ {L : List tlT} {s : rcT}, (L.foldl (fun s sh => lok b f sh s) s).1 = s.1 + L.length
  | [], s => rfl
  | sh :: L, s => by
    rw [List.foldl_cons, fold_1 (L := L), List.length_cons, lok_1]
    omega
