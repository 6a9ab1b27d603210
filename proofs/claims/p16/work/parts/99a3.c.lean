/-! small heaps, as plain functions of the sides -/
abbrev tlT : Type := Nat → Nat
def vX_ (f : tlT) (i : it4) : Nat := f i.2.1.toNat
def vY_ (f : tlT) (i : it4) : Nat := f i.2.2.1.toNat
def vZ_ (f : tlT) (i : it4) : Nat := f i.2.2.2.toNat
abbrev so1 (f : tlT) (i : it4) : Prop := (vX_ f i = vY_ f i) ↔ i.1 = 1
abbrev arS (f : tlT) (l : List it4) : Prop := ∀ i ∈ l, so1 f i
abbrev hsS (f : tlT) (i : it4) : Prop := i.1 ≤ 1 ∨ vX_ f i ≠ vY_ f i
def lo1 (f : tlT) (i : it4) : Nat := if 2 ≤ i.1 ∧ hsS f i then 1 else 0
def hi1 (f : tlT) (i : it4) : Nat := if lo1 f i = 0 then 0 else if i.1 = 2 then 2 else 3
def own (f : tlT) (l : List it4) : List Nat := (l.filter (fun i => decide (hsS f i))).map (vX_ f)
abbrev alw (f : tlT) (b : bsT) : Prop := arS f b.1.2 ∧ (0 :: own f b.1.1).Nodup
/-- a heap: what a place has, its first, its second; the last place that is taken -/
abbrev hpT : Type := (Nat → Int) × (Nat → Nat) × (Nat → Nat) × Nat
def put1 (H : hpT) (w : Nat) (k : Int) (a b : Nat) : hpT := (fun v => if v = w then k else H.1 v, fun v => if v = w then a else H.2.1 v, fun v => if v = w then b else H.2.2.1 v, H.2.2.2)
def new1 (H : hpT) : hpT := (H.1, H.2.1, H.2.2.1, H.2.2.2 + 1)
def bld1 (f : tlT) (i : it4) (n : Nat) (H : hpT) : hpT :=
  if i.1 ≤ 1 then put1 H (vX_ f i) i.1 (vY_ f i) (vZ_ f i)
  else if i.1 = 2 then (if n = 0 then H else if n = 1 then put1 H (vX_ f i) 0 (vY_ f i) 0 else put1 (put1 (new1 H) (vX_ f i) 0 (H.2.2.2 + 1) 0) (H.2.2.2 + 1) 0 (vY_ f i) 0)
  else (if n = 0 then H else if n = 1 then put1 H (vX_ f i) 1 0 0 else put1 (put1 (new1 H) (vX_ f i) 1 (if n = 2 then H.2.2.2 + 1 else 0) (if n = 2 then 0 else H.2.2.2 + 1)) (H.2.2.2 + 1) 1 0 0)
def bld_ (f : tlT) (sh : tlT) : List it4 → Nat → hpT → hpT
  | [], _, H => H
  | i :: l, k, H => bld_ f sh l (k + 1) (bld1 f i (sh k) H)
def mxv (f : tlT) : Nat := max (f 1) (max (f 2) (max (f 3) (max (f 4) (f 5))))
def hp0 (f : tlT) : hpT := (fun _ => -1, fun _ => 0, fun _ => 0, mxv f)
/-- places are taken one by one -/
abbrev usT : Type := Nat → Bool
def tkA (H : hpT) (u : usT) (w : Nat) (k : Int) : Option usT := if w = 0 ∨ H.1 w ≠ k ∨ u w = true then none else some (fun v => if v = w then true else u v)
def tkL (H : hpT) : Nat → usT → Nat → Nat → Option usT
  | 0, u, x, y => if x = y then some u else none
  | n + 1, u, x, y => if x = y then some u else match tkA H u x 0 with
    | none => none
    | some u' => tkL H n u' (H.2.1 x) y
def tkT (H : hpT) : Nat → usT → List Nat → Option usT
  | _, u, [] => some u
  | 0, _, _ :: _ => none
  | n + 1, u, w :: st => if w = 0 then tkT H n u st else match tkA H u w 1 with
    | none => none
    | some u' => tkT H n u' (H.2.1 w :: H.2.2.1 w :: st)
def tkP (H : hpT) (f : tlT) (u : usT) (i : it4) : Option usT :=
  if i.1 = 0 then (match tkA H u (vX_ f i) 0 with
    | some u' => if H.2.1 (vX_ f i) = vY_ f i then some u' else none
    | none => none)
  else if i.1 = 1 then (match tkA H u (vX_ f i) 1 with
    | some u' => if H.2.1 (vX_ f i) = vY_ f i ∧ H.2.2.1 (vX_ f i) = vZ_ f i then some u' else none
    | none => none)
  else if i.1 = 2 then tkL H 11 u (vX_ f i) (vY_ f i) else tkT H 23 u [vX_ f i]
def tkPs (H : hpT) (f : tlT) : usT → List it4 → Option usT
  | u, [] => some u
  | u, i :: l => match tkP H f u i with
    | none => none
    | some u' => tkPs H f u' l
/-- nothing may stay -/
def nst (H : hpT) (u : usT) : Prop := ∀ w, 1 ≤ w → w < 11 → H.1 w ≠ -1 → u w = true
def fit_ (H : hpT) (f : tlT) (q : sdT) : Prop := arS f q.2 ∧ ∃ u, tkPs H f (fun _ => false) q.1 = some u ∧ nst H u
def cntK (H : hpT) (k : Int) : Nat := ((List.range' 1 10).filter (fun w => decide (H.1 w = k))).length
/-- how many, how many fit, the first that doesn't: its number, its cells, its pairs, what variables are -/
abbrev rcT : Type := Nat × Nat × Option (Nat × Nat × Nat × tlT)
noncomputable def lok (b : bsT) (f sh : tlT) (s : rcT) : rcT := (s.1 + 1, by
  classical
  exact if fit_ (bld_ f sh b.1.1 0 (hp0 f)) f b.2 then (s.2.1 + 1, s.2.2) else (s.2.1, match s.2.2 with
    | some r => some r
    | none => some (s.1, cntK (bld_ f sh b.1.1 0 (hp0 f)) 0, cntK (bld_ f sh b.1.1 0 (hp0 f)) 1, f)))
def shL (b : bsT) (f : tlT) : List tlT := en_ (fun k => match b.1.1[k]? with
  | some i => lo1 f i
  | none => 0) (fun _ k => match b.1.1[k]? with
  | some i => hi1 f i
  | none => 0) (fun m _ => m) (List.range b.1.1.length) 0 (fun _ => 0)
def ltr (n : Nat) : List Nat := (List.range' 1 5).filter (fun v => decide (n / 2 ^ v % 2 = 1))
def tlL (b : bsT) : List tlT := en_ (fun _ => 0) (fun m _ => m + 1) (fun m p => max m p) (ltr (letN b)) 0 (fun _ => 0)
noncomputable def tel1 (b : bsT) (s : rcT) (f : tlT) : rcT := by
  classical
  exact if alw f b then (shL b f).foldl (fun s sh => lok b f sh s) s else s
noncomputable def run_ (b : bsT) : rcT := (tlL b).foldl (tel1 b) (0, 0, none)
/-! the model's way: all shapes, and those that can't be are left -/
theorem fm_congr {α β : Type} {l : List α} {f g : α → List β} (h : ∀ x ∈ l, f x = g x) : l.flatMap f = l.flatMap g := by
  rw [List.flatMap_def, List.flatMap_def, List.map_congr_left h]
theorem rng_if {α : Type} {G : Nat → List α} {lo hi t : Nat} (h1 : lo ≤ hi) (h2 : hi ≤ t) : (List.range' 0 (t + 1)).flatMap (fun p => if lo ≤ p ∧ p ≤ hi then G p else []) = (List.range' lo (hi - lo + 1)).flatMap G := by
  have e : List.range' 0 (t + 1) = List.range' 0 lo ++ (List.range' lo (hi - lo + 1) ++ List.range' (hi + 1) (t - hi)) := by
    rw [show List.range' lo (hi - lo + 1) ++ List.range' (hi + 1) (t - hi) = List.range' lo (t + 1 - lo) by
      rw [show hi + 1 = lo + 1 * (hi - lo + 1) by omega, List.range'_append, show hi - lo + 1 + (t - hi) = t + 1 - lo by omega]]
    rw [show List.range' lo (t + 1 - lo) = List.range' (0 + 1 * lo) (t + 1 - lo) by rw [Nat.zero_add, Nat.one_mul], List.range'_append, show lo + (t + 1 - lo) = t + 1 by omega]
  rw [e, List.flatMap_append, List.flatMap_append]
  have z1 : (List.range' 0 lo).flatMap (fun p => if lo ≤ p ∧ p ≤ hi then G p else []) = [] := by
    rw [List.flatMap_eq_nil_iff]
    intro p hp
    have := (List.mem_range'_1.mp hp)
    rw [if_neg (by omega)]
  have z2 : (List.range' (hi + 1) (t - hi)).flatMap (fun p => if lo ≤ p ∧ p ≤ hi then G p else []) = [] := by
    rw [List.flatMap_eq_nil_iff]
    intro p hp
    have := (List.mem_range'_1.mp hp)
    rw [if_neg (by omega)]
  rw [z1, z2, List.nil_append, List.append_nil]
  refine fm_congr (fun p hp => ?_)
  have := (List.mem_range'_1.mp hp)
  rw [if_pos (by omega)]
theorem en_fil {lo hi top : Nat → Nat} (hb : ∀ k, lo k ≤ hi k ∧ hi k ≤ top k) : ∀ {ks : List Nat} {m : Nat} {f : tlT}, ks.Nodup → (en_ (fun _ => 0) (fun _ k => top k) (fun m _ => m) ks m f).filter (fun g => decide (∀ k ∈ ks, lo k ≤ g k ∧ g k ≤ hi k)) = en_ lo (fun _ k => hi k) (fun m _ => m) ks m f
  | [], m, f, _ => by
    show List.filter _ [f] = [f]
    rw [List.filter_cons_of_pos (by simp), List.filter_nil]
  | k :: ks, m, f, nd => by
    obtain ⟨n1, n2⟩ := List.nodup_cons.mp nd
    show List.filter _ ((List.range' 0 (top k - 0 + 1)).flatMap (fun p => en_ (fun _ => 0) (fun _ k => top k) (fun m _ => m) ks m (upd_ f k p))) = (List.range' (lo k) (hi k - lo k + 1)).flatMap (fun p => en_ lo (fun _ k => hi k) (fun m _ => m) ks m (upd_ f k p))
    rw [List.filter_flatMap, Nat.sub_zero, ← rng_if (hb k).1 (hb k).2]
    refine fm_congr (fun p hp => ?_)
    have hv : ∀ x ∈ en_ (fun _ => 0) (fun _ k => top k) (fun m _ => m) ks m (upd_ f k p), x k = p := fun x hx => by
      rw [en_out hx k n1]
      unfold upd_
      rw [if_pos rfl]
    by_cases q : lo k ≤ p ∧ p ≤ hi k
    · rw [if_pos q, ← en_fil hb (m := m) (f := upd_ f k p) n2]
      refine List.filter_congr (fun x hx => ?_)
      have e := hv x hx
      rw [decide_eq_decide]
      constructor
      · intro h j hj
        exact h j (List.mem_cons_of_mem _ hj)
      · intro h j hj
        rcases List.mem_cons.mp hj with r | r
        · rw [r, e]
          exact q
        · exact h j r
    · rw [if_neg q, List.filter_eq_nil_iff]
      intro x hx h
      have e := hv x hx
      have h9 := (of_decide_eq_true h) k List.mem_cons_self
      rw [e] at h9
      exact q h9
