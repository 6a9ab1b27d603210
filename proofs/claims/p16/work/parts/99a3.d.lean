/-! the next one, sought from the last place on; how many there are -/
def mxl_ (mx : Nat → Nat → Nat) (g : tlT) : Nat → List Nat → Nat
  | m, [] => m
  | m, v :: vs => mxl_ mx g (mx m (g v)) vs
theorem mxl_app {mx : Nat → Nat → Nat} {g : tlT} : ∀ {a b : List Nat} {m : Nat}, mxl_ mx g m (a ++ b) = mxl_ mx g (mxl_ mx g m a) b
  | [], _, _ => rfl
  | v :: a, b, m => mxl_app (a := a) (b := b) (m := mx m (g v))
def nbx_ (lo : Nat → Nat) (hi mx : Nat → Nat → Nat) (m : Nat) (g : tlT) : List Nat → List Nat → Option tlT
  | [], _ => none
  | v :: rp, suf => if g v < hi (mxl_ mx g m rp.reverse) v then some (upd_ (rst_ lo suf g) v (g v + 1)) else nbx_ lo hi mx m g rp (v :: suf)
theorem nx_pre {lo : Nat → Nat} {hi mx : Nat → Nat → Nat} {g x : tlT} {suf : List Nat} : ∀ {pre : List Nat} {m : Nat}, nx_ lo hi mx suf (mxl_ mx g m pre) g = some x → nx_ lo hi mx (pre ++ suf) m g = some x
  | [], _, h => h
  | v :: pre, m, h => by
    show (match nx_ lo hi mx (pre ++ suf) (mx m (g v)) g with
      | some g' => some g'
      | none => _) = some x
    rw [nx_pre (pre := pre) (m := mx m (g v)) h]
theorem nb_eq {lo : Nat → Nat} {hi mx : Nat → Nat → Nat} {m : Nat} {g : tlT} : ∀ {rp suf : List Nat}, nx_ lo hi mx suf (mxl_ mx g m rp.reverse) g = none → nx_ lo hi mx (rp.reverse ++ suf) m g = nbx_ lo hi mx m g rp suf
  | [], suf, h => h
  | v :: rp, suf, h => by
    rw [List.reverse_cons] at h ⊢
    rw [mxl_app] at h
    rw [List.append_assoc]
    have h : nx_ lo hi mx suf (mx (mxl_ mx g m rp.reverse) (g v)) g = none := h
    have e : nx_ lo hi mx (v :: suf) (mxl_ mx g m rp.reverse) g = if g v < hi (mxl_ mx g m rp.reverse) v then some (upd_ (rst_ lo suf g) v (g v + 1)) else none := by
      show (match nx_ lo hi mx suf (mx (mxl_ mx g m rp.reverse) (g v)) g with
        | some g' => some g'
        | none => _) = _
      rw [h]
    show nx_ lo hi mx (rp.reverse ++ (v :: suf)) m g = if _ then _ else _
    by_cases q : g v < hi (mxl_ mx g m rp.reverse) v
    · rw [if_pos q] at e ⊢
      exact nx_pre e
    · rw [if_neg q] at e ⊢
      exact nb_eq e
theorem nb_all {lo : Nat → Nat} {hi mx : Nat → Nat → Nat} {m : Nat} {g : tlT} {vs : List Nat} : nx_ lo hi mx vs m g = nbx_ lo hi mx m g vs.reverse [] := by
  have := nb_eq (lo := lo) (hi := hi) (mx := mx) (m := m) (g := g) (rp := vs.reverse) (suf := []) rfl
  rw [List.reverse_reverse, List.append_nil] at this
  exact this
/-- tellings stay small -/
theorem en_bd {vs : List Nat} : ∀ {m : Nat} {f x : tlT}, x ∈ en_ (fun _ => 0) (fun m _ => m + 1) (fun m p => max m p) vs m f → ∀ v ∈ vs, x v ≤ m + vs.length ∨ ¬ vs.Nodup := by
  induction vs with
  | nil => intro m f x _ v hv; cases hv
  | cons w vs ih =>
    intro m f x h v hv
    by_cases nd : (w :: vs).Nodup
    · left
      obtain ⟨n1, n2⟩ := List.nodup_cons.mp nd
      obtain ⟨p, hp, hx⟩ := List.mem_flatMap.mp h
      have hp : 0 ≤ p ∧ p < 0 + (m + 1 - 0 + 1) := List.mem_range'_1.mp hp
      rw [List.length_cons]
      rcases List.mem_cons.mp hv with e | e
      · have e9 := en_out hx w n1
        rw [e, e9]
        unfold upd_
        rw [if_pos rfl]
        omega
      · rcases ih hx v e with q | q
        · have q : x v ≤ max m p + vs.length := q
          omega
        · exact absurd n2 q
    · exact Or.inr nd
def cnT (k : Nat) : Nat → Nat := Nat.rec (motive := fun _ => Nat → Nat) (fun _ => 1) (fun _ ih m => (m + 1) * ih m + ih (m + 1)) k
theorem sum_c {c : Nat} : ∀ {l : List Nat} {F : Nat → Nat}, (∀ p ∈ l, F p = c) → (l.map F).sum = l.length * c
  | [], _, _ => by simp
  | p :: l, F, h => by
    rw [List.map_cons, List.sum_cons, sum_c (fun q hq => h q (List.mem_cons_of_mem _ hq)), h p List.mem_cons_self, List.length_cons]
    rw [Nat.succ_mul]
    omega
theorem en_len {vs : List Nat} : ∀ {m : Nat} {f : tlT}, (en_ (fun _ => 0) (fun m _ => m + 1) (fun m p => max m p) vs m f).length = cnT vs.length m := by
  induction vs with
  | nil => intro m f; rfl
  | cons w vs ih =>
    intro m f
    show ((List.range' 0 (m + 1 - 0 + 1)).flatMap (fun p => en_ (fun _ => 0) (fun m _ => m + 1) (fun m p => max m p) vs (max m p) (upd_ f w p))).length = _
    rw [List.length_flatMap]
    rw [show m + 1 - 0 + 1 = (m + 1) + 1 by omega, List.range'_concat, List.map_append, List.sum_append]
    rw [sum_c (c := cnT vs.length m) (fun p hp => by
      have := List.mem_range'_1.mp hp
      rw [ih, show max m p = m by omega])]
    rw [List.length_range', List.map_cons, List.map_nil, List.sum_cons, List.sum_nil, ih]
    show _ = (m + 1) * cnT vs.length m + cnT vs.length (m + 1)
    rw [show max m (0 + 1 * (m + 1)) = m + 1 by omega]
    omega
theorem cnT_b : ∀ k, k ≤ 5 → cnT k 0 ≤ 203 := by decide
theorem en_len3 {lo hi : Nat → Nat} (hb : ∀ k, lo k ≤ hi k ∧ hi k ≤ lo k + 2) {ks : List Nat} : ∀ {m : Nat} {f : tlT}, (en_ lo (fun _ k => hi k) (fun m _ => m) ks m f).length ≤ 3 ^ ks.length := by
  induction ks with
  | nil => intro m f; exact Nat.le_refl _
  | cons k ks ih =>
    intro m f
    show ((List.range' (lo k) (hi k - lo k + 1)).flatMap (fun p => en_ lo (fun _ k => hi k) (fun m _ => m) ks m (upd_ f k p))).length ≤ 3 ^ (ks.length + 1)
    rw [List.length_flatMap, Nat.pow_succ]
    have key : ∀ (l : List Nat), (l.map (fun p => (en_ lo (fun _ k => hi k) (fun m _ => m) ks m (upd_ f k p)).length)).sum ≤ l.length * 3 ^ ks.length := by
      intro l
      induction l with
      | nil => simp
      | cons p l ih2 =>
        rw [List.map_cons, List.sum_cons, List.length_cons, Nat.succ_mul]
        have := ih (m := m) (f := upd_ f k p)
        omega
    have h1 := key (List.range' (lo k) (hi k - lo k + 1))
    rw [List.length_range'] at h1
    have h2 := hb k
    refine Nat.le_trans h1 ?_
    rw [Nat.mul_comm (3 ^ ks.length) 3]
    exact Nat.mul_le_mul_right _ (by omega)
