/-! all ways to go through places in order: a next one, or the whole row -/
def upd_ (f : Nat → Nat) (v p : Nat) : Nat → Nat := fun w => if w = v then p else f w
def rst_ (lo : Nat → Nat) (vs : List Nat) (f : Nat → Nat) : Nat → Nat := fun w => if w ∈ vs then lo w else f w
def lk_ {α : Type} (nxt : α → Option α) : List α → Option α → Prop
  | [], _ => True
  | [x], e => nxt x = e
  | x :: y :: r, e => nxt x = some y ∧ lk_ nxt (y :: r) e
theorem lk_app {α : Type} {nxt : α → Option α} {y : α} {r : List α} {e : Option α} : ∀ {A : List α}, lk_ nxt A (some y) → lk_ nxt (y :: r) e → lk_ nxt (A ++ y :: r) e
  | [], _, h => h
  | [x], a, h => ⟨a, h⟩
  | x :: z :: A, a, h => ⟨a.1, lk_app (A := z :: A) a.2 h⟩
theorem lk_map {α : Type} {n1 n2 : α → Option α} {e : Option α} : ∀ {L : List α}, (∀ x ∈ L, ∀ y, n1 x = some y → n2 x = some y) → (∀ x ∈ L, n1 x = none → n2 x = e) → lk_ n1 L none → lk_ n2 L e
  | [], _, _, _ => trivial
  | [x], _, h2, h => h2 x List.mem_cons_self h
  | x :: y :: r, h1, h2, h => ⟨h1 x List.mem_cons_self y h.1, lk_map (fun z hz => h1 z (List.mem_cons_of_mem _ hz)) (fun z hz => h2 z (List.mem_cons_of_mem _ hz)) h.2⟩
/-- blocks one behind another -/
theorem lk_blk {α : Type} {nxt : α → Option α} {F : Nat → List α} {hd : Nat → α} {top : Nat} (hF : ∀ p, p ≤ top → ∃ r, F p = hd p :: r) (h1 : ∀ p, p < top → lk_ nxt (F p) (some (hd (p + 1)))) (h2 : lk_ nxt (F top) none) : ∀ (n p : Nat), p + n = top → lk_ nxt ((List.range' p (n + 1)).flatMap F) none
  | 0, p, e => by
    have e : p = top := by omega
    subst e
    show lk_ nxt (([p] : List Nat).flatMap F) none
    rw [List.flatMap_singleton]
    exact h2
  | n + 1, p, e => by
    obtain ⟨r, hr⟩ := hF (p + 1) (by omega)
    have ih := lk_blk hF h1 h2 n (p + 1) (by omega)
    rw [List.range'_succ, List.flatMap_cons]
    have e9 : ∃ r', (List.range' (p + 1) (n + 1)).flatMap F = hd (p + 1) :: r' := by
      rw [List.range'_succ, List.flatMap_cons, hr]
      exact ⟨_, rfl⟩
    obtain ⟨r', hr'⟩ := e9
    rw [hr'] at ih ⊢
    exact lk_app (h1 p (by omega)) ih
/-- numbers from lo k to hi k for each place, the bounds given by what stands ahead -/
def en_ (lo : Nat → Nat) (hi : Nat → Nat → Nat) (mx : Nat → Nat → Nat) : List Nat → Nat → (Nat → Nat) → List (Nat → Nat)
  | [], _, f => [f]
  | v :: vs, m, f => (List.range' (lo v) (hi m v - lo v + 1)).flatMap (fun p => en_ lo hi mx vs (mx m p) (upd_ f v p))
def nx_ (lo : Nat → Nat) (hi : Nat → Nat → Nat) (mx : Nat → Nat → Nat) : List Nat → Nat → (Nat → Nat) → Option (Nat → Nat)
  | [], _, _ => none
  | v :: vs, m, g => match nx_ lo hi mx vs (mx m (g v)) g with
    | some g' => some g'
    | none => if g v < hi m v then some (upd_ (rst_ lo vs g) v (g v + 1)) else none
theorem en_out {lo : Nat → Nat} {hi mx : Nat → Nat → Nat} : ∀ {vs : List Nat} {m : Nat} {f x : Nat → Nat}, x ∈ en_ lo hi mx vs m f → ∀ w, w ∉ vs → x w = f w
  | [], m, f, x, h, w, _ => by
    rw [List.mem_singleton.mp h]
  | v :: vs, m, f, x, h, w, hw => by
    obtain ⟨p, -, hp⟩ := List.mem_flatMap.mp h
    rw [en_out hp w (fun q => hw (List.mem_cons_of_mem _ q))]
    unfold upd_
    rw [if_neg (fun q => hw (by rw [q]; exact List.mem_cons_self))]
theorem en_hd {lo : Nat → Nat} {hi mx : Nat → Nat → Nat} : ∀ {vs : List Nat} {m : Nat} {f : Nat → Nat}, vs.Nodup → ∃ r, en_ lo hi mx vs m f = rst_ lo vs f :: r
  | [], m, f, _ => ⟨[], rfl⟩
  | v :: vs, m, f, nd => by
    obtain ⟨n1, n2⟩ := List.nodup_cons.mp nd
    obtain ⟨r, hr⟩ := en_hd (lo := lo) (hi := hi) (mx := mx) (vs := vs) (m := mx m (lo v)) (f := upd_ f v (lo v)) n2
    show ∃ r, (List.range' (lo v) (hi m v - lo v + 1)).flatMap (fun p => en_ lo hi mx vs (mx m p) (upd_ f v p)) = _
    rw [List.range'_succ, List.flatMap_cons, hr]
    refine ⟨_, congrArg (fun z => z :: _) (funext fun w => ?_)⟩
    show (if w ∈ vs then lo w else if w = v then lo v else f w) = if w ∈ v :: vs then lo w else f w
    by_cases h1 : w ∈ vs
    · rw [if_pos h1, if_pos (List.mem_cons_of_mem _ h1)]
    · by_cases h2 : w = v
      · rw [if_neg h1, if_pos h2, if_pos (by rw [h2]; exact List.mem_cons_self), h2]
      · rw [if_neg h1, if_neg h2, if_neg (by intro q; rcases List.mem_cons.mp q with q | q; exact h2 q; exact h1 q)]
theorem en_lk {lo : Nat → Nat} {hi mx : Nat → Nat → Nat} (hb : ∀ m v, lo v ≤ hi m v) : ∀ {vs : List Nat} {m : Nat} {f : Nat → Nat}, vs.Nodup → lk_ (nx_ lo hi mx vs m) (en_ lo hi mx vs m f) none
  | [], m, f, _ => rfl
  | v :: vs, m, f, nd => by
    obtain ⟨n1, n2⟩ := List.nodup_cons.mp nd
    have hv : ∀ p x, x ∈ en_ lo hi mx vs (mx m p) (upd_ f v p) → x v = p := fun p x hx => by
      rw [en_out hx v n1]
      unfold upd_
      rw [if_pos rfl]
    have hn : ∀ p x, x ∈ en_ lo hi mx vs (mx m p) (upd_ f v p) → rst_ lo vs x = rst_ lo vs f ∨ True := fun _ _ _ => Or.inr trivial
    have hup : ∀ p x, x ∈ en_ lo hi mx vs (mx m p) (upd_ f v p) → upd_ (rst_ lo vs x) v (p + 1) = rst_ lo vs (upd_ f v (p + 1)) := fun p x hx => funext fun w => by
      show (if w = v then p + 1 else if w ∈ vs then lo w else x w) = if w ∈ vs then lo w else if w = v then p + 1 else f w
      by_cases h2 : w = v
      · rw [if_pos h2, if_neg (by rw [h2]; exact n1), if_pos h2]
      · rw [if_neg h2]
        by_cases h1 : w ∈ vs
        · rw [if_pos h1, if_pos h1]
        · rw [if_neg h1, if_neg h1, if_neg h2, en_out hx w h1]
          unfold upd_
          rw [if_neg h2]
    have hin : ∀ p x, x ∈ en_ lo hi mx vs (mx m p) (upd_ f v p) → ∀ y, nx_ lo hi mx vs (mx m p) x = some y → nx_ lo hi mx (v :: vs) m x = some y := fun p x hx y hy => by
      unfold nx_
      rw [hv p x hx, hy]
    have hno : ∀ p x, x ∈ en_ lo hi mx vs (mx m p) (upd_ f v p) → nx_ lo hi mx vs (mx m p) x = none → nx_ lo hi mx (v :: vs) m x = if p < hi m v then some (rst_ lo vs (upd_ f v (p + 1))) else none := fun p x hx hy => by
      unfold nx_
      rw [hv p x hx, hy, hup p x hx]
    show lk_ _ ((List.range' (lo v) (hi m v - lo v + 1)).flatMap (fun p => en_ lo hi mx vs (mx m p) (upd_ f v p))) none
    refine lk_blk (hd := fun p => rst_ lo vs (upd_ f v p)) (top := hi m v) (fun p _ => en_hd n2) (fun p hp => ?_) ?_ (hi m v - lo v) (lo v) (by have := hb m v; omega)
    · exact lk_map (hin p) (fun x hx h9 => by rw [hno p x hx h9, if_pos hp]) (en_lk hb n2)
    · exact lk_map (hin _) (fun x hx h9 => by rw [hno _ x hx h9, if_neg (by omega)]) (en_lk hb n2)
