/-! THE LAW'S LOOP -/
def ss0 : List qs := [.inr (.inl (1, false)), .inl (0, 200), .inl ((-2147483648), 2147483647), .inl ((-2147483648), 2147483647), .inl ((-2147483648), 2147483647), .inr (.inl (1000, false)), .inr (.inl (13, false)), .inr (.inl (15, false)), .inr (.inl (28, false)), .inr (.inl (35, false)), .inr (.inl (42, false))]
theorem at0 : atyp 0 = some (.inr (11, ss0)) := rfl
theorem z0 {τ : List Nat} {h : zh} {mj k9 : Nat} {args : List zv} (hg : hG τ h) : zargs (0, mj, 11, k9) (.inl (some 0) :: args) h = true := by
  obtain ⟨fs, hc, -⟩ := g_obj hg (t0 hg) at0
  show (match nth h 0 with
    | some (.inr (c, _)) => Nat.beq c 11
    | _ => false) = true
  rw [nth_eq, hc]
  rfl
