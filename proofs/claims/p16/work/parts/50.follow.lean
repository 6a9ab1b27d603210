/-! follows, from a start of its own: which parts a step is of stands in rows beside -/
noncomputable def folS (s lo : Int) (rl : aR) : aS := ([(0, 0), (0, 299), (0, 11), (0, 11), (1, 12), (lo, 12), (0, 12)], [1012], [((374, 1, 0), .inl (2, 0)), ((375, 1, 0), .inl (3, 0)), ((373, 1, 0), .inl (0, s)), ((70, 1, 0), .inr (.inl 1000)), ((1000, 0, 1), .inl (4, 0)), ((1000, 0, 0), .inl (5, 0)), ((1000, 0, 2), .inl (6, 0))], rl, [], 0)
noncomputable def folR (s w lo : Int) (rl : aR) : Bool := match alp actb [] [] 8 (arn actb 2000 8) 228 2000 [] 0 [some (.inr (.inl 52)), some (.inl (1, 0)), some (.inl (0, w)), none, none, none, none, none, none, none, none] [] (folS s lo rl) with
  | some L => L.all (fun x => match x.1 with
    | .inl (.inl (some v)) => aqok x.2 [.inl (0, 1)] [v] && (awsb x.2.2.2.2.2.1 [(378, 0, 199)] && Nat.beq x.2.2.2.2.2.2 0)
    | _ => false)
  | none => false
theorem folR30 : folR 3 0 1 [(2, 4, -1), (3, 5, -1)] = true := by decide +kernel
theorem folR31 : folR 3 1 1 [(2, 4, -1), (3, 5, -1)] = true := by decide +kernel
theorem folR40 : folR 4 0 1 [(2, 4, -1), (3, 5, -1)] = true := by decide +kernel
theorem folR41 : folR 4 1 1 [(2, 4, -1), (3, 5, -1)] = true := by decide +kernel
theorem folR50 : folR 5 0 1 [(2, 4, -1), (3, 5, -1)] = true := by decide +kernel
theorem folR51 : folR 5 1 1 [(2, 4, -1), (3, 5, -1)] = true := by decide +kernel
theorem folR60 : folR 6 0 1 [(2, 4, -1), (3, 5, -1)] = true := by decide +kernel
theorem folR61 : folR 6 1 1 [(2, 4, -1), (3, 5, -1)] = true := by decide +kernel
theorem folR70 : folR 7 0 1 [(2, 4, -1), (3, 5, -1)] = true := by decide +kernel
theorem folR71 : folR 7 1 1 [(2, 4, -1), (3, 5, -1)] = true := by decide +kernel
theorem folR80 : folR 8 0 0 [(2, 4, -1)] = true := by decide +kernel
theorem folR81 : folR 8 1 0 [(2, 4, -1)] = true := by decide +kernel
