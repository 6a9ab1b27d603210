/-! WHAT THE READER READS, WITHOUT FUEL: a frame that ends, a callee that ends. -/
def qE (d mi : Nat) (l0 : List (Option zv)) (h : zh) (t : Nat) (x : zo × zh × Nat) : Prop := ∃ n0 : Nat, ∀ nn : Nat, n0 ≤ nn → zrun nn d mi l0 h t = some x
def qF (scr : Option (List zv)) (d mi pc : Nat) (ls : List (Option zv)) (st : List zv) (h : zh) (t : Nat) (x : zo × zh × Nat) : Prop := ∃ n0 : Nat, ∀ nn n : Nat, n0 ≤ nn → n0 ≤ n → zloop scr (zrun nn d) n mi pc ls st h t = some x
def qle (c c' : zC) : Prop := ∀ (mj : Nat) (l0 : List (Option zv)) (h : zh) (t : Nat) (x : zo × zh × Nat), c mj l0 h t = some x → c' mj l0 h t = some x
def qlf (f f' : zF) : Prop := ∀ (mi pc : Nat) (ls : List (Option zv)) (st : List zv) (h : zh) (t : Nat) (x : zo × zh × Nat), f mi pc ls st h t = some x → f' mi pc ls st h t = some x
theorem zback_le {vt : Bool} {ih ih' : zF} (hi : qlf ih ih') {mi pc : Nat} {ls : List (Option zv)} {rest : List zv} {y : zR} {x : zo × zh × Nat} (e : zback vt ih mi pc ls rest y = some x) : zback vt ih' mi pc ls rest y = some x := by
  rcases y with _ | ⟨(_ | v) | ee, h1, t1⟩
  · cases e
  · unfold zback at e ⊢
    simp only [frc_eq, tick] at e ⊢
    exact hi _ _ _ _ _ _ _ e
  · unfold zback at e ⊢
    simp only [frc_eq, tick] at e ⊢
    exact hi _ _ _ _ _ _ _ e
  · unfold zback at e ⊢
    simp only [frc_eq, tick] at e ⊢
    cases vt with
    | false => cases e
    | true =>
      simp only [cond_true] at e ⊢
      cases hm : zmeth mi with
      | none => rw [hm] at e; cases e
      | some q =>
        obtain ⟨a, b, c, hs⟩ := q
        rw [hm] at e
        simp only at e ⊢
        cases hh : zhand hs pc ee with
        | none => rw [hh] at e; exact e
        | some k => rw [hh] at e; exact hi _ _ _ _ _ _ _ e
/-- a call of a method, put together again -/
theorem zcallM_of {call : zC} {ih : zF} {mi pc : Nat} {ls : List (Option zv)} {st : List zv} {h : zh} {t : Nat} {r : zr} {nL k n : Nat} {hs : List (Nat × Nat × Nat × Nat)} {args rest : List zv} {l0 : List (Option zv)} (h1 : zmeth r.2.1 = some (nL, k, n, hs)) (h2 : zpop n [] st = some (args, rest)) (h3 : zcat rest ≤ 8) (h4 : zargs r args h = true) (h5 : zent args nL = some l0) : zcallM call ih mi pc ls st h t r = zback (Nat.beq r.1 0) ih mi pc ls rest (call r.2.1 l0 h t) := by
  unfold zcallM
  rw [h1]
  simp only
  rw [h2]
  simp only
  rw [h4, Nat.ble_eq_true_of_le h3]
  simp only [Bool.and_true, cond_true]
  rw [h5]
theorem zcall_M {call : zC} {ih : zF} {mi pc : Nat} {ls : List (Option zv)} {st : List zv} {h : zh} {t : Nat} {r : zr} (h5 : Nat.beq r.1 5 = false) (h7 : Nat.beq r.1 7 = false) : zcall call ih mi pc ls st h t r = zcallM call ih mi pc ls st h t r := by
  unfold zcall
  rw [h5, h7]
  rfl
/-- the reader at an instruction -/
noncomputable def zgoI (scr : Option (List zv)) (call : zC) (ih : zF) (mi pc : Nat) (ls : List (Option zv)) (st : List zv) (h : zh) (t : Nat) (i : Instr) (r : zr) : zR := match i with
    | .return_ => zvoid mi st h t
    | .ireturn => zfin mi st h t zisI
    | .areturn => zfin mi st h t zisA
    | .lreturn => zfin mi st h t zisL
    | .invokestatic _ => zcall call ih mi pc ls st h t r
    | .invokevirtual _ => zcall call ih mi pc ls st h t r
    | .invokespecial _ => zcall call ih mi pc ls st h t r
    | .new k => bif Nat.beq r.1 99 then zthr st r h t else zstep scr ih mi pc ls st h t (.new k) r
    | i => zstep scr ih mi pc ls st h t i r
theorem zgo_at {scr : Option (List zv)} {call : zC} {ih : zF} {mi pc : Nat} {ls : List (Option zv)} {st : List zv} {h : zh} {t : Nat} {i : Instr} {len : Nat} {r : zr} (hf : zfetch mi pc = some (i, len, r)) : zgo scr call ih mi pc ls st h t = zgoI scr call ih mi pc ls st h t i r := by
  unfold zgo
  rw [hf]
  rfl
theorem zgo_le {scr : Option (List zv)} {call call' : zC} {ih ih' : zF} (hc : qle call call') (hi : qlf ih ih') : qlf (zgo scr call ih) (zgo scr call' ih') := by
  intro mi pc ls st h t x e
  obtain ⟨i, len, r, hf, hx⟩ := zgo_inv e
  rw [zgo_at hf]
  rcases hx with ⟨rfl, e⟩ | ⟨rfl, e⟩ | ⟨rfl, e⟩ | ⟨rfl, e⟩ | ⟨hh, e⟩ | ⟨⟨k, rfl⟩, h9, e⟩ | ⟨h9, e⟩
  · exact e
  · exact e
  · exact e
  · exact e
  · have key : zcall call' ih' mi pc ls st h t r = some x := by
      rcases zcall_inv e with ⟨h5, e⟩ | ⟨h5, h7, e⟩ | ⟨h5, h7, e⟩
      · obtain ⟨a, st', rfl, h1, h2, e⟩ := zcallO_inv e
        unfold zcall
        rw [h5]
        show zcallO ih' mi pc ls (a :: st') h t = some x
        show (bif zisC a && Nat.ble (zcat st') 8 then frc (pc + 3) (fun pc' => tick (ih' mi pc' ls st' h t)) else none) = some x
        rw [h1, Nat.ble_eq_true_of_le h2]
        simp only [Bool.and_true, cond_true, frc_eq, tick]
        exact hi _ _ _ _ _ _ _ e
      · obtain ⟨n, dp, b, sp, a, st', q0, q1, i, j, k, f0, f1, rfl, ha, hb, hcat, hi1, hj, hk, ⟨hl0, hl1⟩, e⟩ := zcallC_inv e
        unfold zcall
        rw [h5, h7]
        simp only [cond_true, cond_false]
        unfold zcallC
        simp only [ha, hb]
        rw [Nat.ble_eq_true_of_le hcat]
        simp only [hi1, hj, hk]
        rw [Nat.ble_eq_true_of_le hl0, Nat.ble_eq_true_of_le hl1]
        simp only [Nat.beq_refl, Bool.and_true, cond_true, frc_eq, tick]
        exact hi _ _ _ _ _ _ _ e
      · obtain ⟨nL, k, n, hs, args, rest, l0, q1, q2, q3, q4, q5, e⟩ := zcallM_inv e
        rw [zcall_M h5 h7, zcallM_of q1 q2 q3 q4 q5]
        obtain ⟨o1, h1, t1, e1, -⟩ := zback_inv e
        rw [hc _ _ _ _ _ e1]
        rw [e1] at e
        exact zback_le hi e
    rcases hh with ⟨k, rfl⟩ | ⟨k, rfl⟩ | ⟨k, rfl⟩ <;> exact key
  · show (bif Nat.beq r.1 99 then zthr st r h t else zstep scr ih' mi pc ls st h t (.new k) r) = some x
    rw [h9]
    exact e
  · have key : zstep scr ih' mi pc ls st h t i r = some x := by
      obtain ⟨pc', ls', st', z, e1, e2⟩ := zstep_inv e
      unfold zstep
      rw [e1]
      simp only [hapK_eq, frc_eq, tick]
      exact hi _ _ _ _ _ _ _ e2
    obtain ⟨pc', ls', st', z, e1, -⟩ := zstep_inv e
    cases i
    case new k =>
      show (bif Nat.beq r.1 99 then zthr st r h t else zstep scr ih' mi pc ls st h t (.new k) r) = some x
      rw [h9 k rfl]
      exact key
    case return_ => cases e1
    case ireturn => cases e1
    case areturn => cases e1
    case lreturn => cases e1
    case invokestatic k => cases e1
    case invokevirtual k => cases e1
    case invokespecial k => cases e1
    all_goals exact key
theorem zloop_le {scr : Option (List zv)} {call call' : zC} (hc : qle call call') : ∀ n : Nat, qlf (zloop scr call n) (zloop scr call' n)
  | 0 => fun _ _ _ _ _ _ _ e => (by cases e)
  | n + 1 => zgo_le hc (zloop_le hc n)
theorem zrun_le (nn : Nat) : ∀ d : Nat, qle (zrun nn d) (zrun nn (d + 1))
  | 0 => fun _ _ _ _ _ e => (by cases e)
  | d + 1 => fun mj l0 h t x e => zloop_le (zrun_le nn d) nn mj 0 l0 [] h t x e
theorem qE_le {d d' mi : Nat} {l0 : List (Option zv)} {h : zh} {t : Nat} {x : zo × zh × Nat} (hd : d ≤ d') (e : qE d mi l0 h t x) : qE d' mi l0 h t x := by
  obtain ⟨n0, e⟩ := e
  refine ⟨n0, fun nn hn => ?_⟩
  have e := e nn hn
  induction hd with
  | refl => exact e
  | step _ ih => exact zrun_le nn _ _ _ _ _ _ ih
theorem qE_of {d mi : Nat} {l0 : List (Option zv)} {h : zh} {t : Nat} {x : zo × zh × Nat} (e : qF none d mi 0 l0 [] h t x) : qE (d + 1) mi l0 h t x := by
  obtain ⟨n0, e⟩ := e
  exact ⟨n0, fun nn hn => e nn nn hn hn⟩
section QF
variable {scr : Option (List zv)} {d mi pc : Nat} {ls : List (Option zv)} {st : List zv} {h : zh} {t : Nat} {x : zo × zh × Nat} {i : Instr} {len : Nat} {r : zr}
theorem qF_of (he : ∀ (n0 : Nat), True → ∃ n1 : Nat, ∀ nn n : Nat, n1 ≤ nn → n1 ≤ n → zgo scr (zrun nn d) (zloop scr (zrun nn d) n) mi pc ls st h t = some x) : qF scr d mi pc ls st h t x := by
  obtain ⟨n1, e⟩ := he 0 trivial
  refine ⟨n1 + 1, fun nn n h1 h2 => ?_⟩
  obtain ⟨m, rfl⟩ : ∃ m, n = m + 1 := ⟨n - 1, by omega⟩
  exact e nn m (by omega) (by omega)
/-- an instruction that is no call and no end -/
theorem qF_step {pc' : Nat} {ls' : List (Option zv)} {st' : List zv} {z : zp} (hf : zfetch mi pc = some (i, len, r)) (h9 : ∀ k, i = .new k → Nat.beq r.1 99 = false) (hs : stH scr i r pc ls st h = some (pc', ls', st', z)) (k : qF scr d mi pc' ls' st' (hap h z) t x) : qF scr d mi pc ls st h t x := by
  obtain ⟨n0, e⟩ := k
  refine qF_of (fun _ _ => ⟨n0, fun nn n h1 h2 => ?_⟩)
  have key : zstep scr (zloop scr (zrun nn d) n) mi pc ls st h t i r = some x := by
    unfold zstep
    rw [hs]
    simp only [hapK_eq, frc_eq, tick]
    exact e nn n h1 h2
  rw [zgo_at hf]
  cases i
  case new k =>
    show (bif Nat.beq r.1 99 then zthr st r h t else zstep scr (zloop scr (zrun nn d) n) mi pc ls st h t (.new k) r) = some x
    rw [h9 k rfl]
    exact key
  case return_ => cases hs
  case ireturn => cases hs
  case areturn => cases hs
  case lreturn => cases hs
  case invokestatic k => cases hs
  case invokevirtual k => cases hs
  case invokespecial k => cases hs
  all_goals exact key
/-- a call of a method that ends -/
theorem qF_call {nL k n : Nat} {hs : List (Nat × Nat × Nat × Nat)} {args rest : List zv} {l0 : List (Option zv)} {o1 : zo} {h1 : zh} {t1 : Nat} (hf : zfetch mi pc = some (i, len, r)) (hi : (∃ k, i = .invokestatic k) ∨ (∃ k, i = .invokevirtual k) ∨ (∃ k, i = .invokespecial k)) (h5 : Nat.beq r.1 5 = false) (h7 : Nat.beq r.1 7 = false) (q1 : zmeth r.2.1 = some (nL, k, n, hs)) (q2 : zpop n [] st = some (args, rest)) (q3 : zcat rest ≤ 8) (q4 : zargs r args h = true) (q5 : zent args nL = some l0) (hE : qE d r.2.1 l0 h t (o1, h1, t1)) (kk : ∃ n0 : Nat, ∀ nn n : Nat, n0 ≤ nn → n0 ≤ n → zback (Nat.beq r.1 0) (zloop scr (zrun nn d) n) mi pc ls rest (some (o1, h1, t1)) = some x) : qF scr d mi pc ls st h t x := by
  obtain ⟨n0, e⟩ := hE
  obtain ⟨n1, e1⟩ := kk
  refine qF_of (fun _ _ => ⟨max n0 n1, fun nn n h1 h2 => ?_⟩)
  rw [zgo_at hf]
  have key : zcall (zrun nn d) (zloop scr (zrun nn d) n) mi pc ls st h t r = some x := by
    rw [zcall_M h5 h7, zcallM_of q1 q2 q3 q4 q5, e nn (by omega)]
    exact e1 nn n (by omega) (by omega)
  rcases hi with ⟨k, rfl⟩ | ⟨k, rfl⟩ | ⟨k, rfl⟩ <;> exact key
theorem qB_void {vt : Bool} {rest : List zv} {h1 : zh} {t1 : Nat} (k : qF scr d mi (pc + 3) ls rest h1 t1 x) : ∃ n0 : Nat, ∀ nn n : Nat, n0 ≤ nn → n0 ≤ n → zback vt (zloop scr (zrun nn d) n) mi pc ls rest (some (.inl none, h1, t1)) = some x := by
  obtain ⟨n0, e⟩ := k
  refine ⟨n0, fun nn n a b => ?_⟩
  unfold zback
  simp only [frc_eq, tick]
  exact e nn n a b
theorem qB_val {vt : Bool} {v : zv} {rest : List zv} {h1 : zh} {t1 : Nat} (k : qF scr d mi (pc + 3) ls (v :: rest) h1 t1 x) : ∃ n0 : Nat, ∀ nn n : Nat, n0 ≤ nn → n0 ≤ n → zback vt (zloop scr (zrun nn d) n) mi pc ls rest (some (.inl (some v), h1, t1)) = some x := by
  obtain ⟨n0, e⟩ := k
  refine ⟨n0, fun nn n a b => ?_⟩
  unfold zback
  simp only [frc_eq, tick]
  exact e nn n a b
theorem qB_catch {ee kk nL k n9 : Nat} {hs : List (Nat × Nat × Nat × Nat)} {rest : List zv} {h1 : zh} {t1 : Nat} (hm : zmeth mi = some (nL, k, n9, hs)) (hh : zhand hs pc ee = some kk) (k : qF scr d mi kk ls [.inl (some 1000001)] h1 t1 x) : ∃ n0 : Nat, ∀ nn n : Nat, n0 ≤ nn → n0 ≤ n → zback true (zloop scr (zrun nn d) n) mi pc ls rest (some (.inr ee, h1, t1)) = some x := by
  obtain ⟨n0, e⟩ := k
  refine ⟨n0, fun nn n a b => ?_⟩
  unfold zback
  simp only [cond_true, hm, hh, frc_eq, tick]
  exact e nn n a b
theorem qB_out {ee nL k n9 : Nat} {hs : List (Nat × Nat × Nat × Nat)} {rest : List zv} {h1 : zh} {t1 : Nat} (hm : zmeth mi = some (nL, k, n9, hs)) (hh : zhand hs pc ee = none) : ∃ n0 : Nat, ∀ nn n : Nat, n0 ≤ nn → n0 ≤ n → zback true (zloop scr (zrun nn d) n) mi pc ls rest (some (.inr ee, h1, t1)) = some ((.inr ee : zo), h1, t1) := by
  refine ⟨0, fun nn n a b => ?_⟩
  unfold zback
  simp only [cond_true, hm, hh]
theorem qF_void {nL n9 : Nat} {hs : List (Nat × Nat × Nat × Nat)} (hf : zfetch mi pc = some (.return_, len, r)) (hm : zmeth mi = some (nL, 0, n9, hs)) : qF scr d mi pc ls [] h t (.inl none, h, t) := by
  refine qF_of (fun _ _ => ⟨0, fun nn n _ _ => ?_⟩)
  rw [zgo_at hf]
  show zvoid mi [] h t = _
  unfold zvoid
  rw [hm]
  rfl
theorem qF_fin {nL k n9 : Nat} {hs : List (Nat × Nat × Nat × Nat)} {v : zv} {f : zv → Bool} (hf : zfetch mi pc = some (i, len, r)) (hi : (i = .ireturn ∧ f = zisI) ∨ (i = .areturn ∧ f = zisA) ∨ (i = .lreturn ∧ f = zisL)) (hm : zmeth mi = some (nL, k, n9, hs)) (hr : zret k v = true) (hv : f v = true) : qF scr d mi pc ls [v] h t (.inl (some v), h, t) := by
  refine qF_of (fun _ _ => ⟨0, fun nn n _ _ => ?_⟩)
  rw [zgo_at hf]
  have key : zfin mi [v] h t f = some (.inl (some v), h, t) := by
    unfold zfin
    rw [hm]
    simp only
    rw [hr, hv]
    rfl
  rcases hi with ⟨rfl, rfl⟩ | ⟨rfl, rfl⟩ | ⟨rfl, rfl⟩ <;> exact key
theorem qF_thr {k : Nat} (hf : zfetch mi pc = some (.new k, len, r)) (h9 : Nat.beq r.1 99 = true) : qF scr d mi pc ls [] h t (.inr r.2.1, h, t + 1) := by
  refine qF_of (fun _ _ => ⟨0, fun nn n _ _ => ?_⟩)
  rw [zgo_at hf]
  show (bif Nat.beq r.1 99 then zthr [] r h t else zstep scr (zloop scr (zrun nn d) n) mi pc ls [] h t (.new k) r) = _
  rw [h9]
  rfl
end QF
