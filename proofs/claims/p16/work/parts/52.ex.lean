/-! EXACT STEPS over typed heaps: each new number has a name, each new heap too. -/
def hG (τ : List Nat) (h : zh) : Prop := hM τ h ∧ aJ h
/-- all other slots are as they were -/
def hO (A i : Nat) (h h2 : zh) : Prop := ∀ (k j : Nat), (k ≠ A ∨ j ≠ i) → hsl h2 k j = hsl h k j
section G
variable {τ : List Nat} {h : zh} {A T i : Nat} {tt : qt}
theorem g_arr {tg L : Nat} {rs : List (Nat × qs)} (hg : hG τ h) (hA : τ[A]? = some T) (hT : atyp T = some (.inl (tg, L, rs))) : ∃ fs : List zv, h[A]? = some (.inl (tg, fs)) ∧ fs.length = L := by
  obtain ⟨-, c, hc, hty⟩ := hg.1.2.2.2 A T hA
  obtain ⟨fs, rfl, hl⟩ := tyc_arr hT hty
  exact ⟨fs, hc, hl⟩
theorem g_obj {ci : Nat} {ss : List qs} (hg : hG τ h) (hA : τ[A]? = some T) (hT : atyp T = some (.inr (ci, ss))) : ∃ fs : List zv, h[A]? = some (.inr (ci, fs)) ∧ fs.length = ss.length := by
  obtain ⟨-, c, hc, hty⟩ := hg.1.2.2.2 A T hA
  obtain ⟨fs, rfl, hl⟩ := tyc_obj hT hty
  exact ⟨fs, hc, hl⟩
theorem g_int {lo hi : Int} (hg : hG τ h) (hA : τ[A]? = some T) (hT : atyp T = some tt) (hi9 : i < aLen tt) (hq : aslq tt i = some (.inl (lo, hi))) : ∃ x : Int32, hsl h A i = some (zi x) ∧ lo ≤ x.toInt ∧ x.toInt ≤ hi := by
  obtain ⟨-, c, hc, hty⟩ := hg.1.2.2.2 A T hA
  obtain ⟨v, q, e1, e2, e3⟩ := tyc_slot hT hty hi9
  rw [hq] at e2
  cases e2
  obtain ⟨x, rfl, l1, l2⟩ := e3
  exact ⟨x, hsl_of hc e1, l1, l2⟩
theorem g_ref {T2 : Nat} (hg : hG τ h) (hA : τ[A]? = some T) (hT : atyp T = some tt) (hi9 : i < aLen tt) (hq : aslq tt i = some (.inr (.inl (T2, false)))) : ∃ a : Nat, hsl h A i = some (.inl (some a)) ∧ τ[a]? = some T2 ∧ (T2 < 1000 → a = T2) := by
  obtain ⟨-, c, hc, hty⟩ := hg.1.2.2.2 A T hA
  obtain ⟨v, q, e1, e2, e3⟩ := tyc_slot hT hty hi9
  rw [hq] at e2
  cases e2
  rcases e3 with ⟨e3, -⟩ | ⟨a, rfl, ha⟩
  · cases e3
  · exact ⟨a, hsl_of hc e1, ha, (hg.1.2.2.2 a T2 ha).1⟩
theorem g_lt (hg : hG τ h) (hA : τ[A]? = some T) : A < 100000 := by
  have h1 := (List.getElem?_eq_some_iff.mp hA).1
  have h2 := hg.1.1
  have h3 := hg.1.2.1
  omega
theorem g_put {v : zv} {qq : qs} (hg : hG τ h) (hA : τ[A]? = some T) (hT : atyp T = some tt) (hi9 : i < aLen tt) (hq : aslq tt i = some qq) (hv : tyv τ qq v) (hp : aprot T = false) : hG τ (hup h A i v) ∧ (hup h A i v).length = h.length ∧ hsl (hup h A i v) A i = some v ∧ hO A i h (hup h A i v) := by
  obtain ⟨-, c, hc, hty⟩ := hg.1.2.2.2 A T hA
  obtain ⟨w, q, e1, e2, e3⟩ := tyc_slot hT hty hi9
  have hw := hsl_of hc e1
  refine ⟨⟨hM_hup (w := w) hg.1 hA hT hq hv, aJ_ok τ h _ hg.1 hup_len (fun q9 T9 h1 h2 => ?_) hg.2⟩, hup_len, ?_, fun k j hkj => ?_⟩
  · by_cases hqA : q9 = A
    · subst hqA
      rw [hA] at h1
      cases h1
      rw [hp] at h2
      cases h2
    · exact hup_ne hqA
  · rw [hup_sl hw, if_pos ⟨rfl, rfl⟩]
  · rw [hup_sl hw, if_neg]
    rintro ⟨rfl, rfl⟩
    rcases hkj with h9 | h9 <;> exact h9 rfl
end G
theorem sr1 {L i : Nat} {q : qs} (hi : i < L) : srng [(L, q)] i = some q := by
  show (bif Nat.blt i L then some q else none) = some q
  rw [bltT.mpr hi]
  rfl
def wRs (c : Int) : List (Nat × qs) := [(3, .inl (0, c)), (24, .inl (-2147483648, 2147483647)), (200, .inl (0, 20))]
theorem at1012 : atyp 1012 = some (.inl (0, 200, wRs 12)) := rfl
theorem at378 : atyp 378 = some (.inl (0, 200, wRs 14)) := rfl
theorem srA {c : Int} {i : Nat} (hi : i < 3) : srng (wRs c) i = some (.inl (0, c)) := by
  show (bif Nat.blt i 3 then some (.inl (0, c) : qs) else _) = _
  rw [bltT.mpr hi]
  rfl
theorem srB {c : Int} {i : Nat} (h1 : 3 ≤ i) (hi : i < 24) : srng (wRs c) i = some (.inl (-2147483648, 2147483647)) := by
  show (bif Nat.blt i 3 then some (.inl (0, c) : qs) else bif Nat.blt i 24 then _ else _) = _
  rw [bltF.mpr h1, bltT.mpr hi]
  rfl
theorem srC {c : Int} {i : Nat} (h1 : 24 ≤ i) (hi : i < 200) : srng (wRs c) i = some (.inl (0, 20)) := by
  show (bif Nat.blt i 3 then some (.inl (0, c) : qs) else bif Nat.blt i 24 then _ else bif Nat.blt i 200 then _ else _) = _
  rw [bltF.mpr (show 3 ≤ i by omega), bltF.mpr h1, bltT.mpr hi]
  rfl
theorem zfit_b {v : Int32} (h1 : 0 ≤ v.toInt) (h2 : v.toInt ≤ 1) : zfit 1 (zi v) = true ∧ zret 2 (zi v) = true := by
  have e : v = 0 ∨ v = 1 := by
    have e0 : (0 : Int32).toInt = 0 := by decide
    have e1 : (1 : Int32).toInt = 1 := by decide
    rcases (show v.toInt = 0 ∨ v.toInt = 1 by omega) with q | q
    · exact Or.inl (Int32.toInt_inj.mp (by omega))
    · exact Or.inr (Int32.toInt_inj.mp (by omega))
  rcases e with rfl | rfl <;> exact ⟨rfl, rfl⟩
/-- it ends, and what then is so -/
def qX (d mi pc : Nat) (ls : List (Option zv)) (st : List zv) (h : zh) (t : Nat) (P : zo × zh × Nat → Prop) : Prop := ∃ x, qF none d mi pc ls st h t x ∧ P x
def rV (R : zh → Prop) (t : Nat) (x : zo × zh × Nat) : Prop := ∃ h1 : zh, x = (.inl none, h1, t) ∧ R h1
def rI (R : Int32 → zh → Prop) (t : Nat) (x : zo × zh × Nat) : Prop := ∃ (y : Int32) (h1 : zh), x = (.inl (some (zi y)), h1, t) ∧ R y h1
def qV (d mj : Nat) (l0 : List (Option zv)) (h : zh) (t : Nat) (R : zh → Prop) : Prop := ∃ h1 : zh, qE d mj l0 h t (.inl none, h1, t) ∧ R h1
def qI (d mj : Nat) (l0 : List (Option zv)) (h : zh) (t : Nat) (R : Int32 → zh → Prop) : Prop := ∃ (y : Int32) (h1 : zh), qE d mj l0 h t (.inl (some (zi y)), h1, t) ∧ R y h1
theorem qV_of {d mj : Nat} {l0 : List (Option zv)} {h : zh} {t : Nat} {R : zh → Prop} (k : qX d mj 0 l0 [] h t (rV R t)) : qV (d + 1) mj l0 h t R := by
  obtain ⟨x, k, h1, rfl, hR⟩ := k
  exact ⟨h1, qE_of k, hR⟩
theorem qI_of {d mj : Nat} {l0 : List (Option zv)} {h : zh} {t : Nat} {R : Int32 → zh → Prop} (k : qX d mj 0 l0 [] h t (rI R t)) : qI (d + 1) mj l0 h t R := by
  obtain ⟨x, k, y, h1, rfl, hR⟩ := k
  exact ⟨y, h1, qE_of k, hR⟩
theorem qV_le {d d' mj : Nat} {l0 : List (Option zv)} {h : zh} {t : Nat} {R : zh → Prop} (hd : d ≤ d') (k : qV d mj l0 h t R) : qV d' mj l0 h t R := by
  obtain ⟨h1, k, hR⟩ := k
  exact ⟨h1, qE_le hd k, hR⟩
theorem qI_le {d d' mj : Nat} {l0 : List (Option zv)} {h : zh} {t : Nat} {R : Int32 → zh → Prop} (hd : d ≤ d') (k : qI d mj l0 h t R) : qI d' mj l0 h t R := by
  obtain ⟨y, h1, k, hR⟩ := k
  exact ⟨y, h1, qE_le hd k, hR⟩
section Y
variable {d mi pc : Nat} {ls : List (Option zv)} {st : List zv} {h : zh} {t : Nat} {P : zo × zh × Nat → Prop} {len : Nat} {r : zr} {τ : List Nat} {A T i : Nat} {st' : List zv} {n v a b : Int32}
theorem y_same {i : Instr} {pc' : Nat} {ls' : List (Option zv)} (hf : zfetch mi pc = some (i, len, r)) (h9 : ∀ k, i = .new k → Nat.beq r.1 99 = false) (hs : stH none i r pc ls st h = some (pc', ls', st', none)) (k : qX d mi pc' ls' st' h t P) : qX d mi pc ls st h t P := by
  obtain ⟨x, k, hP⟩ := k
  exact ⟨x, qF_step hf h9 hs k, hP⟩
theorem y_step {i : Instr} {pc' : Nat} {ls' : List (Option zv)} {z : zp} (hf : zfetch mi pc = some (i, len, r)) (h9 : ∀ k, i = .new k → Nat.beq r.1 99 = false) (hs : stH none i r pc ls st h = some (pc', ls', st', z)) (k : qX d mi pc' ls' st' (hap h z) t P) : qX d mi pc ls st h t P := by
  obtain ⟨x, k, hP⟩ := k
  exact ⟨x, qF_step hf h9 hs k, hP⟩
/-- a call that answers a number -/
theorem y_cI {i : Instr} {nL k n : Nat} {hs : List (Nat × Nat × Nat × Nat)} {args rest : List zv} {l0 : List (Option zv)} {R : Int32 → zh → Prop} (hf : zfetch mi pc = some (i, len, r)) (hi : (∃ k, i = .invokestatic k) ∨ (∃ k, i = .invokevirtual k) ∨ (∃ k, i = .invokespecial k)) (h5 : Nat.beq r.1 5 = false) (h7 : Nat.beq r.1 7 = false) (q1 : zmeth r.2.1 = some (nL, k, n, hs)) (q2 : zpop n [] st = some (args, rest)) (q3 : zcat rest ≤ 8) (q4 : zargs r args h = true) (q5 : zent args nL = some l0) (hE : qI d r.2.1 l0 h t R) (kk : ∀ (y : Int32) (h1 : zh), R y h1 → qX d mi (pc + 3) ls (zi y :: rest) h1 t P) : qX d mi pc ls st h t P := by
  obtain ⟨y, h1, hE, hR⟩ := hE
  obtain ⟨x, k9, hP⟩ := kk y h1 hR
  exact ⟨x, qF_call hf hi h5 h7 q1 q2 q3 q4 q5 hE (qB_val k9), hP⟩
theorem y_cV {i : Instr} {nL k n : Nat} {hs : List (Nat × Nat × Nat × Nat)} {args rest : List zv} {l0 : List (Option zv)} {R : zh → Prop} (hf : zfetch mi pc = some (i, len, r)) (hi : (∃ k, i = .invokestatic k) ∨ (∃ k, i = .invokevirtual k) ∨ (∃ k, i = .invokespecial k)) (h5 : Nat.beq r.1 5 = false) (h7 : Nat.beq r.1 7 = false) (q1 : zmeth r.2.1 = some (nL, k, n, hs)) (q2 : zpop n [] st = some (args, rest)) (q3 : zcat rest ≤ 8) (q4 : zargs r args h = true) (q5 : zent args nL = some l0) (hE : qV d r.2.1 l0 h t R) (kk : ∀ (h1 : zh), R h1 → qX d mi (pc + 3) ls rest h1 t P) : qX d mi pc ls st h t P := by
  obtain ⟨h1, hE, hR⟩ := hE
  obtain ⟨x, k9, hP⟩ := kk h1 hR
  exact ⟨x, qF_call hf hi h5 h7 q1 q2 q3 q4 q5 hE (qB_void k9), hP⟩
theorem y_rV {nL n9 : Nat} {hs : List (Nat × Nat × Nat × Nat)} {R : zh → Prop} (hf : zfetch mi pc = some (.return_, len, r)) (hm : zmeth mi = some (nL, 0, n9, hs)) (hR : R h) : qX d mi pc ls [] h t (rV R t) := ⟨_, qF_void hf hm, h, rfl, hR⟩
theorem y_rI {nL k n9 : Nat} {hs : List (Nat × Nat × Nat × Nat)} {R : Int32 → zh → Prop} (hf : zfetch mi pc = some (.ireturn, len, r)) (hm : zmeth mi = some (nL, k, n9, hs)) (hr : zret k (zi v) = true) (hR : R v h) : qX d mi pc ls [zi v] h t (rI R t) := ⟨_, qF_fin (i := .ireturn) (f := zisI) hf (Or.inl ⟨rfl, rfl⟩) hm hr rfl, v, h, rfl, hR⟩
theorem y_ial {L : Nat} {rs : List (Nat × qs)} (hf : zfetch mi pc = some (.iaload, len, r)) (hg : hG τ h) (hA : τ[A]? = some T) (hT : atyp T = some (.inl (0, L, rs))) (hn : n.toInt = (i : Int)) (hv : hsl h A i = some (zi v)) (k : qX d mi (pc + 1) ls (zi v :: st') h t P) : qX d mi pc ls (zi n :: .inl (some A) :: st') h t P := by
  obtain ⟨fs, hc, hl⟩ := g_arr hg hA hT
  have hlt := g_lt hg hA
  rw [hsl_arr hc] at hv
  have hz : zisS (.inl (some A)) = false := by
    show Nat.beq A 1000000 = false
    cases hb : Nat.beq A 1000000 with
    | false => rfl
    | true =>
      have := Nat.eq_of_beq_eq_true hb
      omega
  refine y_same hf (fun k q => by cases q) ?_ k
  show zildH none pc ls (zi n :: .inl (some A) :: st') h = _
  unfold zildH
  simp only [hz, cond_false]
  unfold zald
  simp only [zarr_at hc]
  rw [zix_ex hn (List.getElem?_eq_some_iff.mp hv).1]
  simp only [nth_eq, hv, Nat.beq_refl, cond_true]
theorem y_ias {L : Nat} {rs : List (Nat × qs)} {lo hi : Int} (hf : zfetch mi pc = some (.iastore, len, r)) (hg : hG τ h) (hA : τ[A]? = some T) (hT : atyp T = some (.inl (0, L, rs))) (hp : aprot T = false) (hn : n.toInt = (i : Int)) (hi9 : i < L) (hq : srng rs i = some (.inl (lo, hi))) (h1 : lo ≤ v.toInt) (h2 : v.toInt ≤ hi) (k : ∀ h2 : zh, hG τ h2 → h2.length = h.length → hsl h2 A i = some (zi v) → hO A i h h2 → qX d mi (pc + 1) ls st' h2 t P) : qX d mi pc ls (zi v :: zi n :: .inl (some A) :: st') h t P := by
  obtain ⟨fs, hc, hl⟩ := g_arr hg hA hT
  obtain ⟨k1, k2, k3, k4⟩ := g_put (v := zi v) hg hA hT hi9 hq ⟨v, rfl, h1, h2⟩ hp
  refine y_step hf (fun k q => by cases q) (z := some (.inl (A, i, zi v))) ?_ (k _ k1 k2 k3 k4)
  show zast (fun t => Nat.beq t 0) (fun _ v => zfit 0 v) pc ls (zi v :: zi n :: .inl (some A) :: st') h = _
  unfold zast
  simp only [zarr_at hc]
  rw [zix_ex hn (by omega)]
  rfl
theorem y_aal {tg L : Nat} {rs : List (Nat × qs)} {w : zv} (hf : zfetch mi pc = some (.aaload, len, r)) (hg : hG τ h) (hA : τ[A]? = some T) (hT : atyp T = some (.inl (tg, L, rs))) (ht : (Nat.ble 3 tg && Nat.ble tg 5) = true) (hn : n.toInt = (i : Int)) (hv : hsl h A i = some w) (k : qX d mi (pc + 1) ls (w :: st') h t P) : qX d mi pc ls (zi n :: .inl (some A) :: st') h t P := by
  obtain ⟨fs, hc, hl⟩ := g_arr hg hA hT
  rw [hsl_arr hc] at hv
  obtain ⟨x, k, hP⟩ := k
  exact ⟨x, x_aald hf hc ht hn hv k, hP⟩
theorem y_get {ci j : Nat} {ss : List qs} {w : zv} (hf : zfetch mi pc = some (.getfield j, len, r)) (hg : hG τ h) (hA : τ[A]? = some T) (hT : atyp T = some (.inr (ci, ss))) (hr : r.1 = ci) (h5 : Nat.beq r.1 50 = false) (hv : hsl h A r.2.1 = some w) (k : qX d mi (pc + 3) ls (w :: st') h t P) : qX d mi pc ls (.inl (some A) :: st') h t P := by
  obtain ⟨fs, hc, hl⟩ := g_obj hg hA hT
  rw [hsl_obj hc] at hv
  subst hr
  obtain ⟨x, k, hP⟩ := k
  exact ⟨x, x_get hf h5 hc hv k, hP⟩
theorem y_put {ci j : Nat} {ss : List qs} {lo hi : Int} (hf : zfetch mi pc = some (.putfield j, len, r)) (hg : hG τ h) (hA : τ[A]? = some T) (hT : atyp T = some (.inr (ci, ss))) (hp : aprot T = false) (hr : r.1 = ci) (hi9 : r.2.1 < ss.length) (hq : ss[r.2.1]? = some (.inl (lo, hi))) (h1 : lo ≤ v.toInt) (h2 : v.toInt ≤ hi) (hz : zfit r.2.2.1 (zi v) = true) (k : ∀ h2 : zh, hG τ h2 → h2.length = h.length → hsl h2 A r.2.1 = some (zi v) → hO A r.2.1 h h2 → qX d mi (pc + 3) ls st' h2 t P) : qX d mi pc ls (zi v :: .inl (some A) :: st') h t P := by
  obtain ⟨fs, hc, hl⟩ := g_obj hg hA hT
  obtain ⟨k1, k2, k3, k4⟩ := g_put (v := zi v) hg hA hT hi9 hq ⟨v, rfl, h1, h2⟩ hp
  subst hr
  obtain ⟨x, k, hP⟩ := k _ k1 k2 k3 k4
  exact ⟨x, x_put hf hc (by omega) hz k, hP⟩
theorem y_ic {c : Int} (hf : zfetch mi pc = some (.iconst c, len, r)) (hc : (Int32.ofInt c).toInt = c) (k : ∀ y : Int32, y.toInt = c → qX d mi (pc + 1) ls (zi y :: st) h t P) : qX d mi pc ls st h t P := by
  obtain ⟨x, k, hP⟩ := k _ hc
  exact ⟨x, x_iconst hf k, hP⟩
theorem y_bi {c : Int} (hf : zfetch mi pc = some (.bipush c, len, r)) (hc : (Int8.ofInt c).toInt32.toInt = c) (k : ∀ y : Int32, y.toInt = c → qX d mi (pc + 2) ls (zi y :: st) h t P) : qX d mi pc ls st h t P := by
  obtain ⟨x, k, hP⟩ := k _ hc
  exact ⟨x, x_bipush hf k, hP⟩
theorem y_si {c : Int} (hf : zfetch mi pc = some (.sipush c, len, r)) (hc : (Int16.ofInt c).toInt32.toInt = c) (k : ∀ y : Int32, y.toInt = c → qX d mi (pc + 3) ls (zi y :: st) h t P) : qX d mi pc ls st h t P := by
  refine y_same hf (fun k q => by cases q) ?_ (k _ hc)
  show (match frcI (Int16.ofInt c).toInt32 (fun v => some (pc + 3, ls, zi v :: st)) with
    | some (a, b, c) => some (a, b, c, (none : zp))
    | none => none) = _
  rw [frcI_eq]
theorem y_bop {i : Instr} {f : Int32 → Int32 → Int32} (hf : zfetch mi pc = some (i, len, r)) (hn : anoH i = true) (hi : stA i r pc ls (zi b :: zi a :: st') = (match bop f (zi a) (zi b) with
    | some v => some (pc + 1, ls, v :: st')
    | none => none)) (k : qX d mi (pc + 1) ls (zi (f a b) :: st') h t P) : qX d mi pc ls (zi b :: zi a :: st') h t P := by
  have h9 : ∀ k, i = .new k → Nat.beq r.1 99 = false := fun k q => by
    subst q
    cases hn
  refine y_same hf h9 (stH_A' hn ?_) k
  rw [hi]
  show (match frcI (f a b) (fun z => some (zi z)) with
    | some v => some (pc + 1, ls, v :: st')
    | none => none) = _
  rw [frcI_eq]
theorem y_bp {i : Instr} {f : Int32 → Int32 → Int32} (hf : zfetch mi pc = some (i, len, r)) (hn : anoH i = true) (hi : stA i r pc ls (zi b :: zi a :: st') = (match bop f (zi a) (zi b) with
    | some v => some (pc + 1, ls, v :: st')
    | none => none)) (k : ∀ y : Int32, y = f a b → qX d mi (pc + 1) ls (zi y :: st') h t P) : qX d mi pc ls (zi b :: zi a :: st') h t P := y_bop hf hn hi (k _ rfl)
theorem y_add (hf : zfetch mi pc = some (.iadd, len, r)) (h1 : -2147483648 ≤ a.toInt + b.toInt) (h2 : a.toInt + b.toInt ≤ 2147483647) (k : ∀ y : Int32, y.toInt = a.toInt + b.toInt → qX d mi (pc + 1) ls (zi y :: st') h t P) : qX d mi pc ls (zi b :: zi a :: st') h t P :=
  y_bop (f := fun x y => x + y) hf rfl rfl (k _ (by rw [Int32.toInt_add]; exact z32 h1 h2))
theorem y_sub (hf : zfetch mi pc = some (.isub, len, r)) (h1 : -2147483648 ≤ a.toInt - b.toInt) (h2 : a.toInt - b.toInt ≤ 2147483647) (k : ∀ y : Int32, y.toInt = a.toInt - b.toInt → qX d mi (pc + 1) ls (zi y :: st') h t P) : qX d mi pc ls (zi b :: zi a :: st') h t P :=
  y_bop (f := fun x y => x - y) hf rfl rfl (k _ (by rw [Int32.toInt_sub]; exact z32 h1 h2))
theorem y_mul {c : Int} (hf : zfetch mi pc = some (.imul, len, r)) (ha : a.toInt = c) (h1 : -2147483648 ≤ c * b.toInt) (h2 : c * b.toInt ≤ 2147483647) (k : ∀ y : Int32, y.toInt = c * b.toInt → qX d mi (pc + 1) ls (zi y :: st') h t P) : qX d mi pc ls (zi b :: zi a :: st') h t P :=
  y_bop (f := fun x y => x * y) hf rfl rfl (k _ (by rw [Int32.toInt_mul, ha]; exact z32 h1 h2))
theorem y_inc {j : Nat} {c : Int} {ls' : zv → List (Option zv)} (hf : zfetch mi pc = some (.iinc j c, len, r)) (hl : zld ls j zisI = some (zi a)) (hs : ∀ v, zsto ls j (zi v) = some (ls' (zi v))) (hc : (Int32.ofInt c).toInt = c) (h1 : -2147483648 ≤ a.toInt + c) (h2 : a.toInt + c ≤ 2147483647) (k : ∀ y : Int32, y.toInt = a.toInt + c → qX d mi (pc + 3) (ls' (zi y)) st h t P) : qX d mi pc ls st h t P := by
  refine y_same hf (fun k q => by cases q) (stH_A' rfl ?_) (k (a + Int32.ofInt c) (by rw [Int32.toInt_add, hc]; exact z32 h1 h2))
  show (match zld ls j zisI with
    | some a => match bop (fun x y => x + y) a (zi (Int32.ofInt c)) with
      | some v => match zsto ls j v with
        | some ls' => some (pc + 3, ls', st)
        | none => none
      | none => none
    | none => none) = _
  rw [hl]
  simp only
  have hb : bop (fun x y => x + y) (zi a) (zi (Int32.ofInt c)) = some (zi (a + Int32.ofInt c)) := by
    show frcI (a + Int32.ofInt c) (fun z => some (zi z)) = _
    rw [frcI_eq]
  rw [hb]
  simp only [hs]
theorem y_cT {c : ClassFile.Cond} {off : Int} {pc' : Nat} (hf : zfetch mi pc = some (.if_icmp c off, len, r)) (hc : acmp c a.toInt b.toInt = true) (ht : ztg pc off = some pc') (k : qX d mi pc' ls st' h t P) : qX d mi pc ls (zi b :: zi a :: st') h t P := by
  refine y_same hf (fun k q => by cases q) (stH_A' rfl ?_) k
  show zbr (zcond c (zi a) (zi b)) pc off ls st' = _
  rw [zcond_ex, hc]
  show (match ztg pc off with
    | some t => some (t, ls, st')
    | none => none) = _
  rw [ht]
theorem y_cF {c : ClassFile.Cond} {off : Int} (hf : zfetch mi pc = some (.if_icmp c off, len, r)) (hc : acmp c a.toInt b.toInt = false) (k : qX d mi (pc + 3) ls st' h t P) : qX d mi pc ls (zi b :: zi a :: st') h t P := by
  refine y_same hf (fun k q => by cases q) (stH_A' rfl ?_) k
  show zbr (zcond c (zi a) (zi b)) pc off ls st' = _
  rw [zcond_ex, hc]
  rfl
theorem y_iT {c : ClassFile.Cond} {off : Int} {pc' : Nat} (hf : zfetch mi pc = some (.ifCond c off, len, r)) (hc : acmp c a.toInt 0 = true) (ht : ztg pc off = some pc') (k : qX d mi pc' ls st' h t P) : qX d mi pc ls (zi a :: st') h t P := by
  refine y_same hf (fun k q => by cases q) (stH_A' rfl ?_) k
  show zbr (zcond c (zi a) (zi 0)) pc off ls st' = _
  rw [zcond_ex]
  have e : acmp c a.toInt (0 : Int32).toInt = true := hc
  rw [e]
  show (match ztg pc off with
    | some t => some (t, ls, st')
    | none => none) = _
  rw [ht]
theorem y_iF {c : ClassFile.Cond} {off : Int} (hf : zfetch mi pc = some (.ifCond c off, len, r)) (hc : acmp c a.toInt 0 = false) (k : qX d mi (pc + 3) ls st' h t P) : qX d mi pc ls (zi a :: st') h t P := by
  refine y_same hf (fun k q => by cases q) (stH_A' rfl ?_) k
  show zbr (zcond c (zi a) (zi 0)) pc off ls st' = _
  rw [zcond_ex]
  have e : acmp c a.toInt (0 : Int32).toInt = false := hc
  rw [e]
  rfl
theorem y_goto {off : Int} {pc' : Nat} (hf : zfetch mi pc = some (.goto off, len, r)) (ht : ztg pc off = some pc') (k : qX d mi pc' ls st h t P) : qX d mi pc ls st h t P := by
  refine y_same hf (fun k q => by cases q) (stH_A' rfl ?_) k
  show (match ztg pc off with
    | some t => some (t, ls, st)
    | none => none) = _
  rw [ht]
end Y
theorem acmpT {c : ClassFile.Cond} {a b : Int} (hp : match c with
    | .eq => a = b
    | .ne => a ≠ b
    | .lt => a < b
    | .ge => b ≤ a
    | .gt => b < a
    | .le => a ≤ b) : acmp c a b = true := by
  cases c <;> simp only [acmp, decide_eq_true_eq, Bool.not_eq_true', decide_eq_false_iff_not] at hp ⊢ <;> omega
theorem acmpF {c : ClassFile.Cond} {a b : Int} (hp : match c with
    | .eq => a ≠ b
    | .ne => a = b
    | .lt => b ≤ a
    | .ge => a < b
    | .gt => a ≤ b
    | .le => b < a) : acmp c a b = false := by
  cases c <;> simp only [acmp, decide_eq_true_eq, Bool.not_eq_false', decide_eq_false_iff_not] at hp ⊢ <;> omega
/-! the reference's own cell -/
def ss52 : List qs := [.inl ((-2147483648), 2147483647), .inr (.inl (53, false)), .inl (0, 200), .inl (0, 200), .inl (0, 200), .inl ((-2147483648), 2147483647), .inl (0, 2), .inl ((-2147483648), 2147483647), .inr (.inl (54, false)), .inr (.inl (55, false)), .inr (.inl (56, false)), .inr (.inl (57, false)), .inl (0, 10), .inr (.inl (68, false)), .inr (.inl (69, false)), .inr (.inl (70, false)), .inr (.inl (371, false)), .inr (.inl (372, false)), .inr (.inl (373, false)), .inr (.inl (374, false)), .inr (.inl (375, false)), .inr (.inl (376, false)), .inr (.inl (377, false)), .inr (.inl (378, false)), .inr (.inl (379, false)), .inr (.inl (380, false)), .inl (0, 300), .inl ((-2147483648), 2147483647), .inl ((-2147483648), 2147483647), .inl (0, 300), .inl (0, 600), .inl (0, 1), .inl (0, 1), .inr (.inl (381, false)), .inr (.inl (382, false)), .inr (.inl (383, false)), .inr (.inl (384, false)), .inr (.inl (385, false)), .inr (.inl (386, false)), .inl (0, 31), .inl (0, 5), .inl ((-2147483648), 2147483647), .inl ((-2147483648), 2147483647), .inl ((-2147483648), 2147483647), .inl ((-2147483648), 2147483647), .inl ((-2147483648), 2147483647), .inr (.inl (387, false)), .inl (0, 1)]
theorem at52 : atyp 52 = some (.inr (12, ss52)) := rfl
theorem atau_52 : atau[52]? = some 52 := by decide +kernel
theorem t52 {τ : List Nat} {h : zh} (hg : hG τ h) : τ[52]? = some 52 := hg.1.2.2.1 _ _ atau_52
theorem g_r52 {τ : List Nat} {h : zh} {f T2 : Nat} (hg : hG τ h) (hq : ss52[f]? = some (.inr (.inl (T2, false)))) (hT : T2 < 1000) : hsl h 52 f = some (.inl (some T2)) ∧ τ[T2]? = some T2 := by
  obtain ⟨a, e1, e2, e3⟩ := g_ref (i := f) hg (t52 hg) at52 (List.getElem?_eq_some_iff.mp hq).1 hq
  have := e3 hT
  subst this
  exact ⟨e1, e2⟩
theorem z52 {τ : List Nat} {h : zh} {mj k9 : Nat} {args : List zv} (hg : hG τ h) : zargs (0, mj, 12, k9) (.inl (some 52) :: args) h = true := by
  obtain ⟨fs, hc, -⟩ := g_obj hg (t52 hg) at52
  show (match nth h 52 with
    | some (.inr (c, _)) => Nat.beq c 12
    | _ => false) = true
  rw [nth_eq, hc]
  rfl
/-! a contract, used -/
def outI (L U : Int) (e : aE) : Bool := match e with
  | (.inl (some (.inl p)), 0, _, _) => ile L p.1 && ile p.2 U
  | _ => false
theorem use_I {τ : List Nat} {h : zh} {mj dd nL rk n t d : Nat} {hs : List (Nat × Nat × Nat × Nat)} {qs : List aq} {wl : aW} {outs : List aE} {vs : List zv} {l0 : List (Option zv)} (L U : Int) (hC : cOK aJ mj (qs, [], dd, wl, outs)) (hm : zmeth mj = some (nL, rk, n, hs)) (hg : hG τ h) (hq : aqsM τ qs vs) (hz : zent vs nL = some l0) (ho : outs.all (outI L U) = true) (hd : dd ≤ d) : qI d mj l0 h t (fun y h1 => L ≤ y.toInt ∧ y.toInt ≤ U ∧ ∃ τ', aup τ τ' ∧ hG τ' h1 ∧ aFr τ h wl h1) := by
  obtain ⟨o, h', t', τ', e, he, hE, hu, hh', hJ', hF, ht, hc⟩ := hC τ h t nL rk n hs vs l0 [] hm hg.1 hg.2 hq trivial hz
  have h1 := List.all_eq_true.mp ho e he
  unfold outI at h1
  split at h1
  · rename_i p rf pf
    simp only [Bool.and_eq_true] at h1
    have e1 := ile_iff.mp h1.1
    have e2 := ile_iff.mp h1.2
    rcases o with (_ | v) | z
    · exact hc.1.elim
    · obtain ⟨x, rfl, l1, l2⟩ := hc.1
      have ht : t' = t := ht
      subst ht
      exact ⟨x, h', qE_le hd hE, by omega, by omega, τ', hu, ⟨hh', hJ'⟩, hF⟩
    · exact hc.1.elim
  · cases h1
def outV (e : aE) : Bool := match e with
  | (.inl none, 0, _, _) => true
  | _ => false
theorem use_V {τ : List Nat} {h : zh} {mj dd nL rk n t d : Nat} {hs : List (Nat × Nat × Nat × Nat)} {qs : List aq} {pf : List (Nat × Nat × Int × Int)} {pv : List Int} {wl : aW} {outs : List aE} {vs : List zv} {l0 : List (Option zv)} (hC : cOK aJ mj (qs, pf, dd, wl, outs)) (hm : zmeth mj = some (nL, rk, n, hs)) (hg : hG τ h) (hq : aqsM τ qs vs) (hp : cpre τ h vs pf pv) (hz : zent vs nL = some l0) (ho : outs.all outV = true) (hd : dd ≤ d) : qV d mj l0 h t (fun h1 => ∃ τ', aup τ τ' ∧ hG τ' h1 ∧ aFr τ h wl h1) := by
  obtain ⟨o, h', t', τ', e, he, hE, hu, hh', hJ', hF, ht, hc⟩ := hC τ h t nL rk n hs vs l0 pv hm hg.1 hg.2 hq hp hz
  have h1 := List.all_eq_true.mp ho e he
  unfold outV at h1
  split at h1
  · rcases o with (_ | v) | z
    · have ht : t' = t := ht
      subst ht
      exact ⟨h', qE_le hd hE, τ', hu, ⟨hh', hJ'⟩, hF⟩
    · exact hc.1.elim
    · exact hc.1.elim
  · cases h1
