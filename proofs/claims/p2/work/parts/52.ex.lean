/-! EXACT STEPS over typed heaps: each new number has a name, each new heap too. -/
def hG (τ : List Nat) (h : zh) : Prop := hM τ h ∧ aJ h
/-- all other slots are as they were -/
def hO (A i : Nat) (h h2 : zh) : Prop := ∀ (k j : Nat), (k ≠ A ∨ j ≠ i) → hsl h2 k j = hsl h k j
section G
variable {τ : List Nat} {h : zh} {A T i : Nat} {tt : qt}
theorem g_arr {tg L : Nat} {rs : List (Nat × qs)} (hg : hG τ h) (hA : τ[A]? = some T) (hT : atyp T = some (.inl (tg, L, rs))) : ∃ fs : List zv, h[A]? = some (.inl (tg, fs)) ∧ fs.length = L := by
  obtain ⟨-, c, hc, hty⟩ := hg.1.2.2.2 A T hA
  obtain ⟨fs, rfl, hl⟩ := tyc_arr hT hty
  exact ⟨fs, hc, hl⟩
theorem g_obj {ci : Nat} {ss : List qs} (hg : hG τ h) (hA : τ[A]? = some T) (hT : atyp T = some (.inr (ci, ss))) : ∃ fs : List zv, h[A]? = some (.inr (ci, fs)) ∧ fs.length = ss.length := by
  obtain ⟨-, c, hc, hty⟩ := hg.1.2.2.2 A T hA
  obtain ⟨fs, rfl, hl⟩ := tyc_obj hT hty
  exact ⟨fs, hc, hl⟩
theorem g_int {lo hi : Int} (hg : hG τ h) (hA : τ[A]? = some T) (hT : atyp T = some tt) (hi9 : i < aLen tt) (hq : aslq tt i = some (.inl (lo, hi))) : ∃ x : Int32, hsl h A i = some (zi x) ∧ lo ≤ x.toInt ∧ x.toInt ≤ hi := by
  obtain ⟨-, c, hc, hty⟩ := hg.1.2.2.2 A T hA
  obtain ⟨v, q, e1, e2, e3⟩ := tyc_slot hT hty hi9
  rw [hq] at e2
  cases e2
  obtain ⟨x, rfl, l1, l2⟩ := e3
  exact ⟨x, hsl_of hc e1, l1, l2⟩
theorem g_ref {T2 : Nat} (hg : hG τ h) (hA : τ[A]? = some T) (hT : atyp T = some tt) (hi9 : i < aLen tt) (hq : aslq tt i = some (.inr (.inl (T2, false)))) : ∃ a : Nat, hsl h A i = some (.inl (some a)) ∧ τ[a]? = some T2 ∧ (T2 < 1000 → a = T2) := by
  obtain ⟨-, c, hc, hty⟩ := hg.1.2.2.2 A T hA
  obtain ⟨v, q, e1, e2, e3⟩ := tyc_slot hT hty hi9
  rw [hq] at e2
  cases e2
  rcases e3 with ⟨e3, -⟩ | ⟨a, rfl, ha⟩
  · cases e3
  · exact ⟨a, hsl_of hc e1, ha, (hg.1.2.2.2 a T2 ha).1⟩
theorem g_lt (hg : hG τ h) (hA : τ[A]? = some T) : A < 100000 := by
  have h1 := (List.getElem?_eq_some_iff.mp hA).1
  have h2 := hg.1.1
  have h3 := hg.1.2.1
  omega
theorem g_put {v : zv} {qq : qs} (hg : hG τ h) (hA : τ[A]? = some T) (hT : atyp T = some tt) (hi9 : i < aLen tt) (hq : aslq tt i = some qq) (hv : tyv τ qq v) (hp : aprot T = false) : hG τ (hup h A i v) ∧ (hup h A i v).length = h.length ∧ hsl (hup h A i v) A i = some v ∧ hO A i h (hup h A i v) := by
  obtain ⟨-, c, hc, hty⟩ := hg.1.2.2.2 A T hA
  obtain ⟨w, q, e1, e2, e3⟩ := tyc_slot hT hty hi9
  have hw := hsl_of hc e1
  refine ⟨⟨hM_hup (w := w) hg.1 hA hT hq hv, aJ_ok τ h _ hg.1 hup_len (fun q9 T9 h1 h2 => ?_) hg.2⟩, hup_len, ?_, fun k j hkj => ?_⟩
  · by_cases hqA : q9 = A
    · subst hqA
      rw [hA] at h1
      cases h1
      rw [hp] at h2
      cases h2
    · exact hup_ne hqA
  · rw [hup_sl hw, if_pos ⟨rfl, rfl⟩]
  · rw [hup_sl hw, if_neg]
    rintro ⟨rfl, rfl⟩
    rcases hkj with h9 | h9 <;> exact h9 rfl
end G
theorem sr1 {L i : Nat} {q : qs} (hi : i < L) : srng [(L, q)] i = some q := by
  show (bif Nat.blt i L then some q else none) = some q
  rw [bltT.mpr hi]
  rfl
def wRs (c : Int) : List (Nat × qs) := [(3, .inl (0, c)), (24, .inl (-2147483648, 2147483647)), (200, .inl (0, 20))]
theorem at1012 : atyp 1012 = some (.inl (0, 200, wRs 12)) := rfl
theorem at378 : atyp 378 = some (.inl (0, 200, wRs 14)) := rfl
theorem srA {c : Int} {i : Nat} (hi : i < 3) : srng (wRs c) i = some (.inl (0, c)) := by
  show (bif Nat.blt i 3 then some (.inl (0, c)) else _) = _
  rw [bltT.mpr hi]
  rfl
theorem srB {c : Int} {i : Nat} (h1 : 3 ≤ i) (hi : i < 24) : srng (wRs c) i = some (.inl (-2147483648, 2147483647)) := by
  show (bif Nat.blt i 3 then some (.inl (0, c)) else bif Nat.blt i 24 then _ else _) = _
  rw [bltF.mpr h1, bltT.mpr hi]
  rfl
theorem srC {c : Int} {i : Nat} (h1 : 24 ≤ i) (hi : i < 200) : srng (wRs c) i = some (.inl (0, 20)) := by
  show (bif Nat.blt i 3 then some (.inl (0, c)) else bif Nat.blt i 24 then _ else bif Nat.blt i 200 then _ else _) = _
  rw [bltF.mpr (show 3 ≤ i by omega), bltF.mpr h1, bltT.mpr hi]
  rfl
theorem zfit_b {v : Int32} (h1 : 0 ≤ v.toInt) (h2 : v.toInt ≤ 1) : zfit 1 (zi v) = true ∧ zret 2 (zi v) = true := by
  have e : v = 0 ∨ v = 1 := by
    have e0 : (0 : Int32).toInt = 0 := by decide
    have e1 : (1 : Int32).toInt = 1 := by decide
    rcases (show v.toInt = 0 ∨ v.toInt = 1 by omega) with q | q
    · exact Or.inl (Int32.toInt_inj.mp (by omega))
    · exact Or.inr (Int32.toInt_inj.mp (by omega))
  rcases e with rfl | rfl <;> exact ⟨rfl, rfl⟩
section Y
variable {scr : Option (List zv)} {d mi pc : Nat} {ls : List (Option zv)} {st : List zv} {h : zh} {t : Nat} {x : zo × zh × Nat} {len : Nat} {r : zr} {τ : List Nat} {A T i : Nat} {st' : List zv} {n v a b : Int32}
theorem y_ial {L : Nat} {rs : List (Nat × qs)} (hf : zfetch mi pc = some (.iaload, len, r)) (hg : hG τ h) (hA : τ[A]? = some T) (hT : atyp T = some (.inl (0, L, rs))) (hn : n.toInt = (i : Int)) (hv : hsl h A i = some (zi v)) (k : qF scr d mi (pc + 1) ls (zi v :: st') h t x) : qF scr d mi pc ls (zi n :: .inl (some A) :: st') h t x := by
  obtain ⟨fs, hc, hl⟩ := g_arr hg hA hT
  have hlt := g_lt hg hA
  rw [hsl_arr hc] at hv
  have hz : zisS (.inl (some A)) = false := by
    show Nat.beq A 1000000 = false
    cases hb : Nat.beq A 1000000 with
    | false => rfl
    | true =>
      have := Nat.eq_of_beq_eq_true hb
      omega
  refine x_same hf (fun k q => by cases q) ?_ k
  show zildH scr pc ls (zi n :: .inl (some A) :: st') h = _
  unfold zildH
  simp only [hz, cond_false]
  unfold zald
  simp only [zarr_at hc]
  rw [zix_ex hn (List.getElem?_eq_some_iff.mp hv).1]
  simp only [nth_eq, hv, Nat.beq_refl, cond_true]
theorem y_ias {L : Nat} {rs : List (Nat × qs)} {lo hi : Int} (hf : zfetch mi pc = some (.iastore, len, r)) (hg : hG τ h) (hA : τ[A]? = some T) (hT : atyp T = some (.inl (0, L, rs))) (hp : aprot T = false) (hn : n.toInt = (i : Int)) (hi9 : i < L) (hq : srng rs i = some (.inl (lo, hi))) (h1 : lo ≤ v.toInt) (h2 : v.toInt ≤ hi) (k : ∀ h2 : zh, hG τ h2 → h2.length = h.length → hsl h2 A i = some (zi v) → hO A i h h2 → qF scr d mi (pc + 1) ls st' h2 t x) : qF scr d mi pc ls (zi v :: zi n :: .inl (some A) :: st') h t x := by
  obtain ⟨fs, hc, hl⟩ := g_arr hg hA hT
  obtain ⟨k1, k2, k3, k4⟩ := g_put (v := zi v) hg hA hT hi9 hq ⟨v, rfl, h1, h2⟩ hp
  refine qF_step hf (fun k q => by cases q) (z := some (.inl (A, i, zi v))) ?_ (k _ k1 k2 k3 k4)
  show zast (fun t => Nat.beq t 0) (fun _ v => zfit 0 v) pc ls (zi v :: zi n :: .inl (some A) :: st') h = _
  unfold zast
  simp only [zarr_at hc]
  rw [zix_ex hn (by omega)]
  rfl
theorem y_aal {tg L : Nat} {rs : List (Nat × qs)} {w : zv} (hf : zfetch mi pc = some (.aaload, len, r)) (hg : hG τ h) (hA : τ[A]? = some T) (hT : atyp T = some (.inl (tg, L, rs))) (ht : (Nat.ble 3 tg && Nat.ble tg 5) = true) (hn : n.toInt = (i : Int)) (hv : hsl h A i = some w) (k : qF scr d mi (pc + 1) ls (w :: st') h t x) : qF scr d mi pc ls (zi n :: .inl (some A) :: st') h t x := by
  obtain ⟨fs, hc, hl⟩ := g_arr hg hA hT
  rw [hsl_arr hc] at hv
  exact x_aald hf hc ht hn hv k
theorem y_get {ci j : Nat} {ss : List qs} {w : zv} (hf : zfetch mi pc = some (.getfield j, len, r)) (hg : hG τ h) (hA : τ[A]? = some T) (hT : atyp T = some (.inr (ci, ss))) (hr : r.1 = ci) (h5 : Nat.beq r.1 50 = false) (hv : hsl h A r.2.1 = some w) (k : qF scr d mi (pc + 3) ls (w :: st') h t x) : qF scr d mi pc ls (.inl (some A) :: st') h t x := by
  obtain ⟨fs, hc, hl⟩ := g_obj hg hA hT
  rw [hsl_obj hc] at hv
  subst hr
  exact x_get hf h5 hc hv k
theorem y_put {ci j : Nat} {ss : List qs} {lo hi : Int} (hf : zfetch mi pc = some (.putfield j, len, r)) (hg : hG τ h) (hA : τ[A]? = some T) (hT : atyp T = some (.inr (ci, ss))) (hp : aprot T = false) (hr : r.1 = ci) (hi9 : r.2.1 < ss.length) (hq : ss[r.2.1]? = some (.inl (lo, hi))) (h1 : lo ≤ v.toInt) (h2 : v.toInt ≤ hi) (hz : zfit r.2.2.1 (zi v) = true) (k : ∀ h2 : zh, hG τ h2 → h2.length = h.length → hsl h2 A r.2.1 = some (zi v) → hO A r.2.1 h h2 → qF scr d mi (pc + 3) ls st' h2 t x) : qF scr d mi pc ls (zi v :: .inl (some A) :: st') h t x := by
  obtain ⟨fs, hc, hl⟩ := g_obj hg hA hT
  obtain ⟨k1, k2, k3, k4⟩ := g_put (v := zi v) hg hA hT hi9 hq ⟨v, rfl, h1, h2⟩ hp
  subst hr
  exact x_put hf hc (by omega) hz (k _ k1 k2 k3 k4)
theorem y_ic {c : Int} (hf : zfetch mi pc = some (.iconst c, len, r)) (hc : (Int32.ofInt c).toInt = c) (k : ∀ y : Int32, y.toInt = c → qF scr d mi (pc + 1) ls (zi y :: st) h t x) : qF scr d mi pc ls st h t x := x_iconst hf (k _ hc)
theorem y_bi {c : Int} (hf : zfetch mi pc = some (.bipush c, len, r)) (hc : (Int8.ofInt c).toInt32.toInt = c) (k : ∀ y : Int32, y.toInt = c → qF scr d mi (pc + 2) ls (zi y :: st) h t x) : qF scr d mi pc ls st h t x := x_bipush hf (k _ hc)
theorem y_si {c : Int} (hf : zfetch mi pc = some (.sipush c, len, r)) (hc : (Int16.ofInt c).toInt32.toInt = c) (k : ∀ y : Int32, y.toInt = c → qF scr d mi (pc + 3) ls (zi y :: st) h t x) : qF scr d mi pc ls st h t x := by
  refine x_same hf (fun k q => by cases q) ?_ (k _ hc)
  show (match frcI (Int16.ofInt c).toInt32 (fun v => some (pc + 3, ls, zi v :: st)) with
    | some (a, b, c) => some (a, b, c, (none : zp))
    | none => none) = _
  rw [frcI_eq]
theorem y_bop {i : Instr} {f : Int32 → Int32 → Int32} (hf : zfetch mi pc = some (i, len, r)) (hn : anoH i = true) (hi : stA i r pc ls (zi b :: zi a :: st') = (match bop f (zi a) (zi b) with
    | some v => some (pc + 1, ls, v :: st')
    | none => none)) (k : qF scr d mi (pc + 1) ls (zi (f a b) :: st') h t x) : qF scr d mi pc ls (zi b :: zi a :: st') h t x := by
  have h9 : ∀ k, i = .new k → Nat.beq r.1 99 = false := fun k q => by
    subst q
    cases hn
  refine x_same hf h9 (stH_A' hn ?_) k
  rw [hi]
  show (match frcI (f a b) (fun z => some (zi z)) with
    | some v => some (pc + 1, ls, v :: st')
    | none => none) = _
  rw [frcI_eq]
theorem y_add (hf : zfetch mi pc = some (.iadd, len, r)) (h1 : -2147483648 ≤ a.toInt + b.toInt) (h2 : a.toInt + b.toInt ≤ 2147483647) (k : ∀ y : Int32, y.toInt = a.toInt + b.toInt → qF scr d mi (pc + 1) ls (zi y :: st') h t x) : qF scr d mi pc ls (zi b :: zi a :: st') h t x :=
  y_bop (f := fun x y => x + y) hf rfl rfl (k _ (by rw [Int32.toInt_add]; exact z32 h1 h2))
theorem y_sub (hf : zfetch mi pc = some (.isub, len, r)) (h1 : -2147483648 ≤ a.toInt - b.toInt) (h2 : a.toInt - b.toInt ≤ 2147483647) (k : ∀ y : Int32, y.toInt = a.toInt - b.toInt → qF scr d mi (pc + 1) ls (zi y :: st') h t x) : qF scr d mi pc ls (zi b :: zi a :: st') h t x :=
  y_bop (f := fun x y => x - y) hf rfl rfl (k _ (by rw [Int32.toInt_sub]; exact z32 h1 h2))
theorem y_mul {c : Int} (hf : zfetch mi pc = some (.imul, len, r)) (ha : a.toInt = c) (h1 : -2147483648 ≤ c * b.toInt) (h2 : c * b.toInt ≤ 2147483647) (k : ∀ y : Int32, y.toInt = c * b.toInt → qF scr d mi (pc + 1) ls (zi y :: st') h t x) : qF scr d mi pc ls (zi b :: zi a :: st') h t x :=
  y_bop (f := fun x y => x * y) hf rfl rfl (k _ (by rw [Int32.toInt_mul, ha]; exact z32 h1 h2))
theorem y_inc {j : Nat} {c : Int} {ls' : zv → List (Option zv)} (hf : zfetch mi pc = some (.iinc j c, len, r)) (hl : zld ls j zisI = some (zi a)) (hs : ∀ v, zsto ls j (zi v) = some (ls' (zi v))) (hc : (Int32.ofInt c).toInt = c) (h1 : -2147483648 ≤ a.toInt + c) (h2 : a.toInt + c ≤ 2147483647) (k : ∀ y : Int32, y.toInt = a.toInt + c → qF scr d mi (pc + 3) (ls' (zi y)) st h t x) : qF scr d mi pc ls st h t x := by
  refine x_same hf (fun k q => by cases q) (stH_A' rfl ?_) (k (a + Int32.ofInt c) (by rw [Int32.toInt_add, hc]; exact z32 h1 h2))
  show (match zld ls j zisI with
    | some a => match bop (fun x y => x + y) a (zi (Int32.ofInt c)) with
      | some v => match zsto ls j v with
        | some ls' => some (pc + 3, ls', st)
        | none => none
      | none => none
    | none => none) = _
  rw [hl]
  simp only
  have hb : bop (fun x y => x + y) (zi a) (zi (Int32.ofInt c)) = some (zi (a + Int32.ofInt c)) := by
    show frcI (a + Int32.ofInt c) (fun z => some (zi z)) = _
    rw [frcI_eq]
  rw [hb]
  simp only [hs]
theorem y_cT {c : ClassFile.Cond} {off : Int} {pc' : Nat} (hf : zfetch mi pc = some (.if_icmp c off, len, r)) (hc : acmp c a.toInt b.toInt = true) (ht : ztg pc off = some pc') (k : qF scr d mi pc' ls st' h t x) : qF scr d mi pc ls (zi b :: zi a :: st') h t x := by
  refine x_same hf (fun k q => by cases q) (stH_A' rfl ?_) k
  show zbr (zcond c (zi a) (zi b)) pc off ls st' = _
  rw [zcond_ex, hc]
  show (match ztg pc off with
    | some t => some (t, ls, st')
    | none => none) = _
  rw [ht]
theorem y_cF {c : ClassFile.Cond} {off : Int} (hf : zfetch mi pc = some (.if_icmp c off, len, r)) (hc : acmp c a.toInt b.toInt = false) (k : qF scr d mi (pc + 3) ls st' h t x) : qF scr d mi pc ls (zi b :: zi a :: st') h t x := by
  refine x_same hf (fun k q => by cases q) (stH_A' rfl ?_) k
  show zbr (zcond c (zi a) (zi b)) pc off ls st' = _
  rw [zcond_ex, hc]
  rfl
theorem y_iT {c : ClassFile.Cond} {off : Int} {pc' : Nat} (hf : zfetch mi pc = some (.ifCond c off, len, r)) (hc : acmp c a.toInt 0 = true) (ht : ztg pc off = some pc') (k : qF scr d mi pc' ls st' h t x) : qF scr d mi pc ls (zi a :: st') h t x := by
  refine x_same hf (fun k q => by cases q) (stH_A' rfl ?_) k
  show zbr (zcond c (zi a) (zi 0)) pc off ls st' = _
  rw [zcond_ex]
  have e : acmp c a.toInt (0 : Int32).toInt = true := hc
  rw [e]
  show (match ztg pc off with
    | some t => some (t, ls, st')
    | none => none) = _
  rw [ht]
theorem y_iF {c : ClassFile.Cond} {off : Int} (hf : zfetch mi pc = some (.ifCond c off, len, r)) (hc : acmp c a.toInt 0 = false) (k : qF scr d mi (pc + 3) ls st' h t x) : qF scr d mi pc ls (zi a :: st') h t x := by
  refine x_same hf (fun k q => by cases q) (stH_A' rfl ?_) k
  show zbr (zcond c (zi a) (zi 0)) pc off ls st' = _
  rw [zcond_ex]
  have e : acmp c a.toInt (0 : Int32).toInt = false := hc
  rw [e]
  rfl
theorem y_goto {off : Int} {pc' : Nat} (hf : zfetch mi pc = some (.goto off, len, r)) (ht : ztg pc off = some pc') (k : qF scr d mi pc' ls st h t x) : qF scr d mi pc ls st h t x := by
  refine x_same hf (fun k q => by cases q) (stH_A' rfl ?_) k
  show (match ztg pc off with
    | some t => some (t, ls, st)
    | none => none) = _
  rw [ht]
end Y
theorem acmpT {c : ClassFile.Cond} {a b : Int} (hp : match c with
    | .eq => a = b
    | .ne => a ≠ b
    | .lt => a < b
    | .ge => b ≤ a
    | .gt => b < a
    | .le => a ≤ b) : acmp c a b = true := by
  cases c <;> simp only [acmp, decide_eq_true_eq, Bool.not_eq_true', decide_eq_false_iff_not] at hp ⊢ <;> omega
theorem acmpF {c : ClassFile.Cond} {a b : Int} (hp : match c with
    | .eq => a ≠ b
    | .ne => a = b
    | .lt => b ≤ a
    | .ge => a < b
    | .gt => a ≤ b
    | .le => b < a) : acmp c a b = false := by
  cases c <;> simp only [acmp, decide_eq_true_eq, Bool.not_eq_false', decide_eq_false_iff_not] at hp ⊢ <;> omega
