/-! an instruction, for many states at once: it is so -/
def acmp (c : ClassFile.Cond) (x z : Int) : Bool := match c with
  | .eq => decide (x = z)
  | .ne => !decide (x = z)
  | .lt => decide (x < z)
  | .ge => !decide (x < z)
  | .gt => decide (z < x)
  | .le => !decide (z < x)
theorem acmp_neg (c : ClassFile.Cond) (x z : Int) : acmp (aneg c) x z = !acmp c x z := by
  cases c <;> simp [acmp, aneg]
theorem zltb_ex (x z : Int32) : zltb (x, none) (z, none) = some (decide (x.toInt < z.toInt)) := by
  unfold zltb zhi
  simp only
  by_cases hh : x.toInt < z.toInt
  · rw [decide_eq_true (Int32.lt_iff_toInt_lt.mpr hh), decide_eq_true hh]
    rfl
  · have h1 : ¬ x < z := fun q => hh (Int32.lt_iff_toInt_lt.mp q)
    have h2 : z ≤ x := Int32.le_iff_toInt_le.mpr (by omega)
    rw [decide_eq_false h1, decide_eq_true h2, decide_eq_false hh]
    rfl
theorem zeqb_ex (x z : Int32) : zeqb (x, none) (z, none) = some (decide (x.toInt = z.toInt)) := by
  show some (decide (x = z)) = _
  congr 1
  by_cases hh : x = z
  · rw [decide_eq_true hh, decide_eq_true (by rw [hh])]
  · rw [decide_eq_false hh, decide_eq_false (fun q => hh (Int32.toInt_inj.mp q))]
theorem zcond_ex (c : ClassFile.Cond) (x z : Int32) : zcond c (zi x) (zi z) = some (acmp c x.toInt z.toInt) := by
  show zcmp c (x, none) (z, none) = _
  cases c
  case eq => exact zeqb_ex x z
  case ne => show (zeqb (x, none) (z, none)).map (fun t => !t) = _; rw [zeqb_ex]; rfl
  case lt => exact zltb_ex x z
  case ge => show (zltb (x, none) (z, none)).map (fun t => !t) = _; rw [zltb_ex]; rfl
  case gt => exact zltb_ex z x
  case le => show (zltb (z, none) (x, none)).map (fun t => !t) = _; rw [zltb_ex]; rfl
theorem zix_ex {x : Int32} {i n : Nat} (hx : x.toInt = (i : Int)) (hi : i < n) : zix (zi x) n = some i := by
  show (bif decide (x < 0) then none else frc x.toNatClampNeg (fun i => bif Nat.blt i n then some i else none)) = some i
  have h1 : ¬ x < 0 := fun q => by
    rw [Int32.lt_iff_toInt_lt] at q
    have : (0 : Int32).toInt = 0 := by decide
    omega
  have h2 : x.toNatClampNeg = i := by
    show x.toInt.toNat = i
    omega
  rw [decide_eq_false h1]
  simp only [cond_false, frc_eq]
  rw [h2, bltT.mpr hi]
  rfl
theorem ztab_hi : ztab.all (fun p => Nat.ble 3000000 p.1) = true := by decide +kernel
theorem zlk_no {q : Nat} (hq : q < 3000000) : zlk ztab q = none := by
  cases h : zlk ztab q with
  | none => rfl
  | some bs =>
    have h1 := List.all_eq_true.mp ztab_hi _ (zlk_mem h)
    have := Nat.le_of_ble_eq_true h1
    simp only at this
    omega
theorem asM_mk {ρ : List Int} {ν : List Nat} {a : av} {v : zv} {st : List av} {vs : List zv} (h1 : avM ρ ν a v) (h2 : asM ρ ν st vs) : asM ρ ν (a :: st) (v :: vs) := ⟨h1, h2⟩
section TR2
variable {J : zh → Prop} {τ0 : List Nat} {h0 : zh} {t0 : Nat} {ρ : List Int} {ν τ : List Nat} {h : zh} {t pc : Nat} {β : Type} {y : List β} {k : Nat → List (Option av) → List av → aS → Option (List β)} {ls : List (Option av)} {st : List av} {S : aS} {cs : List (Option zv)} {vs : List zv} {r : zr} {i : Instr}
theorem acnd_ok {c : ClassFile.Cond} {a b : Nat × Int} {ra rb : Int} {kk : aS → Option (List β)} (e : acnd c a b S kk = some y) (hM : aM J τ0 h0 t0 S ρ ν τ h t) (ha : ρ[a.1]? = some ra) (hb : ρ[b.1]? = some rb) (hc : acmp c (ra + a.2) (rb + b.2) = true) : ∃ S' : aS, kk S' = some y ∧ aM J τ0 h0 t0 S' ρ ν τ h t := by
  cases c
  case eq => exact arfE_ok e hM ha hb (of_decide_eq_true hc)
  case ne => exact arfN_ok e hM ha hb (by simpa [acmp] using hc)
  case lt => exact arfL_ok (d := 1) e hM ha hb (by have := of_decide_eq_true hc; omega)
  case ge =>
    have h9 : ¬ ra + a.2 < rb + b.2 := by simpa [acmp] using hc
    exact arfL_ok (d := 0) e hM hb ha (by omega)
  case gt => exact arfL_ok (d := 1) e hM hb ha (by have := of_decide_eq_true hc; omega)
  case le =>
    have h9 : ¬ rb + b.2 < ra + a.2 := by simpa [acmp] using hc
    exact arfL_ok (d := 0) e hM ha hb (by omega)
theorem ajmp_ok {off : Int} {st' : List av} {vs' : List zv} {S' : aS} {y' : List β} (e : ajmp pc off ls st' S' k = some y') (hy : ∀ w ∈ y', w ∈ y) (hn : anoH i = true) (he : stA i r pc cs vs = zbr (some true) pc off cs vs') (hM : aM J τ0 h0 t0 S' ρ ν τ h t) (hl : alM ρ ν ls cs) (hs : asM ρ ν st' vs') : aOk J τ0 h0 t0 ρ ν τ i r pc cs vs h t y k := by
  unfold ajmp at e
  cases ht : ztg pc off with
  | none => rw [ht] at e; cases e
  | some tg =>
    rw [ht] at e
    refine ⟨tg, ls, st', S', y', cs, vs', none, ρ, ν, e, hy, stH_A hn ?_, aup_refl _, aup_refl _, hM, hl, hs⟩
    rw [he]
    unfold zbr
    simp only [ht]
theorem abrn_ok {c : ClassFile.Cond} {a b : Nat × Int} {ra rb : Int} {off : Int} {st' : List av} {vs' : List zv} (e : abrn c a b pc off ls st' S k = some y) (hn : anoH i = true) (he : stA i r pc cs vs = zbr (some (acmp c (ra + a.2) (rb + b.2))) pc off cs vs') (hM : aM J τ0 h0 t0 S ρ ν τ h t) (ha : ρ[a.1]? = some ra) (hb : ρ[b.1]? = some rb) (hl : alM ρ ν ls cs) (hs : asM ρ ν st' vs') : aOk J τ0 h0 t0 ρ ν τ i r pc cs vs h t y k := by
  unfold abrn at e
  cases ht : ztg pc off with
  | none => rw [ht] at e; cases e
  | some tg =>
    rw [ht] at e
    simp only at e
    obtain ⟨y1, y2, e1, e2, s1, s2⟩ := acat_ok e
    cases hc : acmp c (ra + a.2) (rb + b.2) with
    | true =>
      obtain ⟨S', e3, hM'⟩ := acnd_ok e1 hM ha hb hc
      refine ⟨tg, ls, st', S', y1, cs, vs', none, ρ, ν, e3, s1, stH_A hn ?_, aup_refl _, aup_refl _, hM', hl, hs⟩
      rw [he, hc]
      unfold zbr
      simp only [ht]
    | false =>
      obtain ⟨S', e3, hM'⟩ := acnd_ok e2 hM ha hb (by rw [acmp_neg, hc]; rfl)
      refine ⟨pc + 3, ls, st', S', y2, cs, vs', none, ρ, ν, e3, s2, stH_A hn ?_, aup_refl _, aup_refl _, hM', hl, hs⟩
      rw [he, hc]
      rfl
theorem anm_lt {nm : List Nat} {n q : Nat} (hn : anam ν nm τ) (hh : hM τ h) (hq : anm ν n = some q) : q < 1000000 := by
  unfold anm at hq
  cases hb : Nat.blt n 1000 with
  | true =>
    rw [hb] at hq
    cases hq
    have := bltT.mp hb
    omega
  | false =>
    rw [hb] at hq
    simp only [cond_false] at hq
    have hj : n - 1000 < nm.length := by
      rw [← hn.1]
      exact (List.getElem?_eq_some_iff.mp hq).1
    obtain ⟨q', e1, e2⟩ := hn.2 _ _ (List.getElem?_eq_getElem hj)
    rw [hq] at e1
    cases e1
    have := (List.getElem?_eq_some_iff.mp e2).1
    have h1 := hh.1
    have h2 := hh.2.1
    omega
theorem acel_ok {a : av} {v : zv} {kk : Nat → Nat → qt → Option (List β)} (e : acel S a kk = some y) (hM : aM J τ0 h0 t0 S ρ ν τ h t) (hv : avM ρ ν a v) : ∃ (n T q : Nat) (tt : qt) (c : zc), a = .inr (.inl n) ∧ v = .inl (some q) ∧ anm ν n = some q ∧ anty S.2.1 n = some T ∧ atyp T = some tt ∧ kk n T tt = some y ∧ h[q]? = some c ∧ tyc τ T c ∧ q < 1000000 := by
  rcases a with w | n | k9
  · cases e
  · obtain ⟨q, hq, rfl⟩ := hv
    unfold acel at e
    simp only at e
    cases hT : anty S.2.1 n with
    | none => rw [hT] at e; cases e
    | some T =>
      rw [hT] at e
      simp only at e
      cases ht : atyp T with
      | none => rw [ht] at e; cases e
      | some tt =>
        rw [ht] at e
        have hτ := anty_ok hM.2.1 hM.2.2.2.2.2.1 hT ht hq
        obtain ⟨-, c, hc, hty⟩ := hM.2.2.2.2.2.1.2.2.2 q T hτ
        exact ⟨n, T, q, tt, c, rfl, rfl, hq, hT, ht, e, hc, hty, anm_lt hM.2.1 hM.2.2.2.2.2.1 hq⟩
  · cases e
theorem tyc_arr {T tg L : Nat} {rs : List (Nat × qs)} {c : zc} (ht : atyp T = some (.inl (tg, L, rs))) (hc : tyc τ T c) : ∃ fs : List zv, c = .inl (tg, fs) ∧ fs.length = L := by
  unfold tyc at hc
  rw [ht] at hc
  rcases c with ⟨tg', fs⟩ | ⟨ci', fs⟩
  · obtain ⟨rfl, e2, -⟩ := hc
    exact ⟨fs, rfl, e2⟩
  · exact hc.elim
theorem tyc_obj {T ci : Nat} {ss : List qs} {c : zc} (ht : atyp T = some (.inr (ci, ss))) (hc : tyc τ T c) : ∃ fs : List zv, c = .inr (ci, fs) ∧ fs.length = ss.length := by
  unfold tyc at hc
  rw [ht] at hc
  rcases c with ⟨tg', fs⟩ | ⟨ci', fs⟩
  · exact hc.elim
  · obtain ⟨rfl, e2, -⟩ := hc
    exact ⟨fs, rfl, e2⟩
theorem hsl_arr {q j tg : Nat} {fs : List zv} (hc : h[q]? = some (.inl (tg, fs))) : hsl h q j = fs[j]? := by
  unfold hsl
  rw [hc]
theorem hsl_obj {q j ci : Nat} {fs : List zv} (hc : h[q]? = some (.inr (ci, fs))) : hsl h q j = fs[j]? := by
  unfold hsl
  rw [hc]
theorem zarr_at {q tg : Nat} {fs : List zv} (hc : h[q]? = some (.inl (tg, fs))) : zarr h (.inl (some q)) = some (q, tg, fs) := by
  show (match nth h q with
    | some (.inl (t, fs)) => some (q, t, fs)
    | _ => none) = _
  rw [nth_eq, hc]
/-- an element is read -/
theorem aaL_ok {f : Nat → Bool} (e : aaL f pc ls st S k = some y) (he : ∀ (ix : zv) (q : Nat) (vs' : List zv), q < 1000000 → vs = ix :: .inl (some q) :: vs' → stH none i r pc cs vs h = zald f pc cs vs h) (hM : aM J τ0 h0 t0 S ρ ν τ h t) (hl : alM ρ ν ls cs) (hs : asM ρ ν st vs) : aOk J τ0 h0 t0 ρ ν τ i r pc cs vs h t y k := by
  unfold aaL at e
  split at e
  · rename_i ix a st'
    obtain ⟨v1, vs1, rfl, h1, h2⟩ := asM_cons hs
    obtain ⟨v2, vs2, rfl, h3, h4⟩ := asM_cons h2
    obtain ⟨x, rr, rfl, hx, hxx⟩ := h1
    obtain ⟨n, T, q, tt, c, rfl, rfl, hq, hT, ht, e, hc, hty, hlt⟩ := acel_ok e hM h3
    rcases tt with ⟨tg, L, rs⟩ | ⟨ci, ss⟩
    · simp only at e
      cases hf : f tg with
      | false => rw [hf] at e; cases e
      | true =>
        rw [hf] at e
        simp only [cond_true] at e
        obtain ⟨fs, rfl, hlen⟩ := tyc_arr ht hty
        obtain ⟨j, v, a', S', y', ρ', ν', b1, b2, b3, b4, b5, b6, b7, b8, b9⟩ := ald_ok e hM hq hT ht hx
        rw [hsl_arr hc] at b3
        refine ⟨_, _, _, S', y', cs, v :: vs2, none, ρ', ν', b4, b5, ?_, b6, b7, b8, alM_up b6 b7 hl, b9, asM_up b6 b7 h4⟩
        rw [he _ q vs2 hlt rfl]
        have hj : j < fs.length := (List.getElem?_eq_some_iff.mp b3).1
        show (match zarr h (.inl (some q)) with
          | some (_, tg, fs) => bif f tg then (match zix (zi x) fs.length with
            | some i => match nth fs i with
              | some v => some (pc + 1, cs, v :: vs2, none)
              | none => none
            | none => none) else none
          | none => none) = _
        rw [zarr_at hc]
        simp only [hf, cond_true]
        rw [zix_ex (show x.toInt = (j : Int) by omega) hj]
        simp only [nth_eq, b3]
    · cases e
  · cases e
theorem afit_ok {sy : aI} {fk : Nat} {a : av} {v : zv} (hs : asy ρ sy) (e : afit sy fk a = true) (hv : avM ρ ν a v) : zfit fk v = true := by
  unfold afit at e
  split at e
  · obtain ⟨x, rr, rfl, -⟩ := hv
    rfl
  · rename_i w
    obtain ⟨x, rr, rfl, hx, hxx⟩ := hv
    cases hp : aiv sy w with
    | none => rw [hp] at e; cases e
    | some p =>
      rw [hp] at e
      simp only [Bool.and_eq_true, ile_iff] at e
      have := aiv_ok (s := w.1) (c := w.2) hs hp hx
      show (decide (x = 0) || decide (x = 1)) = true
      have h01 : x.toInt = 0 ∨ x.toInt = 1 := by omega
      rcases h01 with h9 | h9
      · rw [decide_eq_true (show x = 0 from Int32.toInt_inj.mp (by rw [h9]; rfl))]
        rfl
      · rw [decide_eq_true (show x = 1 from Int32.toInt_inj.mp (by rw [h9]; rfl)), Bool.or_true]
  · obtain ⟨o, rfl⟩ := aisA_ok e hv
    rfl
  · obtain ⟨-, w, rfl⟩ := aisL_ok e hv
    rfl
  · cases e
/-- an element is put -/
theorem aaS_ok {g fk : Nat} (hJ : aJok J) (e : aaS g fk pc ls st S k = some y) (he : ∀ (v ix : zv) (q : Nat) (vs' : List zv), vs = v :: ix :: .inl (some q) :: vs' → stH none i r pc cs vs h = zast (fun t => Nat.beq t g) (fun _ v => zfit fk v) pc cs vs h) (hM : aM J τ0 h0 t0 S ρ ν τ h t) (hl : alM ρ ν ls cs) (hs : asM ρ ν st vs) : aOk J τ0 h0 t0 ρ ν τ i r pc cs vs h t y k := by
  unfold aaS at e
  split at e
  · rename_i a9 ix a st'
    obtain ⟨v1, vs1, rfl, h1, h2⟩ := asM_cons hs
    obtain ⟨v2, vs2, rfl, h3, h4⟩ := asM_cons h2
    obtain ⟨v3, vs3, rfl, h5, h6⟩ := asM_cons h4
    obtain ⟨x, rr, rfl, hx, hxx⟩ := h3
    obtain ⟨n, T, q, tt, c, rfl, rfl, hq, hT, ht, e, hc, hty, hlt⟩ := acel_ok e hM h5
    rcases tt with ⟨tg, L, rs⟩ | ⟨ci, ss⟩
    · simp only at e
      cases hf : Nat.beq tg g && afit S.1 fk a9 with
      | false => rw [hf] at e; cases e
      | true =>
        rw [hf] at e
        simp only [cond_true] at e
        simp only [Bool.and_eq_true] at hf
        obtain ⟨fs, rfl, hlen⟩ := tyc_arr ht hty
        obtain ⟨j, w, S', b1, b2, b3, b4, b5⟩ := ast_ok hJ e hM hq hT ht hx h1
        rw [hsl_arr hc] at b3
        refine ⟨_, _, _, S', y, cs, vs3, some (.inl (q, j, v1)), ρ, ν, b4, fun _ hw => hw, ?_, aup_refl _, aup_refl _, b5, hl, h6⟩
        rw [he _ _ q vs3 rfl]
        have hj : j < fs.length := (List.getElem?_eq_some_iff.mp b3).1
        show (match zarr h (.inl (some q)) with
          | some (q, tg, fs) => bif Nat.beq tg g && zfit fk v1 then (match zix (zi x) fs.length with
            | some i => some (pc + 1, cs, vs3, (some (.inl (q, i, v1)) : zp))
            | none => none) else none
          | none => none) = _
        rw [zarr_at hc]
        simp only [hf.1, afit_ok hM.1 hf.2 h1, Bool.and_self, cond_true]
        rw [zix_ex (show x.toInt = (j : Int) by omega) hj]
    · cases e
  · cases e
theorem agetf_ok {f9 : Nat} (e : agetf r pc ls st S k = some y) (hM : aM J τ0 h0 t0 S ρ ν τ h t) (hl : alM ρ ν ls cs) (hs : asM ρ ν st vs) : aOk J τ0 h0 t0 ρ ν τ (.getfield f9) r pc cs vs h t y k := by
  unfold agetf at e
  split at e
  · rename_i q9 st'
    obtain ⟨v1, vs1, rfl, h1, h2⟩ := asM_cons hs
    cases hb : Nat.beq r.1 50 && (Nat.ble 10 q9 && Nat.blt q9 40) with
    | false => rw [hb] at e; cases e
    | true =>
      rw [hb] at e
      simp only [cond_true] at e
      simp only [Bool.and_eq_true] at hb
      have l1 := Nat.le_of_ble_eq_true hb.2.1
      have l2 := bltT.mp hb.2.2
      have hv : v1 = .inl (some (2000000 + (q9 - 10))) := by
        rcases h1 with ⟨h9, -⟩ | ⟨h9, -⟩ | ⟨h9, -⟩ | ⟨-, -, h9⟩ | ⟨h9, -⟩
        · omega
        · omega
        · omega
        · exact h9
        · omega
      subst hv
      have hH : stH none (.getfield f9) r pc cs (.inl (some (2000000 + (q9 - 10))) :: vs1) h = some (pc + 3, cs, (bif Nat.beq r.2.1 0 then .inl (some (2000000 + (q9 - 10) + 1000000)) else zi 0) :: vs1, none) := by
        show (bif Nat.beq r.1 50 then (bif Nat.ble 2000000 (2000000 + (q9 - 10)) && Nat.blt (2000000 + (q9 - 10)) 3000000 then some (pc + 3, cs, (bif Nat.beq r.2.1 0 then .inl (some (2000000 + (q9 - 10) + 1000000)) else zi 0) :: vs1, none) else none) else _) = _
        rw [hb.1, Nat.ble_eq_true_of_le (Nat.le_add_right _ _), bltT.mpr (show 2000000 + (q9 - 10) < 3000000 by omega)]
        rfl
      cases h0 : Nat.beq r.2.1 0 with
      | true =>
        rw [h0] at e hH
        simp only [cond_true, frc_eq] at e hH
        refine aOk_sameH e hH hM hl ⟨?_, h2⟩
        refine Or.inr (Or.inr (Or.inr (Or.inr ⟨by omega, by omega, ?_⟩)))
        congr 2
        omega
      | false =>
        rw [h0] at e hH
        simp only [cond_false] at e hH
        exact aOk_sameH (acst_ok e) hH hM hl ⟨avM_cst hM.1.1, h2⟩
  · rename_i a st' hno
    obtain ⟨v1, vs1, rfl, h1, h2⟩ := asM_cons hs
    cases hb : Nat.beq r.1 50 with
    | true => rw [hb] at e; cases e
    | false =>
      rw [hb] at e
      simp only [cond_false] at e
      obtain ⟨n, T, q, tt, c, rfl, rfl, hq, hT, ht, e, hc, hty, hlt⟩ := acel_ok e hM h1
      rcases tt with ⟨tg, L, rs⟩ | ⟨ci, ss⟩
      · cases e
      · simp only at e
        cases hf : Nat.beq ci r.1 with
        | false => rw [hf] at e; cases e
        | true =>
          rw [hf] at e
          simp only [cond_true] at e
          obtain ⟨fs, rfl, hlen⟩ := tyc_obj ht hty
          obtain ⟨j, v, a', S', y', ρ', ν', b1, b2, b3, b4, b5, b6, b7, b8, b9⟩ := ald_ok e hM hq hT ht (r := 0) hM.1.1
          rw [hsl_obj hc] at b3
          refine ⟨_, _, _, S', y', cs, v :: vs1, none, ρ', ν', b4, b5, ?_, b6, b7, b8, alM_up b6 b7 hl, b9, asM_up b6 b7 h2⟩
          have hj : j = r.2.1 := by
            simp only at b1
            have : (0 : Int) + Int.ofNat r.2.1 = (j : Int) := b1
            have h9 : Int.ofNat r.2.1 = (r.2.1 : Int) := rfl
            omega
          subst hj
          show (bif Nat.beq r.1 50 then _ else (match nth h q with
            | some (.inr (c, fs)) => bif Nat.beq c r.1 then (match nth fs r.2.1 with
              | some v => some (pc + 3, cs, v :: vs1, none)
              | none => none) else none
            | _ => none)) = _
          rw [hb]
          simp only [cond_false, nth_eq, hc, hf, cond_true, b3]
  · cases e
theorem aputf_ok {f9 : Nat} (hJ : aJok J) (e : aputf r pc ls st S k = some y) (hM : aM J τ0 h0 t0 S ρ ν τ h t) (hl : alM ρ ν ls cs) (hs : asM ρ ν st vs) : aOk J τ0 h0 t0 ρ ν τ (.putfield f9) r pc cs vs h t y k := by
  unfold aputf at e
  split at e
  · rename_i a9 a st'
    obtain ⟨v1, vs1, rfl, h1, h2⟩ := asM_cons hs
    obtain ⟨v2, vs2, rfl, h3, h4⟩ := asM_cons h2
    obtain ⟨n, T, q, tt, c, rfl, rfl, hq, hT, ht, e, hc, hty, hlt⟩ := acel_ok e hM h3
    rcases tt with ⟨tg, L, rs⟩ | ⟨ci, ss⟩
    · cases e
    · simp only at e
      cases hf : Nat.beq ci r.1 && afit S.1 r.2.2.1 a9 with
      | false => rw [hf] at e; cases e
      | true =>
        rw [hf] at e
        simp only [cond_true] at e
        simp only [Bool.and_eq_true] at hf
        obtain ⟨fs, rfl, hlen⟩ := tyc_obj ht hty
        obtain ⟨j, w, S', b1, b2, b3, b4, b5⟩ := ast_ok hJ e hM hq hT ht (r := 0) hM.1.1 h1
        rw [hsl_obj hc] at b3
        have hj : j = r.2.1 := by
          have : (0 : Int) + Int.ofNat r.2.1 = (j : Int) := b1
          have h9 : Int.ofNat r.2.1 = (r.2.1 : Int) := rfl
          omega
        subst hj
        have hjl := (List.getElem?_eq_some_iff.mp b3).1
        refine ⟨_, _, _, S', y, cs, vs2, some (.inl (q, r.2.1, v1)), ρ, ν, b4, fun _ hw => hw, ?_, aup_refl _, aup_refl _, b5, hl, h4⟩
        show (match nth h q with
          | some (.inr (c, fs)) => bif Nat.beq c r.1 && (Nat.blt r.2.1 fs.length && zfit r.2.2.1 v1) then some (pc + 3, cs, vs2, (some (.inl (q, r.2.1, v1)) : zp)) else none
          | _ => none) = _
        simp only [nth_eq, hc, hf.1, bltT.mpr hjl, afit_ok hM.1 hf.2 h1, Bool.and_self, cond_true]
  · cases e
theorem abyt_ok (e : abyt pc ls st S k = some y) (hM : aM J τ0 h0 t0 S ρ ν τ h t) (hl : alM ρ ν ls cs) (hs : asM ρ ν st vs) : aOk J τ0 h0 t0 ρ ν τ .baload r pc cs vs h t y k := by
  unfold abyt at e
  split at e
  · rename_i ix q9 st'
    obtain ⟨v1, vs1, rfl, h1, h2⟩ := asM_cons hs
    obtain ⟨v2, vs2, rfl, h3, h4⟩ := asM_cons h2
    obtain ⟨x, rr, rfl, hx, hxx⟩ := h1
    cases hb : Nat.ble 40 q9 && Nat.blt q9 70 with
    | false => rw [hb] at e; cases e
    | true =>
      rw [hb] at e
      simp only [cond_true] at e
      simp only [Bool.and_eq_true] at hb
      have l1 := Nat.le_of_ble_eq_true hb.1
      have l2 := bltT.mp hb.2
      have hv : v2 = .inl (some (3000000 + (q9 - 40))) := by
        rcases h3 with ⟨h9, -⟩ | ⟨h9, -⟩ | ⟨h9, -⟩ | ⟨-, h9, -⟩ | ⟨-, -, h9⟩
        · omega
        · omega
        · omega
        · omega
        · exact h9
      subst hv
      cases hk : zlk ztab (3000000 + (q9 - 40)) with
      | none => rw [hk] at e; cases e
      | some bs =>
        rw [hk] at e
        simp only at e
        obtain ⟨s, c, rs, lo, hi, j, e, hs1, hsc, hi9, m1, m2⟩ := aixK_ok e hM.1 hM.2.2.2.1 hx
        cases hb2 : Nat.beq lo hi && Nat.blt lo bs.length with
        | false => rw [hb2] at e; cases e
        | true =>
          rw [hb2] at e
          simp only [cond_true, nth_eq] at e
          simp only [Bool.and_eq_true] at hb2
          have e1 := Nat.eq_of_beq_eq_true hb2.1
          have e2 : j = lo := by omega
          subst e2
          have hjl := bltT.mp hb2.2
          rw [List.getElem?_eq_getElem hjl] at e
          simp only at e
          refine aOk_sameH (acst_ok e) ?_ hM hl (asM_mk (avM_cst hM.1.1) h4)
          show (match zlk ztab (3000000 + (q9 - 40)) with
            | some bs => match zix (zi x) bs.length with
              | some i => match nth bs i with
                | some b => frcI b (fun b => some (pc + 1, cs, zi b :: vs2, none))
                | none => none
              | none => none
            | none => zald (fun t => Nat.beq t 1) pc cs (zi x :: .inl (some (3000000 + (q9 - 40))) :: vs2) h) = _
          rw [hk]
          simp only
          rw [zix_ex (show x.toInt = (j : Int) by omega) hjl]
          simp only [nth_eq, List.getElem?_eq_getElem hjl, frcI_eq]
  · refine aaL_ok e (fun ix q vs' hq9 hvs => ?_) hM hl hs
    subst hvs
    show (match zlk ztab q with
      | some bs => match zix ix bs.length with
        | some i => match nth bs i with
          | some b => frcI b (fun b => some (pc + 1, cs, zi b :: vs', none))
          | none => none
        | none => none
      | none => zald (fun t => Nat.beq t 1) pc cs (ix :: .inl (some q) :: vs') h) = _
    rw [zlk_no (by omega)]
theorem alen_ok (e : alen pc ls st S k = some y) (hM : aM J τ0 h0 t0 S ρ ν τ h t) (hl : alM ρ ν ls cs) (hs : asM ρ ν st vs) : aOk J τ0 h0 t0 ρ ν τ .arraylength r pc cs vs h t y k := by
  unfold alen at e
  split at e
  · rename_i q9 st'
    obtain ⟨v2, vs2, rfl, h3, h4⟩ := asM_cons hs
    cases hb : Nat.ble 40 q9 && Nat.blt q9 70 with
    | false => rw [hb] at e; cases e
    | true =>
      rw [hb] at e
      simp only [cond_true] at e
      simp only [Bool.and_eq_true] at hb
      have l1 := Nat.le_of_ble_eq_true hb.1
      have l2 := bltT.mp hb.2
      have hv : v2 = .inl (some (3000000 + (q9 - 40))) := by
        rcases h3 with ⟨h9, -⟩ | ⟨h9, -⟩ | ⟨h9, -⟩ | ⟨-, h9, -⟩ | ⟨-, -, h9⟩
        · omega
        · omega
        · omega
        · omega
        · exact h9
      subst hv
      cases hk : zlk ztab (3000000 + (q9 - 40)) with
      | none => rw [hk] at e; cases e
      | some bs =>
        rw [hk] at e
        simp only at e
        refine aOk_sameH (acst_ok e) ?_ hM hl (asM_mk (avM_cst hM.1.1) h4)
        have hne : Nat.beq (3000000 + (q9 - 40)) 1000000 = false := by
          cases h9 : Nat.beq (3000000 + (q9 - 40)) 1000000 with
          | false => rfl
          | true => have := Nat.eq_of_beq_eq_true h9; omega
        show (bif Nat.beq (3000000 + (q9 - 40)) 1000000 then _ else (match zlk ztab (3000000 + (q9 - 40)) with
          | some bs => frcI (Int32.ofNat bs.length) (fun x => some (pc + 1, cs, zi x :: vs2, none))
          | none => _)) = _
        rw [hne, hk]
        simp only [cond_false, frcI_eq]
  · rename_i a st' hno
    obtain ⟨v2, vs2, rfl, h3, h4⟩ := asM_cons hs
    obtain ⟨n, T, q, tt, c, rfl, rfl, hq, hT, ht, e, hc, hty, hlt⟩ := acel_ok e hM h3
    rcases tt with ⟨tg, L, rs⟩ | ⟨ci, ss⟩
    · simp only at e
      obtain ⟨fs, rfl, hlen⟩ := tyc_arr ht hty
      refine aOk_sameH (acst_ok e) ?_ hM hl (asM_mk (avM_cst hM.1.1) h4)
      have hne : Nat.beq q 1000000 = false := by
        cases h9 : Nat.beq q 1000000 with
        | false => rfl
        | true => have := Nat.eq_of_beq_eq_true h9; omega
      show (bif Nat.beq q 1000000 then _ else (match zlk ztab q with
        | some bs => frcI (Int32.ofNat bs.length) (fun x => some (pc + 1, cs, zi x :: vs2, none))
        | none => match zarr h (.inl (some q)) with
          | some (_, _, fs) => frcI (Int32.ofNat fs.length) (fun x => some (pc + 1, cs, zi x :: vs2, none))
          | none => none)) = _
      rw [hne, zlk_no (by omega), zarr_at hc]
      simp only [cond_false, frcI_eq, hlen]
    · cases e
  · cases e
theorem ai2c_ok (e : ai2c pc ls st S k = some y) (hM : aM J τ0 h0 t0 S ρ ν τ h t) (hl : alM ρ ν ls cs) (hs : asM ρ ν st vs) : aOk J τ0 h0 t0 ρ ν τ .i2c r pc cs vs h t y k := by
  unfold ai2c at e
  split at e
  · rename_i w st'
    obtain ⟨v1, vs1, rfl, h1, h2⟩ := asM_cons hs
    obtain ⟨x, rr, rfl, hx, hxx⟩ := h1
    cases hp : aiv S.1 w with
    | none => rw [hp] at e; cases e
    | some p =>
      rw [hp] at e
      simp only at e
      cases hq : ieq p.1 p.2 with
      | false => rw [hq] at e; cases e
      | true =>
        rw [hq] at e
        simp only [cond_true] at e
        have h9 := ieq_iff.mp hq
        have hin := qin_iv hM.1 hp hx hxx
        have hxe : x = Int32.ofInt p.1 := qin_of (decide_eq_true h9) hin
        refine aOk_same (acst_ok e) rfl ?_ hM hl (asM_mk (avM_cst hM.1.1) h2)
        show zun zi2c pc cs (zi x :: vs1) = _
        unfold zun
        simp only
        show (match frcI (x.toUInt32 % 65536).toInt32 (fun z => some (zi z)) with
          | some v => some (pc + 1, cs, v :: vs1)
          | none => none) = _
        rw [frcI_eq, hxe]
  · cases e
theorem anul_ok {b : Bool} {off : Int} (hn : anoH i = true) (e : anul b pc off ls st S k = some y) (he0 : ∀ vs' : List zv, vs = .inl none :: vs' → stA i r pc cs vs = zbr (some b) pc off cs vs') (he1 : ∀ (q : Nat) (vs' : List zv), q < 1000000 → vs = .inl (some q) :: vs' → stA i r pc cs vs = zbr (some (!b)) pc off cs vs') (hM : aM J τ0 h0 t0 S ρ ν τ h t) (hl : alM ρ ν ls cs) (hs : asM ρ ν st vs) : aOk J τ0 h0 t0 ρ ν τ i r pc cs vs h t y k := by
  unfold anul at e
  split at e
  · rename_i st'
    obtain ⟨v1, vs1, rfl, h1, h2⟩ := asM_cons hs
    have hv : v1 = .inl none := by
      rcases h1 with ⟨-, h9⟩ | ⟨h9, -⟩ | ⟨h9, -⟩ | ⟨h9, -⟩ | ⟨h9, -⟩
      · exact h9
      · cases h9
      · cases h9
      · omega
      · omega
    subst hv
    cases b with
    | true => exact ajmp_ok e (fun _ hw => hw) hn (he0 vs1 rfl) hM hl h2
    | false =>
      refine aOk_same e hn ?_ hM hl h2
      rw [he0 vs1 rfl]
      rfl
  · rename_i n st'
    obtain ⟨v1, vs1, rfl, h1, h2⟩ := asM_cons hs
    obtain ⟨q, hq, rfl⟩ := h1
    have hlt := anm_lt hM.2.1 hM.2.2.2.2.2.1 hq
    cases b with
    | true =>
      refine aOk_same e hn ?_ hM hl h2
      rw [he1 q vs1 hlt rfl]
      rfl
    | false => exact ajmp_ok e (fun _ hw => hw) hn (he1 q vs1 hlt rfl) hM hl h2
  · cases e
theorem atsw_ok {v : Nat × Int} {rv : Int} {st' : List av} {vs' : List zv} (hn : anoH i = true) (hM : aM J τ0 h0 t0 S ρ ν τ h t) (hl : alM ρ ν ls cs) (hs : asM ρ ν st' vs') (hv : ρ[v.1]? = some rv) : ∀ (offs : List Int) (lo : Int) (y' : List β), atsw v pc ls st' S k offs lo = some y' → (∀ w ∈ y', w ∈ y) → lo ≤ rv + v.2 → rv + v.2 < lo + offs.length → (∀ off : Int, offs[(rv + v.2 - lo).toNat]? = some off → stA i r pc cs vs = zbr (some true) pc off cs vs') → aOk J τ0 h0 t0 ρ ν τ i r pc cs vs h t y k
  | [], lo, y', _, _, h1, h2, _ => by
    simp at h2
    omega
  | o :: offs, lo, y', e, hy, h1, h2, he => by
    have e : frcZ lo (fun lo => acat (arfE v (0, lo) S (fun S' => ajmp pc o ls st' S' k)) (atsw v pc ls st' S k offs (lo + 1))) = some y' := e
    rw [frcZ_eq] at e
    obtain ⟨y1, y2, e1, e2, s1, s2⟩ := acat_ok e
    by_cases hq : rv + v.2 = lo
    · obtain ⟨S', e3, hM'⟩ := arfE_ok (b := (0, lo)) e1 hM hv hM.1.1 (by simp only; omega)
      refine ajmp_ok e3 (fun w hw => hy w (s1 w hw)) hn (he o ?_) hM' hl hs
      rw [show (rv + v.2 - lo).toNat = 0 by omega]
      rfl
    · refine atsw_ok hn hM hl hs hv offs (lo + 1) y2 e2 (fun w hw => hy w (s2 w hw)) (by omega) (by simp at h2; omega) (fun off ho => he off ?_)
      rw [show (rv + v.2 - lo).toNat = (rv + v.2 - (lo + 1)).toNat + 1 by omega]
      exact ho
theorem alsw_ok {v : Nat × Int} {rv dflt : Int} {st' : List av} {vs' : List zv} (hn : anoH i = true) (hl : alM ρ ν ls cs) (hs : asM ρ ν st' vs') (hv : ρ[v.1]? = some rv) : ∀ (ps : List (Int × Int)) (S : aS) (y' : List β), aM J τ0 h0 t0 S ρ ν τ h t → alsw v pc dflt ls st' k ps S = some y' → (∀ w ∈ y', w ∈ y) → stA i r pc cs vs = zbr (some true) pc (Op.lookupswitch.offset ps dflt (rv + v.2)) cs vs' → aOk J τ0 h0 t0 ρ ν τ i r pc cs vs h t y k
  | [], S, y', hM, e, hy, he => ajmp_ok e hy hn he hM hl hs
  | (a, o) :: ps, S, y', hM, e, hy, he => by
    have e : acat (arfE v (0, a) S (fun S' => ajmp pc o ls st' S' k)) (arfN v (0, a) S (fun S' => alsw v pc dflt ls st' k ps S')) = some y' := e
    obtain ⟨y1, y2, e1, e2, s1, s2⟩ := acat_ok e
    rw [Op.lookupswitch.offset_cons] at he
    by_cases hq : rv + v.2 = a
    · obtain ⟨S', e3, hM'⟩ := arfE_ok (b := (0, a)) e1 hM hv hM.1.1 (by simp only; omega)
      rw [if_pos hq.symm] at he
      exact ajmp_ok e3 (fun w hw => hy w (s1 w hw)) hn he hM' hl hs
    · obtain ⟨S', e3, hM'⟩ := arfN_ok (b := (0, a)) e2 hM hv hM.1.1 (by simp only; omega)
      rw [if_neg (fun q => hq q.symm)] at he
      exact alsw_ok hn hl hs hv ps S' y2 hM' e3 (fun w hw => hy w (s2 w hw)) he
end TR2
